set_option maxRecDepth 100000 in
set_option maxHeartbeats 0 in
theorem n_Gr_leastPlace_32 {ρ : Type} (e : zRes → Option ρ) {krA : Int → zH → Option ρ} {krZ : Int → zH → Option zRes} (hk : ∀ v h, (krZ v h).bind e = krA v h) {r4A : Int → Int → Int → zH → Option ρ} {r4Z : Int → Int → Int → zH → Option zRes} (h4 : ∀ (x0 x1 x2 : Int) (h : zH), (r4Z x0 x1 x2 h).bind e = r4A x0 x1 x2 h) (a0 a1 a2 : Int) (h : zH) : (Gr_leastPlace_32 krZ r4Z a0 a1 a2 h).bind e = Gr_leastPlace_32 krA r4A a0 a1 a2 h := by
  refine Eq.trans (congrArg (fun z => Option.bind z e) (qe_Gr_leastPlace_32 krZ r4Z a0 a1 a2 h)) (Eq.trans ?_ (Eq.symm (qe_Gr_leastPlace_32 krA r4A a0 a1 a2 h)))
  generalize (400 : Nat) = f9
  refine zseg_e e (zcal_e _ _ ?_) (zorc_e _ _ ?_) hk (fun _ _ => rfl) f9 _ _ _ _
  · exact trivial
  · exact ⟨rfl, rfl, rfl, zap3_e h4, trivial⟩
set_option maxRecDepth 100000 in
set_option maxHeartbeats 0 in
theorem n_Gr_leastPlace_30 {ρ : Type} (e : zRes → Option ρ) {krA : Int → zH → Option ρ} {krZ : Int → zH → Option zRes} (hk : ∀ v h, (krZ v h).bind e = krA v h) {r4A : Int → Int → Int → zH → Option ρ} {r4Z : Int → Int → Int → zH → Option zRes} (h4 : ∀ (x0 x1 x2 : Int) (h : zH), (r4Z x0 x1 x2 h).bind e = r4A x0 x1 x2 h) (a0 a2 a3 : Int) (h : zH) : (Gr_leastPlace_30 krZ r4Z a0 a2 a3 h).bind e = Gr_leastPlace_30 krA r4A a0 a2 a3 h := by
  refine Eq.trans (congrArg (fun z => Option.bind z e) (qe_Gr_leastPlace_30 krZ r4Z a0 a2 a3 h)) (Eq.trans ?_ (Eq.symm (qe_Gr_leastPlace_30 krA r4A a0 a2 a3 h)))
  generalize (400 : Nat) = f9
  refine zseg_e e (zcal_e _ _ ?_) (zorc_e _ _ ?_) hk (fun _ _ => rfl) f9 _ _ _ _
  · exact trivial
  · exact ⟨rfl, rfl, rfl, zap3_e (fun x0 x1 x2 h => n_Gr_leastPlace_32 e hk h4 x0 x1 x2 h), trivial⟩
set_option maxRecDepth 100000 in
set_option maxHeartbeats 0 in
theorem n_Gr_leastPlace_4b {ρ : Type} (e : zRes → Option ρ) {krA : Int → zH → Option ρ} {krZ : Int → zH → Option zRes} (hk : ∀ v h, (krZ v h).bind e = krA v h) {r4A : Int → Int → Int → zH → Option ρ} {r4Z : Int → Int → Int → zH → Option zRes} (h4 : ∀ (x0 x1 x2 : Int) (h : zH), (r4Z x0 x1 x2 h).bind e = r4A x0 x1 x2 h) (a0 a1 a2 : Int) (h : zH) : (Gr_leastPlace_4b krZ r4Z a0 a1 a2 h).bind e = Gr_leastPlace_4b krA r4A a0 a1 a2 h := by
  refine Eq.trans (congrArg (fun z => Option.bind z e) (qe_Gr_leastPlace_4b krZ r4Z a0 a1 a2 h)) (Eq.trans ?_ (Eq.symm (qe_Gr_leastPlace_4b krA r4A a0 a1 a2 h)))
  generalize (400 : Nat) = f9
  refine zseg_e e (zcal_e _ _ ?_) (zorc_e _ _ ?_) hk (fun _ _ => rfl) f9 _ _ _ _
  · exact ⟨rfl, rfl, zca2_e (fun x0 x1 h k t => n_Gr_placeIn e (fun _ _ => rfl) x0 x1 h), trivial⟩
  · exact ⟨rfl, rfl, rfl, zap3_e (fun x0 x1 x2 h => n_Gr_leastPlace_30 e hk h4 x0 x1 x2 h), ⟨rfl, rfl, rfl, zap3_e (fun x0 x1 x2 h => n_Gr_leastPlace_32 e hk h4 x0 x1 x2 h), trivial⟩⟩
theorem n_Gr_leastPlace_4 {ρ : Type} (e : zRes → Option ρ) {krA : Int → zH → Option ρ} {krZ : Int → zH → Option zRes} (hk : ∀ v h, (krZ v h).bind e = krA v h) (a0 a1 a2 : Int) (h : zH) : (Gr_leastPlace_4 krZ a0 a1 a2 h).bind e = Gr_leastPlace_4 krA a0 a1 a2 h := zit3_e (fun rA rZ hh a0 a1 a2 h => n_Gr_leastPlace_4b e hk hh a0 a1 a2 h) zN a0 a1 a2 h
set_option maxRecDepth 100000 in
set_option maxHeartbeats 0 in
theorem n_Gr_leastPlace {ρ : Type} (e : zRes → Option ρ) {krA : Int → zH → Option ρ} {krZ : Int → zH → Option zRes} (hk : ∀ v h, (krZ v h).bind e = krA v h) (a0 : Int) (h : zH) : (Gr_leastPlace a0 h krZ).bind e = Gr_leastPlace a0 h krA := by
  refine Eq.trans (congrArg (fun z => Option.bind z e) (qe_Gr_leastPlace krZ a0 h)) (Eq.trans ?_ (Eq.symm (qe_Gr_leastPlace krA a0 h)))
  generalize (400 : Nat) = f9
  refine zseg_e e (zcal_e _ _ ?_) (zorc_e _ _ ?_) hk (fun _ _ => rfl) f9 _ _ _ _
  · exact trivial
  · exact ⟨rfl, rfl, rfl, zap3_e (fun x0 x1 x2 h => n_Gr_leastPlace_4 e hk x0 x1 x2 h), trivial⟩
set_option maxRecDepth 100000 in
set_option maxHeartbeats 0 in
theorem n_Gr_lanesUnderMask_34 {ρ : Type} (e : zRes → Option ρ) {krA : Int → zH → Option ρ} {krZ : Int → zH → Option zRes} (hk : ∀ v h, (krZ v h).bind e = krA v h) {r9A : Int → Int → Int → Int → zH → Option ρ} {r9Z : Int → Int → Int → Int → zH → Option zRes} (h9 : ∀ (x0 x1 x2 x3 : Int) (h : zH), (r9Z x0 x1 x2 x3 h).bind e = r9A x0 x1 x2 x3 h) (a0 a1 a2 a3 : Int) (h : zH) : (Gr_lanesUnderMask_34 krZ r9Z a0 a1 a2 a3 h).bind e = Gr_lanesUnderMask_34 krA r9A a0 a1 a2 a3 h := by
  refine Eq.trans (congrArg (fun z => Option.bind z e) (qe_Gr_lanesUnderMask_34 krZ r9Z a0 a1 a2 a3 h)) (Eq.trans ?_ (Eq.symm (qe_Gr_lanesUnderMask_34 krA r9A a0 a1 a2 a3 h)))
  generalize (400 : Nat) = f9
  refine zseg_e e (zcal_e _ _ ?_) (zorc_e _ _ ?_) hk (fun _ _ => rfl) f9 _ _ _ _
  · exact trivial
  · exact ⟨rfl, rfl, rfl, zap4_e h9, trivial⟩
set_option maxRecDepth 100000 in
set_option maxHeartbeats 0 in
theorem n_Gr_lanesUnderMask_9b {ρ : Type} (e : zRes → Option ρ) {krA : Int → zH → Option ρ} {krZ : Int → zH → Option zRes} (hk : ∀ v h, (krZ v h).bind e = krA v h) {r9A : Int → Int → Int → Int → zH → Option ρ} {r9Z : Int → Int → Int → Int → zH → Option zRes} (h9 : ∀ (x0 x1 x2 x3 : Int) (h : zH), (r9Z x0 x1 x2 x3 h).bind e = r9A x0 x1 x2 x3 h) (a0 a1 a2 a3 : Int) (h : zH) : (Gr_lanesUnderMask_9b krZ r9Z a0 a1 a2 a3 h).bind e = Gr_lanesUnderMask_9b krA r9A a0 a1 a2 a3 h := by
  refine Eq.trans (congrArg (fun z => Option.bind z e) (qe_Gr_lanesUnderMask_9b krZ r9Z a0 a1 a2 a3 h)) (Eq.trans ?_ (Eq.symm (qe_Gr_lanesUnderMask_9b krA r9A a0 a1 a2 a3 h)))
  generalize (400 : Nat) = f9
  refine zseg_e e (zcal_e _ _ ?_) (zorc_e _ _ ?_) hk (fun _ _ => rfl) f9 _ _ _ _
  · exact ⟨rfl, rfl, zca2_e (fun x0 x1 h k t => n_Gr_placeIn e (fun _ _ => rfl) x0 x1 h), trivial⟩
  · exact ⟨rfl, rfl, rfl, zap4_e (fun x0 x1 x2 x3 h => n_Gr_lanesUnderMask_34 e hk h9 x0 x1 x2 x3 h), trivial⟩
theorem n_Gr_lanesUnderMask_9 {ρ : Type} (e : zRes → Option ρ) {krA : Int → zH → Option ρ} {krZ : Int → zH → Option zRes} (hk : ∀ v h, (krZ v h).bind e = krA v h) (a0 a1 a2 a3 : Int) (h : zH) : (Gr_lanesUnderMask_9 krZ a0 a1 a2 a3 h).bind e = Gr_lanesUnderMask_9 krA a0 a1 a2 a3 h := zit4_e (fun rA rZ hh a0 a1 a2 a3 h => n_Gr_lanesUnderMask_9b e hk hh a0 a1 a2 a3 h) zN a0 a1 a2 a3 h
set_option maxRecDepth 100000 in
set_option maxHeartbeats 0 in
theorem n_Gr_lanesUnderMask {ρ : Type} (e : zRes → Option ρ) {krA : Int → zH → Option ρ} {krZ : Int → zH → Option zRes} (hk : ∀ v h, (krZ v h).bind e = krA v h) (a0 : Int) (h : zH) : (Gr_lanesUnderMask a0 h krZ).bind e = Gr_lanesUnderMask a0 h krA := by
  refine Eq.trans (congrArg (fun z => Option.bind z e) (qe_Gr_lanesUnderMask krZ a0 h)) (Eq.trans ?_ (Eq.symm (qe_Gr_lanesUnderMask krA a0 h)))
  generalize (400 : Nat) = f9
  refine zseg_e e (zcal_e _ _ ?_) (zorc_e _ _ ?_) hk (fun _ _ => rfl) f9 _ _ _ _
  · exact ⟨rfl, rfl, zca1_e (fun x0 h k t => n_Gr_leastPlace e (fun _ _ => rfl) x0 h), trivial⟩
  · exact ⟨rfl, rfl, rfl, zap4_e (fun x0 x1 x2 x3 h => n_Gr_lanesUnderMask_9 e hk x0 x1 x2 x3 h), trivial⟩
set_option maxRecDepth 100000 in
set_option maxHeartbeats 0 in
theorem n_Ke_instructionAt_24 {ρ : Type} (e : zRes → Option ρ) {krA : Int → zH → Option ρ} {krZ : Int → zH → Option zRes} (hk : ∀ v h, (krZ v h).bind e = krA v h) (t0 : Int) (h : zH) : (Ke_instructionAt_24 krZ t0 h).bind e = Ke_instructionAt_24 krA t0 h := by
  refine Eq.trans (congrArg (fun z => Option.bind z e) (qe_Ke_instructionAt_24 krZ t0 h)) (Eq.trans ?_ (Eq.symm (qe_Ke_instructionAt_24 krA t0 h)))
  generalize (400 : Nat) = f9
  refine zseg_e e (zcal_e _ _ ?_) (zorc_e _ _ ?_) hk (fun _ _ => rfl) f9 _ _ _ _
  · exact trivial
  · exact trivial
set_option maxRecDepth 100000 in
set_option maxHeartbeats 0 in
theorem n_Ke_instructionAt {ρ : Type} (e : zRes → Option ρ) {krA : Int → zH → Option ρ} {krZ : Int → zH → Option zRes} (hk : ∀ v h, (krZ v h).bind e = krA v h) (a0 a1 : Int) (h : zH) : (Ke_instructionAt a0 a1 h krZ).bind e = Ke_instructionAt a0 a1 h krA := by
  refine Eq.trans (congrArg (fun z => Option.bind z e) (qe_Ke_instructionAt krZ a0 a1 h)) (Eq.trans ?_ (Eq.symm (qe_Ke_instructionAt krA a0 a1 h)))
  generalize (400 : Nat) = f9
  refine zseg_e e (zcal_e _ _ ?_) (zorc_e _ _ ?_) hk (fun _ _ => rfl) f9 _ _ _ _
  · exact ⟨rfl, rfl, zca3_e (fun x0 x1 x2 h k t => n_X_isWithin e (fun _ _ => rfl) x0 x1 x2 h), trivial⟩
  · exact ⟨rfl, rfl, rfl, zap1_e (fun x0 h => n_Ke_instructionAt_24 e hk x0 h), trivial⟩
set_option maxRecDepth 100000 in
set_option maxHeartbeats 0 in
theorem n_Th_goOn_88 {ρ : Type} (e : zRes → Option ρ) {krA : Int → zH → Option ρ} {krZ : Int → zH → Option zRes} (hk : ∀ v h, (krZ v h).bind e = krA v h) (h : zH) : (Th_goOn_88 krZ h).bind e = Th_goOn_88 krA h := by
  refine Eq.trans (congrArg (fun z => Option.bind z e) (qe_Th_goOn_88 krZ h)) (Eq.trans ?_ (Eq.symm (qe_Th_goOn_88 krA h)))
  generalize (400 : Nat) = f9
  refine zseg_e e (zcal_e _ _ ?_) (zorc_e _ _ ?_) hk (fun _ _ => rfl) f9 _ _ _ _
  · exact trivial
  · exact trivial
set_option maxRecDepth 100000 in
set_option maxHeartbeats 0 in
theorem n_Th_goOn_65 {ρ : Type} (e : zRes → Option ρ) {krA : Int → zH → Option ρ} {krZ : Int → zH → Option zRes} (hk : ∀ v h, (krZ v h).bind e = krA v h) (a0 a1 a2 : Int) (h : zH) : (Th_goOn_65 krZ a0 a1 a2 h).bind e = Th_goOn_65 krA a0 a1 a2 h := by
  refine Eq.trans (congrArg (fun z => Option.bind z e) (qe_Th_goOn_65 krZ a0 a1 a2 h)) (Eq.trans ?_ (Eq.symm (qe_Th_goOn_65 krA a0 a1 a2 h)))
  generalize (400 : Nat) = f9
  refine zseg_e e (zcal_e _ _ ?_) (zorc_e _ _ ?_) hk (fun _ _ => rfl) f9 _ _ _ _
  · exact ⟨rfl, rfl, zca3_e (fun x0 x1 x2 h k t => n_Th_goTo e (fun _ _ => rfl) x0 x1 x2 h), trivial⟩
  · exact ⟨rfl, rfl, rfl, zap0_e (fun  h => n_Th_goOn_88 e hk  h), trivial⟩
set_option maxRecDepth 100000 in
set_option maxHeartbeats 0 in
theorem n_Th_goOn_77 {ρ : Type} (e : zRes → Option ρ) {krA : Int → zH → Option ρ} {krZ : Int → zH → Option zRes} (hk : ∀ v h, (krZ v h).bind e = krA v h) (a0 a2 : Int) (h : zH) : (Th_goOn_77 krZ a0 a2 h).bind e = Th_goOn_77 krA a0 a2 h := by
  refine Eq.trans (congrArg (fun z => Option.bind z e) (qe_Th_goOn_77 krZ a0 a2 h)) (Eq.trans ?_ (Eq.symm (qe_Th_goOn_77 krA a0 a2 h)))
  generalize (400 : Nat) = f9
  refine zseg_e e (zcal_e _ _ ?_) (zorc_e _ _ ?_) hk (fun _ _ => rfl) f9 _ _ _ _
  · exact ⟨rfl, rfl, zca3_e (fun x0 x1 x2 h k t => n_Th_goTo e (fun _ _ => rfl) x0 x1 x2 h), trivial⟩
  · exact ⟨rfl, rfl, rfl, zap0_e (fun  h => n_Th_goOn_88 e hk  h), trivial⟩
set_option maxRecDepth 100000 in
set_option maxHeartbeats 0 in
theorem n_Th_goOn {ρ : Type} (e : zRes → Option ρ) {krA : Int → zH → Option ρ} {krZ : Int → zH → Option zRes} (hk : ∀ v h, (krZ v h).bind e = krA v h) (a0 a1 a2 : Int) (h : zH) : (Th_goOn a0 a1 a2 h krZ).bind e = Th_goOn a0 a1 a2 h krA := by
  refine Eq.trans (congrArg (fun z => Option.bind z e) (qe_Th_goOn krZ a0 a1 a2 h)) (Eq.trans ?_ (Eq.symm (qe_Th_goOn krA a0 a1 a2 h)))
  generalize (400 : Nat) = f9
  refine zseg_e e (zcal_e _ _ ?_) (zorc_e _ _ ?_) hk (fun _ _ => rfl) f9 _ _ _ _
  · exact ⟨rfl, rfl, zca2_e (fun x0 x1 h k t => n_Th_at e (fun _ _ => rfl) x0 x1 h), trivial⟩
  · exact ⟨rfl, rfl, rfl, zap3_e (fun x0 x1 x2 h => n_Th_goOn_65 e hk x0 x1 x2 h), ⟨rfl, rfl, rfl, zap2_e (fun x0 x1 h => n_Th_goOn_77 e hk x0 x1 h), ⟨rfl, rfl, rfl, zap0_e (fun  h => n_Th_goOn_88 e hk  h), trivial⟩⟩⟩
set_option maxRecDepth 100000 in
set_option maxHeartbeats 0 in
theorem n_Co_carryOut_160 {ρ : Type} (e : zRes → Option ρ) {krA : Int → zH → Option ρ} {krZ : Int → zH → Option zRes} (hk : ∀ v h, (krZ v h).bind e = krA v h) {r63A : Int → Int → Int → Int → Int → Int → Int → zH → Option ρ} {r63Z : Int → Int → Int → Int → Int → Int → Int → zH → Option zRes} (h63 : ∀ (x0 x1 x2 x3 x4 x5 x6 : Int) (h : zH), (r63Z x0 x1 x2 x3 x4 x5 x6 h).bind e = r63A x0 x1 x2 x3 x4 x5 x6 h) (a0 a1 a2 a3 a4 a5 a6 : Int) (h : zH) : (Co_carryOut_160 krZ r63Z a0 a1 a2 a3 a4 a5 a6 h).bind e = Co_carryOut_160 krA r63A a0 a1 a2 a3 a4 a5 a6 h := by
  refine Eq.trans (congrArg (fun z => Option.bind z e) (qe_Co_carryOut_160 krZ r63Z a0 a1 a2 a3 a4 a5 a6 h)) (Eq.trans ?_ (Eq.symm (qe_Co_carryOut_160 krA r63A a0 a1 a2 a3 a4 a5 a6 h)))
  generalize (400 : Nat) = f9
  refine zseg_e e (zcal_e _ _ ?_) (zorc_e _ _ ?_) hk (fun _ _ => rfl) f9 _ _ _ _
  · exact trivial
  · exact ⟨rfl, rfl, rfl, zap7_e h63, trivial⟩
set_option maxRecDepth 100000 in
set_option maxHeartbeats 0 in
theorem n_Co_carryOut_63b {ρ : Type} (e : zRes → Option ρ) {krA : Int → zH → Option ρ} {krZ : Int → zH → Option zRes} (hk : ∀ v h, (krZ v h).bind e = krA v h) {r63A : Int → Int → Int → Int → Int → Int → Int → zH → Option ρ} {r63Z : Int → Int → Int → Int → Int → Int → Int → zH → Option zRes} (h63 : ∀ (x0 x1 x2 x3 x4 x5 x6 : Int) (h : zH), (r63Z x0 x1 x2 x3 x4 x5 x6 h).bind e = r63A x0 x1 x2 x3 x4 x5 x6 h) (a0 a1 a2 a3 a4 a5 a6 : Int) (h : zH) : (Co_carryOut_63b krZ r63Z a0 a1 a2 a3 a4 a5 a6 h).bind e = Co_carryOut_63b krA r63A a0 a1 a2 a3 a4 a5 a6 h := by
  refine Eq.trans (congrArg (fun z => Option.bind z e) (qe_Co_carryOut_63b krZ r63Z a0 a1 a2 a3 a4 a5 a6 h)) (Eq.trans ?_ (Eq.symm (qe_Co_carryOut_63b krA r63A a0 a1 a2 a3 a4 a5 a6 h)))
  generalize (400 : Nat) = f9
  refine zseg_e e (zcal_e _ _ ?_) (zorc_e _ _ ?_) hk (fun _ _ => rfl) f9 _ _ _ _
  · exact ⟨rfl, rfl, zca2_e (fun x0 x1 h k t => n_X_isIn e (fun _ _ => rfl) x0 x1 h), ⟨rfl, rfl, zca5_e (fun x0 x1 x2 x3 x4 h k t => n_Co_carryLane e (fun _ _ => rfl) x0 x1 x2 x3 x4 h), ⟨rfl, rfl, zca3_e (fun x0 x1 x2 h k t => n_Co_countedDelay e (fun _ _ => rfl) x0 x1 x2 h), ⟨rfl, rfl, zca5_e (fun x0 x1 x2 x3 x4 h k t => n_Co_fail e (fun _ _ => rfl) x0 x1 x2 x3 x4 h), ⟨rfl, rfl, zca2_e (fun x0 x1 h k t => n_Gr_threadIn e (fun _ _ => rfl) x0 x1 h), ⟨rfl, rfl, zca3_e (fun x0 x1 x2 h k t => n_Th_goOn e (fun _ _ => rfl) x0 x1 x2 h), trivial⟩⟩⟩⟩⟩⟩
  · exact ⟨rfl, rfl, rfl, zap7_e (fun x0 x1 x2 x3 x4 x5 x6 h => n_Co_carryOut_160 e hk h63 x0 x1 x2 x3 x4 x5 x6 h), trivial⟩
theorem n_Co_carryOut_63 {ρ : Type} (e : zRes → Option ρ) {krA : Int → zH → Option ρ} {krZ : Int → zH → Option zRes} (hk : ∀ v h, (krZ v h).bind e = krA v h) (a0 a1 a2 a3 a4 a5 a6 : Int) (h : zH) : (Co_carryOut_63 krZ a0 a1 a2 a3 a4 a5 a6 h).bind e = Co_carryOut_63 krA a0 a1 a2 a3 a4 a5 a6 h := zit7_e (fun rA rZ hh a0 a1 a2 a3 a4 a5 a6 h => n_Co_carryOut_63b e hk hh a0 a1 a2 a3 a4 a5 a6 h) zN a0 a1 a2 a3 a4 a5 a6 h
set_option maxRecDepth 100000 in
set_option maxHeartbeats 0 in
theorem n_Co_carryOut {ρ : Type} (e : zRes → Option ρ) {krA : Int → zH → Option ρ} {krZ : Int → zH → Option zRes} (hk : ∀ v h, (krZ v h).bind e = krA v h) (a0 a1 a2 : Int) (h : zH) : (Co_carryOut a0 a1 a2 h krZ).bind e = Co_carryOut a0 a1 a2 h krA := by
  refine Eq.trans (congrArg (fun z => Option.bind z e) (qe_Co_carryOut krZ a0 a1 a2 h)) (Eq.trans ?_ (Eq.symm (qe_Co_carryOut krA a0 a1 a2 h)))
  generalize (400 : Nat) = f9
  refine zseg_e e (zcal_e _ _ ?_) (zorc_e _ _ ?_) hk (fun _ _ => rfl) f9 _ _ _ _
  · exact ⟨rfl, rfl, zca3_e (fun x0 x1 x2 h k t => n_Co_lookAhead e (fun _ _ => rfl) x0 x1 x2 h), ⟨rfl, rfl, zca1_e (fun x0 h k t => n_Gr_leastPlace e (fun _ _ => rfl) x0 h), ⟨rfl, rfl, zca1_e (fun x0 h k t => n_Gr_lanesUnderMask e (fun _ _ => rfl) x0 h), ⟨rfl, rfl, zca2_e (fun x0 x1 h k t => n_Ke_instructionAt e (fun _ _ => rfl) x0 x1 h), trivial⟩⟩⟩⟩
  · exact ⟨rfl, rfl, rfl, zap7_e (fun x0 x1 x2 x3 x4 x5 x6 h => n_Co_carryOut_63 e hk x0 x1 x2 x3 x4 x5 x6 h), trivial⟩
set_option maxRecDepth 100000 in
set_option maxHeartbeats 0 in
theorem n_Bl_isAllWaiting_35 {ρ : Type} (e : zRes → Option ρ) {krA : Int → zH → Option ρ} {krZ : Int → zH → Option zRes} (hk : ∀ v h, (krZ v h).bind e = krA v h) (t0 : Int) (h : zH) : (Bl_isAllWaiting_35 krZ t0 h).bind e = Bl_isAllWaiting_35 krA t0 h := by
  refine Eq.trans (congrArg (fun z => Option.bind z e) (qe_Bl_isAllWaiting_35 krZ t0 h)) (Eq.trans ?_ (Eq.symm (qe_Bl_isAllWaiting_35 krA t0 h)))
  generalize (400 : Nat) = f9
  refine zseg_e e (zcal_e _ _ ?_) (zorc_e _ _ ?_) hk (fun _ _ => rfl) f9 _ _ _ _
  · exact trivial
  · exact trivial
set_option maxRecDepth 100000 in
set_option maxHeartbeats 0 in
theorem n_Bl_isAllWaiting_34 {ρ : Type} (e : zRes → Option ρ) {krA : Int → zH → Option ρ} {krZ : Int → zH → Option zRes} (hk : ∀ v h, (krZ v h).bind e = krA v h) (h : zH) : (Bl_isAllWaiting_34 krZ h).bind e = Bl_isAllWaiting_34 krA h := by
  refine Eq.trans (congrArg (fun z => Option.bind z e) (qe_Bl_isAllWaiting_34 krZ h)) (Eq.trans ?_ (Eq.symm (qe_Bl_isAllWaiting_34 krA h)))
  generalize (400 : Nat) = f9
  refine zseg_e e (zcal_e _ _ ?_) (zorc_e _ _ ?_) hk (fun _ _ => rfl) f9 _ _ _ _
  · exact trivial
  · exact ⟨rfl, rfl, rfl, zap1_e (fun x0 h => n_Bl_isAllWaiting_35 e hk x0 h), trivial⟩
set_option maxRecDepth 100000 in
set_option maxHeartbeats 0 in
theorem n_Bl_isAllWaiting {ρ : Type} (e : zRes → Option ρ) {krA : Int → zH → Option ρ} {krZ : Int → zH → Option zRes} (hk : ∀ v h, (krZ v h).bind e = krA v h) (a0 : Int) (h : zH) : (Bl_isAllWaiting a0 h krZ).bind e = Bl_isAllWaiting a0 h krA := by
  refine Eq.trans (congrArg (fun z => Option.bind z e) (qe_Bl_isAllWaiting krZ a0 h)) (Eq.trans ?_ (Eq.symm (qe_Bl_isAllWaiting krA a0 h)))
  generalize (400 : Nat) = f9
  refine zseg_e e (zcal_e _ _ ?_) (zorc_e _ _ ?_) hk (fun _ _ => rfl) f9 _ _ _ _
  · exact ⟨rfl, rfl, zca2_e (fun x0 x1 h k t => n_Th_isAnyRunning e (fun _ _ => rfl) x0 x1 h), ⟨rfl, rfl, zca2_e (fun x0 x1 h k t => n_Th_lowestOfWaiting_36 e (fun _ _ => rfl) x0 x1 h), trivial⟩⟩
  · exact ⟨rfl, rfl, rfl, zap0_e (fun  h => n_Bl_isAllWaiting_34 e hk  h), ⟨rfl, rfl, rfl, zap1_e (fun x0 h => n_Bl_isAllWaiting_35 e hk x0 h), trivial⟩⟩
set_option maxRecDepth 100000 in
set_option maxHeartbeats 0 in
theorem n_Th_isEnded_14 {ρ : Type} (e : zRes → Option ρ) {krA : Int → zH → Option ρ} {krZ : Int → zH → Option zRes} (hk : ∀ v h, (krZ v h).bind e = krA v h) (t0 : Int) (h : zH) : (Th_isEnded_14 krZ t0 h).bind e = Th_isEnded_14 krA t0 h := by
  refine Eq.trans (congrArg (fun z => Option.bind z e) (qe_Th_isEnded_14 krZ t0 h)) (Eq.trans ?_ (Eq.symm (qe_Th_isEnded_14 krA t0 h)))
  generalize (400 : Nat) = f9
  refine zseg_e e (zcal_e _ _ ?_) (zorc_e _ _ ?_) hk (fun _ _ => rfl) f9 _ _ _ _
  · exact trivial
  · exact trivial
set_option maxRecDepth 100000 in
set_option maxHeartbeats 0 in
theorem n_Th_isEnded {ρ : Type} (e : zRes → Option ρ) {krA : Int → zH → Option ρ} {krZ : Int → zH → Option zRes} (hk : ∀ v h, (krZ v h).bind e = krA v h) (a0 : Int) (h : zH) : (Th_isEnded a0 h krZ).bind e = Th_isEnded a0 h krA := by
  refine Eq.trans (congrArg (fun z => Option.bind z e) (qe_Th_isEnded krZ a0 h)) (Eq.trans ?_ (Eq.symm (qe_Th_isEnded krA a0 h)))
  generalize (400 : Nat) = f9
  refine zseg_e e (zcal_e _ _ ?_) (zorc_e _ _ ?_) hk (fun _ _ => rfl) f9 _ _ _ _
  · exact trivial
  · exact ⟨rfl, rfl, rfl, zap1_e (fun x0 h => n_Th_isEnded_14 e hk x0 h), trivial⟩
set_option maxRecDepth 100000 in
set_option maxHeartbeats 0 in
theorem n_Gr_hasEnded_26 {ρ : Type} (e : zRes → Option ρ) {krA : Int → zH → Option ρ} {krZ : Int → zH → Option zRes} (hk : ∀ v h, (krZ v h).bind e = krA v h) {r2A : Int → Int → zH → Option ρ} {r2Z : Int → Int → zH → Option zRes} (h2 : ∀ (x0 x1 : Int) (h : zH), (r2Z x0 x1 h).bind e = r2A x0 x1 h) (a0 a1 : Int) (h : zH) : (Gr_hasEnded_26 krZ r2Z a0 a1 h).bind e = Gr_hasEnded_26 krA r2A a0 a1 h := by
  refine Eq.trans (congrArg (fun z => Option.bind z e) (qe_Gr_hasEnded_26 krZ r2Z a0 a1 h)) (Eq.trans ?_ (Eq.symm (qe_Gr_hasEnded_26 krA r2A a0 a1 h)))
  generalize (400 : Nat) = f9
  refine zseg_e e (zcal_e _ _ ?_) (zorc_e _ _ ?_) hk (fun _ _ => rfl) f9 _ _ _ _
  · exact trivial
  · exact ⟨rfl, rfl, rfl, zap2_e h2, trivial⟩
set_option maxRecDepth 100000 in
set_option maxHeartbeats 0 in
theorem n_Gr_hasEnded_2b {ρ : Type} (e : zRes → Option ρ) {krA : Int → zH → Option ρ} {krZ : Int → zH → Option zRes} (hk : ∀ v h, (krZ v h).bind e = krA v h) {r2A : Int → Int → zH → Option ρ} {r2Z : Int → Int → zH → Option zRes} (h2 : ∀ (x0 x1 : Int) (h : zH), (r2Z x0 x1 h).bind e = r2A x0 x1 h) (a0 a1 : Int) (h : zH) : (Gr_hasEnded_2b krZ r2Z a0 a1 h).bind e = Gr_hasEnded_2b krA r2A a0 a1 h := by
  refine Eq.trans (congrArg (fun z => Option.bind z e) (qe_Gr_hasEnded_2b krZ r2Z a0 a1 h)) (Eq.trans ?_ (Eq.symm (qe_Gr_hasEnded_2b krA r2A a0 a1 h)))
  generalize (400 : Nat) = f9
  refine zseg_e e (zcal_e _ _ ?_) (zorc_e _ _ ?_) hk (fun _ _ => rfl) f9 _ _ _ _
  · exact ⟨rfl, rfl, zca2_e (fun x0 x1 h k t => n_Gr_threadIn e (fun _ _ => rfl) x0 x1 h), ⟨rfl, rfl, zca1_e (fun x0 h k t => n_Th_isEnded e (fun _ _ => rfl) x0 h), trivial⟩⟩
  · exact ⟨rfl, rfl, rfl, zap2_e (fun x0 x1 h => n_Gr_hasEnded_26 e hk h2 x0 x1 h), trivial⟩
theorem n_Gr_hasEnded_2 {ρ : Type} (e : zRes → Option ρ) {krA : Int → zH → Option ρ} {krZ : Int → zH → Option zRes} (hk : ∀ v h, (krZ v h).bind e = krA v h) (a0 a1 : Int) (h : zH) : (Gr_hasEnded_2 krZ a0 a1 h).bind e = Gr_hasEnded_2 krA a0 a1 h := zit2_e (fun rA rZ hh a0 a1 h => n_Gr_hasEnded_2b e hk hh a0 a1 h) zN a0 a1 h
set_option maxRecDepth 100000 in
set_option maxHeartbeats 0 in
theorem n_Gr_hasEnded {ρ : Type} (e : zRes → Option ρ) {krA : Int → zH → Option ρ} {krZ : Int → zH → Option zRes} (hk : ∀ v h, (krZ v h).bind e = krA v h) (a0 : Int) (h : zH) : (Gr_hasEnded a0 h krZ).bind e = Gr_hasEnded a0 h krA := by
  refine Eq.trans (congrArg (fun z => Option.bind z e) (qe_Gr_hasEnded krZ a0 h)) (Eq.trans ?_ (Eq.symm (qe_Gr_hasEnded krA a0 h)))
  generalize (400 : Nat) = f9
  refine zseg_e e (zcal_e _ _ ?_) (zorc_e _ _ ?_) hk (fun _ _ => rfl) f9 _ _ _ _
  · exact trivial
  · exact ⟨rfl, rfl, rfl, zap2_e (fun x0 x1 h => n_Gr_hasEnded_2 e hk x0 x1 h), trivial⟩
set_option maxRecDepth 100000 in
set_option maxHeartbeats 0 in
theorem n_Bl_writeEndedGroups_34 {ρ : Type} (e : zRes → Option ρ) {krA : Int → zH → Option ρ} {krZ : Int → zH → Option zRes} (hk : ∀ v h, (krZ v h).bind e = krA v h) {r2A : Int → Int → Int → zH → Option ρ} {r2Z : Int → Int → Int → zH → Option zRes} (h2 : ∀ (x0 x1 x2 : Int) (h : zH), (r2Z x0 x1 x2 h).bind e = r2A x0 x1 x2 h) (a0 a1 a2 : Int) (h : zH) : (Bl_writeEndedGroups_34 krZ r2Z a0 a1 a2 h).bind e = Bl_writeEndedGroups_34 krA r2A a0 a1 a2 h := by
  refine Eq.trans (congrArg (fun z => Option.bind z e) (qe_Bl_writeEndedGroups_34 krZ r2Z a0 a1 a2 h)) (Eq.trans ?_ (Eq.symm (qe_Bl_writeEndedGroups_34 krA r2A a0 a1 a2 h)))
  generalize (400 : Nat) = f9
  refine zseg_e e (zcal_e _ _ ?_) (zorc_e _ _ ?_) hk (fun _ _ => rfl) f9 _ _ _ _
  · exact trivial
  · exact ⟨rfl, rfl, rfl, zap3_e h2, trivial⟩
set_option maxRecDepth 100000 in
set_option maxHeartbeats 0 in
theorem n_Bl_writeEndedGroups_2b {ρ : Type} (e : zRes → Option ρ) {krA : Int → zH → Option ρ} {krZ : Int → zH → Option zRes} (hk : ∀ v h, (krZ v h).bind e = krA v h) {r2A : Int → Int → Int → zH → Option ρ} {r2Z : Int → Int → Int → zH → Option zRes} (h2 : ∀ (x0 x1 x2 : Int) (h : zH), (r2Z x0 x1 x2 h).bind e = r2A x0 x1 x2 h) (a0 a1 a2 : Int) (h : zH) : (Bl_writeEndedGroups_2b krZ r2Z a0 a1 a2 h).bind e = Bl_writeEndedGroups_2b krA r2A a0 a1 a2 h := by
  refine Eq.trans (congrArg (fun z => Option.bind z e) (qe_Bl_writeEndedGroups_2b krZ r2Z a0 a1 a2 h)) (Eq.trans ?_ (Eq.symm (qe_Bl_writeEndedGroups_2b krA r2A a0 a1 a2 h)))
  generalize (400 : Nat) = f9
  refine zseg_e e (zcal_e _ _ ?_) (zorc_e _ _ ?_) hk (fun _ _ => rfl) f9 _ _ _ _
  · exact ⟨rfl, rfl, zca1_e (fun x0 h k t => n_Gr_hasEnded e (fun _ _ => rfl) x0 h), ⟨rfl, rfl, zca2_e (fun x0 x1 h k t => n_Gr_writeAll e (fun _ _ => rfl) x0 x1 h), trivial⟩⟩
  · exact ⟨rfl, rfl, rfl, zap3_e (fun x0 x1 x2 h => n_Bl_writeEndedGroups_34 e hk h2 x0 x1 x2 h), trivial⟩
theorem n_Bl_writeEndedGroups_2 {ρ : Type} (e : zRes → Option ρ) {krA : Int → zH → Option ρ} {krZ : Int → zH → Option zRes} (hk : ∀ v h, (krZ v h).bind e = krA v h) (a0 a1 a2 : Int) (h : zH) : (Bl_writeEndedGroups_2 krZ a0 a1 a2 h).bind e = Bl_writeEndedGroups_2 krA a0 a1 a2 h := zit3_e (fun rA rZ hh a0 a1 a2 h => n_Bl_writeEndedGroups_2b e hk hh a0 a1 a2 h) zN a0 a1 a2 h
set_option maxRecDepth 100000 in
set_option maxHeartbeats 0 in
theorem n_Bl_writeEndedGroups {ρ : Type} (e : zRes → Option ρ) {krA : Int → zH → Option ρ} {krZ : Int → zH → Option zRes} (hk : ∀ v h, (krZ v h).bind e = krA v h) (a0 a1 : Int) (h : zH) : (Bl_writeEndedGroups a0 a1 h krZ).bind e = Bl_writeEndedGroups a0 a1 h krA := by
  refine Eq.trans (congrArg (fun z => Option.bind z e) (qe_Bl_writeEndedGroups krZ a0 a1 h)) (Eq.trans ?_ (Eq.symm (qe_Bl_writeEndedGroups krA a0 a1 h)))
  generalize (400 : Nat) = f9
  refine zseg_e e (zcal_e _ _ ?_) (zorc_e _ _ ?_) hk (fun _ _ => rfl) f9 _ _ _ _
  · exact trivial
  · exact ⟨rfl, rfl, rfl, zap3_e (fun x0 x1 x2 h => n_Bl_writeEndedGroups_2 e hk x0 x1 x2 h), trivial⟩
set_option maxRecDepth 100000 in
set_option maxHeartbeats 0 in
theorem n_Bl_lowestWaiting {ρ : Type} (e : zRes → Option ρ) {krA : Int → zH → Option ρ} {krZ : Int → zH → Option zRes} (hk : ∀ v h, (krZ v h).bind e = krA v h) (a0 : Int) (h : zH) : (Bl_lowestWaiting a0 h krZ).bind e = Bl_lowestWaiting a0 h krA := by
  refine Eq.trans (congrArg (fun z => Option.bind z e) (qe_Bl_lowestWaiting krZ a0 h)) (Eq.trans ?_ (Eq.symm (qe_Bl_lowestWaiting krA a0 h)))
  generalize (400 : Nat) = f9
  refine zseg_e e (zcal_e _ _ ?_) (zorc_e _ _ ?_) hk (fun _ _ => rfl) f9 _ _ _ _
  · exact ⟨rfl, rfl, zca2_e (fun x0 x1 h k t => n_Th_lowestOfWaiting_36 e (fun _ _ => rfl) x0 x1 h), trivial⟩
  · exact trivial
set_option maxRecDepth 100000 in
set_option maxHeartbeats 0 in
theorem n_Th_release_36_39 {ρ : Type} (e : zRes → Option ρ) {krA : Int → zH → Option ρ} {krZ : Int → zH → Option zRes} (hk : ∀ v h, (krZ v h).bind e = krA v h) {r3A : Int → Int → Int → Int → Int → zH → Option ρ} {r3Z : Int → Int → Int → Int → Int → zH → Option zRes} (h3 : ∀ (x0 x1 x2 x3 x4 : Int) (h : zH), (r3Z x0 x1 x2 x3 x4 h).bind e = r3A x0 x1 x2 x3 x4 h) (a0 a1 a2 a3 a4 : Int) (h : zH) : (Th_release_36_39 krZ r3Z a0 a1 a2 a3 a4 h).bind e = Th_release_36_39 krA r3A a0 a1 a2 a3 a4 h := by
  refine Eq.trans (congrArg (fun z => Option.bind z e) (qe_Th_release_36_39 krZ r3Z a0 a1 a2 a3 a4 h)) (Eq.trans ?_ (Eq.symm (qe_Th_release_36_39 krA r3A a0 a1 a2 a3 a4 h)))
  generalize (400 : Nat) = f9
  refine zseg_e e (zcal_e _ _ ?_) (zorc_e _ _ ?_) hk (fun _ _ => rfl) f9 _ _ _ _
  · exact trivial
  · exact ⟨rfl, rfl, rfl, zap5_e h3, trivial⟩
set_option maxRecDepth 100000 in
set_option maxHeartbeats 0 in
theorem n_Th_release_36_91 {ρ : Type} (e : zRes → Option ρ) {krA : Int → zH → Option ρ} {krZ : Int → zH → Option zRes} (hk : ∀ v h, (krZ v h).bind e = krA v h) {r48A : Int → Int → Int → Int → Int → zH → Option ρ} {r48Z : Int → Int → Int → Int → Int → zH → Option zRes} (h48 : ∀ (x0 x1 x2 x3 x4 : Int) (h : zH), (r48Z x0 x1 x2 x3 x4 h).bind e = r48A x0 x1 x2 x3 x4 h) (a0 a1 a2 a3 a4 : Int) (h : zH) : (Th_release_36_91 krZ r48Z a0 a1 a2 a3 a4 h).bind e = Th_release_36_91 krA r48A a0 a1 a2 a3 a4 h := by
  refine Eq.trans (congrArg (fun z => Option.bind z e) (qe_Th_release_36_91 krZ r48Z a0 a1 a2 a3 a4 h)) (Eq.trans ?_ (Eq.symm (qe_Th_release_36_91 krA r48A a0 a1 a2 a3 a4 h)))
  generalize (400 : Nat) = f9
  refine zseg_e e (zcal_e _ _ ?_) (zorc_e _ _ ?_) hk (fun _ _ => rfl) f9 _ _ _ _
  · exact trivial
  · exact ⟨rfl, rfl, rfl, zap5_e h48, trivial⟩
set_option maxRecDepth 100000 in
set_option maxHeartbeats 0 in
theorem n_Th_release_36_97 {ρ : Type} (e : zRes → Option ρ) {krA : Int → zH → Option ρ} {krZ : Int → zH → Option zRes} (hk : ∀ v h, (krZ v h).bind e = krA v h) (h : zH) : (Th_release_36_97 krZ h).bind e = Th_release_36_97 krA h := by
  refine Eq.trans (congrArg (fun z => Option.bind z e) (qe_Th_release_36_97 krZ h)) (Eq.trans ?_ (Eq.symm (qe_Th_release_36_97 krA h)))
  generalize (400 : Nat) = f9
  refine zseg_e e (zcal_e _ _ ?_) (zorc_e _ _ ?_) hk (fun _ _ => rfl) f9 _ _ _ _
  · exact trivial
  · exact trivial
set_option maxRecDepth 100000 in
set_option maxHeartbeats 0 in
theorem n_Th_release_36_48b {ρ : Type} (e : zRes → Option ρ) {krA : Int → zH → Option ρ} {krZ : Int → zH → Option zRes} (hk : ∀ v h, (krZ v h).bind e = krA v h) {r48A : Int → Int → Int → Int → Int → zH → Option ρ} {r48Z : Int → Int → Int → Int → Int → zH → Option zRes} (h48 : ∀ (x0 x1 x2 x3 x4 : Int) (h : zH), (r48Z x0 x1 x2 x3 x4 h).bind e = r48A x0 x1 x2 x3 x4 h) (a0 a1 a2 a3 a4 : Int) (h : zH) : (Th_release_36_48b krZ r48Z a0 a1 a2 a3 a4 h).bind e = Th_release_36_48b krA r48A a0 a1 a2 a3 a4 h := by
  refine Eq.trans (congrArg (fun z => Option.bind z e) (qe_Th_release_36_48b krZ r48Z a0 a1 a2 a3 a4 h)) (Eq.trans ?_ (Eq.symm (qe_Th_release_36_48b krA r48A a0 a1 a2 a3 a4 h)))
  generalize (400 : Nat) = f9
  refine zseg_e e (zcal_e _ _ ?_) (zorc_e _ _ ?_) hk (fun _ _ => rfl) f9 _ _ _ _
  · exact ⟨rfl, rfl, zca1_e (fun x0 h k t => n_Th_isWaiting e (fun _ _ => rfl) x0 h), ⟨rfl, rfl, zca3_e (fun x0 x1 x2 h k t => n_Th_goTo e (fun _ _ => rfl) x0 x1 x2 h), trivial⟩⟩
  · exact ⟨rfl, rfl, rfl, zap5_e (fun x0 x1 x2 x3 x4 h => n_Th_release_36_91 e hk h48 x0 x1 x2 x3 x4 h), ⟨rfl, rfl, rfl, zap0_e (fun  h => n_Th_release_36_97 e hk  h), trivial⟩⟩
theorem n_Th_release_36_48 {ρ : Type} (e : zRes → Option ρ) {krA : Int → zH → Option ρ} {krZ : Int → zH → Option zRes} (hk : ∀ v h, (krZ v h).bind e = krA v h) (a0 a1 a2 a3 a4 : Int) (h : zH) : (Th_release_36_48 krZ a0 a1 a2 a3 a4 h).bind e = Th_release_36_48 krA a0 a1 a2 a3 a4 h := zit5_e (fun rA rZ hh a0 a1 a2 a3 a4 h => n_Th_release_36_48b e hk hh a0 a1 a2 a3 a4 h) zN a0 a1 a2 a3 a4 h
set_option maxRecDepth 100000 in
set_option maxHeartbeats 0 in
theorem n_Th_release_36_45 {ρ : Type} (e : zRes → Option ρ) {krA : Int → zH → Option ρ} {krZ : Int → zH → Option zRes} (hk : ∀ v h, (krZ v h).bind e = krA v h) (a0 a1 a2 a3 : Int) (h : zH) : (Th_release_36_45 krZ a0 a1 a2 a3 h).bind e = Th_release_36_45 krA a0 a1 a2 a3 h := by
  refine Eq.trans (congrArg (fun z => Option.bind z e) (qe_Th_release_36_45 krZ a0 a1 a2 a3 h)) (Eq.trans ?_ (Eq.symm (qe_Th_release_36_45 krA a0 a1 a2 a3 h)))
  generalize (400 : Nat) = f9
  refine zseg_e e (zcal_e _ _ ?_) (zorc_e _ _ ?_) hk (fun _ _ => rfl) f9 _ _ _ _
  · exact trivial
  · exact ⟨rfl, rfl, rfl, zap5_e (fun x0 x1 x2 x3 x4 h => n_Th_release_36_48 e hk x0 x1 x2 x3 x4 h), trivial⟩
set_option maxRecDepth 100000 in
set_option maxHeartbeats 0 in
theorem n_Th_release_36_3b {ρ : Type} (e : zRes → Option ρ) {krA : Int → zH → Option ρ} {krZ : Int → zH → Option zRes} (hk : ∀ v h, (krZ v h).bind e = krA v h) {r3A : Int → Int → Int → Int → Int → zH → Option ρ} {r3Z : Int → Int → Int → Int → Int → zH → Option zRes} (h3 : ∀ (x0 x1 x2 x3 x4 : Int) (h : zH), (r3Z x0 x1 x2 x3 x4 h).bind e = r3A x0 x1 x2 x3 x4 h) (a0 a1 a2 a3 a4 : Int) (h : zH) : (Th_release_36_3b krZ r3Z a0 a1 a2 a3 a4 h).bind e = Th_release_36_3b krA r3A a0 a1 a2 a3 a4 h := by
  refine Eq.trans (congrArg (fun z => Option.bind z e) (qe_Th_release_36_3b krZ r3Z a0 a1 a2 a3 a4 h)) (Eq.trans ?_ (Eq.symm (qe_Th_release_36_3b krA r3A a0 a1 a2 a3 a4 h)))
  generalize (400 : Nat) = f9
  refine zseg_e e (zcal_e _ _ ?_) (zorc_e _ _ ?_) hk (fun _ _ => rfl) f9 _ _ _ _
  · exact ⟨rfl, rfl, zca1_e (fun x0 h k t => n_Th_isWaiting e (fun _ _ => rfl) x0 h), trivial⟩
  · exact ⟨rfl, rfl, rfl, zap5_e (fun x0 x1 x2 x3 x4 h => n_Th_release_36_39 e hk h3 x0 x1 x2 x3 x4 h), ⟨rfl, rfl, rfl, zap4_e (fun x0 x1 x2 x3 h => n_Th_release_36_45 e hk x0 x1 x2 x3 h), trivial⟩⟩
theorem n_Th_release_36_3 {ρ : Type} (e : zRes → Option ρ) {krA : Int → zH → Option ρ} {krZ : Int → zH → Option zRes} (hk : ∀ v h, (krZ v h).bind e = krA v h) (a0 a1 a2 a3 a4 : Int) (h : zH) : (Th_release_36_3 krZ a0 a1 a2 a3 a4 h).bind e = Th_release_36_3 krA a0 a1 a2 a3 a4 h := zit5_e (fun rA rZ hh a0 a1 a2 a3 a4 h => n_Th_release_36_3b e hk hh a0 a1 a2 a3 a4 h) zN a0 a1 a2 a3 a4 h
set_option maxRecDepth 100000 in
set_option maxHeartbeats 0 in
theorem n_Th_release_36 {ρ : Type} (e : zRes → Option ρ) {krA : Int → zH → Option ρ} {krZ : Int → zH → Option zRes} (hk : ∀ v h, (krZ v h).bind e = krA v h) (a0 a1 a2 a3 : Int) (h : zH) : (Th_release_36 a0 a1 a2 a3 h krZ).bind e = Th_release_36 a0 a1 a2 a3 h krA := by
  refine Eq.trans (congrArg (fun z => Option.bind z e) (qe_Th_release_36 krZ a0 a1 a2 a3 h)) (Eq.trans ?_ (Eq.symm (qe_Th_release_36 krA a0 a1 a2 a3 h)))
  generalize (400 : Nat) = f9
  refine zseg_e e (zcal_e _ _ ?_) (zorc_e _ _ ?_) hk (fun _ _ => rfl) f9 _ _ _ _
  · exact trivial
  · exact ⟨rfl, rfl, rfl, zap5_e (fun x0 x1 x2 x3 x4 h => n_Th_release_36_3 e hk x0 x1 x2 x3 x4 h), trivial⟩
set_option maxRecDepth 100000 in
set_option maxHeartbeats 0 in
theorem n_Bl_passBarrier {ρ : Type} (e : zRes → Option ρ) {krA : Int → zH → Option ρ} {krZ : Int → zH → Option zRes} (hk : ∀ v h, (krZ v h).bind e = krA v h) (a0 a1 : Int) (h : zH) : (Bl_passBarrier a0 a1 h krZ).bind e = Bl_passBarrier a0 a1 h krA := by
  refine Eq.trans (congrArg (fun z => Option.bind z e) (qe_Bl_passBarrier krZ a0 a1 h)) (Eq.trans ?_ (Eq.symm (qe_Bl_passBarrier krA a0 a1 h)))
  generalize (400 : Nat) = f9
  refine zseg_e e (zcal_e _ _ ?_) (zorc_e _ _ ?_) hk (fun _ _ => rfl) f9 _ _ _ _
  · exact ⟨rfl, rfl, zca2_e (fun x0 x1 h k t => n_Ar_fill_39 e (fun _ _ => rfl) x0 x1 h), ⟨rfl, rfl, zca2_e (fun x0 x1 h k t => n_Ar_fill_40 e (fun _ _ => rfl) x0 x1 h), ⟨rfl, rfl, zca4_e (fun x0 x1 x2 x3 h k t => n_Th_release_36 e (fun _ _ => rfl) x0 x1 x2 x3 h), trivial⟩⟩⟩
  · exact trivial
set_option maxRecDepth 100000 in
set_option maxHeartbeats 0 in
theorem n_Co_lookAtBarrier_52 {ρ : Type} (e : zRes → Option ρ) {krA : Int → zH → Option ρ} {krZ : Int → zH → Option zRes} (hk : ∀ v h, (krZ v h).bind e = krA v h) (h : zH) : (Co_lookAtBarrier_52 krZ h).bind e = Co_lookAtBarrier_52 krA h := by
  refine Eq.trans (congrArg (fun z => Option.bind z e) (qe_Co_lookAtBarrier_52 krZ h)) (Eq.trans ?_ (Eq.symm (qe_Co_lookAtBarrier_52 krA h)))
  generalize (400 : Nat) = f9
  refine zseg_e e (zcal_e _ _ ?_) (zorc_e _ _ ?_) hk (fun _ _ => rfl) f9 _ _ _ _
  · exact trivial
  · exact trivial
set_option maxRecDepth 100000 in
set_option maxHeartbeats 0 in
theorem n_Co_lookAtBarrier {ρ : Type} (e : zRes → Option ρ) {krA : Int → zH → Option ρ} {krZ : Int → zH → Option zRes} (hk : ∀ v h, (krZ v h).bind e = krA v h) (a0 a1 : Int) (h : zH) : (Co_lookAtBarrier a0 a1 h krZ).bind e = Co_lookAtBarrier a0 a1 h krA := by
  refine Eq.trans (congrArg (fun z => Option.bind z e) (qe_Co_lookAtBarrier krZ a0 a1 h)) (Eq.trans ?_ (Eq.symm (qe_Co_lookAtBarrier krA a0 a1 h)))
  generalize (400 : Nat) = f9
  refine zseg_e e (zcal_e _ _ ?_) (zorc_e _ _ ?_) hk (fun _ _ => rfl) f9 _ _ _ _
  · exact ⟨rfl, rfl, zca1_e (fun x0 h k t => n_Bl_lowestWaiting e (fun _ _ => rfl) x0 h), ⟨rfl, rfl, zca2_e (fun x0 x1 h k t => n_Bl_passBarrier e (fun _ _ => rfl) x0 x1 h), ⟨rfl, rfl, zca5_e (fun x0 x1 x2 x3 x4 h k t => n_Co_fail e (fun _ _ => rfl) x0 x1 x2 x3 x4 h), trivial⟩⟩⟩
  · exact ⟨rfl, rfl, rfl, zap0_e (fun  h => n_Co_lookAtBarrier_52 e hk  h), trivial⟩
set_option maxRecDepth 100000 in
set_option maxHeartbeats 0 in
theorem n_Co_settle_20 {ρ : Type} (e : zRes → Option ρ) {krA : Int → zH → Option ρ} {krZ : Int → zH → Option zRes} (hk : ∀ v h, (krZ v h).bind e = krA v h) (a0 a1 : Int) (h : zH) : (Co_settle_20 krZ a0 a1 h).bind e = Co_settle_20 krA a0 a1 h := by
  refine Eq.trans (congrArg (fun z => Option.bind z e) (qe_Co_settle_20 krZ a0 a1 h)) (Eq.trans ?_ (Eq.symm (qe_Co_settle_20 krA a0 a1 h)))
  generalize (400 : Nat) = f9
  refine zseg_e e (zcal_e _ _ ?_) (zorc_e _ _ ?_) hk (fun _ _ => rfl) f9 _ _ _ _
  · exact ⟨rfl, rfl, zca2_e (fun x0 x1 h k t => n_Co_endIfEnded e (fun _ _ => rfl) x0 x1 h), trivial⟩
  · exact trivial
set_option maxRecDepth 100000 in
set_option maxHeartbeats 0 in
theorem n_Co_settle {ρ : Type} (e : zRes → Option ρ) {krA : Int → zH → Option ρ} {krZ : Int → zH → Option zRes} (hk : ∀ v h, (krZ v h).bind e = krA v h) (a0 a1 : Int) (h : zH) : (Co_settle a0 a1 h krZ).bind e = Co_settle a0 a1 h krA := by
  refine Eq.trans (congrArg (fun z => Option.bind z e) (qe_Co_settle krZ a0 a1 h)) (Eq.trans ?_ (Eq.symm (qe_Co_settle krA a0 a1 h)))
  generalize (400 : Nat) = f9
  refine zseg_e e (zcal_e _ _ ?_) (zorc_e _ _ ?_) hk (fun _ _ => rfl) f9 _ _ _ _
  · exact ⟨rfl, rfl, zca1_e (fun x0 h k t => n_Bl_isAllWaiting e (fun _ _ => rfl) x0 h), ⟨rfl, rfl, zca2_e (fun x0 x1 h k t => n_Bl_writeEndedGroups e (fun _ _ => rfl) x0 x1 h), ⟨rfl, rfl, zca2_e (fun x0 x1 h k t => n_Co_lookAtBarrier e (fun _ _ => rfl) x0 x1 h), trivial⟩⟩⟩
  · exact ⟨rfl, rfl, rfl, zap2_e (fun x0 x1 h => n_Co_settle_20 e hk x0 x1 h), trivial⟩
set_option maxRecDepth 100000 in
set_option maxHeartbeats 0 in
theorem n_La_isSpoiled_23 {ρ : Type} (e : zRes → Option ρ) {krA : Int → zH → Option ρ} {krZ : Int → zH → Option zRes} (hk : ∀ v h, (krZ v h).bind e = krA v h) (t0 : Int) (h : zH) : (La_isSpoiled_23 krZ t0 h).bind e = La_isSpoiled_23 krA t0 h := by
  refine Eq.trans (congrArg (fun z => Option.bind z e) (qe_La_isSpoiled_23 krZ t0 h)) (Eq.trans ?_ (Eq.symm (qe_La_isSpoiled_23 krA t0 h)))
  generalize (400 : Nat) = f9
  refine zseg_e e (zcal_e _ _ ?_) (zorc_e _ _ ?_) hk (fun _ _ => rfl) f9 _ _ _ _
  · exact trivial
  · exact trivial
set_option maxRecDepth 100000 in
set_option maxHeartbeats 0 in
theorem n_La_isSpoiled_18 {ρ : Type} (e : zRes → Option ρ) {krA : Int → zH → Option ρ} {krZ : Int → zH → Option zRes} (hk : ∀ v h, (krZ v h).bind e = krA v h) (h : zH) : (La_isSpoiled_18 krZ h).bind e = La_isSpoiled_18 krA h := by
  refine Eq.trans (congrArg (fun z => Option.bind z e) (qe_La_isSpoiled_18 krZ h)) (Eq.trans ?_ (Eq.symm (qe_La_isSpoiled_18 krA h)))
  generalize (400 : Nat) = f9
  refine zseg_e e (zcal_e _ _ ?_) (zorc_e _ _ ?_) hk (fun _ _ => rfl) f9 _ _ _ _
  · exact trivial
  · exact ⟨rfl, rfl, rfl, zap1_e (fun x0 h => n_La_isSpoiled_23 e hk x0 h), trivial⟩
set_option maxRecDepth 100000 in
set_option maxHeartbeats 0 in
theorem n_La_isSpoiled {ρ : Type} (e : zRes → Option ρ) {krA : Int → zH → Option ρ} {krZ : Int → zH → Option zRes} (hk : ∀ v h, (krZ v h).bind e = krA v h) (a0 : Int) (h : zH) : (La_isSpoiled a0 h krZ).bind e = La_isSpoiled a0 h krA := by
  refine Eq.trans (congrArg (fun z => Option.bind z e) (qe_La_isSpoiled krZ a0 h)) (Eq.trans ?_ (Eq.symm (qe_La_isSpoiled krA a0 h)))
  generalize (400 : Nat) = f9
  refine zseg_e e (zcal_e _ _ ?_) (zorc_e _ _ ?_) hk (fun _ _ => rfl) f9 _ _ _ _
  · exact trivial
  · exact ⟨rfl, rfl, rfl, zap0_e (fun  h => n_La_isSpoiled_18 e hk  h), ⟨rfl, rfl, rfl, zap1_e (fun x0 h => n_La_isSpoiled_23 e hk x0 h), trivial⟩⟩
set_option maxRecDepth 100000 in
set_option maxHeartbeats 0 in
theorem n_Le_decide_66 {ρ : Type} (e : zRes → Option ρ) {krA : Int → zH → Option ρ} {krZ : Int → zH → Option zRes} (hk : ∀ v h, (krZ v h).bind e = krA v h) (h : zH) : (Le_decide_66 krZ h).bind e = Le_decide_66 krA h := by
  refine Eq.trans (congrArg (fun z => Option.bind z e) (qe_Le_decide_66 krZ h)) (Eq.trans ?_ (Eq.symm (qe_Le_decide_66 krA h)))
  generalize (400 : Nat) = f9
  refine zseg_e e (zcal_e _ _ ?_) (zorc_e _ _ ?_) hk (fun _ _ => rfl) f9 _ _ _ _
  · exact trivial
  · exact trivial
set_option maxRecDepth 100000 in
set_option maxHeartbeats 0 in
theorem n_Le_decide_34 {ρ : Type} (e : zRes → Option ρ) {krA : Int → zH → Option ρ} {krZ : Int → zH → Option zRes} (hk : ∀ v h, (krZ v h).bind e = krA v h) (a0 : Int) (h : zH) : (Le_decide_34 krZ a0 h).bind e = Le_decide_34 krA a0 h := by
  refine Eq.trans (congrArg (fun z => Option.bind z e) (qe_Le_decide_34 krZ a0 h)) (Eq.trans ?_ (Eq.symm (qe_Le_decide_34 krA a0 h)))
  generalize (400 : Nat) = f9
  refine zseg_e e (zcal_e _ _ ?_) (zorc_e _ _ ?_) hk (fun _ _ => rfl) f9 _ _ _ _
  · exact trivial
  · exact ⟨rfl, rfl, rfl, zap0_e (fun  h => n_Le_decide_66 e hk  h), trivial⟩
set_option maxRecDepth 100000 in
set_option maxHeartbeats 0 in
theorem n_Le_decide_60 {ρ : Type} (e : zRes → Option ρ) {krA : Int → zH → Option ρ} {krZ : Int → zH → Option zRes} (hk : ∀ v h, (krZ v h).bind e = krA v h) (a0 : Int) (h : zH) : (Le_decide_60 krZ a0 h).bind e = Le_decide_60 krA a0 h := by
  refine Eq.trans (congrArg (fun z => Option.bind z e) (qe_Le_decide_60 krZ a0 h)) (Eq.trans ?_ (Eq.symm (qe_Le_decide_60 krA a0 h)))
  generalize (400 : Nat) = f9
  refine zseg_e e (zcal_e _ _ ?_) (zorc_e _ _ ?_) hk (fun _ _ => rfl) f9 _ _ _ _
  · exact trivial
  · exact ⟨rfl, rfl, rfl, zap0_e (fun  h => n_Le_decide_66 e hk  h), trivial⟩
set_option maxRecDepth 100000 in
set_option maxHeartbeats 0 in
theorem n_Le_decide_43 {ρ : Type} (e : zRes → Option ρ) {krA : Int → zH → Option ρ} {krZ : Int → zH → Option zRes} (hk : ∀ v h, (krZ v h).bind e = krA v h) (a0 : Int) (h : zH) : (Le_decide_43 krZ a0 h).bind e = Le_decide_43 krA a0 h := by
  refine Eq.trans (congrArg (fun z => Option.bind z e) (qe_Le_decide_43 krZ a0 h)) (Eq.trans ?_ (Eq.symm (qe_Le_decide_43 krA a0 h)))
  generalize (400 : Nat) = f9
  refine zseg_e e (zcal_e _ _ ?_) (zorc_e _ _ ?_) hk (fun _ _ => rfl) f9 _ _ _ _
  · exact ⟨rfl, rfl, zca1_e (fun x0 h k t => n_La_isOver e (fun _ _ => rfl) x0 h), trivial⟩
  · exact ⟨rfl, rfl, rfl, zap1_e (fun x0 h => n_Le_decide_60 e hk x0 h), ⟨rfl, rfl, rfl, zap0_e (fun  h => n_Le_decide_66 e hk  h), trivial⟩⟩
set_option maxRecDepth 100000 in
set_option maxHeartbeats 0 in
theorem n_Le_decide_17 {ρ : Type} (e : zRes → Option ρ) {krA : Int → zH → Option ρ} {krZ : Int → zH → Option zRes} (hk : ∀ v h, (krZ v h).bind e = krA v h) (a0 : Int) (h : zH) : (Le_decide_17 krZ a0 h).bind e = Le_decide_17 krA a0 h := by
  refine Eq.trans (congrArg (fun z => Option.bind z e) (qe_Le_decide_17 krZ a0 h)) (Eq.trans ?_ (Eq.symm (qe_Le_decide_17 krA a0 h)))
  generalize (400 : Nat) = f9
  refine zseg_e e (zcal_e _ _ ?_) (zorc_e _ _ ?_) hk (fun _ _ => rfl) f9 _ _ _ _
  · exact ⟨rfl, rfl, zca1_e (fun x0 h k t => n_La_isSpoiled e (fun _ _ => rfl) x0 h), trivial⟩
  · exact ⟨rfl, rfl, rfl, zap1_e (fun x0 h => n_Le_decide_34 e hk x0 h), ⟨rfl, rfl, rfl, zap1_e (fun x0 h => n_Le_decide_43 e hk x0 h), trivial⟩⟩
set_option maxRecDepth 100000 in
set_option maxHeartbeats 0 in
theorem n_Le_decide {ρ : Type} (e : zRes → Option ρ) {krA : Int → zH → Option ρ} {krZ : Int → zH → Option zRes} (hk : ∀ v h, (krZ v h).bind e = krA v h) (a0 : Int) (h : zH) : (Le_decide a0 h krZ).bind e = Le_decide a0 h krA := by
  refine Eq.trans (congrArg (fun z => Option.bind z e) (qe_Le_decide krZ a0 h)) (Eq.trans ?_ (Eq.symm (qe_Le_decide krA a0 h)))
  generalize (400 : Nat) = f9
  refine zseg_e e (zcal_e _ _ ?_) (zorc_e _ _ ?_) hk (fun _ _ => rfl) f9 _ _ _ _
  · exact ⟨rfl, rfl, zca1_e (fun x0 h k t => n_La_isSpoiled e (fun _ _ => rfl) x0 h), trivial⟩
  · exact ⟨rfl, rfl, rfl, zap1_e (fun x0 h => n_Le_decide_17 e hk x0 h), ⟨rfl, rfl, rfl, zap1_e (fun x0 h => n_Le_decide_34 e hk x0 h), trivial⟩⟩
set_option maxRecDepth 100000 in
set_option maxHeartbeats 0 in
theorem n_Le_startIn_56 {ρ : Type} (e : zRes → Option ρ) {krA : Int → zH → Option ρ} {krZ : Int → zH → Option zRes} (hk : ∀ v h, (krZ v h).bind e = krA v h) {r2A : Int → Int → Int → zH → Option ρ} {r2Z : Int → Int → Int → zH → Option zRes} (h2 : ∀ (x0 x1 x2 : Int) (h : zH), (r2Z x0 x1 x2 h).bind e = r2A x0 x1 x2 h) (a0 a1 a2 : Int) (h : zH) : (Le_startIn_56 krZ r2Z a0 a1 a2 h).bind e = Le_startIn_56 krA r2A a0 a1 a2 h := by
  refine Eq.trans (congrArg (fun z => Option.bind z e) (qe_Le_startIn_56 krZ r2Z a0 a1 a2 h)) (Eq.trans ?_ (Eq.symm (qe_Le_startIn_56 krA r2A a0 a1 a2 h)))
  generalize (400 : Nat) = f9
  refine zseg_e e (zcal_e _ _ ?_) (zorc_e _ _ ?_) hk (fun _ _ => rfl) f9 _ _ _ _
  · exact trivial
  · exact ⟨rfl, rfl, rfl, zap3_e h2, trivial⟩
set_option maxRecDepth 100000 in
set_option maxHeartbeats 0 in
theorem n_Le_startIn_48 {ρ : Type} (e : zRes → Option ρ) {krA : Int → zH → Option ρ} {krZ : Int → zH → Option zRes} (hk : ∀ v h, (krZ v h).bind e = krA v h) {r2A : Int → Int → Int → zH → Option ρ} {r2Z : Int → Int → Int → zH → Option zRes} (h2 : ∀ (x0 x1 x2 : Int) (h : zH), (r2Z x0 x1 x2 h).bind e = r2A x0 x1 x2 h) (a0 a1 a2 a3 : Int) (h : zH) : (Le_startIn_48 krZ r2Z a0 a1 a2 a3 h).bind e = Le_startIn_48 krA r2A a0 a1 a2 a3 h := by
  refine Eq.trans (congrArg (fun z => Option.bind z e) (qe_Le_startIn_48 krZ r2Z a0 a1 a2 a3 h)) (Eq.trans ?_ (Eq.symm (qe_Le_startIn_48 krA r2A a0 a1 a2 a3 h)))
  generalize (400 : Nat) = f9
  refine zseg_e e (zcal_e _ _ ?_) (zorc_e _ _ ?_) hk (fun _ _ => rfl) f9 _ _ _ _
  · exact ⟨rfl, rfl, zca1_e (fun x0 h k t => n_La_isOver e (fun _ _ => rfl) x0 h), trivial⟩
  · exact ⟨rfl, rfl, rfl, zap3_e (fun x0 x1 x2 h => n_Le_startIn_56 e hk h2 x0 x1 x2 h), trivial⟩
set_option maxRecDepth 100000 in
set_option maxHeartbeats 0 in
theorem n_Le_startIn_2b {ρ : Type} (e : zRes → Option ρ) {krA : Int → zH → Option ρ} {krZ : Int → zH → Option zRes} (hk : ∀ v h, (krZ v h).bind e = krA v h) {r2A : Int → Int → Int → zH → Option ρ} {r2Z : Int → Int → Int → zH → Option zRes} (h2 : ∀ (x0 x1 x2 : Int) (h : zH), (r2Z x0 x1 x2 h).bind e = r2A x0 x1 x2 h) (a0 a1 a2 : Int) (h : zH) : (Le_startIn_2b krZ r2Z a0 a1 a2 h).bind e = Le_startIn_2b krA r2A a0 a1 a2 h := by
  refine Eq.trans (congrArg (fun z => Option.bind z e) (qe_Le_startIn_2b krZ r2Z a0 a1 a2 h)) (Eq.trans ?_ (Eq.symm (qe_Le_startIn_2b krA r2A a0 a1 a2 h)))
  generalize (400 : Nat) = f9
  refine zseg_e e (zcal_e _ _ ?_) (zorc_e _ _ ?_) hk (fun _ _ => rfl) f9 _ _ _ _
  · exact ⟨rfl, rfl, zca1_e (fun x0 h k t => n_La_isOver e (fun _ _ => rfl) x0 h), ⟨rfl, rfl, zca1_e (fun x0 h k t => n_Le_decide e (fun _ _ => rfl) x0 h), trivial⟩⟩
  · exact ⟨rfl, rfl, rfl, zap4_e (fun x0 x1 x2 x3 h => n_Le_startIn_48 e hk h2 x0 x1 x2 x3 h), ⟨rfl, rfl, rfl, zap3_e (fun x0 x1 x2 h => n_Le_startIn_56 e hk h2 x0 x1 x2 h), trivial⟩⟩
theorem n_Le_startIn_2 {ρ : Type} (e : zRes → Option ρ) {krA : Int → zH → Option ρ} {krZ : Int → zH → Option zRes} (hk : ∀ v h, (krZ v h).bind e = krA v h) (a0 a1 a2 : Int) (h : zH) : (Le_startIn_2 krZ a0 a1 a2 h).bind e = Le_startIn_2 krA a0 a1 a2 h := zit3_e (fun rA rZ hh a0 a1 a2 h => n_Le_startIn_2b e hk hh a0 a1 a2 h) zN a0 a1 a2 h
set_option maxRecDepth 100000 in
set_option maxHeartbeats 0 in
theorem n_Le_startIn {ρ : Type} (e : zRes → Option ρ) {krA : Int → zH → Option ρ} {krZ : Int → zH → Option zRes} (hk : ∀ v h, (krZ v h).bind e = krA v h) (a0 a1 : Int) (h : zH) : (Le_startIn a0 a1 h krZ).bind e = Le_startIn a0 a1 h krA := by
  refine Eq.trans (congrArg (fun z => Option.bind z e) (qe_Le_startIn krZ a0 a1 h)) (Eq.trans ?_ (Eq.symm (qe_Le_startIn krA a0 a1 h)))
  generalize (400 : Nat) = f9
  refine zseg_e e (zcal_e _ _ ?_) (zorc_e _ _ ?_) hk (fun _ _ => rfl) f9 _ _ _ _
  · exact trivial
  · exact ⟨rfl, rfl, rfl, zap3_e (fun x0 x1 x2 h => n_Le_startIn_2 e hk x0 x1 x2 h), trivial⟩
set_option maxRecDepth 100000 in
set_option maxHeartbeats 0 in
theorem n_Le_startQueued_65 {ρ : Type} (e : zRes → Option ρ) {krA : Int → zH → Option ρ} {krZ : Int → zH → Option zRes} (hk : ∀ v h, (krZ v h).bind e = krA v h) {r20A : Int → Int → zH → Option ρ} {r20Z : Int → Int → zH → Option zRes} (h20 : ∀ (x0 x1 : Int) (h : zH), (r20Z x0 x1 h).bind e = r20A x0 x1 h) (a0 a1 : Int) (h : zH) : (Le_startQueued_65 krZ r20Z a0 a1 h).bind e = Le_startQueued_65 krA r20A a0 a1 h := by
  refine Eq.trans (congrArg (fun z => Option.bind z e) (qe_Le_startQueued_65 krZ r20Z a0 a1 h)) (Eq.trans ?_ (Eq.symm (qe_Le_startQueued_65 krA r20A a0 a1 h)))
  generalize (400 : Nat) = f9
  refine zseg_e e (zcal_e _ _ ?_) (zorc_e _ _ ?_) hk (fun _ _ => rfl) f9 _ _ _ _
  · exact trivial
  · exact ⟨rfl, rfl, rfl, zap2_e h20, trivial⟩
set_option maxRecDepth 100000 in
set_option maxHeartbeats 0 in
theorem n_Le_startQueued_20b {ρ : Type} (e : zRes → Option ρ) {krA : Int → zH → Option ρ} {krZ : Int → zH → Option zRes} (hk : ∀ v h, (krZ v h).bind e = krA v h) {r20A : Int → Int → zH → Option ρ} {r20Z : Int → Int → zH → Option zRes} (h20 : ∀ (x0 x1 : Int) (h : zH), (r20Z x0 x1 h).bind e = r20A x0 x1 h) (a0 a1 : Int) (h : zH) : (Le_startQueued_20b krZ r20Z a0 a1 h).bind e = Le_startQueued_20b krA r20A a0 a1 h := by
  refine Eq.trans (congrArg (fun z => Option.bind z e) (qe_Le_startQueued_20b krZ r20Z a0 a1 h)) (Eq.trans ?_ (Eq.symm (qe_Le_startQueued_20b krA r20A a0 a1 h)))
  generalize (400 : Nat) = f9
  refine zseg_e e (zcal_e _ _ ?_) (zorc_e _ _ ?_) hk (fun _ _ => rfl) f9 _ _ _ _
  · exact trivial
  · exact ⟨rfl, rfl, rfl, zap2_e (fun x0 x1 h => n_Le_startQueued_65 e hk h20 x0 x1 h), trivial⟩
theorem n_Le_startQueued_20 {ρ : Type} (e : zRes → Option ρ) {krA : Int → zH → Option ρ} {krZ : Int → zH → Option zRes} (hk : ∀ v h, (krZ v h).bind e = krA v h) (a0 a1 : Int) (h : zH) : (Le_startQueued_20 krZ a0 a1 h).bind e = Le_startQueued_20 krA a0 a1 h := zit2_e (fun rA rZ hh a0 a1 h => n_Le_startQueued_20b e hk hh a0 a1 h) zN a0 a1 h
set_option maxRecDepth 100000 in
set_option maxHeartbeats 0 in
theorem n_Le_startQueued_2b {ρ : Type} (e : zRes → Option ρ) {krA : Int → zH → Option ρ} {krZ : Int → zH → Option zRes} (hk : ∀ v h, (krZ v h).bind e = krA v h) {r2A : Int → Int → zH → Option ρ} {r2Z : Int → Int → zH → Option zRes} (h2 : ∀ (x0 x1 : Int) (h : zH), (r2Z x0 x1 h).bind e = r2A x0 x1 h) (a0 a1 : Int) (h : zH) : (Le_startQueued_2b krZ r2Z a0 a1 h).bind e = Le_startQueued_2b krA r2A a0 a1 h := by
  refine Eq.trans (congrArg (fun z => Option.bind z e) (qe_Le_startQueued_2b krZ r2Z a0 a1 h)) (Eq.trans ?_ (Eq.symm (qe_Le_startQueued_2b krA r2A a0 a1 h)))
  generalize (400 : Nat) = f9
  refine zseg_e e (zcal_e _ _ ?_) (zorc_e _ _ ?_) hk (fun _ _ => rfl) f9 _ _ _ _
  · exact ⟨rfl, rfl, zca2_e (fun x0 x1 h k t => n_Le_startIn e (fun _ _ => rfl) x0 x1 h), trivial⟩
  · exact ⟨rfl, rfl, rfl, zap2_e h2, ⟨rfl, rfl, rfl, zap2_e (fun x0 x1 h => n_Le_startQueued_20 e hk x0 x1 h), trivial⟩⟩
theorem n_Le_startQueued_2 {ρ : Type} (e : zRes → Option ρ) {krA : Int → zH → Option ρ} {krZ : Int → zH → Option zRes} (hk : ∀ v h, (krZ v h).bind e = krA v h) (a0 a1 : Int) (h : zH) : (Le_startQueued_2 krZ a0 a1 h).bind e = Le_startQueued_2 krA a0 a1 h := zit2_e (fun rA rZ hh a0 a1 h => n_Le_startQueued_2b e hk hh a0 a1 h) zN a0 a1 h
set_option maxRecDepth 100000 in
set_option maxHeartbeats 0 in
theorem n_Le_startQueued {ρ : Type} (e : zRes → Option ρ) {krA : Int → zH → Option ρ} {krZ : Int → zH → Option zRes} (hk : ∀ v h, (krZ v h).bind e = krA v h) (a0 : Int) (h : zH) : (Le_startQueued a0 h krZ).bind e = Le_startQueued a0 h krA := by
  refine Eq.trans (congrArg (fun z => Option.bind z e) (qe_Le_startQueued krZ a0 h)) (Eq.trans ?_ (Eq.symm (qe_Le_startQueued krA a0 h)))
  generalize (400 : Nat) = f9
  refine zseg_e e (zcal_e _ _ ?_) (zorc_e _ _ ?_) hk (fun _ _ => rfl) f9 _ _ _ _
  · exact trivial
  · exact ⟨rfl, rfl, rfl, zap2_e (fun x0 x1 h => n_Le_startQueued_2 e hk x0 x1 h), trivial⟩
set_option maxRecDepth 100000 in
set_option maxHeartbeats 0 in
theorem n_Gr_canAct_21 {ρ : Type} (e : zRes → Option ρ) {krA : Int → zH → Option ρ} {krZ : Int → zH → Option zRes} (hk : ∀ v h, (krZ v h).bind e = krA v h) (t0 : Int) (h : zH) : (Gr_canAct_21 krZ t0 h).bind e = Gr_canAct_21 krA t0 h := by
  refine Eq.trans (congrArg (fun z => Option.bind z e) (qe_Gr_canAct_21 krZ t0 h)) (Eq.trans ?_ (Eq.symm (qe_Gr_canAct_21 krA t0 h)))
  generalize (400 : Nat) = f9
  refine zseg_e e (zcal_e _ _ ?_) (zorc_e _ _ ?_) hk (fun _ _ => rfl) f9 _ _ _ _
  · exact trivial
  · exact trivial
set_option maxRecDepth 100000 in
set_option maxHeartbeats 0 in
theorem n_Gr_canAct_20 {ρ : Type} (e : zRes → Option ρ) {krA : Int → zH → Option ρ} {krZ : Int → zH → Option zRes} (hk : ∀ v h, (krZ v h).bind e = krA v h) (h : zH) : (Gr_canAct_20 krZ h).bind e = Gr_canAct_20 krA h := by
  refine Eq.trans (congrArg (fun z => Option.bind z e) (qe_Gr_canAct_20 krZ h)) (Eq.trans ?_ (Eq.symm (qe_Gr_canAct_20 krA h)))
  generalize (400 : Nat) = f9
  refine zseg_e e (zcal_e _ _ ?_) (zorc_e _ _ ?_) hk (fun _ _ => rfl) f9 _ _ _ _
  · exact trivial
  · exact ⟨rfl, rfl, rfl, zap1_e (fun x0 h => n_Gr_canAct_21 e hk x0 h), trivial⟩
set_option maxRecDepth 100000 in
set_option maxHeartbeats 0 in
theorem n_Gr_canAct {ρ : Type} (e : zRes → Option ρ) {krA : Int → zH → Option ρ} {krZ : Int → zH → Option zRes} (hk : ∀ v h, (krZ v h).bind e = krA v h) (a0 a1 : Int) (h : zH) : (Gr_canAct a0 a1 h krZ).bind e = Gr_canAct a0 a1 h krA := by
  refine Eq.trans (congrArg (fun z => Option.bind z e) (qe_Gr_canAct krZ a0 a1 h)) (Eq.trans ?_ (Eq.symm (qe_Gr_canAct krA a0 a1 h)))
  generalize (400 : Nat) = f9
  refine zseg_e e (zcal_e _ _ ?_) (zorc_e _ _ ?_) hk (fun _ _ => rfl) f9 _ _ _ _
  · exact ⟨rfl, rfl, zca1_e (fun x0 h k t => n_Gr_leastPlace e (fun _ _ => rfl) x0 h), trivial⟩
  · exact ⟨rfl, rfl, rfl, zap0_e (fun  h => n_Gr_canAct_20 e hk  h), ⟨rfl, rfl, rfl, zap1_e (fun x0 h => n_Gr_canAct_21 e hk x0 h), trivial⟩⟩
set_option maxRecDepth 100000 in
set_option maxHeartbeats 0 in
theorem n_Un_indexOfLast_2b {ρ : Type} (e : zRes → Option ρ) {krA : Int → zH → Option ρ} {krZ : Int → zH → Option zRes} (hk : ∀ v h, (krZ v h).bind e = krA v h) {r2A : Int → Int → zH → Option ρ} {r2Z : Int → Int → zH → Option zRes} (h2 : ∀ (x0 x1 : Int) (h : zH), (r2Z x0 x1 h).bind e = r2A x0 x1 h) (a0 a1 : Int) (h : zH) : (Un_indexOfLast_2b krZ r2Z a0 a1 h).bind e = Un_indexOfLast_2b krA r2A a0 a1 h := by
  refine Eq.trans (congrArg (fun z => Option.bind z e) (qe_Un_indexOfLast_2b krZ r2Z a0 a1 h)) (Eq.trans ?_ (Eq.symm (qe_Un_indexOfLast_2b krA r2A a0 a1 h)))
  generalize (400 : Nat) = f9
  refine zseg_e e (zcal_e _ _ ?_) (zorc_e _ _ ?_) hk (fun _ _ => rfl) f9 _ _ _ _
  · exact trivial
  · exact ⟨rfl, rfl, rfl, zap2_e h2, trivial⟩
theorem n_Un_indexOfLast_2 {ρ : Type} (e : zRes → Option ρ) {krA : Int → zH → Option ρ} {krZ : Int → zH → Option zRes} (hk : ∀ v h, (krZ v h).bind e = krA v h) (a0 a1 : Int) (h : zH) : (Un_indexOfLast_2 krZ a0 a1 h).bind e = Un_indexOfLast_2 krA a0 a1 h := zit2_e (fun rA rZ hh a0 a1 h => n_Un_indexOfLast_2b e hk hh a0 a1 h) zN a0 a1 h
set_option maxRecDepth 100000 in
set_option maxHeartbeats 0 in
theorem n_Un_indexOfLast {ρ : Type} (e : zRes → Option ρ) {krA : Int → zH → Option ρ} {krZ : Int → zH → Option zRes} (hk : ∀ v h, (krZ v h).bind e = krA v h) (a0 : Int) (h : zH) : (Un_indexOfLast a0 h krZ).bind e = Un_indexOfLast a0 h krA := by
  refine Eq.trans (congrArg (fun z => Option.bind z e) (qe_Un_indexOfLast krZ a0 h)) (Eq.trans ?_ (Eq.symm (qe_Un_indexOfLast krA a0 h)))
  generalize (400 : Nat) = f9
  refine zseg_e e (zcal_e _ _ ?_) (zorc_e _ _ ?_) hk (fun _ _ => rfl) f9 _ _ _ _
  · exact trivial
  · exact ⟨rfl, rfl, rfl, zap2_e (fun x0 x1 h => n_Un_indexOfLast_2 e hk x0 x1 h), trivial⟩
set_option maxRecDepth 100000 in
set_option maxHeartbeats 0 in
theorem n_Un_choose_56 {ρ : Type} (e : zRes → Option ρ) {krA : Int → zH → Option ρ} {krZ : Int → zH → Option zRes} (hk : ∀ v h, (krZ v h).bind e = krA v h) {r20A : Int → Int → Int → Int → Int → zH → Option ρ} {r20Z : Int → Int → Int → Int → Int → zH → Option zRes} (h20 : ∀ (x0 x1 x2 x3 x4 : Int) (h : zH), (r20Z x0 x1 x2 x3 x4 h).bind e = r20A x0 x1 x2 x3 x4 h) (a0 a1 a2 a3 a4 t0 : Int) (h : zH) : (Un_choose_56 krZ r20Z a0 a1 a2 a3 a4 t0 h).bind e = Un_choose_56 krA r20A a0 a1 a2 a3 a4 t0 h := by
  refine Eq.trans (congrArg (fun z => Option.bind z e) (qe_Un_choose_56 krZ r20Z a0 a1 a2 a3 a4 t0 h)) (Eq.trans ?_ (Eq.symm (qe_Un_choose_56 krA r20A a0 a1 a2 a3 a4 t0 h)))
  generalize (400 : Nat) = f9
  refine zseg_e e (zcal_e _ _ ?_) (zorc_e _ _ ?_) hk (fun _ _ => rfl) f9 _ _ _ _
  · exact ⟨rfl, rfl, zca2_e (fun x0 x1 h k t => n_Gr_canAct e (fun _ _ => rfl) x0 x1 h), trivial⟩
  · exact ⟨rfl, rfl, rfl, zap5_e h20, trivial⟩
set_option maxRecDepth 100000 in
set_option maxHeartbeats 0 in
theorem n_Un_choose_20b {ρ : Type} (e : zRes → Option ρ) {krA : Int → zH → Option ρ} {krZ : Int → zH → Option zRes} (hk : ∀ v h, (krZ v h).bind e = krA v h) {r20A : Int → Int → Int → Int → Int → zH → Option ρ} {r20Z : Int → Int → Int → Int → Int → zH → Option zRes} (h20 : ∀ (x0 x1 x2 x3 x4 : Int) (h : zH), (r20Z x0 x1 x2 x3 x4 h).bind e = r20A x0 x1 x2 x3 x4 h) (a0 a1 a2 a3 a4 : Int) (h : zH) : (Un_choose_20b krZ r20Z a0 a1 a2 a3 a4 h).bind e = Un_choose_20b krA r20A a0 a1 a2 a3 a4 h := by
  refine Eq.trans (congrArg (fun z => Option.bind z e) (qe_Un_choose_20b krZ r20Z a0 a1 a2 a3 a4 h)) (Eq.trans ?_ (Eq.symm (qe_Un_choose_20b krA r20A a0 a1 a2 a3 a4 h)))
  generalize (400 : Nat) = f9
  refine zseg_e e (zcal_e _ _ ?_) (zorc_e _ _ ?_) hk (fun _ _ => rfl) f9 _ _ _ _
  · exact trivial
  · exact ⟨rfl, rfl, rfl, zap6_e (fun x0 x1 x2 x3 x4 x5 h => n_Un_choose_56 e hk h20 x0 x1 x2 x3 x4 x5 h), trivial⟩
theorem n_Un_choose_20 {ρ : Type} (e : zRes → Option ρ) {krA : Int → zH → Option ρ} {krZ : Int → zH → Option zRes} (hk : ∀ v h, (krZ v h).bind e = krA v h) (a0 a1 a2 a3 a4 : Int) (h : zH) : (Un_choose_20 krZ a0 a1 a2 a3 a4 h).bind e = Un_choose_20 krA a0 a1 a2 a3 a4 h := zit5_e (fun rA rZ hh a0 a1 a2 a3 a4 h => n_Un_choose_20b e hk hh a0 a1 a2 a3 a4 h) zN a0 a1 a2 a3 a4 h
set_option maxRecDepth 100000 in
set_option maxHeartbeats 0 in
theorem n_Un_choose_16 {ρ : Type} (e : zRes → Option ρ) {krA : Int → zH → Option ρ} {krZ : Int → zH → Option zRes} (hk : ∀ v h, (krZ v h).bind e = krA v h) (a0 a1 a2 t0 : Int) (h : zH) : (Un_choose_16 krZ a0 a1 a2 t0 h).bind e = Un_choose_16 krA a0 a1 a2 t0 h := by
  refine Eq.trans (congrArg (fun z => Option.bind z e) (qe_Un_choose_16 krZ a0 a1 a2 t0 h)) (Eq.trans ?_ (Eq.symm (qe_Un_choose_16 krA a0 a1 a2 t0 h)))
  generalize (400 : Nat) = f9
  refine zseg_e e (zcal_e _ _ ?_) (zorc_e _ _ ?_) hk (fun _ _ => rfl) f9 _ _ _ _
  · exact trivial
  · exact ⟨rfl, rfl, rfl, zap5_e (fun x0 x1 x2 x3 x4 h => n_Un_choose_20 e hk x0 x1 x2 x3 x4 h), trivial⟩
set_option maxRecDepth 100000 in
set_option maxHeartbeats 0 in
theorem n_Un_choose {ρ : Type} (e : zRes → Option ρ) {krA : Int → zH → Option ρ} {krZ : Int → zH → Option zRes} (hk : ∀ v h, (krZ v h).bind e = krA v h) (a0 a1 a2 : Int) (h : zH) : (Un_choose a0 a1 a2 h krZ).bind e = Un_choose a0 a1 a2 h krA := by
  refine Eq.trans (congrArg (fun z => Option.bind z e) (qe_Un_choose krZ a0 a1 a2 h)) (Eq.trans ?_ (Eq.symm (qe_Un_choose krA a0 a1 a2 h)))
  generalize (400 : Nat) = f9
  refine zseg_e e (zcal_e _ _ ?_) (zorc_e _ _ ?_) hk (fun _ _ => rfl) f9 _ _ _ _
  · exact ⟨rfl, rfl, zca1_e (fun x0 h k t => n_Un_indexOfLast e (fun _ _ => rfl) x0 h), trivial⟩
  · exact ⟨rfl, rfl, rfl, zap4_e (fun x0 x1 x2 x3 h => n_Un_choose_16 e hk x0 x1 x2 x3 h), trivial⟩
set_option maxRecDepth 100000 in
set_option maxHeartbeats 0 in
theorem n_Co_letCycleCome_66 {ρ : Type} (e : zRes → Option ρ) {krA : Int → zH → Option ρ} {krZ : Int → zH → Option zRes} (hk : ∀ v h, (krZ v h).bind e = krA v h) {r17A : Int → Int → zH → Option ρ} {r17Z : Int → Int → zH → Option zRes} (h17 : ∀ (x0 x1 : Int) (h : zH), (r17Z x0 x1 h).bind e = r17A x0 x1 h) (a0 a1 : Int) (h : zH) : (Co_letCycleCome_66 krZ r17Z a0 a1 h).bind e = Co_letCycleCome_66 krA r17A a0 a1 h := by
  refine Eq.trans (congrArg (fun z => Option.bind z e) (qe_Co_letCycleCome_66 krZ r17Z a0 a1 h)) (Eq.trans ?_ (Eq.symm (qe_Co_letCycleCome_66 krA r17A a0 a1 h)))
  generalize (400 : Nat) = f9
  refine zseg_e e (zcal_e _ _ ?_) (zorc_e _ _ ?_) hk (fun _ _ => rfl) f9 _ _ _ _
  · exact trivial
  · exact ⟨rfl, rfl, rfl, zap2_e h17, trivial⟩
set_option maxRecDepth 100000 in
set_option maxHeartbeats 0 in
theorem n_Co_letCycleCome_86 {ρ : Type} (e : zRes → Option ρ) {krA : Int → zH → Option ρ} {krZ : Int → zH → Option zRes} (hk : ∀ v h, (krZ v h).bind e = krA v h) (a0 : Int) (h : zH) : (Co_letCycleCome_86 krZ a0 h).bind e = Co_letCycleCome_86 krA a0 h := by
  refine Eq.trans (congrArg (fun z => Option.bind z e) (qe_Co_letCycleCome_86 krZ a0 h)) (Eq.trans ?_ (Eq.symm (qe_Co_letCycleCome_86 krA a0 h)))
  generalize (400 : Nat) = f9
  refine zseg_e e (zcal_e _ _ ?_) (zorc_e _ _ ?_) hk (fun _ _ => rfl) f9 _ _ _ _
  · exact trivial
  · exact trivial
set_option maxRecDepth 100000 in
set_option maxHeartbeats 0 in
theorem n_Co_letCycleCome_17b {ρ : Type} (e : zRes → Option ρ) {krA : Int → zH → Option ρ} {krZ : Int → zH → Option zRes} (hk : ∀ v h, (krZ v h).bind e = krA v h) {r17A : Int → Int → zH → Option ρ} {r17Z : Int → Int → zH → Option zRes} (h17 : ∀ (x0 x1 : Int) (h : zH), (r17Z x0 x1 h).bind e = r17A x0 x1 h) (a0 a1 : Int) (h : zH) : (Co_letCycleCome_17b krZ r17Z a0 a1 h).bind e = Co_letCycleCome_17b krA r17A a0 a1 h := by
  refine Eq.trans (congrArg (fun z => Option.bind z e) (qe_Co_letCycleCome_17b krZ r17Z a0 a1 h)) (Eq.trans ?_ (Eq.symm (qe_Co_letCycleCome_17b krA r17A a0 a1 h)))
  generalize (400 : Nat) = f9
  refine zseg_e e (zcal_e _ _ ?_) (zorc_e _ _ ?_) hk (fun _ _ => rfl) f9 _ _ _ _
  · exact ⟨rfl, rfl, zca1_e (fun x0 h k t => n_Co_writeFirstOfBuffers e (fun _ _ => rfl) x0 h), ⟨rfl, rfl, zca3_e (fun x0 x1 x2 h k t => n_Co_carryOut e (fun _ _ => rfl) x0 x1 x2 h), ⟨rfl, rfl, zca2_e (fun x0 x1 h k t => n_Co_settle e (fun _ _ => rfl) x0 x1 h), ⟨rfl, rfl, zca3_e (fun x0 x1 x2 h k t => n_Un_choose e (fun _ _ => rfl) x0 x1 x2 h), trivial⟩⟩⟩⟩
  · exact ⟨rfl, rfl, rfl, zap2_e (fun x0 x1 h => n_Co_letCycleCome_66 e hk h17 x0 x1 h), ⟨rfl, rfl, rfl, zap1_e (fun x0 h => n_Co_letCycleCome_86 e hk x0 h), trivial⟩⟩
theorem n_Co_letCycleCome_17 {ρ : Type} (e : zRes → Option ρ) {krA : Int → zH → Option ρ} {krZ : Int → zH → Option zRes} (hk : ∀ v h, (krZ v h).bind e = krA v h) (a0 a1 : Int) (h : zH) : (Co_letCycleCome_17 krZ a0 a1 h).bind e = Co_letCycleCome_17 krA a0 a1 h := zit2_e (fun rA rZ hh a0 a1 h => n_Co_letCycleCome_17b e hk hh a0 a1 h) zN a0 a1 h
set_option maxRecDepth 100000 in
set_option maxHeartbeats 0 in
theorem n_Co_letCycleCome {ρ : Type} (e : zRes → Option ρ) {krA : Int → zH → Option ρ} {krZ : Int → zH → Option zRes} (hk : ∀ v h, (krZ v h).bind e = krA v h) (a0 : Int) (h : zH) : (Co_letCycleCome a0 h krZ).bind e = Co_letCycleCome a0 h krA := by
  refine Eq.trans (congrArg (fun z => Option.bind z e) (qe_Co_letCycleCome krZ a0 h)) (Eq.trans ?_ (Eq.symm (qe_Co_letCycleCome krA a0 h)))
  generalize (400 : Nat) = f9
  refine zseg_e e (zcal_e _ _ ?_) (zorc_e _ _ ?_) hk (fun _ _ => rfl) f9 _ _ _ _
  · exact ⟨rfl, rfl, zca1_e (fun x0 h k t => n_Co_moveCopies e (fun _ _ => rfl) x0 h), ⟨rfl, rfl, zca1_e (fun x0 h k t => n_Co_giveBlocks e (fun _ _ => rfl) x0 h), ⟨rfl, rfl, zca1_e (fun x0 h k t => n_Le_startQueued e (fun _ _ => rfl) x0 h), trivial⟩⟩⟩
  · exact ⟨rfl, rfl, rfl, zap2_e (fun x0 x1 h => n_Co_letCycleCome_17 e hk x0 x1 h), trivial⟩
set_option maxRecDepth 100000 in
set_option maxHeartbeats 0 in
theorem n_X_step_32b {ρ : Type} (e : zRes → Option ρ) {krA : Int → zH → Option ρ} {krZ : Int → zH → Option zRes} (hk : ∀ v h, (krZ v h).bind e = krA v h) {ktA : Nat → zH → Option ρ} {ktZ : Nat → zH → Option zRes} (ht : ∀ n h, (ktZ n h).bind e = ktA n h) {r32A : Int → Int → Int → Int → zH → Option ρ} {r32Z : Int → Int → Int → Int → zH → Option zRes} (h32 : ∀ (x0 x1 x2 x3 : Int) (h : zH), (r32Z x0 x1 x2 x3 h).bind e = r32A x0 x1 x2 x3 h) (a0 a1 a2 a4 : Int) (h : zH) : (X_step_32b krZ ktZ r32Z a0 a1 a2 a4 h).bind e = X_step_32b krA ktA r32A a0 a1 a2 a4 h := by
  refine Eq.trans (congrArg (fun z => Option.bind z e) (qe_X_step_32b krZ ktZ r32Z a0 a1 a2 a4 h)) (Eq.trans ?_ (Eq.symm (qe_X_step_32b krA ktA r32A a0 a1 a2 a4 h)))
  generalize (400 : Nat) = f9
  refine zseg_e e (zcal_e _ _ ?_) (zorc_e _ _ ?_) hk ht f9 _ _ _ _
  · exact ⟨rfl, rfl, zca1_e (fun x0 h k t => n_Co_letCycleCome e (fun _ _ => rfl) x0 h), trivial⟩
  · exact ⟨rfl, rfl, rfl, zap4_e h32, trivial⟩
theorem n_X_step_32 {ρ : Type} (e : zRes → Option ρ) {krA : Int → zH → Option ρ} {krZ : Int → zH → Option zRes} (hk : ∀ v h, (krZ v h).bind e = krA v h) {ktA : Nat → zH → Option ρ} {ktZ : Nat → zH → Option zRes} (ht : ∀ n h, (ktZ n h).bind e = ktA n h) (a0 a1 a2 a4 : Int) (h : zH) : (X_step_32 krZ ktZ a0 a1 a2 a4 h).bind e = X_step_32 krA ktA a0 a1 a2 a4 h := zit4_e (fun rA rZ hh a0 a1 a2 a4 h => n_X_step_32b e hk ht hh a0 a1 a2 a4 h) zN a0 a1 a2 a4 h
set_option maxRecDepth 100000 in
set_option maxHeartbeats 0 in
theorem n_X_step {ρ : Type} (e : zRes → Option ρ) {krA : Int → zH → Option ρ} {krZ : Int → zH → Option zRes} (hk : ∀ v h, (krZ v h).bind e = krA v h) {ktA : Nat → zH → Option ρ} {ktZ : Nat → zH → Option zRes} (ht : ∀ n h, (ktZ n h).bind e = ktA n h) (a0 a1 : Int) (h : zH) : (X_step a0 a1 h ktZ krZ).bind e = X_step a0 a1 h ktA krA := by
  refine Eq.trans (congrArg (fun z => Option.bind z e) (qe_X_step krZ ktZ a0 a1 h)) (Eq.trans ?_ (Eq.symm (qe_X_step krA ktA a0 a1 h)))
  generalize (400 : Nat) = f9
  refine zseg_e e (zcal_e _ _ ?_) (zorc_e _ _ ?_) hk ht f9 _ _ _ _
  · exact ⟨rfl, rfl, zca3_e (fun x0 x1 x2 h k t => n_X_isWithin e (fun _ _ => rfl) x0 x1 x2 h), trivial⟩
  · exact ⟨rfl, rfl, rfl, zap4_e (fun x0 x1 x2 x3 h => n_X_step_32 e hk ht x0 x1 x2 x3 h), trivial⟩
set_option maxRecDepth 100000 in
set_option maxHeartbeats 0 in
theorem n_Le_isAllOver_2b {ρ : Type} (e : zRes → Option ρ) {krA : Int → zH → Option ρ} {krZ : Int → zH → Option zRes} (hk : ∀ v h, (krZ v h).bind e = krA v h) {r2A : Int → Int → zH → Option ρ} {r2Z : Int → Int → zH → Option zRes} (h2 : ∀ (x0 x1 : Int) (h : zH), (r2Z x0 x1 h).bind e = r2A x0 x1 h) (a0 a1 : Int) (h : zH) : (Le_isAllOver_2b krZ r2Z a0 a1 h).bind e = Le_isAllOver_2b krA r2A a0 a1 h := by
  refine Eq.trans (congrArg (fun z => Option.bind z e) (qe_Le_isAllOver_2b krZ r2Z a0 a1 h)) (Eq.trans ?_ (Eq.symm (qe_Le_isAllOver_2b krA r2A a0 a1 h)))
  generalize (400 : Nat) = f9
  refine zseg_e e (zcal_e _ _ ?_) (zorc_e _ _ ?_) hk (fun _ _ => rfl) f9 _ _ _ _
  · exact ⟨rfl, rfl, zca1_e (fun x0 h k t => n_La_isOver e (fun _ _ => rfl) x0 h), trivial⟩
  · exact ⟨rfl, rfl, rfl, zap2_e h2, trivial⟩
theorem n_Le_isAllOver_2 {ρ : Type} (e : zRes → Option ρ) {krA : Int → zH → Option ρ} {krZ : Int → zH → Option zRes} (hk : ∀ v h, (krZ v h).bind e = krA v h) (a0 a1 : Int) (h : zH) : (Le_isAllOver_2 krZ a0 a1 h).bind e = Le_isAllOver_2 krA a0 a1 h := zit2_e (fun rA rZ hh a0 a1 h => n_Le_isAllOver_2b e hk hh a0 a1 h) zN a0 a1 h
set_option maxRecDepth 100000 in
set_option maxHeartbeats 0 in
theorem n_Le_isAllOver {ρ : Type} (e : zRes → Option ρ) {krA : Int → zH → Option ρ} {krZ : Int → zH → Option zRes} (hk : ∀ v h, (krZ v h).bind e = krA v h) (a0 : Int) (h : zH) : (Le_isAllOver a0 h krZ).bind e = Le_isAllOver a0 h krA := by
  refine Eq.trans (congrArg (fun z => Option.bind z e) (qe_Le_isAllOver krZ a0 h)) (Eq.trans ?_ (Eq.symm (qe_Le_isAllOver krA a0 h)))
  generalize (400 : Nat) = f9
  refine zseg_e e (zcal_e _ _ ?_) (zorc_e _ _ ?_) hk (fun _ _ => rfl) f9 _ _ _ _
  · exact trivial
  · exact ⟨rfl, rfl, rfl, zap2_e (fun x0 x1 h => n_Le_isAllOver_2 e hk x0 x1 h), trivial⟩
set_option maxRecDepth 100000 in
set_option maxHeartbeats 0 in
theorem n_X_run_49 {ρ : Type} (e : zRes → Option ρ) {krA : Int → zH → Option ρ} {krZ : Int → zH → Option zRes} (hk : ∀ v h, (krZ v h).bind e = krA v h) {ktA : Nat → zH → Option ρ} {ktZ : Nat → zH → Option zRes} (ht : ∀ n h, (ktZ n h).bind e = ktA n h) (a2 : Int) (h : zH) : (X_run_49 krZ ktZ a2 h).bind e = X_run_49 krA ktA a2 h := by
  refine Eq.trans (congrArg (fun z => Option.bind z e) (qe_X_run_49 krZ ktZ a2 h)) (Eq.trans ?_ (Eq.symm (qe_X_run_49 krA ktA a2 h)))
  generalize (400 : Nat) = f9
  refine zseg_e e (zcal_e _ _ ?_) (zorc_e _ _ ?_) hk ht f9 _ _ _ _
  · exact trivial
  · exact trivial
set_option maxRecDepth 100000 in
set_option maxHeartbeats 0 in
theorem n_X_run_21b {ρ : Type} (e : zRes → Option ρ) {krA : Int → zH → Option ρ} {krZ : Int → zH → Option zRes} (hk : ∀ v h, (krZ v h).bind e = krA v h) {ktA : Nat → zH → Option ρ} {ktZ : Nat → zH → Option zRes} (ht : ∀ n h, (ktZ n h).bind e = ktA n h) {r21A : Int → Int → Int → zH → Option ρ} {r21Z : Int → Int → Int → zH → Option zRes} (h21 : ∀ (x0 x1 x2 : Int) (h : zH), (r21Z x0 x1 x2 h).bind e = r21A x0 x1 x2 h) (a0 a1 a2 : Int) (h : zH) : (X_run_21b krZ ktZ r21Z a0 a1 a2 h).bind e = X_run_21b krA ktA r21A a0 a1 a2 h := by
  refine Eq.trans (congrArg (fun z => Option.bind z e) (qe_X_run_21b krZ ktZ r21Z a0 a1 a2 h)) (Eq.trans ?_ (Eq.symm (qe_X_run_21b krA ktA r21A a0 a1 a2 h)))
  generalize (400 : Nat) = f9
  refine zseg_e e (zcal_e _ _ ?_) (zorc_e _ _ ?_) hk ht f9 _ _ _ _
  · exact ⟨rfl, rfl, zca1_e (fun x0 h k t => n_Co_letCycleCome e (fun _ _ => rfl) x0 h), ⟨rfl, rfl, zca1_e (fun x0 h k t => n_Le_isAllOver e (fun _ _ => rfl) x0 h), trivial⟩⟩
  · exact ⟨rfl, rfl, rfl, zap3_e h21, ⟨rfl, rfl, rfl, zap1_e (fun x0 h => n_X_run_49 e hk ht x0 h), trivial⟩⟩
theorem n_X_run_21 {ρ : Type} (e : zRes → Option ρ) {krA : Int → zH → Option ρ} {krZ : Int → zH → Option zRes} (hk : ∀ v h, (krZ v h).bind e = krA v h) {ktA : Nat → zH → Option ρ} {ktZ : Nat → zH → Option zRes} (ht : ∀ n h, (ktZ n h).bind e = ktA n h) (a0 a1 a2 : Int) (h : zH) : (X_run_21 krZ ktZ a0 a1 a2 h).bind e = X_run_21 krA ktA a0 a1 a2 h := zit3_e (fun rA rZ hh a0 a1 a2 h => n_X_run_21b e hk ht hh a0 a1 a2 h) zN a0 a1 a2 h
set_option maxRecDepth 100000 in
set_option maxHeartbeats 0 in
theorem n_X_run {ρ : Type} (e : zRes → Option ρ) {krA : Int → zH → Option ρ} {krZ : Int → zH → Option zRes} (hk : ∀ v h, (krZ v h).bind e = krA v h) {ktA : Nat → zH → Option ρ} {ktZ : Nat → zH → Option zRes} (ht : ∀ n h, (ktZ n h).bind e = ktA n h) (a0 a1 : Int) (h : zH) : (X_run a0 a1 h ktZ krZ).bind e = X_run a0 a1 h ktA krA := by
  refine Eq.trans (congrArg (fun z => Option.bind z e) (qe_X_run krZ ktZ a0 a1 h)) (Eq.trans ?_ (Eq.symm (qe_X_run krA ktA a0 a1 h)))
  generalize (400 : Nat) = f9
  refine zseg_e e (zcal_e _ _ ?_) (zorc_e _ _ ?_) hk ht f9 _ _ _ _
  · exact ⟨rfl, rfl, zca3_e (fun x0 x1 x2 h k t => n_X_isWithin e (fun _ _ => rfl) x0 x1 x2 h), trivial⟩
  · exact ⟨rfl, rfl, rfl, zap3_e (fun x0 x1 x2 h => n_X_run_21 e hk ht x0 x1 x2 h), trivial⟩
set_option maxRecDepth 100000 in
set_option maxHeartbeats 0 in
theorem n_X_setOrder_26 {ρ : Type} (e : zRes → Option ρ) {krA : Int → zH → Option ρ} {krZ : Int → zH → Option zRes} (hk : ∀ v h, (krZ v h).bind e = krA v h) {ktA : Nat → zH → Option ρ} {ktZ : Nat → zH → Option zRes} (ht : ∀ n h, (ktZ n h).bind e = ktA n h) (a0 a1 : Int) (h : zH) : (X_setOrder_26 krZ ktZ a0 a1 h).bind e = X_setOrder_26 krA ktA a0 a1 h := by
  refine Eq.trans (congrArg (fun z => Option.bind z e) (qe_X_setOrder_26 krZ ktZ a0 a1 h)) (Eq.trans ?_ (Eq.symm (qe_X_setOrder_26 krA ktA a0 a1 h)))
  generalize (400 : Nat) = f9
  refine zseg_e e (zcal_e _ _ ?_) (zorc_e _ _ ?_) hk ht f9 _ _ _ _
  · exact trivial
  · exact trivial
set_option maxRecDepth 100000 in
set_option maxHeartbeats 0 in
theorem n_X_setOrder {ρ : Type} (e : zRes → Option ρ) {krA : Int → zH → Option ρ} {krZ : Int → zH → Option zRes} (hk : ∀ v h, (krZ v h).bind e = krA v h) {ktA : Nat → zH → Option ρ} {ktZ : Nat → zH → Option zRes} (ht : ∀ n h, (ktZ n h).bind e = ktA n h) (a0 a1 : Int) (h : zH) : (X_setOrder a0 a1 h ktZ krZ).bind e = X_setOrder a0 a1 h ktA krA := by
  refine Eq.trans (congrArg (fun z => Option.bind z e) (qe_X_setOrder krZ ktZ a0 a1 h)) (Eq.trans ?_ (Eq.symm (qe_X_setOrder krA ktA a0 a1 h)))
  generalize (400 : Nat) = f9
  refine zseg_e e (zcal_e _ _ ?_) (zorc_e _ _ ?_) hk ht f9 _ _ _ _
  · exact trivial
  · exact ⟨rfl, rfl, rfl, zap2_e (fun x0 x1 h => n_X_setOrder_26 e hk ht x0 x1 h), trivial⟩
set_option maxRecDepth 100000 in
set_option maxHeartbeats 0 in
theorem n_X_cycle {ρ : Type} (e : zRes → Option ρ) {krA : Int → zH → Option ρ} {krZ : Int → zH → Option zRes} (hk : ∀ v h, (krZ v h).bind e = krA v h) (a0 : Int) (h : zH) : (X_cycle a0 h krZ).bind e = X_cycle a0 h krA := by
  refine Eq.trans (congrArg (fun z => Option.bind z e) (qe_X_cycle krZ a0 h)) (Eq.trans ?_ (Eq.symm (qe_X_cycle krA a0 h)))
  generalize (400 : Nat) = f9
  refine zseg_e e (zcal_e _ _ ?_) (zorc_e _ _ ?_) hk (fun _ _ => rfl) f9 _ _ _ _
  · exact trivial
  · exact trivial
set_option maxRecDepth 100000 in
set_option maxHeartbeats 0 in
theorem n_X_unitAt {ρ : Type} (e : zRes → Option ρ) {krA : Int → zH → Option ρ} {krZ : Int → zH → Option zRes} (hk : ∀ v h, (krZ v h).bind e = krA v h) {ktA : Nat → zH → Option ρ} {ktZ : Nat → zH → Option zRes} (ht : ∀ n h, (ktZ n h).bind e = ktA n h) (a0 a1 : Int) (h : zH) : (X_unitAt a0 a1 h ktZ krZ).bind e = X_unitAt a0 a1 h ktA krA := by
  refine Eq.trans (congrArg (fun z => Option.bind z e) (qe_X_unitAt krZ ktZ a0 a1 h)) (Eq.trans ?_ (Eq.symm (qe_X_unitAt krA ktA a0 a1 h)))
  generalize (400 : Nat) = f9
  refine zseg_e e (zcal_e _ _ ?_) (zorc_e _ _ ?_) hk ht f9 _ _ _ _
  · exact ⟨rfl, rfl, zca3_e (fun x0 x1 x2 h k t => n_X_isWithin e (fun _ _ => rfl) x0 x1 x2 h), trivial⟩
  · exact trivial
set_option maxRecDepth 100000 in
set_option maxHeartbeats 0 in
theorem n_X_groups {ρ : Type} (e : zRes → Option ρ) {krA : Int → zH → Option ρ} {krZ : Int → zH → Option zRes} (hk : ∀ v h, (krZ v h).bind e = krA v h) {ktA : Nat → zH → Option ρ} {ktZ : Nat → zH → Option zRes} (ht : ∀ n h, (ktZ n h).bind e = ktA n h) (a0 a1 : Int) (h : zH) : (X_groups a0 a1 h ktZ krZ).bind e = X_groups a0 a1 h ktA krA := by
  refine Eq.trans (congrArg (fun z => Option.bind z e) (qe_X_groups krZ ktZ a0 a1 h)) (Eq.trans ?_ (Eq.symm (qe_X_groups krA ktA a0 a1 h)))
  generalize (400 : Nat) = f9
  refine zseg_e e (zcal_e _ _ ?_) (zorc_e _ _ ?_) hk ht f9 _ _ _ _
  · exact ⟨rfl, rfl, zcx2_e (fun x0 x1 h k t => n_X_unitAt e (fun _ _ => rfl) (fun _ _ => rfl) x0 x1 h), trivial⟩
  · exact trivial
set_option maxRecDepth 100000 in
set_option maxHeartbeats 0 in
theorem n_Un_groupOf_24 {ρ : Type} (e : zRes → Option ρ) {krA : Int → zH → Option ρ} {krZ : Int → zH → Option zRes} (hk : ∀ v h, (krZ v h).bind e = krA v h) (t0 : Int) (h : zH) : (Un_groupOf_24 krZ t0 h).bind e = Un_groupOf_24 krA t0 h := by
  refine Eq.trans (congrArg (fun z => Option.bind z e) (qe_Un_groupOf_24 krZ t0 h)) (Eq.trans ?_ (Eq.symm (qe_Un_groupOf_24 krA t0 h)))
  generalize (400 : Nat) = f9
  refine zseg_e e (zcal_e _ _ ?_) (zorc_e _ _ ?_) hk (fun _ _ => rfl) f9 _ _ _ _
  · exact trivial
  · exact trivial
set_option maxRecDepth 100000 in
set_option maxHeartbeats 0 in
theorem n_Un_groupOf {ρ : Type} (e : zRes → Option ρ) {krA : Int → zH → Option ρ} {krZ : Int → zH → Option zRes} (hk : ∀ v h, (krZ v h).bind e = krA v h) (a0 a1 : Int) (h : zH) : (Un_groupOf a0 a1 h krZ).bind e = Un_groupOf a0 a1 h krA := by
  refine Eq.trans (congrArg (fun z => Option.bind z e) (qe_Un_groupOf krZ a0 a1 h)) (Eq.trans ?_ (Eq.symm (qe_Un_groupOf krA a0 a1 h)))
  generalize (400 : Nat) = f9
  refine zseg_e e (zcal_e _ _ ?_) (zorc_e _ _ ?_) hk (fun _ _ => rfl) f9 _ _ _ _
  · exact ⟨rfl, rfl, zca3_e (fun x0 x1 x2 h k t => n_X_isWithin e (fun _ _ => rfl) x0 x1 x2 h), trivial⟩
  · exact ⟨rfl, rfl, rfl, zap1_e (fun x0 h => n_Un_groupOf_24 e hk x0 h), trivial⟩
set_option maxRecDepth 100000 in
set_option maxHeartbeats 0 in
theorem n_X_groupAt {ρ : Type} (e : zRes → Option ρ) {krA : Int → zH → Option ρ} {krZ : Int → zH → Option zRes} (hk : ∀ v h, (krZ v h).bind e = krA v h) {ktA : Nat → zH → Option ρ} {ktZ : Nat → zH → Option zRes} (ht : ∀ n h, (ktZ n h).bind e = ktA n h) (a0 a1 a2 : Int) (h : zH) : (X_groupAt a0 a1 a2 h ktZ krZ).bind e = X_groupAt a0 a1 a2 h ktA krA := by
  refine Eq.trans (congrArg (fun z => Option.bind z e) (qe_X_groupAt krZ ktZ a0 a1 a2 h)) (Eq.trans ?_ (Eq.symm (qe_X_groupAt krA ktA a0 a1 a2 h)))
  generalize (400 : Nat) = f9
  refine zseg_e e (zcal_e _ _ ?_) (zorc_e _ _ ?_) hk ht f9 _ _ _ _
  · exact ⟨rfl, rfl, zcx2_e (fun x0 x1 h k t => n_X_unitAt e (fun _ _ => rfl) (fun _ _ => rfl) x0 x1 h), ⟨rfl, rfl, zca2_e (fun x0 x1 h k t => n_Un_groupOf e (fun _ _ => rfl) x0 x1 h), trivial⟩⟩
  · exact trivial
set_option maxRecDepth 100000 in
set_option maxHeartbeats 0 in
theorem n_X_threadAt {ρ : Type} (e : zRes → Option ρ) {krA : Int → zH → Option ρ} {krZ : Int → zH → Option zRes} (hk : ∀ v h, (krZ v h).bind e = krA v h) {ktA : Nat → zH → Option ρ} {ktZ : Nat → zH → Option zRes} (ht : ∀ n h, (ktZ n h).bind e = ktA n h) (a0 a1 a2 : Int) (h : zH) : (X_threadAt a0 a1 a2 h ktZ krZ).bind e = X_threadAt a0 a1 a2 h ktA krA := by
  refine Eq.trans (congrArg (fun z => Option.bind z e) (qe_X_threadAt krZ ktZ a0 a1 a2 h)) (Eq.trans ?_ (Eq.symm (qe_X_threadAt krA ktA a0 a1 a2 h)))
  generalize (400 : Nat) = f9
  refine zseg_e e (zcal_e _ _ ?_) (zorc_e _ _ ?_) hk ht f9 _ _ _ _
  · exact ⟨rfl, rfl, zcx3_e (fun x0 x1 x2 h k t => n_X_groupAt e (fun _ _ => rfl) (fun _ _ => rfl) x0 x1 x2 h), trivial⟩
  · exact trivial
set_option maxRecDepth 100000 in
set_option maxHeartbeats 0 in
theorem n_X_place {ρ : Type} (e : zRes → Option ρ) {krA : Int → zH → Option ρ} {krZ : Int → zH → Option zRes} (hk : ∀ v h, (krZ v h).bind e = krA v h) {ktA : Nat → zH → Option ρ} {ktZ : Nat → zH → Option zRes} (ht : ∀ n h, (ktZ n h).bind e = ktA n h) (a0 a1 a2 : Int) (h : zH) : (X_place a0 a1 a2 h ktZ krZ).bind e = X_place a0 a1 a2 h ktA krA := by
  refine Eq.trans (congrArg (fun z => Option.bind z e) (qe_X_place krZ ktZ a0 a1 a2 h)) (Eq.trans ?_ (Eq.symm (qe_X_place krA ktA a0 a1 a2 h)))
  generalize (400 : Nat) = f9
  refine zseg_e e (zcal_e _ _ ?_) (zorc_e _ _ ?_) hk ht f9 _ _ _ _
  · exact ⟨rfl, rfl, zcx3_e (fun x0 x1 x2 h k t => n_X_groupAt e (fun _ _ => rfl) (fun _ _ => rfl) x0 x1 x2 h), ⟨rfl, rfl, zca1_e (fun x0 h k t => n_Gr_leastPlace e (fun _ _ => rfl) x0 h), trivial⟩⟩
  · exact trivial
set_option maxRecDepth 100000 in
set_option maxHeartbeats 0 in
theorem n_X_mask {ρ : Type} (e : zRes → Option ρ) {krA : Int → zH → Option ρ} {krZ : Int → zH → Option zRes} (hk : ∀ v h, (krZ v h).bind e = krA v h) {ktA : Nat → zH → Option ρ} {ktZ : Nat → zH → Option zRes} (ht : ∀ n h, (ktZ n h).bind e = ktA n h) (a0 a1 a2 : Int) (h : zH) : (X_mask a0 a1 a2 h ktZ krZ).bind e = X_mask a0 a1 a2 h ktA krA := by
  refine Eq.trans (congrArg (fun z => Option.bind z e) (qe_X_mask krZ ktZ a0 a1 a2 h)) (Eq.trans ?_ (Eq.symm (qe_X_mask krA ktA a0 a1 a2 h)))
  generalize (400 : Nat) = f9
  refine zseg_e e (zcal_e _ _ ?_) (zorc_e _ _ ?_) hk ht f9 _ _ _ _
  · exact ⟨rfl, rfl, zcx3_e (fun x0 x1 x2 h k t => n_X_groupAt e (fun _ _ => rfl) (fun _ _ => rfl) x0 x1 x2 h), ⟨rfl, rfl, zca1_e (fun x0 h k t => n_Gr_lanesUnderMask e (fun _ _ => rfl) x0 h), trivial⟩⟩
  · exact trivial
set_option maxRecDepth 100000 in
set_option maxHeartbeats 0 in
theorem n_Gr_isPlaceOfLower_2b {ρ : Type} (e : zRes → Option ρ) {krA : Int → zH → Option ρ} {krZ : Int → zH → Option zRes} (hk : ∀ v h, (krZ v h).bind e = krA v h) {r2A : Int → Int → Int → zH → Option ρ} {r2Z : Int → Int → Int → zH → Option zRes} (h2 : ∀ (x0 x1 x2 : Int) (h : zH), (r2Z x0 x1 x2 h).bind e = r2A x0 x1 x2 h) (a0 a1 a2 : Int) (h : zH) : (Gr_isPlaceOfLower_2b krZ r2Z a0 a1 a2 h).bind e = Gr_isPlaceOfLower_2b krA r2A a0 a1 a2 h := by
  refine Eq.trans (congrArg (fun z => Option.bind z e) (qe_Gr_isPlaceOfLower_2b krZ r2Z a0 a1 a2 h)) (Eq.trans ?_ (Eq.symm (qe_Gr_isPlaceOfLower_2b krA r2A a0 a1 a2 h)))
  generalize (400 : Nat) = f9
  refine zseg_e e (zcal_e _ _ ?_) (zorc_e _ _ ?_) hk (fun _ _ => rfl) f9 _ _ _ _
  · exact ⟨rfl, rfl, zca2_e (fun x0 x1 h k t => n_Gr_placeIn e (fun _ _ => rfl) x0 x1 h), trivial⟩
  · exact ⟨rfl, rfl, rfl, zap3_e h2, trivial⟩
theorem n_Gr_isPlaceOfLower_2 {ρ : Type} (e : zRes → Option ρ) {krA : Int → zH → Option ρ} {krZ : Int → zH → Option zRes} (hk : ∀ v h, (krZ v h).bind e = krA v h) (a0 a1 a2 : Int) (h : zH) : (Gr_isPlaceOfLower_2 krZ a0 a1 a2 h).bind e = Gr_isPlaceOfLower_2 krA a0 a1 a2 h := zit3_e (fun rA rZ hh a0 a1 a2 h => n_Gr_isPlaceOfLower_2b e hk hh a0 a1 a2 h) zN a0 a1 a2 h
set_option maxRecDepth 100000 in
set_option maxHeartbeats 0 in
theorem n_Gr_isPlaceOfLower {ρ : Type} (e : zRes → Option ρ) {krA : Int → zH → Option ρ} {krZ : Int → zH → Option zRes} (hk : ∀ v h, (krZ v h).bind e = krA v h) (a0 a1 : Int) (h : zH) : (Gr_isPlaceOfLower a0 a1 h krZ).bind e = Gr_isPlaceOfLower a0 a1 h krA := by
  refine Eq.trans (congrArg (fun z => Option.bind z e) (qe_Gr_isPlaceOfLower krZ a0 a1 h)) (Eq.trans ?_ (Eq.symm (qe_Gr_isPlaceOfLower krA a0 a1 h)))
  generalize (400 : Nat) = f9
  refine zseg_e e (zcal_e _ _ ?_) (zorc_e _ _ ?_) hk (fun _ _ => rfl) f9 _ _ _ _
  · exact trivial
  · exact ⟨rfl, rfl, rfl, zap3_e (fun x0 x1 x2 h => n_Gr_isPlaceOfLower_2 e hk x0 x1 x2 h), trivial⟩
set_option maxRecDepth 100000 in
set_option maxHeartbeats 0 in
theorem n_Gr_differentPlaces_29 {ρ : Type} (e : zRes → Option ρ) {krA : Int → zH → Option ρ} {krZ : Int → zH → Option zRes} (hk : ∀ v h, (krZ v h).bind e = krA v h) {r4A : Int → Int → Int → zH → Option ρ} {r4Z : Int → Int → Int → zH → Option zRes} (h4 : ∀ (x0 x1 x2 : Int) (h : zH), (r4Z x0 x1 x2 h).bind e = r4A x0 x1 x2 h) (a0 a1 a2 : Int) (h : zH) : (Gr_differentPlaces_29 krZ r4Z a0 a1 a2 h).bind e = Gr_differentPlaces_29 krA r4A a0 a1 a2 h := by
  refine Eq.trans (congrArg (fun z => Option.bind z e) (qe_Gr_differentPlaces_29 krZ r4Z a0 a1 a2 h)) (Eq.trans ?_ (Eq.symm (qe_Gr_differentPlaces_29 krA r4A a0 a1 a2 h)))
  generalize (400 : Nat) = f9
  refine zseg_e e (zcal_e _ _ ?_) (zorc_e _ _ ?_) hk (fun _ _ => rfl) f9 _ _ _ _
  · exact trivial
  · exact ⟨rfl, rfl, rfl, zap3_e h4, trivial⟩
set_option maxRecDepth 100000 in
set_option maxHeartbeats 0 in
theorem n_Gr_differentPlaces_4b {ρ : Type} (e : zRes → Option ρ) {krA : Int → zH → Option ρ} {krZ : Int → zH → Option zRes} (hk : ∀ v h, (krZ v h).bind e = krA v h) {r4A : Int → Int → Int → zH → Option ρ} {r4Z : Int → Int → Int → zH → Option zRes} (h4 : ∀ (x0 x1 x2 : Int) (h : zH), (r4Z x0 x1 x2 h).bind e = r4A x0 x1 x2 h) (a0 a1 a2 : Int) (h : zH) : (Gr_differentPlaces_4b krZ r4Z a0 a1 a2 h).bind e = Gr_differentPlaces_4b krA r4A a0 a1 a2 h := by
  refine Eq.trans (congrArg (fun z => Option.bind z e) (qe_Gr_differentPlaces_4b krZ r4Z a0 a1 a2 h)) (Eq.trans ?_ (Eq.symm (qe_Gr_differentPlaces_4b krA r4A a0 a1 a2 h)))
  generalize (400 : Nat) = f9
  refine zseg_e e (zcal_e _ _ ?_) (zorc_e _ _ ?_) hk (fun _ _ => rfl) f9 _ _ _ _
  · exact ⟨rfl, rfl, zca2_e (fun x0 x1 h k t => n_Gr_placeIn e (fun _ _ => rfl) x0 x1 h), ⟨rfl, rfl, zca2_e (fun x0 x1 h k t => n_Gr_isPlaceOfLower e (fun _ _ => rfl) x0 x1 h), trivial⟩⟩
  · exact ⟨rfl, rfl, rfl, zap3_e (fun x0 x1 x2 h => n_Gr_differentPlaces_29 e hk h4 x0 x1 x2 h), trivial⟩
theorem n_Gr_differentPlaces_4 {ρ : Type} (e : zRes → Option ρ) {krA : Int → zH → Option ρ} {krZ : Int → zH → Option zRes} (hk : ∀ v h, (krZ v h).bind e = krA v h) (a0 a1 a2 : Int) (h : zH) : (Gr_differentPlaces_4 krZ a0 a1 a2 h).bind e = Gr_differentPlaces_4 krA a0 a1 a2 h := zit3_e (fun rA rZ hh a0 a1 a2 h => n_Gr_differentPlaces_4b e hk hh a0 a1 a2 h) zN a0 a1 a2 h
set_option maxRecDepth 100000 in
set_option maxHeartbeats 0 in
theorem n_Gr_differentPlaces {ρ : Type} (e : zRes → Option ρ) {krA : Int → zH → Option ρ} {krZ : Int → zH → Option zRes} (hk : ∀ v h, (krZ v h).bind e = krA v h) (a0 : Int) (h : zH) : (Gr_differentPlaces a0 h krZ).bind e = Gr_differentPlaces a0 h krA := by
  refine Eq.trans (congrArg (fun z => Option.bind z e) (qe_Gr_differentPlaces krZ a0 h)) (Eq.trans ?_ (Eq.symm (qe_Gr_differentPlaces krA a0 h)))
  generalize (400 : Nat) = f9
  refine zseg_e e (zcal_e _ _ ?_) (zorc_e _ _ ?_) hk (fun _ _ => rfl) f9 _ _ _ _
  · exact trivial
  · exact ⟨rfl, rfl, rfl, zap3_e (fun x0 x1 x2 h => n_Gr_differentPlaces_4 e hk x0 x1 x2 h), trivial⟩
set_option maxRecDepth 100000 in
set_option maxHeartbeats 0 in
theorem n_X_places {ρ : Type} (e : zRes → Option ρ) {krA : Int → zH → Option ρ} {krZ : Int → zH → Option zRes} (hk : ∀ v h, (krZ v h).bind e = krA v h) {ktA : Nat → zH → Option ρ} {ktZ : Nat → zH → Option zRes} (ht : ∀ n h, (ktZ n h).bind e = ktA n h) (a0 a1 a2 : Int) (h : zH) : (X_places a0 a1 a2 h ktZ krZ).bind e = X_places a0 a1 a2 h ktA krA := by
  refine Eq.trans (congrArg (fun z => Option.bind z e) (qe_X_places krZ ktZ a0 a1 a2 h)) (Eq.trans ?_ (Eq.symm (qe_X_places krA ktA a0 a1 a2 h)))
  generalize (400 : Nat) = f9
  refine zseg_e e (zcal_e _ _ ?_) (zorc_e _ _ ?_) hk ht f9 _ _ _ _
  · exact ⟨rfl, rfl, zcx3_e (fun x0 x1 x2 h k t => n_X_groupAt e (fun _ _ => rfl) (fun _ _ => rfl) x0 x1 x2 h), ⟨rfl, rfl, zca1_e (fun x0 h k t => n_Gr_differentPlaces e (fun _ _ => rfl) x0 h), trivial⟩⟩
  · exact trivial
set_option maxRecDepth 100000 in
set_option maxHeartbeats 0 in
theorem n_Gr_whyIdle_22 {ρ : Type} (e : zRes → Option ρ) {krA : Int → zH → Option ρ} {krZ : Int → zH → Option zRes} (hk : ∀ v h, (krZ v h).bind e = krA v h) (t0 : Int) (h : zH) : (Gr_whyIdle_22 krZ t0 h).bind e = Gr_whyIdle_22 krA t0 h := by
  refine Eq.trans (congrArg (fun z => Option.bind z e) (qe_Gr_whyIdle_22 krZ t0 h)) (Eq.trans ?_ (Eq.symm (qe_Gr_whyIdle_22 krA t0 h)))
  generalize (400 : Nat) = f9
  refine zseg_e e (zcal_e _ _ ?_) (zorc_e _ _ ?_) hk (fun _ _ => rfl) f9 _ _ _ _
  · exact trivial
  · exact trivial
set_option maxRecDepth 100000 in
set_option maxHeartbeats 0 in
theorem n_Gr_whyIdle_38 {ρ : Type} (e : zRes → Option ρ) {krA : Int → zH → Option ρ} {krZ : Int → zH → Option zRes} (hk : ∀ v h, (krZ v h).bind e = krA v h) (t0 : Int) (h : zH) : (Gr_whyIdle_38 krZ t0 h).bind e = Gr_whyIdle_38 krA t0 h := by
  refine Eq.trans (congrArg (fun z => Option.bind z e) (qe_Gr_whyIdle_38 krZ t0 h)) (Eq.trans ?_ (Eq.symm (qe_Gr_whyIdle_38 krA t0 h)))
  generalize (400 : Nat) = f9
  refine zseg_e e (zcal_e _ _ ?_) (zorc_e _ _ ?_) hk (fun _ _ => rfl) f9 _ _ _ _
  · exact trivial
  · exact trivial
set_option maxRecDepth 100000 in
set_option maxHeartbeats 0 in
theorem n_Gr_whyIdle {ρ : Type} (e : zRes → Option ρ) {krA : Int → zH → Option ρ} {krZ : Int → zH → Option zRes} (hk : ∀ v h, (krZ v h).bind e = krA v h) (a0 a1 : Int) (h : zH) : (Gr_whyIdle a0 a1 h krZ).bind e = Gr_whyIdle a0 a1 h krA := by
  refine Eq.trans (congrArg (fun z => Option.bind z e) (qe_Gr_whyIdle krZ a0 a1 h)) (Eq.trans ?_ (Eq.symm (qe_Gr_whyIdle krA a0 a1 h)))
  generalize (400 : Nat) = f9
  refine zseg_e e (zcal_e _ _ ?_) (zorc_e _ _ ?_) hk (fun _ _ => rfl) f9 _ _ _ _
  · exact ⟨rfl, rfl, zca1_e (fun x0 h k t => n_Gr_leastPlace e (fun _ _ => rfl) x0 h), ⟨rfl, rfl, zca1_e (fun x0 h k t => n_Gr_hasEnded e (fun _ _ => rfl) x0 h), trivial⟩⟩
  · exact ⟨rfl, rfl, rfl, zap1_e (fun x0 h => n_Gr_whyIdle_22 e hk x0 h), ⟨rfl, rfl, rfl, zap1_e (fun x0 h => n_Gr_whyIdle_38 e hk x0 h), trivial⟩⟩
set_option maxRecDepth 100000 in
set_option maxHeartbeats 0 in
theorem n_X_reason {ρ : Type} (e : zRes → Option ρ) {krA : Int → zH → Option ρ} {krZ : Int → zH → Option zRes} (hk : ∀ v h, (krZ v h).bind e = krA v h) {ktA : Nat → zH → Option ρ} {ktZ : Nat → zH → Option zRes} (ht : ∀ n h, (ktZ n h).bind e = ktA n h) (a0 a1 a2 : Int) (h : zH) : (X_reason a0 a1 a2 h ktZ krZ).bind e = X_reason a0 a1 a2 h ktA krA := by
  refine Eq.trans (congrArg (fun z => Option.bind z e) (qe_X_reason krZ ktZ a0 a1 a2 h)) (Eq.trans ?_ (Eq.symm (qe_X_reason krA ktA a0 a1 a2 h)))
  generalize (400 : Nat) = f9
  refine zseg_e e (zcal_e _ _ ?_) (zorc_e _ _ ?_) hk ht f9 _ _ _ _
  · exact ⟨rfl, rfl, zcx3_e (fun x0 x1 x2 h k t => n_X_groupAt e (fun _ _ => rfl) (fun _ _ => rfl) x0 x1 x2 h), ⟨rfl, rfl, zca2_e (fun x0 x1 h k t => n_Gr_whyIdle e (fun _ _ => rfl) x0 x1 h), trivial⟩⟩
  · exact trivial
set_option maxRecDepth 100000 in
set_option maxHeartbeats 0 in
theorem n_X_register_40 {ρ : Type} (e : zRes → Option ρ) {krA : Int → zH → Option ρ} {krZ : Int → zH → Option zRes} (hk : ∀ v h, (krZ v h).bind e = krA v h) {ktA : Nat → zH → Option ρ} {ktZ : Nat → zH → Option zRes} (ht : ∀ n h, (ktZ n h).bind e = ktA n h) (h : zH) : (X_register_40 krZ ktZ h).bind e = X_register_40 krA ktA h := by
  refine Eq.trans (congrArg (fun z => Option.bind z e) (qe_X_register_40 krZ ktZ h)) (Eq.trans ?_ (Eq.symm (qe_X_register_40 krA ktA h)))
  generalize (400 : Nat) = f9
  refine zseg_e e (zcal_e _ _ ?_) (zorc_e _ _ ?_) hk ht f9 _ _ _ _
  · exact trivial
  · exact trivial
set_option maxRecDepth 100000 in
set_option maxHeartbeats 0 in
theorem n_X_register {ρ : Type} (e : zRes → Option ρ) {krA : Int → zH → Option ρ} {krZ : Int → zH → Option zRes} (hk : ∀ v h, (krZ v h).bind e = krA v h) {ktA : Nat → zH → Option ρ} {ktZ : Nat → zH → Option zRes} (ht : ∀ n h, (ktZ n h).bind e = ktA n h) (a0 a1 a2 a3 a4 : Int) (h : zH) : (X_register a0 a1 a2 a3 a4 h ktZ krZ).bind e = X_register a0 a1 a2 a3 a4 h ktA krA := by
  refine Eq.trans (congrArg (fun z => Option.bind z e) (qe_X_register krZ ktZ a0 a1 a2 a3 a4 h)) (Eq.trans ?_ (Eq.symm (qe_X_register krA ktA a0 a1 a2 a3 a4 h)))
  generalize (400 : Nat) = f9
  refine zseg_e e (zcal_e _ _ ?_) (zorc_e _ _ ?_) hk ht f9 _ _ _ _
  · exact ⟨rfl, rfl, zcx3_e (fun x0 x1 x2 h k t => n_X_groupAt e (fun _ _ => rfl) (fun _ _ => rfl) x0 x1 x2 h), ⟨rfl, rfl, zca2_e (fun x0 x1 h k t => n_Gr_threadIn e (fun _ _ => rfl) x0 x1 h), ⟨rfl, rfl, zca2_e (fun x0 x1 h k t => n_Ke_hasRegister e (fun _ _ => rfl) x0 x1 h), ⟨rfl, rfl, zca2_e (fun x0 x1 h k t => n_Th_at e (fun _ _ => rfl) x0 x1 h), trivial⟩⟩⟩⟩
  · exact ⟨rfl, rfl, rfl, zap0_e (fun  h => n_X_register_40 e hk ht  h), trivial⟩
