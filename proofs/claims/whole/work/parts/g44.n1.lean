set_option maxRecDepth 100000 in
theorem n_X_given {ρ : Type} (e : zRes → Option ρ) {krA : Int → zH → Option ρ} {krZ : Int → zH → Option zRes} (hk : ∀ v h, (krZ v h).bind e = krA v h) {ktA : Nat → zH → Option ρ} {ktZ : Nat → zH → Option zRes} (ht : ∀ n h, (ktZ n h).bind e = ktA n h) (a0 a1 : Int) (h : zH) : (X_given a0 a1 h ktZ krZ).bind e = X_given a0 a1 h ktA krA := by
  refine Eq.trans (congrArg (fun z => Option.bind z e) (qe_X_given krZ ktZ a0 a1 h)) (Eq.trans ?_ (Eq.symm (qe_X_given krA ktA a0 a1 h)))
  refine zseg_e e (zcal_e _ _ ?_) (zorc_e _ _ ?_) hk ht 400 _ _ _ _
  · exact ⟨rfl, rfl, zcx2_e (fun x0 x1 h k t => n_X_launchAt e (fun _ _ => rfl) (fun _ _ => rfl) x0 x1 h), trivial⟩
  · exact trivial
set_option maxRecDepth 100000 in
theorem n_La_isCopyRunning_21 {ρ : Type} (e : zRes → Option ρ) {krA : Int → zH → Option ρ} {krZ : Int → zH → Option zRes} (hk : ∀ v h, (krZ v h).bind e = krA v h) (t0 : Int) (h : zH) : (La_isCopyRunning_21 krZ t0 h).bind e = La_isCopyRunning_21 krA t0 h := by
  refine Eq.trans (congrArg (fun z => Option.bind z e) (qe_La_isCopyRunning_21 krZ t0 h)) (Eq.trans ?_ (Eq.symm (qe_La_isCopyRunning_21 krA t0 h)))
  refine zseg_e e (zcal_e _ _ ?_) (zorc_e _ _ ?_) hk (fun _ _ => rfl) 400 _ _ _ _
  · exact trivial
  · exact trivial
set_option maxRecDepth 100000 in
theorem n_La_isCopyRunning_20 {ρ : Type} (e : zRes → Option ρ) {krA : Int → zH → Option ρ} {krZ : Int → zH → Option zRes} (hk : ∀ v h, (krZ v h).bind e = krA v h) (h : zH) : (La_isCopyRunning_20 krZ h).bind e = La_isCopyRunning_20 krA h := by
  refine Eq.trans (congrArg (fun z => Option.bind z e) (qe_La_isCopyRunning_20 krZ h)) (Eq.trans ?_ (Eq.symm (qe_La_isCopyRunning_20 krA h)))
  refine zseg_e e (zcal_e _ _ ?_) (zorc_e _ _ ?_) hk (fun _ _ => rfl) 400 _ _ _ _
  · exact trivial
  · exact ⟨rfl, rfl, rfl, zap1_e (fun x0 h => n_La_isCopyRunning_21 e hk x0 h), trivial⟩
set_option maxRecDepth 100000 in
theorem n_La_isCopyRunning {ρ : Type} (e : zRes → Option ρ) {krA : Int → zH → Option ρ} {krZ : Int → zH → Option zRes} (hk : ∀ v h, (krZ v h).bind e = krA v h) (a0 : Int) (h : zH) : (La_isCopyRunning a0 h krZ).bind e = La_isCopyRunning a0 h krA := by
  refine Eq.trans (congrArg (fun z => Option.bind z e) (qe_La_isCopyRunning krZ a0 h)) (Eq.trans ?_ (Eq.symm (qe_La_isCopyRunning krA a0 h)))
  refine zseg_e e (zcal_e _ _ ?_) (zorc_e _ _ ?_) hk (fun _ _ => rfl) 400 _ _ _ _
  · exact trivial
  · exact ⟨rfl, rfl, rfl, zap0_e (fun  h => n_La_isCopyRunning_20 e hk  h), ⟨rfl, rfl, rfl, zap1_e (fun x0 h => n_La_isCopyRunning_21 e hk x0 h), trivial⟩⟩
set_option maxRecDepth 100000 in
theorem n_La_moveCell_82 {ρ : Type} (e : zRes → Option ρ) {krA : Int → zH → Option ρ} {krZ : Int → zH → Option zRes} (hk : ∀ v h, (krZ v h).bind e = krA v h) (h : zH) : (La_moveCell_82 krZ h).bind e = La_moveCell_82 krA h := by
  refine Eq.trans (congrArg (fun z => Option.bind z e) (qe_La_moveCell_82 krZ h)) (Eq.trans ?_ (Eq.symm (qe_La_moveCell_82 krA h)))
  refine zseg_e e (zcal_e _ _ ?_) (zorc_e _ _ ?_) hk (fun _ _ => rfl) 400 _ _ _ _
  · exact trivial
  · exact trivial
set_option maxRecDepth 100000 in
theorem n_La_moveCell_69 {ρ : Type} (e : zRes → Option ρ) {krA : Int → zH → Option ρ} {krZ : Int → zH → Option zRes} (hk : ∀ v h, (krZ v h).bind e = krA v h) (a0 : Int) (h : zH) : (La_moveCell_69 krZ a0 h).bind e = La_moveCell_69 krA a0 h := by
  refine Eq.trans (congrArg (fun z => Option.bind z e) (qe_La_moveCell_69 krZ a0 h)) (Eq.trans ?_ (Eq.symm (qe_La_moveCell_69 krA a0 h)))
  refine zseg_e e (zcal_e _ _ ?_) (zorc_e _ _ ?_) hk (fun _ _ => rfl) 400 _ _ _ _
  · exact trivial
  · exact ⟨rfl, rfl, rfl, zap0_e (fun  h => n_La_moveCell_82 e hk  h), trivial⟩
set_option maxRecDepth 100000 in
theorem n_La_moveCell {ρ : Type} (e : zRes → Option ρ) {krA : Int → zH → Option ρ} {krZ : Int → zH → Option zRes} (hk : ∀ v h, (krZ v h).bind e = krA v h) (a0 a1 : Int) (h : zH) : (La_moveCell a0 a1 h krZ).bind e = La_moveCell a0 a1 h krA := by
  refine Eq.trans (congrArg (fun z => Option.bind z e) (qe_La_moveCell krZ a0 a1 h)) (Eq.trans ?_ (Eq.symm (qe_La_moveCell krA a0 a1 h)))
  refine zseg_e e (zcal_e _ _ ?_) (zorc_e _ _ ?_) hk (fun _ _ => rfl) 400 _ _ _ _
  · exact ⟨rfl, rfl, zca1_e (fun x0 h k t => n_X_isCell e (fun _ _ => rfl) x0 h), trivial⟩
  · exact ⟨rfl, rfl, rfl, zap1_e (fun x0 h => n_La_moveCell_69 e hk x0 h), trivial⟩
set_option maxRecDepth 100000 in
theorem n_Co_moveCopies_41 {ρ : Type} (e : zRes → Option ρ) {krA : Int → zH → Option ρ} {krZ : Int → zH → Option zRes} (hk : ∀ v h, (krZ v h).bind e = krA v h) {r2A : Int → Int → zH → Option ρ} {r2Z : Int → Int → zH → Option zRes} (h2 : ∀ (x0 x1 : Int) (h : zH), (r2Z x0 x1 h).bind e = r2A x0 x1 h) (a0 a1 : Int) (h : zH) : (Co_moveCopies_41 krZ r2Z a0 a1 h).bind e = Co_moveCopies_41 krA r2A a0 a1 h := by
  refine Eq.trans (congrArg (fun z => Option.bind z e) (qe_Co_moveCopies_41 krZ r2Z a0 a1 h)) (Eq.trans ?_ (Eq.symm (qe_Co_moveCopies_41 krA r2A a0 a1 h)))
  refine zseg_e e (zcal_e _ _ ?_) (zorc_e _ _ ?_) hk (fun _ _ => rfl) 400 _ _ _ _
  · exact trivial
  · exact ⟨rfl, rfl, rfl, zap2_e h2, trivial⟩
set_option maxRecDepth 100000 in
theorem n_Co_moveCopies_2b {ρ : Type} (e : zRes → Option ρ) {krA : Int → zH → Option ρ} {krZ : Int → zH → Option zRes} (hk : ∀ v h, (krZ v h).bind e = krA v h) {r2A : Int → Int → zH → Option ρ} {r2Z : Int → Int → zH → Option zRes} (h2 : ∀ (x0 x1 : Int) (h : zH), (r2Z x0 x1 h).bind e = r2A x0 x1 h) (a0 a1 : Int) (h : zH) : (Co_moveCopies_2b krZ r2Z a0 a1 h).bind e = Co_moveCopies_2b krA r2A a0 a1 h := by
  refine Eq.trans (congrArg (fun z => Option.bind z e) (qe_Co_moveCopies_2b krZ r2Z a0 a1 h)) (Eq.trans ?_ (Eq.symm (qe_Co_moveCopies_2b krA r2A a0 a1 h)))
  refine zseg_e e (zcal_e _ _ ?_) (zorc_e _ _ ?_) hk (fun _ _ => rfl) 400 _ _ _ _
  · exact ⟨rfl, rfl, zca1_e (fun x0 h k t => n_La_isCopyRunning e (fun _ _ => rfl) x0 h), ⟨rfl, rfl, zca2_e (fun x0 x1 h k t => n_La_moveCell e (fun _ _ => rfl) x0 x1 h), ⟨rfl, rfl, zca2_e (fun x0 x1 h k t => n_Le_launchOf e (fun _ _ => rfl) x0 x1 h), trivial⟩⟩⟩
  · exact ⟨rfl, rfl, rfl, zap2_e (fun x0 x1 h => n_Co_moveCopies_41 e hk h2 x0 x1 h), trivial⟩
theorem n_Co_moveCopies_2 {ρ : Type} (e : zRes → Option ρ) {krA : Int → zH → Option ρ} {krZ : Int → zH → Option zRes} (hk : ∀ v h, (krZ v h).bind e = krA v h) (a0 a1 : Int) (h : zH) : (Co_moveCopies_2 krZ a0 a1 h).bind e = Co_moveCopies_2 krA a0 a1 h := zit2_e (fun rA rZ hh a0 a1 h => n_Co_moveCopies_2b e hk hh a0 a1 h) zN a0 a1 h
set_option maxRecDepth 100000 in
theorem n_Co_moveCopies {ρ : Type} (e : zRes → Option ρ) {krA : Int → zH → Option ρ} {krZ : Int → zH → Option zRes} (hk : ∀ v h, (krZ v h).bind e = krA v h) (a0 : Int) (h : zH) : (Co_moveCopies a0 h krZ).bind e = Co_moveCopies a0 h krA := by
  refine Eq.trans (congrArg (fun z => Option.bind z e) (qe_Co_moveCopies krZ a0 h)) (Eq.trans ?_ (Eq.symm (qe_Co_moveCopies krA a0 h)))
  refine zseg_e e (zcal_e _ _ ?_) (zorc_e _ _ ?_) hk (fun _ _ => rfl) 400 _ _ _ _
  · exact trivial
  · exact ⟨rfl, rfl, rfl, zap2_e (fun x0 x1 h => n_Co_moveCopies_2 e hk x0 x1 h), trivial⟩
set_option maxRecDepth 100000 in
theorem n_Un_usedRegisters_55 {ρ : Type} (e : zRes → Option ρ) {krA : Int → zH → Option ρ} {krZ : Int → zH → Option zRes} (hk : ∀ v h, (krZ v h).bind e = krA v h) {r4A : Int → Int → Int → zH → Option ρ} {r4Z : Int → Int → Int → zH → Option zRes} (h4 : ∀ (x0 x1 x2 : Int) (h : zH), (r4Z x0 x1 x2 h).bind e = r4A x0 x1 x2 h) (a0 a2 t0 t1 : Int) (h : zH) : (Un_usedRegisters_55 krZ r4Z a0 a2 t0 t1 h).bind e = Un_usedRegisters_55 krA r4A a0 a2 t0 t1 h := by
  refine Eq.trans (congrArg (fun z => Option.bind z e) (qe_Un_usedRegisters_55 krZ r4Z a0 a2 t0 t1 h)) (Eq.trans ?_ (Eq.symm (qe_Un_usedRegisters_55 krA r4A a0 a2 t0 t1 h)))
  refine zseg_e e (zcal_e _ _ ?_) (zorc_e _ _ ?_) hk (fun _ _ => rfl) 400 _ _ _ _
  · exact trivial
  · exact ⟨rfl, rfl, rfl, zap3_e h4, trivial⟩
set_option maxRecDepth 100000 in
theorem n_Un_usedRegisters_4b {ρ : Type} (e : zRes → Option ρ) {krA : Int → zH → Option ρ} {krZ : Int → zH → Option zRes} (hk : ∀ v h, (krZ v h).bind e = krA v h) {r4A : Int → Int → Int → zH → Option ρ} {r4Z : Int → Int → Int → zH → Option zRes} (h4 : ∀ (x0 x1 x2 : Int) (h : zH), (r4Z x0 x1 x2 h).bind e = r4A x0 x1 x2 h) (a0 a1 a2 : Int) (h : zH) : (Un_usedRegisters_4b krZ r4Z a0 a1 a2 h).bind e = Un_usedRegisters_4b krA r4A a0 a1 a2 h := by
  refine Eq.trans (congrArg (fun z => Option.bind z e) (qe_Un_usedRegisters_4b krZ r4Z a0 a1 a2 h)) (Eq.trans ?_ (Eq.symm (qe_Un_usedRegisters_4b krA r4A a0 a1 a2 h)))
  refine zseg_e e (zcal_e _ _ ?_) (zorc_e _ _ ?_) hk (fun _ _ => rfl) 400 _ _ _ _
  · exact trivial
  · exact ⟨rfl, rfl, rfl, zap4_e (fun x0 x1 x2 x3 h => n_Un_usedRegisters_55 e hk h4 x0 x1 x2 x3 h), trivial⟩
theorem n_Un_usedRegisters_4 {ρ : Type} (e : zRes → Option ρ) {krA : Int → zH → Option ρ} {krZ : Int → zH → Option zRes} (hk : ∀ v h, (krZ v h).bind e = krA v h) (a0 a1 a2 : Int) (h : zH) : (Un_usedRegisters_4 krZ a0 a1 a2 h).bind e = Un_usedRegisters_4 krA a0 a1 a2 h := zit3_e (fun rA rZ hh a0 a1 a2 h => n_Un_usedRegisters_4b e hk hh a0 a1 a2 h) zN a0 a1 a2 h
set_option maxRecDepth 100000 in
theorem n_Un_usedRegisters {ρ : Type} (e : zRes → Option ρ) {krA : Int → zH → Option ρ} {krZ : Int → zH → Option zRes} (hk : ∀ v h, (krZ v h).bind e = krA v h) (a0 : Int) (h : zH) : (Un_usedRegisters a0 h krZ).bind e = Un_usedRegisters a0 h krA := by
  refine Eq.trans (congrArg (fun z => Option.bind z e) (qe_Un_usedRegisters krZ a0 h)) (Eq.trans ?_ (Eq.symm (qe_Un_usedRegisters krA a0 h)))
  refine zseg_e e (zcal_e _ _ ?_) (zorc_e _ _ ?_) hk (fun _ _ => rfl) 400 _ _ _ _
  · exact trivial
  · exact ⟨rfl, rfl, rfl, zap3_e (fun x0 x1 x2 h => n_Un_usedRegisters_4 e hk x0 x1 x2 h), trivial⟩
set_option maxRecDepth 100000 in
theorem n_Un_usedShared_42 {ρ : Type} (e : zRes → Option ρ) {krA : Int → zH → Option ρ} {krZ : Int → zH → Option zRes} (hk : ∀ v h, (krZ v h).bind e = krA v h) {r4A : Int → Int → Int → zH → Option ρ} {r4Z : Int → Int → Int → zH → Option zRes} (h4 : ∀ (x0 x1 x2 : Int) (h : zH), (r4Z x0 x1 x2 h).bind e = r4A x0 x1 x2 h) (a0 a2 t0 t1 : Int) (h : zH) : (Un_usedShared_42 krZ r4Z a0 a2 t0 t1 h).bind e = Un_usedShared_42 krA r4A a0 a2 t0 t1 h := by
  refine Eq.trans (congrArg (fun z => Option.bind z e) (qe_Un_usedShared_42 krZ r4Z a0 a2 t0 t1 h)) (Eq.trans ?_ (Eq.symm (qe_Un_usedShared_42 krA r4A a0 a2 t0 t1 h)))
  refine zseg_e e (zcal_e _ _ ?_) (zorc_e _ _ ?_) hk (fun _ _ => rfl) 400 _ _ _ _
  · exact trivial
  · exact ⟨rfl, rfl, rfl, zap3_e h4, trivial⟩
set_option maxRecDepth 100000 in
theorem n_Un_usedShared_4b {ρ : Type} (e : zRes → Option ρ) {krA : Int → zH → Option ρ} {krZ : Int → zH → Option zRes} (hk : ∀ v h, (krZ v h).bind e = krA v h) {r4A : Int → Int → Int → zH → Option ρ} {r4Z : Int → Int → Int → zH → Option zRes} (h4 : ∀ (x0 x1 x2 : Int) (h : zH), (r4Z x0 x1 x2 h).bind e = r4A x0 x1 x2 h) (a0 a1 a2 : Int) (h : zH) : (Un_usedShared_4b krZ r4Z a0 a1 a2 h).bind e = Un_usedShared_4b krA r4A a0 a1 a2 h := by
  refine Eq.trans (congrArg (fun z => Option.bind z e) (qe_Un_usedShared_4b krZ r4Z a0 a1 a2 h)) (Eq.trans ?_ (Eq.symm (qe_Un_usedShared_4b krA r4A a0 a1 a2 h)))
  refine zseg_e e (zcal_e _ _ ?_) (zorc_e _ _ ?_) hk (fun _ _ => rfl) 400 _ _ _ _
  · exact trivial
  · exact ⟨rfl, rfl, rfl, zap4_e (fun x0 x1 x2 x3 h => n_Un_usedShared_42 e hk h4 x0 x1 x2 x3 h), trivial⟩
theorem n_Un_usedShared_4 {ρ : Type} (e : zRes → Option ρ) {krA : Int → zH → Option ρ} {krZ : Int → zH → Option zRes} (hk : ∀ v h, (krZ v h).bind e = krA v h) (a0 a1 a2 : Int) (h : zH) : (Un_usedShared_4 krZ a0 a1 a2 h).bind e = Un_usedShared_4 krA a0 a1 a2 h := zit3_e (fun rA rZ hh a0 a1 a2 h => n_Un_usedShared_4b e hk hh a0 a1 a2 h) zN a0 a1 a2 h
set_option maxRecDepth 100000 in
theorem n_Un_usedShared {ρ : Type} (e : zRes → Option ρ) {krA : Int → zH → Option ρ} {krZ : Int → zH → Option zRes} (hk : ∀ v h, (krZ v h).bind e = krA v h) (a0 : Int) (h : zH) : (Un_usedShared a0 h krZ).bind e = Un_usedShared a0 h krA := by
  refine Eq.trans (congrArg (fun z => Option.bind z e) (qe_Un_usedShared krZ a0 h)) (Eq.trans ?_ (Eq.symm (qe_Un_usedShared krA a0 h)))
  refine zseg_e e (zcal_e _ _ ?_) (zorc_e _ _ ?_) hk (fun _ _ => rfl) 400 _ _ _ _
  · exact trivial
  · exact ⟨rfl, rfl, rfl, zap3_e (fun x0 x1 x2 h => n_Un_usedShared_4 e hk x0 x1 x2 h), trivial⟩
set_option maxRecDepth 100000 in
theorem n_Un_hasRoomFor_48 {ρ : Type} (e : zRes → Option ρ) {krA : Int → zH → Option ρ} {krZ : Int → zH → Option zRes} (hk : ∀ v h, (krZ v h).bind e = krA v h) (t0 : Int) (h : zH) : (Un_hasRoomFor_48 krZ t0 h).bind e = Un_hasRoomFor_48 krA t0 h := by
  refine Eq.trans (congrArg (fun z => Option.bind z e) (qe_Un_hasRoomFor_48 krZ t0 h)) (Eq.trans ?_ (Eq.symm (qe_Un_hasRoomFor_48 krA t0 h)))
  refine zseg_e e (zcal_e _ _ ?_) (zorc_e _ _ ?_) hk (fun _ _ => rfl) 400 _ _ _ _
  · exact trivial
  · exact trivial
set_option maxRecDepth 100000 in
theorem n_Un_hasRoomFor_47 {ρ : Type} (e : zRes → Option ρ) {krA : Int → zH → Option ρ} {krZ : Int → zH → Option zRes} (hk : ∀ v h, (krZ v h).bind e = krA v h) (h : zH) : (Un_hasRoomFor_47 krZ h).bind e = Un_hasRoomFor_47 krA h := by
  refine Eq.trans (congrArg (fun z => Option.bind z e) (qe_Un_hasRoomFor_47 krZ h)) (Eq.trans ?_ (Eq.symm (qe_Un_hasRoomFor_47 krA h)))
  refine zseg_e e (zcal_e _ _ ?_) (zorc_e _ _ ?_) hk (fun _ _ => rfl) 400 _ _ _ _
  · exact trivial
  · exact ⟨rfl, rfl, rfl, zap1_e (fun x0 h => n_Un_hasRoomFor_48 e hk x0 h), trivial⟩
set_option maxRecDepth 100000 in
theorem n_Un_hasRoomFor {ρ : Type} (e : zRes → Option ρ) {krA : Int → zH → Option ρ} {krZ : Int → zH → Option zRes} (hk : ∀ v h, (krZ v h).bind e = krA v h) (a0 a1 a2 : Int) (h : zH) : (Un_hasRoomFor a0 a1 a2 h krZ).bind e = Un_hasRoomFor a0 a1 a2 h krA := by
  refine Eq.trans (congrArg (fun z => Option.bind z e) (qe_Un_hasRoomFor krZ a0 a1 a2 h)) (Eq.trans ?_ (Eq.symm (qe_Un_hasRoomFor krA a0 a1 a2 h)))
  refine zseg_e e (zcal_e _ _ ?_) (zorc_e _ _ ?_) hk (fun _ _ => rfl) 400 _ _ _ _
  · exact ⟨rfl, rfl, zca1_e (fun x0 h k t => n_X_groupsFor e (fun _ _ => rfl) x0 h), ⟨rfl, rfl, zca1_e (fun x0 h k t => n_Un_usedRegisters e (fun _ _ => rfl) x0 h), ⟨rfl, rfl, zca1_e (fun x0 h k t => n_Un_usedShared e (fun _ _ => rfl) x0 h), trivial⟩⟩⟩
  · exact ⟨rfl, rfl, rfl, zap0_e (fun  h => n_Un_hasRoomFor_47 e hk  h), ⟨rfl, rfl, rfl, zap1_e (fun x0 h => n_Un_hasRoomFor_48 e hk x0 h), trivial⟩⟩
set_option maxRecDepth 100000 in
theorem n_Co_unitFor_56 {ρ : Type} (e : zRes → Option ρ) {krA : Int → zH → Option ρ} {krZ : Int → zH → Option zRes} (hk : ∀ v h, (krZ v h).bind e = krA v h) {r4A : Int → Int → Int → Int → zH → Option ρ} {r4Z : Int → Int → Int → Int → zH → Option zRes} (h4 : ∀ (x0 x1 x2 x3 : Int) (h : zH), (r4Z x0 x1 x2 x3 h).bind e = r4A x0 x1 x2 x3 h) (a0 a1 a2 a3 : Int) (h : zH) : (Co_unitFor_56 krZ r4Z a0 a1 a2 a3 h).bind e = Co_unitFor_56 krA r4A a0 a1 a2 a3 h := by
  refine Eq.trans (congrArg (fun z => Option.bind z e) (qe_Co_unitFor_56 krZ r4Z a0 a1 a2 a3 h)) (Eq.trans ?_ (Eq.symm (qe_Co_unitFor_56 krA r4A a0 a1 a2 a3 h)))
  refine zseg_e e (zcal_e _ _ ?_) (zorc_e _ _ ?_) hk (fun _ _ => rfl) 400 _ _ _ _
  · exact trivial
  · exact ⟨rfl, rfl, rfl, zap4_e h4, trivial⟩
set_option maxRecDepth 100000 in
theorem n_Co_unitFor_49 {ρ : Type} (e : zRes → Option ρ) {krA : Int → zH → Option ρ} {krZ : Int → zH → Option zRes} (hk : ∀ v h, (krZ v h).bind e = krA v h) {r4A : Int → Int → Int → Int → zH → Option ρ} {r4Z : Int → Int → Int → Int → zH → Option zRes} (h4 : ∀ (x0 x1 x2 x3 : Int) (h : zH), (r4Z x0 x1 x2 x3 h).bind e = r4A x0 x1 x2 x3 h) (a0 a1 a3 : Int) (h : zH) : (Co_unitFor_49 krZ r4Z a0 a1 a3 h).bind e = Co_unitFor_49 krA r4A a0 a1 a3 h := by
  refine Eq.trans (congrArg (fun z => Option.bind z e) (qe_Co_unitFor_49 krZ r4Z a0 a1 a3 h)) (Eq.trans ?_ (Eq.symm (qe_Co_unitFor_49 krA r4A a0 a1 a3 h)))
  refine zseg_e e (zcal_e _ _ ?_) (zorc_e _ _ ?_) hk (fun _ _ => rfl) 400 _ _ _ _
  · exact trivial
  · exact ⟨rfl, rfl, rfl, zap4_e (fun x0 x1 x2 x3 h => n_Co_unitFor_56 e hk h4 x0 x1 x2 x3 h), trivial⟩
set_option maxRecDepth 100000 in
theorem n_Co_unitFor_4b {ρ : Type} (e : zRes → Option ρ) {krA : Int → zH → Option ρ} {krZ : Int → zH → Option zRes} (hk : ∀ v h, (krZ v h).bind e = krA v h) {r4A : Int → Int → Int → Int → zH → Option ρ} {r4Z : Int → Int → Int → Int → zH → Option zRes} (h4 : ∀ (x0 x1 x2 x3 : Int) (h : zH), (r4Z x0 x1 x2 x3 h).bind e = r4A x0 x1 x2 x3 h) (a0 a1 a2 a3 : Int) (h : zH) : (Co_unitFor_4b krZ r4Z a0 a1 a2 a3 h).bind e = Co_unitFor_4b krA r4A a0 a1 a2 a3 h := by
  refine Eq.trans (congrArg (fun z => Option.bind z e) (qe_Co_unitFor_4b krZ r4Z a0 a1 a2 a3 h)) (Eq.trans ?_ (Eq.symm (qe_Co_unitFor_4b krA r4A a0 a1 a2 a3 h)))
  refine zseg_e e (zcal_e _ _ ?_) (zorc_e _ _ ?_) hk (fun _ _ => rfl) 400 _ _ _ _
  · exact ⟨rfl, rfl, zca3_e (fun x0 x1 x2 h k t => n_Un_hasRoomFor e (fun _ _ => rfl) x0 x1 x2 h), trivial⟩
  · exact ⟨rfl, rfl, rfl, zap3_e (fun x0 x1 x2 h => n_Co_unitFor_49 e hk h4 x0 x1 x2 h), ⟨rfl, rfl, rfl, zap4_e (fun x0 x1 x2 x3 h => n_Co_unitFor_56 e hk h4 x0 x1 x2 x3 h), trivial⟩⟩
theorem n_Co_unitFor_4 {ρ : Type} (e : zRes → Option ρ) {krA : Int → zH → Option ρ} {krZ : Int → zH → Option zRes} (hk : ∀ v h, (krZ v h).bind e = krA v h) (a0 a1 a2 a3 : Int) (h : zH) : (Co_unitFor_4 krZ a0 a1 a2 a3 h).bind e = Co_unitFor_4 krA a0 a1 a2 a3 h := zit4_e (fun rA rZ hh a0 a1 a2 a3 h => n_Co_unitFor_4b e hk hh a0 a1 a2 a3 h) zN a0 a1 a2 a3 h
set_option maxRecDepth 100000 in
theorem n_Co_unitFor {ρ : Type} (e : zRes → Option ρ) {krA : Int → zH → Option ρ} {krZ : Int → zH → Option zRes} (hk : ∀ v h, (krZ v h).bind e = krA v h) (a0 a1 : Int) (h : zH) : (Co_unitFor a0 a1 h krZ).bind e = Co_unitFor a0 a1 h krA := by
  refine Eq.trans (congrArg (fun z => Option.bind z e) (qe_Co_unitFor krZ a0 a1 h)) (Eq.trans ?_ (Eq.symm (qe_Co_unitFor krA a0 a1 h)))
  refine zseg_e e (zcal_e _ _ ?_) (zorc_e _ _ ?_) hk (fun _ _ => rfl) 400 _ _ _ _
  · exact trivial
  · exact ⟨rfl, rfl, rfl, zap4_e (fun x0 x1 x2 x3 h => n_Co_unitFor_4 e hk x0 x1 x2 x3 h), trivial⟩
set_option maxRecDepth 100000 in
theorem n_Th_goTo_20 {ρ : Type} (e : zRes → Option ρ) {krA : Int → zH → Option ρ} {krZ : Int → zH → Option zRes} (hk : ∀ v h, (krZ v h).bind e = krA v h) (h : zH) : (Th_goTo_20 krZ h).bind e = Th_goTo_20 krA h := by
  refine Eq.trans (congrArg (fun z => Option.bind z e) (qe_Th_goTo_20 krZ h)) (Eq.trans ?_ (Eq.symm (qe_Th_goTo_20 krA h)))
  refine zseg_e e (zcal_e _ _ ?_) (zorc_e _ _ ?_) hk (fun _ _ => rfl) 400 _ _ _ _
  · exact trivial
  · exact trivial
set_option maxRecDepth 100000 in
theorem n_Th_goTo_14 {ρ : Type} (e : zRes → Option ρ) {krA : Int → zH → Option ρ} {krZ : Int → zH → Option zRes} (hk : ∀ v h, (krZ v h).bind e = krA v h) (a0 : Int) (h : zH) : (Th_goTo_14 krZ a0 h).bind e = Th_goTo_14 krA a0 h := by
  refine Eq.trans (congrArg (fun z => Option.bind z e) (qe_Th_goTo_14 krZ a0 h)) (Eq.trans ?_ (Eq.symm (qe_Th_goTo_14 krA a0 h)))
  refine zseg_e e (zcal_e _ _ ?_) (zorc_e _ _ ?_) hk (fun _ _ => rfl) 400 _ _ _ _
  · exact trivial
  · exact ⟨rfl, rfl, rfl, zap0_e (fun  h => n_Th_goTo_20 e hk  h), trivial⟩
set_option maxRecDepth 100000 in
theorem n_Th_goTo {ρ : Type} (e : zRes → Option ρ) {krA : Int → zH → Option ρ} {krZ : Int → zH → Option zRes} (hk : ∀ v h, (krZ v h).bind e = krA v h) (a0 a1 a2 : Int) (h : zH) : (Th_goTo a0 a1 a2 h krZ).bind e = Th_goTo a0 a1 a2 h krA := by
  refine Eq.trans (congrArg (fun z => Option.bind z e) (qe_Th_goTo krZ a0 a1 a2 h)) (Eq.trans ?_ (Eq.symm (qe_Th_goTo krA a0 a1 a2 h)))
  refine zseg_e e (zcal_e _ _ ?_) (zorc_e _ _ ?_) hk (fun _ _ => rfl) 400 _ _ _ _
  · exact trivial
  · exact ⟨rfl, rfl, rfl, zap1_e (fun x0 h => n_Th_goTo_14 e hk x0 h), ⟨rfl, rfl, rfl, zap0_e (fun  h => n_Th_goTo_20 e hk  h), trivial⟩⟩
set_option maxRecDepth 100000 in
theorem n_Th_begin {ρ : Type} (e : zRes → Option ρ) {krA : Int → zH → Option ρ} {krZ : Int → zH → Option zRes} (hk : ∀ v h, (krZ v h).bind e = krA v h) (a0 a1 a2 : Int) (h : zH) : (Th_begin a0 a1 a2 h krZ).bind e = Th_begin a0 a1 a2 h krA := by
  refine Eq.trans (congrArg (fun z => Option.bind z e) (qe_Th_begin krZ a0 a1 a2 h)) (Eq.trans ?_ (Eq.symm (qe_Th_begin krA a0 a1 a2 h)))
  refine zseg_e e (zcal_e _ _ ?_) (zorc_e _ _ ?_) hk (fun _ _ => rfl) 400 _ _ _ _
  · exact ⟨rfl, rfl, zca2_e (fun x0 x1 h k t => n_Ar_fill_32 e (fun _ _ => rfl) x0 x1 h), ⟨rfl, rfl, zca3_e (fun x0 x1 x2 h k t => n_Th_goTo e (fun _ _ => rfl) x0 x1 x2 h), trivial⟩⟩
  · exact trivial
set_option maxRecDepth 100000 in
theorem n_Bl_init_35b {ρ : Type} (e : zRes → Option ρ) {krA : Int → zH → Option ρ} {krZ : Int → zH → Option zRes} (hk : ∀ v h, (krZ v h).bind e = krA v h) {r35A : Int → Int → Int → Int → zH → Option ρ} {r35Z : Int → Int → Int → Int → zH → Option zRes} (h35 : ∀ (x0 x1 x2 x3 : Int) (h : zH), (r35Z x0 x1 x2 x3 h).bind e = r35A x0 x1 x2 x3 h) (a0 a1 a2 a3 : Int) (h : zH) : (Bl_init_35b krZ r35Z a0 a1 a2 a3 h).bind e = Bl_init_35b krA r35A a0 a1 a2 a3 h := by
  refine Eq.trans (congrArg (fun z => Option.bind z e) (qe_Bl_init_35b krZ r35Z a0 a1 a2 a3 h)) (Eq.trans ?_ (Eq.symm (qe_Bl_init_35b krA r35A a0 a1 a2 a3 h)))
  refine zseg_e e (zcal_e _ _ ?_) (zorc_e _ _ ?_) hk (fun _ _ => rfl) 400 _ _ _ _
  · exact ⟨rfl, rfl, zca1_e (fun x0 h k t => n_X_groupsFor e (fun _ _ => rfl) x0 h), ⟨rfl, rfl, zca3_e (fun x0 x1 x2 h k t => n_Th_init e (fun _ _ => rfl) x0 x1 x2 h), ⟨rfl, rfl, zca3_e (fun x0 x1 x2 h k t => n_Th_begin e (fun _ _ => rfl) x0 x1 x2 h), trivial⟩⟩⟩
  · exact ⟨rfl, rfl, rfl, zap4_e h35, trivial⟩
theorem n_Bl_init_35 {ρ : Type} (e : zRes → Option ρ) {krA : Int → zH → Option ρ} {krZ : Int → zH → Option zRes} (hk : ∀ v h, (krZ v h).bind e = krA v h) (a0 a1 a2 a3 : Int) (h : zH) : (Bl_init_35 krZ a0 a1 a2 a3 h).bind e = Bl_init_35 krA a0 a1 a2 a3 h := zit4_e (fun rA rZ hh a0 a1 a2 a3 h => n_Bl_init_35b e hk hh a0 a1 a2 a3 h) zN a0 a1 a2 a3 h
set_option maxRecDepth 100000 in
theorem n_Bl_init {ρ : Type} (e : zRes → Option ρ) {krA : Int → zH → Option ρ} {krZ : Int → zH → Option zRes} (hk : ∀ v h, (krZ v h).bind e = krA v h) (a0 a1 a2 : Int) (h : zH) : (Bl_init a0 a1 a2 h krZ).bind e = Bl_init a0 a1 a2 h krA := by
  refine Eq.trans (congrArg (fun z => Option.bind z e) (qe_Bl_init krZ a0 a1 a2 h)) (Eq.trans ?_ (Eq.symm (qe_Bl_init krA a0 a1 a2 h)))
  refine zseg_e e (zcal_e _ _ ?_) (zorc_e _ _ ?_) hk (fun _ _ => rfl) 400 _ _ _ _
  · exact trivial
  · exact ⟨rfl, rfl, rfl, zap4_e (fun x0 x1 x2 x3 h => n_Bl_init_35 e hk x0 x1 x2 x3 h), trivial⟩
set_option maxRecDepth 100000 in
theorem n_Gr_init_74 {ρ : Type} (e : zRes → Option ρ) {krA : Int → zH → Option ρ} {krZ : Int → zH → Option zRes} (hk : ∀ v h, (krZ v h).bind e = krA v h) (h : zH) : (Gr_init_74 krZ h).bind e = Gr_init_74 krA h := by
  refine Eq.trans (congrArg (fun z => Option.bind z e) (qe_Gr_init_74 krZ h)) (Eq.trans ?_ (Eq.symm (qe_Gr_init_74 krA h)))
  refine zseg_e e (zcal_e _ _ ?_) (zorc_e _ _ ?_) hk (fun _ _ => rfl) 400 _ _ _ _
  · exact trivial
  · exact trivial
set_option maxRecDepth 100000 in
theorem n_Gr_init_38b {ρ : Type} (e : zRes → Option ρ) {krA : Int → zH → Option ρ} {krZ : Int → zH → Option zRes} (hk : ∀ v h, (krZ v h).bind e = krA v h) {r38A : Int → Int → Int → Int → zH → Option ρ} {r38Z : Int → Int → Int → Int → zH → Option zRes} (h38 : ∀ (x0 x1 x2 x3 : Int) (h : zH), (r38Z x0 x1 x2 x3 h).bind e = r38A x0 x1 x2 x3 h) (a0 a1 a2 a3 : Int) (h : zH) : (Gr_init_38b krZ r38Z a0 a1 a2 a3 h).bind e = Gr_init_38b krA r38A a0 a1 a2 a3 h := by
  refine Eq.trans (congrArg (fun z => Option.bind z e) (qe_Gr_init_38b krZ r38Z a0 a1 a2 a3 h)) (Eq.trans ?_ (Eq.symm (qe_Gr_init_38b krA r38A a0 a1 a2 a3 h)))
  refine zseg_e e (zcal_e _ _ ?_) (zorc_e _ _ ?_) hk (fun _ _ => rfl) 400 _ _ _ _
  · exact trivial
  · exact ⟨rfl, rfl, rfl, zap4_e h38, ⟨rfl, rfl, rfl, zap0_e (fun  h => n_Gr_init_74 e hk  h), trivial⟩⟩
theorem n_Gr_init_38 {ρ : Type} (e : zRes → Option ρ) {krA : Int → zH → Option ρ} {krZ : Int → zH → Option zRes} (hk : ∀ v h, (krZ v h).bind e = krA v h) (a0 a1 a2 a3 : Int) (h : zH) : (Gr_init_38 krZ a0 a1 a2 a3 h).bind e = Gr_init_38 krA a0 a1 a2 a3 h := zit4_e (fun rA rZ hh a0 a1 a2 a3 h => n_Gr_init_38b e hk hh a0 a1 a2 a3 h) zN a0 a1 a2 a3 h
set_option maxRecDepth 100000 in
theorem n_Gr_init {ρ : Type} (e : zRes → Option ρ) {krA : Int → zH → Option ρ} {krZ : Int → zH → Option zRes} (hk : ∀ v h, (krZ v h).bind e = krA v h) (a0 a1 a2 : Int) (h : zH) : (Gr_init a0 a1 a2 h krZ).bind e = Gr_init a0 a1 a2 h krA := by
  refine Eq.trans (congrArg (fun z => Option.bind z e) (qe_Gr_init krZ a0 a1 a2 h)) (Eq.trans ?_ (Eq.symm (qe_Gr_init krA a0 a1 a2 h)))
  refine zseg_e e (zcal_e _ _ ?_) (zorc_e _ _ ?_) hk (fun _ _ => rfl) 400 _ _ _ _
  · exact trivial
  · exact ⟨rfl, rfl, rfl, zap4_e (fun x0 x1 x2 x3 h => n_Gr_init_38 e hk x0 x1 x2 x3 h), trivial⟩
set_option maxRecDepth 100000 in
theorem n_Bl_nextOf_15b {ρ : Type} (e : zRes → Option ρ) {krA : Int → zH → Option ρ} {krZ : Int → zH → Option zRes} (hk : ∀ v h, (krZ v h).bind e = krA v h) {r15A : Int → Int → Int → zH → Option ρ} {r15Z : Int → Int → Int → zH → Option zRes} (h15 : ∀ (x0 x1 x2 : Int) (h : zH), (r15Z x0 x1 x2 h).bind e = r15A x0 x1 x2 h) (a0 a1 a2 : Int) (h : zH) : (Bl_nextOf_15b krZ r15Z a0 a1 a2 h).bind e = Bl_nextOf_15b krA r15A a0 a1 a2 h := by
  refine Eq.trans (congrArg (fun z => Option.bind z e) (qe_Bl_nextOf_15b krZ r15Z a0 a1 a2 h)) (Eq.trans ?_ (Eq.symm (qe_Bl_nextOf_15b krA r15A a0 a1 a2 h)))
  refine zseg_e e (zcal_e _ _ ?_) (zorc_e _ _ ?_) hk (fun _ _ => rfl) 400 _ _ _ _
  · exact ⟨rfl, rfl, zca3_e (fun x0 x1 x2 h k t => n_Gr_init e (fun _ _ => rfl) x0 x1 x2 h), trivial⟩
  · exact ⟨rfl, rfl, rfl, zap3_e h15, trivial⟩
theorem n_Bl_nextOf_15 {ρ : Type} (e : zRes → Option ρ) {krA : Int → zH → Option ρ} {krZ : Int → zH → Option zRes} (hk : ∀ v h, (krZ v h).bind e = krA v h) (a0 a1 a2 : Int) (h : zH) : (Bl_nextOf_15 krZ a0 a1 a2 h).bind e = Bl_nextOf_15 krA a0 a1 a2 h := zit3_e (fun rA rZ hh a0 a1 a2 h => n_Bl_nextOf_15b e hk hh a0 a1 a2 h) zN a0 a1 a2 h
set_option maxRecDepth 100000 in
theorem n_Bl_nextOf {ρ : Type} (e : zRes → Option ρ) {krA : Int → zH → Option ρ} {krZ : Int → zH → Option zRes} (hk : ∀ v h, (krZ v h).bind e = krA v h) (a0 : Int) (h : zH) : (Bl_nextOf a0 h krZ).bind e = Bl_nextOf a0 h krA := by
  refine Eq.trans (congrArg (fun z => Option.bind z e) (qe_Bl_nextOf krZ a0 h)) (Eq.trans ?_ (Eq.symm (qe_Bl_nextOf krA a0 h)))
  refine zseg_e e (zcal_e _ _ ?_) (zorc_e _ _ ?_) hk (fun _ _ => rfl) 400 _ _ _ _
  · exact ⟨rfl, rfl, zca3_e (fun x0 x1 x2 h k t => n_Bl_init e (fun _ _ => rfl) x0 x1 x2 h), trivial⟩
  · exact ⟨rfl, rfl, rfl, zap3_e (fun x0 x1 x2 h => n_Bl_nextOf_15 e hk x0 x1 x2 h), trivial⟩
set_option maxRecDepth 100000 in
theorem n_Th_isRunning_14 {ρ : Type} (e : zRes → Option ρ) {krA : Int → zH → Option ρ} {krZ : Int → zH → Option zRes} (hk : ∀ v h, (krZ v h).bind e = krA v h) (t0 : Int) (h : zH) : (Th_isRunning_14 krZ t0 h).bind e = Th_isRunning_14 krA t0 h := by
  refine Eq.trans (congrArg (fun z => Option.bind z e) (qe_Th_isRunning_14 krZ t0 h)) (Eq.trans ?_ (Eq.symm (qe_Th_isRunning_14 krA t0 h)))
  refine zseg_e e (zcal_e _ _ ?_) (zorc_e _ _ ?_) hk (fun _ _ => rfl) 400 _ _ _ _
  · exact trivial
  · exact trivial
set_option maxRecDepth 100000 in
theorem n_Th_isRunning {ρ : Type} (e : zRes → Option ρ) {krA : Int → zH → Option ρ} {krZ : Int → zH → Option zRes} (hk : ∀ v h, (krZ v h).bind e = krA v h) (a0 : Int) (h : zH) : (Th_isRunning a0 h krZ).bind e = Th_isRunning a0 h krA := by
  refine Eq.trans (congrArg (fun z => Option.bind z e) (qe_Th_isRunning krZ a0 h)) (Eq.trans ?_ (Eq.symm (qe_Th_isRunning krA a0 h)))
  refine zseg_e e (zcal_e _ _ ?_) (zorc_e _ _ ?_) hk (fun _ _ => rfl) 400 _ _ _ _
  · exact trivial
  · exact ⟨rfl, rfl, rfl, zap1_e (fun x0 h => n_Th_isRunning_14 e hk x0 h), trivial⟩
set_option maxRecDepth 100000 in
theorem n_Th_isAnyRunning_30 {ρ : Type} (e : zRes → Option ρ) {krA : Int → zH → Option ρ} {krZ : Int → zH → Option zRes} (hk : ∀ v h, (krZ v h).bind e = krA v h) (h : zH) : (Th_isAnyRunning_30 krZ h).bind e = Th_isAnyRunning_30 krA h := by
  refine Eq.trans (congrArg (fun z => Option.bind z e) (qe_Th_isAnyRunning_30 krZ h)) (Eq.trans ?_ (Eq.symm (qe_Th_isAnyRunning_30 krA h)))
  refine zseg_e e (zcal_e _ _ ?_) (zorc_e _ _ ?_) hk (fun _ _ => rfl) 400 _ _ _ _
  · exact trivial
  · exact trivial
set_option maxRecDepth 100000 in
theorem n_Th_isAnyRunning_2b {ρ : Type} (e : zRes → Option ρ) {krA : Int → zH → Option ρ} {krZ : Int → zH → Option zRes} (hk : ∀ v h, (krZ v h).bind e = krA v h) {r2A : Int → Int → Int → zH → Option ρ} {r2Z : Int → Int → Int → zH → Option zRes} (h2 : ∀ (x0 x1 x2 : Int) (h : zH), (r2Z x0 x1 x2 h).bind e = r2A x0 x1 x2 h) (a0 a1 a2 : Int) (h : zH) : (Th_isAnyRunning_2b krZ r2Z a0 a1 a2 h).bind e = Th_isAnyRunning_2b krA r2A a0 a1 a2 h := by
  refine Eq.trans (congrArg (fun z => Option.bind z e) (qe_Th_isAnyRunning_2b krZ r2Z a0 a1 a2 h)) (Eq.trans ?_ (Eq.symm (qe_Th_isAnyRunning_2b krA r2A a0 a1 a2 h)))
  refine zseg_e e (zcal_e _ _ ?_) (zorc_e _ _ ?_) hk (fun _ _ => rfl) 400 _ _ _ _
  · exact ⟨rfl, rfl, zca1_e (fun x0 h k t => n_Th_isRunning e (fun _ _ => rfl) x0 h), trivial⟩
  · exact ⟨rfl, rfl, rfl, zap3_e h2, ⟨rfl, rfl, rfl, zap0_e (fun  h => n_Th_isAnyRunning_30 e hk  h), trivial⟩⟩
theorem n_Th_isAnyRunning_2 {ρ : Type} (e : zRes → Option ρ) {krA : Int → zH → Option ρ} {krZ : Int → zH → Option zRes} (hk : ∀ v h, (krZ v h).bind e = krA v h) (a0 a1 a2 : Int) (h : zH) : (Th_isAnyRunning_2 krZ a0 a1 a2 h).bind e = Th_isAnyRunning_2 krA a0 a1 a2 h := zit3_e (fun rA rZ hh a0 a1 a2 h => n_Th_isAnyRunning_2b e hk hh a0 a1 a2 h) zN a0 a1 a2 h
set_option maxRecDepth 100000 in
theorem n_Th_isAnyRunning {ρ : Type} (e : zRes → Option ρ) {krA : Int → zH → Option ρ} {krZ : Int → zH → Option zRes} (hk : ∀ v h, (krZ v h).bind e = krA v h) (a0 a1 : Int) (h : zH) : (Th_isAnyRunning a0 a1 h krZ).bind e = Th_isAnyRunning a0 a1 h krA := by
  refine Eq.trans (congrArg (fun z => Option.bind z e) (qe_Th_isAnyRunning krZ a0 a1 h)) (Eq.trans ?_ (Eq.symm (qe_Th_isAnyRunning krA a0 a1 h)))
  refine zseg_e e (zcal_e _ _ ?_) (zorc_e _ _ ?_) hk (fun _ _ => rfl) 400 _ _ _ _
  · exact trivial
  · exact ⟨rfl, rfl, rfl, zap3_e (fun x0 x1 x2 h => n_Th_isAnyRunning_2 e hk x0 x1 x2 h), trivial⟩
set_option maxRecDepth 100000 in
theorem n_Th_isWaiting_14 {ρ : Type} (e : zRes → Option ρ) {krA : Int → zH → Option ρ} {krZ : Int → zH → Option zRes} (hk : ∀ v h, (krZ v h).bind e = krA v h) (t0 : Int) (h : zH) : (Th_isWaiting_14 krZ t0 h).bind e = Th_isWaiting_14 krA t0 h := by
  refine Eq.trans (congrArg (fun z => Option.bind z e) (qe_Th_isWaiting_14 krZ t0 h)) (Eq.trans ?_ (Eq.symm (qe_Th_isWaiting_14 krA t0 h)))
  refine zseg_e e (zcal_e _ _ ?_) (zorc_e _ _ ?_) hk (fun _ _ => rfl) 400 _ _ _ _
  · exact trivial
  · exact trivial
set_option maxRecDepth 100000 in
theorem n_Th_isWaiting {ρ : Type} (e : zRes → Option ρ) {krA : Int → zH → Option ρ} {krZ : Int → zH → Option zRes} (hk : ∀ v h, (krZ v h).bind e = krA v h) (a0 : Int) (h : zH) : (Th_isWaiting a0 h krZ).bind e = Th_isWaiting a0 h krA := by
  refine Eq.trans (congrArg (fun z => Option.bind z e) (qe_Th_isWaiting krZ a0 h)) (Eq.trans ?_ (Eq.symm (qe_Th_isWaiting krA a0 h)))
  refine zseg_e e (zcal_e _ _ ?_) (zorc_e _ _ ?_) hk (fun _ _ => rfl) 400 _ _ _ _
  · exact trivial
  · exact ⟨rfl, rfl, rfl, zap1_e (fun x0 h => n_Th_isWaiting_14 e hk x0 h), trivial⟩
set_option maxRecDepth 100000 in
theorem n_Th_lowestOfWaiting_36_32 {ρ : Type} (e : zRes → Option ρ) {krA : Int → zH → Option ρ} {krZ : Int → zH → Option zRes} (hk : ∀ v h, (krZ v h).bind e = krA v h) (h : zH) : (Th_lowestOfWaiting_36_32 krZ h).bind e = Th_lowestOfWaiting_36_32 krA h := by
  refine Eq.trans (congrArg (fun z => Option.bind z e) (qe_Th_lowestOfWaiting_36_32 krZ h)) (Eq.trans ?_ (Eq.symm (qe_Th_lowestOfWaiting_36_32 krA h)))
  refine zseg_e e (zcal_e _ _ ?_) (zorc_e _ _ ?_) hk (fun _ _ => rfl) 400 _ _ _ _
  · exact trivial
  · exact trivial
set_option maxRecDepth 100000 in
theorem n_Th_lowestOfWaiting_36_2b {ρ : Type} (e : zRes → Option ρ) {krA : Int → zH → Option ρ} {krZ : Int → zH → Option zRes} (hk : ∀ v h, (krZ v h).bind e = krA v h) {r2A : Int → Int → Int → zH → Option ρ} {r2Z : Int → Int → Int → zH → Option zRes} (h2 : ∀ (x0 x1 x2 : Int) (h : zH), (r2Z x0 x1 x2 h).bind e = r2A x0 x1 x2 h) (a0 a1 a2 : Int) (h : zH) : (Th_lowestOfWaiting_36_2b krZ r2Z a0 a1 a2 h).bind e = Th_lowestOfWaiting_36_2b krA r2A a0 a1 a2 h := by
  refine Eq.trans (congrArg (fun z => Option.bind z e) (qe_Th_lowestOfWaiting_36_2b krZ r2Z a0 a1 a2 h)) (Eq.trans ?_ (Eq.symm (qe_Th_lowestOfWaiting_36_2b krA r2A a0 a1 a2 h)))
  refine zseg_e e (zcal_e _ _ ?_) (zorc_e _ _ ?_) hk (fun _ _ => rfl) 400 _ _ _ _
  · exact ⟨rfl, rfl, zca1_e (fun x0 h k t => n_Th_isWaiting e (fun _ _ => rfl) x0 h), trivial⟩
  · exact ⟨rfl, rfl, rfl, zap3_e h2, ⟨rfl, rfl, rfl, zap0_e (fun  h => n_Th_lowestOfWaiting_36_32 e hk  h), trivial⟩⟩
theorem n_Th_lowestOfWaiting_36_2 {ρ : Type} (e : zRes → Option ρ) {krA : Int → zH → Option ρ} {krZ : Int → zH → Option zRes} (hk : ∀ v h, (krZ v h).bind e = krA v h) (a0 a1 a2 : Int) (h : zH) : (Th_lowestOfWaiting_36_2 krZ a0 a1 a2 h).bind e = Th_lowestOfWaiting_36_2 krA a0 a1 a2 h := zit3_e (fun rA rZ hh a0 a1 a2 h => n_Th_lowestOfWaiting_36_2b e hk hh a0 a1 a2 h) zN a0 a1 a2 h
set_option maxRecDepth 100000 in
theorem n_Th_lowestOfWaiting_36 {ρ : Type} (e : zRes → Option ρ) {krA : Int → zH → Option ρ} {krZ : Int → zH → Option zRes} (hk : ∀ v h, (krZ v h).bind e = krA v h) (a0 a1 : Int) (h : zH) : (Th_lowestOfWaiting_36 a0 a1 h krZ).bind e = Th_lowestOfWaiting_36 a0 a1 h krA := by
  refine Eq.trans (congrArg (fun z => Option.bind z e) (qe_Th_lowestOfWaiting_36 krZ a0 a1 h)) (Eq.trans ?_ (Eq.symm (qe_Th_lowestOfWaiting_36 krA a0 a1 h)))
  refine zseg_e e (zcal_e _ _ ?_) (zorc_e _ _ ?_) hk (fun _ _ => rfl) 400 _ _ _ _
  · exact trivial
  · exact ⟨rfl, rfl, rfl, zap3_e (fun x0 x1 x2 h => n_Th_lowestOfWaiting_36_2 e hk x0 x1 x2 h), trivial⟩
set_option maxRecDepth 100000 in
theorem n_Bl_isAllEnded_35 {ρ : Type} (e : zRes → Option ρ) {krA : Int → zH → Option ρ} {krZ : Int → zH → Option zRes} (hk : ∀ v h, (krZ v h).bind e = krA v h) (t0 : Int) (h : zH) : (Bl_isAllEnded_35 krZ t0 h).bind e = Bl_isAllEnded_35 krA t0 h := by
  refine Eq.trans (congrArg (fun z => Option.bind z e) (qe_Bl_isAllEnded_35 krZ t0 h)) (Eq.trans ?_ (Eq.symm (qe_Bl_isAllEnded_35 krA t0 h)))
  refine zseg_e e (zcal_e _ _ ?_) (zorc_e _ _ ?_) hk (fun _ _ => rfl) 400 _ _ _ _
  · exact trivial
  · exact trivial
set_option maxRecDepth 100000 in
theorem n_Bl_isAllEnded_34 {ρ : Type} (e : zRes → Option ρ) {krA : Int → zH → Option ρ} {krZ : Int → zH → Option zRes} (hk : ∀ v h, (krZ v h).bind e = krA v h) (h : zH) : (Bl_isAllEnded_34 krZ h).bind e = Bl_isAllEnded_34 krA h := by
  refine Eq.trans (congrArg (fun z => Option.bind z e) (qe_Bl_isAllEnded_34 krZ h)) (Eq.trans ?_ (Eq.symm (qe_Bl_isAllEnded_34 krA h)))
  refine zseg_e e (zcal_e _ _ ?_) (zorc_e _ _ ?_) hk (fun _ _ => rfl) 400 _ _ _ _
  · exact trivial
  · exact ⟨rfl, rfl, rfl, zap1_e (fun x0 h => n_Bl_isAllEnded_35 e hk x0 h), trivial⟩
set_option maxRecDepth 100000 in
theorem n_Bl_isAllEnded {ρ : Type} (e : zRes → Option ρ) {krA : Int → zH → Option ρ} {krZ : Int → zH → Option zRes} (hk : ∀ v h, (krZ v h).bind e = krA v h) (a0 : Int) (h : zH) : (Bl_isAllEnded a0 h krZ).bind e = Bl_isAllEnded a0 h krA := by
  refine Eq.trans (congrArg (fun z => Option.bind z e) (qe_Bl_isAllEnded krZ a0 h)) (Eq.trans ?_ (Eq.symm (qe_Bl_isAllEnded krA a0 h)))
  refine zseg_e e (zcal_e _ _ ?_) (zorc_e _ _ ?_) hk (fun _ _ => rfl) 400 _ _ _ _
  · exact ⟨rfl, rfl, zca2_e (fun x0 x1 h k t => n_Th_isAnyRunning e (fun _ _ => rfl) x0 x1 h), ⟨rfl, rfl, zca2_e (fun x0 x1 h k t => n_Th_lowestOfWaiting_36 e (fun _ _ => rfl) x0 x1 h), trivial⟩⟩
  · exact ⟨rfl, rfl, rfl, zap0_e (fun  h => n_Bl_isAllEnded_34 e hk  h), ⟨rfl, rfl, rfl, zap1_e (fun x0 h => n_Bl_isAllEnded_35 e hk x0 h), trivial⟩⟩
set_option maxRecDepth 100000 in
theorem n_La_isRunning_14 {ρ : Type} (e : zRes → Option ρ) {krA : Int → zH → Option ρ} {krZ : Int → zH → Option zRes} (hk : ∀ v h, (krZ v h).bind e = krA v h) (t0 : Int) (h : zH) : (La_isRunning_14 krZ t0 h).bind e = La_isRunning_14 krA t0 h := by
  refine Eq.trans (congrArg (fun z => Option.bind z e) (qe_La_isRunning_14 krZ t0 h)) (Eq.trans ?_ (Eq.symm (qe_La_isRunning_14 krA t0 h)))
  refine zseg_e e (zcal_e _ _ ?_) (zorc_e _ _ ?_) hk (fun _ _ => rfl) 400 _ _ _ _
  · exact trivial
  · exact trivial
set_option maxRecDepth 100000 in
theorem n_La_isRunning {ρ : Type} (e : zRes → Option ρ) {krA : Int → zH → Option ρ} {krZ : Int → zH → Option zRes} (hk : ∀ v h, (krZ v h).bind e = krA v h) (a0 : Int) (h : zH) : (La_isRunning a0 h krZ).bind e = La_isRunning a0 h krA := by
  refine Eq.trans (congrArg (fun z => Option.bind z e) (qe_La_isRunning krZ a0 h)) (Eq.trans ?_ (Eq.symm (qe_La_isRunning krA a0 h)))
  refine zseg_e e (zcal_e _ _ ?_) (zorc_e _ _ ?_) hk (fun _ _ => rfl) 400 _ _ _ _
  · exact trivial
  · exact ⟨rfl, rfl, rfl, zap1_e (fun x0 h => n_La_isRunning_14 e hk x0 h), trivial⟩
set_option maxRecDepth 100000 in
theorem n_Le_hasOpenChild_37 {ρ : Type} (e : zRes → Option ρ) {krA : Int → zH → Option ρ} {krZ : Int → zH → Option zRes} (hk : ∀ v h, (krZ v h).bind e = krA v h) {r2A : Int → Int → Int → zH → Option ρ} {r2Z : Int → Int → Int → zH → Option zRes} (h2 : ∀ (x0 x1 x2 : Int) (h : zH), (r2Z x0 x1 x2 h).bind e = r2A x0 x1 x2 h) (a0 a1 a2 : Int) (h : zH) : (Le_hasOpenChild_37 krZ r2Z a0 a1 a2 h).bind e = Le_hasOpenChild_37 krA r2A a0 a1 a2 h := by
  refine Eq.trans (congrArg (fun z => Option.bind z e) (qe_Le_hasOpenChild_37 krZ r2Z a0 a1 a2 h)) (Eq.trans ?_ (Eq.symm (qe_Le_hasOpenChild_37 krA r2A a0 a1 a2 h)))
  refine zseg_e e (zcal_e _ _ ?_) (zorc_e _ _ ?_) hk (fun _ _ => rfl) 400 _ _ _ _
  · exact trivial
  · exact ⟨rfl, rfl, rfl, zap3_e h2, trivial⟩
set_option maxRecDepth 100000 in
theorem n_Le_hasOpenChild_2b {ρ : Type} (e : zRes → Option ρ) {krA : Int → zH → Option ρ} {krZ : Int → zH → Option zRes} (hk : ∀ v h, (krZ v h).bind e = krA v h) {r2A : Int → Int → Int → zH → Option ρ} {r2Z : Int → Int → Int → zH → Option zRes} (h2 : ∀ (x0 x1 x2 : Int) (h : zH), (r2Z x0 x1 x2 h).bind e = r2A x0 x1 x2 h) (a0 a1 a2 : Int) (h : zH) : (Le_hasOpenChild_2b krZ r2Z a0 a1 a2 h).bind e = Le_hasOpenChild_2b krA r2A a0 a1 a2 h := by
  refine Eq.trans (congrArg (fun z => Option.bind z e) (qe_Le_hasOpenChild_2b krZ r2Z a0 a1 a2 h)) (Eq.trans ?_ (Eq.symm (qe_Le_hasOpenChild_2b krA r2A a0 a1 a2 h)))
  refine zseg_e e (zcal_e _ _ ?_) (zorc_e _ _ ?_) hk (fun _ _ => rfl) 400 _ _ _ _
  · exact ⟨rfl, rfl, zca1_e (fun x0 h k t => n_La_isOver e (fun _ _ => rfl) x0 h), trivial⟩
  · exact ⟨rfl, rfl, rfl, zap3_e (fun x0 x1 x2 h => n_Le_hasOpenChild_37 e hk h2 x0 x1 x2 h), trivial⟩
theorem n_Le_hasOpenChild_2 {ρ : Type} (e : zRes → Option ρ) {krA : Int → zH → Option ρ} {krZ : Int → zH → Option zRes} (hk : ∀ v h, (krZ v h).bind e = krA v h) (a0 a1 a2 : Int) (h : zH) : (Le_hasOpenChild_2 krZ a0 a1 a2 h).bind e = Le_hasOpenChild_2 krA a0 a1 a2 h := zit3_e (fun rA rZ hh a0 a1 a2 h => n_Le_hasOpenChild_2b e hk hh a0 a1 a2 h) zN a0 a1 a2 h
set_option maxRecDepth 100000 in
theorem n_Le_hasOpenChild {ρ : Type} (e : zRes → Option ρ) {krA : Int → zH → Option ρ} {krZ : Int → zH → Option zRes} (hk : ∀ v h, (krZ v h).bind e = krA v h) (a0 a1 : Int) (h : zH) : (Le_hasOpenChild a0 a1 h krZ).bind e = Le_hasOpenChild a0 a1 h krA := by
  refine Eq.trans (congrArg (fun z => Option.bind z e) (qe_Le_hasOpenChild krZ a0 a1 h)) (Eq.trans ?_ (Eq.symm (qe_Le_hasOpenChild krA a0 a1 h)))
  refine zseg_e e (zcal_e _ _ ?_) (zorc_e _ _ ?_) hk (fun _ _ => rfl) 400 _ _ _ _
  · exact trivial
  · exact ⟨rfl, rfl, rfl, zap3_e (fun x0 x1 x2 h => n_Le_hasOpenChild_2 e hk x0 x1 x2 h), trivial⟩
set_option maxRecDepth 100000 in
theorem n_Le_endIfDone_40 {ρ : Type} (e : zRes → Option ρ) {krA : Int → zH → Option ρ} {krZ : Int → zH → Option zRes} (hk : ∀ v h, (krZ v h).bind e = krA v h) (h : zH) : (Le_endIfDone_40 krZ h).bind e = Le_endIfDone_40 krA h := by
  refine Eq.trans (congrArg (fun z => Option.bind z e) (qe_Le_endIfDone_40 krZ h)) (Eq.trans ?_ (Eq.symm (qe_Le_endIfDone_40 krA h)))
  refine zseg_e e (zcal_e _ _ ?_) (zorc_e _ _ ?_) hk (fun _ _ => rfl) 400 _ _ _ _
  · exact trivial
  · exact trivial
set_option maxRecDepth 100000 in
theorem n_Le_endIfDone_58 {ρ : Type} (e : zRes → Option ρ) {krA : Int → zH → Option ρ} {krZ : Int → zH → Option zRes} (hk : ∀ v h, (krZ v h).bind e = krA v h) (h : zH) : (Le_endIfDone_58 krZ h).bind e = Le_endIfDone_58 krA h := by
  refine Eq.trans (congrArg (fun z => Option.bind z e) (qe_Le_endIfDone_58 krZ h)) (Eq.trans ?_ (Eq.symm (qe_Le_endIfDone_58 krA h)))
  refine zseg_e e (zcal_e _ _ ?_) (zorc_e _ _ ?_) hk (fun _ _ => rfl) 400 _ _ _ _
  · exact trivial
  · exact trivial
set_option maxRecDepth 100000 in
theorem n_Le_endIfDone_4b {ρ : Type} (e : zRes → Option ρ) {krA : Int → zH → Option ρ} {krZ : Int → zH → Option zRes} (hk : ∀ v h, (krZ v h).bind e = krA v h) {r4A : Int → Int → Int → zH → Option ρ} {r4Z : Int → Int → Int → zH → Option zRes} (h4 : ∀ (x0 x1 x2 : Int) (h : zH), (r4Z x0 x1 x2 h).bind e = r4A x0 x1 x2 h) (a0 a2 a3 : Int) (h : zH) : (Le_endIfDone_4b krZ r4Z a0 a2 a3 h).bind e = Le_endIfDone_4b krA r4A a0 a2 a3 h := by
  refine Eq.trans (congrArg (fun z => Option.bind z e) (qe_Le_endIfDone_4b krZ r4Z a0 a2 a3 h)) (Eq.trans ?_ (Eq.symm (qe_Le_endIfDone_4b krA r4A a0 a2 a3 h)))
  refine zseg_e e (zcal_e _ _ ?_) (zorc_e _ _ ?_) hk (fun _ _ => rfl) 400 _ _ _ _
  · exact ⟨rfl, rfl, zca1_e (fun x0 h k t => n_La_isRunning e (fun _ _ => rfl) x0 h), ⟨rfl, rfl, zca2_e (fun x0 x1 h k t => n_Le_hasOpenChild e (fun _ _ => rfl) x0 x1 h), trivial⟩⟩
  · exact ⟨rfl, rfl, rfl, zap3_e h4, ⟨rfl, rfl, rfl, zap0_e (fun  h => n_Le_endIfDone_40 e hk  h), ⟨rfl, rfl, rfl, zap0_e (fun  h => n_Le_endIfDone_58 e hk  h), trivial⟩⟩⟩
theorem n_Le_endIfDone_4 {ρ : Type} (e : zRes → Option ρ) {krA : Int → zH → Option ρ} {krZ : Int → zH → Option zRes} (hk : ∀ v h, (krZ v h).bind e = krA v h) (a0 a2 a3 : Int) (h : zH) : (Le_endIfDone_4 krZ a0 a2 a3 h).bind e = Le_endIfDone_4 krA a0 a2 a3 h := zit3_e (fun rA rZ hh a0 a2 a3 h => n_Le_endIfDone_4b e hk hh a0 a2 a3 h) zN a0 a2 a3 h
set_option maxRecDepth 100000 in
theorem n_Le_endIfDone {ρ : Type} (e : zRes → Option ρ) {krA : Int → zH → Option ρ} {krZ : Int → zH → Option zRes} (hk : ∀ v h, (krZ v h).bind e = krA v h) (a0 a1 : Int) (h : zH) : (Le_endIfDone a0 a1 h krZ).bind e = Le_endIfDone a0 a1 h krA := by
  refine Eq.trans (congrArg (fun z => Option.bind z e) (qe_Le_endIfDone krZ a0 a1 h)) (Eq.trans ?_ (Eq.symm (qe_Le_endIfDone krA a0 a1 h)))
  refine zseg_e e (zcal_e _ _ ?_) (zorc_e _ _ ?_) hk (fun _ _ => rfl) 400 _ _ _ _
  · exact trivial
  · exact ⟨rfl, rfl, rfl, zap3_e (fun x0 x1 x2 h => n_Le_endIfDone_4 e hk x0 x1 x2 h), trivial⟩
set_option maxRecDepth 100000 in
theorem n_Un_cutTo_2b {ρ : Type} (e : zRes → Option ρ) {krA : Int → zH → Option ρ} {krZ : Int → zH → Option zRes} (hk : ∀ v h, (krZ v h).bind e = krA v h) {r2A : Int → Int → Int → zH → Option ρ} {r2Z : Int → Int → Int → zH → Option zRes} (h2 : ∀ (x0 x1 x2 : Int) (h : zH), (r2Z x0 x1 x2 h).bind e = r2A x0 x1 x2 h) (a0 a1 a2 : Int) (h : zH) : (Un_cutTo_2b krZ r2Z a0 a1 a2 h).bind e = Un_cutTo_2b krA r2A a0 a1 a2 h := by
  refine Eq.trans (congrArg (fun z => Option.bind z e) (qe_Un_cutTo_2b krZ r2Z a0 a1 a2 h)) (Eq.trans ?_ (Eq.symm (qe_Un_cutTo_2b krA r2A a0 a1 a2 h)))
  refine zseg_e e (zcal_e _ _ ?_) (zorc_e _ _ ?_) hk (fun _ _ => rfl) 400 _ _ _ _
  · exact trivial
  · exact ⟨rfl, rfl, rfl, zap3_e h2, trivial⟩
theorem n_Un_cutTo_2 {ρ : Type} (e : zRes → Option ρ) {krA : Int → zH → Option ρ} {krZ : Int → zH → Option zRes} (hk : ∀ v h, (krZ v h).bind e = krA v h) (a0 a1 a2 : Int) (h : zH) : (Un_cutTo_2 krZ a0 a1 a2 h).bind e = Un_cutTo_2 krA a0 a1 a2 h := zit3_e (fun rA rZ hh a0 a1 a2 h => n_Un_cutTo_2b e hk hh a0 a1 a2 h) zN a0 a1 a2 h
set_option maxRecDepth 100000 in
theorem n_Un_cutTo {ρ : Type} (e : zRes → Option ρ) {krA : Int → zH → Option ρ} {krZ : Int → zH → Option zRes} (hk : ∀ v h, (krZ v h).bind e = krA v h) (a0 a1 : Int) (h : zH) : (Un_cutTo a0 a1 h krZ).bind e = Un_cutTo a0 a1 h krA := by
  refine Eq.trans (congrArg (fun z => Option.bind z e) (qe_Un_cutTo krZ a0 a1 h)) (Eq.trans ?_ (Eq.symm (qe_Un_cutTo krA a0 a1 h)))
  refine zseg_e e (zcal_e _ _ ?_) (zorc_e _ _ ?_) hk (fun _ _ => rfl) 400 _ _ _ _
  · exact trivial
  · exact ⟨rfl, rfl, rfl, zap3_e (fun x0 x1 x2 h => n_Un_cutTo_2 e hk x0 x1 x2 h), trivial⟩
set_option maxRecDepth 100000 in
theorem n_Un_dropBlock_40 {ρ : Type} (e : zRes → Option ρ) {krA : Int → zH → Option ρ} {krZ : Int → zH → Option zRes} (hk : ∀ v h, (krZ v h).bind e = krA v h) {r4A : Int → Int → Int → Int → zH → Option ρ} {r4Z : Int → Int → Int → Int → zH → Option zRes} (h4 : ∀ (x0 x1 x2 x3 : Int) (h : zH), (r4Z x0 x1 x2 x3 h).bind e = r4A x0 x1 x2 x3 h) (a0 a1 a2 a3 : Int) (h : zH) : (Un_dropBlock_40 krZ r4Z a0 a1 a2 a3 h).bind e = Un_dropBlock_40 krA r4A a0 a1 a2 a3 h := by
  refine Eq.trans (congrArg (fun z => Option.bind z e) (qe_Un_dropBlock_40 krZ r4Z a0 a1 a2 a3 h)) (Eq.trans ?_ (Eq.symm (qe_Un_dropBlock_40 krA r4A a0 a1 a2 a3 h)))
  refine zseg_e e (zcal_e _ _ ?_) (zorc_e _ _ ?_) hk (fun _ _ => rfl) 400 _ _ _ _
  · exact trivial
  · exact ⟨rfl, rfl, rfl, zap4_e h4, trivial⟩
set_option maxRecDepth 100000 in
theorem n_Un_dropBlock_4b {ρ : Type} (e : zRes → Option ρ) {krA : Int → zH → Option ρ} {krZ : Int → zH → Option zRes} (hk : ∀ v h, (krZ v h).bind e = krA v h) {r4A : Int → Int → Int → Int → zH → Option ρ} {r4Z : Int → Int → Int → Int → zH → Option zRes} (h4 : ∀ (x0 x1 x2 x3 : Int) (h : zH), (r4Z x0 x1 x2 x3 h).bind e = r4A x0 x1 x2 x3 h) (a0 a1 a2 a3 : Int) (h : zH) : (Un_dropBlock_4b krZ r4Z a0 a1 a2 a3 h).bind e = Un_dropBlock_4b krA r4A a0 a1 a2 a3 h := by
  refine Eq.trans (congrArg (fun z => Option.bind z e) (qe_Un_dropBlock_4b krZ r4Z a0 a1 a2 a3 h)) (Eq.trans ?_ (Eq.symm (qe_Un_dropBlock_4b krA r4A a0 a1 a2 a3 h)))
  refine zseg_e e (zcal_e _ _ ?_) (zorc_e _ _ ?_) hk (fun _ _ => rfl) 400 _ _ _ _
  · exact ⟨rfl, rfl, zca2_e (fun x0 x1 h k t => n_Un_cutTo e (fun _ _ => rfl) x0 x1 h), trivial⟩
  · exact ⟨rfl, rfl, rfl, zap4_e (fun x0 x1 x2 x3 h => n_Un_dropBlock_40 e hk h4 x0 x1 x2 x3 h), trivial⟩
theorem n_Un_dropBlock_4 {ρ : Type} (e : zRes → Option ρ) {krA : Int → zH → Option ρ} {krZ : Int → zH → Option zRes} (hk : ∀ v h, (krZ v h).bind e = krA v h) (a0 a1 a2 a3 : Int) (h : zH) : (Un_dropBlock_4 krZ a0 a1 a2 a3 h).bind e = Un_dropBlock_4 krA a0 a1 a2 a3 h := zit4_e (fun rA rZ hh a0 a1 a2 a3 h => n_Un_dropBlock_4b e hk hh a0 a1 a2 a3 h) zN a0 a1 a2 a3 h
set_option maxRecDepth 100000 in
theorem n_Un_dropBlock {ρ : Type} (e : zRes → Option ρ) {krA : Int → zH → Option ρ} {krZ : Int → zH → Option zRes} (hk : ∀ v h, (krZ v h).bind e = krA v h) (a0 a1 : Int) (h : zH) : (Un_dropBlock a0 a1 h krZ).bind e = Un_dropBlock a0 a1 h krA := by
  refine Eq.trans (congrArg (fun z => Option.bind z e) (qe_Un_dropBlock krZ a0 a1 h)) (Eq.trans ?_ (Eq.symm (qe_Un_dropBlock krA a0 a1 h)))
  refine zseg_e e (zcal_e _ _ ?_) (zorc_e _ _ ?_) hk (fun _ _ => rfl) 400 _ _ _ _
  · exact trivial
  · exact ⟨rfl, rfl, rfl, zap4_e (fun x0 x1 x2 x3 h => n_Un_dropBlock_4 e hk x0 x1 x2 x3 h), trivial⟩
set_option maxRecDepth 100000 in
theorem n_Co_endIfEnded_10b {ρ : Type} (e : zRes → Option ρ) {krA : Int → zH → Option ρ} {krZ : Int → zH → Option zRes} (hk : ∀ v h, (krZ v h).bind e = krA v h) {r10A : Int → Int → Int → zH → Option ρ} {r10Z : Int → Int → Int → zH → Option zRes} (h10 : ∀ (x0 x1 x2 : Int) (h : zH), (r10Z x0 x1 x2 h).bind e = r10A x0 x1 x2 h) (a0 a1 a2 : Int) (h : zH) : (Co_endIfEnded_10b krZ r10Z a0 a1 a2 h).bind e = Co_endIfEnded_10b krA r10A a0 a1 a2 h := by
  refine Eq.trans (congrArg (fun z => Option.bind z e) (qe_Co_endIfEnded_10b krZ r10Z a0 a1 a2 h)) (Eq.trans ?_ (Eq.symm (qe_Co_endIfEnded_10b krA r10A a0 a1 a2 h)))
  refine zseg_e e (zcal_e _ _ ?_) (zorc_e _ _ ?_) hk (fun _ _ => rfl) 400 _ _ _ _
  · exact ⟨rfl, rfl, zca2_e (fun x0 x1 h k t => n_Le_endIfDone e (fun _ _ => rfl) x0 x1 h), ⟨rfl, rfl, zca2_e (fun x0 x1 h k t => n_Un_dropBlock e (fun _ _ => rfl) x0 x1 h), trivial⟩⟩
  · exact ⟨rfl, rfl, rfl, zap3_e h10, trivial⟩
theorem n_Co_endIfEnded_10 {ρ : Type} (e : zRes → Option ρ) {krA : Int → zH → Option ρ} {krZ : Int → zH → Option zRes} (hk : ∀ v h, (krZ v h).bind e = krA v h) (a0 a1 a2 : Int) (h : zH) : (Co_endIfEnded_10 krZ a0 a1 a2 h).bind e = Co_endIfEnded_10 krA a0 a1 a2 h := zit3_e (fun rA rZ hh a0 a1 a2 h => n_Co_endIfEnded_10b e hk hh a0 a1 a2 h) zN a0 a1 a2 h
set_option maxRecDepth 100000 in
theorem n_Co_endIfEnded {ρ : Type} (e : zRes → Option ρ) {krA : Int → zH → Option ρ} {krZ : Int → zH → Option zRes} (hk : ∀ v h, (krZ v h).bind e = krA v h) (a0 a1 : Int) (h : zH) : (Co_endIfEnded a0 a1 h krZ).bind e = Co_endIfEnded a0 a1 h krA := by
  refine Eq.trans (congrArg (fun z => Option.bind z e) (qe_Co_endIfEnded krZ a0 a1 h)) (Eq.trans ?_ (Eq.symm (qe_Co_endIfEnded krA a0 a1 h)))
  refine zseg_e e (zcal_e _ _ ?_) (zorc_e _ _ ?_) hk (fun _ _ => rfl) 400 _ _ _ _
  · exact ⟨rfl, rfl, zca1_e (fun x0 h k t => n_Bl_isAllEnded e (fun _ _ => rfl) x0 h), trivial⟩
  · exact ⟨rfl, rfl, rfl, zap3_e (fun x0 x1 x2 h => n_Co_endIfEnded_10 e hk x0 x1 x2 h), trivial⟩
set_option maxRecDepth 100000 in
theorem n_Un_take_54 {ρ : Type} (e : zRes → Option ρ) {krA : Int → zH → Option ρ} {krZ : Int → zH → Option zRes} (hk : ∀ v h, (krZ v h).bind e = krA v h) (h : zH) : (Un_take_54 krZ h).bind e = Un_take_54 krA h := by
  refine Eq.trans (congrArg (fun z => Option.bind z e) (qe_Un_take_54 krZ h)) (Eq.trans ?_ (Eq.symm (qe_Un_take_54 krA h)))
  refine zseg_e e (zcal_e _ _ ?_) (zorc_e _ _ ?_) hk (fun _ _ => rfl) 400 _ _ _ _
  · exact trivial
  · exact trivial
set_option maxRecDepth 100000 in
theorem n_Un_take_2b {ρ : Type} (e : zRes → Option ρ) {krA : Int → zH → Option ρ} {krZ : Int → zH → Option zRes} (hk : ∀ v h, (krZ v h).bind e = krA v h) {r2A : Int → Int → Int → zH → Option ρ} {r2Z : Int → Int → Int → zH → Option zRes} (h2 : ∀ (x0 x1 x2 : Int) (h : zH), (r2Z x0 x1 x2 h).bind e = r2A x0 x1 x2 h) (a0 a1 a2 : Int) (h : zH) : (Un_take_2b krZ r2Z a0 a1 a2 h).bind e = Un_take_2b krA r2A a0 a1 a2 h := by
  refine Eq.trans (congrArg (fun z => Option.bind z e) (qe_Un_take_2b krZ r2Z a0 a1 a2 h)) (Eq.trans ?_ (Eq.symm (qe_Un_take_2b krA r2A a0 a1 a2 h)))
  refine zseg_e e (zcal_e _ _ ?_) (zorc_e _ _ ?_) hk (fun _ _ => rfl) 400 _ _ _ _
  · exact trivial
  · exact ⟨rfl, rfl, rfl, zap3_e h2, ⟨rfl, rfl, rfl, zap0_e (fun  h => n_Un_take_54 e hk  h), trivial⟩⟩
theorem n_Un_take_2 {ρ : Type} (e : zRes → Option ρ) {krA : Int → zH → Option ρ} {krZ : Int → zH → Option zRes} (hk : ∀ v h, (krZ v h).bind e = krA v h) (a0 a1 a2 : Int) (h : zH) : (Un_take_2 krZ a0 a1 a2 h).bind e = Un_take_2 krA a0 a1 a2 h := zit3_e (fun rA rZ hh a0 a1 a2 h => n_Un_take_2b e hk hh a0 a1 a2 h) zN a0 a1 a2 h
set_option maxRecDepth 100000 in
theorem n_Un_take {ρ : Type} (e : zRes → Option ρ) {krA : Int → zH → Option ρ} {krZ : Int → zH → Option zRes} (hk : ∀ v h, (krZ v h).bind e = krA v h) (a0 a1 : Int) (h : zH) : (Un_take a0 a1 h krZ).bind e = Un_take a0 a1 h krA := by
  refine Eq.trans (congrArg (fun z => Option.bind z e) (qe_Un_take krZ a0 a1 h)) (Eq.trans ?_ (Eq.symm (qe_Un_take krA a0 a1 h)))
  refine zseg_e e (zcal_e _ _ ?_) (zorc_e _ _ ?_) hk (fun _ _ => rfl) 400 _ _ _ _
  · exact trivial
  · exact ⟨rfl, rfl, rfl, zap3_e (fun x0 x1 x2 h => n_Un_take_2 e hk x0 x1 x2 h), trivial⟩
set_option maxRecDepth 100000 in
theorem n_Co_give {ρ : Type} (e : zRes → Option ρ) {krA : Int → zH → Option ρ} {krZ : Int → zH → Option zRes} (hk : ∀ v h, (krZ v h).bind e = krA v h) (a0 a1 a2 : Int) (h : zH) : (Co_give a0 a1 a2 h krZ).bind e = Co_give a0 a1 a2 h krA := by
  refine Eq.trans (congrArg (fun z => Option.bind z e) (qe_Co_give krZ a0 a1 a2 h)) (Eq.trans ?_ (Eq.symm (qe_Co_give krA a0 a1 a2 h)))
  refine zseg_e e (zcal_e _ _ ?_) (zorc_e _ _ ?_) hk (fun _ _ => rfl) 400 _ _ _ _
  · exact ⟨rfl, rfl, zca1_e (fun x0 h k t => n_Bl_nextOf e (fun _ _ => rfl) x0 h), ⟨rfl, rfl, zca2_e (fun x0 x1 h k t => n_Co_endIfEnded e (fun _ _ => rfl) x0 x1 h), ⟨rfl, rfl, zca2_e (fun x0 x1 h k t => n_Un_take e (fun _ _ => rfl) x0 x1 h), trivial⟩⟩⟩
  · exact trivial
set_option maxRecDepth 100000 in
theorem n_La_hasBlockToGive_32 {ρ : Type} (e : zRes → Option ρ) {krA : Int → zH → Option ρ} {krZ : Int → zH → Option zRes} (hk : ∀ v h, (krZ v h).bind e = krA v h) (t0 : Int) (h : zH) : (La_hasBlockToGive_32 krZ t0 h).bind e = La_hasBlockToGive_32 krA t0 h := by
  refine Eq.trans (congrArg (fun z => Option.bind z e) (qe_La_hasBlockToGive_32 krZ t0 h)) (Eq.trans ?_ (Eq.symm (qe_La_hasBlockToGive_32 krA t0 h)))
  refine zseg_e e (zcal_e _ _ ?_) (zorc_e _ _ ?_) hk (fun _ _ => rfl) 400 _ _ _ _
  · exact trivial
  · exact trivial
set_option maxRecDepth 100000 in
theorem n_La_hasBlockToGive_31 {ρ : Type} (e : zRes → Option ρ) {krA : Int → zH → Option ρ} {krZ : Int → zH → Option zRes} (hk : ∀ v h, (krZ v h).bind e = krA v h) (h : zH) : (La_hasBlockToGive_31 krZ h).bind e = La_hasBlockToGive_31 krA h := by
  refine Eq.trans (congrArg (fun z => Option.bind z e) (qe_La_hasBlockToGive_31 krZ h)) (Eq.trans ?_ (Eq.symm (qe_La_hasBlockToGive_31 krA h)))
  refine zseg_e e (zcal_e _ _ ?_) (zorc_e _ _ ?_) hk (fun _ _ => rfl) 400 _ _ _ _
  · exact trivial
  · exact ⟨rfl, rfl, rfl, zap1_e (fun x0 h => n_La_hasBlockToGive_32 e hk x0 h), trivial⟩
set_option maxRecDepth 100000 in
theorem n_La_hasBlockToGive {ρ : Type} (e : zRes → Option ρ) {krA : Int → zH → Option ρ} {krZ : Int → zH → Option zRes} (hk : ∀ v h, (krZ v h).bind e = krA v h) (a0 : Int) (h : zH) : (La_hasBlockToGive a0 h krZ).bind e = La_hasBlockToGive a0 h krA := by
  refine Eq.trans (congrArg (fun z => Option.bind z e) (qe_La_hasBlockToGive krZ a0 h)) (Eq.trans ?_ (Eq.symm (qe_La_hasBlockToGive krA a0 h)))
  refine zseg_e e (zcal_e _ _ ?_) (zorc_e _ _ ?_) hk (fun _ _ => rfl) 400 _ _ _ _
  · exact trivial
  · exact ⟨rfl, rfl, rfl, zap0_e (fun  h => n_La_hasBlockToGive_31 e hk  h), ⟨rfl, rfl, rfl, zap1_e (fun x0 h => n_La_hasBlockToGive_32 e hk x0 h), trivial⟩⟩
set_option maxRecDepth 100000 in
theorem n_Co_giveBlocks_69 {ρ : Type} (e : zRes → Option ρ) {krA : Int → zH → Option ρ} {krZ : Int → zH → Option zRes} (hk : ∀ v h, (krZ v h).bind e = krA v h) {r2A : Int → Int → zH → Option ρ} {r2Z : Int → Int → zH → Option zRes} (h2 : ∀ (x0 x1 : Int) (h : zH), (r2Z x0 x1 h).bind e = r2A x0 x1 h) (a0 a1 : Int) (h : zH) : (Co_giveBlocks_69 krZ r2Z a0 a1 h).bind e = Co_giveBlocks_69 krA r2A a0 a1 h := by
  refine Eq.trans (congrArg (fun z => Option.bind z e) (qe_Co_giveBlocks_69 krZ r2Z a0 a1 h)) (Eq.trans ?_ (Eq.symm (qe_Co_giveBlocks_69 krA r2A a0 a1 h)))
  refine zseg_e e (zcal_e _ _ ?_) (zorc_e _ _ ?_) hk (fun _ _ => rfl) 400 _ _ _ _
  · exact trivial
  · exact ⟨rfl, rfl, rfl, zap2_e h2, trivial⟩
set_option maxRecDepth 100000 in
theorem n_Co_giveBlocks_24b {ρ : Type} (e : zRes → Option ρ) {krA : Int → zH → Option ρ} {krZ : Int → zH → Option zRes} (hk : ∀ v h, (krZ v h).bind e = krA v h) {r2A : Int → Int → zH → Option ρ} {r2Z : Int → Int → zH → Option zRes} (h2 : ∀ (x0 x1 : Int) (h : zH), (r2Z x0 x1 h).bind e = r2A x0 x1 h) {r24A : Int → Int → Int → Int → zH → Option ρ} {r24Z : Int → Int → Int → Int → zH → Option zRes} (h24 : ∀ (x0 x1 x2 x3 : Int) (h : zH), (r24Z x0 x1 x2 x3 h).bind e = r24A x0 x1 x2 x3 h) (a0 a1 a2 a3 : Int) (h : zH) : (Co_giveBlocks_24b krZ r2Z r24Z a0 a1 a2 a3 h).bind e = Co_giveBlocks_24b krA r2A r24A a0 a1 a2 a3 h := by
  refine Eq.trans (congrArg (fun z => Option.bind z e) (qe_Co_giveBlocks_24b krZ r2Z r24Z a0 a1 a2 a3 h)) (Eq.trans ?_ (Eq.symm (qe_Co_giveBlocks_24b krA r2A r24A a0 a1 a2 a3 h)))
  refine zseg_e e (zcal_e _ _ ?_) (zorc_e _ _ ?_) hk (fun _ _ => rfl) 400 _ _ _ _
  · exact ⟨rfl, rfl, zca2_e (fun x0 x1 h k t => n_Co_unitFor e (fun _ _ => rfl) x0 x1 h), ⟨rfl, rfl, zca3_e (fun x0 x1 x2 h k t => n_Co_give e (fun _ _ => rfl) x0 x1 x2 h), ⟨rfl, rfl, zca1_e (fun x0 h k t => n_La_hasBlockToGive e (fun _ _ => rfl) x0 h), trivial⟩⟩⟩
  · exact ⟨rfl, rfl, rfl, zap4_e h24, ⟨rfl, rfl, rfl, zap2_e (fun x0 x1 h => n_Co_giveBlocks_69 e hk h2 x0 x1 h), trivial⟩⟩
theorem n_Co_giveBlocks_24 {ρ : Type} (e : zRes → Option ρ) {krA : Int → zH → Option ρ} {krZ : Int → zH → Option zRes} (hk : ∀ v h, (krZ v h).bind e = krA v h) {r2A : Int → Int → zH → Option ρ} {r2Z : Int → Int → zH → Option zRes} (h2 : ∀ (x0 x1 : Int) (h : zH), (r2Z x0 x1 h).bind e = r2A x0 x1 h) (a0 a1 a2 a3 : Int) (h : zH) : (Co_giveBlocks_24 krZ r2Z a0 a1 a2 a3 h).bind e = Co_giveBlocks_24 krA r2A a0 a1 a2 a3 h := zit4_e (fun rA rZ hh a0 a1 a2 a3 h => n_Co_giveBlocks_24b e hk h2 hh a0 a1 a2 a3 h) zN a0 a1 a2 a3 h
set_option maxRecDepth 100000 in
theorem n_Co_giveBlocks_2b {ρ : Type} (e : zRes → Option ρ) {krA : Int → zH → Option ρ} {krZ : Int → zH → Option zRes} (hk : ∀ v h, (krZ v h).bind e = krA v h) {r2A : Int → Int → zH → Option ρ} {r2Z : Int → Int → zH → Option zRes} (h2 : ∀ (x0 x1 : Int) (h : zH), (r2Z x0 x1 h).bind e = r2A x0 x1 h) (a0 a1 : Int) (h : zH) : (Co_giveBlocks_2b krZ r2Z a0 a1 h).bind e = Co_giveBlocks_2b krA r2A a0 a1 h := by
  refine Eq.trans (congrArg (fun z => Option.bind z e) (qe_Co_giveBlocks_2b krZ r2Z a0 a1 h)) (Eq.trans ?_ (Eq.symm (qe_Co_giveBlocks_2b krA r2A a0 a1 h)))
  refine zseg_e e (zcal_e _ _ ?_) (zorc_e _ _ ?_) hk (fun _ _ => rfl) 400 _ _ _ _
  · exact ⟨rfl, rfl, zca2_e (fun x0 x1 h k t => n_Le_launchOf e (fun _ _ => rfl) x0 x1 h), trivial⟩
  · exact ⟨rfl, rfl, rfl, zap4_e (fun x0 x1 x2 x3 h => n_Co_giveBlocks_24 e hk h2 x0 x1 x2 x3 h), trivial⟩
theorem n_Co_giveBlocks_2 {ρ : Type} (e : zRes → Option ρ) {krA : Int → zH → Option ρ} {krZ : Int → zH → Option zRes} (hk : ∀ v h, (krZ v h).bind e = krA v h) (a0 a1 : Int) (h : zH) : (Co_giveBlocks_2 krZ a0 a1 h).bind e = Co_giveBlocks_2 krA a0 a1 h := zit2_e (fun rA rZ hh a0 a1 h => n_Co_giveBlocks_2b e hk hh a0 a1 h) zN a0 a1 h
set_option maxRecDepth 100000 in
theorem n_Co_giveBlocks {ρ : Type} (e : zRes → Option ρ) {krA : Int → zH → Option ρ} {krZ : Int → zH → Option zRes} (hk : ∀ v h, (krZ v h).bind e = krA v h) (a0 : Int) (h : zH) : (Co_giveBlocks a0 h krZ).bind e = Co_giveBlocks a0 h krA := by
  refine Eq.trans (congrArg (fun z => Option.bind z e) (qe_Co_giveBlocks krZ a0 h)) (Eq.trans ?_ (Eq.symm (qe_Co_giveBlocks krA a0 h)))
  refine zseg_e e (zcal_e _ _ ?_) (zorc_e _ _ ?_) hk (fun _ _ => rfl) 400 _ _ _ _
  · exact trivial
  · exact ⟨rfl, rfl, rfl, zap2_e (fun x0 x1 h => n_Co_giveBlocks_2 e hk x0 x1 h), trivial⟩
set_option maxRecDepth 100000 in
theorem n_Gr_writeFirst {ρ : Type} (e : zRes → Option ρ) {krA : Int → zH → Option ρ} {krZ : Int → zH → Option zRes} (hk : ∀ v h, (krZ v h).bind e = krA v h) (a0 a1 : Int) (h : zH) : (Gr_writeFirst a0 a1 h krZ).bind e = Gr_writeFirst a0 a1 h krA := by
  refine Eq.trans (congrArg (fun z => Option.bind z e) (qe_Gr_writeFirst krZ a0 a1 h)) (Eq.trans ?_ (Eq.symm (qe_Gr_writeFirst krA a0 a1 h)))
  refine zseg_e e (zcal_e _ _ ?_) (zorc_e _ _ ?_) hk (fun _ _ => rfl) 400 _ _ _ _
  · exact trivial
  · exact trivial
set_option maxRecDepth 100000 in
theorem n_Co_writeFirstOfBuffers_9b {ρ : Type} (e : zRes → Option ρ) {krA : Int → zH → Option ρ} {krZ : Int → zH → Option zRes} (hk : ∀ v h, (krZ v h).bind e = krA v h) {r2A : Int → Int → zH → Option ρ} {r2Z : Int → Int → zH → Option zRes} (h2 : ∀ (x0 x1 : Int) (h : zH), (r2Z x0 x1 h).bind e = r2A x0 x1 h) {r9A : Int → Int → Int → zH → Option ρ} {r9Z : Int → Int → Int → zH → Option zRes} (h9 : ∀ (x0 x1 x2 : Int) (h : zH), (r9Z x0 x1 x2 h).bind e = r9A x0 x1 x2 h) (a0 a1 a2 : Int) (h : zH) : (Co_writeFirstOfBuffers_9b krZ r2Z r9Z a0 a1 a2 h).bind e = Co_writeFirstOfBuffers_9b krA r2A r9A a0 a1 a2 h := by
  refine Eq.trans (congrArg (fun z => Option.bind z e) (qe_Co_writeFirstOfBuffers_9b krZ r2Z r9Z a0 a1 a2 h)) (Eq.trans ?_ (Eq.symm (qe_Co_writeFirstOfBuffers_9b krA r2A r9A a0 a1 a2 h)))
  refine zseg_e e (zcal_e _ _ ?_) (zorc_e _ _ ?_) hk (fun _ _ => rfl) 400 _ _ _ _
  · exact ⟨rfl, rfl, zca2_e (fun x0 x1 h k t => n_Gr_writeFirst e (fun _ _ => rfl) x0 x1 h), trivial⟩
  · exact ⟨rfl, rfl, rfl, zap2_e h2, ⟨rfl, rfl, rfl, zap3_e h9, trivial⟩⟩
theorem n_Co_writeFirstOfBuffers_9 {ρ : Type} (e : zRes → Option ρ) {krA : Int → zH → Option ρ} {krZ : Int → zH → Option zRes} (hk : ∀ v h, (krZ v h).bind e = krA v h) {r2A : Int → Int → zH → Option ρ} {r2Z : Int → Int → zH → Option zRes} (h2 : ∀ (x0 x1 : Int) (h : zH), (r2Z x0 x1 h).bind e = r2A x0 x1 h) (a0 a1 a2 : Int) (h : zH) : (Co_writeFirstOfBuffers_9 krZ r2Z a0 a1 a2 h).bind e = Co_writeFirstOfBuffers_9 krA r2A a0 a1 a2 h := zit3_e (fun rA rZ hh a0 a1 a2 h => n_Co_writeFirstOfBuffers_9b e hk h2 hh a0 a1 a2 h) zN a0 a1 a2 h
set_option maxRecDepth 100000 in
theorem n_Co_writeFirstOfBuffers_2b {ρ : Type} (e : zRes → Option ρ) {krA : Int → zH → Option ρ} {krZ : Int → zH → Option zRes} (hk : ∀ v h, (krZ v h).bind e = krA v h) {r2A : Int → Int → zH → Option ρ} {r2Z : Int → Int → zH → Option zRes} (h2 : ∀ (x0 x1 : Int) (h : zH), (r2Z x0 x1 h).bind e = r2A x0 x1 h) (a0 a1 : Int) (h : zH) : (Co_writeFirstOfBuffers_2b krZ r2Z a0 a1 h).bind e = Co_writeFirstOfBuffers_2b krA r2A a0 a1 h := by
  refine Eq.trans (congrArg (fun z => Option.bind z e) (qe_Co_writeFirstOfBuffers_2b krZ r2Z a0 a1 h)) (Eq.trans ?_ (Eq.symm (qe_Co_writeFirstOfBuffers_2b krA r2A a0 a1 h)))
  refine zseg_e e (zcal_e _ _ ?_) (zorc_e _ _ ?_) hk (fun _ _ => rfl) 400 _ _ _ _
  · exact trivial
  · exact ⟨rfl, rfl, rfl, zap3_e (fun x0 x1 x2 h => n_Co_writeFirstOfBuffers_9 e hk h2 x0 x1 x2 h), trivial⟩
theorem n_Co_writeFirstOfBuffers_2 {ρ : Type} (e : zRes → Option ρ) {krA : Int → zH → Option ρ} {krZ : Int → zH → Option zRes} (hk : ∀ v h, (krZ v h).bind e = krA v h) (a0 a1 : Int) (h : zH) : (Co_writeFirstOfBuffers_2 krZ a0 a1 h).bind e = Co_writeFirstOfBuffers_2 krA a0 a1 h := zit2_e (fun rA rZ hh a0 a1 h => n_Co_writeFirstOfBuffers_2b e hk hh a0 a1 h) zN a0 a1 h
set_option maxRecDepth 100000 in
theorem n_Co_writeFirstOfBuffers {ρ : Type} (e : zRes → Option ρ) {krA : Int → zH → Option ρ} {krZ : Int → zH → Option zRes} (hk : ∀ v h, (krZ v h).bind e = krA v h) (a0 : Int) (h : zH) : (Co_writeFirstOfBuffers a0 h krZ).bind e = Co_writeFirstOfBuffers a0 h krA := by
  refine Eq.trans (congrArg (fun z => Option.bind z e) (qe_Co_writeFirstOfBuffers krZ a0 h)) (Eq.trans ?_ (Eq.symm (qe_Co_writeFirstOfBuffers krA a0 h)))
  refine zseg_e e (zcal_e _ _ ?_) (zorc_e _ _ ?_) hk (fun _ _ => rfl) 400 _ _ _ _
  · exact trivial
  · exact ⟨rfl, rfl, rfl, zap2_e (fun x0 x1 h => n_Co_writeFirstOfBuffers_2 e hk x0 x1 h), trivial⟩
set_option maxRecDepth 100000 in
theorem n_X_isIn_13 {ρ : Type} (e : zRes → Option ρ) {krA : Int → zH → Option ρ} {krZ : Int → zH → Option zRes} (hk : ∀ v h, (krZ v h).bind e = krA v h) (t0 : Int) (h : zH) : (X_isIn_13 krZ t0 h).bind e = X_isIn_13 krA t0 h := by
  refine Eq.trans (congrArg (fun z => Option.bind z e) (qe_X_isIn_13 krZ t0 h)) (Eq.trans ?_ (Eq.symm (qe_X_isIn_13 krA t0 h)))
  refine zseg_e e (zcal_e _ _ ?_) (zorc_e _ _ ?_) hk (fun _ _ => rfl) 400 _ _ _ _
  · exact trivial
  · exact trivial
set_option maxRecDepth 100000 in
theorem n_X_isIn {ρ : Type} (e : zRes → Option ρ) {krA : Int → zH → Option ρ} {krZ : Int → zH → Option zRes} (hk : ∀ v h, (krZ v h).bind e = krA v h) (a0 a1 : Int) (h : zH) : (X_isIn a0 a1 h krZ).bind e = X_isIn a0 a1 h krA := by
  refine Eq.trans (congrArg (fun z => Option.bind z e) (qe_X_isIn krZ a0 a1 h)) (Eq.trans ?_ (Eq.symm (qe_X_isIn krA a0 a1 h)))
  refine zseg_e e (zcal_e _ _ ?_) (zorc_e _ _ ?_) hk (fun _ _ => rfl) 400 _ _ _ _
  · exact trivial
  · exact ⟨rfl, rfl, rfl, zap1_e (fun x0 h => n_X_isIn_13 e hk x0 h), trivial⟩
set_option maxRecDepth 100000 in
theorem n_Gr_threadIn_19 {ρ : Type} (e : zRes → Option ρ) {krA : Int → zH → Option ρ} {krZ : Int → zH → Option zRes} (hk : ∀ v h, (krZ v h).bind e = krA v h) (t0 : Int) (h : zH) : (Gr_threadIn_19 krZ t0 h).bind e = Gr_threadIn_19 krA t0 h := by
  refine Eq.trans (congrArg (fun z => Option.bind z e) (qe_Gr_threadIn_19 krZ t0 h)) (Eq.trans ?_ (Eq.symm (qe_Gr_threadIn_19 krA t0 h)))
  refine zseg_e e (zcal_e _ _ ?_) (zorc_e _ _ ?_) hk (fun _ _ => rfl) 400 _ _ _ _
  · exact trivial
  · exact trivial
set_option maxRecDepth 100000 in
theorem n_Gr_threadIn_18 {ρ : Type} (e : zRes → Option ρ) {krA : Int → zH → Option ρ} {krZ : Int → zH → Option zRes} (hk : ∀ v h, (krZ v h).bind e = krA v h) (h : zH) : (Gr_threadIn_18 krZ h).bind e = Gr_threadIn_18 krA h := by
  refine Eq.trans (congrArg (fun z => Option.bind z e) (qe_Gr_threadIn_18 krZ h)) (Eq.trans ?_ (Eq.symm (qe_Gr_threadIn_18 krA h)))
  refine zseg_e e (zcal_e _ _ ?_) (zorc_e _ _ ?_) hk (fun _ _ => rfl) 400 _ _ _ _
  · exact trivial
  · exact ⟨rfl, rfl, rfl, zap1_e (fun x0 h => n_Gr_threadIn_19 e hk x0 h), trivial⟩
set_option maxRecDepth 100000 in
theorem n_Gr_threadIn {ρ : Type} (e : zRes → Option ρ) {krA : Int → zH → Option ρ} {krZ : Int → zH → Option zRes} (hk : ∀ v h, (krZ v h).bind e = krA v h) (a0 a1 : Int) (h : zH) : (Gr_threadIn a0 a1 h krZ).bind e = Gr_threadIn a0 a1 h krA := by
  refine Eq.trans (congrArg (fun z => Option.bind z e) (qe_Gr_threadIn krZ a0 a1 h)) (Eq.trans ?_ (Eq.symm (qe_Gr_threadIn krA a0 a1 h)))
  refine zseg_e e (zcal_e _ _ ?_) (zorc_e _ _ ?_) hk (fun _ _ => rfl) 400 _ _ _ _
  · exact trivial
  · exact ⟨rfl, rfl, rfl, zap0_e (fun  h => n_Gr_threadIn_18 e hk  h), ⟨rfl, rfl, rfl, zap1_e (fun x0 h => n_Gr_threadIn_19 e hk x0 h), trivial⟩⟩
set_option maxRecDepth 100000 in
theorem n_Gr_writeAll_7b {ρ : Type} (e : zRes → Option ρ) {krA : Int → zH → Option ρ} {krZ : Int → zH → Option zRes} (hk : ∀ v h, (krZ v h).bind e = krA v h) {r7A : Int → Int → Int → Int → zH → Option ρ} {r7Z : Int → Int → Int → Int → zH → Option zRes} (h7 : ∀ (x0 x1 x2 x3 : Int) (h : zH), (r7Z x0 x1 x2 x3 h).bind e = r7A x0 x1 x2 x3 h) (a0 a1 a2 a3 : Int) (h : zH) : (Gr_writeAll_7b krZ r7Z a0 a1 a2 a3 h).bind e = Gr_writeAll_7b krA r7A a0 a1 a2 a3 h := by
  refine Eq.trans (congrArg (fun z => Option.bind z e) (qe_Gr_writeAll_7b krZ r7Z a0 a1 a2 a3 h)) (Eq.trans ?_ (Eq.symm (qe_Gr_writeAll_7b krA r7A a0 a1 a2 a3 h)))
  refine zseg_e e (zcal_e _ _ ?_) (zorc_e _ _ ?_) hk (fun _ _ => rfl) 400 _ _ _ _
  · exact trivial
  · exact ⟨rfl, rfl, rfl, zap4_e h7, trivial⟩
theorem n_Gr_writeAll_7 {ρ : Type} (e : zRes → Option ρ) {krA : Int → zH → Option ρ} {krZ : Int → zH → Option zRes} (hk : ∀ v h, (krZ v h).bind e = krA v h) (a0 a1 a2 a3 : Int) (h : zH) : (Gr_writeAll_7 krZ a0 a1 a2 a3 h).bind e = Gr_writeAll_7 krA a0 a1 a2 a3 h := zit4_e (fun rA rZ hh a0 a1 a2 a3 h => n_Gr_writeAll_7b e hk hh a0 a1 a2 a3 h) zN a0 a1 a2 a3 h
set_option maxRecDepth 100000 in
theorem n_Gr_writeAll {ρ : Type} (e : zRes → Option ρ) {krA : Int → zH → Option ρ} {krZ : Int → zH → Option zRes} (hk : ∀ v h, (krZ v h).bind e = krA v h) (a0 a1 : Int) (h : zH) : (Gr_writeAll a0 a1 h krZ).bind e = Gr_writeAll a0 a1 h krA := by
  refine Eq.trans (congrArg (fun z => Option.bind z e) (qe_Gr_writeAll krZ a0 a1 h)) (Eq.trans ?_ (Eq.symm (qe_Gr_writeAll krA a0 a1 h)))
  refine zseg_e e (zcal_e _ _ ?_) (zorc_e _ _ ?_) hk (fun _ _ => rfl) 400 _ _ _ _
  · exact trivial
  · exact ⟨rfl, rfl, rfl, zap4_e (fun x0 x1 x2 x3 h => n_Gr_writeAll_7 e hk x0 x1 x2 x3 h), trivial⟩
set_option maxRecDepth 100000 in
theorem n_In_cellRegister_20 {ρ : Type} (e : zRes → Option ρ) {krA : Int → zH → Option ρ} {krZ : Int → zH → Option zRes} (hk : ∀ v h, (krZ v h).bind e = krA v h) (t0 : Int) (h : zH) : (In_cellRegister_20 krZ t0 h).bind e = In_cellRegister_20 krA t0 h := by
  refine Eq.trans (congrArg (fun z => Option.bind z e) (qe_In_cellRegister_20 krZ t0 h)) (Eq.trans ?_ (Eq.symm (qe_In_cellRegister_20 krA t0 h)))
  refine zseg_e e (zcal_e _ _ ?_) (zorc_e _ _ ?_) hk (fun _ _ => rfl) 400 _ _ _ _
  · exact trivial
  · exact trivial
set_option maxRecDepth 100000 in
theorem n_In_cellRegister {ρ : Type} (e : zRes → Option ρ) {krA : Int → zH → Option ρ} {krZ : Int → zH → Option zRes} (hk : ∀ v h, (krZ v h).bind e = krA v h) (a0 : Int) (h : zH) : (In_cellRegister a0 h krZ).bind e = In_cellRegister a0 h krA := by
  refine Eq.trans (congrArg (fun z => Option.bind z e) (qe_In_cellRegister krZ a0 h)) (Eq.trans ?_ (Eq.symm (qe_In_cellRegister krA a0 h)))
  refine zseg_e e (zcal_e _ _ ?_) (zorc_e _ _ ?_) hk (fun _ _ => rfl) 400 _ _ _ _
  · exact ⟨rfl, rfl, zca2_e (fun x0 x1 h k t => n_In_isOneOf e (fun _ _ => rfl) x0 x1 h), trivial⟩
  · exact ⟨rfl, rfl, rfl, zap1_e (fun x0 h => n_In_cellRegister_20 e hk x0 h), trivial⟩
set_option maxRecDepth 100000 in
theorem n_Th_at_23 {ρ : Type} (e : zRes → Option ρ) {krA : Int → zH → Option ρ} {krZ : Int → zH → Option zRes} (hk : ∀ v h, (krZ v h).bind e = krA v h) (t0 : Int) (h : zH) : (Th_at_23 krZ t0 h).bind e = Th_at_23 krA t0 h := by
  refine Eq.trans (congrArg (fun z => Option.bind z e) (qe_Th_at_23 krZ t0 h)) (Eq.trans ?_ (Eq.symm (qe_Th_at_23 krA t0 h)))
  refine zseg_e e (zcal_e _ _ ?_) (zorc_e _ _ ?_) hk (fun _ _ => rfl) 400 _ _ _ _
  · exact trivial
  · exact trivial
set_option maxRecDepth 100000 in
theorem n_Th_at_22 {ρ : Type} (e : zRes → Option ρ) {krA : Int → zH → Option ρ} {krZ : Int → zH → Option zRes} (hk : ∀ v h, (krZ v h).bind e = krA v h) (h : zH) : (Th_at_22 krZ h).bind e = Th_at_22 krA h := by
  refine Eq.trans (congrArg (fun z => Option.bind z e) (qe_Th_at_22 krZ h)) (Eq.trans ?_ (Eq.symm (qe_Th_at_22 krA h)))
  refine zseg_e e (zcal_e _ _ ?_) (zorc_e _ _ ?_) hk (fun _ _ => rfl) 400 _ _ _ _
  · exact trivial
  · exact ⟨rfl, rfl, rfl, zap1_e (fun x0 h => n_Th_at_23 e hk x0 h), trivial⟩
set_option maxRecDepth 100000 in
theorem n_Th_at {ρ : Type} (e : zRes → Option ρ) {krA : Int → zH → Option ρ} {krZ : Int → zH → Option zRes} (hk : ∀ v h, (krZ v h).bind e = krA v h) (a0 a1 : Int) (h : zH) : (Th_at a0 a1 h krZ).bind e = Th_at a0 a1 h krA := by
  refine Eq.trans (congrArg (fun z => Option.bind z e) (qe_Th_at krZ a0 a1 h)) (Eq.trans ?_ (Eq.symm (qe_Th_at krA a0 a1 h)))
  refine zseg_e e (zcal_e _ _ ?_) (zorc_e _ _ ?_) hk (fun _ _ => rfl) 400 _ _ _ _
  · exact trivial
  · exact ⟨rfl, rfl, rfl, zap0_e (fun  h => n_Th_at_22 e hk  h), ⟨rfl, rfl, rfl, zap1_e (fun x0 h => n_Th_at_23 e hk x0 h), trivial⟩⟩
set_option maxRecDepth 100000 in
theorem n_Co_lookAhead_99 {ρ : Type} (e : zRes → Option ρ) {krA : Int → zH → Option ρ} {krZ : Int → zH → Option zRes} (hk : ∀ v h, (krZ v h).bind e = krA v h) {r7A : Int → Int → Int → Int → zH → Option ρ} {r7Z : Int → Int → Int → Int → zH → Option zRes} (h7 : ∀ (x0 x1 x2 x3 : Int) (h : zH), (r7Z x0 x1 x2 x3 h).bind e = r7A x0 x1 x2 x3 h) (a0 a1 a2 a3 : Int) (h : zH) : (Co_lookAhead_99 krZ r7Z a0 a1 a2 a3 h).bind e = Co_lookAhead_99 krA r7A a0 a1 a2 a3 h := by
  refine Eq.trans (congrArg (fun z => Option.bind z e) (qe_Co_lookAhead_99 krZ r7Z a0 a1 a2 a3 h)) (Eq.trans ?_ (Eq.symm (qe_Co_lookAhead_99 krA r7A a0 a1 a2 a3 h)))
  refine zseg_e e (zcal_e _ _ ?_) (zorc_e _ _ ?_) hk (fun _ _ => rfl) 400 _ _ _ _
  · exact trivial
  · exact ⟨rfl, rfl, rfl, zap4_e h7, trivial⟩
set_option maxRecDepth 100000 in
theorem n_Co_lookAhead_66 {ρ : Type} (e : zRes → Option ρ) {krA : Int → zH → Option ρ} {krZ : Int → zH → Option zRes} (hk : ∀ v h, (krZ v h).bind e = krA v h) {r7A : Int → Int → Int → Int → zH → Option ρ} {r7Z : Int → Int → Int → Int → zH → Option zRes} (h7 : ∀ (x0 x1 x2 x3 : Int) (h : zH), (r7Z x0 x1 x2 x3 h).bind e = r7A x0 x1 x2 x3 h) (a0 a1 a2 a3 t0 t1 t2 : Int) (h : zH) : (Co_lookAhead_66 krZ r7Z a0 a1 a2 a3 t0 t1 t2 h).bind e = Co_lookAhead_66 krA r7A a0 a1 a2 a3 t0 t1 t2 h := by
  refine Eq.trans (congrArg (fun z => Option.bind z e) (qe_Co_lookAhead_66 krZ r7Z a0 a1 a2 a3 t0 t1 t2 h)) (Eq.trans ?_ (Eq.symm (qe_Co_lookAhead_66 krA r7A a0 a1 a2 a3 t0 t1 t2 h)))
  refine zseg_e e (zcal_e _ _ ?_) (zorc_e _ _ ?_) hk (fun _ _ => rfl) 400 _ _ _ _
  · exact ⟨rfl, rfl, zca2_e (fun x0 x1 h k t => n_X_isIn e (fun _ _ => rfl) x0 x1 h), trivial⟩
  · exact ⟨rfl, rfl, rfl, zap4_e (fun x0 x1 x2 x3 h => n_Co_lookAhead_99 e hk h7 x0 x1 x2 x3 h), trivial⟩
set_option maxRecDepth 100000 in
theorem n_Co_lookAhead_42 {ρ : Type} (e : zRes → Option ρ) {krA : Int → zH → Option ρ} {krZ : Int → zH → Option zRes} (hk : ∀ v h, (krZ v h).bind e = krA v h) {r7A : Int → Int → Int → Int → zH → Option ρ} {r7Z : Int → Int → Int → Int → zH → Option zRes} (h7 : ∀ (x0 x1 x2 x3 : Int) (h : zH), (r7Z x0 x1 x2 x3 h).bind e = r7A x0 x1 x2 x3 h) (a0 a1 a2 a3 a4 t0 t1 t2 : Int) (h : zH) : (Co_lookAhead_42 krZ r7Z a0 a1 a2 a3 a4 t0 t1 t2 h).bind e = Co_lookAhead_42 krA r7A a0 a1 a2 a3 a4 t0 t1 t2 h := by
  refine Eq.trans (congrArg (fun z => Option.bind z e) (qe_Co_lookAhead_42 krZ r7Z a0 a1 a2 a3 a4 t0 t1 t2 h)) (Eq.trans ?_ (Eq.symm (qe_Co_lookAhead_42 krA r7A a0 a1 a2 a3 a4 t0 t1 t2 h)))
  refine zseg_e e (zcal_e _ _ ?_) (zorc_e _ _ ?_) hk (fun _ _ => rfl) 400 _ _ _ _
  · exact ⟨rfl, rfl, zca2_e (fun x0 x1 h k t => n_Th_at e (fun _ _ => rfl) x0 x1 h), trivial⟩
  · exact ⟨rfl, rfl, rfl, zap7_e (fun x0 x1 x2 x3 x4 x5 x6 h => n_Co_lookAhead_66 e hk h7 x0 x1 x2 x3 x4 x5 x6 h), trivial⟩
set_option maxRecDepth 100000 in
theorem n_Co_lookAhead_127 {ρ : Type} (e : zRes → Option ρ) {krA : Int → zH → Option ρ} {krZ : Int → zH → Option zRes} (hk : ∀ v h, (krZ v h).bind e = krA v h) (t0 t1 : Int) (h : zH) : (Co_lookAhead_127 krZ t0 t1 h).bind e = Co_lookAhead_127 krA t0 t1 h := by
  refine Eq.trans (congrArg (fun z => Option.bind z e) (qe_Co_lookAhead_127 krZ t0 t1 h)) (Eq.trans ?_ (Eq.symm (qe_Co_lookAhead_127 krA t0 t1 h)))
  refine zseg_e e (zcal_e _ _ ?_) (zorc_e _ _ ?_) hk (fun _ _ => rfl) 400 _ _ _ _
  · exact trivial
  · exact trivial
set_option maxRecDepth 100000 in
theorem n_Co_lookAhead_7b {ρ : Type} (e : zRes → Option ρ) {krA : Int → zH → Option ρ} {krZ : Int → zH → Option zRes} (hk : ∀ v h, (krZ v h).bind e = krA v h) {r7A : Int → Int → Int → Int → zH → Option ρ} {r7Z : Int → Int → Int → Int → zH → Option zRes} (h7 : ∀ (x0 x1 x2 x3 : Int) (h : zH), (r7Z x0 x1 x2 x3 h).bind e = r7A x0 x1 x2 x3 h) (a0 a1 a2 a3 : Int) (h : zH) : (Co_lookAhead_7b krZ r7Z a0 a1 a2 a3 h).bind e = Co_lookAhead_7b krA r7A a0 a1 a2 a3 h := by
  refine Eq.trans (congrArg (fun z => Option.bind z e) (qe_Co_lookAhead_7b krZ r7Z a0 a1 a2 a3 h)) (Eq.trans ?_ (Eq.symm (qe_Co_lookAhead_7b krA r7A a0 a1 a2 a3 h)))
  refine zseg_e e (zcal_e _ _ ?_) (zorc_e _ _ ?_) hk (fun _ _ => rfl) 400 _ _ _ _
  · exact ⟨rfl, rfl, zca2_e (fun x0 x1 h k t => n_Gr_threadIn e (fun _ _ => rfl) x0 x1 h), ⟨rfl, rfl, zca2_e (fun x0 x1 h k t => n_Gr_writeAll e (fun _ _ => rfl) x0 x1 h), ⟨rfl, rfl, zca2_e (fun x0 x1 h k t => n_In_isOneOf e (fun _ _ => rfl) x0 x1 h), ⟨rfl, rfl, zca1_e (fun x0 h k t => n_In_cellRegister e (fun _ _ => rfl) x0 h), ⟨rfl, rfl, zca2_e (fun x0 x1 h k t => n_Th_at e (fun _ _ => rfl) x0 x1 h), trivial⟩⟩⟩⟩⟩
  · exact ⟨rfl, rfl, rfl, zap8_e (fun x0 x1 x2 x3 x4 x5 x6 x7 h => n_Co_lookAhead_42 e hk h7 x0 x1 x2 x3 x4 x5 x6 x7 h), ⟨rfl, rfl, rfl, zap2_e (fun x0 x1 h => n_Co_lookAhead_127 e hk x0 x1 h), trivial⟩⟩
theorem n_Co_lookAhead_7 {ρ : Type} (e : zRes → Option ρ) {krA : Int → zH → Option ρ} {krZ : Int → zH → Option zRes} (hk : ∀ v h, (krZ v h).bind e = krA v h) (a0 a1 a2 a3 : Int) (h : zH) : (Co_lookAhead_7 krZ a0 a1 a2 a3 h).bind e = Co_lookAhead_7 krA a0 a1 a2 a3 h := zit4_e (fun rA rZ hh a0 a1 a2 a3 h => n_Co_lookAhead_7b e hk hh a0 a1 a2 a3 h) zN a0 a1 a2 a3 h
set_option maxRecDepth 100000 in
theorem n_Co_lookAhead {ρ : Type} (e : zRes → Option ρ) {krA : Int → zH → Option ρ} {krZ : Int → zH → Option zRes} (hk : ∀ v h, (krZ v h).bind e = krA v h) (a0 a1 a2 : Int) (h : zH) : (Co_lookAhead a0 a1 a2 h krZ).bind e = Co_lookAhead a0 a1 a2 h krA := by
  refine Eq.trans (congrArg (fun z => Option.bind z e) (qe_Co_lookAhead krZ a0 a1 a2 h)) (Eq.trans ?_ (Eq.symm (qe_Co_lookAhead krA a0 a1 a2 h)))
  refine zseg_e e (zcal_e _ _ ?_) (zorc_e _ _ ?_) hk (fun _ _ => rfl) 400 _ _ _ _
  · exact trivial
  · exact ⟨rfl, rfl, rfl, zap4_e (fun x0 x1 x2 x3 h => n_Co_lookAhead_7 e hk x0 x1 x2 x3 h), trivial⟩
