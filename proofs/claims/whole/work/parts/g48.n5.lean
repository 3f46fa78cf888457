set_option maxRecDepth 100000 in
set_option maxHeartbeats 0 in
theorem n_M_thrown {ρ : Type} (e : zRes → Option ρ) {krA : Int → zH → Option ρ} {krZ : Int → zH → Option zRes} (hk : ∀ v h, (krZ v h).bind e = krA v h) (h : zH) : (M_thrown h krZ).bind e = M_thrown h krA := by
  refine Eq.trans (congrArg (fun z => Option.bind z e) (qe_M_thrown krZ h)) (Eq.trans ?_ (Eq.symm (qe_M_thrown krA h)))
  generalize (400 : Nat) = f9
  refine zseg_e e (zcal_e _ _ ?_) (zorc_e _ _ ?_) hk (fun _ _ => rfl) f9 _ _ _ _
  · exact trivial
  · exact trivial
set_option maxRecDepth 100000 in
set_option maxHeartbeats 0 in
theorem n_M_in_15 {ρ : Type} (e : zRes → Option ρ) {krA : Int → zH → Option ρ} {krZ : Int → zH → Option zRes} (hk : ∀ v h, (krZ v h).bind e = krA v h) (t0 : Int) (h : zH) : (M_in_15 krZ t0 h).bind e = M_in_15 krA t0 h := by
  refine Eq.trans (congrArg (fun z => Option.bind z e) (qe_M_in_15 krZ t0 h)) (Eq.trans ?_ (Eq.symm (qe_M_in_15 krA t0 h)))
  generalize (400 : Nat) = f9
  refine zseg_e e (zcal_e _ _ ?_) (zorc_e _ _ ?_) hk (fun _ _ => rfl) f9 _ _ _ _
  · exact trivial
  · exact trivial
set_option maxRecDepth 100000 in
set_option maxHeartbeats 0 in
theorem n_M_in_14 {ρ : Type} (e : zRes → Option ρ) {krA : Int → zH → Option ρ} {krZ : Int → zH → Option zRes} (hk : ∀ v h, (krZ v h).bind e = krA v h) (h : zH) : (M_in_14 krZ h).bind e = M_in_14 krA h := by
  refine Eq.trans (congrArg (fun z => Option.bind z e) (qe_M_in_14 krZ h)) (Eq.trans ?_ (Eq.symm (qe_M_in_14 krA h)))
  generalize (400 : Nat) = f9
  refine zseg_e e (zcal_e _ _ ?_) (zorc_e _ _ ?_) hk (fun _ _ => rfl) f9 _ _ _ _
  · exact trivial
  · exact ⟨rfl, rfl, rfl, zap1_e (fun x0 h => n_M_in_15 e hk x0 h), trivial⟩
set_option maxRecDepth 100000 in
set_option maxHeartbeats 0 in
theorem n_M_in {ρ : Type} (e : zRes → Option ρ) {krA : Int → zH → Option ρ} {krZ : Int → zH → Option zRes} (hk : ∀ v h, (krZ v h).bind e = krA v h) (a0 a1 a2 : Int) (h : zH) : (M_in a0 a1 a2 h krZ).bind e = M_in a0 a1 a2 h krA := by
  refine Eq.trans (congrArg (fun z => Option.bind z e) (qe_M_in krZ a0 a1 a2 h)) (Eq.trans ?_ (Eq.symm (qe_M_in krA a0 a1 a2 h)))
  generalize (400 : Nat) = f9
  refine zseg_e e (zcal_e _ _ ?_) (zorc_e _ _ ?_) hk (fun _ _ => rfl) f9 _ _ _ _
  · exact trivial
  · exact ⟨rfl, rfl, rfl, zap0_e (fun  h => n_M_in_14 e hk  h), ⟨rfl, rfl, rfl, zap1_e (fun x0 h => n_M_in_15 e hk x0 h), trivial⟩⟩
set_option maxRecDepth 100000 in
set_option maxHeartbeats 0 in
theorem n_M_fails_28 {ρ : Type} (e : zRes → Option ρ) {krA : Int → zH → Option ρ} {krZ : Int → zH → Option zRes} (hk : ∀ v h, (krZ v h).bind e = krA v h) (t0 : Int) (h : zH) : (M_fails_28 krZ t0 h).bind e = M_fails_28 krA t0 h := by
  refine Eq.trans (congrArg (fun z => Option.bind z e) (qe_M_fails_28 krZ t0 h)) (Eq.trans ?_ (Eq.symm (qe_M_fails_28 krA t0 h)))
  generalize (400 : Nat) = f9
  refine zseg_e e (zcal_e _ _ ?_) (zorc_e _ _ ?_) hk (fun _ _ => rfl) f9 _ _ _ _
  · exact trivial
  · exact trivial
set_option maxRecDepth 100000 in
set_option maxHeartbeats 0 in
theorem n_M_fails_16 {ρ : Type} (e : zRes → Option ρ) {krA : Int → zH → Option ρ} {krZ : Int → zH → Option zRes} (hk : ∀ v h, (krZ v h).bind e = krA v h) (h : zH) : (M_fails_16 krZ h).bind e = M_fails_16 krA h := by
  refine Eq.trans (congrArg (fun z => Option.bind z e) (qe_M_fails_16 krZ h)) (Eq.trans ?_ (Eq.symm (qe_M_fails_16 krA h)))
  generalize (400 : Nat) = f9
  refine zseg_e e (zcal_e _ _ ?_) (zorc_e _ _ ?_) hk (fun _ _ => rfl) f9 _ _ _ _
  · exact trivial
  · exact ⟨rfl, rfl, rfl, zap1_e (fun x0 h => n_M_fails_28 e hk x0 h), trivial⟩
set_option maxRecDepth 100000 in
set_option maxHeartbeats 0 in
theorem n_M_fails {ρ : Type} (e : zRes → Option ρ) {krA : Int → zH → Option ρ} {krZ : Int → zH → Option zRes} (hk : ∀ v h, (krZ v h).bind e = krA v h) (a1 a2 : Int) (h : zH) : (M_fails a1 a2 h krZ).bind e = M_fails a1 a2 h krA := by
  refine Eq.trans (congrArg (fun z => Option.bind z e) (qe_M_fails krZ a1 a2 h)) (Eq.trans ?_ (Eq.symm (qe_M_fails krA a1 a2 h)))
  generalize (400 : Nat) = f9
  refine zseg_e e (zcal_e _ _ ?_) (zorc_e _ _ ?_) hk (fun _ _ => rfl) f9 _ _ _ _
  · exact trivial
  · exact ⟨rfl, rfl, rfl, zap0_e (fun  h => n_M_fails_16 e hk  h), trivial⟩
set_option maxRecDepth 100000 in
set_option maxHeartbeats 0 in
theorem n_M_noKernel_19 {ρ : Type} (e : zRes → Option ρ) {krA : Int → zH → Option ρ} {krZ : Int → zH → Option zRes} (hk : ∀ v h, (krZ v h).bind e = krA v h) (t0 : Int) (h : zH) : (M_noKernel_19 krZ t0 h).bind e = M_noKernel_19 krA t0 h := by
  refine Eq.trans (congrArg (fun z => Option.bind z e) (qe_M_noKernel_19 krZ t0 h)) (Eq.trans ?_ (Eq.symm (qe_M_noKernel_19 krA t0 h)))
  generalize (400 : Nat) = f9
  refine zseg_e e (zcal_e _ _ ?_) (zorc_e _ _ ?_) hk (fun _ _ => rfl) f9 _ _ _ _
  · exact trivial
  · exact trivial
set_option maxRecDepth 100000 in
set_option maxHeartbeats 0 in
theorem n_M_noKernel {ρ : Type} (e : zRes → Option ρ) {krA : Int → zH → Option ρ} {krZ : Int → zH → Option zRes} (hk : ∀ v h, (krZ v h).bind e = krA v h) (a1 : Int) (h : zH) : (M_noKernel a1 h krZ).bind e = M_noKernel a1 h krA := by
  refine Eq.trans (congrArg (fun z => Option.bind z e) (qe_M_noKernel krZ a1 h)) (Eq.trans ?_ (Eq.symm (qe_M_noKernel krA a1 h)))
  generalize (400 : Nat) = f9
  refine zseg_e e (zcal_e _ _ ?_) (zorc_e _ _ ?_) hk (fun _ _ => rfl) f9 _ _ _ _
  · exact ⟨rfl, rfl, zca3_e (fun x0 x1 x2 h k t => n_M_in e (fun _ _ => rfl) x0 x1 x2 h), trivial⟩
  · exact ⟨rfl, rfl, rfl, zap1_e (fun x0 h => n_M_noKernel_19 e hk x0 h), trivial⟩
set_option maxRecDepth 100000 in
set_option maxHeartbeats 0 in
theorem n_M_noLaunch_19 {ρ : Type} (e : zRes → Option ρ) {krA : Int → zH → Option ρ} {krZ : Int → zH → Option zRes} (hk : ∀ v h, (krZ v h).bind e = krA v h) (t0 : Int) (h : zH) : (M_noLaunch_19 krZ t0 h).bind e = M_noLaunch_19 krA t0 h := by
  refine Eq.trans (congrArg (fun z => Option.bind z e) (qe_M_noLaunch_19 krZ t0 h)) (Eq.trans ?_ (Eq.symm (qe_M_noLaunch_19 krA t0 h)))
  generalize (400 : Nat) = f9
  refine zseg_e e (zcal_e _ _ ?_) (zorc_e _ _ ?_) hk (fun _ _ => rfl) f9 _ _ _ _
  · exact trivial
  · exact trivial
set_option maxRecDepth 100000 in
set_option maxHeartbeats 0 in
theorem n_M_noLaunch {ρ : Type} (e : zRes → Option ρ) {krA : Int → zH → Option ρ} {krZ : Int → zH → Option zRes} (hk : ∀ v h, (krZ v h).bind e = krA v h) (a1 : Int) (h : zH) : (M_noLaunch a1 h krZ).bind e = M_noLaunch a1 h krA := by
  refine Eq.trans (congrArg (fun z => Option.bind z e) (qe_M_noLaunch krZ a1 h)) (Eq.trans ?_ (Eq.symm (qe_M_noLaunch krA a1 h)))
  generalize (400 : Nat) = f9
  refine zseg_e e (zcal_e _ _ ?_) (zorc_e _ _ ?_) hk (fun _ _ => rfl) f9 _ _ _ _
  · exact ⟨rfl, rfl, zca3_e (fun x0 x1 x2 h k t => n_M_in e (fun _ _ => rfl) x0 x1 x2 h), trivial⟩
  · exact ⟨rfl, rfl, rfl, zap1_e (fun x0 h => n_M_noLaunch_19 e hk x0 h), trivial⟩
set_option maxRecDepth 100000 in
set_option maxHeartbeats 0 in
theorem n_M_noCell_15 {ρ : Type} (e : zRes → Option ρ) {krA : Int → zH → Option ρ} {krZ : Int → zH → Option zRes} (hk : ∀ v h, (krZ v h).bind e = krA v h) (t0 : Int) (h : zH) : (M_noCell_15 krZ t0 h).bind e = M_noCell_15 krA t0 h := by
  refine Eq.trans (congrArg (fun z => Option.bind z e) (qe_M_noCell_15 krZ t0 h)) (Eq.trans ?_ (Eq.symm (qe_M_noCell_15 krA t0 h)))
  generalize (400 : Nat) = f9
  refine zseg_e e (zcal_e _ _ ?_) (zorc_e _ _ ?_) hk (fun _ _ => rfl) f9 _ _ _ _
  · exact trivial
  · exact trivial
set_option maxRecDepth 100000 in
set_option maxHeartbeats 0 in
theorem n_M_noCell {ρ : Type} (e : zRes → Option ρ) {krA : Int → zH → Option ρ} {krZ : Int → zH → Option zRes} (hk : ∀ v h, (krZ v h).bind e = krA v h) (a0 : Int) (h : zH) : (M_noCell a0 h krZ).bind e = M_noCell a0 h krA := by
  refine Eq.trans (congrArg (fun z => Option.bind z e) (qe_M_noCell krZ a0 h)) (Eq.trans ?_ (Eq.symm (qe_M_noCell krA a0 h)))
  generalize (400 : Nat) = f9
  refine zseg_e e (zcal_e _ _ ?_) (zorc_e _ _ ?_) hk (fun _ _ => rfl) f9 _ _ _ _
  · exact ⟨rfl, rfl, zca3_e (fun x0 x1 x2 h k t => n_M_in e (fun _ _ => rfl) x0 x1 x2 h), trivial⟩
  · exact ⟨rfl, rfl, rfl, zap1_e (fun x0 h => n_M_noCell_15 e hk x0 h), trivial⟩
set_option maxRecDepth 100000 in
set_option maxHeartbeats 0 in
theorem n_M_addKernel_59 {ρ : Type} (e : zRes → Option ρ) {krA : Int → zH → Option ρ} {krZ : Int → zH → Option zRes} (hk : ∀ v h, (krZ v h).bind e = krA v h) (h : zH) : (M_addKernel_59 krZ h).bind e = M_addKernel_59 krA h := by
  refine Eq.trans (congrArg (fun z => Option.bind z e) (qe_M_addKernel_59 krZ h)) (Eq.trans ?_ (Eq.symm (qe_M_addKernel_59 krA h)))
  generalize (400 : Nat) = f9
  refine zseg_e e (zcal_e _ _ ?_) (zorc_e _ _ ?_) hk (fun _ _ => rfl) f9 _ _ _ _
  · exact trivial
  · exact trivial
set_option maxRecDepth 100000 in
set_option maxHeartbeats 0 in
theorem n_M_addKernel_52 {ρ : Type} (e : zRes → Option ρ) {krA : Int → zH → Option ρ} {krZ : Int → zH → Option zRes} (hk : ∀ v h, (krZ v h).bind e = krA v h) (a1 a2 t0 : Int) (h : zH) : (M_addKernel_52 krZ a1 a2 t0 h).bind e = M_addKernel_52 krA a1 a2 t0 h := by
  refine Eq.trans (congrArg (fun z => Option.bind z e) (qe_M_addKernel_52 krZ a1 a2 t0 h)) (Eq.trans ?_ (Eq.symm (qe_M_addKernel_52 krA a1 a2 t0 h)))
  generalize (400 : Nat) = f9
  refine zseg_e e (zcal_e _ _ ?_) (zorc_e _ _ ?_) hk (fun _ _ => rfl) f9 _ _ _ _
  · exact ⟨rfl, rfl, zca2_e (fun x0 x1 h k t => n_M_fails e (fun _ _ => rfl) x0 x1 h), trivial⟩
  · exact ⟨rfl, rfl, rfl, zap0_e (fun  h => n_M_addKernel_59 e hk  h), trivial⟩
set_option maxRecDepth 100000 in
set_option maxHeartbeats 0 in
theorem n_M_addKernel_31 {ρ : Type} (e : zRes → Option ρ) {krA : Int → zH → Option ρ} {krZ : Int → zH → Option zRes} (hk : ∀ v h, (krZ v h).bind e = krA v h) (a1 a2 t0 : Int) (h : zH) : (M_addKernel_31 krZ a1 a2 t0 h).bind e = M_addKernel_31 krA a1 a2 t0 h := by
  refine Eq.trans (congrArg (fun z => Option.bind z e) (qe_M_addKernel_31 krZ a1 a2 t0 h)) (Eq.trans ?_ (Eq.symm (qe_M_addKernel_31 krA a1 a2 t0 h)))
  generalize (400 : Nat) = f9
  refine zseg_e e (zcal_e _ _ ?_) (zorc_e _ _ ?_) hk (fun _ _ => rfl) f9 _ _ _ _
  · exact ⟨rfl, rfl, zca2_e (fun x0 x1 h k t => n_M_fails e (fun _ _ => rfl) x0 x1 h), trivial⟩
  · exact ⟨rfl, rfl, rfl, zap3_e (fun x0 x1 x2 h => n_M_addKernel_52 e hk x0 x1 x2 h), ⟨rfl, rfl, rfl, zap0_e (fun  h => n_M_addKernel_59 e hk  h), trivial⟩⟩
set_option maxRecDepth 100000 in
set_option maxHeartbeats 0 in
theorem n_M_addKernel_26 {ρ : Type} (e : zRes → Option ρ) {krA : Int → zH → Option ρ} {krZ : Int → zH → Option zRes} (hk : ∀ v h, (krZ v h).bind e = krA v h) (a1 a2 : Int) (h : zH) : (M_addKernel_26 krZ a1 a2 h).bind e = M_addKernel_26 krA a1 a2 h := by
  refine Eq.trans (congrArg (fun z => Option.bind z e) (qe_M_addKernel_26 krZ a1 a2 h)) (Eq.trans ?_ (Eq.symm (qe_M_addKernel_26 krA a1 a2 h)))
  generalize (400 : Nat) = f9
  refine zseg_e e (zcal_e _ _ ?_) (zorc_e _ _ ?_) hk (fun _ _ => rfl) f9 _ _ _ _
  · exact trivial
  · exact ⟨rfl, rfl, rfl, zap3_e (fun x0 x1 x2 h => n_M_addKernel_31 e hk x0 x1 x2 h), trivial⟩
set_option maxRecDepth 100000 in
set_option maxHeartbeats 0 in
theorem n_M_addKernel {ρ : Type} (e : zRes → Option ρ) {krA : Int → zH → Option ρ} {krZ : Int → zH → Option zRes} (hk : ∀ v h, (krZ v h).bind e = krA v h) (a1 a2 : Int) (h : zH) : (M_addKernel a1 a2 h krZ).bind e = M_addKernel a1 a2 h krA := by
  refine Eq.trans (congrArg (fun z => Option.bind z e) (qe_M_addKernel krZ a1 a2 h)) (Eq.trans ?_ (Eq.symm (qe_M_addKernel krA a1 a2 h)))
  generalize (400 : Nat) = f9
  refine zseg_e e (zcal_e _ _ ?_) (zorc_e _ _ ?_) hk (fun _ _ => rfl) f9 _ _ _ _
  · exact ⟨rfl, rfl, zca3_e (fun x0 x1 x2 h k t => n_M_in e (fun _ _ => rfl) x0 x1 x2 h), trivial⟩
  · exact ⟨rfl, rfl, rfl, zap2_e (fun x0 x1 h => n_M_addKernel_26 e hk x0 x1 h), ⟨rfl, rfl, rfl, zap3_e (fun x0 x1 x2 h => n_M_addKernel_31 e hk x0 x1 x2 h), trivial⟩⟩
set_option maxRecDepth 100000 in
set_option maxHeartbeats 0 in
theorem n_M_named_48 {ρ : Type} (e : zRes → Option ρ) {krA : Int → zH → Option ρ} {krZ : Int → zH → Option zRes} (hk : ∀ v h, (krZ v h).bind e = krA v h) (h : zH) : (M_named_48 krZ h).bind e = M_named_48 krA h := by
  refine Eq.trans (congrArg (fun z => Option.bind z e) (qe_M_named_48 krZ h)) (Eq.trans ?_ (Eq.symm (qe_M_named_48 krA h)))
  generalize (400 : Nat) = f9
  refine zseg_e e (zcal_e _ _ ?_) (zorc_e _ _ ?_) hk (fun _ _ => rfl) f9 _ _ _ _
  · exact trivial
  · exact trivial
set_option maxRecDepth 100000 in
set_option maxHeartbeats 0 in
theorem n_M_named_81 {ρ : Type} (e : zRes → Option ρ) {krA : Int → zH → Option ρ} {krZ : Int → zH → Option zRes} (hk : ∀ v h, (krZ v h).bind e = krA v h) (h : zH) : (M_named_81 krZ h).bind e = M_named_81 krA h := by
  refine Eq.trans (congrArg (fun z => Option.bind z e) (qe_M_named_81 krZ h)) (Eq.trans ?_ (Eq.symm (qe_M_named_81 krA h)))
  generalize (400 : Nat) = f9
  refine zseg_e e (zcal_e _ _ ?_) (zorc_e _ _ ?_) hk (fun _ _ => rfl) f9 _ _ _ _
  · exact trivial
  · exact trivial
set_option maxRecDepth 100000 in
set_option maxHeartbeats 0 in
theorem n_M_named_114 {ρ : Type} (e : zRes → Option ρ) {krA : Int → zH → Option ρ} {krZ : Int → zH → Option zRes} (hk : ∀ v h, (krZ v h).bind e = krA v h) (h : zH) : (M_named_114 krZ h).bind e = M_named_114 krA h := by
  refine Eq.trans (congrArg (fun z => Option.bind z e) (qe_M_named_114 krZ h)) (Eq.trans ?_ (Eq.symm (qe_M_named_114 krA h)))
  generalize (400 : Nat) = f9
  refine zseg_e e (zcal_e _ _ ?_) (zorc_e _ _ ?_) hk (fun _ _ => rfl) f9 _ _ _ _
  · exact trivial
  · exact trivial
set_option maxRecDepth 100000 in
set_option maxHeartbeats 0 in
theorem n_M_named_155 {ρ : Type} (e : zRes → Option ρ) {krA : Int → zH → Option ρ} {krZ : Int → zH → Option zRes} (hk : ∀ v h, (krZ v h).bind e = krA v h) (t0 : Int) (h : zH) : (M_named_155 krZ t0 h).bind e = M_named_155 krA t0 h := by
  refine Eq.trans (congrArg (fun z => Option.bind z e) (qe_M_named_155 krZ t0 h)) (Eq.trans ?_ (Eq.symm (qe_M_named_155 krA t0 h)))
  generalize (400 : Nat) = f9
  refine zseg_e e (zcal_e _ _ ?_) (zorc_e _ _ ?_) hk (fun _ _ => rfl) f9 _ _ _ _
  · exact trivial
  · exact trivial
set_option maxRecDepth 100000 in
set_option maxHeartbeats 0 in
theorem n_M_named_150 {ρ : Type} (e : zRes → Option ρ) {krA : Int → zH → Option ρ} {krZ : Int → zH → Option zRes} (hk : ∀ v h, (krZ v h).bind e = krA v h) (h : zH) : (M_named_150 krZ h).bind e = M_named_150 krA h := by
  refine Eq.trans (congrArg (fun z => Option.bind z e) (qe_M_named_150 krZ h)) (Eq.trans ?_ (Eq.symm (qe_M_named_150 krA h)))
  generalize (400 : Nat) = f9
  refine zseg_e e (zcal_e _ _ ?_) (zorc_e _ _ ?_) hk (fun _ _ => rfl) f9 _ _ _ _
  · exact trivial
  · exact ⟨rfl, rfl, rfl, zap1_e (fun x0 h => n_M_named_155 e hk x0 h), trivial⟩
set_option maxRecDepth 100000 in
set_option maxHeartbeats 0 in
theorem n_M_named {ρ : Type} (e : zRes → Option ρ) {krA : Int → zH → Option ρ} {krZ : Int → zH → Option zRes} (hk : ∀ v h, (krZ v h).bind e = krA v h) (a0 : Int) (h : zH) : (M_named a0 h krZ).bind e = M_named a0 h krA := by
  refine Eq.trans (congrArg (fun z => Option.bind z e) (qe_M_named krZ a0 h)) (Eq.trans ?_ (Eq.symm (qe_M_named krA a0 h)))
  generalize (400 : Nat) = f9
  refine zseg_e e (zcal_e _ _ ?_) (zorc_e _ _ ?_) hk (fun _ _ => rfl) f9 _ _ _ _
  · exact trivial
  · exact ⟨rfl, rfl, rfl, zap0_e (fun  h => n_M_named_48 e hk  h), ⟨rfl, rfl, rfl, zap0_e (fun  h => n_M_named_81 e hk  h), ⟨rfl, rfl, rfl, zap0_e (fun  h => n_M_named_114 e hk  h), ⟨rfl, rfl, rfl, zap0_e (fun  h => n_M_named_150 e hk  h), ⟨rfl, rfl, rfl, zap1_e (fun x0 h => n_M_named_155 e hk x0 h), trivial⟩⟩⟩⟩⟩
set_option maxRecDepth 100000 in
set_option maxHeartbeats 0 in
theorem n_M_code_204 {ρ : Type} (e : zRes → Option ρ) {krA : Int → zH → Option ρ} {krZ : Int → zH → Option zRes} (hk : ∀ v h, (krZ v h).bind e = krA v h) (h : zH) : (M_code_204 krZ h).bind e = M_code_204 krA h := by
  refine Eq.trans (congrArg (fun z => Option.bind z e) (qe_M_code_204 krZ h)) (Eq.trans ?_ (Eq.symm (qe_M_code_204 krA h)))
  generalize (400 : Nat) = f9
  refine zseg_e e (zcal_e _ _ ?_) (zorc_e _ _ ?_) hk (fun _ _ => rfl) f9 _ _ _ _
  · exact trivial
  · exact trivial
set_option maxRecDepth 100000 in
set_option maxHeartbeats 0 in
theorem n_M_code_197 {ρ : Type} (e : zRes → Option ρ) {krA : Int → zH → Option ρ} {krZ : Int → zH → Option zRes} (hk : ∀ v h, (krZ v h).bind e = krA v h) (a1 a2 a3 a4 a5 t0 : Int) (h : zH) : (M_code_197 krZ a1 a2 a3 a4 a5 t0 h).bind e = M_code_197 krA a1 a2 a3 a4 a5 t0 h := by
  refine Eq.trans (congrArg (fun z => Option.bind z e) (qe_M_code_197 krZ a1 a2 a3 a4 a5 t0 h)) (Eq.trans ?_ (Eq.symm (qe_M_code_197 krA a1 a2 a3 a4 a5 t0 h)))
  generalize (400 : Nat) = f9
  refine zseg_e e (zcal_e _ _ ?_) (zorc_e _ _ ?_) hk (fun _ _ => rfl) f9 _ _ _ _
  · exact ⟨rfl, rfl, zca2_e (fun x0 x1 h k t => n_M_fails e (fun _ _ => rfl) x0 x1 h), trivial⟩
  · exact ⟨rfl, rfl, rfl, zap0_e (fun  h => n_M_code_204 e hk  h), trivial⟩
set_option maxRecDepth 100000 in
set_option maxHeartbeats 0 in
theorem n_M_code_192 {ρ : Type} (e : zRes → Option ρ) {krA : Int → zH → Option ρ} {krZ : Int → zH → Option zRes} (hk : ∀ v h, (krZ v h).bind e = krA v h) (a1 a2 a3 a4 a5 : Int) (h : zH) : (M_code_192 krZ a1 a2 a3 a4 a5 h).bind e = M_code_192 krA a1 a2 a3 a4 a5 h := by
  refine Eq.trans (congrArg (fun z => Option.bind z e) (qe_M_code_192 krZ a1 a2 a3 a4 a5 h)) (Eq.trans ?_ (Eq.symm (qe_M_code_192 krA a1 a2 a3 a4 a5 h)))
  generalize (400 : Nat) = f9
  refine zseg_e e (zcal_e _ _ ?_) (zorc_e _ _ ?_) hk (fun _ _ => rfl) f9 _ _ _ _
  · exact trivial
  · exact ⟨rfl, rfl, rfl, zap6_e (fun x0 x1 x2 x3 x4 x5 h => n_M_code_197 e hk x0 x1 x2 x3 x4 x5 h), trivial⟩
set_option maxRecDepth 100000 in
set_option maxHeartbeats 0 in
theorem n_M_code_164 {ρ : Type} (e : zRes → Option ρ) {krA : Int → zH → Option ρ} {krZ : Int → zH → Option zRes} (hk : ∀ v h, (krZ v h).bind e = krA v h) (a1 a2 a3 a4 a5 t0 : Int) (h : zH) : (M_code_164 krZ a1 a2 a3 a4 a5 t0 h).bind e = M_code_164 krA a1 a2 a3 a4 a5 t0 h := by
  refine Eq.trans (congrArg (fun z => Option.bind z e) (qe_M_code_164 krZ a1 a2 a3 a4 a5 t0 h)) (Eq.trans ?_ (Eq.symm (qe_M_code_164 krA a1 a2 a3 a4 a5 t0 h)))
  generalize (400 : Nat) = f9
  refine zseg_e e (zcal_e _ _ ?_) (zorc_e _ _ ?_) hk (fun _ _ => rfl) f9 _ _ _ _
  · exact ⟨rfl, rfl, zca2_e (fun x0 x1 h k t => n_M_fails e (fun _ _ => rfl) x0 x1 h), trivial⟩
  · exact ⟨rfl, rfl, rfl, zap5_e (fun x0 x1 x2 x3 x4 h => n_M_code_192 e hk x0 x1 x2 x3 x4 h), ⟨rfl, rfl, rfl, zap6_e (fun x0 x1 x2 x3 x4 x5 h => n_M_code_197 e hk x0 x1 x2 x3 x4 x5 h), ⟨rfl, rfl, rfl, zap0_e (fun  h => n_M_code_204 e hk  h), trivial⟩⟩⟩
set_option maxRecDepth 100000 in
set_option maxHeartbeats 0 in
theorem n_M_code_159 {ρ : Type} (e : zRes → Option ρ) {krA : Int → zH → Option ρ} {krZ : Int → zH → Option zRes} (hk : ∀ v h, (krZ v h).bind e = krA v h) (a1 a2 a3 a4 a5 : Int) (h : zH) : (M_code_159 krZ a1 a2 a3 a4 a5 h).bind e = M_code_159 krA a1 a2 a3 a4 a5 h := by
  refine Eq.trans (congrArg (fun z => Option.bind z e) (qe_M_code_159 krZ a1 a2 a3 a4 a5 h)) (Eq.trans ?_ (Eq.symm (qe_M_code_159 krA a1 a2 a3 a4 a5 h)))
  generalize (400 : Nat) = f9
  refine zseg_e e (zcal_e _ _ ?_) (zorc_e _ _ ?_) hk (fun _ _ => rfl) f9 _ _ _ _
  · exact trivial
  · exact ⟨rfl, rfl, rfl, zap6_e (fun x0 x1 x2 x3 x4 x5 h => n_M_code_164 e hk x0 x1 x2 x3 x4 x5 h), trivial⟩
set_option maxRecDepth 100000 in
set_option maxHeartbeats 0 in
theorem n_M_code_146 {ρ : Type} (e : zRes → Option ρ) {krA : Int → zH → Option ρ} {krZ : Int → zH → Option zRes} (hk : ∀ v h, (krZ v h).bind e = krA v h) (a1 a2 a3 a4 a5 a8 t0 : Int) (h : zH) : (M_code_146 krZ a1 a2 a3 a4 a5 a8 t0 h).bind e = M_code_146 krA a1 a2 a3 a4 a5 a8 t0 h := by
  refine Eq.trans (congrArg (fun z => Option.bind z e) (qe_M_code_146 krZ a1 a2 a3 a4 a5 a8 t0 h)) (Eq.trans ?_ (Eq.symm (qe_M_code_146 krA a1 a2 a3 a4 a5 a8 t0 h)))
  generalize (400 : Nat) = f9
  refine zseg_e e (zcal_e _ _ ?_) (zorc_e _ _ ?_) hk (fun _ _ => rfl) f9 _ _ _ _
  · exact trivial
  · exact ⟨rfl, rfl, rfl, zap5_e (fun x0 x1 x2 x3 x4 h => n_M_code_159 e hk x0 x1 x2 x3 x4 h), ⟨rfl, rfl, rfl, zap6_e (fun x0 x1 x2 x3 x4 x5 h => n_M_code_164 e hk x0 x1 x2 x3 x4 x5 h), trivial⟩⟩
set_option maxRecDepth 100000 in
set_option maxHeartbeats 0 in
theorem n_M_code_141 {ρ : Type} (e : zRes → Option ρ) {krA : Int → zH → Option ρ} {krZ : Int → zH → Option zRes} (hk : ∀ v h, (krZ v h).bind e = krA v h) (a1 a2 a3 a4 a5 a8 : Int) (h : zH) : (M_code_141 krZ a1 a2 a3 a4 a5 a8 h).bind e = M_code_141 krA a1 a2 a3 a4 a5 a8 h := by
  refine Eq.trans (congrArg (fun z => Option.bind z e) (qe_M_code_141 krZ a1 a2 a3 a4 a5 a8 h)) (Eq.trans ?_ (Eq.symm (qe_M_code_141 krA a1 a2 a3 a4 a5 a8 h)))
  generalize (400 : Nat) = f9
  refine zseg_e e (zcal_e _ _ ?_) (zorc_e _ _ ?_) hk (fun _ _ => rfl) f9 _ _ _ _
  · exact trivial
  · exact ⟨rfl, rfl, rfl, zap7_e (fun x0 x1 x2 x3 x4 x5 x6 h => n_M_code_146 e hk x0 x1 x2 x3 x4 x5 x6 h), trivial⟩
set_option maxRecDepth 100000 in
set_option maxHeartbeats 0 in
theorem n_M_code_145 {ρ : Type} (e : zRes → Option ρ) {krA : Int → zH → Option ρ} {krZ : Int → zH → Option zRes} (hk : ∀ v h, (krZ v h).bind e = krA v h) (a1 a2 a3 a4 a5 a8 : Int) (h : zH) : (M_code_145 krZ a1 a2 a3 a4 a5 a8 h).bind e = M_code_145 krA a1 a2 a3 a4 a5 a8 h := by
  refine Eq.trans (congrArg (fun z => Option.bind z e) (qe_M_code_145 krZ a1 a2 a3 a4 a5 a8 h)) (Eq.trans ?_ (Eq.symm (qe_M_code_145 krA a1 a2 a3 a4 a5 a8 h)))
  generalize (400 : Nat) = f9
  refine zseg_e e (zcal_e _ _ ?_) (zorc_e _ _ ?_) hk (fun _ _ => rfl) f9 _ _ _ _
  · exact trivial
  · exact ⟨rfl, rfl, rfl, zap7_e (fun x0 x1 x2 x3 x4 x5 x6 h => n_M_code_146 e hk x0 x1 x2 x3 x4 x5 x6 h), trivial⟩
set_option maxRecDepth 100000 in
set_option maxHeartbeats 0 in
theorem n_M_code_125 {ρ : Type} (e : zRes → Option ρ) {krA : Int → zH → Option ρ} {krZ : Int → zH → Option zRes} (hk : ∀ v h, (krZ v h).bind e = krA v h) (a1 a2 a3 a4 a5 a8 : Int) (h : zH) : (M_code_125 krZ a1 a2 a3 a4 a5 a8 h).bind e = M_code_125 krA a1 a2 a3 a4 a5 a8 h := by
  refine Eq.trans (congrArg (fun z => Option.bind z e) (qe_M_code_125 krZ a1 a2 a3 a4 a5 a8 h)) (Eq.trans ?_ (Eq.symm (qe_M_code_125 krA a1 a2 a3 a4 a5 a8 h)))
  generalize (400 : Nat) = f9
  refine zseg_e e (zcal_e _ _ ?_) (zorc_e _ _ ?_) hk (fun _ _ => rfl) f9 _ _ _ _
  · exact ⟨rfl, rfl, zca3_e (fun x0 x1 x2 h k t => n_M_in e (fun _ _ => rfl) x0 x1 x2 h), trivial⟩
  · exact ⟨rfl, rfl, rfl, zap6_e (fun x0 x1 x2 x3 x4 x5 h => n_M_code_141 e hk x0 x1 x2 x3 x4 x5 h), ⟨rfl, rfl, rfl, zap6_e (fun x0 x1 x2 x3 x4 x5 h => n_M_code_145 e hk x0 x1 x2 x3 x4 x5 h), trivial⟩⟩
set_option maxRecDepth 100000 in
set_option maxHeartbeats 0 in
theorem n_M_code_114 {ρ : Type} (e : zRes → Option ρ) {krA : Int → zH → Option ρ} {krZ : Int → zH → Option zRes} (hk : ∀ v h, (krZ v h).bind e = krA v h) (a1 a2 a3 a4 a5 a8 : Int) (h : zH) : (M_code_114 krZ a1 a2 a3 a4 a5 a8 h).bind e = M_code_114 krA a1 a2 a3 a4 a5 a8 h := by
  refine Eq.trans (congrArg (fun z => Option.bind z e) (qe_M_code_114 krZ a1 a2 a3 a4 a5 a8 h)) (Eq.trans ?_ (Eq.symm (qe_M_code_114 krA a1 a2 a3 a4 a5 a8 h)))
  generalize (400 : Nat) = f9
  refine zseg_e e (zcal_e _ _ ?_) (zorc_e _ _ ?_) hk (fun _ _ => rfl) f9 _ _ _ _
  · exact ⟨rfl, rfl, zca3_e (fun x0 x1 x2 h k t => n_M_in e (fun _ _ => rfl) x0 x1 x2 h), trivial⟩
  · exact ⟨rfl, rfl, rfl, zap6_e (fun x0 x1 x2 x3 x4 x5 h => n_M_code_125 e hk x0 x1 x2 x3 x4 x5 h), ⟨rfl, rfl, rfl, zap6_e (fun x0 x1 x2 x3 x4 x5 h => n_M_code_141 e hk x0 x1 x2 x3 x4 x5 h), trivial⟩⟩
set_option maxRecDepth 100000 in
set_option maxHeartbeats 0 in
theorem n_M_code_100 {ρ : Type} (e : zRes → Option ρ) {krA : Int → zH → Option ρ} {krZ : Int → zH → Option zRes} (hk : ∀ v h, (krZ v h).bind e = krA v h) (a1 a2 a3 a4 a5 t0 : Int) (h : zH) : (M_code_100 krZ a1 a2 a3 a4 a5 t0 h).bind e = M_code_100 krA a1 a2 a3 a4 a5 t0 h := by
  refine Eq.trans (congrArg (fun z => Option.bind z e) (qe_M_code_100 krZ a1 a2 a3 a4 a5 t0 h)) (Eq.trans ?_ (Eq.symm (qe_M_code_100 krA a1 a2 a3 a4 a5 t0 h)))
  generalize (400 : Nat) = f9
  refine zseg_e e (zcal_e _ _ ?_) (zorc_e _ _ ?_) hk (fun _ _ => rfl) f9 _ _ _ _
  · exact trivial
  · exact ⟨rfl, rfl, rfl, zap6_e (fun x0 x1 x2 x3 x4 x5 h => n_M_code_114 e hk x0 x1 x2 x3 x4 x5 h), ⟨rfl, rfl, rfl, zap6_e (fun x0 x1 x2 x3 x4 x5 h => n_M_code_125 e hk x0 x1 x2 x3 x4 x5 h), trivial⟩⟩
set_option maxRecDepth 100000 in
set_option maxHeartbeats 0 in
theorem n_M_code_95 {ρ : Type} (e : zRes → Option ρ) {krA : Int → zH → Option ρ} {krZ : Int → zH → Option zRes} (hk : ∀ v h, (krZ v h).bind e = krA v h) (a1 a2 a3 a4 a5 : Int) (h : zH) : (M_code_95 krZ a1 a2 a3 a4 a5 h).bind e = M_code_95 krA a1 a2 a3 a4 a5 h := by
  refine Eq.trans (congrArg (fun z => Option.bind z e) (qe_M_code_95 krZ a1 a2 a3 a4 a5 h)) (Eq.trans ?_ (Eq.symm (qe_M_code_95 krA a1 a2 a3 a4 a5 h)))
  generalize (400 : Nat) = f9
  refine zseg_e e (zcal_e _ _ ?_) (zorc_e _ _ ?_) hk (fun _ _ => rfl) f9 _ _ _ _
  · exact trivial
  · exact ⟨rfl, rfl, rfl, zap6_e (fun x0 x1 x2 x3 x4 x5 h => n_M_code_100 e hk x0 x1 x2 x3 x4 x5 h), trivial⟩
set_option maxRecDepth 100000 in
set_option maxHeartbeats 0 in
theorem n_M_code_99 {ρ : Type} (e : zRes → Option ρ) {krA : Int → zH → Option ρ} {krZ : Int → zH → Option zRes} (hk : ∀ v h, (krZ v h).bind e = krA v h) (a1 a2 a3 a4 a5 : Int) (h : zH) : (M_code_99 krZ a1 a2 a3 a4 a5 h).bind e = M_code_99 krA a1 a2 a3 a4 a5 h := by
  refine Eq.trans (congrArg (fun z => Option.bind z e) (qe_M_code_99 krZ a1 a2 a3 a4 a5 h)) (Eq.trans ?_ (Eq.symm (qe_M_code_99 krA a1 a2 a3 a4 a5 h)))
  generalize (400 : Nat) = f9
  refine zseg_e e (zcal_e _ _ ?_) (zorc_e _ _ ?_) hk (fun _ _ => rfl) f9 _ _ _ _
  · exact trivial
  · exact ⟨rfl, rfl, rfl, zap6_e (fun x0 x1 x2 x3 x4 x5 h => n_M_code_100 e hk x0 x1 x2 x3 x4 x5 h), trivial⟩
set_option maxRecDepth 100000 in
set_option maxHeartbeats 0 in
theorem n_M_code_77 {ρ : Type} (e : zRes → Option ρ) {krA : Int → zH → Option ρ} {krZ : Int → zH → Option zRes} (hk : ∀ v h, (krZ v h).bind e = krA v h) (a1 a2 a3 a4 a5 a6 a7 : Int) (h : zH) : (M_code_77 krZ a1 a2 a3 a4 a5 a6 a7 h).bind e = M_code_77 krA a1 a2 a3 a4 a5 a6 a7 h := by
  refine Eq.trans (congrArg (fun z => Option.bind z e) (qe_M_code_77 krZ a1 a2 a3 a4 a5 a6 a7 h)) (Eq.trans ?_ (Eq.symm (qe_M_code_77 krA a1 a2 a3 a4 a5 a6 a7 h)))
  generalize (400 : Nat) = f9
  refine zseg_e e (zcal_e _ _ ?_) (zorc_e _ _ ?_) hk (fun _ _ => rfl) f9 _ _ _ _
  · exact ⟨rfl, rfl, zca3_e (fun x0 x1 x2 h k t => n_M_in e (fun _ _ => rfl) x0 x1 x2 h), trivial⟩
  · exact ⟨rfl, rfl, rfl, zap5_e (fun x0 x1 x2 x3 x4 h => n_M_code_95 e hk x0 x1 x2 x3 x4 h), ⟨rfl, rfl, rfl, zap5_e (fun x0 x1 x2 x3 x4 h => n_M_code_99 e hk x0 x1 x2 x3 x4 h), trivial⟩⟩
set_option maxRecDepth 100000 in
set_option maxHeartbeats 0 in
theorem n_M_code_59 {ρ : Type} (e : zRes → Option ρ) {krA : Int → zH → Option ρ} {krZ : Int → zH → Option zRes} (hk : ∀ v h, (krZ v h).bind e = krA v h) (a1 a2 a3 a4 a5 a6 a7 : Int) (h : zH) : (M_code_59 krZ a1 a2 a3 a4 a5 a6 a7 h).bind e = M_code_59 krA a1 a2 a3 a4 a5 a6 a7 h := by
  refine Eq.trans (congrArg (fun z => Option.bind z e) (qe_M_code_59 krZ a1 a2 a3 a4 a5 a6 a7 h)) (Eq.trans ?_ (Eq.symm (qe_M_code_59 krA a1 a2 a3 a4 a5 a6 a7 h)))
  generalize (400 : Nat) = f9
  refine zseg_e e (zcal_e _ _ ?_) (zorc_e _ _ ?_) hk (fun _ _ => rfl) f9 _ _ _ _
  · exact ⟨rfl, rfl, zca3_e (fun x0 x1 x2 h k t => n_M_in e (fun _ _ => rfl) x0 x1 x2 h), trivial⟩
  · exact ⟨rfl, rfl, rfl, zap7_e (fun x0 x1 x2 x3 x4 x5 x6 h => n_M_code_77 e hk x0 x1 x2 x3 x4 x5 x6 h), ⟨rfl, rfl, rfl, zap5_e (fun x0 x1 x2 x3 x4 h => n_M_code_95 e hk x0 x1 x2 x3 x4 h), trivial⟩⟩
set_option maxRecDepth 100000 in
set_option maxHeartbeats 0 in
theorem n_M_code {ρ : Type} (e : zRes → Option ρ) {krA : Int → zH → Option ρ} {krZ : Int → zH → Option zRes} (hk : ∀ v h, (krZ v h).bind e = krA v h) (a1 a2 a3 a4 a5 : Int) (h : zH) : (M_code a1 a2 a3 a4 a5 h krZ).bind e = M_code a1 a2 a3 a4 a5 h krA := by
  refine Eq.trans (congrArg (fun z => Option.bind z e) (qe_M_code krZ a1 a2 a3 a4 a5 h)) (Eq.trans ?_ (Eq.symm (qe_M_code krA a1 a2 a3 a4 a5 h)))
  generalize (400 : Nat) = f9
  refine zseg_e e (zcal_e _ _ ?_) (zorc_e _ _ ?_) hk (fun _ _ => rfl) f9 _ _ _ _
  · exact ⟨rfl, rfl, zca3_e (fun x0 x1 x2 h k t => n_M_in e (fun _ _ => rfl) x0 x1 x2 h), ⟨rfl, rfl, zca2_e (fun x0 x1 h k t => n_M_fails e (fun _ _ => rfl) x0 x1 h), ⟨rfl, rfl, zca1_e (fun x0 h k t => n_M_noKernel e (fun _ _ => rfl) x0 h), ⟨rfl, rfl, zca1_e (fun x0 h k t => n_M_named e (fun _ _ => rfl) x0 h), trivial⟩⟩⟩⟩
  · exact ⟨rfl, rfl, rfl, zap7_e (fun x0 x1 x2 x3 x4 x5 x6 h => n_M_code_59 e hk x0 x1 x2 x3 x4 x5 x6 h), ⟨rfl, rfl, rfl, zap5_e (fun x0 x1 x2 x3 x4 h => n_M_code_95 e hk x0 x1 x2 x3 x4 h), trivial⟩⟩
set_option maxRecDepth 100000 in
set_option maxHeartbeats 0 in
theorem n_M_groupsFor {ρ : Type} (e : zRes → Option ρ) {krA : Int → zH → Option ρ} {krZ : Int → zH → Option zRes} (hk : ∀ v h, (krZ v h).bind e = krA v h) (a0 : Int) (h : zH) : (M_groupsFor a0 h krZ).bind e = M_groupsFor a0 h krA := by
  refine Eq.trans (congrArg (fun z => Option.bind z e) (qe_M_groupsFor krZ a0 h)) (Eq.trans ?_ (Eq.symm (qe_M_groupsFor krA a0 h)))
  generalize (400 : Nat) = f9
  refine zseg_e e (zcal_e _ _ ?_) (zorc_e _ _ ?_) hk (fun _ _ => rfl) f9 _ _ _ _
  · exact trivial
  · exact trivial
set_option maxRecDepth 100000 in
set_option maxHeartbeats 0 in
theorem n_M_least_10 {ρ : Type} (e : zRes → Option ρ) {krA : Int → zH → Option ρ} {krZ : Int → zH → Option zRes} (hk : ∀ v h, (krZ v h).bind e = krA v h) (t0 : Int) (h : zH) : (M_least_10 krZ t0 h).bind e = M_least_10 krA t0 h := by
  refine Eq.trans (congrArg (fun z => Option.bind z e) (qe_M_least_10 krZ t0 h)) (Eq.trans ?_ (Eq.symm (qe_M_least_10 krA t0 h)))
  generalize (400 : Nat) = f9
  refine zseg_e e (zcal_e _ _ ?_) (zorc_e _ _ ?_) hk (fun _ _ => rfl) f9 _ _ _ _
  · exact trivial
  · exact trivial
set_option maxRecDepth 100000 in
set_option maxHeartbeats 0 in
theorem n_M_least {ρ : Type} (e : zRes → Option ρ) {krA : Int → zH → Option ρ} {krZ : Int → zH → Option zRes} (hk : ∀ v h, (krZ v h).bind e = krA v h) (a0 a1 : Int) (h : zH) : (M_least a0 a1 h krZ).bind e = M_least a0 a1 h krA := by
  refine Eq.trans (congrArg (fun z => Option.bind z e) (qe_M_least krZ a0 a1 h)) (Eq.trans ?_ (Eq.symm (qe_M_least krA a0 a1 h)))
  generalize (400 : Nat) = f9
  refine zseg_e e (zcal_e _ _ ?_) (zorc_e _ _ ?_) hk (fun _ _ => rfl) f9 _ _ _ _
  · exact trivial
  · exact ⟨rfl, rfl, rfl, zap1_e (fun x0 h => n_M_least_10 e hk x0 h), trivial⟩
set_option maxRecDepth 100000 in
set_option maxHeartbeats 0 in
theorem n_M_fit_47 {ρ : Type} (e : zRes → Option ρ) {krA : Int → zH → Option ρ} {krZ : Int → zH → Option zRes} (hk : ∀ v h, (krZ v h).bind e = krA v h) (t0 : Int) (h : zH) : (M_fit_47 krZ t0 h).bind e = M_fit_47 krA t0 h := by
  refine Eq.trans (congrArg (fun z => Option.bind z e) (qe_M_fit_47 krZ t0 h)) (Eq.trans ?_ (Eq.symm (qe_M_fit_47 krA t0 h)))
  generalize (400 : Nat) = f9
  refine zseg_e e (zcal_e _ _ ?_) (zorc_e _ _ ?_) hk (fun _ _ => rfl) f9 _ _ _ _
  · exact trivial
  · exact trivial
set_option maxRecDepth 100000 in
set_option maxHeartbeats 0 in
theorem n_M_fit {ρ : Type} (e : zRes → Option ρ) {krA : Int → zH → Option ρ} {krZ : Int → zH → Option zRes} (hk : ∀ v h, (krZ v h).bind e = krA v h) (a1 a2 : Int) (h : zH) : (M_fit a1 a2 h krZ).bind e = M_fit a1 a2 h krA := by
  refine Eq.trans (congrArg (fun z => Option.bind z e) (qe_M_fit krZ a1 a2 h)) (Eq.trans ?_ (Eq.symm (qe_M_fit krA a1 a2 h)))
  generalize (400 : Nat) = f9
  refine zseg_e e (zcal_e _ _ ?_) (zorc_e _ _ ?_) hk (fun _ _ => rfl) f9 _ _ _ _
  · exact ⟨rfl, rfl, zca1_e (fun x0 h k t => n_M_groupsFor e (fun _ _ => rfl) x0 h), ⟨rfl, rfl, zca2_e (fun x0 x1 h k t => n_M_least e (fun _ _ => rfl) x0 x1 h), trivial⟩⟩
  · exact ⟨rfl, rfl, rfl, zap1_e (fun x0 h => n_M_fit_47 e hk x0 h), trivial⟩
set_option maxRecDepth 100000 in
set_option maxHeartbeats 0 in
theorem n_M_fits_51 {ρ : Type} (e : zRes → Option ρ) {krA : Int → zH → Option ρ} {krZ : Int → zH → Option zRes} (hk : ∀ v h, (krZ v h).bind e = krA v h) (t0 : Int) (h : zH) : (M_fits_51 krZ t0 h).bind e = M_fits_51 krA t0 h := by
  refine Eq.trans (congrArg (fun z => Option.bind z e) (qe_M_fits_51 krZ t0 h)) (Eq.trans ?_ (Eq.symm (qe_M_fits_51 krA t0 h)))
  generalize (400 : Nat) = f9
  refine zseg_e e (zcal_e _ _ ?_) (zorc_e _ _ ?_) hk (fun _ _ => rfl) f9 _ _ _ _
  · exact trivial
  · exact trivial
set_option maxRecDepth 100000 in
set_option maxHeartbeats 0 in
theorem n_M_fits_41 {ρ : Type} (e : zRes → Option ρ) {krA : Int → zH → Option ρ} {krZ : Int → zH → Option zRes} (hk : ∀ v h, (krZ v h).bind e = krA v h) (h : zH) : (M_fits_41 krZ h).bind e = M_fits_41 krA h := by
  refine Eq.trans (congrArg (fun z => Option.bind z e) (qe_M_fits_41 krZ h)) (Eq.trans ?_ (Eq.symm (qe_M_fits_41 krA h)))
  generalize (400 : Nat) = f9
  refine zseg_e e (zcal_e _ _ ?_) (zorc_e _ _ ?_) hk (fun _ _ => rfl) f9 _ _ _ _
  · exact trivial
  · exact ⟨rfl, rfl, rfl, zap1_e (fun x0 h => n_M_fits_51 e hk x0 h), trivial⟩
set_option maxRecDepth 100000 in
set_option maxHeartbeats 0 in
theorem n_M_fits_34 {ρ : Type} (e : zRes → Option ρ) {krA : Int → zH → Option ρ} {krZ : Int → zH → Option zRes} (hk : ∀ v h, (krZ v h).bind e = krA v h) (a1 a2 t0 : Int) (h : zH) : (M_fits_34 krZ a1 a2 t0 h).bind e = M_fits_34 krA a1 a2 t0 h := by
  refine Eq.trans (congrArg (fun z => Option.bind z e) (qe_M_fits_34 krZ a1 a2 t0 h)) (Eq.trans ?_ (Eq.symm (qe_M_fits_34 krA a1 a2 t0 h)))
  generalize (400 : Nat) = f9
  refine zseg_e e (zcal_e _ _ ?_) (zorc_e _ _ ?_) hk (fun _ _ => rfl) f9 _ _ _ _
  · exact ⟨rfl, rfl, zca2_e (fun x0 x1 h k t => n_M_fails e (fun _ _ => rfl) x0 x1 h), ⟨rfl, rfl, zca2_e (fun x0 x1 h k t => n_M_fit e (fun _ _ => rfl) x0 x1 h), trivial⟩⟩
  · exact ⟨rfl, rfl, rfl, zap0_e (fun  h => n_M_fits_41 e hk  h), ⟨rfl, rfl, rfl, zap1_e (fun x0 h => n_M_fits_51 e hk x0 h), trivial⟩⟩
set_option maxRecDepth 100000 in
set_option maxHeartbeats 0 in
theorem n_M_fits {ρ : Type} (e : zRes → Option ρ) {krA : Int → zH → Option ρ} {krZ : Int → zH → Option zRes} (hk : ∀ v h, (krZ v h).bind e = krA v h) (a1 a2 : Int) (h : zH) : (M_fits a1 a2 h krZ).bind e = M_fits a1 a2 h krA := by
  refine Eq.trans (congrArg (fun z => Option.bind z e) (qe_M_fits krZ a1 a2 h)) (Eq.trans ?_ (Eq.symm (qe_M_fits krA a1 a2 h)))
  generalize (400 : Nat) = f9
  refine zseg_e e (zcal_e _ _ ?_) (zorc_e _ _ ?_) hk (fun _ _ => rfl) f9 _ _ _ _
  · exact ⟨rfl, rfl, zca3_e (fun x0 x1 x2 h k t => n_M_in e (fun _ _ => rfl) x0 x1 x2 h), ⟨rfl, rfl, zca2_e (fun x0 x1 h k t => n_M_fails e (fun _ _ => rfl) x0 x1 h), ⟨rfl, rfl, zca1_e (fun x0 h k t => n_M_noKernel e (fun _ _ => rfl) x0 h), trivial⟩⟩⟩
  · exact ⟨rfl, rfl, rfl, zap3_e (fun x0 x1 x2 h => n_M_fits_34 e hk x0 x1 x2 h), ⟨rfl, rfl, rfl, zap0_e (fun  h => n_M_fits_41 e hk  h), trivial⟩⟩
set_option maxRecDepth 100000 in
set_option maxHeartbeats 0 in
theorem n_M_poke {ρ : Type} (e : zRes → Option ρ) {krA : Int → zH → Option ρ} {krZ : Int → zH → Option zRes} (hk : ∀ v h, (krZ v h).bind e = krA v h) (a1 a2 : Int) (h : zH) : (M_poke a1 a2 h krZ).bind e = M_poke a1 a2 h krA := by
  refine Eq.trans (congrArg (fun z => Option.bind z e) (qe_M_poke krZ a1 a2 h)) (Eq.trans ?_ (Eq.symm (qe_M_poke krA a1 a2 h)))
  generalize (400 : Nat) = f9
  refine zseg_e e (zcal_e _ _ ?_) (zorc_e _ _ ?_) hk (fun _ _ => rfl) f9 _ _ _ _
  · exact ⟨rfl, rfl, zca2_e (fun x0 x1 h k t => n_M_fails e (fun _ _ => rfl) x0 x1 h), ⟨rfl, rfl, zca1_e (fun x0 h k t => n_M_noCell e (fun _ _ => rfl) x0 h), trivial⟩⟩
  · exact trivial
set_option maxRecDepth 100000 in
set_option maxHeartbeats 0 in
theorem n_M_peek_27 {ρ : Type} (e : zRes → Option ρ) {krA : Int → zH → Option ρ} {krZ : Int → zH → Option zRes} (hk : ∀ v h, (krZ v h).bind e = krA v h) (t0 : Int) (h : zH) : (M_peek_27 krZ t0 h).bind e = M_peek_27 krA t0 h := by
  refine Eq.trans (congrArg (fun z => Option.bind z e) (qe_M_peek_27 krZ t0 h)) (Eq.trans ?_ (Eq.symm (qe_M_peek_27 krA t0 h)))
  generalize (400 : Nat) = f9
  refine zseg_e e (zcal_e _ _ ?_) (zorc_e _ _ ?_) hk (fun _ _ => rfl) f9 _ _ _ _
  · exact trivial
  · exact trivial
set_option maxRecDepth 100000 in
set_option maxHeartbeats 0 in
theorem n_M_peek {ρ : Type} (e : zRes → Option ρ) {krA : Int → zH → Option ρ} {krZ : Int → zH → Option zRes} (hk : ∀ v h, (krZ v h).bind e = krA v h) (a1 : Int) (h : zH) : (M_peek a1 h krZ).bind e = M_peek a1 h krA := by
  refine Eq.trans (congrArg (fun z => Option.bind z e) (qe_M_peek krZ a1 h)) (Eq.trans ?_ (Eq.symm (qe_M_peek krA a1 h)))
  generalize (400 : Nat) = f9
  refine zseg_e e (zcal_e _ _ ?_) (zorc_e _ _ ?_) hk (fun _ _ => rfl) f9 _ _ _ _
  · exact ⟨rfl, rfl, zca2_e (fun x0 x1 h k t => n_M_fails e (fun _ _ => rfl) x0 x1 h), ⟨rfl, rfl, zca1_e (fun x0 h k t => n_M_noCell e (fun _ _ => rfl) x0 h), trivial⟩⟩
  · exact ⟨rfl, rfl, rfl, zap1_e (fun x0 h => n_M_peek_27 e hk x0 h), trivial⟩
set_option maxRecDepth 100000 in
set_option maxHeartbeats 0 in
theorem n_M_isOver_38 {ρ : Type} (e : zRes → Option ρ) {krA : Int → zH → Option ρ} {krZ : Int → zH → Option zRes} (hk : ∀ v h, (krZ v h).bind e = krA v h) (t0 : Int) (h : zH) : (M_isOver_38 krZ t0 h).bind e = M_isOver_38 krA t0 h := by
  refine Eq.trans (congrArg (fun z => Option.bind z e) (qe_M_isOver_38 krZ t0 h)) (Eq.trans ?_ (Eq.symm (qe_M_isOver_38 krA t0 h)))
  generalize (400 : Nat) = f9
  refine zseg_e e (zcal_e _ _ ?_) (zorc_e _ _ ?_) hk (fun _ _ => rfl) f9 _ _ _ _
  · exact trivial
  · exact trivial
set_option maxRecDepth 100000 in
set_option maxHeartbeats 0 in
theorem n_M_isOver_33 {ρ : Type} (e : zRes → Option ρ) {krA : Int → zH → Option ρ} {krZ : Int → zH → Option zRes} (hk : ∀ v h, (krZ v h).bind e = krA v h) (h : zH) : (M_isOver_33 krZ h).bind e = M_isOver_33 krA h := by
  refine Eq.trans (congrArg (fun z => Option.bind z e) (qe_M_isOver_33 krZ h)) (Eq.trans ?_ (Eq.symm (qe_M_isOver_33 krA h)))
  generalize (400 : Nat) = f9
  refine zseg_e e (zcal_e _ _ ?_) (zorc_e _ _ ?_) hk (fun _ _ => rfl) f9 _ _ _ _
  · exact trivial
  · exact ⟨rfl, rfl, rfl, zap1_e (fun x0 h => n_M_isOver_38 e hk x0 h), trivial⟩
set_option maxRecDepth 100000 in
set_option maxHeartbeats 0 in
theorem n_M_isOver {ρ : Type} (e : zRes → Option ρ) {krA : Int → zH → Option ρ} {krZ : Int → zH → Option zRes} (hk : ∀ v h, (krZ v h).bind e = krA v h) (a1 : Int) (h : zH) : (M_isOver a1 h krZ).bind e = M_isOver a1 h krA := by
  refine Eq.trans (congrArg (fun z => Option.bind z e) (qe_M_isOver krZ a1 h)) (Eq.trans ?_ (Eq.symm (qe_M_isOver krA a1 h)))
  generalize (400 : Nat) = f9
  refine zseg_e e (zcal_e _ _ ?_) (zorc_e _ _ ?_) hk (fun _ _ => rfl) f9 _ _ _ _
  · exact trivial
  · exact ⟨rfl, rfl, rfl, zap0_e (fun  h => n_M_isOver_33 e hk  h), ⟨rfl, rfl, rfl, zap1_e (fun x0 h => n_M_isOver_38 e hk x0 h), trivial⟩⟩
set_option maxRecDepth 100000 in
set_option maxHeartbeats 0 in
theorem n_M_add_99 {ρ : Type} (e : zRes → Option ρ) {krA : Int → zH → Option ρ} {krZ : Int → zH → Option zRes} (hk : ∀ v h, (krZ v h).bind e = krA v h) {r58A : Int → Int → Int → zH → Option ρ} {r58Z : Int → Int → Int → zH → Option zRes} (h58 : ∀ (x0 x1 x2 : Int) (h : zH), (r58Z x0 x1 x2 h).bind e = r58A x0 x1 x2 h) (a1 a4 a5 t0 t1 : Int) (h : zH) : (M_add_99 krZ r58Z a1 a4 a5 t0 t1 h).bind e = M_add_99 krA r58A a1 a4 a5 t0 t1 h := by
  refine Eq.trans (congrArg (fun z => Option.bind z e) (qe_M_add_99 krZ r58Z a1 a4 a5 t0 t1 h)) (Eq.trans ?_ (Eq.symm (qe_M_add_99 krA r58A a1 a4 a5 t0 t1 h)))
  generalize (400 : Nat) = f9
  refine zseg_e e (zcal_e _ _ ?_) (zorc_e _ _ ?_) hk (fun _ _ => rfl) f9 _ _ _ _
  · exact trivial
  · exact ⟨rfl, rfl, rfl, zap3_e h58, trivial⟩
set_option maxRecDepth 100000 in
set_option maxHeartbeats 0 in
theorem n_M_add_92 {ρ : Type} (e : zRes → Option ρ) {krA : Int → zH → Option ρ} {krZ : Int → zH → Option zRes} (hk : ∀ v h, (krZ v h).bind e = krA v h) {r58A : Int → Int → Int → zH → Option ρ} {r58Z : Int → Int → Int → zH → Option zRes} (h58 : ∀ (x0 x1 x2 : Int) (h : zH), (r58Z x0 x1 x2 h).bind e = r58A x0 x1 x2 h) (a1 a4 a5 t0 : Int) (h : zH) : (M_add_92 krZ r58Z a1 a4 a5 t0 h).bind e = M_add_92 krA r58A a1 a4 a5 t0 h := by
  refine Eq.trans (congrArg (fun z => Option.bind z e) (qe_M_add_92 krZ r58Z a1 a4 a5 t0 h)) (Eq.trans ?_ (Eq.symm (qe_M_add_92 krA r58A a1 a4 a5 t0 h)))
  generalize (400 : Nat) = f9
  refine zseg_e e (zcal_e _ _ ?_) (zorc_e _ _ ?_) hk (fun _ _ => rfl) f9 _ _ _ _
  · exact trivial
  · exact ⟨rfl, rfl, rfl, zap5_e (fun x0 x1 x2 x3 x4 h => n_M_add_99 e hk h58 x0 x1 x2 x3 x4 h), trivial⟩
set_option maxRecDepth 100000 in
set_option maxHeartbeats 0 in
theorem n_M_add_148 {ρ : Type} (e : zRes → Option ρ) {krA : Int → zH → Option ρ} {krZ : Int → zH → Option zRes} (hk : ∀ v h, (krZ v h).bind e = krA v h) (a4 t0 t1 : Int) (h : zH) : (M_add_148 krZ a4 t0 t1 h).bind e = M_add_148 krA a4 t0 t1 h := by
  refine Eq.trans (congrArg (fun z => Option.bind z e) (qe_M_add_148 krZ a4 t0 t1 h)) (Eq.trans ?_ (Eq.symm (qe_M_add_148 krA a4 t0 t1 h)))
  generalize (400 : Nat) = f9
  refine zseg_e e (zcal_e _ _ ?_) (zorc_e _ _ ?_) hk (fun _ _ => rfl) f9 _ _ _ _
  · exact trivial
  · exact trivial
set_option maxRecDepth 100000 in
set_option maxHeartbeats 0 in
theorem n_M_add_141 {ρ : Type} (e : zRes → Option ρ) {krA : Int → zH → Option ρ} {krZ : Int → zH → Option zRes} (hk : ∀ v h, (krZ v h).bind e = krA v h) (a4 t0 : Int) (h : zH) : (M_add_141 krZ a4 t0 h).bind e = M_add_141 krA a4 t0 h := by
  refine Eq.trans (congrArg (fun z => Option.bind z e) (qe_M_add_141 krZ a4 t0 h)) (Eq.trans ?_ (Eq.symm (qe_M_add_141 krA a4 t0 h)))
  generalize (400 : Nat) = f9
  refine zseg_e e (zcal_e _ _ ?_) (zorc_e _ _ ?_) hk (fun _ _ => rfl) f9 _ _ _ _
  · exact trivial
  · exact ⟨rfl, rfl, rfl, zap3_e (fun x0 x1 x2 h => n_M_add_148 e hk x0 x1 x2 h), trivial⟩
set_option maxRecDepth 100000 in
set_option maxHeartbeats 0 in
theorem n_M_add_58b {ρ : Type} (e : zRes → Option ρ) {krA : Int → zH → Option ρ} {krZ : Int → zH → Option zRes} (hk : ∀ v h, (krZ v h).bind e = krA v h) {r58A : Int → Int → Int → zH → Option ρ} {r58Z : Int → Int → Int → zH → Option zRes} (h58 : ∀ (x0 x1 x2 : Int) (h : zH), (r58Z x0 x1 x2 h).bind e = r58A x0 x1 x2 h) (a1 a4 a5 : Int) (h : zH) : (M_add_58b krZ r58Z a1 a4 a5 h).bind e = M_add_58b krA r58A a1 a4 a5 h := by
  refine Eq.trans (congrArg (fun z => Option.bind z e) (qe_M_add_58b krZ r58Z a1 a4 a5 h)) (Eq.trans ?_ (Eq.symm (qe_M_add_58b krA r58A a1 a4 a5 h)))
  generalize (400 : Nat) = f9
  refine zseg_e e (zcal_e _ _ ?_) (zorc_e _ _ ?_) hk (fun _ _ => rfl) f9 _ _ _ _
  · exact ⟨rfl, rfl, zca1_e (fun x0 h k t => n_M_isOver e (fun _ _ => rfl) x0 h), trivial⟩
  · exact ⟨rfl, rfl, rfl, zap4_e (fun x0 x1 x2 x3 h => n_M_add_92 e hk h58 x0 x1 x2 x3 h), ⟨rfl, rfl, rfl, zap5_e (fun x0 x1 x2 x3 x4 h => n_M_add_99 e hk h58 x0 x1 x2 x3 x4 h), ⟨rfl, rfl, rfl, zap2_e (fun x0 x1 h => n_M_add_141 e hk x0 x1 h), ⟨rfl, rfl, rfl, zap3_e (fun x0 x1 x2 h => n_M_add_148 e hk x0 x1 x2 h), trivial⟩⟩⟩⟩
theorem n_M_add_58 {ρ : Type} (e : zRes → Option ρ) {krA : Int → zH → Option ρ} {krZ : Int → zH → Option zRes} (hk : ∀ v h, (krZ v h).bind e = krA v h) (a1 a4 a5 : Int) (h : zH) : (M_add_58 krZ a1 a4 a5 h).bind e = M_add_58 krA a1 a4 a5 h := zit3_e (fun rA rZ hh a1 a4 a5 h => n_M_add_58b e hk hh a1 a4 a5 h) zN a1 a4 a5 h
set_option maxRecDepth 100000 in
set_option maxHeartbeats 0 in
theorem n_M_add {ρ : Type} (e : zRes → Option ρ) {krA : Int → zH → Option ρ} {krZ : Int → zH → Option zRes} (hk : ∀ v h, (krZ v h).bind e = krA v h) (a1 a2 a3 : Int) (h : zH) : (M_add a1 a2 a3 h krZ).bind e = M_add a1 a2 a3 h krA := by
  refine Eq.trans (congrArg (fun z => Option.bind z e) (qe_M_add krZ a1 a2 a3 h)) (Eq.trans ?_ (Eq.symm (qe_M_add krA a1 a2 a3 h)))
  generalize (400 : Nat) = f9
  refine zseg_e e (zcal_e _ _ ?_) (zorc_e _ _ ?_) hk (fun _ _ => rfl) f9 _ _ _ _
  · exact trivial
  · exact ⟨rfl, rfl, rfl, zap3_e (fun x0 x1 x2 h => n_M_add_58 e hk x0 x1 x2 h), trivial⟩
set_option maxRecDepth 100000 in
set_option maxHeartbeats 0 in
theorem n_M_launch_133 {ρ : Type} (e : zRes → Option ρ) {krA : Int → zH → Option ρ} {krZ : Int → zH → Option zRes} (hk : ∀ v h, (krZ v h).bind e = krA v h) (h : zH) : (M_launch_133 krZ h).bind e = M_launch_133 krA h := by
  refine Eq.trans (congrArg (fun z => Option.bind z e) (qe_M_launch_133 krZ h)) (Eq.trans ?_ (Eq.symm (qe_M_launch_133 krA h)))
  generalize (400 : Nat) = f9
  refine zseg_e e (zcal_e _ _ ?_) (zorc_e _ _ ?_) hk (fun _ _ => rfl) f9 _ _ _ _
  · exact trivial
  · exact trivial
set_option maxRecDepth 100000 in
set_option maxHeartbeats 0 in
theorem n_M_launch_126 {ρ : Type} (e : zRes → Option ρ) {krA : Int → zH → Option ρ} {krZ : Int → zH → Option zRes} (hk : ∀ v h, (krZ v h).bind e = krA v h) (a1 a2 a3 a4 a5 t0 : Int) (h : zH) : (M_launch_126 krZ a1 a2 a3 a4 a5 t0 h).bind e = M_launch_126 krA a1 a2 a3 a4 a5 t0 h := by
  refine Eq.trans (congrArg (fun z => Option.bind z e) (qe_M_launch_126 krZ a1 a2 a3 a4 a5 t0 h)) (Eq.trans ?_ (Eq.symm (qe_M_launch_126 krA a1 a2 a3 a4 a5 t0 h)))
  generalize (400 : Nat) = f9
  refine zseg_e e (zcal_e _ _ ?_) (zorc_e _ _ ?_) hk (fun _ _ => rfl) f9 _ _ _ _
  · exact ⟨rfl, rfl, zca2_e (fun x0 x1 h k t => n_M_fails e (fun _ _ => rfl) x0 x1 h), ⟨rfl, rfl, zca3_e (fun x0 x1 x2 h k t => n_M_add e (fun _ _ => rfl) x0 x1 x2 h), trivial⟩⟩
  · exact ⟨rfl, rfl, rfl, zap0_e (fun  h => n_M_launch_133 e hk  h), trivial⟩
set_option maxRecDepth 100000 in
set_option maxHeartbeats 0 in
theorem n_M_launch_104 {ρ : Type} (e : zRes → Option ρ) {krA : Int → zH → Option ρ} {krZ : Int → zH → Option zRes} (hk : ∀ v h, (krZ v h).bind e = krA v h) (a1 a2 a3 a4 a5 t0 : Int) (h : zH) : (M_launch_104 krZ a1 a2 a3 a4 a5 t0 h).bind e = M_launch_104 krA a1 a2 a3 a4 a5 t0 h := by
  refine Eq.trans (congrArg (fun z => Option.bind z e) (qe_M_launch_104 krZ a1 a2 a3 a4 a5 t0 h)) (Eq.trans ?_ (Eq.symm (qe_M_launch_104 krA a1 a2 a3 a4 a5 t0 h)))
  generalize (400 : Nat) = f9
  refine zseg_e e (zcal_e _ _ ?_) (zorc_e _ _ ?_) hk (fun _ _ => rfl) f9 _ _ _ _
  · exact ⟨rfl, rfl, zca2_e (fun x0 x1 h k t => n_M_fails e (fun _ _ => rfl) x0 x1 h), trivial⟩
  · exact ⟨rfl, rfl, rfl, zap6_e (fun x0 x1 x2 x3 x4 x5 h => n_M_launch_126 e hk x0 x1 x2 x3 x4 x5 h), ⟨rfl, rfl, rfl, zap0_e (fun  h => n_M_launch_133 e hk  h), trivial⟩⟩
set_option maxRecDepth 100000 in
set_option maxHeartbeats 0 in
theorem n_M_launch_81 {ρ : Type} (e : zRes → Option ρ) {krA : Int → zH → Option ρ} {krZ : Int → zH → Option zRes} (hk : ∀ v h, (krZ v h).bind e = krA v h) (a1 a2 a3 a4 a5 t0 : Int) (h : zH) : (M_launch_81 krZ a1 a2 a3 a4 a5 t0 h).bind e = M_launch_81 krA a1 a2 a3 a4 a5 t0 h := by
  refine Eq.trans (congrArg (fun z => Option.bind z e) (qe_M_launch_81 krZ a1 a2 a3 a4 a5 t0 h)) (Eq.trans ?_ (Eq.symm (qe_M_launch_81 krA a1 a2 a3 a4 a5 t0 h)))
  generalize (400 : Nat) = f9
  refine zseg_e e (zcal_e _ _ ?_) (zorc_e _ _ ?_) hk (fun _ _ => rfl) f9 _ _ _ _
  · exact ⟨rfl, rfl, zca2_e (fun x0 x1 h k t => n_M_fails e (fun _ _ => rfl) x0 x1 h), ⟨rfl, rfl, zca2_e (fun x0 x1 h k t => n_M_fit e (fun _ _ => rfl) x0 x1 h), trivial⟩⟩
  · exact ⟨rfl, rfl, rfl, zap6_e (fun x0 x1 x2 x3 x4 x5 h => n_M_launch_104 e hk x0 x1 x2 x3 x4 x5 h), ⟨rfl, rfl, rfl, zap0_e (fun  h => n_M_launch_133 e hk  h), trivial⟩⟩
set_option maxRecDepth 100000 in
set_option maxHeartbeats 0 in
theorem n_M_launch_76 {ρ : Type} (e : zRes → Option ρ) {krA : Int → zH → Option ρ} {krZ : Int → zH → Option zRes} (hk : ∀ v h, (krZ v h).bind e = krA v h) (a1 a2 a3 a4 a5 : Int) (h : zH) : (M_launch_76 krZ a1 a2 a3 a4 a5 h).bind e = M_launch_76 krA a1 a2 a3 a4 a5 h := by
  refine Eq.trans (congrArg (fun z => Option.bind z e) (qe_M_launch_76 krZ a1 a2 a3 a4 a5 h)) (Eq.trans ?_ (Eq.symm (qe_M_launch_76 krA a1 a2 a3 a4 a5 h)))
  generalize (400 : Nat) = f9
  refine zseg_e e (zcal_e _ _ ?_) (zorc_e _ _ ?_) hk (fun _ _ => rfl) f9 _ _ _ _
  · exact trivial
  · exact ⟨rfl, rfl, rfl, zap6_e (fun x0 x1 x2 x3 x4 x5 h => n_M_launch_81 e hk x0 x1 x2 x3 x4 x5 h), trivial⟩
set_option maxRecDepth 100000 in
set_option maxHeartbeats 0 in
theorem n_M_launch_42 {ρ : Type} (e : zRes → Option ρ) {krA : Int → zH → Option ρ} {krZ : Int → zH → Option zRes} (hk : ∀ v h, (krZ v h).bind e = krA v h) (a1 a2 a3 a4 a5 t0 : Int) (h : zH) : (M_launch_42 krZ a1 a2 a3 a4 a5 t0 h).bind e = M_launch_42 krA a1 a2 a3 a4 a5 t0 h := by
  refine Eq.trans (congrArg (fun z => Option.bind z e) (qe_M_launch_42 krZ a1 a2 a3 a4 a5 t0 h)) (Eq.trans ?_ (Eq.symm (qe_M_launch_42 krA a1 a2 a3 a4 a5 t0 h)))
  generalize (400 : Nat) = f9
  refine zseg_e e (zcal_e _ _ ?_) (zorc_e _ _ ?_) hk (fun _ _ => rfl) f9 _ _ _ _
  · exact ⟨rfl, rfl, zca3_e (fun x0 x1 x2 h k t => n_M_in e (fun _ _ => rfl) x0 x1 x2 h), ⟨rfl, rfl, zca2_e (fun x0 x1 h k t => n_M_fails e (fun _ _ => rfl) x0 x1 h), trivial⟩⟩
  · exact ⟨rfl, rfl, rfl, zap5_e (fun x0 x1 x2 x3 x4 h => n_M_launch_76 e hk x0 x1 x2 x3 x4 h), ⟨rfl, rfl, rfl, zap6_e (fun x0 x1 x2 x3 x4 x5 h => n_M_launch_81 e hk x0 x1 x2 x3 x4 x5 h), ⟨rfl, rfl, rfl, zap0_e (fun  h => n_M_launch_133 e hk  h), trivial⟩⟩⟩
set_option maxRecDepth 100000 in
set_option maxHeartbeats 0 in
theorem n_M_launch_37 {ρ : Type} (e : zRes → Option ρ) {krA : Int → zH → Option ρ} {krZ : Int → zH → Option zRes} (hk : ∀ v h, (krZ v h).bind e = krA v h) (a1 a2 a3 a4 a5 : Int) (h : zH) : (M_launch_37 krZ a1 a2 a3 a4 a5 h).bind e = M_launch_37 krA a1 a2 a3 a4 a5 h := by
  refine Eq.trans (congrArg (fun z => Option.bind z e) (qe_M_launch_37 krZ a1 a2 a3 a4 a5 h)) (Eq.trans ?_ (Eq.symm (qe_M_launch_37 krA a1 a2 a3 a4 a5 h)))
  generalize (400 : Nat) = f9
  refine zseg_e e (zcal_e _ _ ?_) (zorc_e _ _ ?_) hk (fun _ _ => rfl) f9 _ _ _ _
  · exact trivial
  · exact ⟨rfl, rfl, rfl, zap6_e (fun x0 x1 x2 x3 x4 x5 h => n_M_launch_42 e hk x0 x1 x2 x3 x4 x5 h), trivial⟩
set_option maxRecDepth 100000 in
set_option maxHeartbeats 0 in
theorem n_M_launch_41 {ρ : Type} (e : zRes → Option ρ) {krA : Int → zH → Option ρ} {krZ : Int → zH → Option zRes} (hk : ∀ v h, (krZ v h).bind e = krA v h) (a1 a2 a3 a4 a5 : Int) (h : zH) : (M_launch_41 krZ a1 a2 a3 a4 a5 h).bind e = M_launch_41 krA a1 a2 a3 a4 a5 h := by
  refine Eq.trans (congrArg (fun z => Option.bind z e) (qe_M_launch_41 krZ a1 a2 a3 a4 a5 h)) (Eq.trans ?_ (Eq.symm (qe_M_launch_41 krA a1 a2 a3 a4 a5 h)))
  generalize (400 : Nat) = f9
  refine zseg_e e (zcal_e _ _ ?_) (zorc_e _ _ ?_) hk (fun _ _ => rfl) f9 _ _ _ _
  · exact trivial
  · exact ⟨rfl, rfl, rfl, zap6_e (fun x0 x1 x2 x3 x4 x5 h => n_M_launch_42 e hk x0 x1 x2 x3 x4 x5 h), trivial⟩
set_option maxRecDepth 100000 in
set_option maxHeartbeats 0 in
theorem n_M_launch {ρ : Type} (e : zRes → Option ρ) {krA : Int → zH → Option ρ} {krZ : Int → zH → Option zRes} (hk : ∀ v h, (krZ v h).bind e = krA v h) (a1 a2 a3 a4 a5 : Int) (h : zH) : (M_launch a1 a2 a3 a4 a5 h krZ).bind e = M_launch a1 a2 a3 a4 a5 h krA := by
  refine Eq.trans (congrArg (fun z => Option.bind z e) (qe_M_launch krZ a1 a2 a3 a4 a5 h)) (Eq.trans ?_ (Eq.symm (qe_M_launch krA a1 a2 a3 a4 a5 h)))
  generalize (400 : Nat) = f9
  refine zseg_e e (zcal_e _ _ ?_) (zorc_e _ _ ?_) hk (fun _ _ => rfl) f9 _ _ _ _
  · exact ⟨rfl, rfl, zca3_e (fun x0 x1 x2 h k t => n_M_in e (fun _ _ => rfl) x0 x1 x2 h), ⟨rfl, rfl, zca1_e (fun x0 h k t => n_M_noKernel e (fun _ _ => rfl) x0 h), ⟨rfl, rfl, zca1_e (fun x0 h k t => n_M_noLaunch e (fun _ _ => rfl) x0 h), trivial⟩⟩⟩
  · exact ⟨rfl, rfl, rfl, zap5_e (fun x0 x1 x2 x3 x4 h => n_M_launch_37 e hk x0 x1 x2 x3 x4 h), ⟨rfl, rfl, rfl, zap5_e (fun x0 x1 x2 x3 x4 h => n_M_launch_41 e hk x0 x1 x2 x3 x4 h), trivial⟩⟩
set_option maxRecDepth 100000 in
set_option maxHeartbeats 0 in
theorem n_M_copy_128 {ρ : Type} (e : zRes → Option ρ) {krA : Int → zH → Option ρ} {krZ : Int → zH → Option zRes} (hk : ∀ v h, (krZ v h).bind e = krA v h) (h : zH) : (M_copy_128 krZ h).bind e = M_copy_128 krA h := by
  refine Eq.trans (congrArg (fun z => Option.bind z e) (qe_M_copy_128 krZ h)) (Eq.trans ?_ (Eq.symm (qe_M_copy_128 krA h)))
  generalize (400 : Nat) = f9
  refine zseg_e e (zcal_e _ _ ?_) (zorc_e _ _ ?_) hk (fun _ _ => rfl) f9 _ _ _ _
  · exact trivial
  · exact trivial
set_option maxRecDepth 100000 in
set_option maxHeartbeats 0 in
theorem n_M_copy_121 {ρ : Type} (e : zRes → Option ρ) {krA : Int → zH → Option ρ} {krZ : Int → zH → Option zRes} (hk : ∀ v h, (krZ v h).bind e = krA v h) (a1 a2 a3 a4 a5 t0 : Int) (h : zH) : (M_copy_121 krZ a1 a2 a3 a4 a5 t0 h).bind e = M_copy_121 krA a1 a2 a3 a4 a5 t0 h := by
  refine Eq.trans (congrArg (fun z => Option.bind z e) (qe_M_copy_121 krZ a1 a2 a3 a4 a5 t0 h)) (Eq.trans ?_ (Eq.symm (qe_M_copy_121 krA a1 a2 a3 a4 a5 t0 h)))
  generalize (400 : Nat) = f9
  refine zseg_e e (zcal_e _ _ ?_) (zorc_e _ _ ?_) hk (fun _ _ => rfl) f9 _ _ _ _
  · exact ⟨rfl, rfl, zca2_e (fun x0 x1 h k t => n_M_fails e (fun _ _ => rfl) x0 x1 h), ⟨rfl, rfl, zca3_e (fun x0 x1 x2 h k t => n_M_add e (fun _ _ => rfl) x0 x1 x2 h), trivial⟩⟩
  · exact ⟨rfl, rfl, rfl, zap0_e (fun  h => n_M_copy_128 e hk  h), trivial⟩
set_option maxRecDepth 100000 in
set_option maxHeartbeats 0 in
theorem n_M_copy_84 {ρ : Type} (e : zRes → Option ρ) {krA : Int → zH → Option ρ} {krZ : Int → zH → Option zRes} (hk : ∀ v h, (krZ v h).bind e = krA v h) (a1 a2 a3 a4 a5 a6 t0 : Int) (h : zH) : (M_copy_84 krZ a1 a2 a3 a4 a5 a6 t0 h).bind e = M_copy_84 krA a1 a2 a3 a4 a5 a6 t0 h := by
  refine Eq.trans (congrArg (fun z => Option.bind z e) (qe_M_copy_84 krZ a1 a2 a3 a4 a5 a6 t0 h)) (Eq.trans ?_ (Eq.symm (qe_M_copy_84 krA a1 a2 a3 a4 a5 a6 t0 h)))
  generalize (400 : Nat) = f9
  refine zseg_e e (zcal_e _ _ ?_) (zorc_e _ _ ?_) hk (fun _ _ => rfl) f9 _ _ _ _
  · exact ⟨rfl, rfl, zca2_e (fun x0 x1 h k t => n_M_fails e (fun _ _ => rfl) x0 x1 h), trivial⟩
  · exact ⟨rfl, rfl, rfl, zap6_e (fun x0 x1 x2 x3 x4 x5 h => n_M_copy_121 e hk x0 x1 x2 x3 x4 x5 h), ⟨rfl, rfl, rfl, zap0_e (fun  h => n_M_copy_128 e hk  h), trivial⟩⟩
set_option maxRecDepth 100000 in
set_option maxHeartbeats 0 in
theorem n_M_copy_79 {ρ : Type} (e : zRes → Option ρ) {krA : Int → zH → Option ρ} {krZ : Int → zH → Option zRes} (hk : ∀ v h, (krZ v h).bind e = krA v h) (a1 a2 a3 a4 a5 a6 : Int) (h : zH) : (M_copy_79 krZ a1 a2 a3 a4 a5 a6 h).bind e = M_copy_79 krA a1 a2 a3 a4 a5 a6 h := by
  refine Eq.trans (congrArg (fun z => Option.bind z e) (qe_M_copy_79 krZ a1 a2 a3 a4 a5 a6 h)) (Eq.trans ?_ (Eq.symm (qe_M_copy_79 krA a1 a2 a3 a4 a5 a6 h)))
  generalize (400 : Nat) = f9
  refine zseg_e e (zcal_e _ _ ?_) (zorc_e _ _ ?_) hk (fun _ _ => rfl) f9 _ _ _ _
  · exact trivial
  · exact ⟨rfl, rfl, rfl, zap7_e (fun x0 x1 x2 x3 x4 x5 x6 h => n_M_copy_84 e hk x0 x1 x2 x3 x4 x5 x6 h), trivial⟩
set_option maxRecDepth 100000 in
set_option maxHeartbeats 0 in
theorem n_M_copy_34 {ρ : Type} (e : zRes → Option ρ) {krA : Int → zH → Option ρ} {krZ : Int → zH → Option zRes} (hk : ∀ v h, (krZ v h).bind e = krA v h) (a1 a2 a3 a4 a5 t0 : Int) (h : zH) : (M_copy_34 krZ a1 a2 a3 a4 a5 t0 h).bind e = M_copy_34 krA a1 a2 a3 a4 a5 t0 h := by
  refine Eq.trans (congrArg (fun z => Option.bind z e) (qe_M_copy_34 krZ a1 a2 a3 a4 a5 t0 h)) (Eq.trans ?_ (Eq.symm (qe_M_copy_34 krA a1 a2 a3 a4 a5 t0 h)))
  generalize (400 : Nat) = f9
  refine zseg_e e (zcal_e _ _ ?_) (zorc_e _ _ ?_) hk (fun _ _ => rfl) f9 _ _ _ _
  · exact ⟨rfl, rfl, zca3_e (fun x0 x1 x2 h k t => n_M_in e (fun _ _ => rfl) x0 x1 x2 h), ⟨rfl, rfl, zca1_e (fun x0 h k t => n_M_noCell e (fun _ _ => rfl) x0 h), trivial⟩⟩
  · exact ⟨rfl, rfl, rfl, zap6_e (fun x0 x1 x2 x3 x4 x5 h => n_M_copy_79 e hk x0 x1 x2 x3 x4 x5 h), ⟨rfl, rfl, rfl, zap7_e (fun x0 x1 x2 x3 x4 x5 x6 h => n_M_copy_84 e hk x0 x1 x2 x3 x4 x5 x6 h), trivial⟩⟩
set_option maxRecDepth 100000 in
set_option maxHeartbeats 0 in
theorem n_M_copy_29 {ρ : Type} (e : zRes → Option ρ) {krA : Int → zH → Option ρ} {krZ : Int → zH → Option zRes} (hk : ∀ v h, (krZ v h).bind e = krA v h) (a1 a2 a3 a4 a5 : Int) (h : zH) : (M_copy_29 krZ a1 a2 a3 a4 a5 h).bind e = M_copy_29 krA a1 a2 a3 a4 a5 h := by
  refine Eq.trans (congrArg (fun z => Option.bind z e) (qe_M_copy_29 krZ a1 a2 a3 a4 a5 h)) (Eq.trans ?_ (Eq.symm (qe_M_copy_29 krA a1 a2 a3 a4 a5 h)))
  generalize (400 : Nat) = f9
  refine zseg_e e (zcal_e _ _ ?_) (zorc_e _ _ ?_) hk (fun _ _ => rfl) f9 _ _ _ _
  · exact trivial
  · exact ⟨rfl, rfl, rfl, zap6_e (fun x0 x1 x2 x3 x4 x5 h => n_M_copy_34 e hk x0 x1 x2 x3 x4 x5 h), trivial⟩
set_option maxRecDepth 100000 in
set_option maxHeartbeats 0 in
theorem n_M_copy_33 {ρ : Type} (e : zRes → Option ρ) {krA : Int → zH → Option ρ} {krZ : Int → zH → Option zRes} (hk : ∀ v h, (krZ v h).bind e = krA v h) (a1 a2 a3 a4 a5 : Int) (h : zH) : (M_copy_33 krZ a1 a2 a3 a4 a5 h).bind e = M_copy_33 krA a1 a2 a3 a4 a5 h := by
  refine Eq.trans (congrArg (fun z => Option.bind z e) (qe_M_copy_33 krZ a1 a2 a3 a4 a5 h)) (Eq.trans ?_ (Eq.symm (qe_M_copy_33 krA a1 a2 a3 a4 a5 h)))
  generalize (400 : Nat) = f9
  refine zseg_e e (zcal_e _ _ ?_) (zorc_e _ _ ?_) hk (fun _ _ => rfl) f9 _ _ _ _
  · exact trivial
  · exact ⟨rfl, rfl, rfl, zap6_e (fun x0 x1 x2 x3 x4 x5 h => n_M_copy_34 e hk x0 x1 x2 x3 x4 x5 h), trivial⟩
set_option maxRecDepth 100000 in
set_option maxHeartbeats 0 in
theorem n_M_copy {ρ : Type} (e : zRes → Option ρ) {krA : Int → zH → Option ρ} {krZ : Int → zH → Option zRes} (hk : ∀ v h, (krZ v h).bind e = krA v h) (a1 a2 a3 a4 a5 : Int) (h : zH) : (M_copy a1 a2 a3 a4 a5 h krZ).bind e = M_copy a1 a2 a3 a4 a5 h krA := by
  refine Eq.trans (congrArg (fun z => Option.bind z e) (qe_M_copy krZ a1 a2 a3 a4 a5 h)) (Eq.trans ?_ (Eq.symm (qe_M_copy krA a1 a2 a3 a4 a5 h)))
  generalize (400 : Nat) = f9
  refine zseg_e e (zcal_e _ _ ?_) (zorc_e _ _ ?_) hk (fun _ _ => rfl) f9 _ _ _ _
  · exact ⟨rfl, rfl, zca3_e (fun x0 x1 x2 h k t => n_M_in e (fun _ _ => rfl) x0 x1 x2 h), ⟨rfl, rfl, zca1_e (fun x0 h k t => n_M_noLaunch e (fun _ _ => rfl) x0 h), trivial⟩⟩
  · exact ⟨rfl, rfl, rfl, zap5_e (fun x0 x1 x2 x3 x4 h => n_M_copy_29 e hk x0 x1 x2 x3 x4 h), ⟨rfl, rfl, rfl, zap5_e (fun x0 x1 x2 x3 x4 h => n_M_copy_33 e hk x0 x1 x2 x3 x4 h), trivial⟩⟩
set_option maxRecDepth 100000 in
set_option maxHeartbeats 0 in
theorem n_M_launchChild_63 {ρ : Type} (e : zRes → Option ρ) {krA : Int → zH → Option ρ} {krZ : Int → zH → Option zRes} (hk : ∀ v h, (krZ v h).bind e = krA v h) (a1 a2 a3 t0 : Int) (h : zH) : (M_launchChild_63 krZ a1 a2 a3 t0 h).bind e = M_launchChild_63 krA a1 a2 a3 t0 h := by
  refine Eq.trans (congrArg (fun z => Option.bind z e) (qe_M_launchChild_63 krZ a1 a2 a3 t0 h)) (Eq.trans ?_ (Eq.symm (qe_M_launchChild_63 krA a1 a2 a3 t0 h)))
  generalize (400 : Nat) = f9
  refine zseg_e e (zcal_e _ _ ?_) (zorc_e _ _ ?_) hk (fun _ _ => rfl) f9 _ _ _ _
  · exact ⟨rfl, rfl, zca3_e (fun x0 x1 x2 h k t => n_M_add e (fun _ _ => rfl) x0 x1 x2 h), trivial⟩
  · exact trivial
set_option maxRecDepth 100000 in
set_option maxHeartbeats 0 in
theorem n_M_launchChild_62 {ρ : Type} (e : zRes → Option ρ) {krA : Int → zH → Option ρ} {krZ : Int → zH → Option zRes} (hk : ∀ v h, (krZ v h).bind e = krA v h) (a1 a2 a3 : Int) (h : zH) : (M_launchChild_62 krZ a1 a2 a3 h).bind e = M_launchChild_62 krA a1 a2 a3 h := by
  refine Eq.trans (congrArg (fun z => Option.bind z e) (qe_M_launchChild_62 krZ a1 a2 a3 h)) (Eq.trans ?_ (Eq.symm (qe_M_launchChild_62 krA a1 a2 a3 h)))
  generalize (400 : Nat) = f9
  refine zseg_e e (zcal_e _ _ ?_) (zorc_e _ _ ?_) hk (fun _ _ => rfl) f9 _ _ _ _
  · exact trivial
  · exact ⟨rfl, rfl, rfl, zap4_e (fun x0 x1 x2 x3 h => n_M_launchChild_63 e hk x0 x1 x2 x3 h), trivial⟩
set_option maxRecDepth 100000 in
set_option maxHeartbeats 0 in
theorem n_M_launchChild_42 {ρ : Type} (e : zRes → Option ρ) {krA : Int → zH → Option ρ} {krZ : Int → zH → Option zRes} (hk : ∀ v h, (krZ v h).bind e = krA v h) (a1 a2 a3 t0 : Int) (h : zH) : (M_launchChild_42 krZ a1 a2 a3 t0 h).bind e = M_launchChild_42 krA a1 a2 a3 t0 h := by
  refine Eq.trans (congrArg (fun z => Option.bind z e) (qe_M_launchChild_42 krZ a1 a2 a3 t0 h)) (Eq.trans ?_ (Eq.symm (qe_M_launchChild_42 krA a1 a2 a3 t0 h)))
  generalize (400 : Nat) = f9
  refine zseg_e e (zcal_e _ _ ?_) (zorc_e _ _ ?_) hk (fun _ _ => rfl) f9 _ _ _ _
  · exact ⟨rfl, rfl, zca2_e (fun x0 x1 h k t => n_M_fit e (fun _ _ => rfl) x0 x1 h), trivial⟩
  · exact ⟨rfl, rfl, rfl, zap3_e (fun x0 x1 x2 h => n_M_launchChild_62 e hk x0 x1 x2 h), ⟨rfl, rfl, rfl, zap4_e (fun x0 x1 x2 x3 h => n_M_launchChild_63 e hk x0 x1 x2 x3 h), trivial⟩⟩
set_option maxRecDepth 100000 in
set_option maxHeartbeats 0 in
theorem n_M_launchChild_41 {ρ : Type} (e : zRes → Option ρ) {krA : Int → zH → Option ρ} {krZ : Int → zH → Option zRes} (hk : ∀ v h, (krZ v h).bind e = krA v h) (a1 a2 a3 : Int) (h : zH) : (M_launchChild_41 krZ a1 a2 a3 h).bind e = M_launchChild_41 krA a1 a2 a3 h := by
  refine Eq.trans (congrArg (fun z => Option.bind z e) (qe_M_launchChild_41 krZ a1 a2 a3 h)) (Eq.trans ?_ (Eq.symm (qe_M_launchChild_41 krA a1 a2 a3 h)))
  generalize (400 : Nat) = f9
  refine zseg_e e (zcal_e _ _ ?_) (zorc_e _ _ ?_) hk (fun _ _ => rfl) f9 _ _ _ _
  · exact trivial
  · exact ⟨rfl, rfl, rfl, zap4_e (fun x0 x1 x2 x3 h => n_M_launchChild_42 e hk x0 x1 x2 x3 h), trivial⟩
set_option maxRecDepth 100000 in
set_option maxHeartbeats 0 in
theorem n_M_launchChild {ρ : Type} (e : zRes → Option ρ) {krA : Int → zH → Option ρ} {krZ : Int → zH → Option zRes} (hk : ∀ v h, (krZ v h).bind e = krA v h) (a1 a2 a3 : Int) (h : zH) : (M_launchChild a1 a2 a3 h krZ).bind e = M_launchChild a1 a2 a3 h krA := by
  refine Eq.trans (congrArg (fun z => Option.bind z e) (qe_M_launchChild krZ a1 a2 a3 h)) (Eq.trans ?_ (Eq.symm (qe_M_launchChild krA a1 a2 a3 h)))
  generalize (400 : Nat) = f9
  refine zseg_e e (zcal_e _ _ ?_) (zorc_e _ _ ?_) hk (fun _ _ => rfl) f9 _ _ _ _
  · exact ⟨rfl, rfl, zca3_e (fun x0 x1 x2 h k t => n_M_in e (fun _ _ => rfl) x0 x1 x2 h), ⟨rfl, rfl, zca1_e (fun x0 h k t => n_M_noKernel e (fun _ _ => rfl) x0 h), trivial⟩⟩
  · exact ⟨rfl, rfl, rfl, zap3_e (fun x0 x1 x2 h => n_M_launchChild_41 e hk x0 x1 x2 h), ⟨rfl, rfl, rfl, zap4_e (fun x0 x1 x2 x3 h => n_M_launchChild_42 e hk x0 x1 x2 x3 h), trivial⟩⟩
set_option maxRecDepth 100000 in
set_option maxHeartbeats 0 in
theorem n_M_launches {ρ : Type} (e : zRes → Option ρ) {krA : Int → zH → Option ρ} {krZ : Int → zH → Option zRes} (hk : ∀ v h, (krZ v h).bind e = krA v h) (h : zH) : (M_launches h krZ).bind e = M_launches h krA := by
  refine Eq.trans (congrArg (fun z => Option.bind z e) (qe_M_launches krZ h)) (Eq.trans ?_ (Eq.symm (qe_M_launches krA h)))
  generalize (400 : Nat) = f9
  refine zseg_e e (zcal_e _ _ ?_) (zorc_e _ _ ?_) hk (fun _ _ => rfl) f9 _ _ _ _
  · exact trivial
  · exact trivial
set_option maxRecDepth 100000 in
set_option maxHeartbeats 0 in
theorem n_M_state_28 {ρ : Type} (e : zRes → Option ρ) {krA : Int → zH → Option ρ} {krZ : Int → zH → Option zRes} (hk : ∀ v h, (krZ v h).bind e = krA v h) (t0 : Int) (h : zH) : (M_state_28 krZ t0 h).bind e = M_state_28 krA t0 h := by
  refine Eq.trans (congrArg (fun z => Option.bind z e) (qe_M_state_28 krZ t0 h)) (Eq.trans ?_ (Eq.symm (qe_M_state_28 krA t0 h)))
  generalize (400 : Nat) = f9
  refine zseg_e e (zcal_e _ _ ?_) (zorc_e _ _ ?_) hk (fun _ _ => rfl) f9 _ _ _ _
  · exact trivial
  · exact trivial
set_option maxRecDepth 100000 in
set_option maxHeartbeats 0 in
theorem n_M_state {ρ : Type} (e : zRes → Option ρ) {krA : Int → zH → Option ρ} {krZ : Int → zH → Option zRes} (hk : ∀ v h, (krZ v h).bind e = krA v h) (a1 : Int) (h : zH) : (M_state a1 h krZ).bind e = M_state a1 h krA := by
  refine Eq.trans (congrArg (fun z => Option.bind z e) (qe_M_state krZ a1 h)) (Eq.trans ?_ (Eq.symm (qe_M_state krA a1 h)))
  generalize (400 : Nat) = f9
  refine zseg_e e (zcal_e _ _ ?_) (zorc_e _ _ ?_) hk (fun _ _ => rfl) f9 _ _ _ _
  · exact ⟨rfl, rfl, zca2_e (fun x0 x1 h k t => n_M_fails e (fun _ _ => rfl) x0 x1 h), ⟨rfl, rfl, zca1_e (fun x0 h k t => n_M_noLaunch e (fun _ _ => rfl) x0 h), trivial⟩⟩
  · exact ⟨rfl, rfl, rfl, zap1_e (fun x0 h => n_M_state_28 e hk x0 h), trivial⟩
set_option maxRecDepth 100000 in
set_option maxHeartbeats 0 in
theorem n_M_parent_51 {ρ : Type} (e : zRes → Option ρ) {krA : Int → zH → Option ρ} {krZ : Int → zH → Option zRes} (hk : ∀ v h, (krZ v h).bind e = krA v h) (t0 : Int) (h : zH) : (M_parent_51 krZ t0 h).bind e = M_parent_51 krA t0 h := by
  refine Eq.trans (congrArg (fun z => Option.bind z e) (qe_M_parent_51 krZ t0 h)) (Eq.trans ?_ (Eq.symm (qe_M_parent_51 krA t0 h)))
  generalize (400 : Nat) = f9
  refine zseg_e e (zcal_e _ _ ?_) (zorc_e _ _ ?_) hk (fun _ _ => rfl) f9 _ _ _ _
  · exact trivial
  · exact trivial
set_option maxRecDepth 100000 in
set_option maxHeartbeats 0 in
theorem n_M_parent_41 {ρ : Type} (e : zRes → Option ρ) {krA : Int → zH → Option ρ} {krZ : Int → zH → Option zRes} (hk : ∀ v h, (krZ v h).bind e = krA v h) (h : zH) : (M_parent_41 krZ h).bind e = M_parent_41 krA h := by
  refine Eq.trans (congrArg (fun z => Option.bind z e) (qe_M_parent_41 krZ h)) (Eq.trans ?_ (Eq.symm (qe_M_parent_41 krA h)))
  generalize (400 : Nat) = f9
  refine zseg_e e (zcal_e _ _ ?_) (zorc_e _ _ ?_) hk (fun _ _ => rfl) f9 _ _ _ _
  · exact trivial
  · exact ⟨rfl, rfl, rfl, zap1_e (fun x0 h => n_M_parent_51 e hk x0 h), trivial⟩
set_option maxRecDepth 100000 in
set_option maxHeartbeats 0 in
theorem n_M_parent_34 {ρ : Type} (e : zRes → Option ρ) {krA : Int → zH → Option ρ} {krZ : Int → zH → Option zRes} (hk : ∀ v h, (krZ v h).bind e = krA v h) (a1 t0 : Int) (h : zH) : (M_parent_34 krZ a1 t0 h).bind e = M_parent_34 krA a1 t0 h := by
  refine Eq.trans (congrArg (fun z => Option.bind z e) (qe_M_parent_34 krZ a1 t0 h)) (Eq.trans ?_ (Eq.symm (qe_M_parent_34 krA a1 t0 h)))
  generalize (400 : Nat) = f9
  refine zseg_e e (zcal_e _ _ ?_) (zorc_e _ _ ?_) hk (fun _ _ => rfl) f9 _ _ _ _
  · exact ⟨rfl, rfl, zca2_e (fun x0 x1 h k t => n_M_fails e (fun _ _ => rfl) x0 x1 h), trivial⟩
  · exact ⟨rfl, rfl, rfl, zap0_e (fun  h => n_M_parent_41 e hk  h), ⟨rfl, rfl, rfl, zap1_e (fun x0 h => n_M_parent_51 e hk x0 h), trivial⟩⟩
set_option maxRecDepth 100000 in
set_option maxHeartbeats 0 in
theorem n_M_parent {ρ : Type} (e : zRes → Option ρ) {krA : Int → zH → Option ρ} {krZ : Int → zH → Option zRes} (hk : ∀ v h, (krZ v h).bind e = krA v h) (a1 : Int) (h : zH) : (M_parent a1 h krZ).bind e = M_parent a1 h krA := by
  refine Eq.trans (congrArg (fun z => Option.bind z e) (qe_M_parent krZ a1 h)) (Eq.trans ?_ (Eq.symm (qe_M_parent krA a1 h)))
  generalize (400 : Nat) = f9
  refine zseg_e e (zcal_e _ _ ?_) (zorc_e _ _ ?_) hk (fun _ _ => rfl) f9 _ _ _ _
  · exact ⟨rfl, rfl, zca2_e (fun x0 x1 h k t => n_M_fails e (fun _ _ => rfl) x0 x1 h), ⟨rfl, rfl, zca1_e (fun x0 h k t => n_M_noLaunch e (fun _ _ => rfl) x0 h), trivial⟩⟩
  · exact ⟨rfl, rfl, rfl, zap2_e (fun x0 x1 h => n_M_parent_34 e hk x0 x1 h), ⟨rfl, rfl, rfl, zap0_e (fun  h => n_M_parent_41 e hk  h), trivial⟩⟩
set_option maxRecDepth 100000 in
set_option maxHeartbeats 0 in
theorem n_M_given_28 {ρ : Type} (e : zRes → Option ρ) {krA : Int → zH → Option ρ} {krZ : Int → zH → Option zRes} (hk : ∀ v h, (krZ v h).bind e = krA v h) (t0 : Int) (h : zH) : (M_given_28 krZ t0 h).bind e = M_given_28 krA t0 h := by
  refine Eq.trans (congrArg (fun z => Option.bind z e) (qe_M_given_28 krZ t0 h)) (Eq.trans ?_ (Eq.symm (qe_M_given_28 krA t0 h)))
  generalize (400 : Nat) = f9
  refine zseg_e e (zcal_e _ _ ?_) (zorc_e _ _ ?_) hk (fun _ _ => rfl) f9 _ _ _ _
  · exact trivial
  · exact trivial
set_option maxRecDepth 100000 in
set_option maxHeartbeats 0 in
theorem n_M_given {ρ : Type} (e : zRes → Option ρ) {krA : Int → zH → Option ρ} {krZ : Int → zH → Option zRes} (hk : ∀ v h, (krZ v h).bind e = krA v h) (a1 : Int) (h : zH) : (M_given a1 h krZ).bind e = M_given a1 h krA := by
  refine Eq.trans (congrArg (fun z => Option.bind z e) (qe_M_given krZ a1 h)) (Eq.trans ?_ (Eq.symm (qe_M_given krA a1 h)))
  generalize (400 : Nat) = f9
  refine zseg_e e (zcal_e _ _ ?_) (zorc_e _ _ ?_) hk (fun _ _ => rfl) f9 _ _ _ _
  · exact ⟨rfl, rfl, zca2_e (fun x0 x1 h k t => n_M_fails e (fun _ _ => rfl) x0 x1 h), ⟨rfl, rfl, zca1_e (fun x0 h k t => n_M_noLaunch e (fun _ _ => rfl) x0 h), trivial⟩⟩
  · exact ⟨rfl, rfl, rfl, zap1_e (fun x0 h => n_M_given_28 e hk x0 h), trivial⟩
