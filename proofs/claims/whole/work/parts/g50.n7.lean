set_option maxRecDepth 100000 in
set_option maxHeartbeats 0 in
theorem n_M_placeOf_96 {ρ : Type} (e : zRes → Option ρ) {krA : Int → zH → Option ρ} {krZ : Int → zH → Option zRes} (hk : ∀ v h, (krZ v h).bind e = krA v h) {r19A : Int → Int → Int → Int → zH → Option ρ} {r19Z : Int → Int → Int → Int → zH → Option zRes} (h19 : ∀ (x0 x1 x2 x3 : Int) (h : zH), (r19Z x0 x1 x2 x3 h).bind e = r19A x0 x1 x2 x3 h) (a1 a2 a4 t0 : Int) (h : zH) : (M_placeOf_96 krZ r19Z a1 a2 a4 t0 h).bind e = M_placeOf_96 krA r19A a1 a2 a4 t0 h := by
  refine Eq.trans (congrArg (fun z => Option.bind z e) (qe_M_placeOf_96 krZ r19Z a1 a2 a4 t0 h)) (Eq.trans ?_ (Eq.symm (qe_M_placeOf_96 krA r19A a1 a2 a4 t0 h)))
  generalize (400 : Nat) = f9
  refine zseg_e e (zcal_e _ _ ?_) (zorc_e _ _ ?_) hk (fun _ _ => rfl) f9 _ _ _ _
  · exact trivial
  · exact ⟨rfl, rfl, rfl, zap4_e h19, trivial⟩
set_option maxRecDepth 100000 in
set_option maxHeartbeats 0 in
theorem n_M_placeOf_85 {ρ : Type} (e : zRes → Option ρ) {krA : Int → zH → Option ρ} {krZ : Int → zH → Option zRes} (hk : ∀ v h, (krZ v h).bind e = krA v h) {r19A : Int → Int → Int → Int → zH → Option ρ} {r19Z : Int → Int → Int → Int → zH → Option zRes} (h19 : ∀ (x0 x1 x2 x3 : Int) (h : zH), (r19Z x0 x1 x2 x3 h).bind e = r19A x0 x1 x2 x3 h) (a1 a2 a4 a5 : Int) (h : zH) : (M_placeOf_85 krZ r19Z a1 a2 a4 a5 h).bind e = M_placeOf_85 krA r19A a1 a2 a4 a5 h := by
  refine Eq.trans (congrArg (fun z => Option.bind z e) (qe_M_placeOf_85 krZ r19Z a1 a2 a4 a5 h)) (Eq.trans ?_ (Eq.symm (qe_M_placeOf_85 krA r19A a1 a2 a4 a5 h)))
  generalize (400 : Nat) = f9
  refine zseg_e e (zcal_e _ _ ?_) (zorc_e _ _ ?_) hk (fun _ _ => rfl) f9 _ _ _ _
  · exact trivial
  · exact ⟨rfl, rfl, rfl, zap4_e (fun x0 x1 x2 x3 h => n_M_placeOf_96 e hk h19 x0 x1 x2 x3 h), trivial⟩
set_option maxRecDepth 100000 in
set_option maxHeartbeats 0 in
theorem n_M_placeOf_95 {ρ : Type} (e : zRes → Option ρ) {krA : Int → zH → Option ρ} {krZ : Int → zH → Option zRes} (hk : ∀ v h, (krZ v h).bind e = krA v h) {r19A : Int → Int → Int → Int → zH → Option ρ} {r19Z : Int → Int → Int → Int → zH → Option zRes} (h19 : ∀ (x0 x1 x2 x3 : Int) (h : zH), (r19Z x0 x1 x2 x3 h).bind e = r19A x0 x1 x2 x3 h) (a1 a2 a3 a4 : Int) (h : zH) : (M_placeOf_95 krZ r19Z a1 a2 a3 a4 h).bind e = M_placeOf_95 krA r19A a1 a2 a3 a4 h := by
  refine Eq.trans (congrArg (fun z => Option.bind z e) (qe_M_placeOf_95 krZ r19Z a1 a2 a3 a4 h)) (Eq.trans ?_ (Eq.symm (qe_M_placeOf_95 krA r19A a1 a2 a3 a4 h)))
  generalize (400 : Nat) = f9
  refine zseg_e e (zcal_e _ _ ?_) (zorc_e _ _ ?_) hk (fun _ _ => rfl) f9 _ _ _ _
  · exact trivial
  · exact ⟨rfl, rfl, rfl, zap4_e (fun x0 x1 x2 x3 h => n_M_placeOf_96 e hk h19 x0 x1 x2 x3 h), trivial⟩
set_option maxRecDepth 100000 in
set_option maxHeartbeats 0 in
theorem n_M_placeOf_103 {ρ : Type} (e : zRes → Option ρ) {krA : Int → zH → Option ρ} {krZ : Int → zH → Option zRes} (hk : ∀ v h, (krZ v h).bind e = krA v h) (a3 : Int) (h : zH) : (M_placeOf_103 krZ a3 h).bind e = M_placeOf_103 krA a3 h := by
  refine Eq.trans (congrArg (fun z => Option.bind z e) (qe_M_placeOf_103 krZ a3 h)) (Eq.trans ?_ (Eq.symm (qe_M_placeOf_103 krA a3 h)))
  generalize (400 : Nat) = f9
  refine zseg_e e (zcal_e _ _ ?_) (zorc_e _ _ ?_) hk (fun _ _ => rfl) f9 _ _ _ _
  · exact trivial
  · exact trivial
set_option maxRecDepth 100000 in
set_option maxHeartbeats 0 in
theorem n_M_placeOf_19b {ρ : Type} (e : zRes → Option ρ) {krA : Int → zH → Option ρ} {krZ : Int → zH → Option zRes} (hk : ∀ v h, (krZ v h).bind e = krA v h) {r19A : Int → Int → Int → Int → zH → Option ρ} {r19Z : Int → Int → Int → Int → zH → Option zRes} (h19 : ∀ (x0 x1 x2 x3 : Int) (h : zH), (r19Z x0 x1 x2 x3 h).bind e = r19A x0 x1 x2 x3 h) (a1 a2 a3 a4 : Int) (h : zH) : (M_placeOf_19b krZ r19Z a1 a2 a3 a4 h).bind e = M_placeOf_19b krA r19A a1 a2 a3 a4 h := by
  refine Eq.trans (congrArg (fun z => Option.bind z e) (qe_M_placeOf_19b krZ r19Z a1 a2 a3 a4 h)) (Eq.trans ?_ (Eq.symm (qe_M_placeOf_19b krA r19A a1 a2 a3 a4 h)))
  generalize (400 : Nat) = f9
  refine zseg_e e (zcal_e _ _ ?_) (zorc_e _ _ ?_) hk (fun _ _ => rfl) f9 _ _ _ _
  · exact ⟨rfl, rfl, zca2_e (fun x0 x1 h k t => n_M_threadCell e (fun _ _ => rfl) x0 x1 h), trivial⟩
  · exact ⟨rfl, rfl, rfl, zap4_e (fun x0 x1 x2 x3 h => n_M_placeOf_85 e hk h19 x0 x1 x2 x3 h), ⟨rfl, rfl, rfl, zap4_e (fun x0 x1 x2 x3 h => n_M_placeOf_95 e hk h19 x0 x1 x2 x3 h), ⟨rfl, rfl, rfl, zap1_e (fun x0 h => n_M_placeOf_103 e hk x0 h), trivial⟩⟩⟩
theorem n_M_placeOf_19 {ρ : Type} (e : zRes → Option ρ) {krA : Int → zH → Option ρ} {krZ : Int → zH → Option zRes} (hk : ∀ v h, (krZ v h).bind e = krA v h) (a1 a2 a3 a4 : Int) (h : zH) : (M_placeOf_19 krZ a1 a2 a3 a4 h).bind e = M_placeOf_19 krA a1 a2 a3 a4 h := zit4_e (fun rA rZ hh a1 a2 a3 a4 h => n_M_placeOf_19b e hk hh a1 a2 a3 a4 h) zN a1 a2 a3 a4 h
set_option maxRecDepth 100000 in
set_option maxHeartbeats 0 in
theorem n_M_placeOf {ρ : Type} (e : zRes → Option ρ) {krA : Int → zH → Option ρ} {krZ : Int → zH → Option zRes} (hk : ∀ v h, (krZ v h).bind e = krA v h) (a1 : Int) (h : zH) : (M_placeOf a1 h krZ).bind e = M_placeOf a1 h krA := by
  refine Eq.trans (congrArg (fun z => Option.bind z e) (qe_M_placeOf krZ a1 h)) (Eq.trans ?_ (Eq.symm (qe_M_placeOf krA a1 h)))
  generalize (400 : Nat) = f9
  refine zseg_e e (zcal_e _ _ ?_) (zorc_e _ _ ?_) hk (fun _ _ => rfl) f9 _ _ _ _
  · exact trivial
  · exact ⟨rfl, rfl, rfl, zap4_e (fun x0 x1 x2 x3 h => n_M_placeOf_19 e hk x0 x1 x2 x3 h), trivial⟩
set_option maxRecDepth 100000 in
set_option maxHeartbeats 0 in
theorem n_M_maskOf_99 {ρ : Type} (e : zRes → Option ρ) {krA : Int → zH → Option ρ} {krZ : Int → zH → Option zRes} (hk : ∀ v h, (krZ v h).bind e = krA v h) {r19A : Int → Int → Int → Int → Int → zH → Option ρ} {r19Z : Int → Int → Int → Int → Int → zH → Option zRes} (h19 : ∀ (x0 x1 x2 x3 x4 : Int) (h : zH), (r19Z x0 x1 x2 x3 x4 h).bind e = r19A x0 x1 x2 x3 x4 h) (a1 a2 a3 a5 t0 t1 : Int) (h : zH) : (M_maskOf_99 krZ r19Z a1 a2 a3 a5 t0 t1 h).bind e = M_maskOf_99 krA r19A a1 a2 a3 a5 t0 t1 h := by
  refine Eq.trans (congrArg (fun z => Option.bind z e) (qe_M_maskOf_99 krZ r19Z a1 a2 a3 a5 t0 t1 h)) (Eq.trans ?_ (Eq.symm (qe_M_maskOf_99 krA r19A a1 a2 a3 a5 t0 t1 h)))
  generalize (400 : Nat) = f9
  refine zseg_e e (zcal_e _ _ ?_) (zorc_e _ _ ?_) hk (fun _ _ => rfl) f9 _ _ _ _
  · exact trivial
  · exact ⟨rfl, rfl, rfl, zap5_e h19, trivial⟩
set_option maxRecDepth 100000 in
set_option maxHeartbeats 0 in
theorem n_M_maskOf_98 {ρ : Type} (e : zRes → Option ρ) {krA : Int → zH → Option ρ} {krZ : Int → zH → Option zRes} (hk : ∀ v h, (krZ v h).bind e = krA v h) {r19A : Int → Int → Int → Int → Int → zH → Option ρ} {r19Z : Int → Int → Int → Int → Int → zH → Option zRes} (h19 : ∀ (x0 x1 x2 x3 x4 : Int) (h : zH), (r19Z x0 x1 x2 x3 x4 h).bind e = r19A x0 x1 x2 x3 x4 h) (a1 a2 a3 a5 t0 : Int) (h : zH) : (M_maskOf_98 krZ r19Z a1 a2 a3 a5 t0 h).bind e = M_maskOf_98 krA r19A a1 a2 a3 a5 t0 h := by
  refine Eq.trans (congrArg (fun z => Option.bind z e) (qe_M_maskOf_98 krZ r19Z a1 a2 a3 a5 t0 h)) (Eq.trans ?_ (Eq.symm (qe_M_maskOf_98 krA r19A a1 a2 a3 a5 t0 h)))
  generalize (400 : Nat) = f9
  refine zseg_e e (zcal_e _ _ ?_) (zorc_e _ _ ?_) hk (fun _ _ => rfl) f9 _ _ _ _
  · exact trivial
  · exact ⟨rfl, rfl, rfl, zap6_e (fun x0 x1 x2 x3 x4 x5 h => n_M_maskOf_99 e hk h19 x0 x1 x2 x3 x4 x5 h), trivial⟩
set_option maxRecDepth 100000 in
set_option maxHeartbeats 0 in
theorem n_M_maskOf_108 {ρ : Type} (e : zRes → Option ρ) {krA : Int → zH → Option ρ} {krZ : Int → zH → Option zRes} (hk : ∀ v h, (krZ v h).bind e = krA v h) (a4 : Int) (h : zH) : (M_maskOf_108 krZ a4 h).bind e = M_maskOf_108 krA a4 h := by
  refine Eq.trans (congrArg (fun z => Option.bind z e) (qe_M_maskOf_108 krZ a4 h)) (Eq.trans ?_ (Eq.symm (qe_M_maskOf_108 krA a4 h)))
  generalize (400 : Nat) = f9
  refine zseg_e e (zcal_e _ _ ?_) (zorc_e _ _ ?_) hk (fun _ _ => rfl) f9 _ _ _ _
  · exact trivial
  · exact trivial
set_option maxRecDepth 100000 in
set_option maxHeartbeats 0 in
theorem n_M_maskOf_19b {ρ : Type} (e : zRes → Option ρ) {krA : Int → zH → Option ρ} {krZ : Int → zH → Option zRes} (hk : ∀ v h, (krZ v h).bind e = krA v h) {r19A : Int → Int → Int → Int → Int → zH → Option ρ} {r19Z : Int → Int → Int → Int → Int → zH → Option zRes} (h19 : ∀ (x0 x1 x2 x3 x4 : Int) (h : zH), (r19Z x0 x1 x2 x3 x4 h).bind e = r19A x0 x1 x2 x3 x4 h) (a1 a2 a3 a4 a5 : Int) (h : zH) : (M_maskOf_19b krZ r19Z a1 a2 a3 a4 a5 h).bind e = M_maskOf_19b krA r19A a1 a2 a3 a4 a5 h := by
  refine Eq.trans (congrArg (fun z => Option.bind z e) (qe_M_maskOf_19b krZ r19Z a1 a2 a3 a4 a5 h)) (Eq.trans ?_ (Eq.symm (qe_M_maskOf_19b krA r19A a1 a2 a3 a4 a5 h)))
  generalize (400 : Nat) = f9
  refine zseg_e e (zcal_e _ _ ?_) (zorc_e _ _ ?_) hk (fun _ _ => rfl) f9 _ _ _ _
  · exact ⟨rfl, rfl, zca2_e (fun x0 x1 h k t => n_M_threadCell e (fun _ _ => rfl) x0 x1 h), trivial⟩
  · exact ⟨rfl, rfl, rfl, zap5_e (fun x0 x1 x2 x3 x4 h => n_M_maskOf_98 e hk h19 x0 x1 x2 x3 x4 h), ⟨rfl, rfl, rfl, zap6_e (fun x0 x1 x2 x3 x4 x5 h => n_M_maskOf_99 e hk h19 x0 x1 x2 x3 x4 x5 h), ⟨rfl, rfl, rfl, zap1_e (fun x0 h => n_M_maskOf_108 e hk x0 h), trivial⟩⟩⟩
theorem n_M_maskOf_19 {ρ : Type} (e : zRes → Option ρ) {krA : Int → zH → Option ρ} {krZ : Int → zH → Option zRes} (hk : ∀ v h, (krZ v h).bind e = krA v h) (a1 a2 a3 a4 a5 : Int) (h : zH) : (M_maskOf_19 krZ a1 a2 a3 a4 a5 h).bind e = M_maskOf_19 krA a1 a2 a3 a4 a5 h := zit5_e (fun rA rZ hh a1 a2 a3 a4 a5 h => n_M_maskOf_19b e hk hh a1 a2 a3 a4 a5 h) zN a1 a2 a3 a4 a5 h
set_option maxRecDepth 100000 in
set_option maxHeartbeats 0 in
theorem n_M_maskOf {ρ : Type} (e : zRes → Option ρ) {krA : Int → zH → Option ρ} {krZ : Int → zH → Option zRes} (hk : ∀ v h, (krZ v h).bind e = krA v h) (a1 : Int) (h : zH) : (M_maskOf a1 h krZ).bind e = M_maskOf a1 h krA := by
  refine Eq.trans (congrArg (fun z => Option.bind z e) (qe_M_maskOf krZ a1 h)) (Eq.trans ?_ (Eq.symm (qe_M_maskOf krA a1 h)))
  generalize (400 : Nat) = f9
  refine zseg_e e (zcal_e _ _ ?_) (zorc_e _ _ ?_) hk (fun _ _ => rfl) f9 _ _ _ _
  · exact ⟨rfl, rfl, zca1_e (fun x0 h k t => n_M_placeOf e (fun _ _ => rfl) x0 h), trivial⟩
  · exact ⟨rfl, rfl, rfl, zap5_e (fun x0 x1 x2 x3 x4 h => n_M_maskOf_19 e hk x0 x1 x2 x3 x4 h), trivial⟩
set_option maxRecDepth 100000 in
set_option maxHeartbeats 0 in
theorem n_M_registerCell {ρ : Type} (e : zRes → Option ρ) {krA : Int → zH → Option ρ} {krZ : Int → zH → Option zRes} (hk : ∀ v h, (krZ v h).bind e = krA v h) (a1 a2 a3 : Int) (h : zH) : (M_registerCell a1 a2 a3 h krZ).bind e = M_registerCell a1 a2 a3 h krA := by
  refine Eq.trans (congrArg (fun z => Option.bind z e) (qe_M_registerCell krZ a1 a2 a3 h)) (Eq.trans ?_ (Eq.symm (qe_M_registerCell krA a1 a2 a3 h)))
  generalize (400 : Nat) = f9
  refine zseg_e e (zcal_e _ _ ?_) (zorc_e _ _ ?_) hk (fun _ _ => rfl) f9 _ _ _ _
  · exact ⟨rfl, rfl, zca2_e (fun x0 x1 h k t => n_M_threadCell e (fun _ _ => rfl) x0 x1 h), trivial⟩
  · exact trivial
set_option maxRecDepth 100000 in
set_option maxHeartbeats 0 in
theorem n_M_lane {ρ : Type} (e : zRes → Option ρ) {krA : Int → zH → Option ρ} {krZ : Int → zH → Option zRes} (hk : ∀ v h, (krZ v h).bind e = krA v h) (a1 a2 : Int) (h : zH) : (M_lane a1 a2 h krZ).bind e = M_lane a1 a2 h krA := by
  refine Eq.trans (congrArg (fun z => Option.bind z e) (qe_M_lane krZ a1 a2 h)) (Eq.trans ?_ (Eq.symm (qe_M_lane krA a1 a2 h)))
  generalize (400 : Nat) = f9
  refine zseg_e e (zcal_e _ _ ?_) (zorc_e _ _ ?_) hk (fun _ _ => rfl) f9 _ _ _ _
  · exact trivial
  · exact trivial
set_option maxRecDepth 100000 in
set_option maxHeartbeats 0 in
theorem n_M_set {ρ : Type} (e : zRes → Option ρ) {krA : Int → zH → Option ρ} {krZ : Int → zH → Option zRes} (hk : ∀ v h, (krZ v h).bind e = krA v h) (a1 a2 a3 a4 : Int) (h : zH) : (M_set a1 a2 a3 a4 h krZ).bind e = M_set a1 a2 a3 a4 h krA := by
  refine Eq.trans (congrArg (fun z => Option.bind z e) (qe_M_set krZ a1 a2 a3 a4 h)) (Eq.trans ?_ (Eq.symm (qe_M_set krA a1 a2 a3 a4 h)))
  generalize (400 : Nat) = f9
  refine zseg_e e (zcal_e _ _ ?_) (zorc_e _ _ ?_) hk (fun _ _ => rfl) f9 _ _ _ _
  · exact ⟨rfl, rfl, zca3_e (fun x0 x1 x2 h k t => n_M_registerCell e (fun _ _ => rfl) x0 x1 x2 h), trivial⟩
  · exact trivial
set_option maxRecDepth 100000 in
set_option maxHeartbeats 0 in
theorem n_M_isUnder_17 {ρ : Type} (e : zRes → Option ρ) {krA : Int → zH → Option ρ} {krZ : Int → zH → Option zRes} (hk : ∀ v h, (krZ v h).bind e = krA v h) (t0 : Int) (h : zH) : (M_isUnder_17 krZ t0 h).bind e = M_isUnder_17 krA t0 h := by
  refine Eq.trans (congrArg (fun z => Option.bind z e) (qe_M_isUnder_17 krZ t0 h)) (Eq.trans ?_ (Eq.symm (qe_M_isUnder_17 krA t0 h)))
  generalize (400 : Nat) = f9
  refine zseg_e e (zcal_e _ _ ?_) (zorc_e _ _ ?_) hk (fun _ _ => rfl) f9 _ _ _ _
  · exact trivial
  · exact trivial
set_option maxRecDepth 100000 in
set_option maxHeartbeats 0 in
theorem n_M_isUnder {ρ : Type} (e : zRes → Option ρ) {krA : Int → zH → Option ρ} {krZ : Int → zH → Option zRes} (hk : ∀ v h, (krZ v h).bind e = krA v h) (a1 : Int) (h : zH) : (M_isUnder a1 h krZ).bind e = M_isUnder a1 h krA := by
  refine Eq.trans (congrArg (fun z => Option.bind z e) (qe_M_isUnder krZ a1 h)) (Eq.trans ?_ (Eq.symm (qe_M_isUnder krA a1 h)))
  generalize (400 : Nat) = f9
  refine zseg_e e (zcal_e _ _ ?_) (zorc_e _ _ ?_) hk (fun _ _ => rfl) f9 _ _ _ _
  · exact trivial
  · exact ⟨rfl, rfl, rfl, zap1_e (fun x0 h => n_M_isUnder_17 e hk x0 h), trivial⟩
set_option maxRecDepth 100000 in
set_option maxHeartbeats 0 in
theorem n_M_modulo {ρ : Type} (e : zRes → Option ρ) {krA : Int → zH → Option ρ} {krZ : Int → zH → Option zRes} (hk : ∀ v h, (krZ v h).bind e = krA v h) (a0 : Int) (h : zH) : (M_modulo a0 h krZ).bind e = M_modulo a0 h krA := by
  refine Eq.trans (congrArg (fun z => Option.bind z e) (qe_M_modulo krZ a0 h)) (Eq.trans ?_ (Eq.symm (qe_M_modulo krA a0 h)))
  generalize (400 : Nat) = f9
  refine zseg_e e (zcal_e _ _ ?_) (zorc_e _ _ ?_) hk (fun _ _ => rfl) f9 _ _ _ _
  · exact trivial
  · exact trivial
set_option maxRecDepth 100000 in
set_option maxHeartbeats 0 in
theorem n_M_vote_34 {ρ : Type} (e : zRes → Option ρ) {krA : Int → zH → Option ρ} {krZ : Int → zH → Option zRes} (hk : ∀ v h, (krZ v h).bind e = krA v h) {r4A : Int → Int → Int → zH → Option ρ} {r4Z : Int → Int → Int → zH → Option zRes} (h4 : ∀ (x0 x1 x2 : Int) (h : zH), (r4Z x0 x1 x2 h).bind e = r4A x0 x1 x2 h) (a1 a3 t0 t1 : Int) (h : zH) : (M_vote_34 krZ r4Z a1 a3 t0 t1 h).bind e = M_vote_34 krA r4A a1 a3 t0 t1 h := by
  refine Eq.trans (congrArg (fun z => Option.bind z e) (qe_M_vote_34 krZ r4Z a1 a3 t0 t1 h)) (Eq.trans ?_ (Eq.symm (qe_M_vote_34 krA r4A a1 a3 t0 t1 h)))
  generalize (400 : Nat) = f9
  refine zseg_e e (zcal_e _ _ ?_) (zorc_e _ _ ?_) hk (fun _ _ => rfl) f9 _ _ _ _
  · exact trivial
  · exact ⟨rfl, rfl, rfl, zap3_e h4, trivial⟩
set_option maxRecDepth 100000 in
set_option maxHeartbeats 0 in
theorem n_M_vote_33 {ρ : Type} (e : zRes → Option ρ) {krA : Int → zH → Option ρ} {krZ : Int → zH → Option zRes} (hk : ∀ v h, (krZ v h).bind e = krA v h) {r4A : Int → Int → Int → zH → Option ρ} {r4Z : Int → Int → Int → zH → Option zRes} (h4 : ∀ (x0 x1 x2 : Int) (h : zH), (r4Z x0 x1 x2 h).bind e = r4A x0 x1 x2 h) (a1 a3 t0 : Int) (h : zH) : (M_vote_33 krZ r4Z a1 a3 t0 h).bind e = M_vote_33 krA r4A a1 a3 t0 h := by
  refine Eq.trans (congrArg (fun z => Option.bind z e) (qe_M_vote_33 krZ r4Z a1 a3 t0 h)) (Eq.trans ?_ (Eq.symm (qe_M_vote_33 krA r4A a1 a3 t0 h)))
  generalize (400 : Nat) = f9
  refine zseg_e e (zcal_e _ _ ?_) (zorc_e _ _ ?_) hk (fun _ _ => rfl) f9 _ _ _ _
  · exact trivial
  · exact ⟨rfl, rfl, rfl, zap4_e (fun x0 x1 x2 x3 h => n_M_vote_34 e hk h4 x0 x1 x2 x3 h), trivial⟩
set_option maxRecDepth 100000 in
set_option maxHeartbeats 0 in
theorem n_M_vote_4b {ρ : Type} (e : zRes → Option ρ) {krA : Int → zH → Option ρ} {krZ : Int → zH → Option zRes} (hk : ∀ v h, (krZ v h).bind e = krA v h) {r4A : Int → Int → Int → zH → Option ρ} {r4Z : Int → Int → Int → zH → Option zRes} (h4 : ∀ (x0 x1 x2 : Int) (h : zH), (r4Z x0 x1 x2 h).bind e = r4A x0 x1 x2 h) (a1 a2 a3 : Int) (h : zH) : (M_vote_4b krZ r4Z a1 a2 a3 h).bind e = M_vote_4b krA r4A a1 a2 a3 h := by
  refine Eq.trans (congrArg (fun z => Option.bind z e) (qe_M_vote_4b krZ r4Z a1 a2 a3 h)) (Eq.trans ?_ (Eq.symm (qe_M_vote_4b krA r4A a1 a2 a3 h)))
  generalize (400 : Nat) = f9
  refine zseg_e e (zcal_e _ _ ?_) (zorc_e _ _ ?_) hk (fun _ _ => rfl) f9 _ _ _ _
  · exact ⟨rfl, rfl, zca2_e (fun x0 x1 h k t => n_M_lane e (fun _ _ => rfl) x0 x1 h), ⟨rfl, rfl, zca1_e (fun x0 h k t => n_M_isUnder e (fun _ _ => rfl) x0 h), trivial⟩⟩
  · exact ⟨rfl, rfl, rfl, zap3_e (fun x0 x1 x2 h => n_M_vote_33 e hk h4 x0 x1 x2 h), ⟨rfl, rfl, rfl, zap4_e (fun x0 x1 x2 x3 h => n_M_vote_34 e hk h4 x0 x1 x2 x3 h), trivial⟩⟩
theorem n_M_vote_4 {ρ : Type} (e : zRes → Option ρ) {krA : Int → zH → Option ρ} {krZ : Int → zH → Option zRes} (hk : ∀ v h, (krZ v h).bind e = krA v h) (a1 a2 a3 : Int) (h : zH) : (M_vote_4 krZ a1 a2 a3 h).bind e = M_vote_4 krA a1 a2 a3 h := zit3_e (fun rA rZ hh a1 a2 a3 h => n_M_vote_4b e hk hh a1 a2 a3 h) zN a1 a2 a3 h
set_option maxRecDepth 100000 in
set_option maxHeartbeats 0 in
theorem n_M_vote {ρ : Type} (e : zRes → Option ρ) {krA : Int → zH → Option ρ} {krZ : Int → zH → Option zRes} (hk : ∀ v h, (krZ v h).bind e = krA v h) (a1 : Int) (h : zH) : (M_vote a1 h krZ).bind e = M_vote a1 h krA := by
  refine Eq.trans (congrArg (fun z => Option.bind z e) (qe_M_vote krZ a1 h)) (Eq.trans ?_ (Eq.symm (qe_M_vote krA a1 h)))
  generalize (400 : Nat) = f9
  refine zseg_e e (zcal_e _ _ ?_) (zorc_e _ _ ?_) hk (fun _ _ => rfl) f9 _ _ _ _
  · exact trivial
  · exact ⟨rfl, rfl, rfl, zap3_e (fun x0 x1 x2 h => n_M_vote_4 e hk x0 x1 x2 h), trivial⟩
set_option maxRecDepth 100000 in
set_option maxHeartbeats 0 in
theorem n_M_seen_49 {ρ : Type} (e : zRes → Option ρ) {krA : Int → zH → Option ρ} {krZ : Int → zH → Option zRes} (hk : ∀ v h, (krZ v h).bind e = krA v h) {r12A : Int → Int → Int → Int → zH → Option ρ} {r12Z : Int → Int → Int → Int → zH → Option zRes} (h12 : ∀ (x0 x1 x2 x3 : Int) (h : zH), (r12Z x0 x1 x2 x3 h).bind e = r12A x0 x1 x2 x3 h) (a1 a2 a4 t0 : Int) (h : zH) : (M_seen_49 krZ r12Z a1 a2 a4 t0 h).bind e = M_seen_49 krA r12A a1 a2 a4 t0 h := by
  refine Eq.trans (congrArg (fun z => Option.bind z e) (qe_M_seen_49 krZ r12Z a1 a2 a4 t0 h)) (Eq.trans ?_ (Eq.symm (qe_M_seen_49 krA r12A a1 a2 a4 t0 h)))
  generalize (400 : Nat) = f9
  refine zseg_e e (zcal_e _ _ ?_) (zorc_e _ _ ?_) hk (fun _ _ => rfl) f9 _ _ _ _
  · exact trivial
  · exact ⟨rfl, rfl, rfl, zap4_e h12, trivial⟩
set_option maxRecDepth 100000 in
set_option maxHeartbeats 0 in
theorem n_M_seen_12b {ρ : Type} (e : zRes → Option ρ) {krA : Int → zH → Option ρ} {krZ : Int → zH → Option zRes} (hk : ∀ v h, (krZ v h).bind e = krA v h) {r12A : Int → Int → Int → Int → zH → Option ρ} {r12Z : Int → Int → Int → Int → zH → Option zRes} (h12 : ∀ (x0 x1 x2 x3 : Int) (h : zH), (r12Z x0 x1 x2 x3 h).bind e = r12A x0 x1 x2 x3 h) (a1 a2 a3 a4 : Int) (h : zH) : (M_seen_12b krZ r12Z a1 a2 a3 a4 h).bind e = M_seen_12b krA r12A a1 a2 a3 a4 h := by
  refine Eq.trans (congrArg (fun z => Option.bind z e) (qe_M_seen_12b krZ r12Z a1 a2 a3 a4 h)) (Eq.trans ?_ (Eq.symm (qe_M_seen_12b krA r12A a1 a2 a3 a4 h)))
  generalize (400 : Nat) = f9
  refine zseg_e e (zcal_e _ _ ?_) (zorc_e _ _ ?_) hk (fun _ _ => rfl) f9 _ _ _ _
  · exact trivial
  · exact ⟨rfl, rfl, rfl, zap4_e (fun x0 x1 x2 x3 h => n_M_seen_49 e hk h12 x0 x1 x2 x3 h), trivial⟩
theorem n_M_seen_12 {ρ : Type} (e : zRes → Option ρ) {krA : Int → zH → Option ρ} {krZ : Int → zH → Option zRes} (hk : ∀ v h, (krZ v h).bind e = krA v h) (a1 a2 a3 a4 : Int) (h : zH) : (M_seen_12 krZ a1 a2 a3 a4 h).bind e = M_seen_12 krA a1 a2 a3 a4 h := zit4_e (fun rA rZ hh a1 a2 a3 a4 h => n_M_seen_12b e hk hh a1 a2 a3 a4 h) zN a1 a2 a3 a4 h
set_option maxRecDepth 100000 in
set_option maxHeartbeats 0 in
theorem n_M_seen {ρ : Type} (e : zRes → Option ρ) {krA : Int → zH → Option ρ} {krZ : Int → zH → Option zRes} (hk : ∀ v h, (krZ v h).bind e = krA v h) (a1 a2 : Int) (h : zH) : (M_seen a1 a2 h krZ).bind e = M_seen a1 a2 h krA := by
  refine Eq.trans (congrArg (fun z => Option.bind z e) (qe_M_seen krZ a1 a2 h)) (Eq.trans ?_ (Eq.symm (qe_M_seen krA a1 a2 h)))
  generalize (400 : Nat) = f9
  refine zseg_e e (zcal_e _ _ ?_) (zorc_e _ _ ?_) hk (fun _ _ => rfl) f9 _ _ _ _
  · exact trivial
  · exact ⟨rfl, rfl, rfl, zap4_e (fun x0 x1 x2 x3 h => n_M_seen_12 e hk x0 x1 x2 x3 h), trivial⟩
set_option maxRecDepth 100000 in
set_option maxHeartbeats 0 in
theorem n_M_cellOf_37 {ρ : Type} (e : zRes → Option ρ) {krA : Int → zH → Option ρ} {krZ : Int → zH → Option zRes} (hk : ∀ v h, (krZ v h).bind e = krA v h) (t0 : Int) (h : zH) : (M_cellOf_37 krZ t0 h).bind e = M_cellOf_37 krA t0 h := by
  refine Eq.trans (congrArg (fun z => Option.bind z e) (qe_M_cellOf_37 krZ t0 h)) (Eq.trans ?_ (Eq.symm (qe_M_cellOf_37 krA t0 h)))
  generalize (400 : Nat) = f9
  refine zseg_e e (zcal_e _ _ ?_) (zorc_e _ _ ?_) hk (fun _ _ => rfl) f9 _ _ _ _
  · exact trivial
  · exact trivial
set_option maxRecDepth 100000 in
set_option maxHeartbeats 0 in
theorem n_M_cellOf_12 {ρ : Type} (e : zRes → Option ρ) {krA : Int → zH → Option ρ} {krZ : Int → zH → Option zRes} (hk : ∀ v h, (krZ v h).bind e = krA v h) (a2 a3 : Int) (h : zH) : (M_cellOf_12 krZ a2 a3 h).bind e = M_cellOf_12 krA a2 a3 h := by
  refine Eq.trans (congrArg (fun z => Option.bind z e) (qe_M_cellOf_12 krZ a2 a3 h)) (Eq.trans ?_ (Eq.symm (qe_M_cellOf_12 krA a2 a3 h)))
  generalize (400 : Nat) = f9
  refine zseg_e e (zcal_e _ _ ?_) (zorc_e _ _ ?_) hk (fun _ _ => rfl) f9 _ _ _ _
  · exact ⟨rfl, rfl, zca2_e (fun x0 x1 h k t => n_M_lane e (fun _ _ => rfl) x0 x1 h), trivial⟩
  · exact ⟨rfl, rfl, rfl, zap1_e (fun x0 h => n_M_cellOf_37 e hk x0 h), trivial⟩
set_option maxRecDepth 100000 in
set_option maxHeartbeats 0 in
theorem n_M_cellOf {ρ : Type} (e : zRes → Option ρ) {krA : Int → zH → Option ρ} {krZ : Int → zH → Option zRes} (hk : ∀ v h, (krZ v h).bind e = krA v h) (a1 a2 a3 : Int) (h : zH) : (M_cellOf a1 a2 a3 h krZ).bind e = M_cellOf a1 a2 a3 h krA := by
  refine Eq.trans (congrArg (fun z => Option.bind z e) (qe_M_cellOf krZ a1 a2 a3 h)) (Eq.trans ?_ (Eq.symm (qe_M_cellOf krA a1 a2 a3 h)))
  generalize (400 : Nat) = f9
  refine zseg_e e (zcal_e _ _ ?_) (zorc_e _ _ ?_) hk (fun _ _ => rfl) f9 _ _ _ _
  · exact ⟨rfl, rfl, zca2_e (fun x0 x1 h k t => n_M_lane e (fun _ _ => rfl) x0 x1 h), trivial⟩
  · exact ⟨rfl, rfl, rfl, zap2_e (fun x0 x1 h => n_M_cellOf_12 e hk x0 x1 h), ⟨rfl, rfl, rfl, zap1_e (fun x0 h => n_M_cellOf_37 e hk x0 h), trivial⟩⟩
set_option maxRecDepth 100000 in
set_option maxHeartbeats 0 in
theorem n_M_isGlobal_29 {ρ : Type} (e : zRes → Option ρ) {krA : Int → zH → Option ρ} {krZ : Int → zH → Option zRes} (hk : ∀ v h, (krZ v h).bind e = krA v h) (t0 : Int) (h : zH) : (M_isGlobal_29 krZ t0 h).bind e = M_isGlobal_29 krA t0 h := by
  refine Eq.trans (congrArg (fun z => Option.bind z e) (qe_M_isGlobal_29 krZ t0 h)) (Eq.trans ?_ (Eq.symm (qe_M_isGlobal_29 krA t0 h)))
  generalize (400 : Nat) = f9
  refine zseg_e e (zcal_e _ _ ?_) (zorc_e _ _ ?_) hk (fun _ _ => rfl) f9 _ _ _ _
  · exact trivial
  · exact trivial
set_option maxRecDepth 100000 in
set_option maxHeartbeats 0 in
theorem n_M_isGlobal_24 {ρ : Type} (e : zRes → Option ρ) {krA : Int → zH → Option ρ} {krZ : Int → zH → Option zRes} (hk : ∀ v h, (krZ v h).bind e = krA v h) (h : zH) : (M_isGlobal_24 krZ h).bind e = M_isGlobal_24 krA h := by
  refine Eq.trans (congrArg (fun z => Option.bind z e) (qe_M_isGlobal_24 krZ h)) (Eq.trans ?_ (Eq.symm (qe_M_isGlobal_24 krA h)))
  generalize (400 : Nat) = f9
  refine zseg_e e (zcal_e _ _ ?_) (zorc_e _ _ ?_) hk (fun _ _ => rfl) f9 _ _ _ _
  · exact trivial
  · exact ⟨rfl, rfl, rfl, zap1_e (fun x0 h => n_M_isGlobal_29 e hk x0 h), trivial⟩
set_option maxRecDepth 100000 in
set_option maxHeartbeats 0 in
theorem n_M_isGlobal {ρ : Type} (e : zRes → Option ρ) {krA : Int → zH → Option ρ} {krZ : Int → zH → Option zRes} (hk : ∀ v h, (krZ v h).bind e = krA v h) (a0 : Int) (h : zH) : (M_isGlobal a0 h krZ).bind e = M_isGlobal a0 h krA := by
  refine Eq.trans (congrArg (fun z => Option.bind z e) (qe_M_isGlobal krZ a0 h)) (Eq.trans ?_ (Eq.symm (qe_M_isGlobal krA a0 h)))
  generalize (400 : Nat) = f9
  refine zseg_e e (zcal_e _ _ ?_) (zorc_e _ _ ?_) hk (fun _ _ => rfl) f9 _ _ _ _
  · exact trivial
  · exact ⟨rfl, rfl, rfl, zap0_e (fun  h => n_M_isGlobal_24 e hk  h), ⟨rfl, rfl, rfl, zap1_e (fun x0 h => n_M_isGlobal_29 e hk x0 h), trivial⟩⟩
set_option maxRecDepth 100000 in
set_option maxHeartbeats 0 in
theorem n_M_isShared_17 {ρ : Type} (e : zRes → Option ρ) {krA : Int → zH → Option ρ} {krZ : Int → zH → Option zRes} (hk : ∀ v h, (krZ v h).bind e = krA v h) (t0 : Int) (h : zH) : (M_isShared_17 krZ t0 h).bind e = M_isShared_17 krA t0 h := by
  refine Eq.trans (congrArg (fun z => Option.bind z e) (qe_M_isShared_17 krZ t0 h)) (Eq.trans ?_ (Eq.symm (qe_M_isShared_17 krA t0 h)))
  generalize (400 : Nat) = f9
  refine zseg_e e (zcal_e _ _ ?_) (zorc_e _ _ ?_) hk (fun _ _ => rfl) f9 _ _ _ _
  · exact trivial
  · exact trivial
set_option maxRecDepth 100000 in
set_option maxHeartbeats 0 in
theorem n_M_isShared_12 {ρ : Type} (e : zRes → Option ρ) {krA : Int → zH → Option ρ} {krZ : Int → zH → Option zRes} (hk : ∀ v h, (krZ v h).bind e = krA v h) (h : zH) : (M_isShared_12 krZ h).bind e = M_isShared_12 krA h := by
  refine Eq.trans (congrArg (fun z => Option.bind z e) (qe_M_isShared_12 krZ h)) (Eq.trans ?_ (Eq.symm (qe_M_isShared_12 krA h)))
  generalize (400 : Nat) = f9
  refine zseg_e e (zcal_e _ _ ?_) (zorc_e _ _ ?_) hk (fun _ _ => rfl) f9 _ _ _ _
  · exact trivial
  · exact ⟨rfl, rfl, rfl, zap1_e (fun x0 h => n_M_isShared_17 e hk x0 h), trivial⟩
set_option maxRecDepth 100000 in
set_option maxHeartbeats 0 in
theorem n_M_isShared {ρ : Type} (e : zRes → Option ρ) {krA : Int → zH → Option ρ} {krZ : Int → zH → Option zRes} (hk : ∀ v h, (krZ v h).bind e = krA v h) (a0 : Int) (h : zH) : (M_isShared a0 h krZ).bind e = M_isShared a0 h krA := by
  refine Eq.trans (congrArg (fun z => Option.bind z e) (qe_M_isShared krZ a0 h)) (Eq.trans ?_ (Eq.symm (qe_M_isShared krA a0 h)))
  generalize (400 : Nat) = f9
  refine zseg_e e (zcal_e _ _ ?_) (zorc_e _ _ ?_) hk (fun _ _ => rfl) f9 _ _ _ _
  · exact trivial
  · exact ⟨rfl, rfl, rfl, zap0_e (fun  h => n_M_isShared_12 e hk  h), ⟨rfl, rfl, rfl, zap1_e (fun x0 h => n_M_isShared_17 e hk x0 h), trivial⟩⟩
set_option maxRecDepth 100000 in
set_option maxHeartbeats 0 in
theorem n_M_compute_61 {ρ : Type} (e : zRes → Option ρ) {krA : Int → zH → Option ρ} {krZ : Int → zH → Option zRes} (hk : ∀ v h, (krZ v h).bind e = krA v h) (t0 : Int) (h : zH) : (M_compute_61 krZ t0 h).bind e = M_compute_61 krA t0 h := by
  refine Eq.trans (congrArg (fun z => Option.bind z e) (qe_M_compute_61 krZ t0 h)) (Eq.trans ?_ (Eq.symm (qe_M_compute_61 krA t0 h)))
  generalize (400 : Nat) = f9
  refine zseg_e e (zcal_e _ _ ?_) (zorc_e _ _ ?_) hk (fun _ _ => rfl) f9 _ _ _ _
  · exact trivial
  · exact trivial
set_option maxRecDepth 100000 in
set_option maxHeartbeats 0 in
theorem n_M_compute {ρ : Type} (e : zRes → Option ρ) {krA : Int → zH → Option ρ} {krZ : Int → zH → Option zRes} (hk : ∀ v h, (krZ v h).bind e = krA v h) (a0 a1 a2 : Int) (h : zH) : (M_compute a0 a1 a2 h krZ).bind e = M_compute a0 a1 a2 h krA := by
  refine Eq.trans (congrArg (fun z => Option.bind z e) (qe_M_compute krZ a0 a1 a2 h)) (Eq.trans ?_ (Eq.symm (qe_M_compute krA a0 a1 a2 h)))
  generalize (400 : Nat) = f9
  refine zseg_e e (zcal_e _ _ ?_) (zorc_e _ _ ?_) hk (fun _ _ => rfl) f9 _ _ _ _
  · exact trivial
  · exact ⟨rfl, rfl, rfl, zap1_e (fun x0 h => n_M_compute_61 e hk x0 h), trivial⟩
set_option maxRecDepth 100000 in
set_option maxHeartbeats 0 in
theorem n_M_doCell_118 {ρ : Type} (e : zRes → Option ρ) {krA : Int → zH → Option ρ} {krZ : Int → zH → Option zRes} (hk : ∀ v h, (krZ v h).bind e = krA v h) (h : zH) : (M_doCell_118 krZ h).bind e = M_doCell_118 krA h := by
  refine Eq.trans (congrArg (fun z => Option.bind z e) (qe_M_doCell_118 krZ h)) (Eq.trans ?_ (Eq.symm (qe_M_doCell_118 krA h)))
  generalize (400 : Nat) = f9
  refine zseg_e e (zcal_e _ _ ?_) (zorc_e _ _ ?_) hk (fun _ _ => rfl) f9 _ _ _ _
  · exact trivial
  · exact trivial
set_option maxRecDepth 100000 in
set_option maxHeartbeats 0 in
theorem n_M_doCell_55 {ρ : Type} (e : zRes → Option ρ) {krA : Int → zH → Option ρ} {krZ : Int → zH → Option zRes} (hk : ∀ v h, (krZ v h).bind e = krA v h) (a1 a2 a3 a4 a5 a7 t0 t1 t2 t3 : Int) (h : zH) : (M_doCell_55 krZ a1 a2 a3 a4 a5 a7 t0 t1 t2 t3 h).bind e = M_doCell_55 krA a1 a2 a3 a4 a5 a7 t0 t1 t2 t3 h := by
  refine Eq.trans (congrArg (fun z => Option.bind z e) (qe_M_doCell_55 krZ a1 a2 a3 a4 a5 a7 t0 t1 t2 t3 h)) (Eq.trans ?_ (Eq.symm (qe_M_doCell_55 krA a1 a2 a3 a4 a5 a7 t0 t1 t2 t3 h)))
  generalize (400 : Nat) = f9
  refine zseg_e e (zcal_e _ _ ?_) (zorc_e _ _ ?_) hk (fun _ _ => rfl) f9 _ _ _ _
  · exact ⟨rfl, rfl, zca4_e (fun x0 x1 x2 x3 h k t => n_M_accessShared e (fun _ _ => rfl) x0 x1 x2 x3 h), ⟨rfl, rfl, zca2_e (fun x0 x1 h k t => n_M_lane e (fun _ _ => rfl) x0 x1 h), ⟨rfl, rfl, zca4_e (fun x0 x1 x2 x3 h k t => n_M_set e (fun _ _ => rfl) x0 x1 x2 x3 h), trivial⟩⟩⟩
  · exact ⟨rfl, rfl, rfl, zap0_e (fun  h => n_M_doCell_118 e hk  h), trivial⟩
set_option maxRecDepth 100000 in
set_option maxHeartbeats 0 in
theorem n_M_doCell_324 {ρ : Type} (e : zRes → Option ρ) {krA : Int → zH → Option ρ} {krZ : Int → zH → Option zRes} (hk : ∀ v h, (krZ v h).bind e = krA v h) (h : zH) : (M_doCell_324 krZ h).bind e = M_doCell_324 krA h := by
  refine Eq.trans (congrArg (fun z => Option.bind z e) (qe_M_doCell_324 krZ h)) (Eq.trans ?_ (Eq.symm (qe_M_doCell_324 krA h)))
  generalize (400 : Nat) = f9
  refine zseg_e e (zcal_e _ _ ?_) (zorc_e _ _ ?_) hk (fun _ _ => rfl) f9 _ _ _ _
  · exact trivial
  · exact trivial
set_option maxRecDepth 100000 in
set_option maxHeartbeats 0 in
theorem n_M_doCell_200 {ρ : Type} (e : zRes → Option ρ) {krA : Int → zH → Option ρ} {krZ : Int → zH → Option zRes} (hk : ∀ v h, (krZ v h).bind e = krA v h) (a1 a2 a4 a7 : Int) (h : zH) : (M_doCell_200 krZ a1 a2 a4 a7 h).bind e = M_doCell_200 krA a1 a2 a4 a7 h := by
  refine Eq.trans (congrArg (fun z => Option.bind z e) (qe_M_doCell_200 krZ a1 a2 a4 a7 h)) (Eq.trans ?_ (Eq.symm (qe_M_doCell_200 krA a1 a2 a4 a7 h)))
  generalize (400 : Nat) = f9
  refine zseg_e e (zcal_e _ _ ?_) (zorc_e _ _ ?_) hk (fun _ _ => rfl) f9 _ _ _ _
  · exact ⟨rfl, rfl, zca2_e (fun x0 x1 h k t => n_M_lane e (fun _ _ => rfl) x0 x1 h), trivial⟩
  · exact ⟨rfl, rfl, rfl, zap0_e (fun  h => n_M_doCell_324 e hk  h), trivial⟩
set_option maxRecDepth 100000 in
set_option maxHeartbeats 0 in
theorem n_M_doCell_308 {ρ : Type} (e : zRes → Option ρ) {krA : Int → zH → Option ρ} {krZ : Int → zH → Option zRes} (hk : ∀ v h, (krZ v h).bind e = krA v h) (a1 a2 a4 a8 t0 t1 : Int) (h : zH) : (M_doCell_308 krZ a1 a2 a4 a8 t0 t1 h).bind e = M_doCell_308 krA a1 a2 a4 a8 t0 t1 h := by
  refine Eq.trans (congrArg (fun z => Option.bind z e) (qe_M_doCell_308 krZ a1 a2 a4 a8 t0 t1 h)) (Eq.trans ?_ (Eq.symm (qe_M_doCell_308 krA a1 a2 a4 a8 t0 t1 h)))
  generalize (400 : Nat) = f9
  refine zseg_e e (zcal_e _ _ ?_) (zorc_e _ _ ?_) hk (fun _ _ => rfl) f9 _ _ _ _
  · exact ⟨rfl, rfl, zca4_e (fun x0 x1 x2 x3 h k t => n_M_set e (fun _ _ => rfl) x0 x1 x2 x3 h), trivial⟩
  · exact ⟨rfl, rfl, rfl, zap0_e (fun  h => n_M_doCell_324 e hk  h), trivial⟩
set_option maxRecDepth 100000 in
set_option maxHeartbeats 0 in
theorem n_M_doCell_137 {ρ : Type} (e : zRes → Option ρ) {krA : Int → zH → Option ρ} {krZ : Int → zH → Option zRes} (hk : ∀ v h, (krZ v h).bind e = krA v h) (a1 a2 a3 a4 a7 t0 t1 t2 t3 : Int) (h : zH) : (M_doCell_137 krZ a1 a2 a3 a4 a7 t0 t1 t2 t3 h).bind e = M_doCell_137 krA a1 a2 a3 a4 a7 t0 t1 t2 t3 h := by
  refine Eq.trans (congrArg (fun z => Option.bind z e) (qe_M_doCell_137 krZ a1 a2 a3 a4 a7 t0 t1 t2 t3 h)) (Eq.trans ?_ (Eq.symm (qe_M_doCell_137 krA a1 a2 a3 a4 a7 t0 t1 t2 t3 h)))
  generalize (400 : Nat) = f9
  refine zseg_e e (zcal_e _ _ ?_) (zorc_e _ _ ?_) hk (fun _ _ => rfl) f9 _ _ _ _
  · exact ⟨rfl, rfl, zca1_e (fun x0 h k t => n_M_writeFirst e (fun _ _ => rfl) x0 h), ⟨rfl, rfl, zca4_e (fun x0 x1 x2 x3 h k t => n_M_access e (fun _ _ => rfl) x0 x1 x2 x3 h), ⟨rfl, rfl, zca2_e (fun x0 x1 h k t => n_M_lane e (fun _ _ => rfl) x0 x1 h), ⟨rfl, rfl, zca4_e (fun x0 x1 x2 x3 h k t => n_M_set e (fun _ _ => rfl) x0 x1 x2 x3 h), ⟨rfl, rfl, zca2_e (fun x0 x1 h k t => n_M_seen e (fun _ _ => rfl) x0 x1 h), trivial⟩⟩⟩⟩⟩
  · exact ⟨rfl, rfl, rfl, zap4_e (fun x0 x1 x2 x3 h => n_M_doCell_200 e hk x0 x1 x2 x3 h), ⟨rfl, rfl, rfl, zap6_e (fun x0 x1 x2 x3 x4 x5 h => n_M_doCell_308 e hk x0 x1 x2 x3 x4 x5 h), ⟨rfl, rfl, rfl, zap0_e (fun  h => n_M_doCell_324 e hk  h), trivial⟩⟩⟩
set_option maxRecDepth 100000 in
set_option maxHeartbeats 0 in
theorem n_M_doCell {ρ : Type} (e : zRes → Option ρ) {krA : Int → zH → Option ρ} {krZ : Int → zH → Option zRes} (hk : ∀ v h, (krZ v h).bind e = krA v h) (a1 a2 a3 a4 : Int) (h : zH) : (M_doCell a1 a2 a3 a4 h krZ).bind e = M_doCell a1 a2 a3 a4 h krA := by
  refine Eq.trans (congrArg (fun z => Option.bind z e) (qe_M_doCell krZ a1 a2 a3 a4 h)) (Eq.trans ?_ (Eq.symm (qe_M_doCell krA a1 a2 a3 a4 h)))
  generalize (400 : Nat) = f9
  refine zseg_e e (zcal_e _ _ ?_) (zorc_e _ _ ?_) hk (fun _ _ => rfl) f9 _ _ _ _
  · exact ⟨rfl, rfl, zca3_e (fun x0 x1 x2 h k t => n_M_cellOf e (fun _ _ => rfl) x0 x1 x2 h), ⟨rfl, rfl, zca1_e (fun x0 h k t => n_M_isShared e (fun _ _ => rfl) x0 h), trivial⟩⟩
  · exact ⟨rfl, rfl, rfl, zap10_e (fun x0 x1 x2 x3 x4 x5 x6 x7 x8 x9 h => n_M_doCell_55 e hk x0 x1 x2 x3 x4 x5 x6 x7 x8 x9 h), ⟨rfl, rfl, rfl, zap9_e (fun x0 x1 x2 x3 x4 x5 x6 x7 x8 h => n_M_doCell_137 e hk x0 x1 x2 x3 x4 x5 x6 x7 x8 h), trivial⟩⟩
set_option maxRecDepth 100000 in
set_option maxHeartbeats 0 in
theorem n_M_doLane_480 {ρ : Type} (e : zRes → Option ρ) {krA : Int → zH → Option ρ} {krZ : Int → zH → Option zRes} (hk : ∀ v h, (krZ v h).bind e = krA v h) (h : zH) : (M_doLane_480 krZ h).bind e = M_doLane_480 krA h := by
  refine Eq.trans (congrArg (fun z => Option.bind z e) (qe_M_doLane_480 krZ h)) (Eq.trans ?_ (Eq.symm (qe_M_doLane_480 krA h)))
  generalize (400 : Nat) = f9
  refine zseg_e e (zcal_e _ _ ?_) (zorc_e _ _ ?_) hk (fun _ _ => rfl) f9 _ _ _ _
  · exact trivial
  · exact trivial
set_option maxRecDepth 100000 in
set_option maxHeartbeats 0 in
theorem n_M_doLane_479 {ρ : Type} (e : zRes → Option ρ) {krA : Int → zH → Option ρ} {krZ : Int → zH → Option zRes} (hk : ∀ v h, (krZ v h).bind e = krA v h) (t0 t1 : Int) (h : zH) : (M_doLane_479 krZ t0 t1 h).bind e = M_doLane_479 krA t0 t1 h := by
  refine Eq.trans (congrArg (fun z => Option.bind z e) (qe_M_doLane_479 krZ t0 t1 h)) (Eq.trans ?_ (Eq.symm (qe_M_doLane_479 krA t0 t1 h)))
  generalize (400 : Nat) = f9
  refine zseg_e e (zcal_e _ _ ?_) (zorc_e _ _ ?_) hk (fun _ _ => rfl) f9 _ _ _ _
  · exact trivial
  · exact ⟨rfl, rfl, rfl, zap0_e (fun  h => n_M_doLane_480 e hk  h), trivial⟩
set_option maxRecDepth 100000 in
set_option maxHeartbeats 0 in
theorem n_M_doLane_472 {ρ : Type} (e : zRes → Option ρ) {krA : Int → zH → Option ρ} {krZ : Int → zH → Option zRes} (hk : ∀ v h, (krZ v h).bind e = krA v h) (t0 : Int) (h : zH) : (M_doLane_472 krZ t0 h).bind e = M_doLane_472 krA t0 h := by
  refine Eq.trans (congrArg (fun z => Option.bind z e) (qe_M_doLane_472 krZ t0 h)) (Eq.trans ?_ (Eq.symm (qe_M_doLane_472 krA t0 h)))
  generalize (400 : Nat) = f9
  refine zseg_e e (zcal_e _ _ ?_) (zorc_e _ _ ?_) hk (fun _ _ => rfl) f9 _ _ _ _
  · exact trivial
  · exact ⟨rfl, rfl, rfl, zap2_e (fun x0 x1 h => n_M_doLane_479 e hk x0 x1 h), trivial⟩
set_option maxRecDepth 100000 in
set_option maxHeartbeats 0 in
theorem n_M_doLane_413 {ρ : Type} (e : zRes → Option ρ) {krA : Int → zH → Option ρ} {krZ : Int → zH → Option zRes} (hk : ∀ v h, (krZ v h).bind e = krA v h) (a3 a5 a7 a8 : Int) (h : zH) : (M_doLane_413 krZ a3 a5 a7 a8 h).bind e = M_doLane_413 krA a3 a5 a7 a8 h := by
  refine Eq.trans (congrArg (fun z => Option.bind z e) (qe_M_doLane_413 krZ a3 a5 a7 a8 h)) (Eq.trans ?_ (Eq.symm (qe_M_doLane_413 krA a3 a5 a7 a8 h)))
  generalize (400 : Nat) = f9
  refine zseg_e e (zcal_e _ _ ?_) (zorc_e _ _ ?_) hk (fun _ _ => rfl) f9 _ _ _ _
  · exact trivial
  · exact ⟨rfl, rfl, rfl, zap1_e (fun x0 h => n_M_doLane_472 e hk x0 h), ⟨rfl, rfl, rfl, zap2_e (fun x0 x1 h => n_M_doLane_479 e hk x0 x1 h), ⟨rfl, rfl, rfl, zap0_e (fun  h => n_M_doLane_480 e hk  h), trivial⟩⟩⟩
set_option maxRecDepth 100000 in
set_option maxHeartbeats 0 in
theorem n_M_doLane_124 {ρ : Type} (e : zRes → Option ρ) {krA : Int → zH → Option ρ} {krZ : Int → zH → Option zRes} (hk : ∀ v h, (krZ v h).bind e = krA v h) (a3 a5 a7 a8 t0 t1 t2 t3 : Int) (h : zH) : (M_doLane_124 krZ a3 a5 a7 a8 t0 t1 t2 t3 h).bind e = M_doLane_124 krA a3 a5 a7 a8 t0 t1 t2 t3 h := by
  refine Eq.trans (congrArg (fun z => Option.bind z e) (qe_M_doLane_124 krZ a3 a5 a7 a8 t0 t1 t2 t3 h)) (Eq.trans ?_ (Eq.symm (qe_M_doLane_124 krA a3 a5 a7 a8 t0 t1 t2 t3 h)))
  generalize (400 : Nat) = f9
  refine zseg_e e (zcal_e _ _ ?_) (zorc_e _ _ ?_) hk (fun _ _ => rfl) f9 _ _ _ _
  · exact ⟨rfl, rfl, zca4_e (fun x0 x1 x2 x3 h k t => n_M_set e (fun _ _ => rfl) x0 x1 x2 x3 h), trivial⟩
  · exact ⟨rfl, rfl, rfl, zap4_e (fun x0 x1 x2 x3 h => n_M_doLane_413 e hk x0 x1 x2 x3 h), trivial⟩
set_option maxRecDepth 100000 in
set_option maxHeartbeats 0 in
theorem n_M_doLane_88 {ρ : Type} (e : zRes → Option ρ) {krA : Int → zH → Option ρ} {krZ : Int → zH → Option zRes} (hk : ∀ v h, (krZ v h).bind e = krA v h) (a1 a2 a3 a4 a5 a6 a7 a8 : Int) (h : zH) : (M_doLane_88 krZ a1 a2 a3 a4 a5 a6 a7 a8 h).bind e = M_doLane_88 krA a1 a2 a3 a4 a5 a6 a7 a8 h := by
  refine Eq.trans (congrArg (fun z => Option.bind z e) (qe_M_doLane_88 krZ a1 a2 a3 a4 a5 a6 a7 a8 h)) (Eq.trans ?_ (Eq.symm (qe_M_doLane_88 krA a1 a2 a3 a4 a5 a6 a7 a8 h)))
  generalize (400 : Nat) = f9
  refine zseg_e e (zcal_e _ _ ?_) (zorc_e _ _ ?_) hk (fun _ _ => rfl) f9 _ _ _ _
  · exact trivial
  · exact ⟨rfl, rfl, rfl, zap8_e (fun x0 x1 x2 x3 x4 x5 x6 x7 h => n_M_doLane_124 e hk x0 x1 x2 x3 x4 x5 x6 x7 h), trivial⟩
set_option maxRecDepth 100000 in
set_option maxHeartbeats 0 in
theorem n_M_doLane_212 {ρ : Type} (e : zRes → Option ρ) {krA : Int → zH → Option ρ} {krZ : Int → zH → Option zRes} (hk : ∀ v h, (krZ v h).bind e = krA v h) (a3 a4 a5 a7 a8 t0 t2 t3 t4 : Int) (h : zH) : (M_doLane_212 krZ a3 a4 a5 a7 a8 t0 t2 t3 t4 h).bind e = M_doLane_212 krA a3 a4 a5 a7 a8 t0 t2 t3 t4 h := by
  refine Eq.trans (congrArg (fun z => Option.bind z e) (qe_M_doLane_212 krZ a3 a4 a5 a7 a8 t0 t2 t3 t4 h)) (Eq.trans ?_ (Eq.symm (qe_M_doLane_212 krA a3 a4 a5 a7 a8 t0 t2 t3 t4 h)))
  generalize (400 : Nat) = f9
  refine zseg_e e (zcal_e _ _ ?_) (zorc_e _ _ ?_) hk (fun _ _ => rfl) f9 _ _ _ _
  · exact ⟨rfl, rfl, zca2_e (fun x0 x1 h k t => n_M_lane e (fun _ _ => rfl) x0 x1 h), ⟨rfl, rfl, zca4_e (fun x0 x1 x2 x3 h k t => n_M_set e (fun _ _ => rfl) x0 x1 x2 x3 h), trivial⟩⟩
  · exact ⟨rfl, rfl, rfl, zap4_e (fun x0 x1 x2 x3 h => n_M_doLane_413 e hk x0 x1 x2 x3 h), trivial⟩
set_option maxRecDepth 100000 in
set_option maxHeartbeats 0 in
theorem n_M_doLane_261 {ρ : Type} (e : zRes → Option ρ) {krA : Int → zH → Option ρ} {krZ : Int → zH → Option zRes} (hk : ∀ v h, (krZ v h).bind e = krA v h) (a3 a5 a7 t0 : Int) (h : zH) : (M_doLane_261 krZ a3 a5 a7 t0 h).bind e = M_doLane_261 krA a3 a5 a7 t0 h := by
  refine Eq.trans (congrArg (fun z => Option.bind z e) (qe_M_doLane_261 krZ a3 a5 a7 t0 h)) (Eq.trans ?_ (Eq.symm (qe_M_doLane_261 krA a3 a5 a7 t0 h)))
  generalize (400 : Nat) = f9
  refine zseg_e e (zcal_e _ _ ?_) (zorc_e _ _ ?_) hk (fun _ _ => rfl) f9 _ _ _ _
  · exact trivial
  · exact ⟨rfl, rfl, rfl, zap4_e (fun x0 x1 x2 x3 h => n_M_doLane_413 e hk x0 x1 x2 x3 h), trivial⟩
set_option maxRecDepth 100000 in
set_option maxHeartbeats 0 in
theorem n_M_doLane_336 {ρ : Type} (e : zRes → Option ρ) {krA : Int → zH → Option ρ} {krZ : Int → zH → Option zRes} (hk : ∀ v h, (krZ v h).bind e = krA v h) (a3 a5 a7 a8 t0 t1 t2 t3 : Int) (h : zH) : (M_doLane_336 krZ a3 a5 a7 a8 t0 t1 t2 t3 h).bind e = M_doLane_336 krA a3 a5 a7 a8 t0 t1 t2 t3 h := by
  refine Eq.trans (congrArg (fun z => Option.bind z e) (qe_M_doLane_336 krZ a3 a5 a7 a8 t0 t1 t2 t3 h)) (Eq.trans ?_ (Eq.symm (qe_M_doLane_336 krA a3 a5 a7 a8 t0 t1 t2 t3 h)))
  generalize (400 : Nat) = f9
  refine zseg_e e (zcal_e _ _ ?_) (zorc_e _ _ ?_) hk (fun _ _ => rfl) f9 _ _ _ _
  · exact ⟨rfl, rfl, zca4_e (fun x0 x1 x2 x3 h k t => n_M_set e (fun _ _ => rfl) x0 x1 x2 x3 h), trivial⟩
  · exact ⟨rfl, rfl, rfl, zap4_e (fun x0 x1 x2 x3 h => n_M_doLane_413 e hk x0 x1 x2 x3 h), trivial⟩
set_option maxRecDepth 100000 in
set_option maxHeartbeats 0 in
theorem n_M_doLane_372 {ρ : Type} (e : zRes → Option ρ) {krA : Int → zH → Option ρ} {krZ : Int → zH → Option zRes} (hk : ∀ v h, (krZ v h).bind e = krA v h) (a1 a2 a3 a4 a5 a7 a8 : Int) (h : zH) : (M_doLane_372 krZ a1 a2 a3 a4 a5 a7 a8 h).bind e = M_doLane_372 krA a1 a2 a3 a4 a5 a7 a8 h := by
  refine Eq.trans (congrArg (fun z => Option.bind z e) (qe_M_doLane_372 krZ a1 a2 a3 a4 a5 a7 a8 h)) (Eq.trans ?_ (Eq.symm (qe_M_doLane_372 krA a1 a2 a3 a4 a5 a7 a8 h)))
  generalize (400 : Nat) = f9
  refine zseg_e e (zcal_e _ _ ?_) (zorc_e _ _ ?_) hk (fun _ _ => rfl) f9 _ _ _ _
  · exact ⟨rfl, rfl, zca2_e (fun x0 x1 h k t => n_M_lane e (fun _ _ => rfl) x0 x1 h), ⟨rfl, rfl, zca4_e (fun x0 x1 x2 x3 h k t => n_M_set e (fun _ _ => rfl) x0 x1 x2 x3 h), ⟨rfl, rfl, zca3_e (fun x0 x1 x2 h k t => n_M_compute e (fun _ _ => rfl) x0 x1 x2 h), trivial⟩⟩⟩
  · exact ⟨rfl, rfl, rfl, zap4_e (fun x0 x1 x2 x3 h => n_M_doLane_413 e hk x0 x1 x2 x3 h), trivial⟩
set_option maxRecDepth 100000 in
set_option maxHeartbeats 0 in
theorem n_M_doLane {ρ : Type} (e : zRes → Option ρ) {krA : Int → zH → Option ρ} {krZ : Int → zH → Option zRes} (hk : ∀ v h, (krZ v h).bind e = krA v h) (a1 a2 a3 a4 : Int) (h : zH) : (M_doLane a1 a2 a3 a4 h krZ).bind e = M_doLane a1 a2 a3 a4 h krA := by
  refine Eq.trans (congrArg (fun z => Option.bind z e) (qe_M_doLane krZ a1 a2 a3 a4 h)) (Eq.trans ?_ (Eq.symm (qe_M_doLane krA a1 a2 a3 a4 h)))
  generalize (400 : Nat) = f9
  refine zseg_e e (zcal_e _ _ ?_) (zorc_e _ _ ?_) hk (fun _ _ => rfl) f9 _ _ _ _
  · exact ⟨rfl, rfl, zca3_e (fun x0 x1 x2 h k t => n_M_launchChild e (fun _ _ => rfl) x0 x1 x2 h), ⟨rfl, rfl, zca2_e (fun x0 x1 h k t => n_M_threadCell e (fun _ _ => rfl) x0 x1 h), ⟨rfl, rfl, zca2_e (fun x0 x1 h k t => n_M_lane e (fun _ _ => rfl) x0 x1 h), ⟨rfl, rfl, zca4_e (fun x0 x1 x2 x3 h k t => n_M_set e (fun _ _ => rfl) x0 x1 x2 x3 h), ⟨rfl, rfl, zca1_e (fun x0 h k t => n_M_isUnder e (fun _ _ => rfl) x0 h), ⟨rfl, rfl, zca1_e (fun x0 h k t => n_M_modulo e (fun _ _ => rfl) x0 h), ⟨rfl, rfl, zca1_e (fun x0 h k t => n_M_vote e (fun _ _ => rfl) x0 h), trivial⟩⟩⟩⟩⟩⟩⟩
  · exact ⟨rfl, rfl, rfl, zap8_e (fun x0 x1 x2 x3 x4 x5 x6 x7 h => n_M_doLane_88 e hk x0 x1 x2 x3 x4 x5 x6 x7 h), ⟨rfl, rfl, rfl, zap9_e (fun x0 x1 x2 x3 x4 x5 x6 x7 x8 h => n_M_doLane_212 e hk x0 x1 x2 x3 x4 x5 x6 x7 x8 h), ⟨rfl, rfl, rfl, zap4_e (fun x0 x1 x2 x3 h => n_M_doLane_261 e hk x0 x1 x2 x3 h), ⟨rfl, rfl, rfl, zap8_e (fun x0 x1 x2 x3 x4 x5 x6 x7 h => n_M_doLane_336 e hk x0 x1 x2 x3 x4 x5 x6 x7 h), ⟨rfl, rfl, rfl, zap7_e (fun x0 x1 x2 x3 x4 x5 x6 h => n_M_doLane_372 e hk x0 x1 x2 x3 x4 x5 x6 h), ⟨rfl, rfl, rfl, zap4_e (fun x0 x1 x2 x3 h => n_M_doLane_413 e hk x0 x1 x2 x3 h), trivial⟩⟩⟩⟩⟩⟩
set_option maxRecDepth 100000 in
set_option maxHeartbeats 0 in
theorem n_M_isNew_53 {ρ : Type} (e : zRes → Option ρ) {krA : Int → zH → Option ρ} {krZ : Int → zH → Option zRes} (hk : ∀ v h, (krZ v h).bind e = krA v h) {r10A : Int → Int → Int → Int → Int → zH → Option ρ} {r10Z : Int → Int → Int → Int → Int → zH → Option zRes} (h10 : ∀ (x0 x1 x2 x3 x4 : Int) (h : zH), (r10Z x0 x1 x2 x3 x4 h).bind e = r10A x0 x1 x2 x3 x4 h) (a1 a2 a3 a5 t0 : Int) (h : zH) : (M_isNew_53 krZ r10Z a1 a2 a3 a5 t0 h).bind e = M_isNew_53 krA r10A a1 a2 a3 a5 t0 h := by
  refine Eq.trans (congrArg (fun z => Option.bind z e) (qe_M_isNew_53 krZ r10Z a1 a2 a3 a5 t0 h)) (Eq.trans ?_ (Eq.symm (qe_M_isNew_53 krA r10A a1 a2 a3 a5 t0 h)))
  generalize (400 : Nat) = f9
  refine zseg_e e (zcal_e _ _ ?_) (zorc_e _ _ ?_) hk (fun _ _ => rfl) f9 _ _ _ _
  · exact trivial
  · exact ⟨rfl, rfl, rfl, zap5_e h10, trivial⟩
set_option maxRecDepth 100000 in
set_option maxHeartbeats 0 in
theorem n_M_isNew_48 {ρ : Type} (e : zRes → Option ρ) {krA : Int → zH → Option ρ} {krZ : Int → zH → Option zRes} (hk : ∀ v h, (krZ v h).bind e = krA v h) {r10A : Int → Int → Int → Int → Int → zH → Option ρ} {r10Z : Int → Int → Int → Int → Int → zH → Option zRes} (h10 : ∀ (x0 x1 x2 x3 x4 : Int) (h : zH), (r10Z x0 x1 x2 x3 x4 h).bind e = r10A x0 x1 x2 x3 x4 h) (a1 a2 a3 a5 : Int) (h : zH) : (M_isNew_48 krZ r10Z a1 a2 a3 a5 h).bind e = M_isNew_48 krA r10A a1 a2 a3 a5 h := by
  refine Eq.trans (congrArg (fun z => Option.bind z e) (qe_M_isNew_48 krZ r10Z a1 a2 a3 a5 h)) (Eq.trans ?_ (Eq.symm (qe_M_isNew_48 krA r10A a1 a2 a3 a5 h)))
  generalize (400 : Nat) = f9
  refine zseg_e e (zcal_e _ _ ?_) (zorc_e _ _ ?_) hk (fun _ _ => rfl) f9 _ _ _ _
  · exact trivial
  · exact ⟨rfl, rfl, rfl, zap5_e (fun x0 x1 x2 x3 x4 h => n_M_isNew_53 e hk h10 x0 x1 x2 x3 x4 h), trivial⟩
set_option maxRecDepth 100000 in
set_option maxHeartbeats 0 in
theorem n_M_isNew_52 {ρ : Type} (e : zRes → Option ρ) {krA : Int → zH → Option ρ} {krZ : Int → zH → Option zRes} (hk : ∀ v h, (krZ v h).bind e = krA v h) {r10A : Int → Int → Int → Int → Int → zH → Option ρ} {r10Z : Int → Int → Int → Int → Int → zH → Option zRes} (h10 : ∀ (x0 x1 x2 x3 x4 : Int) (h : zH), (r10Z x0 x1 x2 x3 x4 h).bind e = r10A x0 x1 x2 x3 x4 h) (a1 a2 a3 a5 : Int) (h : zH) : (M_isNew_52 krZ r10Z a1 a2 a3 a5 h).bind e = M_isNew_52 krA r10A a1 a2 a3 a5 h := by
  refine Eq.trans (congrArg (fun z => Option.bind z e) (qe_M_isNew_52 krZ r10Z a1 a2 a3 a5 h)) (Eq.trans ?_ (Eq.symm (qe_M_isNew_52 krA r10A a1 a2 a3 a5 h)))
  generalize (400 : Nat) = f9
  refine zseg_e e (zcal_e _ _ ?_) (zorc_e _ _ ?_) hk (fun _ _ => rfl) f9 _ _ _ _
  · exact trivial
  · exact ⟨rfl, rfl, rfl, zap5_e (fun x0 x1 x2 x3 x4 h => n_M_isNew_53 e hk h10 x0 x1 x2 x3 x4 h), trivial⟩
set_option maxRecDepth 100000 in
set_option maxHeartbeats 0 in
theorem n_M_isNew_10b {ρ : Type} (e : zRes → Option ρ) {krA : Int → zH → Option ρ} {krZ : Int → zH → Option zRes} (hk : ∀ v h, (krZ v h).bind e = krA v h) {r10A : Int → Int → Int → Int → Int → zH → Option ρ} {r10Z : Int → Int → Int → Int → Int → zH → Option zRes} (h10 : ∀ (x0 x1 x2 x3 x4 : Int) (h : zH), (r10Z x0 x1 x2 x3 x4 h).bind e = r10A x0 x1 x2 x3 x4 h) (a1 a2 a3 a4 a5 : Int) (h : zH) : (M_isNew_10b krZ r10Z a1 a2 a3 a4 a5 h).bind e = M_isNew_10b krA r10A a1 a2 a3 a4 a5 h := by
  refine Eq.trans (congrArg (fun z => Option.bind z e) (qe_M_isNew_10b krZ r10Z a1 a2 a3 a4 a5 h)) (Eq.trans ?_ (Eq.symm (qe_M_isNew_10b krA r10A a1 a2 a3 a4 a5 h)))
  generalize (400 : Nat) = f9
  refine zseg_e e (zcal_e _ _ ?_) (zorc_e _ _ ?_) hk (fun _ _ => rfl) f9 _ _ _ _
  · exact ⟨rfl, rfl, zca1_e (fun x0 h k t => n_M_isUnder e (fun _ _ => rfl) x0 h), ⟨rfl, rfl, zca3_e (fun x0 x1 x2 h k t => n_M_cellOf e (fun _ _ => rfl) x0 x1 x2 h), trivial⟩⟩
  · exact ⟨rfl, rfl, rfl, zap4_e (fun x0 x1 x2 x3 h => n_M_isNew_48 e hk h10 x0 x1 x2 x3 h), ⟨rfl, rfl, rfl, zap4_e (fun x0 x1 x2 x3 h => n_M_isNew_52 e hk h10 x0 x1 x2 x3 h), trivial⟩⟩
theorem n_M_isNew_10 {ρ : Type} (e : zRes → Option ρ) {krA : Int → zH → Option ρ} {krZ : Int → zH → Option zRes} (hk : ∀ v h, (krZ v h).bind e = krA v h) (a1 a2 a3 a4 a5 : Int) (h : zH) : (M_isNew_10 krZ a1 a2 a3 a4 a5 h).bind e = M_isNew_10 krA a1 a2 a3 a4 a5 h := zit5_e (fun rA rZ hh a1 a2 a3 a4 a5 h => n_M_isNew_10b e hk hh a1 a2 a3 a4 a5 h) zN a1 a2 a3 a4 a5 h
set_option maxRecDepth 100000 in
set_option maxHeartbeats 0 in
theorem n_M_isNew {ρ : Type} (e : zRes → Option ρ) {krA : Int → zH → Option ρ} {krZ : Int → zH → Option zRes} (hk : ∀ v h, (krZ v h).bind e = krA v h) (a1 a2 a3 : Int) (h : zH) : (M_isNew a1 a2 a3 h krZ).bind e = M_isNew a1 a2 a3 h krA := by
  refine Eq.trans (congrArg (fun z => Option.bind z e) (qe_M_isNew krZ a1 a2 a3 h)) (Eq.trans ?_ (Eq.symm (qe_M_isNew krA a1 a2 a3 h)))
  generalize (400 : Nat) = f9
  refine zseg_e e (zcal_e _ _ ?_) (zorc_e _ _ ?_) hk (fun _ _ => rfl) f9 _ _ _ _
  · exact ⟨rfl, rfl, zca1_e (fun x0 h k t => n_M_isUnder e (fun _ _ => rfl) x0 h), trivial⟩
  · exact ⟨rfl, rfl, rfl, zap5_e (fun x0 x1 x2 x3 x4 h => n_M_isNew_10 e hk x0 x1 x2 x3 x4 h), trivial⟩
set_option maxRecDepth 100000 in
set_option maxHeartbeats 0 in
theorem n_M_banks_56 {ρ : Type} (e : zRes → Option ρ) {krA : Int → zH → Option ρ} {krZ : Int → zH → Option zRes} (hk : ∀ v h, (krZ v h).bind e = krA v h) {r5A : Int → Int → Int → Int → zH → Option ρ} {r5Z : Int → Int → Int → Int → zH → Option zRes} (h5 : ∀ (x0 x1 x2 x3 : Int) (h : zH), (r5Z x0 x1 x2 x3 h).bind e = r5A x0 x1 x2 x3 h) {r17A : Int → Int → Int → Int → Int → Int → zH → Option ρ} {r17Z : Int → Int → Int → Int → Int → Int → zH → Option zRes} (h17 : ∀ (x0 x1 x2 x3 x4 x5 : Int) (h : zH), (r17Z x0 x1 x2 x3 x4 x5 h).bind e = r17A x0 x1 x2 x3 x4 x5 h) (a1 a2 a3 a4 a6 t0 t1 : Int) (h : zH) : (M_banks_56 krZ r5Z r17Z a1 a2 a3 a4 a6 t0 t1 h).bind e = M_banks_56 krA r5A r17A a1 a2 a3 a4 a6 t0 t1 h := by
  refine Eq.trans (congrArg (fun z => Option.bind z e) (qe_M_banks_56 krZ r5Z r17Z a1 a2 a3 a4 a6 t0 t1 h)) (Eq.trans ?_ (Eq.symm (qe_M_banks_56 krA r5A r17A a1 a2 a3 a4 a6 t0 t1 h)))
  generalize (400 : Nat) = f9
  refine zseg_e e (zcal_e _ _ ?_) (zorc_e _ _ ?_) hk (fun _ _ => rfl) f9 _ _ _ _
  · exact trivial
  · exact ⟨rfl, rfl, rfl, zap6_e h17, trivial⟩
set_option maxRecDepth 100000 in
set_option maxHeartbeats 0 in
theorem n_M_banks_55 {ρ : Type} (e : zRes → Option ρ) {krA : Int → zH → Option ρ} {krZ : Int → zH → Option zRes} (hk : ∀ v h, (krZ v h).bind e = krA v h) {r5A : Int → Int → Int → Int → zH → Option ρ} {r5Z : Int → Int → Int → Int → zH → Option zRes} (h5 : ∀ (x0 x1 x2 x3 : Int) (h : zH), (r5Z x0 x1 x2 x3 h).bind e = r5A x0 x1 x2 x3 h) {r17A : Int → Int → Int → Int → Int → Int → zH → Option ρ} {r17Z : Int → Int → Int → Int → Int → Int → zH → Option zRes} (h17 : ∀ (x0 x1 x2 x3 x4 x5 : Int) (h : zH), (r17Z x0 x1 x2 x3 x4 x5 h).bind e = r17A x0 x1 x2 x3 x4 x5 h) (a1 a2 a3 a4 a6 t0 : Int) (h : zH) : (M_banks_55 krZ r5Z r17Z a1 a2 a3 a4 a6 t0 h).bind e = M_banks_55 krA r5A r17A a1 a2 a3 a4 a6 t0 h := by
  refine Eq.trans (congrArg (fun z => Option.bind z e) (qe_M_banks_55 krZ r5Z r17Z a1 a2 a3 a4 a6 t0 h)) (Eq.trans ?_ (Eq.symm (qe_M_banks_55 krA r5A r17A a1 a2 a3 a4 a6 t0 h)))
  generalize (400 : Nat) = f9
  refine zseg_e e (zcal_e _ _ ?_) (zorc_e _ _ ?_) hk (fun _ _ => rfl) f9 _ _ _ _
  · exact trivial
  · exact ⟨rfl, rfl, rfl, zap7_e (fun x0 x1 x2 x3 x4 x5 x6 h => n_M_banks_56 e hk h5 h17 x0 x1 x2 x3 x4 x5 x6 h), trivial⟩
set_option maxRecDepth 100000 in
set_option maxHeartbeats 0 in
theorem n_M_banks_77 {ρ : Type} (e : zRes → Option ρ) {krA : Int → zH → Option ρ} {krZ : Int → zH → Option zRes} (hk : ∀ v h, (krZ v h).bind e = krA v h) {r5A : Int → Int → Int → Int → zH → Option ρ} {r5Z : Int → Int → Int → Int → zH → Option zRes} (h5 : ∀ (x0 x1 x2 x3 : Int) (h : zH), (r5Z x0 x1 x2 x3 h).bind e = r5A x0 x1 x2 x3 h) (a1 a2 a4 t0 : Int) (h : zH) : (M_banks_77 krZ r5Z a1 a2 a4 t0 h).bind e = M_banks_77 krA r5A a1 a2 a4 t0 h := by
  refine Eq.trans (congrArg (fun z => Option.bind z e) (qe_M_banks_77 krZ r5Z a1 a2 a4 t0 h)) (Eq.trans ?_ (Eq.symm (qe_M_banks_77 krA r5A a1 a2 a4 t0 h)))
  generalize (400 : Nat) = f9
  refine zseg_e e (zcal_e _ _ ?_) (zorc_e _ _ ?_) hk (fun _ _ => rfl) f9 _ _ _ _
  · exact trivial
  · exact ⟨rfl, rfl, rfl, zap4_e h5, trivial⟩
set_option maxRecDepth 100000 in
set_option maxHeartbeats 0 in
theorem n_M_banks_17b {ρ : Type} (e : zRes → Option ρ) {krA : Int → zH → Option ρ} {krZ : Int → zH → Option zRes} (hk : ∀ v h, (krZ v h).bind e = krA v h) {r5A : Int → Int → Int → Int → zH → Option ρ} {r5Z : Int → Int → Int → Int → zH → Option zRes} (h5 : ∀ (x0 x1 x2 x3 : Int) (h : zH), (r5Z x0 x1 x2 x3 h).bind e = r5A x0 x1 x2 x3 h) {r17A : Int → Int → Int → Int → Int → Int → zH → Option ρ} {r17Z : Int → Int → Int → Int → Int → Int → zH → Option zRes} (h17 : ∀ (x0 x1 x2 x3 x4 x5 : Int) (h : zH), (r17Z x0 x1 x2 x3 x4 x5 h).bind e = r17A x0 x1 x2 x3 x4 x5 h) (a1 a2 a3 a4 a5 a6 : Int) (h : zH) : (M_banks_17b krZ r5Z r17Z a1 a2 a3 a4 a5 a6 h).bind e = M_banks_17b krA r5A r17A a1 a2 a3 a4 a5 a6 h := by
  refine Eq.trans (congrArg (fun z => Option.bind z e) (qe_M_banks_17b krZ r5Z r17Z a1 a2 a3 a4 a5 a6 h)) (Eq.trans ?_ (Eq.symm (qe_M_banks_17b krA r5A r17A a1 a2 a3 a4 a5 a6 h)))
  generalize (400 : Nat) = f9
  refine zseg_e e (zcal_e _ _ ?_) (zorc_e _ _ ?_) hk (fun _ _ => rfl) f9 _ _ _ _
  · exact ⟨rfl, rfl, zca3_e (fun x0 x1 x2 h k t => n_M_cellOf e (fun _ _ => rfl) x0 x1 x2 h), ⟨rfl, rfl, zca3_e (fun x0 x1 x2 h k t => n_M_isNew e (fun _ _ => rfl) x0 x1 x2 h), trivial⟩⟩
  · exact ⟨rfl, rfl, rfl, zap6_e (fun x0 x1 x2 x3 x4 x5 h => n_M_banks_55 e hk h5 h17 x0 x1 x2 x3 x4 x5 h), ⟨rfl, rfl, rfl, zap7_e (fun x0 x1 x2 x3 x4 x5 x6 h => n_M_banks_56 e hk h5 h17 x0 x1 x2 x3 x4 x5 x6 h), ⟨rfl, rfl, rfl, zap4_e (fun x0 x1 x2 x3 h => n_M_banks_77 e hk h5 x0 x1 x2 x3 h), trivial⟩⟩⟩
theorem n_M_banks_17 {ρ : Type} (e : zRes → Option ρ) {krA : Int → zH → Option ρ} {krZ : Int → zH → Option zRes} (hk : ∀ v h, (krZ v h).bind e = krA v h) {r5A : Int → Int → Int → Int → zH → Option ρ} {r5Z : Int → Int → Int → Int → zH → Option zRes} (h5 : ∀ (x0 x1 x2 x3 : Int) (h : zH), (r5Z x0 x1 x2 x3 h).bind e = r5A x0 x1 x2 x3 h) (a1 a2 a3 a4 a5 a6 : Int) (h : zH) : (M_banks_17 krZ r5Z a1 a2 a3 a4 a5 a6 h).bind e = M_banks_17 krA r5A a1 a2 a3 a4 a5 a6 h := zit6_e (fun rA rZ hh a1 a2 a3 a4 a5 a6 h => n_M_banks_17b e hk h5 hh a1 a2 a3 a4 a5 a6 h) zN a1 a2 a3 a4 a5 a6 h
set_option maxRecDepth 100000 in
set_option maxHeartbeats 0 in
theorem n_M_banks_5b {ρ : Type} (e : zRes → Option ρ) {krA : Int → zH → Option ρ} {krZ : Int → zH → Option zRes} (hk : ∀ v h, (krZ v h).bind e = krA v h) {r5A : Int → Int → Int → Int → zH → Option ρ} {r5Z : Int → Int → Int → Int → zH → Option zRes} (h5 : ∀ (x0 x1 x2 x3 : Int) (h : zH), (r5Z x0 x1 x2 x3 h).bind e = r5A x0 x1 x2 x3 h) (a1 a2 a3 a4 : Int) (h : zH) : (M_banks_5b krZ r5Z a1 a2 a3 a4 h).bind e = M_banks_5b krA r5A a1 a2 a3 a4 h := by
  refine Eq.trans (congrArg (fun z => Option.bind z e) (qe_M_banks_5b krZ r5Z a1 a2 a3 a4 h)) (Eq.trans ?_ (Eq.symm (qe_M_banks_5b krA r5A a1 a2 a3 a4 h)))
  generalize (400 : Nat) = f9
  refine zseg_e e (zcal_e _ _ ?_) (zorc_e _ _ ?_) hk (fun _ _ => rfl) f9 _ _ _ _
  · exact trivial
  · exact ⟨rfl, rfl, rfl, zap6_e (fun x0 x1 x2 x3 x4 x5 h => n_M_banks_17 e hk h5 x0 x1 x2 x3 x4 x5 h), trivial⟩
theorem n_M_banks_5 {ρ : Type} (e : zRes → Option ρ) {krA : Int → zH → Option ρ} {krZ : Int → zH → Option zRes} (hk : ∀ v h, (krZ v h).bind e = krA v h) (a1 a2 a3 a4 : Int) (h : zH) : (M_banks_5 krZ a1 a2 a3 a4 h).bind e = M_banks_5 krA a1 a2 a3 a4 h := zit4_e (fun rA rZ hh a1 a2 a3 a4 h => n_M_banks_5b e hk hh a1 a2 a3 a4 h) zN a1 a2 a3 a4 h
set_option maxRecDepth 100000 in
set_option maxHeartbeats 0 in
theorem n_M_banks {ρ : Type} (e : zRes → Option ρ) {krA : Int → zH → Option ρ} {krZ : Int → zH → Option zRes} (hk : ∀ v h, (krZ v h).bind e = krA v h) (a1 a2 : Int) (h : zH) : (M_banks a1 a2 h krZ).bind e = M_banks a1 a2 h krA := by
  refine Eq.trans (congrArg (fun z => Option.bind z e) (qe_M_banks krZ a1 a2 h)) (Eq.trans ?_ (Eq.symm (qe_M_banks krA a1 a2 h)))
  generalize (400 : Nat) = f9
  refine zseg_e e (zcal_e _ _ ?_) (zorc_e _ _ ?_) hk (fun _ _ => rfl) f9 _ _ _ _
  · exact trivial
  · exact ⟨rfl, rfl, rfl, zap4_e (fun x0 x1 x2 x3 h => n_M_banks_5 e hk x0 x1 x2 x3 h), trivial⟩
set_option maxRecDepth 100000 in
set_option maxHeartbeats 0 in
theorem n_M_lines_142 {ρ : Type} (e : zRes → Option ρ) {krA : Int → zH → Option ρ} {krZ : Int → zH → Option zRes} (hk : ∀ v h, (krZ v h).bind e = krA v h) {r8A : Int → Int → Int → Int → Int → zH → Option ρ} {r8Z : Int → Int → Int → Int → Int → zH → Option zRes} (h8 : ∀ (x0 x1 x2 x3 x4 : Int) (h : zH), (r8Z x0 x1 x2 x3 x4 h).bind e = r8A x0 x1 x2 x3 x4 h) (a1 a2 a3 a4 a5 : Int) (h : zH) : (M_lines_142 krZ r8Z a1 a2 a3 a4 a5 h).bind e = M_lines_142 krA r8A a1 a2 a3 a4 a5 h := by
  refine Eq.trans (congrArg (fun z => Option.bind z e) (qe_M_lines_142 krZ r8Z a1 a2 a3 a4 a5 h)) (Eq.trans ?_ (Eq.symm (qe_M_lines_142 krA r8A a1 a2 a3 a4 a5 h)))
  generalize (400 : Nat) = f9
  refine zseg_e e (zcal_e _ _ ?_) (zorc_e _ _ ?_) hk (fun _ _ => rfl) f9 _ _ _ _
  · exact trivial
  · exact ⟨rfl, rfl, rfl, zap5_e h8, trivial⟩
set_option maxRecDepth 100000 in
set_option maxHeartbeats 0 in
theorem n_M_lines_123 {ρ : Type} (e : zRes → Option ρ) {krA : Int → zH → Option ρ} {krZ : Int → zH → Option zRes} (hk : ∀ v h, (krZ v h).bind e = krA v h) {r8A : Int → Int → Int → Int → Int → zH → Option ρ} {r8Z : Int → Int → Int → Int → Int → zH → Option zRes} (h8 : ∀ (x0 x1 x2 x3 x4 : Int) (h : zH), (r8Z x0 x1 x2 x3 x4 h).bind e = r8A x0 x1 x2 x3 x4 h) (a1 a2 a3 a4 a5 a6 t0 t1 : Int) (h : zH) : (M_lines_123 krZ r8Z a1 a2 a3 a4 a5 a6 t0 t1 h).bind e = M_lines_123 krA r8A a1 a2 a3 a4 a5 a6 t0 t1 h := by
  refine Eq.trans (congrArg (fun z => Option.bind z e) (qe_M_lines_123 krZ r8Z a1 a2 a3 a4 a5 a6 t0 t1 h)) (Eq.trans ?_ (Eq.symm (qe_M_lines_123 krA r8A a1 a2 a3 a4 a5 a6 t0 t1 h)))
  generalize (400 : Nat) = f9
  refine zseg_e e (zcal_e _ _ ?_) (zorc_e _ _ ?_) hk (fun _ _ => rfl) f9 _ _ _ _
  · exact trivial
  · exact ⟨rfl, rfl, rfl, zap5_e (fun x0 x1 x2 x3 x4 h => n_M_lines_142 e hk h8 x0 x1 x2 x3 x4 h), trivial⟩
set_option maxRecDepth 100000 in
set_option maxHeartbeats 0 in
theorem n_M_lines_106 {ρ : Type} (e : zRes → Option ρ) {krA : Int → zH → Option ρ} {krZ : Int → zH → Option zRes} (hk : ∀ v h, (krZ v h).bind e = krA v h) {r8A : Int → Int → Int → Int → Int → zH → Option ρ} {r8Z : Int → Int → Int → Int → Int → zH → Option zRes} (h8 : ∀ (x0 x1 x2 x3 x4 : Int) (h : zH), (r8Z x0 x1 x2 x3 x4 h).bind e = r8A x0 x1 x2 x3 x4 h) (a1 a2 a4 a5 a6 a7 t0 t1 : Int) (h : zH) : (M_lines_106 krZ r8Z a1 a2 a4 a5 a6 a7 t0 t1 h).bind e = M_lines_106 krA r8A a1 a2 a4 a5 a6 a7 t0 t1 h := by
  refine Eq.trans (congrArg (fun z => Option.bind z e) (qe_M_lines_106 krZ r8Z a1 a2 a4 a5 a6 a7 t0 t1 h)) (Eq.trans ?_ (Eq.symm (qe_M_lines_106 krA r8A a1 a2 a4 a5 a6 a7 t0 t1 h)))
  generalize (400 : Nat) = f9
  refine zseg_e e (zcal_e _ _ ?_) (zorc_e _ _ ?_) hk (fun _ _ => rfl) f9 _ _ _ _
  · exact trivial
  · exact ⟨rfl, rfl, rfl, zap8_e (fun x0 x1 x2 x3 x4 x5 x6 x7 h => n_M_lines_123 e hk h8 x0 x1 x2 x3 x4 x5 x6 x7 h), trivial⟩
set_option maxRecDepth 100000 in
set_option maxHeartbeats 0 in
theorem n_M_lines_92 {ρ : Type} (e : zRes → Option ρ) {krA : Int → zH → Option ρ} {krZ : Int → zH → Option zRes} (hk : ∀ v h, (krZ v h).bind e = krA v h) {r8A : Int → Int → Int → Int → Int → zH → Option ρ} {r8Z : Int → Int → Int → Int → Int → zH → Option zRes} (h8 : ∀ (x0 x1 x2 x3 x4 : Int) (h : zH), (r8Z x0 x1 x2 x3 x4 h).bind e = r8A x0 x1 x2 x3 x4 h) (a1 a2 a3 a4 a5 a6 t0 : Int) (h : zH) : (M_lines_92 krZ r8Z a1 a2 a3 a4 a5 a6 t0 h).bind e = M_lines_92 krA r8A a1 a2 a3 a4 a5 a6 t0 h := by
  refine Eq.trans (congrArg (fun z => Option.bind z e) (qe_M_lines_92 krZ r8Z a1 a2 a3 a4 a5 a6 t0 h)) (Eq.trans ?_ (Eq.symm (qe_M_lines_92 krA r8A a1 a2 a3 a4 a5 a6 t0 h)))
  generalize (400 : Nat) = f9
  refine zseg_e e (zcal_e _ _ ?_) (zorc_e _ _ ?_) hk (fun _ _ => rfl) f9 _ _ _ _
  · exact trivial
  · exact ⟨rfl, rfl, rfl, zap8_e (fun x0 x1 x2 x3 x4 x5 x6 x7 h => n_M_lines_106 e hk h8 x0 x1 x2 x3 x4 x5 x6 x7 h), trivial⟩
set_option maxRecDepth 100000 in
set_option maxHeartbeats 0 in
theorem n_M_lines_42 {ρ : Type} (e : zRes → Option ρ) {krA : Int → zH → Option ρ} {krZ : Int → zH → Option zRes} (hk : ∀ v h, (krZ v h).bind e = krA v h) {r8A : Int → Int → Int → Int → Int → zH → Option ρ} {r8Z : Int → Int → Int → Int → Int → zH → Option zRes} (h8 : ∀ (x0 x1 x2 x3 x4 : Int) (h : zH), (r8Z x0 x1 x2 x3 x4 h).bind e = r8A x0 x1 x2 x3 x4 h) (a1 a2 a3 a4 a5 t0 : Int) (h : zH) : (M_lines_42 krZ r8Z a1 a2 a3 a4 a5 t0 h).bind e = M_lines_42 krA r8A a1 a2 a3 a4 a5 t0 h := by
  refine Eq.trans (congrArg (fun z => Option.bind z e) (qe_M_lines_42 krZ r8Z a1 a2 a3 a4 a5 t0 h)) (Eq.trans ?_ (Eq.symm (qe_M_lines_42 krA r8A a1 a2 a3 a4 a5 t0 h)))
  generalize (400 : Nat) = f9
  refine zseg_e e (zcal_e _ _ ?_) (zorc_e _ _ ?_) hk (fun _ _ => rfl) f9 _ _ _ _
  · exact trivial
  · exact ⟨rfl, rfl, rfl, zap7_e (fun x0 x1 x2 x3 x4 x5 x6 h => n_M_lines_92 e hk h8 x0 x1 x2 x3 x4 x5 x6 h), ⟨rfl, rfl, rfl, zap5_e (fun x0 x1 x2 x3 x4 h => n_M_lines_142 e hk h8 x0 x1 x2 x3 x4 h), trivial⟩⟩
set_option maxRecDepth 100000 in
set_option maxHeartbeats 0 in
theorem n_M_lines_8b {ρ : Type} (e : zRes → Option ρ) {krA : Int → zH → Option ρ} {krZ : Int → zH → Option zRes} (hk : ∀ v h, (krZ v h).bind e = krA v h) {r8A : Int → Int → Int → Int → Int → zH → Option ρ} {r8Z : Int → Int → Int → Int → Int → zH → Option zRes} (h8 : ∀ (x0 x1 x2 x3 x4 : Int) (h : zH), (r8Z x0 x1 x2 x3 x4 h).bind e = r8A x0 x1 x2 x3 x4 h) (a1 a2 a3 a4 a5 : Int) (h : zH) : (M_lines_8b krZ r8Z a1 a2 a3 a4 a5 h).bind e = M_lines_8b krA r8A a1 a2 a3 a4 a5 h := by
  refine Eq.trans (congrArg (fun z => Option.bind z e) (qe_M_lines_8b krZ r8Z a1 a2 a3 a4 a5 h)) (Eq.trans ?_ (Eq.symm (qe_M_lines_8b krA r8A a1 a2 a3 a4 a5 h)))
  generalize (400 : Nat) = f9
  refine zseg_e e (zcal_e _ _ ?_) (zorc_e _ _ ?_) hk (fun _ _ => rfl) f9 _ _ _ _
  · exact ⟨rfl, rfl, zca2_e (fun x0 x1 h k t => n_M_lane e (fun _ _ => rfl) x0 x1 h), ⟨rfl, rfl, zca1_e (fun x0 h k t => n_M_isUnder e (fun _ _ => rfl) x0 h), trivial⟩⟩
  · exact ⟨rfl, rfl, rfl, zap6_e (fun x0 x1 x2 x3 x4 x5 h => n_M_lines_42 e hk h8 x0 x1 x2 x3 x4 x5 h), trivial⟩
theorem n_M_lines_8 {ρ : Type} (e : zRes → Option ρ) {krA : Int → zH → Option ρ} {krZ : Int → zH → Option zRes} (hk : ∀ v h, (krZ v h).bind e = krA v h) (a1 a2 a3 a4 a5 : Int) (h : zH) : (M_lines_8 krZ a1 a2 a3 a4 a5 h).bind e = M_lines_8 krA a1 a2 a3 a4 a5 h := zit5_e (fun rA rZ hh a1 a2 a3 a4 a5 h => n_M_lines_8b e hk hh a1 a2 a3 a4 a5 h) zN a1 a2 a3 a4 a5 h
set_option maxRecDepth 100000 in
set_option maxHeartbeats 0 in
theorem n_M_lines {ρ : Type} (e : zRes → Option ρ) {krA : Int → zH → Option ρ} {krZ : Int → zH → Option zRes} (hk : ∀ v h, (krZ v h).bind e = krA v h) (a1 a2 : Int) (h : zH) : (M_lines a1 a2 h krZ).bind e = M_lines a1 a2 h krA := by
  refine Eq.trans (congrArg (fun z => Option.bind z e) (qe_M_lines krZ a1 a2 h)) (Eq.trans ?_ (Eq.symm (qe_M_lines krA a1 a2 h)))
  generalize (400 : Nat) = f9
  refine zseg_e e (zcal_e _ _ ?_) (zorc_e _ _ ?_) hk (fun _ _ => rfl) f9 _ _ _ _
  · exact trivial
  · exact ⟨rfl, rfl, rfl, zap5_e (fun x0 x1 x2 x3 x4 h => n_M_lines_8 e hk x0 x1 x2 x3 x4 h), trivial⟩
