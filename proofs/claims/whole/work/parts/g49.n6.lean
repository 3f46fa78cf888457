set_option maxRecDepth 100000 in
set_option maxHeartbeats 0 in
theorem n_M_finish_100 {ρ : Type} (e : zRes → Option ρ) {krA : Int → zH → Option ρ} {krZ : Int → zH → Option zRes} (hk : ∀ v h, (krZ v h).bind e = krA v h) {r2A : Int → zH → Option ρ} {r2Z : Int → zH → Option zRes} (h2 : ∀ (x0 : Int) (h : zH), (r2Z x0 h).bind e = r2A x0 h) {r9A : Int → Int → zH → Option ρ} {r9Z : Int → Int → zH → Option zRes} (h9 : ∀ (x0 x1 : Int) (h : zH), (r9Z x0 x1 h).bind e = r9A x0 x1 h) {r62A : Int → Int → Int → Int → zH → Option ρ} {r62Z : Int → Int → Int → Int → zH → Option zRes} (h62 : ∀ (x0 x1 x2 x3 : Int) (h : zH), (r62Z x0 x1 x2 x3 h).bind e = r62A x0 x1 x2 x3 h) (a1 a2 a4 t0 : Int) (h : zH) : (M_finish_100 krZ r2Z r9Z r62Z a1 a2 a4 t0 h).bind e = M_finish_100 krA r2A r9A r62A a1 a2 a4 t0 h := by
  refine Eq.trans (congrArg (fun z => Option.bind z e) (qe_M_finish_100 krZ r2Z r9Z r62Z a1 a2 a4 t0 h)) (Eq.trans ?_ (Eq.symm (qe_M_finish_100 krA r2A r9A r62A a1 a2 a4 t0 h)))
  generalize (400 : Nat) = f9
  refine zseg_e e (zcal_e _ _ ?_) (zorc_e _ _ ?_) hk (fun _ _ => rfl) f9 _ _ _ _
  · exact trivial
  · exact ⟨rfl, rfl, rfl, zap4_e h62, trivial⟩
set_option maxRecDepth 100000 in
set_option maxHeartbeats 0 in
theorem n_M_finish_95 {ρ : Type} (e : zRes → Option ρ) {krA : Int → zH → Option ρ} {krZ : Int → zH → Option zRes} (hk : ∀ v h, (krZ v h).bind e = krA v h) {r2A : Int → zH → Option ρ} {r2Z : Int → zH → Option zRes} (h2 : ∀ (x0 : Int) (h : zH), (r2Z x0 h).bind e = r2A x0 h) {r9A : Int → Int → zH → Option ρ} {r9Z : Int → Int → zH → Option zRes} (h9 : ∀ (x0 x1 : Int) (h : zH), (r9Z x0 x1 h).bind e = r9A x0 x1 h) {r62A : Int → Int → Int → Int → zH → Option ρ} {r62Z : Int → Int → Int → Int → zH → Option zRes} (h62 : ∀ (x0 x1 x2 x3 : Int) (h : zH), (r62Z x0 x1 x2 x3 h).bind e = r62A x0 x1 x2 x3 h) (a1 a2 a4 : Int) (h : zH) : (M_finish_95 krZ r2Z r9Z r62Z a1 a2 a4 h).bind e = M_finish_95 krA r2A r9A r62A a1 a2 a4 h := by
  refine Eq.trans (congrArg (fun z => Option.bind z e) (qe_M_finish_95 krZ r2Z r9Z r62Z a1 a2 a4 h)) (Eq.trans ?_ (Eq.symm (qe_M_finish_95 krA r2A r9A r62A a1 a2 a4 h)))
  generalize (400 : Nat) = f9
  refine zseg_e e (zcal_e _ _ ?_) (zorc_e _ _ ?_) hk (fun _ _ => rfl) f9 _ _ _ _
  · exact trivial
  · exact ⟨rfl, rfl, rfl, zap4_e (fun x0 x1 x2 x3 h => n_M_finish_100 e hk h2 h9 h62 x0 x1 x2 x3 h), trivial⟩
set_option maxRecDepth 100000 in
set_option maxHeartbeats 0 in
theorem n_M_finish_99 {ρ : Type} (e : zRes → Option ρ) {krA : Int → zH → Option ρ} {krZ : Int → zH → Option zRes} (hk : ∀ v h, (krZ v h).bind e = krA v h) {r2A : Int → zH → Option ρ} {r2Z : Int → zH → Option zRes} (h2 : ∀ (x0 : Int) (h : zH), (r2Z x0 h).bind e = r2A x0 h) {r9A : Int → Int → zH → Option ρ} {r9Z : Int → Int → zH → Option zRes} (h9 : ∀ (x0 x1 : Int) (h : zH), (r9Z x0 x1 h).bind e = r9A x0 x1 h) {r62A : Int → Int → Int → Int → zH → Option ρ} {r62Z : Int → Int → Int → Int → zH → Option zRes} (h62 : ∀ (x0 x1 x2 x3 : Int) (h : zH), (r62Z x0 x1 x2 x3 h).bind e = r62A x0 x1 x2 x3 h) (a1 a2 a4 : Int) (h : zH) : (M_finish_99 krZ r2Z r9Z r62Z a1 a2 a4 h).bind e = M_finish_99 krA r2A r9A r62A a1 a2 a4 h := by
  refine Eq.trans (congrArg (fun z => Option.bind z e) (qe_M_finish_99 krZ r2Z r9Z r62Z a1 a2 a4 h)) (Eq.trans ?_ (Eq.symm (qe_M_finish_99 krA r2A r9A r62A a1 a2 a4 h)))
  generalize (400 : Nat) = f9
  refine zseg_e e (zcal_e _ _ ?_) (zorc_e _ _ ?_) hk (fun _ _ => rfl) f9 _ _ _ _
  · exact trivial
  · exact ⟨rfl, rfl, rfl, zap4_e (fun x0 x1 x2 x3 h => n_M_finish_100 e hk h2 h9 h62 x0 x1 x2 x3 h), trivial⟩
set_option maxRecDepth 100000 in
set_option maxHeartbeats 0 in
theorem n_M_finish_127 {ρ : Type} (e : zRes → Option ρ) {krA : Int → zH → Option ρ} {krZ : Int → zH → Option zRes} (hk : ∀ v h, (krZ v h).bind e = krA v h) {r2A : Int → zH → Option ρ} {r2Z : Int → zH → Option zRes} (h2 : ∀ (x0 : Int) (h : zH), (r2Z x0 h).bind e = r2A x0 h) {r9A : Int → Int → zH → Option ρ} {r9Z : Int → Int → zH → Option zRes} (h9 : ∀ (x0 x1 : Int) (h : zH), (r9Z x0 x1 h).bind e = r9A x0 x1 h) (a1 a2 t0 t1 : Int) (h : zH) : (M_finish_127 krZ r2Z r9Z a1 a2 t0 t1 h).bind e = M_finish_127 krA r2A r9A a1 a2 t0 t1 h := by
  refine Eq.trans (congrArg (fun z => Option.bind z e) (qe_M_finish_127 krZ r2Z r9Z a1 a2 t0 t1 h)) (Eq.trans ?_ (Eq.symm (qe_M_finish_127 krA r2A r9A a1 a2 t0 t1 h)))
  generalize (400 : Nat) = f9
  refine zseg_e e (zcal_e _ _ ?_) (zorc_e _ _ ?_) hk (fun _ _ => rfl) f9 _ _ _ _
  · exact trivial
  · exact ⟨rfl, rfl, rfl, zap2_e h9, trivial⟩
set_option maxRecDepth 100000 in
set_option maxHeartbeats 0 in
theorem n_M_finish_62b {ρ : Type} (e : zRes → Option ρ) {krA : Int → zH → Option ρ} {krZ : Int → zH → Option zRes} (hk : ∀ v h, (krZ v h).bind e = krA v h) {r2A : Int → zH → Option ρ} {r2Z : Int → zH → Option zRes} (h2 : ∀ (x0 : Int) (h : zH), (r2Z x0 h).bind e = r2A x0 h) {r9A : Int → Int → zH → Option ρ} {r9Z : Int → Int → zH → Option zRes} (h9 : ∀ (x0 x1 : Int) (h : zH), (r9Z x0 x1 h).bind e = r9A x0 x1 h) {r62A : Int → Int → Int → Int → zH → Option ρ} {r62Z : Int → Int → Int → Int → zH → Option zRes} (h62 : ∀ (x0 x1 x2 x3 : Int) (h : zH), (r62Z x0 x1 x2 x3 h).bind e = r62A x0 x1 x2 x3 h) (a1 a2 a3 a4 : Int) (h : zH) : (M_finish_62b krZ r2Z r9Z r62Z a1 a2 a3 a4 h).bind e = M_finish_62b krA r2A r9A r62A a1 a2 a3 a4 h := by
  refine Eq.trans (congrArg (fun z => Option.bind z e) (qe_M_finish_62b krZ r2Z r9Z r62Z a1 a2 a3 a4 h)) (Eq.trans ?_ (Eq.symm (qe_M_finish_62b krA r2A r9A r62A a1 a2 a3 a4 h)))
  generalize (400 : Nat) = f9
  refine zseg_e e (zcal_e _ _ ?_) (zorc_e _ _ ?_) hk (fun _ _ => rfl) f9 _ _ _ _
  · exact ⟨rfl, rfl, zca1_e (fun x0 h k t => n_M_isOver e (fun _ _ => rfl) x0 h), trivial⟩
  · exact ⟨rfl, rfl, rfl, zap3_e (fun x0 x1 x2 h => n_M_finish_95 e hk h2 h9 h62 x0 x1 x2 h), ⟨rfl, rfl, rfl, zap3_e (fun x0 x1 x2 h => n_M_finish_99 e hk h2 h9 h62 x0 x1 x2 h), ⟨rfl, rfl, rfl, zap4_e (fun x0 x1 x2 x3 h => n_M_finish_127 e hk h2 h9 x0 x1 x2 x3 h), trivial⟩⟩⟩
theorem n_M_finish_62 {ρ : Type} (e : zRes → Option ρ) {krA : Int → zH → Option ρ} {krZ : Int → zH → Option zRes} (hk : ∀ v h, (krZ v h).bind e = krA v h) {r2A : Int → zH → Option ρ} {r2Z : Int → zH → Option zRes} (h2 : ∀ (x0 : Int) (h : zH), (r2Z x0 h).bind e = r2A x0 h) {r9A : Int → Int → zH → Option ρ} {r9Z : Int → Int → zH → Option zRes} (h9 : ∀ (x0 x1 : Int) (h : zH), (r9Z x0 x1 h).bind e = r9A x0 x1 h) (a1 a2 a3 a4 : Int) (h : zH) : (M_finish_62 krZ r2Z r9Z a1 a2 a3 a4 h).bind e = M_finish_62 krA r2A r9A a1 a2 a3 a4 h := zit4_e (fun rA rZ hh a1 a2 a3 a4 h => n_M_finish_62b e hk h2 h9 hh a1 a2 a3 a4 h) zN a1 a2 a3 a4 h
set_option maxRecDepth 100000 in
set_option maxHeartbeats 0 in
theorem n_M_finish_58 {ρ : Type} (e : zRes → Option ρ) {krA : Int → zH → Option ρ} {krZ : Int → zH → Option zRes} (hk : ∀ v h, (krZ v h).bind e = krA v h) {r2A : Int → zH → Option ρ} {r2Z : Int → zH → Option zRes} (h2 : ∀ (x0 : Int) (h : zH), (r2Z x0 h).bind e = r2A x0 h) {r9A : Int → Int → zH → Option ρ} {r9Z : Int → Int → zH → Option zRes} (h9 : ∀ (x0 x1 : Int) (h : zH), (r9Z x0 x1 h).bind e = r9A x0 x1 h) (a1 a2 t0 : Int) (h : zH) : (M_finish_58 krZ r2Z r9Z a1 a2 t0 h).bind e = M_finish_58 krA r2A r9A a1 a2 t0 h := by
  refine Eq.trans (congrArg (fun z => Option.bind z e) (qe_M_finish_58 krZ r2Z r9Z a1 a2 t0 h)) (Eq.trans ?_ (Eq.symm (qe_M_finish_58 krA r2A r9A a1 a2 t0 h)))
  generalize (400 : Nat) = f9
  refine zseg_e e (zcal_e _ _ ?_) (zorc_e _ _ ?_) hk (fun _ _ => rfl) f9 _ _ _ _
  · exact trivial
  · exact ⟨rfl, rfl, rfl, zap4_e (fun x0 x1 x2 x3 h => n_M_finish_62 e hk h2 h9 x0 x1 x2 x3 h), trivial⟩
set_option maxRecDepth 100000 in
set_option maxHeartbeats 0 in
theorem n_M_finish_57 {ρ : Type} (e : zRes → Option ρ) {krA : Int → zH → Option ρ} {krZ : Int → zH → Option zRes} (hk : ∀ v h, (krZ v h).bind e = krA v h) {r2A : Int → zH → Option ρ} {r2Z : Int → zH → Option zRes} (h2 : ∀ (x0 : Int) (h : zH), (r2Z x0 h).bind e = r2A x0 h) {r9A : Int → Int → zH → Option ρ} {r9Z : Int → Int → zH → Option zRes} (h9 : ∀ (x0 x1 : Int) (h : zH), (r9Z x0 x1 h).bind e = r9A x0 x1 h) (a1 a2 : Int) (h : zH) : (M_finish_57 krZ r2Z r9Z a1 a2 h).bind e = M_finish_57 krA r2A r9A a1 a2 h := by
  refine Eq.trans (congrArg (fun z => Option.bind z e) (qe_M_finish_57 krZ r2Z r9Z a1 a2 h)) (Eq.trans ?_ (Eq.symm (qe_M_finish_57 krA r2A r9A a1 a2 h)))
  generalize (400 : Nat) = f9
  refine zseg_e e (zcal_e _ _ ?_) (zorc_e _ _ ?_) hk (fun _ _ => rfl) f9 _ _ _ _
  · exact trivial
  · exact ⟨rfl, rfl, rfl, zap3_e (fun x0 x1 x2 h => n_M_finish_58 e hk h2 h9 x0 x1 x2 h), trivial⟩
set_option maxRecDepth 100000 in
set_option maxHeartbeats 0 in
theorem n_M_finish_9b {ρ : Type} (e : zRes → Option ρ) {krA : Int → zH → Option ρ} {krZ : Int → zH → Option zRes} (hk : ∀ v h, (krZ v h).bind e = krA v h) {r2A : Int → zH → Option ρ} {r2Z : Int → zH → Option zRes} (h2 : ∀ (x0 : Int) (h : zH), (r2Z x0 h).bind e = r2A x0 h) {r9A : Int → Int → zH → Option ρ} {r9Z : Int → Int → zH → Option zRes} (h9 : ∀ (x0 x1 : Int) (h : zH), (r9Z x0 x1 h).bind e = r9A x0 x1 h) (a1 a2 : Int) (h : zH) : (M_finish_9b krZ r2Z r9Z a1 a2 h).bind e = M_finish_9b krA r2A r9A a1 a2 h := by
  refine Eq.trans (congrArg (fun z => Option.bind z e) (qe_M_finish_9b krZ r2Z r9Z a1 a2 h)) (Eq.trans ?_ (Eq.symm (qe_M_finish_9b krA r2A r9A a1 a2 h)))
  generalize (400 : Nat) = f9
  refine zseg_e e (zcal_e _ _ ?_) (zorc_e _ _ ?_) hk (fun _ _ => rfl) f9 _ _ _ _
  · exact trivial
  · exact ⟨rfl, rfl, rfl, zap1_e h2, ⟨rfl, rfl, rfl, zap2_e (fun x0 x1 h => n_M_finish_57 e hk h2 h9 x0 x1 h), ⟨rfl, rfl, rfl, zap3_e (fun x0 x1 x2 h => n_M_finish_58 e hk h2 h9 x0 x1 x2 h), trivial⟩⟩⟩
theorem n_M_finish_9 {ρ : Type} (e : zRes → Option ρ) {krA : Int → zH → Option ρ} {krZ : Int → zH → Option zRes} (hk : ∀ v h, (krZ v h).bind e = krA v h) {r2A : Int → zH → Option ρ} {r2Z : Int → zH → Option zRes} (h2 : ∀ (x0 : Int) (h : zH), (r2Z x0 h).bind e = r2A x0 h) (a1 a2 : Int) (h : zH) : (M_finish_9 krZ r2Z a1 a2 h).bind e = M_finish_9 krA r2A a1 a2 h := zit2_e (fun rA rZ hh a1 a2 h => n_M_finish_9b e hk h2 hh a1 a2 h) zN a1 a2 h
set_option maxRecDepth 100000 in
set_option maxHeartbeats 0 in
theorem n_M_finish_2b {ρ : Type} (e : zRes → Option ρ) {krA : Int → zH → Option ρ} {krZ : Int → zH → Option zRes} (hk : ∀ v h, (krZ v h).bind e = krA v h) {r2A : Int → zH → Option ρ} {r2Z : Int → zH → Option zRes} (h2 : ∀ (x0 : Int) (h : zH), (r2Z x0 h).bind e = r2A x0 h) (a1 : Int) (h : zH) : (M_finish_2b krZ r2Z a1 h).bind e = M_finish_2b krA r2A a1 h := by
  refine Eq.trans (congrArg (fun z => Option.bind z e) (qe_M_finish_2b krZ r2Z a1 h)) (Eq.trans ?_ (Eq.symm (qe_M_finish_2b krA r2A a1 h)))
  generalize (400 : Nat) = f9
  refine zseg_e e (zcal_e _ _ ?_) (zorc_e _ _ ?_) hk (fun _ _ => rfl) f9 _ _ _ _
  · exact trivial
  · exact ⟨rfl, rfl, rfl, zap2_e (fun x0 x1 h => n_M_finish_9 e hk h2 x0 x1 h), trivial⟩
theorem n_M_finish_2 {ρ : Type} (e : zRes → Option ρ) {krA : Int → zH → Option ρ} {krZ : Int → zH → Option zRes} (hk : ∀ v h, (krZ v h).bind e = krA v h) (a1 : Int) (h : zH) : (M_finish_2 krZ a1 h).bind e = M_finish_2 krA a1 h := zit1_e (fun rA rZ hh a1 h => n_M_finish_2b e hk hh a1 h) zN a1 h
set_option maxRecDepth 100000 in
set_option maxHeartbeats 0 in
theorem n_M_finish {ρ : Type} (e : zRes → Option ρ) {krA : Int → zH → Option ρ} {krZ : Int → zH → Option zRes} (hk : ∀ v h, (krZ v h).bind e = krA v h) (h : zH) : (M_finish h krZ).bind e = M_finish h krA := by
  refine Eq.trans (congrArg (fun z => Option.bind z e) (qe_M_finish krZ h)) (Eq.trans ?_ (Eq.symm (qe_M_finish krA h)))
  generalize (400 : Nat) = f9
  refine zseg_e e (zcal_e _ _ ?_) (zorc_e _ _ ?_) hk (fun _ _ => rfl) f9 _ _ _ _
  · exact trivial
  · exact ⟨rfl, rfl, rfl, zap1_e (fun x0 h => n_M_finish_2 e hk x0 h), trivial⟩
set_option maxRecDepth 100000 in
set_option maxHeartbeats 0 in
theorem n_M_blockOf {ρ : Type} (e : zRes → Option ρ) {krA : Int → zH → Option ρ} {krZ : Int → zH → Option zRes} (hk : ∀ v h, (krZ v h).bind e = krA v h) (a0 a1 : Int) (h : zH) : (M_blockOf a0 a1 h krZ).bind e = M_blockOf a0 a1 h krA := by
  refine Eq.trans (congrArg (fun z => Option.bind z e) (qe_M_blockOf krZ a0 a1 h)) (Eq.trans ?_ (Eq.symm (qe_M_blockOf krA a0 a1 h)))
  generalize (400 : Nat) = f9
  refine zseg_e e (zcal_e _ _ ?_) (zorc_e _ _ ?_) hk (fun _ _ => rfl) f9 _ _ _ _
  · exact trivial
  · exact trivial
set_option maxRecDepth 100000 in
set_option maxHeartbeats 0 in
theorem n_M_groupsOf {ρ : Type} (e : zRes → Option ρ) {krA : Int → zH → Option ρ} {krZ : Int → zH → Option zRes} (hk : ∀ v h, (krZ v h).bind e = krA v h) (a1 : Int) (h : zH) : (M_groupsOf a1 h krZ).bind e = M_groupsOf a1 h krA := by
  refine Eq.trans (congrArg (fun z => Option.bind z e) (qe_M_groupsOf krZ a1 h)) (Eq.trans ?_ (Eq.symm (qe_M_groupsOf krA a1 h)))
  generalize (400 : Nat) = f9
  refine zseg_e e (zcal_e _ _ ?_) (zorc_e _ _ ?_) hk (fun _ _ => rfl) f9 _ _ _ _
  · exact ⟨rfl, rfl, zca1_e (fun x0 h k t => n_M_groupsFor e (fun _ _ => rfl) x0 h), trivial⟩
  · exact trivial
set_option maxRecDepth 100000 in
set_option maxHeartbeats 0 in
theorem n_M_removeGroup_89b {ρ : Type} (e : zRes → Option ρ) {krA : Int → zH → Option ρ} {krZ : Int → zH → Option zRes} (hk : ∀ v h, (krZ v h).bind e = krA v h) {r16A : Int → Int → zH → Option ρ} {r16Z : Int → Int → zH → Option zRes} (h16 : ∀ (x0 x1 : Int) (h : zH), (r16Z x0 x1 h).bind e = r16A x0 x1 h) {r89A : Int → Int → Int → zH → Option ρ} {r89Z : Int → Int → Int → zH → Option zRes} (h89 : ∀ (x0 x1 x2 : Int) (h : zH), (r89Z x0 x1 x2 h).bind e = r89A x0 x1 x2 h) (a1 a3 a4 : Int) (h : zH) : (M_removeGroup_89b krZ r16Z r89Z a1 a3 a4 h).bind e = M_removeGroup_89b krA r16A r89A a1 a3 a4 h := by
  refine Eq.trans (congrArg (fun z => Option.bind z e) (qe_M_removeGroup_89b krZ r16Z r89Z a1 a3 a4 h)) (Eq.trans ?_ (Eq.symm (qe_M_removeGroup_89b krA r16A r89A a1 a3 a4 h)))
  generalize (400 : Nat) = f9
  refine zseg_e e (zcal_e _ _ ?_) (zorc_e _ _ ?_) hk (fun _ _ => rfl) f9 _ _ _ _
  · exact trivial
  · exact ⟨rfl, rfl, rfl, zap2_e h16, ⟨rfl, rfl, rfl, zap3_e h89, trivial⟩⟩
theorem n_M_removeGroup_89 {ρ : Type} (e : zRes → Option ρ) {krA : Int → zH → Option ρ} {krZ : Int → zH → Option zRes} (hk : ∀ v h, (krZ v h).bind e = krA v h) {r16A : Int → Int → zH → Option ρ} {r16Z : Int → Int → zH → Option zRes} (h16 : ∀ (x0 x1 : Int) (h : zH), (r16Z x0 x1 h).bind e = r16A x0 x1 h) (a1 a3 a4 : Int) (h : zH) : (M_removeGroup_89 krZ r16Z a1 a3 a4 h).bind e = M_removeGroup_89 krA r16A a1 a3 a4 h := zit3_e (fun rA rZ hh a1 a3 a4 h => n_M_removeGroup_89b e hk h16 hh a1 a3 a4 h) zN a1 a3 a4 h
set_option maxRecDepth 100000 in
set_option maxHeartbeats 0 in
theorem n_M_removeGroup_16b {ρ : Type} (e : zRes → Option ρ) {krA : Int → zH → Option ρ} {krZ : Int → zH → Option zRes} (hk : ∀ v h, (krZ v h).bind e = krA v h) {r16A : Int → Int → zH → Option ρ} {r16Z : Int → Int → zH → Option zRes} (h16 : ∀ (x0 x1 : Int) (h : zH), (r16Z x0 x1 h).bind e = r16A x0 x1 h) (a1 a3 : Int) (h : zH) : (M_removeGroup_16b krZ r16Z a1 a3 h).bind e = M_removeGroup_16b krA r16A a1 a3 h := by
  refine Eq.trans (congrArg (fun z => Option.bind z e) (qe_M_removeGroup_16b krZ r16Z a1 a3 h)) (Eq.trans ?_ (Eq.symm (qe_M_removeGroup_16b krA r16A a1 a3 h)))
  generalize (400 : Nat) = f9
  refine zseg_e e (zcal_e _ _ ?_) (zorc_e _ _ ?_) hk (fun _ _ => rfl) f9 _ _ _ _
  · exact trivial
  · exact ⟨rfl, rfl, rfl, zap3_e (fun x0 x1 x2 h => n_M_removeGroup_89 e hk h16 x0 x1 x2 h), trivial⟩
theorem n_M_removeGroup_16 {ρ : Type} (e : zRes → Option ρ) {krA : Int → zH → Option ρ} {krZ : Int → zH → Option zRes} (hk : ∀ v h, (krZ v h).bind e = krA v h) (a1 a3 : Int) (h : zH) : (M_removeGroup_16 krZ a1 a3 h).bind e = M_removeGroup_16 krA a1 a3 h := zit2_e (fun rA rZ hh a1 a3 h => n_M_removeGroup_16b e hk hh a1 a3 h) zN a1 a3 h
set_option maxRecDepth 100000 in
set_option maxHeartbeats 0 in
theorem n_M_removeGroup {ρ : Type} (e : zRes → Option ρ) {krA : Int → zH → Option ρ} {krZ : Int → zH → Option zRes} (hk : ∀ v h, (krZ v h).bind e = krA v h) (a1 a2 : Int) (h : zH) : (M_removeGroup a1 a2 h krZ).bind e = M_removeGroup a1 a2 h krA := by
  refine Eq.trans (congrArg (fun z => Option.bind z e) (qe_M_removeGroup krZ a1 a2 h)) (Eq.trans ?_ (Eq.symm (qe_M_removeGroup krA a1 a2 h)))
  generalize (400 : Nat) = f9
  refine zseg_e e (zcal_e _ _ ?_) (zorc_e _ _ ?_) hk (fun _ _ => rfl) f9 _ _ _ _
  · exact trivial
  · exact ⟨rfl, rfl, rfl, zap2_e (fun x0 x1 h => n_M_removeGroup_16 e hk x0 x1 h), trivial⟩
set_option maxRecDepth 100000 in
set_option maxHeartbeats 0 in
theorem n_M_leave_40 {ρ : Type} (e : zRes → Option ρ) {krA : Int → zH → Option ρ} {krZ : Int → zH → Option zRes} (hk : ∀ v h, (krZ v h).bind e = krA v h) {r16A : Int → Int → Int → zH → Option ρ} {r16Z : Int → Int → Int → zH → Option zRes} (h16 : ∀ (x0 x1 x2 : Int) (h : zH), (r16Z x0 x1 x2 h).bind e = r16A x0 x1 x2 h) (a1 a2 a3 : Int) (h : zH) : (M_leave_40 krZ r16Z a1 a2 a3 h).bind e = M_leave_40 krA r16A a1 a2 a3 h := by
  refine Eq.trans (congrArg (fun z => Option.bind z e) (qe_M_leave_40 krZ r16Z a1 a2 a3 h)) (Eq.trans ?_ (Eq.symm (qe_M_leave_40 krA r16A a1 a2 a3 h)))
  generalize (400 : Nat) = f9
  refine zseg_e e (zcal_e _ _ ?_) (zorc_e _ _ ?_) hk (fun _ _ => rfl) f9 _ _ _ _
  · exact trivial
  · exact ⟨rfl, rfl, rfl, zap3_e h16, trivial⟩
set_option maxRecDepth 100000 in
set_option maxHeartbeats 0 in
theorem n_M_leave_63 {ρ : Type} (e : zRes → Option ρ) {krA : Int → zH → Option ρ} {krZ : Int → zH → Option zRes} (hk : ∀ v h, (krZ v h).bind e = krA v h) (a1 : Int) (h : zH) : (M_leave_63 krZ a1 h).bind e = M_leave_63 krA a1 h := by
  refine Eq.trans (congrArg (fun z => Option.bind z e) (qe_M_leave_63 krZ a1 h)) (Eq.trans ?_ (Eq.symm (qe_M_leave_63 krA a1 h)))
  generalize (400 : Nat) = f9
  refine zseg_e e (zcal_e _ _ ?_) (zorc_e _ _ ?_) hk (fun _ _ => rfl) f9 _ _ _ _
  · exact trivial
  · exact trivial
set_option maxRecDepth 100000 in
set_option maxHeartbeats 0 in
theorem n_M_leave_16b {ρ : Type} (e : zRes → Option ρ) {krA : Int → zH → Option ρ} {krZ : Int → zH → Option zRes} (hk : ∀ v h, (krZ v h).bind e = krA v h) {r16A : Int → Int → Int → zH → Option ρ} {r16Z : Int → Int → Int → zH → Option zRes} (h16 : ∀ (x0 x1 x2 : Int) (h : zH), (r16Z x0 x1 x2 h).bind e = r16A x0 x1 x2 h) (a1 a2 a3 : Int) (h : zH) : (M_leave_16b krZ r16Z a1 a2 a3 h).bind e = M_leave_16b krA r16A a1 a2 a3 h := by
  refine Eq.trans (congrArg (fun z => Option.bind z e) (qe_M_leave_16b krZ r16Z a1 a2 a3 h)) (Eq.trans ?_ (Eq.symm (qe_M_leave_16b krA r16A a1 a2 a3 h)))
  generalize (400 : Nat) = f9
  refine zseg_e e (zcal_e _ _ ?_) (zorc_e _ _ ?_) hk (fun _ _ => rfl) f9 _ _ _ _
  · exact ⟨rfl, rfl, zca2_e (fun x0 x1 h k t => n_M_removeGroup e (fun _ _ => rfl) x0 x1 h), trivial⟩
  · exact ⟨rfl, rfl, rfl, zap3_e (fun x0 x1 x2 h => n_M_leave_40 e hk h16 x0 x1 x2 h), ⟨rfl, rfl, rfl, zap1_e (fun x0 h => n_M_leave_63 e hk x0 h), trivial⟩⟩
theorem n_M_leave_16 {ρ : Type} (e : zRes → Option ρ) {krA : Int → zH → Option ρ} {krZ : Int → zH → Option zRes} (hk : ∀ v h, (krZ v h).bind e = krA v h) (a1 a2 a3 : Int) (h : zH) : (M_leave_16 krZ a1 a2 a3 h).bind e = M_leave_16 krA a1 a2 a3 h := zit3_e (fun rA rZ hh a1 a2 a3 h => n_M_leave_16b e hk hh a1 a2 a3 h) zN a1 a2 a3 h
set_option maxRecDepth 100000 in
set_option maxHeartbeats 0 in
theorem n_M_leave {ρ : Type} (e : zRes → Option ρ) {krA : Int → zH → Option ρ} {krZ : Int → zH → Option zRes} (hk : ∀ v h, (krZ v h).bind e = krA v h) (a1 : Int) (h : zH) : (M_leave a1 h krZ).bind e = M_leave a1 h krA := by
  refine Eq.trans (congrArg (fun z => Option.bind z e) (qe_M_leave krZ a1 h)) (Eq.trans ?_ (Eq.symm (qe_M_leave krA a1 h)))
  generalize (400 : Nat) = f9
  refine zseg_e e (zcal_e _ _ ?_) (zorc_e _ _ ?_) hk (fun _ _ => rfl) f9 _ _ _ _
  · exact trivial
  · exact ⟨rfl, rfl, rfl, zap3_e (fun x0 x1 x2 h => n_M_leave_16 e hk x0 x1 x2 h), trivial⟩
set_option maxRecDepth 100000 in
set_option maxHeartbeats 0 in
theorem n_M_fail_85 {ρ : Type} (e : zRes → Option ρ) {krA : Int → zH → Option ρ} {krZ : Int → zH → Option zRes} (hk : ∀ v h, (krZ v h).bind e = krA v h) {r50A : Int → Int → zH → Option ρ} {r50Z : Int → Int → zH → Option zRes} (h50 : ∀ (x0 x1 : Int) (h : zH), (r50Z x0 x1 h).bind e = r50A x0 x1 h) (a1 a6 : Int) (h : zH) : (M_fail_85 krZ r50Z a1 a6 h).bind e = M_fail_85 krA r50A a1 a6 h := by
  refine Eq.trans (congrArg (fun z => Option.bind z e) (qe_M_fail_85 krZ r50Z a1 a6 h)) (Eq.trans ?_ (Eq.symm (qe_M_fail_85 krA r50A a1 a6 h)))
  generalize (400 : Nat) = f9
  refine zseg_e e (zcal_e _ _ ?_) (zorc_e _ _ ?_) hk (fun _ _ => rfl) f9 _ _ _ _
  · exact trivial
  · exact ⟨rfl, rfl, rfl, zap2_e h50, trivial⟩
set_option maxRecDepth 100000 in
set_option maxHeartbeats 0 in
theorem n_M_fail_50b {ρ : Type} (e : zRes → Option ρ) {krA : Int → zH → Option ρ} {krZ : Int → zH → Option zRes} (hk : ∀ v h, (krZ v h).bind e = krA v h) {r50A : Int → Int → zH → Option ρ} {r50Z : Int → Int → zH → Option zRes} (h50 : ∀ (x0 x1 : Int) (h : zH), (r50Z x0 x1 h).bind e = r50A x0 x1 h) (a1 a6 : Int) (h : zH) : (M_fail_50b krZ r50Z a1 a6 h).bind e = M_fail_50b krA r50A a1 a6 h := by
  refine Eq.trans (congrArg (fun z => Option.bind z e) (qe_M_fail_50b krZ r50Z a1 a6 h)) (Eq.trans ?_ (Eq.symm (qe_M_fail_50b krA r50A a1 a6 h)))
  generalize (400 : Nat) = f9
  refine zseg_e e (zcal_e _ _ ?_) (zorc_e _ _ ?_) hk (fun _ _ => rfl) f9 _ _ _ _
  · exact ⟨rfl, rfl, zca2_e (fun x0 x1 h k t => n_M_blockOf e (fun _ _ => rfl) x0 x1 h), ⟨rfl, rfl, zca1_e (fun x0 h k t => n_M_leave e (fun _ _ => rfl) x0 h), trivial⟩⟩
  · exact ⟨rfl, rfl, rfl, zap2_e (fun x0 x1 h => n_M_fail_85 e hk h50 x0 x1 h), trivial⟩
theorem n_M_fail_50 {ρ : Type} (e : zRes → Option ρ) {krA : Int → zH → Option ρ} {krZ : Int → zH → Option zRes} (hk : ∀ v h, (krZ v h).bind e = krA v h) (a1 a6 : Int) (h : zH) : (M_fail_50 krZ a1 a6 h).bind e = M_fail_50 krA a1 a6 h := zit2_e (fun rA rZ hh a1 a6 h => n_M_fail_50b e hk hh a1 a6 h) zN a1 a6 h
set_option maxRecDepth 100000 in
set_option maxHeartbeats 0 in
theorem n_M_fail {ρ : Type} (e : zRes → Option ρ) {krA : Int → zH → Option ρ} {krZ : Int → zH → Option zRes} (hk : ∀ v h, (krZ v h).bind e = krA v h) (a1 a2 a3 a4 a5 : Int) (h : zH) : (M_fail a1 a2 a3 a4 a5 h krZ).bind e = M_fail a1 a2 a3 a4 a5 h krA := by
  refine Eq.trans (congrArg (fun z => Option.bind z e) (qe_M_fail krZ a1 a2 a3 a4 a5 h)) (Eq.trans ?_ (Eq.symm (qe_M_fail krA a1 a2 a3 a4 a5 h)))
  generalize (400 : Nat) = f9
  refine zseg_e e (zcal_e _ _ ?_) (zorc_e _ _ ?_) hk (fun _ _ => rfl) f9 _ _ _ _
  · exact trivial
  · exact ⟨rfl, rfl, rfl, zap2_e (fun x0 x1 h => n_M_fail_50 e hk x0 x1 h), trivial⟩
set_option maxRecDepth 100000 in
set_option maxHeartbeats 0 in
theorem n_M_threadCell {ρ : Type} (e : zRes → Option ρ) {krA : Int → zH → Option ρ} {krZ : Int → zH → Option zRes} (hk : ∀ v h, (krZ v h).bind e = krA v h) (a1 a2 : Int) (h : zH) : (M_threadCell a1 a2 h krZ).bind e = M_threadCell a1 a2 h krA := by
  refine Eq.trans (congrArg (fun z => Option.bind z e) (qe_M_threadCell krZ a1 a2 h)) (Eq.trans ?_ (Eq.symm (qe_M_threadCell krA a1 a2 h)))
  generalize (400 : Nat) = f9
  refine zseg_e e (zcal_e _ _ ?_) (zorc_e _ _ ?_) hk (fun _ _ => rfl) f9 _ _ _ _
  · exact trivial
  · exact trivial
set_option maxRecDepth 100000 in
set_option maxHeartbeats 0 in
theorem n_M_count_41 {ρ : Type} (e : zRes → Option ρ) {krA : Int → zH → Option ρ} {krZ : Int → zH → Option zRes} (hk : ∀ v h, (krZ v h).bind e = krA v h) {r5A : Int → Int → Int → Int → zH → Option ρ} {r5Z : Int → Int → Int → Int → zH → Option zRes} (h5 : ∀ (x0 x1 x2 x3 : Int) (h : zH), (r5Z x0 x1 x2 x3 h).bind e = r5A x0 x1 x2 x3 h) (a1 a2 a4 t0 t1 : Int) (h : zH) : (M_count_41 krZ r5Z a1 a2 a4 t0 t1 h).bind e = M_count_41 krA r5A a1 a2 a4 t0 t1 h := by
  refine Eq.trans (congrArg (fun z => Option.bind z e) (qe_M_count_41 krZ r5Z a1 a2 a4 t0 t1 h)) (Eq.trans ?_ (Eq.symm (qe_M_count_41 krA r5A a1 a2 a4 t0 t1 h)))
  generalize (400 : Nat) = f9
  refine zseg_e e (zcal_e _ _ ?_) (zorc_e _ _ ?_) hk (fun _ _ => rfl) f9 _ _ _ _
  · exact trivial
  · exact ⟨rfl, rfl, rfl, zap4_e h5, trivial⟩
set_option maxRecDepth 100000 in
set_option maxHeartbeats 0 in
theorem n_M_count_5b {ρ : Type} (e : zRes → Option ρ) {krA : Int → zH → Option ρ} {krZ : Int → zH → Option zRes} (hk : ∀ v h, (krZ v h).bind e = krA v h) {r5A : Int → Int → Int → Int → zH → Option ρ} {r5Z : Int → Int → Int → Int → zH → Option zRes} (h5 : ∀ (x0 x1 x2 x3 : Int) (h : zH), (r5Z x0 x1 x2 x3 h).bind e = r5A x0 x1 x2 x3 h) (a1 a2 a3 a4 : Int) (h : zH) : (M_count_5b krZ r5Z a1 a2 a3 a4 h).bind e = M_count_5b krA r5A a1 a2 a3 a4 h := by
  refine Eq.trans (congrArg (fun z => Option.bind z e) (qe_M_count_5b krZ r5Z a1 a2 a3 a4 h)) (Eq.trans ?_ (Eq.symm (qe_M_count_5b krA r5A a1 a2 a3 a4 h)))
  generalize (400 : Nat) = f9
  refine zseg_e e (zcal_e _ _ ?_) (zorc_e _ _ ?_) hk (fun _ _ => rfl) f9 _ _ _ _
  · exact ⟨rfl, rfl, zca2_e (fun x0 x1 h k t => n_M_threadCell e (fun _ _ => rfl) x0 x1 h), trivial⟩
  · exact ⟨rfl, rfl, rfl, zap5_e (fun x0 x1 x2 x3 x4 h => n_M_count_41 e hk h5 x0 x1 x2 x3 x4 h), trivial⟩
theorem n_M_count_5 {ρ : Type} (e : zRes → Option ρ) {krA : Int → zH → Option ρ} {krZ : Int → zH → Option zRes} (hk : ∀ v h, (krZ v h).bind e = krA v h) (a1 a2 a3 a4 : Int) (h : zH) : (M_count_5 krZ a1 a2 a3 a4 h).bind e = M_count_5 krA a1 a2 a3 a4 h := zit4_e (fun rA rZ hh a1 a2 a3 a4 h => n_M_count_5b e hk hh a1 a2 a3 a4 h) zN a1 a2 a3 a4 h
set_option maxRecDepth 100000 in
set_option maxHeartbeats 0 in
theorem n_M_count {ρ : Type} (e : zRes → Option ρ) {krA : Int → zH → Option ρ} {krZ : Int → zH → Option zRes} (hk : ∀ v h, (krZ v h).bind e = krA v h) (a1 a2 : Int) (h : zH) : (M_count a1 a2 h krZ).bind e = M_count a1 a2 h krA := by
  refine Eq.trans (congrArg (fun z => Option.bind z e) (qe_M_count krZ a1 a2 h)) (Eq.trans ?_ (Eq.symm (qe_M_count krA a1 a2 h)))
  generalize (400 : Nat) = f9
  refine zseg_e e (zcal_e _ _ ?_) (zorc_e _ _ ?_) hk (fun _ _ => rfl) f9 _ _ _ _
  · exact trivial
  · exact ⟨rfl, rfl, rfl, zap4_e (fun x0 x1 x2 x3 h => n_M_count_5 e hk x0 x1 x2 x3 h), trivial⟩
set_option maxRecDepth 100000 in
set_option maxHeartbeats 0 in
theorem n_M_lookAt_24 {ρ : Type} (e : zRes → Option ρ) {krA : Int → zH → Option ρ} {krZ : Int → zH → Option zRes} (hk : ∀ v h, (krZ v h).bind e = krA v h) (h : zH) : (M_lookAt_24 krZ h).bind e = M_lookAt_24 krA h := by
  refine Eq.trans (congrArg (fun z => Option.bind z e) (qe_M_lookAt_24 krZ h)) (Eq.trans ?_ (Eq.symm (qe_M_lookAt_24 krA h)))
  generalize (400 : Nat) = f9
  refine zseg_e e (zcal_e _ _ ?_) (zorc_e _ _ ?_) hk (fun _ _ => rfl) f9 _ _ _ _
  · exact trivial
  · exact trivial
set_option maxRecDepth 100000 in
set_option maxHeartbeats 0 in
theorem n_M_lookAt_133 {ρ : Type} (e : zRes → Option ρ) {krA : Int → zH → Option ρ} {krZ : Int → zH → Option zRes} (hk : ∀ v h, (krZ v h).bind e = krA v h) {r66A : Int → Int → Int → Int → Int → zH → Option ρ} {r66Z : Int → Int → Int → Int → Int → zH → Option zRes} (h66 : ∀ (x0 x1 x2 x3 x4 : Int) (h : zH), (r66Z x0 x1 x2 x3 x4 h).bind e = r66A x0 x1 x2 x3 x4 h) (a1 a2 a3 a4 a5 : Int) (h : zH) : (M_lookAt_133 krZ r66Z a1 a2 a3 a4 a5 h).bind e = M_lookAt_133 krA r66A a1 a2 a3 a4 a5 h := by
  refine Eq.trans (congrArg (fun z => Option.bind z e) (qe_M_lookAt_133 krZ r66Z a1 a2 a3 a4 a5 h)) (Eq.trans ?_ (Eq.symm (qe_M_lookAt_133 krA r66A a1 a2 a3 a4 a5 h)))
  generalize (400 : Nat) = f9
  refine zseg_e e (zcal_e _ _ ?_) (zorc_e _ _ ?_) hk (fun _ _ => rfl) f9 _ _ _ _
  · exact trivial
  · exact ⟨rfl, rfl, rfl, zap5_e h66, trivial⟩
set_option maxRecDepth 100000 in
set_option maxHeartbeats 0 in
theorem n_M_lookAt_128 {ρ : Type} (e : zRes → Option ρ) {krA : Int → zH → Option ρ} {krZ : Int → zH → Option zRes} (hk : ∀ v h, (krZ v h).bind e = krA v h) {r66A : Int → Int → Int → Int → Int → zH → Option ρ} {r66Z : Int → Int → Int → Int → Int → zH → Option zRes} (h66 : ∀ (x0 x1 x2 x3 x4 : Int) (h : zH), (r66Z x0 x1 x2 x3 x4 h).bind e = r66A x0 x1 x2 x3 x4 h) (a1 a2 a5 t0 : Int) (h : zH) : (M_lookAt_128 krZ r66Z a1 a2 a5 t0 h).bind e = M_lookAt_128 krA r66A a1 a2 a5 t0 h := by
  refine Eq.trans (congrArg (fun z => Option.bind z e) (qe_M_lookAt_128 krZ r66Z a1 a2 a5 t0 h)) (Eq.trans ?_ (Eq.symm (qe_M_lookAt_128 krA r66A a1 a2 a5 t0 h)))
  generalize (400 : Nat) = f9
  refine zseg_e e (zcal_e _ _ ?_) (zorc_e _ _ ?_) hk (fun _ _ => rfl) f9 _ _ _ _
  · exact trivial
  · exact ⟨rfl, rfl, rfl, zap5_e (fun x0 x1 x2 x3 x4 h => n_M_lookAt_133 e hk h66 x0 x1 x2 x3 x4 h), trivial⟩
set_option maxRecDepth 100000 in
set_option maxHeartbeats 0 in
theorem n_M_lookAt_123 {ρ : Type} (e : zRes → Option ρ) {krA : Int → zH → Option ρ} {krZ : Int → zH → Option zRes} (hk : ∀ v h, (krZ v h).bind e = krA v h) {r66A : Int → Int → Int → Int → Int → zH → Option ρ} {r66Z : Int → Int → Int → Int → Int → zH → Option zRes} (h66 : ∀ (x0 x1 x2 x3 x4 : Int) (h : zH), (r66Z x0 x1 x2 x3 x4 h).bind e = r66A x0 x1 x2 x3 x4 h) (a1 a2 a5 : Int) (h : zH) : (M_lookAt_123 krZ r66Z a1 a2 a5 h).bind e = M_lookAt_123 krA r66A a1 a2 a5 h := by
  refine Eq.trans (congrArg (fun z => Option.bind z e) (qe_M_lookAt_123 krZ r66Z a1 a2 a5 h)) (Eq.trans ?_ (Eq.symm (qe_M_lookAt_123 krA r66A a1 a2 a5 h)))
  generalize (400 : Nat) = f9
  refine zseg_e e (zcal_e _ _ ?_) (zorc_e _ _ ?_) hk (fun _ _ => rfl) f9 _ _ _ _
  · exact trivial
  · exact ⟨rfl, rfl, rfl, zap4_e (fun x0 x1 x2 x3 h => n_M_lookAt_128 e hk h66 x0 x1 x2 x3 h), trivial⟩
set_option maxRecDepth 100000 in
set_option maxHeartbeats 0 in
theorem n_M_lookAt_127 {ρ : Type} (e : zRes → Option ρ) {krA : Int → zH → Option ρ} {krZ : Int → zH → Option zRes} (hk : ∀ v h, (krZ v h).bind e = krA v h) {r66A : Int → Int → Int → Int → Int → zH → Option ρ} {r66Z : Int → Int → Int → Int → Int → zH → Option zRes} (h66 : ∀ (x0 x1 x2 x3 x4 : Int) (h : zH), (r66Z x0 x1 x2 x3 x4 h).bind e = r66A x0 x1 x2 x3 x4 h) (a1 a2 a5 : Int) (h : zH) : (M_lookAt_127 krZ r66Z a1 a2 a5 h).bind e = M_lookAt_127 krA r66A a1 a2 a5 h := by
  refine Eq.trans (congrArg (fun z => Option.bind z e) (qe_M_lookAt_127 krZ r66Z a1 a2 a5 h)) (Eq.trans ?_ (Eq.symm (qe_M_lookAt_127 krA r66A a1 a2 a5 h)))
  generalize (400 : Nat) = f9
  refine zseg_e e (zcal_e _ _ ?_) (zorc_e _ _ ?_) hk (fun _ _ => rfl) f9 _ _ _ _
  · exact trivial
  · exact ⟨rfl, rfl, rfl, zap4_e (fun x0 x1 x2 x3 h => n_M_lookAt_128 e hk h66 x0 x1 x2 x3 h), trivial⟩
set_option maxRecDepth 100000 in
set_option maxHeartbeats 0 in
theorem n_M_lookAt_278 {ρ : Type} (e : zRes → Option ρ) {krA : Int → zH → Option ρ} {krZ : Int → zH → Option zRes} (hk : ∀ v h, (krZ v h).bind e = krA v h) {r191A : Int → Int → Int → zH → Option ρ} {r191Z : Int → Int → Int → zH → Option zRes} (h191 : ∀ (x0 x1 x2 : Int) (h : zH), (r191Z x0 x1 x2 h).bind e = r191A x0 x1 x2 h) (a1 a2 a5 : Int) (h : zH) : (M_lookAt_278 krZ r191Z a1 a2 a5 h).bind e = M_lookAt_278 krA r191A a1 a2 a5 h := by
  refine Eq.trans (congrArg (fun z => Option.bind z e) (qe_M_lookAt_278 krZ r191Z a1 a2 a5 h)) (Eq.trans ?_ (Eq.symm (qe_M_lookAt_278 krA r191A a1 a2 a5 h)))
  generalize (400 : Nat) = f9
  refine zseg_e e (zcal_e _ _ ?_) (zorc_e _ _ ?_) hk (fun _ _ => rfl) f9 _ _ _ _
  · exact trivial
  · exact ⟨rfl, rfl, rfl, zap3_e h191, trivial⟩
set_option maxRecDepth 100000 in
set_option maxHeartbeats 0 in
theorem n_M_lookAt_277 {ρ : Type} (e : zRes → Option ρ) {krA : Int → zH → Option ρ} {krZ : Int → zH → Option zRes} (hk : ∀ v h, (krZ v h).bind e = krA v h) {r191A : Int → Int → Int → zH → Option ρ} {r191Z : Int → Int → Int → zH → Option zRes} (h191 : ∀ (x0 x1 x2 : Int) (h : zH), (r191Z x0 x1 x2 h).bind e = r191A x0 x1 x2 h) (a1 a2 a5 t0 t1 : Int) (h : zH) : (M_lookAt_277 krZ r191Z a1 a2 a5 t0 t1 h).bind e = M_lookAt_277 krA r191A a1 a2 a5 t0 t1 h := by
  refine Eq.trans (congrArg (fun z => Option.bind z e) (qe_M_lookAt_277 krZ r191Z a1 a2 a5 t0 t1 h)) (Eq.trans ?_ (Eq.symm (qe_M_lookAt_277 krA r191A a1 a2 a5 t0 t1 h)))
  generalize (400 : Nat) = f9
  refine zseg_e e (zcal_e _ _ ?_) (zorc_e _ _ ?_) hk (fun _ _ => rfl) f9 _ _ _ _
  · exact trivial
  · exact ⟨rfl, rfl, rfl, zap3_e (fun x0 x1 x2 h => n_M_lookAt_278 e hk h191 x0 x1 x2 h), trivial⟩
set_option maxRecDepth 100000 in
set_option maxHeartbeats 0 in
theorem n_M_lookAt_191b {ρ : Type} (e : zRes → Option ρ) {krA : Int → zH → Option ρ} {krZ : Int → zH → Option zRes} (hk : ∀ v h, (krZ v h).bind e = krA v h) {r191A : Int → Int → Int → zH → Option ρ} {r191Z : Int → Int → Int → zH → Option zRes} (h191 : ∀ (x0 x1 x2 : Int) (h : zH), (r191Z x0 x1 x2 h).bind e = r191A x0 x1 x2 h) (a1 a2 a5 : Int) (h : zH) : (M_lookAt_191b krZ r191Z a1 a2 a5 h).bind e = M_lookAt_191b krA r191A a1 a2 a5 h := by
  refine Eq.trans (congrArg (fun z => Option.bind z e) (qe_M_lookAt_191b krZ r191Z a1 a2 a5 h)) (Eq.trans ?_ (Eq.symm (qe_M_lookAt_191b krA r191A a1 a2 a5 h)))
  generalize (400 : Nat) = f9
  refine zseg_e e (zcal_e _ _ ?_) (zorc_e _ _ ?_) hk (fun _ _ => rfl) f9 _ _ _ _
  · exact ⟨rfl, rfl, zca2_e (fun x0 x1 h k t => n_M_threadCell e (fun _ _ => rfl) x0 x1 h), trivial⟩
  · exact ⟨rfl, rfl, rfl, zap5_e (fun x0 x1 x2 x3 x4 h => n_M_lookAt_277 e hk h191 x0 x1 x2 x3 x4 h), ⟨rfl, rfl, rfl, zap3_e (fun x0 x1 x2 h => n_M_lookAt_278 e hk h191 x0 x1 x2 h), trivial⟩⟩
theorem n_M_lookAt_191 {ρ : Type} (e : zRes → Option ρ) {krA : Int → zH → Option ρ} {krZ : Int → zH → Option zRes} (hk : ∀ v h, (krZ v h).bind e = krA v h) (a1 a2 a5 : Int) (h : zH) : (M_lookAt_191 krZ a1 a2 a5 h).bind e = M_lookAt_191 krA a1 a2 a5 h := zit3_e (fun rA rZ hh a1 a2 a5 h => n_M_lookAt_191b e hk hh a1 a2 a5 h) zN a1 a2 a5 h
set_option maxRecDepth 100000 in
set_option maxHeartbeats 0 in
theorem n_M_lookAt_66b {ρ : Type} (e : zRes → Option ρ) {krA : Int → zH → Option ρ} {krZ : Int → zH → Option zRes} (hk : ∀ v h, (krZ v h).bind e = krA v h) {r66A : Int → Int → Int → Int → Int → zH → Option ρ} {r66Z : Int → Int → Int → Int → Int → zH → Option zRes} (h66 : ∀ (x0 x1 x2 x3 x4 : Int) (h : zH), (r66Z x0 x1 x2 x3 x4 h).bind e = r66A x0 x1 x2 x3 x4 h) (a1 a2 a3 a4 a5 : Int) (h : zH) : (M_lookAt_66b krZ r66Z a1 a2 a3 a4 a5 h).bind e = M_lookAt_66b krA r66A a1 a2 a3 a4 a5 h := by
  refine Eq.trans (congrArg (fun z => Option.bind z e) (qe_M_lookAt_66b krZ r66Z a1 a2 a3 a4 a5 h)) (Eq.trans ?_ (Eq.symm (qe_M_lookAt_66b krA r66A a1 a2 a3 a4 a5 h)))
  generalize (400 : Nat) = f9
  refine zseg_e e (zcal_e _ _ ?_) (zorc_e _ _ ?_) hk (fun _ _ => rfl) f9 _ _ _ _
  · exact ⟨rfl, rfl, zca5_e (fun x0 x1 x2 x3 x4 h k t => n_M_fail e (fun _ _ => rfl) x0 x1 x2 x3 x4 h), ⟨rfl, rfl, zca2_e (fun x0 x1 h k t => n_M_threadCell e (fun _ _ => rfl) x0 x1 h), trivial⟩⟩
  · exact ⟨rfl, rfl, rfl, zap3_e (fun x0 x1 x2 h => n_M_lookAt_123 e hk h66 x0 x1 x2 h), ⟨rfl, rfl, rfl, zap3_e (fun x0 x1 x2 h => n_M_lookAt_127 e hk h66 x0 x1 x2 h), ⟨rfl, rfl, rfl, zap5_e (fun x0 x1 x2 x3 x4 h => n_M_lookAt_133 e hk h66 x0 x1 x2 x3 x4 h), ⟨rfl, rfl, rfl, zap3_e (fun x0 x1 x2 h => n_M_lookAt_191 e hk x0 x1 x2 h), trivial⟩⟩⟩⟩
theorem n_M_lookAt_66 {ρ : Type} (e : zRes → Option ρ) {krA : Int → zH → Option ρ} {krZ : Int → zH → Option zRes} (hk : ∀ v h, (krZ v h).bind e = krA v h) (a1 a2 a3 a4 a5 : Int) (h : zH) : (M_lookAt_66 krZ a1 a2 a3 a4 a5 h).bind e = M_lookAt_66 krA a1 a2 a3 a4 a5 h := zit5_e (fun rA rZ hh a1 a2 a3 a4 a5 h => n_M_lookAt_66b e hk hh a1 a2 a3 a4 a5 h) zN a1 a2 a3 a4 a5 h
set_option maxRecDepth 100000 in
set_option maxHeartbeats 0 in
theorem n_M_lookAt {ρ : Type} (e : zRes → Option ρ) {krA : Int → zH → Option ρ} {krZ : Int → zH → Option zRes} (hk : ∀ v h, (krZ v h).bind e = krA v h) (a1 : Int) (h : zH) : (M_lookAt a1 h krZ).bind e = M_lookAt a1 h krA := by
  refine Eq.trans (congrArg (fun z => Option.bind z e) (qe_M_lookAt krZ a1 h)) (Eq.trans ?_ (Eq.symm (qe_M_lookAt krA a1 h)))
  generalize (400 : Nat) = f9
  refine zseg_e e (zcal_e _ _ ?_) (zorc_e _ _ ?_) hk (fun _ _ => rfl) f9 _ _ _ _
  · exact ⟨rfl, rfl, zca1_e (fun x0 h k t => n_M_leave e (fun _ _ => rfl) x0 h), ⟨rfl, rfl, zca2_e (fun x0 x1 h k t => n_M_count e (fun _ _ => rfl) x0 x1 h), trivial⟩⟩
  · exact ⟨rfl, rfl, rfl, zap0_e (fun  h => n_M_lookAt_24 e hk  h), ⟨rfl, rfl, rfl, zap5_e (fun x0 x1 x2 x3 x4 h => n_M_lookAt_66 e hk x0 x1 x2 x3 x4 h), trivial⟩⟩
set_option maxRecDepth 100000 in
set_option maxHeartbeats 0 in
theorem n_M_hasEnded_74 {ρ : Type} (e : zRes → Option ρ) {krA : Int → zH → Option ρ} {krZ : Int → zH → Option zRes} (hk : ∀ v h, (krZ v h).bind e = krA v h) {r19A : Int → Int → Int → Int → zH → Option ρ} {r19Z : Int → Int → Int → Int → zH → Option zRes} (h19 : ∀ (x0 x1 x2 x3 : Int) (h : zH), (r19Z x0 x1 x2 x3 h).bind e = r19A x0 x1 x2 x3 h) (a1 a2 a4 t0 : Int) (h : zH) : (M_hasEnded_74 krZ r19Z a1 a2 a4 t0 h).bind e = M_hasEnded_74 krA r19A a1 a2 a4 t0 h := by
  refine Eq.trans (congrArg (fun z => Option.bind z e) (qe_M_hasEnded_74 krZ r19Z a1 a2 a4 t0 h)) (Eq.trans ?_ (Eq.symm (qe_M_hasEnded_74 krA r19A a1 a2 a4 t0 h)))
  generalize (400 : Nat) = f9
  refine zseg_e e (zcal_e _ _ ?_) (zorc_e _ _ ?_) hk (fun _ _ => rfl) f9 _ _ _ _
  · exact trivial
  · exact ⟨rfl, rfl, rfl, zap4_e h19, trivial⟩
set_option maxRecDepth 100000 in
set_option maxHeartbeats 0 in
theorem n_M_hasEnded_73 {ρ : Type} (e : zRes → Option ρ) {krA : Int → zH → Option ρ} {krZ : Int → zH → Option zRes} (hk : ∀ v h, (krZ v h).bind e = krA v h) {r19A : Int → Int → Int → Int → zH → Option ρ} {r19Z : Int → Int → Int → Int → zH → Option zRes} (h19 : ∀ (x0 x1 x2 x3 : Int) (h : zH), (r19Z x0 x1 x2 x3 h).bind e = r19A x0 x1 x2 x3 h) (a1 a2 a4 : Int) (h : zH) : (M_hasEnded_73 krZ r19Z a1 a2 a4 h).bind e = M_hasEnded_73 krA r19A a1 a2 a4 h := by
  refine Eq.trans (congrArg (fun z => Option.bind z e) (qe_M_hasEnded_73 krZ r19Z a1 a2 a4 h)) (Eq.trans ?_ (Eq.symm (qe_M_hasEnded_73 krA r19A a1 a2 a4 h)))
  generalize (400 : Nat) = f9
  refine zseg_e e (zcal_e _ _ ?_) (zorc_e _ _ ?_) hk (fun _ _ => rfl) f9 _ _ _ _
  · exact trivial
  · exact ⟨rfl, rfl, rfl, zap4_e (fun x0 x1 x2 x3 h => n_M_hasEnded_74 e hk h19 x0 x1 x2 x3 h), trivial⟩
set_option maxRecDepth 100000 in
set_option maxHeartbeats 0 in
theorem n_M_hasEnded_81 {ρ : Type} (e : zRes → Option ρ) {krA : Int → zH → Option ρ} {krZ : Int → zH → Option zRes} (hk : ∀ v h, (krZ v h).bind e = krA v h) (a3 : Int) (h : zH) : (M_hasEnded_81 krZ a3 h).bind e = M_hasEnded_81 krA a3 h := by
  refine Eq.trans (congrArg (fun z => Option.bind z e) (qe_M_hasEnded_81 krZ a3 h)) (Eq.trans ?_ (Eq.symm (qe_M_hasEnded_81 krA a3 h)))
  generalize (400 : Nat) = f9
  refine zseg_e e (zcal_e _ _ ?_) (zorc_e _ _ ?_) hk (fun _ _ => rfl) f9 _ _ _ _
  · exact trivial
  · exact trivial
set_option maxRecDepth 100000 in
set_option maxHeartbeats 0 in
theorem n_M_hasEnded_19b {ρ : Type} (e : zRes → Option ρ) {krA : Int → zH → Option ρ} {krZ : Int → zH → Option zRes} (hk : ∀ v h, (krZ v h).bind e = krA v h) {r19A : Int → Int → Int → Int → zH → Option ρ} {r19Z : Int → Int → Int → Int → zH → Option zRes} (h19 : ∀ (x0 x1 x2 x3 : Int) (h : zH), (r19Z x0 x1 x2 x3 h).bind e = r19A x0 x1 x2 x3 h) (a1 a2 a3 a4 : Int) (h : zH) : (M_hasEnded_19b krZ r19Z a1 a2 a3 a4 h).bind e = M_hasEnded_19b krA r19A a1 a2 a3 a4 h := by
  refine Eq.trans (congrArg (fun z => Option.bind z e) (qe_M_hasEnded_19b krZ r19Z a1 a2 a3 a4 h)) (Eq.trans ?_ (Eq.symm (qe_M_hasEnded_19b krA r19A a1 a2 a3 a4 h)))
  generalize (400 : Nat) = f9
  refine zseg_e e (zcal_e _ _ ?_) (zorc_e _ _ ?_) hk (fun _ _ => rfl) f9 _ _ _ _
  · exact ⟨rfl, rfl, zca2_e (fun x0 x1 h k t => n_M_threadCell e (fun _ _ => rfl) x0 x1 h), trivial⟩
  · exact ⟨rfl, rfl, rfl, zap3_e (fun x0 x1 x2 h => n_M_hasEnded_73 e hk h19 x0 x1 x2 h), ⟨rfl, rfl, rfl, zap4_e (fun x0 x1 x2 x3 h => n_M_hasEnded_74 e hk h19 x0 x1 x2 x3 h), ⟨rfl, rfl, rfl, zap1_e (fun x0 h => n_M_hasEnded_81 e hk x0 h), trivial⟩⟩⟩
theorem n_M_hasEnded_19 {ρ : Type} (e : zRes → Option ρ) {krA : Int → zH → Option ρ} {krZ : Int → zH → Option zRes} (hk : ∀ v h, (krZ v h).bind e = krA v h) (a1 a2 a3 a4 : Int) (h : zH) : (M_hasEnded_19 krZ a1 a2 a3 a4 h).bind e = M_hasEnded_19 krA a1 a2 a3 a4 h := zit4_e (fun rA rZ hh a1 a2 a3 a4 h => n_M_hasEnded_19b e hk hh a1 a2 a3 a4 h) zN a1 a2 a3 a4 h
set_option maxRecDepth 100000 in
set_option maxHeartbeats 0 in
theorem n_M_hasEnded {ρ : Type} (e : zRes → Option ρ) {krA : Int → zH → Option ρ} {krZ : Int → zH → Option zRes} (hk : ∀ v h, (krZ v h).bind e = krA v h) (a1 : Int) (h : zH) : (M_hasEnded a1 h krZ).bind e = M_hasEnded a1 h krA := by
  refine Eq.trans (congrArg (fun z => Option.bind z e) (qe_M_hasEnded krZ a1 h)) (Eq.trans ?_ (Eq.symm (qe_M_hasEnded krA a1 h)))
  generalize (400 : Nat) = f9
  refine zseg_e e (zcal_e _ _ ?_) (zorc_e _ _ ?_) hk (fun _ _ => rfl) f9 _ _ _ _
  · exact trivial
  · exact ⟨rfl, rfl, rfl, zap4_e (fun x0 x1 x2 x3 h => n_M_hasEnded_19 e hk x0 x1 x2 x3 h), trivial⟩
set_option maxRecDepth 100000 in
set_option maxHeartbeats 0 in
theorem n_M_writeFirst_35b {ρ : Type} (e : zRes → Option ρ) {krA : Int → zH → Option ρ} {krZ : Int → zH → Option zRes} (hk : ∀ v h, (krZ v h).bind e = krA v h) {r35A : Int → Int → zH → Option ρ} {r35Z : Int → Int → zH → Option zRes} (h35 : ∀ (x0 x1 : Int) (h : zH), (r35Z x0 x1 h).bind e = r35A x0 x1 h) (a1 a2 : Int) (h : zH) : (M_writeFirst_35b krZ r35Z a1 a2 h).bind e = M_writeFirst_35b krA r35A a1 a2 h := by
  refine Eq.trans (congrArg (fun z => Option.bind z e) (qe_M_writeFirst_35b krZ r35Z a1 a2 h)) (Eq.trans ?_ (Eq.symm (qe_M_writeFirst_35b krA r35A a1 a2 h)))
  generalize (400 : Nat) = f9
  refine zseg_e e (zcal_e _ _ ?_) (zorc_e _ _ ?_) hk (fun _ _ => rfl) f9 _ _ _ _
  · exact trivial
  · exact ⟨rfl, rfl, rfl, zap2_e h35, trivial⟩
theorem n_M_writeFirst_35 {ρ : Type} (e : zRes → Option ρ) {krA : Int → zH → Option ρ} {krZ : Int → zH → Option zRes} (hk : ∀ v h, (krZ v h).bind e = krA v h) (a1 a2 : Int) (h : zH) : (M_writeFirst_35 krZ a1 a2 h).bind e = M_writeFirst_35 krA a1 a2 h := zit2_e (fun rA rZ hh a1 a2 h => n_M_writeFirst_35b e hk hh a1 a2 h) zN a1 a2 h
set_option maxRecDepth 100000 in
set_option maxHeartbeats 0 in
theorem n_M_writeFirst {ρ : Type} (e : zRes → Option ρ) {krA : Int → zH → Option ρ} {krZ : Int → zH → Option zRes} (hk : ∀ v h, (krZ v h).bind e = krA v h) (a1 : Int) (h : zH) : (M_writeFirst a1 h krZ).bind e = M_writeFirst a1 h krA := by
  refine Eq.trans (congrArg (fun z => Option.bind z e) (qe_M_writeFirst krZ a1 h)) (Eq.trans ?_ (Eq.symm (qe_M_writeFirst krA a1 h)))
  generalize (400 : Nat) = f9
  refine zseg_e e (zcal_e _ _ ?_) (zorc_e _ _ ?_) hk (fun _ _ => rfl) f9 _ _ _ _
  · exact trivial
  · exact ⟨rfl, rfl, rfl, zap2_e (fun x0 x1 h => n_M_writeFirst_35 e hk x0 x1 h), trivial⟩
set_option maxRecDepth 100000 in
set_option maxHeartbeats 0 in
theorem n_M_writeAll_7b {ρ : Type} (e : zRes → Option ρ) {krA : Int → zH → Option ρ} {krZ : Int → zH → Option zRes} (hk : ∀ v h, (krZ v h).bind e = krA v h) {r7A : Int → Int → zH → Option ρ} {r7Z : Int → Int → zH → Option zRes} (h7 : ∀ (x0 x1 : Int) (h : zH), (r7Z x0 x1 h).bind e = r7A x0 x1 h) (a1 a2 : Int) (h : zH) : (M_writeAll_7b krZ r7Z a1 a2 h).bind e = M_writeAll_7b krA r7A a1 a2 h := by
  refine Eq.trans (congrArg (fun z => Option.bind z e) (qe_M_writeAll_7b krZ r7Z a1 a2 h)) (Eq.trans ?_ (Eq.symm (qe_M_writeAll_7b krA r7A a1 a2 h)))
  generalize (400 : Nat) = f9
  refine zseg_e e (zcal_e _ _ ?_) (zorc_e _ _ ?_) hk (fun _ _ => rfl) f9 _ _ _ _
  · exact ⟨rfl, rfl, zca1_e (fun x0 h k t => n_M_writeFirst e (fun _ _ => rfl) x0 h), trivial⟩
  · exact ⟨rfl, rfl, rfl, zap2_e h7, trivial⟩
theorem n_M_writeAll_7 {ρ : Type} (e : zRes → Option ρ) {krA : Int → zH → Option ρ} {krZ : Int → zH → Option zRes} (hk : ∀ v h, (krZ v h).bind e = krA v h) (a1 a2 : Int) (h : zH) : (M_writeAll_7 krZ a1 a2 h).bind e = M_writeAll_7 krA a1 a2 h := zit2_e (fun rA rZ hh a1 a2 h => n_M_writeAll_7b e hk hh a1 a2 h) zN a1 a2 h
set_option maxRecDepth 100000 in
set_option maxHeartbeats 0 in
theorem n_M_writeAll {ρ : Type} (e : zRes → Option ρ) {krA : Int → zH → Option ρ} {krZ : Int → zH → Option zRes} (hk : ∀ v h, (krZ v h).bind e = krA v h) (a1 : Int) (h : zH) : (M_writeAll a1 h krZ).bind e = M_writeAll a1 h krA := by
  refine Eq.trans (congrArg (fun z => Option.bind z e) (qe_M_writeAll krZ a1 h)) (Eq.trans ?_ (Eq.symm (qe_M_writeAll krA a1 h)))
  generalize (400 : Nat) = f9
  refine zseg_e e (zcal_e _ _ ?_) (zorc_e _ _ ?_) hk (fun _ _ => rfl) f9 _ _ _ _
  · exact trivial
  · exact ⟨rfl, rfl, rfl, zap2_e (fun x0 x1 h => n_M_writeAll_7 e hk x0 x1 h), trivial⟩
set_option maxRecDepth 100000 in
set_option maxHeartbeats 0 in
theorem n_M_writeEnded_53 {ρ : Type} (e : zRes → Option ρ) {krA : Int → zH → Option ρ} {krZ : Int → zH → Option zRes} (hk : ∀ v h, (krZ v h).bind e = krA v h) {r9A : Int → Int → Int → zH → Option ρ} {r9Z : Int → Int → Int → zH → Option zRes} (h9 : ∀ (x0 x1 x2 : Int) (h : zH), (r9Z x0 x1 x2 h).bind e = r9A x0 x1 x2 h) (a1 a2 a3 : Int) (h : zH) : (M_writeEnded_53 krZ r9Z a1 a2 a3 h).bind e = M_writeEnded_53 krA r9A a1 a2 a3 h := by
  refine Eq.trans (congrArg (fun z => Option.bind z e) (qe_M_writeEnded_53 krZ r9Z a1 a2 a3 h)) (Eq.trans ?_ (Eq.symm (qe_M_writeEnded_53 krA r9A a1 a2 a3 h)))
  generalize (400 : Nat) = f9
  refine zseg_e e (zcal_e _ _ ?_) (zorc_e _ _ ?_) hk (fun _ _ => rfl) f9 _ _ _ _
  · exact trivial
  · exact ⟨rfl, rfl, rfl, zap3_e h9, trivial⟩
set_option maxRecDepth 100000 in
set_option maxHeartbeats 0 in
theorem n_M_writeEnded_9b {ρ : Type} (e : zRes → Option ρ) {krA : Int → zH → Option ρ} {krZ : Int → zH → Option zRes} (hk : ∀ v h, (krZ v h).bind e = krA v h) {r9A : Int → Int → Int → zH → Option ρ} {r9Z : Int → Int → Int → zH → Option zRes} (h9 : ∀ (x0 x1 x2 : Int) (h : zH), (r9Z x0 x1 x2 h).bind e = r9A x0 x1 x2 h) (a1 a2 a3 : Int) (h : zH) : (M_writeEnded_9b krZ r9Z a1 a2 a3 h).bind e = M_writeEnded_9b krA r9A a1 a2 a3 h := by
  refine Eq.trans (congrArg (fun z => Option.bind z e) (qe_M_writeEnded_9b krZ r9Z a1 a2 a3 h)) (Eq.trans ?_ (Eq.symm (qe_M_writeEnded_9b krA r9A a1 a2 a3 h)))
  generalize (400 : Nat) = f9
  refine zseg_e e (zcal_e _ _ ?_) (zorc_e _ _ ?_) hk (fun _ _ => rfl) f9 _ _ _ _
  · exact ⟨rfl, rfl, zca1_e (fun x0 h k t => n_M_hasEnded e (fun _ _ => rfl) x0 h), ⟨rfl, rfl, zca1_e (fun x0 h k t => n_M_writeAll e (fun _ _ => rfl) x0 h), trivial⟩⟩
  · exact ⟨rfl, rfl, rfl, zap3_e (fun x0 x1 x2 h => n_M_writeEnded_53 e hk h9 x0 x1 x2 h), trivial⟩
theorem n_M_writeEnded_9 {ρ : Type} (e : zRes → Option ρ) {krA : Int → zH → Option ρ} {krZ : Int → zH → Option zRes} (hk : ∀ v h, (krZ v h).bind e = krA v h) (a1 a2 a3 : Int) (h : zH) : (M_writeEnded_9 krZ a1 a2 a3 h).bind e = M_writeEnded_9 krA a1 a2 a3 h := zit3_e (fun rA rZ hh a1 a2 a3 h => n_M_writeEnded_9b e hk hh a1 a2 a3 h) zN a1 a2 a3 h
set_option maxRecDepth 100000 in
set_option maxHeartbeats 0 in
theorem n_M_writeEnded {ρ : Type} (e : zRes → Option ρ) {krA : Int → zH → Option ρ} {krZ : Int → zH → Option zRes} (hk : ∀ v h, (krZ v h).bind e = krA v h) (a1 : Int) (h : zH) : (M_writeEnded a1 h krZ).bind e = M_writeEnded a1 h krA := by
  refine Eq.trans (congrArg (fun z => Option.bind z e) (qe_M_writeEnded krZ a1 h)) (Eq.trans ?_ (Eq.symm (qe_M_writeEnded krA a1 h)))
  generalize (400 : Nat) = f9
  refine zseg_e e (zcal_e _ _ ?_) (zorc_e _ _ ?_) hk (fun _ _ => rfl) f9 _ _ _ _
  · exact trivial
  · exact ⟨rfl, rfl, rfl, zap3_e (fun x0 x1 x2 h => n_M_writeEnded_9 e hk x0 x1 x2 h), trivial⟩
set_option maxRecDepth 100000 in
set_option maxHeartbeats 0 in
theorem n_M_settle_37 {ρ : Type} (e : zRes → Option ρ) {krA : Int → zH → Option ρ} {krZ : Int → zH → Option zRes} (hk : ∀ v h, (krZ v h).bind e = krA v h) (h : zH) : (M_settle_37 krZ h).bind e = M_settle_37 krA h := by
  refine Eq.trans (congrArg (fun z => Option.bind z e) (qe_M_settle_37 krZ h)) (Eq.trans ?_ (Eq.symm (qe_M_settle_37 krA h)))
  generalize (400 : Nat) = f9
  refine zseg_e e (zcal_e _ _ ?_) (zorc_e _ _ ?_) hk (fun _ _ => rfl) f9 _ _ _ _
  · exact trivial
  · exact trivial
set_option maxRecDepth 100000 in
set_option maxHeartbeats 0 in
theorem n_M_settle_2b {ρ : Type} (e : zRes → Option ρ) {krA : Int → zH → Option ρ} {krZ : Int → zH → Option zRes} (hk : ∀ v h, (krZ v h).bind e = krA v h) {r2A : Int → Int → zH → Option ρ} {r2Z : Int → Int → zH → Option zRes} (h2 : ∀ (x0 x1 : Int) (h : zH), (r2Z x0 x1 h).bind e = r2A x0 x1 h) (a1 a2 : Int) (h : zH) : (M_settle_2b krZ r2Z a1 a2 h).bind e = M_settle_2b krA r2A a1 a2 h := by
  refine Eq.trans (congrArg (fun z => Option.bind z e) (qe_M_settle_2b krZ r2Z a1 a2 h)) (Eq.trans ?_ (Eq.symm (qe_M_settle_2b krA r2A a1 a2 h)))
  generalize (400 : Nat) = f9
  refine zseg_e e (zcal_e _ _ ?_) (zorc_e _ _ ?_) hk (fun _ _ => rfl) f9 _ _ _ _
  · exact ⟨rfl, rfl, zca1_e (fun x0 h k t => n_M_lookAt e (fun _ _ => rfl) x0 h), ⟨rfl, rfl, zca1_e (fun x0 h k t => n_M_writeEnded e (fun _ _ => rfl) x0 h), trivial⟩⟩
  · exact ⟨rfl, rfl, rfl, zap2_e h2, ⟨rfl, rfl, rfl, zap0_e (fun  h => n_M_settle_37 e hk  h), trivial⟩⟩
theorem n_M_settle_2 {ρ : Type} (e : zRes → Option ρ) {krA : Int → zH → Option ρ} {krZ : Int → zH → Option zRes} (hk : ∀ v h, (krZ v h).bind e = krA v h) (a1 a2 : Int) (h : zH) : (M_settle_2 krZ a1 a2 h).bind e = M_settle_2 krA a1 a2 h := zit2_e (fun rA rZ hh a1 a2 h => n_M_settle_2b e hk hh a1 a2 h) zN a1 a2 h
set_option maxRecDepth 100000 in
set_option maxHeartbeats 0 in
theorem n_M_settle {ρ : Type} (e : zRes → Option ρ) {krA : Int → zH → Option ρ} {krZ : Int → zH → Option zRes} (hk : ∀ v h, (krZ v h).bind e = krA v h) (a1 : Int) (h : zH) : (M_settle a1 h krZ).bind e = M_settle a1 h krA := by
  refine Eq.trans (congrArg (fun z => Option.bind z e) (qe_M_settle krZ a1 h)) (Eq.trans ?_ (Eq.symm (qe_M_settle krA a1 h)))
  generalize (400 : Nat) = f9
  refine zseg_e e (zcal_e _ _ ?_) (zorc_e _ _ ?_) hk (fun _ _ => rfl) f9 _ _ _ _
  · exact trivial
  · exact ⟨rfl, rfl, rfl, zap2_e (fun x0 x1 h => n_M_settle_2 e hk x0 x1 h), trivial⟩
set_option maxRecDepth 100000 in
set_option maxHeartbeats 0 in
theorem n_M_access_186 {ρ : Type} (e : zRes → Option ρ) {krA : Int → zH → Option ρ} {krZ : Int → zH → Option zRes} (hk : ∀ v h, (krZ v h).bind e = krA v h) {r21A : Int → Int → Int → Int → Int → Int → Int → zH → Option ρ} {r21Z : Int → Int → Int → Int → Int → Int → Int → zH → Option zRes} (h21 : ∀ (x0 x1 x2 x3 x4 x5 x6 : Int) (h : zH), (r21Z x0 x1 x2 x3 x4 x5 x6 h).bind e = r21A x0 x1 x2 x3 x4 x5 x6 h) {r36A : Int → Int → Int → Int → Int → Int → Int → Int → zH → Option ρ} {r36Z : Int → Int → Int → Int → Int → Int → Int → Int → zH → Option zRes} (h36 : ∀ (x0 x1 x2 x3 x4 x5 x6 x7 : Int) (h : zH), (r36Z x0 x1 x2 x3 x4 x5 x6 x7 h).bind e = r36A x0 x1 x2 x3 x4 x5 x6 x7 h) (a1 a2 a3 a4 a5 a6 a7 a8 t0 t1 : Int) (h : zH) : (M_access_186 krZ r21Z r36Z a1 a2 a3 a4 a5 a6 a7 a8 t0 t1 h).bind e = M_access_186 krA r21A r36A a1 a2 a3 a4 a5 a6 a7 a8 t0 t1 h := by
  refine Eq.trans (congrArg (fun z => Option.bind z e) (qe_M_access_186 krZ r21Z r36Z a1 a2 a3 a4 a5 a6 a7 a8 t0 t1 h)) (Eq.trans ?_ (Eq.symm (qe_M_access_186 krA r21A r36A a1 a2 a3 a4 a5 a6 a7 a8 t0 t1 h)))
  generalize (400 : Nat) = f9
  refine zseg_e e (zcal_e _ _ ?_) (zorc_e _ _ ?_) hk (fun _ _ => rfl) f9 _ _ _ _
  · exact trivial
  · exact ⟨rfl, rfl, rfl, zap8_e h36, trivial⟩
set_option maxRecDepth 100000 in
set_option maxHeartbeats 0 in
theorem n_M_access_181 {ρ : Type} (e : zRes → Option ρ) {krA : Int → zH → Option ρ} {krZ : Int → zH → Option zRes} (hk : ∀ v h, (krZ v h).bind e = krA v h) {r21A : Int → Int → Int → Int → Int → Int → Int → zH → Option ρ} {r21Z : Int → Int → Int → Int → Int → Int → Int → zH → Option zRes} (h21 : ∀ (x0 x1 x2 x3 x4 x5 x6 : Int) (h : zH), (r21Z x0 x1 x2 x3 x4 x5 x6 h).bind e = r21A x0 x1 x2 x3 x4 x5 x6 h) {r36A : Int → Int → Int → Int → Int → Int → Int → Int → zH → Option ρ} {r36Z : Int → Int → Int → Int → Int → Int → Int → Int → zH → Option zRes} (h36 : ∀ (x0 x1 x2 x3 x4 x5 x6 x7 : Int) (h : zH), (r36Z x0 x1 x2 x3 x4 x5 x6 x7 h).bind e = r36A x0 x1 x2 x3 x4 x5 x6 x7 h) (a1 a2 a3 a4 a5 a6 a7 a8 t0 : Int) (h : zH) : (M_access_181 krZ r21Z r36Z a1 a2 a3 a4 a5 a6 a7 a8 t0 h).bind e = M_access_181 krA r21A r36A a1 a2 a3 a4 a5 a6 a7 a8 t0 h := by
  refine Eq.trans (congrArg (fun z => Option.bind z e) (qe_M_access_181 krZ r21Z r36Z a1 a2 a3 a4 a5 a6 a7 a8 t0 h)) (Eq.trans ?_ (Eq.symm (qe_M_access_181 krA r21A r36A a1 a2 a3 a4 a5 a6 a7 a8 t0 h)))
  generalize (400 : Nat) = f9
  refine zseg_e e (zcal_e _ _ ?_) (zorc_e _ _ ?_) hk (fun _ _ => rfl) f9 _ _ _ _
  · exact trivial
  · exact ⟨rfl, rfl, rfl, zap10_e (fun x0 x1 x2 x3 x4 x5 x6 x7 x8 x9 h => n_M_access_186 e hk h21 h36 x0 x1 x2 x3 x4 x5 x6 x7 x8 x9 h), trivial⟩
set_option maxRecDepth 100000 in
set_option maxHeartbeats 0 in
theorem n_M_access_148 {ρ : Type} (e : zRes → Option ρ) {krA : Int → zH → Option ρ} {krZ : Int → zH → Option zRes} (hk : ∀ v h, (krZ v h).bind e = krA v h) {r21A : Int → Int → Int → Int → Int → Int → Int → zH → Option ρ} {r21Z : Int → Int → Int → Int → Int → Int → Int → zH → Option zRes} (h21 : ∀ (x0 x1 x2 x3 x4 x5 x6 : Int) (h : zH), (r21Z x0 x1 x2 x3 x4 x5 x6 h).bind e = r21A x0 x1 x2 x3 x4 x5 x6 h) {r36A : Int → Int → Int → Int → Int → Int → Int → Int → zH → Option ρ} {r36Z : Int → Int → Int → Int → Int → Int → Int → Int → zH → Option zRes} (h36 : ∀ (x0 x1 x2 x3 x4 x5 x6 x7 : Int) (h : zH), (r36Z x0 x1 x2 x3 x4 x5 x6 x7 h).bind e = r36A x0 x1 x2 x3 x4 x5 x6 x7 h) (a1 a2 a3 a4 a5 a6 a7 a8 t0 : Int) (h : zH) : (M_access_148 krZ r21Z r36Z a1 a2 a3 a4 a5 a6 a7 a8 t0 h).bind e = M_access_148 krA r21A r36A a1 a2 a3 a4 a5 a6 a7 a8 t0 h := by
  refine Eq.trans (congrArg (fun z => Option.bind z e) (qe_M_access_148 krZ r21Z r36Z a1 a2 a3 a4 a5 a6 a7 a8 t0 h)) (Eq.trans ?_ (Eq.symm (qe_M_access_148 krA r21A r36A a1 a2 a3 a4 a5 a6 a7 a8 t0 h)))
  generalize (400 : Nat) = f9
  refine zseg_e e (zcal_e _ _ ?_) (zorc_e _ _ ?_) hk (fun _ _ => rfl) f9 _ _ _ _
  · exact trivial
  · exact ⟨rfl, rfl, rfl, zap9_e (fun x0 x1 x2 x3 x4 x5 x6 x7 x8 h => n_M_access_181 e hk h21 h36 x0 x1 x2 x3 x4 x5 x6 x7 x8 h), ⟨rfl, rfl, rfl, zap10_e (fun x0 x1 x2 x3 x4 x5 x6 x7 x8 x9 h => n_M_access_186 e hk h21 h36 x0 x1 x2 x3 x4 x5 x6 x7 x8 x9 h), trivial⟩⟩
set_option maxRecDepth 100000 in
set_option maxHeartbeats 0 in
theorem n_M_access_143 {ρ : Type} (e : zRes → Option ρ) {krA : Int → zH → Option ρ} {krZ : Int → zH → Option zRes} (hk : ∀ v h, (krZ v h).bind e = krA v h) {r21A : Int → Int → Int → Int → Int → Int → Int → zH → Option ρ} {r21Z : Int → Int → Int → Int → Int → Int → Int → zH → Option zRes} (h21 : ∀ (x0 x1 x2 x3 x4 x5 x6 : Int) (h : zH), (r21Z x0 x1 x2 x3 x4 x5 x6 h).bind e = r21A x0 x1 x2 x3 x4 x5 x6 h) {r36A : Int → Int → Int → Int → Int → Int → Int → Int → zH → Option ρ} {r36Z : Int → Int → Int → Int → Int → Int → Int → Int → zH → Option zRes} (h36 : ∀ (x0 x1 x2 x3 x4 x5 x6 x7 : Int) (h : zH), (r36Z x0 x1 x2 x3 x4 x5 x6 x7 h).bind e = r36A x0 x1 x2 x3 x4 x5 x6 x7 h) (a1 a2 a3 a4 a5 a6 a7 a8 : Int) (h : zH) : (M_access_143 krZ r21Z r36Z a1 a2 a3 a4 a5 a6 a7 a8 h).bind e = M_access_143 krA r21A r36A a1 a2 a3 a4 a5 a6 a7 a8 h := by
  refine Eq.trans (congrArg (fun z => Option.bind z e) (qe_M_access_143 krZ r21Z r36Z a1 a2 a3 a4 a5 a6 a7 a8 h)) (Eq.trans ?_ (Eq.symm (qe_M_access_143 krA r21A r36A a1 a2 a3 a4 a5 a6 a7 a8 h)))
  generalize (400 : Nat) = f9
  refine zseg_e e (zcal_e _ _ ?_) (zorc_e _ _ ?_) hk (fun _ _ => rfl) f9 _ _ _ _
  · exact trivial
  · exact ⟨rfl, rfl, rfl, zap9_e (fun x0 x1 x2 x3 x4 x5 x6 x7 x8 h => n_M_access_148 e hk h21 h36 x0 x1 x2 x3 x4 x5 x6 x7 x8 h), trivial⟩
set_option maxRecDepth 100000 in
set_option maxHeartbeats 0 in
theorem n_M_access_147 {ρ : Type} (e : zRes → Option ρ) {krA : Int → zH → Option ρ} {krZ : Int → zH → Option zRes} (hk : ∀ v h, (krZ v h).bind e = krA v h) {r21A : Int → Int → Int → Int → Int → Int → Int → zH → Option ρ} {r21Z : Int → Int → Int → Int → Int → Int → Int → zH → Option zRes} (h21 : ∀ (x0 x1 x2 x3 x4 x5 x6 : Int) (h : zH), (r21Z x0 x1 x2 x3 x4 x5 x6 h).bind e = r21A x0 x1 x2 x3 x4 x5 x6 h) {r36A : Int → Int → Int → Int → Int → Int → Int → Int → zH → Option ρ} {r36Z : Int → Int → Int → Int → Int → Int → Int → Int → zH → Option zRes} (h36 : ∀ (x0 x1 x2 x3 x4 x5 x6 x7 : Int) (h : zH), (r36Z x0 x1 x2 x3 x4 x5 x6 x7 h).bind e = r36A x0 x1 x2 x3 x4 x5 x6 x7 h) (a1 a2 a3 a4 a5 a6 a7 a8 : Int) (h : zH) : (M_access_147 krZ r21Z r36Z a1 a2 a3 a4 a5 a6 a7 a8 h).bind e = M_access_147 krA r21A r36A a1 a2 a3 a4 a5 a6 a7 a8 h := by
  refine Eq.trans (congrArg (fun z => Option.bind z e) (qe_M_access_147 krZ r21Z r36Z a1 a2 a3 a4 a5 a6 a7 a8 h)) (Eq.trans ?_ (Eq.symm (qe_M_access_147 krA r21A r36A a1 a2 a3 a4 a5 a6 a7 a8 h)))
  generalize (400 : Nat) = f9
  refine zseg_e e (zcal_e _ _ ?_) (zorc_e _ _ ?_) hk (fun _ _ => rfl) f9 _ _ _ _
  · exact trivial
  · exact ⟨rfl, rfl, rfl, zap9_e (fun x0 x1 x2 x3 x4 x5 x6 x7 x8 h => n_M_access_148 e hk h21 h36 x0 x1 x2 x3 x4 x5 x6 x7 x8 h), trivial⟩
set_option maxRecDepth 100000 in
set_option maxHeartbeats 0 in
theorem n_M_access_104 {ρ : Type} (e : zRes → Option ρ) {krA : Int → zH → Option ρ} {krZ : Int → zH → Option zRes} (hk : ∀ v h, (krZ v h).bind e = krA v h) {r21A : Int → Int → Int → Int → Int → Int → Int → zH → Option ρ} {r21Z : Int → Int → Int → Int → Int → Int → Int → zH → Option zRes} (h21 : ∀ (x0 x1 x2 x3 x4 x5 x6 : Int) (h : zH), (r21Z x0 x1 x2 x3 x4 x5 x6 h).bind e = r21A x0 x1 x2 x3 x4 x5 x6 h) {r36A : Int → Int → Int → Int → Int → Int → Int → Int → zH → Option ρ} {r36Z : Int → Int → Int → Int → Int → Int → Int → Int → zH → Option zRes} (h36 : ∀ (x0 x1 x2 x3 x4 x5 x6 x7 : Int) (h : zH), (r36Z x0 x1 x2 x3 x4 x5 x6 x7 h).bind e = r36A x0 x1 x2 x3 x4 x5 x6 x7 h) (a1 a2 a3 a4 a5 a6 a7 a8 a9 a10 t0 : Int) (h : zH) : (M_access_104 krZ r21Z r36Z a1 a2 a3 a4 a5 a6 a7 a8 a9 a10 t0 h).bind e = M_access_104 krA r21A r36A a1 a2 a3 a4 a5 a6 a7 a8 a9 a10 t0 h := by
  refine Eq.trans (congrArg (fun z => Option.bind z e) (qe_M_access_104 krZ r21Z r36Z a1 a2 a3 a4 a5 a6 a7 a8 a9 a10 t0 h)) (Eq.trans ?_ (Eq.symm (qe_M_access_104 krA r21A r36A a1 a2 a3 a4 a5 a6 a7 a8 a9 a10 t0 h)))
  generalize (400 : Nat) = f9
  refine zseg_e e (zcal_e _ _ ?_) (zorc_e _ _ ?_) hk (fun _ _ => rfl) f9 _ _ _ _
  · exact trivial
  · exact ⟨rfl, rfl, rfl, zap8_e (fun x0 x1 x2 x3 x4 x5 x6 x7 h => n_M_access_143 e hk h21 h36 x0 x1 x2 x3 x4 x5 x6 x7 h), ⟨rfl, rfl, rfl, zap8_e (fun x0 x1 x2 x3 x4 x5 x6 x7 h => n_M_access_147 e hk h21 h36 x0 x1 x2 x3 x4 x5 x6 x7 h), trivial⟩⟩
set_option maxRecDepth 100000 in
set_option maxHeartbeats 0 in
theorem n_M_access_81 {ρ : Type} (e : zRes → Option ρ) {krA : Int → zH → Option ρ} {krZ : Int → zH → Option zRes} (hk : ∀ v h, (krZ v h).bind e = krA v h) {r21A : Int → Int → Int → Int → Int → Int → Int → zH → Option ρ} {r21Z : Int → Int → Int → Int → Int → Int → Int → zH → Option zRes} (h21 : ∀ (x0 x1 x2 x3 x4 x5 x6 : Int) (h : zH), (r21Z x0 x1 x2 x3 x4 x5 x6 h).bind e = r21A x0 x1 x2 x3 x4 x5 x6 h) {r36A : Int → Int → Int → Int → Int → Int → Int → Int → zH → Option ρ} {r36Z : Int → Int → Int → Int → Int → Int → Int → Int → zH → Option zRes} (h36 : ∀ (x0 x1 x2 x3 x4 x5 x6 x7 : Int) (h : zH), (r36Z x0 x1 x2 x3 x4 x5 x6 x7 h).bind e = r36A x0 x1 x2 x3 x4 x5 x6 x7 h) (a1 a2 a3 a4 a5 a6 a7 a8 a9 t0 : Int) (h : zH) : (M_access_81 krZ r21Z r36Z a1 a2 a3 a4 a5 a6 a7 a8 a9 t0 h).bind e = M_access_81 krA r21A r36A a1 a2 a3 a4 a5 a6 a7 a8 a9 t0 h := by
  refine Eq.trans (congrArg (fun z => Option.bind z e) (qe_M_access_81 krZ r21Z r36Z a1 a2 a3 a4 a5 a6 a7 a8 a9 t0 h)) (Eq.trans ?_ (Eq.symm (qe_M_access_81 krA r21A r36A a1 a2 a3 a4 a5 a6 a7 a8 a9 t0 h)))
  generalize (400 : Nat) = f9
  refine zseg_e e (zcal_e _ _ ?_) (zorc_e _ _ ?_) hk (fun _ _ => rfl) f9 _ _ _ _
  · exact trivial
  · exact ⟨rfl, rfl, rfl, zap11_e (fun x0 x1 x2 x3 x4 x5 x6 x7 x8 x9 x10 h => n_M_access_104 e hk h21 h36 x0 x1 x2 x3 x4 x5 x6 x7 x8 x9 x10 h), trivial⟩
set_option maxRecDepth 100000 in
set_option maxHeartbeats 0 in
theorem n_M_access_80 {ρ : Type} (e : zRes → Option ρ) {krA : Int → zH → Option ρ} {krZ : Int → zH → Option zRes} (hk : ∀ v h, (krZ v h).bind e = krA v h) {r21A : Int → Int → Int → Int → Int → Int → Int → zH → Option ρ} {r21Z : Int → Int → Int → Int → Int → Int → Int → zH → Option zRes} (h21 : ∀ (x0 x1 x2 x3 x4 x5 x6 : Int) (h : zH), (r21Z x0 x1 x2 x3 x4 x5 x6 h).bind e = r21A x0 x1 x2 x3 x4 x5 x6 h) {r36A : Int → Int → Int → Int → Int → Int → Int → Int → zH → Option ρ} {r36Z : Int → Int → Int → Int → Int → Int → Int → Int → zH → Option zRes} (h36 : ∀ (x0 x1 x2 x3 x4 x5 x6 x7 : Int) (h : zH), (r36Z x0 x1 x2 x3 x4 x5 x6 x7 h).bind e = r36A x0 x1 x2 x3 x4 x5 x6 x7 h) (a1 a2 a3 a4 a5 a6 a7 a8 a9 : Int) (h : zH) : (M_access_80 krZ r21Z r36Z a1 a2 a3 a4 a5 a6 a7 a8 a9 h).bind e = M_access_80 krA r21A r36A a1 a2 a3 a4 a5 a6 a7 a8 a9 h := by
  refine Eq.trans (congrArg (fun z => Option.bind z e) (qe_M_access_80 krZ r21Z r36Z a1 a2 a3 a4 a5 a6 a7 a8 a9 h)) (Eq.trans ?_ (Eq.symm (qe_M_access_80 krA r21A r36A a1 a2 a3 a4 a5 a6 a7 a8 a9 h)))
  generalize (400 : Nat) = f9
  refine zseg_e e (zcal_e _ _ ?_) (zorc_e _ _ ?_) hk (fun _ _ => rfl) f9 _ _ _ _
  · exact trivial
  · exact ⟨rfl, rfl, rfl, zap10_e (fun x0 x1 x2 x3 x4 x5 x6 x7 x8 x9 h => n_M_access_81 e hk h21 h36 x0 x1 x2 x3 x4 x5 x6 x7 x8 x9 h), trivial⟩
set_option maxRecDepth 100000 in
set_option maxHeartbeats 0 in
theorem n_M_access_36b {ρ : Type} (e : zRes → Option ρ) {krA : Int → zH → Option ρ} {krZ : Int → zH → Option zRes} (hk : ∀ v h, (krZ v h).bind e = krA v h) {r21A : Int → Int → Int → Int → Int → Int → Int → zH → Option ρ} {r21Z : Int → Int → Int → Int → Int → Int → Int → zH → Option zRes} (h21 : ∀ (x0 x1 x2 x3 x4 x5 x6 : Int) (h : zH), (r21Z x0 x1 x2 x3 x4 x5 x6 h).bind e = r21A x0 x1 x2 x3 x4 x5 x6 h) {r36A : Int → Int → Int → Int → Int → Int → Int → Int → zH → Option ρ} {r36Z : Int → Int → Int → Int → Int → Int → Int → Int → zH → Option zRes} (h36 : ∀ (x0 x1 x2 x3 x4 x5 x6 x7 : Int) (h : zH), (r36Z x0 x1 x2 x3 x4 x5 x6 x7 h).bind e = r36A x0 x1 x2 x3 x4 x5 x6 x7 h) (a1 a2 a3 a4 a5 a6 a7 a8 : Int) (h : zH) : (M_access_36b krZ r21Z r36Z a1 a2 a3 a4 a5 a6 a7 a8 h).bind e = M_access_36b krA r21A r36A a1 a2 a3 a4 a5 a6 a7 a8 h := by
  refine Eq.trans (congrArg (fun z => Option.bind z e) (qe_M_access_36b krZ r21Z r36Z a1 a2 a3 a4 a5 a6 a7 a8 h)) (Eq.trans ?_ (Eq.symm (qe_M_access_36b krA r21A r36A a1 a2 a3 a4 a5 a6 a7 a8 h)))
  generalize (400 : Nat) = f9
  refine zseg_e e (zcal_e _ _ ?_) (zorc_e _ _ ?_) hk (fun _ _ => rfl) f9 _ _ _ _
  · exact trivial
  · exact ⟨rfl, rfl, rfl, zap7_e h21, ⟨rfl, rfl, rfl, zap9_e (fun x0 x1 x2 x3 x4 x5 x6 x7 x8 h => n_M_access_80 e hk h21 h36 x0 x1 x2 x3 x4 x5 x6 x7 x8 h), ⟨rfl, rfl, rfl, zap10_e (fun x0 x1 x2 x3 x4 x5 x6 x7 x8 x9 h => n_M_access_81 e hk h21 h36 x0 x1 x2 x3 x4 x5 x6 x7 x8 x9 h), trivial⟩⟩⟩
theorem n_M_access_36 {ρ : Type} (e : zRes → Option ρ) {krA : Int → zH → Option ρ} {krZ : Int → zH → Option zRes} (hk : ∀ v h, (krZ v h).bind e = krA v h) {r21A : Int → Int → Int → Int → Int → Int → Int → zH → Option ρ} {r21Z : Int → Int → Int → Int → Int → Int → Int → zH → Option zRes} (h21 : ∀ (x0 x1 x2 x3 x4 x5 x6 : Int) (h : zH), (r21Z x0 x1 x2 x3 x4 x5 x6 h).bind e = r21A x0 x1 x2 x3 x4 x5 x6 h) (a1 a2 a3 a4 a5 a6 a7 a8 : Int) (h : zH) : (M_access_36 krZ r21Z a1 a2 a3 a4 a5 a6 a7 a8 h).bind e = M_access_36 krA r21A a1 a2 a3 a4 a5 a6 a7 a8 h := zit8_e (fun rA rZ hh a1 a2 a3 a4 a5 a6 a7 a8 h => n_M_access_36b e hk h21 hh a1 a2 a3 a4 a5 a6 a7 a8 h) zN a1 a2 a3 a4 a5 a6 a7 a8 h
set_option maxRecDepth 100000 in
set_option maxHeartbeats 0 in
theorem n_M_access_257 {ρ : Type} (e : zRes → Option ρ) {krA : Int → zH → Option ρ} {krZ : Int → zH → Option zRes} (hk : ∀ v h, (krZ v h).bind e = krA v h) (t0 t1 : Int) (h : zH) : (M_access_257 krZ t0 t1 h).bind e = M_access_257 krA t0 t1 h := by
  refine Eq.trans (congrArg (fun z => Option.bind z e) (qe_M_access_257 krZ t0 t1 h)) (Eq.trans ?_ (Eq.symm (qe_M_access_257 krA t0 t1 h)))
  generalize (400 : Nat) = f9
  refine zseg_e e (zcal_e _ _ ?_) (zorc_e _ _ ?_) hk (fun _ _ => rfl) f9 _ _ _ _
  · exact trivial
  · exact trivial
set_option maxRecDepth 100000 in
set_option maxHeartbeats 0 in
theorem n_M_access_21b {ρ : Type} (e : zRes → Option ρ) {krA : Int → zH → Option ρ} {krZ : Int → zH → Option zRes} (hk : ∀ v h, (krZ v h).bind e = krA v h) {r21A : Int → Int → Int → Int → Int → Int → Int → zH → Option ρ} {r21Z : Int → Int → Int → Int → Int → Int → Int → zH → Option zRes} (h21 : ∀ (x0 x1 x2 x3 x4 x5 x6 : Int) (h : zH), (r21Z x0 x1 x2 x3 x4 x5 x6 h).bind e = r21A x0 x1 x2 x3 x4 x5 x6 h) (a1 a2 a3 a4 a5 a6 a7 : Int) (h : zH) : (M_access_21b krZ r21Z a1 a2 a3 a4 a5 a6 a7 h).bind e = M_access_21b krA r21A a1 a2 a3 a4 a5 a6 a7 h := by
  refine Eq.trans (congrArg (fun z => Option.bind z e) (qe_M_access_21b krZ r21Z a1 a2 a3 a4 a5 a6 a7 h)) (Eq.trans ?_ (Eq.symm (qe_M_access_21b krA r21A a1 a2 a3 a4 a5 a6 a7 h)))
  generalize (400 : Nat) = f9
  refine zseg_e e (zcal_e _ _ ?_) (zorc_e _ _ ?_) hk (fun _ _ => rfl) f9 _ _ _ _
  · exact trivial
  · exact ⟨rfl, rfl, rfl, zap8_e (fun x0 x1 x2 x3 x4 x5 x6 x7 h => n_M_access_36 e hk h21 x0 x1 x2 x3 x4 x5 x6 x7 h), ⟨rfl, rfl, rfl, zap2_e (fun x0 x1 h => n_M_access_257 e hk x0 x1 h), trivial⟩⟩
theorem n_M_access_21 {ρ : Type} (e : zRes → Option ρ) {krA : Int → zH → Option ρ} {krZ : Int → zH → Option zRes} (hk : ∀ v h, (krZ v h).bind e = krA v h) (a1 a2 a3 a4 a5 a6 a7 : Int) (h : zH) : (M_access_21 krZ a1 a2 a3 a4 a5 a6 a7 h).bind e = M_access_21 krA a1 a2 a3 a4 a5 a6 a7 h := zit7_e (fun rA rZ hh a1 a2 a3 a4 a5 a6 a7 h => n_M_access_21b e hk hh a1 a2 a3 a4 a5 a6 a7 h) zN a1 a2 a3 a4 a5 a6 a7 h
set_option maxRecDepth 100000 in
set_option maxHeartbeats 0 in
theorem n_M_access {ρ : Type} (e : zRes → Option ρ) {krA : Int → zH → Option ρ} {krZ : Int → zH → Option zRes} (hk : ∀ v h, (krZ v h).bind e = krA v h) (a1 a2 a3 a4 : Int) (h : zH) : (M_access a1 a2 a3 a4 h krZ).bind e = M_access a1 a2 a3 a4 h krA := by
  refine Eq.trans (congrArg (fun z => Option.bind z e) (qe_M_access krZ a1 a2 a3 a4 h)) (Eq.trans ?_ (Eq.symm (qe_M_access krA a1 a2 a3 a4 h)))
  generalize (400 : Nat) = f9
  refine zseg_e e (zcal_e _ _ ?_) (zorc_e _ _ ?_) hk (fun _ _ => rfl) f9 _ _ _ _
  · exact trivial
  · exact ⟨rfl, rfl, rfl, zap7_e (fun x0 x1 x2 x3 x4 x5 x6 h => n_M_access_21 e hk x0 x1 x2 x3 x4 x5 x6 h), trivial⟩
set_option maxRecDepth 100000 in
set_option maxHeartbeats 0 in
theorem n_M_accessShared_121 {ρ : Type} (e : zRes → Option ρ) {krA : Int → zH → Option ρ} {krZ : Int → zH → Option zRes} (hk : ∀ v h, (krZ v h).bind e = krA v h) {r14A : Int → Int → Int → Int → Int → Int → zH → Option ρ} {r14Z : Int → Int → Int → Int → Int → Int → zH → Option zRes} (h14 : ∀ (x0 x1 x2 x3 x4 x5 : Int) (h : zH), (r14Z x0 x1 x2 x3 x4 x5 h).bind e = r14A x0 x1 x2 x3 x4 x5 h) (a1 a2 a3 a4 a5 a6 t0 t1 : Int) (h : zH) : (M_accessShared_121 krZ r14Z a1 a2 a3 a4 a5 a6 t0 t1 h).bind e = M_accessShared_121 krA r14A a1 a2 a3 a4 a5 a6 t0 t1 h := by
  refine Eq.trans (congrArg (fun z => Option.bind z e) (qe_M_accessShared_121 krZ r14Z a1 a2 a3 a4 a5 a6 t0 t1 h)) (Eq.trans ?_ (Eq.symm (qe_M_accessShared_121 krA r14A a1 a2 a3 a4 a5 a6 t0 t1 h)))
  generalize (400 : Nat) = f9
  refine zseg_e e (zcal_e _ _ ?_) (zorc_e _ _ ?_) hk (fun _ _ => rfl) f9 _ _ _ _
  · exact trivial
  · exact ⟨rfl, rfl, rfl, zap6_e h14, trivial⟩
set_option maxRecDepth 100000 in
set_option maxHeartbeats 0 in
theorem n_M_accessShared_116 {ρ : Type} (e : zRes → Option ρ) {krA : Int → zH → Option ρ} {krZ : Int → zH → Option zRes} (hk : ∀ v h, (krZ v h).bind e = krA v h) {r14A : Int → Int → Int → Int → Int → Int → zH → Option ρ} {r14Z : Int → Int → Int → Int → Int → Int → zH → Option zRes} (h14 : ∀ (x0 x1 x2 x3 x4 x5 : Int) (h : zH), (r14Z x0 x1 x2 x3 x4 x5 h).bind e = r14A x0 x1 x2 x3 x4 x5 h) (a1 a2 a3 a4 a5 a6 t0 : Int) (h : zH) : (M_accessShared_116 krZ r14Z a1 a2 a3 a4 a5 a6 t0 h).bind e = M_accessShared_116 krA r14A a1 a2 a3 a4 a5 a6 t0 h := by
  refine Eq.trans (congrArg (fun z => Option.bind z e) (qe_M_accessShared_116 krZ r14Z a1 a2 a3 a4 a5 a6 t0 h)) (Eq.trans ?_ (Eq.symm (qe_M_accessShared_116 krA r14A a1 a2 a3 a4 a5 a6 t0 h)))
  generalize (400 : Nat) = f9
  refine zseg_e e (zcal_e _ _ ?_) (zorc_e _ _ ?_) hk (fun _ _ => rfl) f9 _ _ _ _
  · exact trivial
  · exact ⟨rfl, rfl, rfl, zap8_e (fun x0 x1 x2 x3 x4 x5 x6 x7 h => n_M_accessShared_121 e hk h14 x0 x1 x2 x3 x4 x5 x6 x7 h), trivial⟩
set_option maxRecDepth 100000 in
set_option maxHeartbeats 0 in
theorem n_M_accessShared_85 {ρ : Type} (e : zRes → Option ρ) {krA : Int → zH → Option ρ} {krZ : Int → zH → Option zRes} (hk : ∀ v h, (krZ v h).bind e = krA v h) {r14A : Int → Int → Int → Int → Int → Int → zH → Option ρ} {r14Z : Int → Int → Int → Int → Int → Int → zH → Option zRes} (h14 : ∀ (x0 x1 x2 x3 x4 x5 : Int) (h : zH), (r14Z x0 x1 x2 x3 x4 x5 h).bind e = r14A x0 x1 x2 x3 x4 x5 h) (a1 a2 a3 a4 a5 a6 t0 : Int) (h : zH) : (M_accessShared_85 krZ r14Z a1 a2 a3 a4 a5 a6 t0 h).bind e = M_accessShared_85 krA r14A a1 a2 a3 a4 a5 a6 t0 h := by
  refine Eq.trans (congrArg (fun z => Option.bind z e) (qe_M_accessShared_85 krZ r14Z a1 a2 a3 a4 a5 a6 t0 h)) (Eq.trans ?_ (Eq.symm (qe_M_accessShared_85 krA r14A a1 a2 a3 a4 a5 a6 t0 h)))
  generalize (400 : Nat) = f9
  refine zseg_e e (zcal_e _ _ ?_) (zorc_e _ _ ?_) hk (fun _ _ => rfl) f9 _ _ _ _
  · exact trivial
  · exact ⟨rfl, rfl, rfl, zap7_e (fun x0 x1 x2 x3 x4 x5 x6 h => n_M_accessShared_116 e hk h14 x0 x1 x2 x3 x4 x5 x6 h), ⟨rfl, rfl, rfl, zap8_e (fun x0 x1 x2 x3 x4 x5 x6 x7 h => n_M_accessShared_121 e hk h14 x0 x1 x2 x3 x4 x5 x6 x7 h), trivial⟩⟩
set_option maxRecDepth 100000 in
set_option maxHeartbeats 0 in
theorem n_M_accessShared_80 {ρ : Type} (e : zRes → Option ρ) {krA : Int → zH → Option ρ} {krZ : Int → zH → Option zRes} (hk : ∀ v h, (krZ v h).bind e = krA v h) {r14A : Int → Int → Int → Int → Int → Int → zH → Option ρ} {r14Z : Int → Int → Int → Int → Int → Int → zH → Option zRes} (h14 : ∀ (x0 x1 x2 x3 x4 x5 : Int) (h : zH), (r14Z x0 x1 x2 x3 x4 x5 h).bind e = r14A x0 x1 x2 x3 x4 x5 h) (a1 a2 a3 a4 a5 a6 : Int) (h : zH) : (M_accessShared_80 krZ r14Z a1 a2 a3 a4 a5 a6 h).bind e = M_accessShared_80 krA r14A a1 a2 a3 a4 a5 a6 h := by
  refine Eq.trans (congrArg (fun z => Option.bind z e) (qe_M_accessShared_80 krZ r14Z a1 a2 a3 a4 a5 a6 h)) (Eq.trans ?_ (Eq.symm (qe_M_accessShared_80 krA r14A a1 a2 a3 a4 a5 a6 h)))
  generalize (400 : Nat) = f9
  refine zseg_e e (zcal_e _ _ ?_) (zorc_e _ _ ?_) hk (fun _ _ => rfl) f9 _ _ _ _
  · exact trivial
  · exact ⟨rfl, rfl, rfl, zap7_e (fun x0 x1 x2 x3 x4 x5 x6 h => n_M_accessShared_85 e hk h14 x0 x1 x2 x3 x4 x5 x6 h), trivial⟩
set_option maxRecDepth 100000 in
set_option maxHeartbeats 0 in
theorem n_M_accessShared_84 {ρ : Type} (e : zRes → Option ρ) {krA : Int → zH → Option ρ} {krZ : Int → zH → Option zRes} (hk : ∀ v h, (krZ v h).bind e = krA v h) {r14A : Int → Int → Int → Int → Int → Int → zH → Option ρ} {r14Z : Int → Int → Int → Int → Int → Int → zH → Option zRes} (h14 : ∀ (x0 x1 x2 x3 x4 x5 : Int) (h : zH), (r14Z x0 x1 x2 x3 x4 x5 h).bind e = r14A x0 x1 x2 x3 x4 x5 h) (a1 a2 a3 a4 a5 a6 : Int) (h : zH) : (M_accessShared_84 krZ r14Z a1 a2 a3 a4 a5 a6 h).bind e = M_accessShared_84 krA r14A a1 a2 a3 a4 a5 a6 h := by
  refine Eq.trans (congrArg (fun z => Option.bind z e) (qe_M_accessShared_84 krZ r14Z a1 a2 a3 a4 a5 a6 h)) (Eq.trans ?_ (Eq.symm (qe_M_accessShared_84 krA r14A a1 a2 a3 a4 a5 a6 h)))
  generalize (400 : Nat) = f9
  refine zseg_e e (zcal_e _ _ ?_) (zorc_e _ _ ?_) hk (fun _ _ => rfl) f9 _ _ _ _
  · exact trivial
  · exact ⟨rfl, rfl, rfl, zap7_e (fun x0 x1 x2 x3 x4 x5 x6 h => n_M_accessShared_85 e hk h14 x0 x1 x2 x3 x4 x5 x6 h), trivial⟩
set_option maxRecDepth 100000 in
set_option maxHeartbeats 0 in
theorem n_M_accessShared_178 {ρ : Type} (e : zRes → Option ρ) {krA : Int → zH → Option ρ} {krZ : Int → zH → Option zRes} (hk : ∀ v h, (krZ v h).bind e = krA v h) (t0 t1 : Int) (h : zH) : (M_accessShared_178 krZ t0 t1 h).bind e = M_accessShared_178 krA t0 t1 h := by
  refine Eq.trans (congrArg (fun z => Option.bind z e) (qe_M_accessShared_178 krZ t0 t1 h)) (Eq.trans ?_ (Eq.symm (qe_M_accessShared_178 krA t0 t1 h)))
  generalize (400 : Nat) = f9
  refine zseg_e e (zcal_e _ _ ?_) (zorc_e _ _ ?_) hk (fun _ _ => rfl) f9 _ _ _ _
  · exact trivial
  · exact trivial
set_option maxRecDepth 100000 in
set_option maxHeartbeats 0 in
theorem n_M_accessShared_14b {ρ : Type} (e : zRes → Option ρ) {krA : Int → zH → Option ρ} {krZ : Int → zH → Option zRes} (hk : ∀ v h, (krZ v h).bind e = krA v h) {r14A : Int → Int → Int → Int → Int → Int → zH → Option ρ} {r14Z : Int → Int → Int → Int → Int → Int → zH → Option zRes} (h14 : ∀ (x0 x1 x2 x3 x4 x5 : Int) (h : zH), (r14Z x0 x1 x2 x3 x4 x5 h).bind e = r14A x0 x1 x2 x3 x4 x5 h) (a1 a2 a3 a4 a5 a6 : Int) (h : zH) : (M_accessShared_14b krZ r14Z a1 a2 a3 a4 a5 a6 h).bind e = M_accessShared_14b krA r14A a1 a2 a3 a4 a5 a6 h := by
  refine Eq.trans (congrArg (fun z => Option.bind z e) (qe_M_accessShared_14b krZ r14Z a1 a2 a3 a4 a5 a6 h)) (Eq.trans ?_ (Eq.symm (qe_M_accessShared_14b krA r14A a1 a2 a3 a4 a5 a6 h)))
  generalize (400 : Nat) = f9
  refine zseg_e e (zcal_e _ _ ?_) (zorc_e _ _ ?_) hk (fun _ _ => rfl) f9 _ _ _ _
  · exact trivial
  · exact ⟨rfl, rfl, rfl, zap6_e (fun x0 x1 x2 x3 x4 x5 h => n_M_accessShared_80 e hk h14 x0 x1 x2 x3 x4 x5 h), ⟨rfl, rfl, rfl, zap6_e (fun x0 x1 x2 x3 x4 x5 h => n_M_accessShared_84 e hk h14 x0 x1 x2 x3 x4 x5 h), ⟨rfl, rfl, rfl, zap2_e (fun x0 x1 h => n_M_accessShared_178 e hk x0 x1 h), trivial⟩⟩⟩
theorem n_M_accessShared_14 {ρ : Type} (e : zRes → Option ρ) {krA : Int → zH → Option ρ} {krZ : Int → zH → Option zRes} (hk : ∀ v h, (krZ v h).bind e = krA v h) (a1 a2 a3 a4 a5 a6 : Int) (h : zH) : (M_accessShared_14 krZ a1 a2 a3 a4 a5 a6 h).bind e = M_accessShared_14 krA a1 a2 a3 a4 a5 a6 h := zit6_e (fun rA rZ hh a1 a2 a3 a4 a5 a6 h => n_M_accessShared_14b e hk hh a1 a2 a3 a4 a5 a6 h) zN a1 a2 a3 a4 a5 a6 h
set_option maxRecDepth 100000 in
set_option maxHeartbeats 0 in
theorem n_M_accessShared {ρ : Type} (e : zRes → Option ρ) {krA : Int → zH → Option ρ} {krZ : Int → zH → Option zRes} (hk : ∀ v h, (krZ v h).bind e = krA v h) (a1 a2 a3 a4 : Int) (h : zH) : (M_accessShared a1 a2 a3 a4 h krZ).bind e = M_accessShared a1 a2 a3 a4 h krA := by
  refine Eq.trans (congrArg (fun z => Option.bind z e) (qe_M_accessShared krZ a1 a2 a3 a4 h)) (Eq.trans ?_ (Eq.symm (qe_M_accessShared krA a1 a2 a3 a4 h)))
  generalize (400 : Nat) = f9
  refine zseg_e e (zcal_e _ _ ?_) (zorc_e _ _ ?_) hk (fun _ _ => rfl) f9 _ _ _ _
  · exact trivial
  · exact ⟨rfl, rfl, rfl, zap6_e (fun x0 x1 x2 x3 x4 x5 h => n_M_accessShared_14 e hk x0 x1 x2 x3 x4 x5 h), trivial⟩
