set_option maxRecDepth 100000 in
set_option maxHeartbeats 0 in
theorem n_M_delayOf_55 {ρ : Type} (e : zRes → Option ρ) {krA : Int → zH → Option ρ} {krZ : Int → zH → Option zRes} (hk : ∀ v h, (krZ v h).bind e = krA v h) (a4 : Int) (h : zH) : (M_delayOf_55 krZ a4 h).bind e = M_delayOf_55 krA a4 h := by
  refine Eq.trans (congrArg (fun z => Option.bind z e) (qe_M_delayOf_55 krZ a4 h)) (Eq.trans ?_ (Eq.symm (qe_M_delayOf_55 krA a4 h)))
  generalize (400 : Nat) = f9
  refine zseg_e e (zcal_e _ _ ?_) (zorc_e _ _ ?_) hk (fun _ _ => rfl) f9 _ _ _ _
  · exact trivial
  · exact trivial
set_option maxRecDepth 100000 in
set_option maxHeartbeats 0 in
theorem n_M_delayOf_106 {ρ : Type} (e : zRes → Option ρ) {krA : Int → zH → Option ρ} {krZ : Int → zH → Option zRes} (hk : ∀ v h, (krZ v h).bind e = krA v h) (t0 : Int) (h : zH) : (M_delayOf_106 krZ t0 h).bind e = M_delayOf_106 krA t0 h := by
  refine Eq.trans (congrArg (fun z => Option.bind z e) (qe_M_delayOf_106 krZ t0 h)) (Eq.trans ?_ (Eq.symm (qe_M_delayOf_106 krA t0 h)))
  generalize (400 : Nat) = f9
  refine zseg_e e (zcal_e _ _ ?_) (zorc_e _ _ ?_) hk (fun _ _ => rfl) f9 _ _ _ _
  · exact trivial
  · exact trivial
set_option maxRecDepth 100000 in
set_option maxHeartbeats 0 in
theorem n_M_delayOf {ρ : Type} (e : zRes → Option ρ) {krA : Int → zH → Option ρ} {krZ : Int → zH → Option zRes} (hk : ∀ v h, (krZ v h).bind e = krA v h) (a1 a2 a3 : Int) (h : zH) : (M_delayOf a1 a2 a3 h krZ).bind e = M_delayOf a1 a2 a3 h krA := by
  refine Eq.trans (congrArg (fun z => Option.bind z e) (qe_M_delayOf krZ a1 a2 a3 h)) (Eq.trans ?_ (Eq.symm (qe_M_delayOf krA a1 a2 a3 h)))
  generalize (400 : Nat) = f9
  refine zseg_e e (zcal_e _ _ ?_) (zorc_e _ _ ?_) hk (fun _ _ => rfl) f9 _ _ _ _
  · exact ⟨rfl, rfl, zca1_e (fun x0 h k t => n_M_isShared e (fun _ _ => rfl) x0 h), ⟨rfl, rfl, zca2_e (fun x0 x1 h k t => n_M_banks e (fun _ _ => rfl) x0 x1 h), ⟨rfl, rfl, zca2_e (fun x0 x1 h k t => n_M_lines e (fun _ _ => rfl) x0 x1 h), trivial⟩⟩⟩
  · exact ⟨rfl, rfl, rfl, zap1_e (fun x0 h => n_M_delayOf_55 e hk x0 h), ⟨rfl, rfl, rfl, zap1_e (fun x0 h => n_M_delayOf_106 e hk x0 h), trivial⟩⟩
set_option maxRecDepth 100000 in
set_option maxHeartbeats 0 in
theorem n_M_doLanes_176 {ρ : Type} (e : zRes → Option ρ) {krA : Int → zH → Option ρ} {krZ : Int → zH → Option zRes} (hk : ∀ v h, (krZ v h).bind e = krA v h) {r19A : Int → Int → Int → Int → Int → zH → Option ρ} {r19Z : Int → Int → Int → Int → Int → zH → Option zRes} (h19 : ∀ (x0 x1 x2 x3 x4 : Int) (h : zH), (r19Z x0 x1 x2 x3 x4 h).bind e = r19A x0 x1 x2 x3 x4 h) (a1 a2 a3 a4 a5 : Int) (h : zH) : (M_doLanes_176 krZ r19Z a1 a2 a3 a4 a5 h).bind e = M_doLanes_176 krA r19A a1 a2 a3 a4 a5 h := by
  refine Eq.trans (congrArg (fun z => Option.bind z e) (qe_M_doLanes_176 krZ r19Z a1 a2 a3 a4 a5 h)) (Eq.trans ?_ (Eq.symm (qe_M_doLanes_176 krA r19A a1 a2 a3 a4 a5 h)))
  generalize (400 : Nat) = f9
  refine zseg_e e (zcal_e _ _ ?_) (zorc_e _ _ ?_) hk (fun _ _ => rfl) f9 _ _ _ _
  · exact trivial
  · exact ⟨rfl, rfl, rfl, zap5_e h19, trivial⟩
set_option maxRecDepth 100000 in
set_option maxHeartbeats 0 in
theorem n_M_doLanes_122 {ρ : Type} (e : zRes → Option ρ) {krA : Int → zH → Option ρ} {krZ : Int → zH → Option zRes} (hk : ∀ v h, (krZ v h).bind e = krA v h) {r19A : Int → Int → Int → Int → Int → zH → Option ρ} {r19Z : Int → Int → Int → Int → Int → zH → Option zRes} (h19 : ∀ (x0 x1 x2 x3 x4 : Int) (h : zH), (r19Z x0 x1 x2 x3 x4 h).bind e = r19A x0 x1 x2 x3 x4 h) (a1 a2 a3 a4 a5 t0 : Int) (h : zH) : (M_doLanes_122 krZ r19Z a1 a2 a3 a4 a5 t0 h).bind e = M_doLanes_122 krA r19A a1 a2 a3 a4 a5 t0 h := by
  refine Eq.trans (congrArg (fun z => Option.bind z e) (qe_M_doLanes_122 krZ r19Z a1 a2 a3 a4 a5 t0 h)) (Eq.trans ?_ (Eq.symm (qe_M_doLanes_122 krA r19A a1 a2 a3 a4 a5 t0 h)))
  generalize (400 : Nat) = f9
  refine zseg_e e (zcal_e _ _ ?_) (zorc_e _ _ ?_) hk (fun _ _ => rfl) f9 _ _ _ _
  · exact trivial
  · exact ⟨rfl, rfl, rfl, zap5_e (fun x0 x1 x2 x3 x4 h => n_M_doLanes_176 e hk h19 x0 x1 x2 x3 x4 h), trivial⟩
set_option maxRecDepth 100000 in
set_option maxHeartbeats 0 in
theorem n_M_doLanes_157 {ρ : Type} (e : zRes → Option ρ) {krA : Int → zH → Option ρ} {krZ : Int → zH → Option zRes} (hk : ∀ v h, (krZ v h).bind e = krA v h) {r19A : Int → Int → Int → Int → Int → zH → Option ρ} {r19Z : Int → Int → Int → Int → Int → zH → Option zRes} (h19 : ∀ (x0 x1 x2 x3 x4 : Int) (h : zH), (r19Z x0 x1 x2 x3 x4 h).bind e = r19A x0 x1 x2 x3 x4 h) (a1 a2 a3 a4 a5 : Int) (h : zH) : (M_doLanes_157 krZ r19Z a1 a2 a3 a4 a5 h).bind e = M_doLanes_157 krA r19A a1 a2 a3 a4 a5 h := by
  refine Eq.trans (congrArg (fun z => Option.bind z e) (qe_M_doLanes_157 krZ r19Z a1 a2 a3 a4 a5 h)) (Eq.trans ?_ (Eq.symm (qe_M_doLanes_157 krA r19A a1 a2 a3 a4 a5 h)))
  generalize (400 : Nat) = f9
  refine zseg_e e (zcal_e _ _ ?_) (zorc_e _ _ ?_) hk (fun _ _ => rfl) f9 _ _ _ _
  · exact ⟨rfl, rfl, zca4_e (fun x0 x1 x2 x3 h k t => n_M_doLane e (fun _ _ => rfl) x0 x1 x2 x3 h), trivial⟩
  · exact ⟨rfl, rfl, rfl, zap5_e (fun x0 x1 x2 x3 x4 h => n_M_doLanes_176 e hk h19 x0 x1 x2 x3 x4 h), trivial⟩
set_option maxRecDepth 100000 in
set_option maxHeartbeats 0 in
theorem n_M_doLanes_148 {ρ : Type} (e : zRes → Option ρ) {krA : Int → zH → Option ρ} {krZ : Int → zH → Option zRes} (hk : ∀ v h, (krZ v h).bind e = krA v h) {r19A : Int → Int → Int → Int → Int → zH → Option ρ} {r19Z : Int → Int → Int → Int → Int → zH → Option zRes} (h19 : ∀ (x0 x1 x2 x3 x4 : Int) (h : zH), (r19Z x0 x1 x2 x3 x4 h).bind e = r19A x0 x1 x2 x3 x4 h) (a1 a2 a3 a4 a5 : Int) (h : zH) : (M_doLanes_148 krZ r19Z a1 a2 a3 a4 a5 h).bind e = M_doLanes_148 krA r19A a1 a2 a3 a4 a5 h := by
  refine Eq.trans (congrArg (fun z => Option.bind z e) (qe_M_doLanes_148 krZ r19Z a1 a2 a3 a4 a5 h)) (Eq.trans ?_ (Eq.symm (qe_M_doLanes_148 krA r19A a1 a2 a3 a4 a5 h)))
  generalize (400 : Nat) = f9
  refine zseg_e e (zcal_e _ _ ?_) (zorc_e _ _ ?_) hk (fun _ _ => rfl) f9 _ _ _ _
  · exact ⟨rfl, rfl, zca4_e (fun x0 x1 x2 x3 h k t => n_M_doCell e (fun _ _ => rfl) x0 x1 x2 x3 h), trivial⟩
  · exact ⟨rfl, rfl, rfl, zap5_e (fun x0 x1 x2 x3 x4 h => n_M_doLanes_157 e hk h19 x0 x1 x2 x3 x4 h), trivial⟩
set_option maxRecDepth 100000 in
set_option maxHeartbeats 0 in
theorem n_M_doLanes_100 {ρ : Type} (e : zRes → Option ρ) {krA : Int → zH → Option ρ} {krZ : Int → zH → Option zRes} (hk : ∀ v h, (krZ v h).bind e = krA v h) {r19A : Int → Int → Int → Int → Int → zH → Option ρ} {r19Z : Int → Int → Int → Int → Int → zH → Option zRes} (h19 : ∀ (x0 x1 x2 x3 x4 : Int) (h : zH), (r19Z x0 x1 x2 x3 x4 h).bind e = r19A x0 x1 x2 x3 x4 h) (a1 a2 a3 a4 a5 t0 : Int) (h : zH) : (M_doLanes_100 krZ r19Z a1 a2 a3 a4 a5 t0 h).bind e = M_doLanes_100 krA r19A a1 a2 a3 a4 a5 t0 h := by
  refine Eq.trans (congrArg (fun z => Option.bind z e) (qe_M_doLanes_100 krZ r19Z a1 a2 a3 a4 a5 t0 h)) (Eq.trans ?_ (Eq.symm (qe_M_doLanes_100 krA r19A a1 a2 a3 a4 a5 t0 h)))
  generalize (400 : Nat) = f9
  refine zseg_e e (zcal_e _ _ ?_) (zorc_e _ _ ?_) hk (fun _ _ => rfl) f9 _ _ _ _
  · exact ⟨rfl, rfl, zca1_e (fun x0 h k t => n_M_isGlobal e (fun _ _ => rfl) x0 h), ⟨rfl, rfl, zca1_e (fun x0 h k t => n_M_isShared e (fun _ _ => rfl) x0 h), trivial⟩⟩
  · exact ⟨rfl, rfl, rfl, zap6_e (fun x0 x1 x2 x3 x4 x5 h => n_M_doLanes_122 e hk h19 x0 x1 x2 x3 x4 x5 h), ⟨rfl, rfl, rfl, zap5_e (fun x0 x1 x2 x3 x4 h => n_M_doLanes_148 e hk h19 x0 x1 x2 x3 x4 h), ⟨rfl, rfl, rfl, zap5_e (fun x0 x1 x2 x3 x4 h => n_M_doLanes_157 e hk h19 x0 x1 x2 x3 x4 h), trivial⟩⟩⟩
set_option maxRecDepth 100000 in
set_option maxHeartbeats 0 in
theorem n_M_doLanes_95 {ρ : Type} (e : zRes → Option ρ) {krA : Int → zH → Option ρ} {krZ : Int → zH → Option zRes} (hk : ∀ v h, (krZ v h).bind e = krA v h) {r19A : Int → Int → Int → Int → Int → zH → Option ρ} {r19Z : Int → Int → Int → Int → Int → zH → Option zRes} (h19 : ∀ (x0 x1 x2 x3 x4 : Int) (h : zH), (r19Z x0 x1 x2 x3 x4 h).bind e = r19A x0 x1 x2 x3 x4 h) (a1 a2 a3 a4 a5 : Int) (h : zH) : (M_doLanes_95 krZ r19Z a1 a2 a3 a4 a5 h).bind e = M_doLanes_95 krA r19A a1 a2 a3 a4 a5 h := by
  refine Eq.trans (congrArg (fun z => Option.bind z e) (qe_M_doLanes_95 krZ r19Z a1 a2 a3 a4 a5 h)) (Eq.trans ?_ (Eq.symm (qe_M_doLanes_95 krA r19A a1 a2 a3 a4 a5 h)))
  generalize (400 : Nat) = f9
  refine zseg_e e (zcal_e _ _ ?_) (zorc_e _ _ ?_) hk (fun _ _ => rfl) f9 _ _ _ _
  · exact trivial
  · exact ⟨rfl, rfl, rfl, zap6_e (fun x0 x1 x2 x3 x4 x5 h => n_M_doLanes_100 e hk h19 x0 x1 x2 x3 x4 x5 h), trivial⟩
set_option maxRecDepth 100000 in
set_option maxHeartbeats 0 in
theorem n_M_doLanes_99 {ρ : Type} (e : zRes → Option ρ) {krA : Int → zH → Option ρ} {krZ : Int → zH → Option zRes} (hk : ∀ v h, (krZ v h).bind e = krA v h) {r19A : Int → Int → Int → Int → Int → zH → Option ρ} {r19Z : Int → Int → Int → Int → Int → zH → Option zRes} (h19 : ∀ (x0 x1 x2 x3 x4 : Int) (h : zH), (r19Z x0 x1 x2 x3 x4 h).bind e = r19A x0 x1 x2 x3 x4 h) (a1 a2 a3 a4 a5 : Int) (h : zH) : (M_doLanes_99 krZ r19Z a1 a2 a3 a4 a5 h).bind e = M_doLanes_99 krA r19A a1 a2 a3 a4 a5 h := by
  refine Eq.trans (congrArg (fun z => Option.bind z e) (qe_M_doLanes_99 krZ r19Z a1 a2 a3 a4 a5 h)) (Eq.trans ?_ (Eq.symm (qe_M_doLanes_99 krA r19A a1 a2 a3 a4 a5 h)))
  generalize (400 : Nat) = f9
  refine zseg_e e (zcal_e _ _ ?_) (zorc_e _ _ ?_) hk (fun _ _ => rfl) f9 _ _ _ _
  · exact trivial
  · exact ⟨rfl, rfl, rfl, zap6_e (fun x0 x1 x2 x3 x4 x5 h => n_M_doLanes_100 e hk h19 x0 x1 x2 x3 x4 x5 h), trivial⟩
set_option maxRecDepth 100000 in
set_option maxHeartbeats 0 in
theorem n_M_doLanes_64 {ρ : Type} (e : zRes → Option ρ) {krA : Int → zH → Option ρ} {krZ : Int → zH → Option zRes} (hk : ∀ v h, (krZ v h).bind e = krA v h) {r19A : Int → Int → Int → Int → Int → zH → Option ρ} {r19Z : Int → Int → Int → Int → Int → zH → Option zRes} (h19 : ∀ (x0 x1 x2 x3 x4 : Int) (h : zH), (r19Z x0 x1 x2 x3 x4 h).bind e = r19A x0 x1 x2 x3 x4 h) (a1 a2 a3 a4 a5 : Int) (h : zH) : (M_doLanes_64 krZ r19Z a1 a2 a3 a4 a5 h).bind e = M_doLanes_64 krA r19A a1 a2 a3 a4 a5 h := by
  refine Eq.trans (congrArg (fun z => Option.bind z e) (qe_M_doLanes_64 krZ r19Z a1 a2 a3 a4 a5 h)) (Eq.trans ?_ (Eq.symm (qe_M_doLanes_64 krA r19A a1 a2 a3 a4 a5 h)))
  generalize (400 : Nat) = f9
  refine zseg_e e (zcal_e _ _ ?_) (zorc_e _ _ ?_) hk (fun _ _ => rfl) f9 _ _ _ _
  · exact ⟨rfl, rfl, zca3_e (fun x0 x1 x2 h k t => n_M_in e (fun _ _ => rfl) x0 x1 x2 h), ⟨rfl, rfl, zca3_e (fun x0 x1 x2 h k t => n_M_cellOf e (fun _ _ => rfl) x0 x1 x2 h), ⟨rfl, rfl, zca1_e (fun x0 h k t => n_M_isShared e (fun _ _ => rfl) x0 h), trivial⟩⟩⟩
  · exact ⟨rfl, rfl, rfl, zap5_e (fun x0 x1 x2 x3 x4 h => n_M_doLanes_95 e hk h19 x0 x1 x2 x3 x4 h), ⟨rfl, rfl, rfl, zap5_e (fun x0 x1 x2 x3 x4 h => n_M_doLanes_99 e hk h19 x0 x1 x2 x3 x4 h), trivial⟩⟩
set_option maxRecDepth 100000 in
set_option maxHeartbeats 0 in
theorem n_M_doLanes_182 {ρ : Type} (e : zRes → Option ρ) {krA : Int → zH → Option ρ} {krZ : Int → zH → Option zRes} (hk : ∀ v h, (krZ v h).bind e = krA v h) (h : zH) : (M_doLanes_182 krZ h).bind e = M_doLanes_182 krA h := by
  refine Eq.trans (congrArg (fun z => Option.bind z e) (qe_M_doLanes_182 krZ h)) (Eq.trans ?_ (Eq.symm (qe_M_doLanes_182 krA h)))
  generalize (400 : Nat) = f9
  refine zseg_e e (zcal_e _ _ ?_) (zorc_e _ _ ?_) hk (fun _ _ => rfl) f9 _ _ _ _
  · exact trivial
  · exact trivial
set_option maxRecDepth 100000 in
set_option maxHeartbeats 0 in
theorem n_M_doLanes_19b {ρ : Type} (e : zRes → Option ρ) {krA : Int → zH → Option ρ} {krZ : Int → zH → Option zRes} (hk : ∀ v h, (krZ v h).bind e = krA v h) {r19A : Int → Int → Int → Int → Int → zH → Option ρ} {r19Z : Int → Int → Int → Int → Int → zH → Option zRes} (h19 : ∀ (x0 x1 x2 x3 x4 : Int) (h : zH), (r19Z x0 x1 x2 x3 x4 h).bind e = r19A x0 x1 x2 x3 x4 h) (a1 a2 a3 a4 a5 : Int) (h : zH) : (M_doLanes_19b krZ r19Z a1 a2 a3 a4 a5 h).bind e = M_doLanes_19b krA r19A a1 a2 a3 a4 a5 h := by
  refine Eq.trans (congrArg (fun z => Option.bind z e) (qe_M_doLanes_19b krZ r19Z a1 a2 a3 a4 a5 h)) (Eq.trans ?_ (Eq.symm (qe_M_doLanes_19b krA r19A a1 a2 a3 a4 a5 h)))
  generalize (400 : Nat) = f9
  refine zseg_e e (zcal_e _ _ ?_) (zorc_e _ _ ?_) hk (fun _ _ => rfl) f9 _ _ _ _
  · exact ⟨rfl, rfl, zca1_e (fun x0 h k t => n_M_noCell e (fun _ _ => rfl) x0 h), ⟨rfl, rfl, zca1_e (fun x0 h k t => n_M_isUnder e (fun _ _ => rfl) x0 h), ⟨rfl, rfl, zca3_e (fun x0 x1 x2 h k t => n_M_cellOf e (fun _ _ => rfl) x0 x1 x2 h), ⟨rfl, rfl, zca1_e (fun x0 h k t => n_M_isGlobal e (fun _ _ => rfl) x0 h), trivial⟩⟩⟩⟩
  · exact ⟨rfl, rfl, rfl, zap5_e (fun x0 x1 x2 x3 x4 h => n_M_doLanes_64 e hk h19 x0 x1 x2 x3 x4 h), ⟨rfl, rfl, rfl, zap5_e (fun x0 x1 x2 x3 x4 h => n_M_doLanes_95 e hk h19 x0 x1 x2 x3 x4 h), ⟨rfl, rfl, rfl, zap5_e (fun x0 x1 x2 x3 x4 h => n_M_doLanes_176 e hk h19 x0 x1 x2 x3 x4 h), ⟨rfl, rfl, rfl, zap0_e (fun  h => n_M_doLanes_182 e hk  h), trivial⟩⟩⟩⟩
theorem n_M_doLanes_19 {ρ : Type} (e : zRes → Option ρ) {krA : Int → zH → Option ρ} {krZ : Int → zH → Option zRes} (hk : ∀ v h, (krZ v h).bind e = krA v h) (a1 a2 a3 a4 a5 : Int) (h : zH) : (M_doLanes_19 krZ a1 a2 a3 a4 a5 h).bind e = M_doLanes_19 krA a1 a2 a3 a4 a5 h := zit5_e (fun rA rZ hh a1 a2 a3 a4 a5 h => n_M_doLanes_19b e hk hh a1 a2 a3 a4 a5 h) zN a1 a2 a3 a4 a5 h
set_option maxRecDepth 100000 in
set_option maxHeartbeats 0 in
theorem n_M_doLanes {ρ : Type} (e : zRes → Option ρ) {krA : Int → zH → Option ρ} {krZ : Int → zH → Option zRes} (hk : ∀ v h, (krZ v h).bind e = krA v h) (a1 a2 a3 : Int) (h : zH) : (M_doLanes a1 a2 a3 h krZ).bind e = M_doLanes a1 a2 a3 h krA := by
  refine Eq.trans (congrArg (fun z => Option.bind z e) (qe_M_doLanes krZ a1 a2 a3 h)) (Eq.trans ?_ (Eq.symm (qe_M_doLanes krA a1 a2 a3 h)))
  generalize (400 : Nat) = f9
  refine zseg_e e (zcal_e _ _ ?_) (zorc_e _ _ ?_) hk (fun _ _ => rfl) f9 _ _ _ _
  · exact trivial
  · exact ⟨rfl, rfl, rfl, zap5_e (fun x0 x1 x2 x3 x4 h => n_M_doLanes_19 e hk x0 x1 x2 x3 x4 h), trivial⟩
set_option maxRecDepth 100000 in
set_option maxHeartbeats 0 in
theorem n_M_carryOut_73b {ρ : Type} (e : zRes → Option ρ) {krA : Int → zH → Option ρ} {krZ : Int → zH → Option zRes} (hk : ∀ v h, (krZ v h).bind e = krA v h) {r64A : Int → Int → Int → Int → Int → Int → Int → Int → zH → Option ρ} {r64Z : Int → Int → Int → Int → Int → Int → Int → Int → zH → Option zRes} (h64 : ∀ (x0 x1 x2 x3 x4 x5 x6 x7 : Int) (h : zH), (r64Z x0 x1 x2 x3 x4 x5 x6 x7 h).bind e = r64A x0 x1 x2 x3 x4 x5 x6 x7 h) {r73A : Int → Int → Int → Int → Int → Int → Int → Int → Int → zH → Option ρ} {r73Z : Int → Int → Int → Int → Int → Int → Int → Int → Int → zH → Option zRes} (h73 : ∀ (x0 x1 x2 x3 x4 x5 x6 x7 x8 : Int) (h : zH), (r73Z x0 x1 x2 x3 x4 x5 x6 x7 x8 h).bind e = r73A x0 x1 x2 x3 x4 x5 x6 x7 x8 h) (a1 a3 a4 a5 a6 a7 a8 a9 a10 : Int) (h : zH) : (M_carryOut_73b krZ r64Z r73Z a1 a3 a4 a5 a6 a7 a8 a9 a10 h).bind e = M_carryOut_73b krA r64A r73A a1 a3 a4 a5 a6 a7 a8 a9 a10 h := by
  refine Eq.trans (congrArg (fun z => Option.bind z e) (qe_M_carryOut_73b krZ r64Z r73Z a1 a3 a4 a5 a6 a7 a8 a9 a10 h)) (Eq.trans ?_ (Eq.symm (qe_M_carryOut_73b krA r64A r73A a1 a3 a4 a5 a6 a7 a8 a9 a10 h)))
  generalize (400 : Nat) = f9
  refine zseg_e e (zcal_e _ _ ?_) (zorc_e _ _ ?_) hk (fun _ _ => rfl) f9 _ _ _ _
  · exact ⟨rfl, rfl, zca3_e (fun x0 x1 x2 h k t => n_M_registerCell e (fun _ _ => rfl) x0 x1 x2 h), trivial⟩
  · exact ⟨rfl, rfl, rfl, zap8_e h64, ⟨rfl, rfl, rfl, zap9_e h73, trivial⟩⟩
theorem n_M_carryOut_73 {ρ : Type} (e : zRes → Option ρ) {krA : Int → zH → Option ρ} {krZ : Int → zH → Option zRes} (hk : ∀ v h, (krZ v h).bind e = krA v h) {r64A : Int → Int → Int → Int → Int → Int → Int → Int → zH → Option ρ} {r64Z : Int → Int → Int → Int → Int → Int → Int → Int → zH → Option zRes} (h64 : ∀ (x0 x1 x2 x3 x4 x5 x6 x7 : Int) (h : zH), (r64Z x0 x1 x2 x3 x4 x5 x6 x7 h).bind e = r64A x0 x1 x2 x3 x4 x5 x6 x7 h) (a1 a3 a4 a5 a6 a7 a8 a9 a10 : Int) (h : zH) : (M_carryOut_73 krZ r64Z a1 a3 a4 a5 a6 a7 a8 a9 a10 h).bind e = M_carryOut_73 krA r64A a1 a3 a4 a5 a6 a7 a8 a9 a10 h := zit9_e (fun rA rZ hh a1 a3 a4 a5 a6 a7 a8 a9 a10 h => n_M_carryOut_73b e hk h64 hh a1 a3 a4 a5 a6 a7 a8 a9 a10 h) zN a1 a3 a4 a5 a6 a7 a8 a9 a10 h
set_option maxRecDepth 100000 in
set_option maxHeartbeats 0 in
theorem n_M_carryOut_324 {ρ : Type} (e : zRes → Option ρ) {krA : Int → zH → Option ρ} {krZ : Int → zH → Option zRes} (hk : ∀ v h, (krZ v h).bind e = krA v h) (a3 a4 a9 t0 t1 : Int) (h : zH) : (M_carryOut_324 krZ a3 a4 a9 t0 t1 h).bind e = M_carryOut_324 krA a3 a4 a9 t0 t1 h := by
  refine Eq.trans (congrArg (fun z => Option.bind z e) (qe_M_carryOut_324 krZ a3 a4 a9 t0 t1 h)) (Eq.trans ?_ (Eq.symm (qe_M_carryOut_324 krA a3 a4 a9 t0 t1 h)))
  generalize (400 : Nat) = f9
  refine zseg_e e (zcal_e _ _ ?_) (zorc_e _ _ ?_) hk (fun _ _ => rfl) f9 _ _ _ _
  · exact ⟨rfl, rfl, zca1_e (fun x0 h k t => n_M_settle e (fun _ _ => rfl) x0 h), trivial⟩
  · exact trivial
set_option maxRecDepth 100000 in
set_option maxHeartbeats 0 in
theorem n_M_carryOut_178 {ρ : Type} (e : zRes → Option ρ) {krA : Int → zH → Option ρ} {krZ : Int → zH → Option zRes} (hk : ∀ v h, (krZ v h).bind e = krA v h) (a1 a3 a4 a5 a6 a7 a8 : Int) (h : zH) : (M_carryOut_178 krZ a1 a3 a4 a5 a6 a7 a8 h).bind e = M_carryOut_178 krA a1 a3 a4 a5 a6 a7 a8 h := by
  refine Eq.trans (congrArg (fun z => Option.bind z e) (qe_M_carryOut_178 krZ a1 a3 a4 a5 a6 a7 a8 h)) (Eq.trans ?_ (Eq.symm (qe_M_carryOut_178 krA a1 a3 a4 a5 a6 a7 a8 h)))
  generalize (400 : Nat) = f9
  refine zseg_e e (zcal_e _ _ ?_) (zorc_e _ _ ?_) hk (fun _ _ => rfl) f9 _ _ _ _
  · exact ⟨rfl, rfl, zca5_e (fun x0 x1 x2 x3 x4 h k t => n_M_fail e (fun _ _ => rfl) x0 x1 x2 x3 x4 h), ⟨rfl, rfl, zca1_e (fun x0 h k t => n_M_isShared e (fun _ _ => rfl) x0 h), ⟨rfl, rfl, zca3_e (fun x0 x1 x2 h k t => n_M_delayOf e (fun _ _ => rfl) x0 x1 x2 h), ⟨rfl, rfl, zca3_e (fun x0 x1 x2 h k t => n_M_doLanes e (fun _ _ => rfl) x0 x1 x2 h), trivial⟩⟩⟩⟩
  · exact ⟨rfl, rfl, rfl, zap5_e (fun x0 x1 x2 x3 x4 h => n_M_carryOut_324 e hk x0 x1 x2 x3 x4 h), trivial⟩
set_option maxRecDepth 100000 in
set_option maxHeartbeats 0 in
theorem n_M_carryOut_162 {ρ : Type} (e : zRes → Option ρ) {krA : Int → zH → Option ρ} {krZ : Int → zH → Option zRes} (hk : ∀ v h, (krZ v h).bind e = krA v h) (a1 a3 a4 a5 a6 a7 a8 : Int) (h : zH) : (M_carryOut_162 krZ a1 a3 a4 a5 a6 a7 a8 h).bind e = M_carryOut_162 krA a1 a3 a4 a5 a6 a7 a8 h := by
  refine Eq.trans (congrArg (fun z => Option.bind z e) (qe_M_carryOut_162 krZ a1 a3 a4 a5 a6 a7 a8 h)) (Eq.trans ?_ (Eq.symm (qe_M_carryOut_162 krA a1 a3 a4 a5 a6 a7 a8 h)))
  generalize (400 : Nat) = f9
  refine zseg_e e (zcal_e _ _ ?_) (zorc_e _ _ ?_) hk (fun _ _ => rfl) f9 _ _ _ _
  · exact ⟨rfl, rfl, zca1_e (fun x0 h k t => n_M_writeAll e (fun _ _ => rfl) x0 h), trivial⟩
  · exact ⟨rfl, rfl, rfl, zap7_e (fun x0 x1 x2 x3 x4 x5 x6 h => n_M_carryOut_178 e hk x0 x1 x2 x3 x4 x5 x6 h), trivial⟩
set_option maxRecDepth 100000 in
set_option maxHeartbeats 0 in
theorem n_M_carryOut_156 {ρ : Type} (e : zRes → Option ρ) {krA : Int → zH → Option ρ} {krZ : Int → zH → Option zRes} (hk : ∀ v h, (krZ v h).bind e = krA v h) (a1 a3 a4 a5 a6 a7 a8 : Int) (h : zH) : (M_carryOut_156 krZ a1 a3 a4 a5 a6 a7 a8 h).bind e = M_carryOut_156 krA a1 a3 a4 a5 a6 a7 a8 h := by
  refine Eq.trans (congrArg (fun z => Option.bind z e) (qe_M_carryOut_156 krZ a1 a3 a4 a5 a6 a7 a8 h)) (Eq.trans ?_ (Eq.symm (qe_M_carryOut_156 krA a1 a3 a4 a5 a6 a7 a8 h)))
  generalize (400 : Nat) = f9
  refine zseg_e e (zcal_e _ _ ?_) (zorc_e _ _ ?_) hk (fun _ _ => rfl) f9 _ _ _ _
  · exact ⟨rfl, rfl, zca1_e (fun x0 h k t => n_M_writeAll e (fun _ _ => rfl) x0 h), trivial⟩
  · exact ⟨rfl, rfl, rfl, zap7_e (fun x0 x1 x2 x3 x4 x5 x6 h => n_M_carryOut_162 e hk x0 x1 x2 x3 x4 x5 x6 h), trivial⟩
set_option maxRecDepth 100000 in
set_option maxHeartbeats 0 in
theorem n_M_carryOut_64b {ρ : Type} (e : zRes → Option ρ) {krA : Int → zH → Option ρ} {krZ : Int → zH → Option zRes} (hk : ∀ v h, (krZ v h).bind e = krA v h) {r64A : Int → Int → Int → Int → Int → Int → Int → Int → zH → Option ρ} {r64Z : Int → Int → Int → Int → Int → Int → Int → Int → zH → Option zRes} (h64 : ∀ (x0 x1 x2 x3 x4 x5 x6 x7 : Int) (h : zH), (r64Z x0 x1 x2 x3 x4 x5 x6 x7 h).bind e = r64A x0 x1 x2 x3 x4 x5 x6 x7 h) (a1 a3 a4 a5 a6 a7 a8 a9 : Int) (h : zH) : (M_carryOut_64b krZ r64Z a1 a3 a4 a5 a6 a7 a8 a9 h).bind e = M_carryOut_64b krA r64A a1 a3 a4 a5 a6 a7 a8 a9 h := by
  refine Eq.trans (congrArg (fun z => Option.bind z e) (qe_M_carryOut_64b krZ r64Z a1 a3 a4 a5 a6 a7 a8 a9 h)) (Eq.trans ?_ (Eq.symm (qe_M_carryOut_64b krA r64A a1 a3 a4 a5 a6 a7 a8 a9 h)))
  generalize (400 : Nat) = f9
  refine zseg_e e (zcal_e _ _ ?_) (zorc_e _ _ ?_) hk (fun _ _ => rfl) f9 _ _ _ _
  · exact trivial
  · exact ⟨rfl, rfl, rfl, zap9_e (fun x0 x1 x2 x3 x4 x5 x6 x7 x8 h => n_M_carryOut_73 e hk h64 x0 x1 x2 x3 x4 x5 x6 x7 x8 h), ⟨rfl, rfl, rfl, zap7_e (fun x0 x1 x2 x3 x4 x5 x6 h => n_M_carryOut_156 e hk x0 x1 x2 x3 x4 x5 x6 h), ⟨rfl, rfl, rfl, zap7_e (fun x0 x1 x2 x3 x4 x5 x6 h => n_M_carryOut_162 e hk x0 x1 x2 x3 x4 x5 x6 h), trivial⟩⟩⟩
theorem n_M_carryOut_64 {ρ : Type} (e : zRes → Option ρ) {krA : Int → zH → Option ρ} {krZ : Int → zH → Option zRes} (hk : ∀ v h, (krZ v h).bind e = krA v h) (a1 a3 a4 a5 a6 a7 a8 a9 : Int) (h : zH) : (M_carryOut_64 krZ a1 a3 a4 a5 a6 a7 a8 a9 h).bind e = M_carryOut_64 krA a1 a3 a4 a5 a6 a7 a8 a9 h := zit8_e (fun rA rZ hh a1 a3 a4 a5 a6 a7 a8 a9 h => n_M_carryOut_64b e hk hh a1 a3 a4 a5 a6 a7 a8 a9 h) zN a1 a3 a4 a5 a6 a7 a8 a9 h
set_option maxRecDepth 100000 in
set_option maxHeartbeats 0 in
theorem n_M_carryOut {ρ : Type} (e : zRes → Option ρ) {krA : Int → zH → Option ρ} {krZ : Int → zH → Option zRes} (hk : ∀ v h, (krZ v h).bind e = krA v h) (a1 a2 : Int) (h : zH) : (M_carryOut a1 a2 h krZ).bind e = M_carryOut a1 a2 h krA := by
  refine Eq.trans (congrArg (fun z => Option.bind z e) (qe_M_carryOut krZ a1 a2 h)) (Eq.trans ?_ (Eq.symm (qe_M_carryOut krA a1 a2 h)))
  generalize (400 : Nat) = f9
  refine zseg_e e (zcal_e _ _ ?_) (zorc_e _ _ ?_) hk (fun _ _ => rfl) f9 _ _ _ _
  · exact ⟨rfl, rfl, zca1_e (fun x0 h k t => n_M_placeOf e (fun _ _ => rfl) x0 h), ⟨rfl, rfl, zca1_e (fun x0 h k t => n_M_maskOf e (fun _ _ => rfl) x0 h), trivial⟩⟩
  · exact ⟨rfl, rfl, rfl, zap8_e (fun x0 x1 x2 x3 x4 x5 x6 x7 h => n_M_carryOut_64 e hk x0 x1 x2 x3 x4 x5 x6 x7 h), trivial⟩
set_option maxRecDepth 100000 in
set_option maxHeartbeats 0 in
theorem n_M_beginLaunch {ρ : Type} (e : zRes → Option ρ) {krA : Int → zH → Option ρ} {krZ : Int → zH → Option zRes} (hk : ∀ v h, (krZ v h).bind e = krA v h) (a1 : Int) (h : zH) : (M_beginLaunch a1 h krZ).bind e = M_beginLaunch a1 h krA := by
  refine Eq.trans (congrArg (fun z => Option.bind z e) (qe_M_beginLaunch krZ a1 h)) (Eq.trans ?_ (Eq.symm (qe_M_beginLaunch krA a1 h)))
  generalize (400 : Nat) = f9
  refine zseg_e e (zcal_e _ _ ?_) (zorc_e _ _ ?_) hk (fun _ _ => rfl) f9 _ _ _ _
  · exact trivial
  · exact trivial
set_option maxRecDepth 100000 in
set_option maxHeartbeats 0 in
theorem n_M_firstOf_30 {ρ : Type} (e : zRes → Option ρ) {krA : Int → zH → Option ρ} {krZ : Int → zH → Option zRes} (hk : ∀ v h, (krZ v h).bind e = krA v h) {r2A : Int → Int → zH → Option ρ} {r2Z : Int → Int → zH → Option zRes} (h2 : ∀ (x0 x1 : Int) (h : zH), (r2Z x0 x1 h).bind e = r2A x0 x1 h) (a1 a2 : Int) (h : zH) : (M_firstOf_30 krZ r2Z a1 a2 h).bind e = M_firstOf_30 krA r2A a1 a2 h := by
  refine Eq.trans (congrArg (fun z => Option.bind z e) (qe_M_firstOf_30 krZ r2Z a1 a2 h)) (Eq.trans ?_ (Eq.symm (qe_M_firstOf_30 krA r2A a1 a2 h)))
  generalize (400 : Nat) = f9
  refine zseg_e e (zcal_e _ _ ?_) (zorc_e _ _ ?_) hk (fun _ _ => rfl) f9 _ _ _ _
  · exact trivial
  · exact ⟨rfl, rfl, rfl, zap2_e h2, trivial⟩
set_option maxRecDepth 100000 in
set_option maxHeartbeats 0 in
theorem n_M_firstOf_2b {ρ : Type} (e : zRes → Option ρ) {krA : Int → zH → Option ρ} {krZ : Int → zH → Option zRes} (hk : ∀ v h, (krZ v h).bind e = krA v h) {r2A : Int → Int → zH → Option ρ} {r2Z : Int → Int → zH → Option zRes} (h2 : ∀ (x0 x1 : Int) (h : zH), (r2Z x0 x1 h).bind e = r2A x0 x1 h) (a1 a2 : Int) (h : zH) : (M_firstOf_2b krZ r2Z a1 a2 h).bind e = M_firstOf_2b krA r2A a1 a2 h := by
  refine Eq.trans (congrArg (fun z => Option.bind z e) (qe_M_firstOf_2b krZ r2Z a1 a2 h)) (Eq.trans ?_ (Eq.symm (qe_M_firstOf_2b krA r2A a1 a2 h)))
  generalize (400 : Nat) = f9
  refine zseg_e e (zcal_e _ _ ?_) (zorc_e _ _ ?_) hk (fun _ _ => rfl) f9 _ _ _ _
  · exact ⟨rfl, rfl, zca1_e (fun x0 h k t => n_M_isOver e (fun _ _ => rfl) x0 h), trivial⟩
  · exact ⟨rfl, rfl, rfl, zap2_e (fun x0 x1 h => n_M_firstOf_30 e hk h2 x0 x1 h), trivial⟩
theorem n_M_firstOf_2 {ρ : Type} (e : zRes → Option ρ) {krA : Int → zH → Option ρ} {krZ : Int → zH → Option zRes} (hk : ∀ v h, (krZ v h).bind e = krA v h) (a1 a2 : Int) (h : zH) : (M_firstOf_2 krZ a1 a2 h).bind e = M_firstOf_2 krA a1 a2 h := zit2_e (fun rA rZ hh a1 a2 h => n_M_firstOf_2b e hk hh a1 a2 h) zN a1 a2 h
set_option maxRecDepth 100000 in
set_option maxHeartbeats 0 in
theorem n_M_firstOf {ρ : Type} (e : zRes → Option ρ) {krA : Int → zH → Option ρ} {krZ : Int → zH → Option zRes} (hk : ∀ v h, (krZ v h).bind e = krA v h) (a1 : Int) (h : zH) : (M_firstOf a1 h krZ).bind e = M_firstOf a1 h krA := by
  refine Eq.trans (congrArg (fun z => Option.bind z e) (qe_M_firstOf krZ a1 h)) (Eq.trans ?_ (Eq.symm (qe_M_firstOf krA a1 h)))
  generalize (400 : Nat) = f9
  refine zseg_e e (zcal_e _ _ ?_) (zorc_e _ _ ?_) hk (fun _ _ => rfl) f9 _ _ _ _
  · exact trivial
  · exact ⟨rfl, rfl, rfl, zap2_e (fun x0 x1 h => n_M_firstOf_2 e hk x0 x1 h), trivial⟩
set_option maxRecDepth 100000 in
set_option maxHeartbeats 0 in
theorem n_M_isBroken_32 {ρ : Type} (e : zRes → Option ρ) {krA : Int → zH → Option ρ} {krZ : Int → zH → Option zRes} (hk : ∀ v h, (krZ v h).bind e = krA v h) (t0 : Int) (h : zH) : (M_isBroken_32 krZ t0 h).bind e = M_isBroken_32 krA t0 h := by
  refine Eq.trans (congrArg (fun z => Option.bind z e) (qe_M_isBroken_32 krZ t0 h)) (Eq.trans ?_ (Eq.symm (qe_M_isBroken_32 krA t0 h)))
  generalize (400 : Nat) = f9
  refine zseg_e e (zcal_e _ _ ?_) (zorc_e _ _ ?_) hk (fun _ _ => rfl) f9 _ _ _ _
  · exact trivial
  · exact trivial
set_option maxRecDepth 100000 in
set_option maxHeartbeats 0 in
theorem n_M_isBroken_27 {ρ : Type} (e : zRes → Option ρ) {krA : Int → zH → Option ρ} {krZ : Int → zH → Option zRes} (hk : ∀ v h, (krZ v h).bind e = krA v h) (h : zH) : (M_isBroken_27 krZ h).bind e = M_isBroken_27 krA h := by
  refine Eq.trans (congrArg (fun z => Option.bind z e) (qe_M_isBroken_27 krZ h)) (Eq.trans ?_ (Eq.symm (qe_M_isBroken_27 krA h)))
  generalize (400 : Nat) = f9
  refine zseg_e e (zcal_e _ _ ?_) (zorc_e _ _ ?_) hk (fun _ _ => rfl) f9 _ _ _ _
  · exact trivial
  · exact ⟨rfl, rfl, rfl, zap1_e (fun x0 h => n_M_isBroken_32 e hk x0 h), trivial⟩
set_option maxRecDepth 100000 in
set_option maxHeartbeats 0 in
theorem n_M_isBroken_31 {ρ : Type} (e : zRes → Option ρ) {krA : Int → zH → Option ρ} {krZ : Int → zH → Option zRes} (hk : ∀ v h, (krZ v h).bind e = krA v h) (h : zH) : (M_isBroken_31 krZ h).bind e = M_isBroken_31 krA h := by
  refine Eq.trans (congrArg (fun z => Option.bind z e) (qe_M_isBroken_31 krZ h)) (Eq.trans ?_ (Eq.symm (qe_M_isBroken_31 krA h)))
  generalize (400 : Nat) = f9
  refine zseg_e e (zcal_e _ _ ?_) (zorc_e _ _ ?_) hk (fun _ _ => rfl) f9 _ _ _ _
  · exact trivial
  · exact ⟨rfl, rfl, rfl, zap1_e (fun x0 h => n_M_isBroken_32 e hk x0 h), trivial⟩
set_option maxRecDepth 100000 in
set_option maxHeartbeats 0 in
theorem n_M_isBroken {ρ : Type} (e : zRes → Option ρ) {krA : Int → zH → Option ρ} {krZ : Int → zH → Option zRes} (hk : ∀ v h, (krZ v h).bind e = krA v h) (a1 : Int) (h : zH) : (M_isBroken a1 h krZ).bind e = M_isBroken a1 h krA := by
  refine Eq.trans (congrArg (fun z => Option.bind z e) (qe_M_isBroken krZ a1 h)) (Eq.trans ?_ (Eq.symm (qe_M_isBroken krA a1 h)))
  generalize (400 : Nat) = f9
  refine zseg_e e (zcal_e _ _ ?_) (zorc_e _ _ ?_) hk (fun _ _ => rfl) f9 _ _ _ _
  · exact trivial
  · exact ⟨rfl, rfl, rfl, zap0_e (fun  h => n_M_isBroken_27 e hk  h), ⟨rfl, rfl, rfl, zap0_e (fun  h => n_M_isBroken_31 e hk  h), trivial⟩⟩
set_option maxRecDepth 100000 in
set_option maxHeartbeats 0 in
theorem n_M_goThrough_137 {ρ : Type} (e : zRes → Option ρ) {krA : Int → zH → Option ρ} {krZ : Int → zH → Option zRes} (hk : ∀ v h, (krZ v h).bind e = krA v h) {r2A : Int → Int → zH → Option ρ} {r2Z : Int → Int → zH → Option zRes} (h2 : ∀ (x0 x1 : Int) (h : zH), (r2Z x0 x1 h).bind e = r2A x0 x1 h) (a1 a2 : Int) (h : zH) : (M_goThrough_137 krZ r2Z a1 a2 h).bind e = M_goThrough_137 krA r2A a1 a2 h := by
  refine Eq.trans (congrArg (fun z => Option.bind z e) (qe_M_goThrough_137 krZ r2Z a1 a2 h)) (Eq.trans ?_ (Eq.symm (qe_M_goThrough_137 krA r2A a1 a2 h)))
  generalize (400 : Nat) = f9
  refine zseg_e e (zcal_e _ _ ?_) (zorc_e _ _ ?_) hk (fun _ _ => rfl) f9 _ _ _ _
  · exact trivial
  · exact ⟨rfl, rfl, rfl, zap2_e h2, trivial⟩
set_option maxRecDepth 100000 in
set_option maxHeartbeats 0 in
theorem n_M_goThrough_104 {ρ : Type} (e : zRes → Option ρ) {krA : Int → zH → Option ρ} {krZ : Int → zH → Option zRes} (hk : ∀ v h, (krZ v h).bind e = krA v h) {r2A : Int → Int → zH → Option ρ} {r2Z : Int → Int → zH → Option zRes} (h2 : ∀ (x0 x1 : Int) (h : zH), (r2Z x0 x1 h).bind e = r2A x0 x1 h) (a1 a2 a3 a4 t0 : Int) (h : zH) : (M_goThrough_104 krZ r2Z a1 a2 a3 a4 t0 h).bind e = M_goThrough_104 krA r2A a1 a2 a3 a4 t0 h := by
  refine Eq.trans (congrArg (fun z => Option.bind z e) (qe_M_goThrough_104 krZ r2Z a1 a2 a3 a4 t0 h)) (Eq.trans ?_ (Eq.symm (qe_M_goThrough_104 krA r2A a1 a2 a3 a4 t0 h)))
  generalize (400 : Nat) = f9
  refine zseg_e e (zcal_e _ _ ?_) (zorc_e _ _ ?_) hk (fun _ _ => rfl) f9 _ _ _ _
  · exact ⟨rfl, rfl, zca1_e (fun x0 h k t => n_M_beginLaunch e (fun _ _ => rfl) x0 h), trivial⟩
  · exact ⟨rfl, rfl, rfl, zap2_e (fun x0 x1 h => n_M_goThrough_137 e hk h2 x0 x1 h), trivial⟩
set_option maxRecDepth 100000 in
set_option maxHeartbeats 0 in
theorem n_M_goThrough_103 {ρ : Type} (e : zRes → Option ρ) {krA : Int → zH → Option ρ} {krZ : Int → zH → Option zRes} (hk : ∀ v h, (krZ v h).bind e = krA v h) {r2A : Int → Int → zH → Option ρ} {r2Z : Int → Int → zH → Option zRes} (h2 : ∀ (x0 x1 : Int) (h : zH), (r2Z x0 x1 h).bind e = r2A x0 x1 h) (a1 a2 a3 a4 : Int) (h : zH) : (M_goThrough_103 krZ r2Z a1 a2 a3 a4 h).bind e = M_goThrough_103 krA r2A a1 a2 a3 a4 h := by
  refine Eq.trans (congrArg (fun z => Option.bind z e) (qe_M_goThrough_103 krZ r2Z a1 a2 a3 a4 h)) (Eq.trans ?_ (Eq.symm (qe_M_goThrough_103 krA r2A a1 a2 a3 a4 h)))
  generalize (400 : Nat) = f9
  refine zseg_e e (zcal_e _ _ ?_) (zorc_e _ _ ?_) hk (fun _ _ => rfl) f9 _ _ _ _
  · exact trivial
  · exact ⟨rfl, rfl, rfl, zap5_e (fun x0 x1 x2 x3 x4 h => n_M_goThrough_104 e hk h2 x0 x1 x2 x3 x4 h), trivial⟩
set_option maxRecDepth 100000 in
set_option maxHeartbeats 0 in
theorem n_M_goThrough_69 {ρ : Type} (e : zRes → Option ρ) {krA : Int → zH → Option ρ} {krZ : Int → zH → Option zRes} (hk : ∀ v h, (krZ v h).bind e = krA v h) {r2A : Int → Int → zH → Option ρ} {r2Z : Int → Int → zH → Option zRes} (h2 : ∀ (x0 x1 : Int) (h : zH), (r2Z x0 x1 h).bind e = r2A x0 x1 h) (a1 a2 a3 t0 : Int) (h : zH) : (M_goThrough_69 krZ r2Z a1 a2 a3 t0 h).bind e = M_goThrough_69 krA r2A a1 a2 a3 t0 h := by
  refine Eq.trans (congrArg (fun z => Option.bind z e) (qe_M_goThrough_69 krZ r2Z a1 a2 a3 t0 h)) (Eq.trans ?_ (Eq.symm (qe_M_goThrough_69 krA r2A a1 a2 a3 t0 h)))
  generalize (400 : Nat) = f9
  refine zseg_e e (zcal_e _ _ ?_) (zorc_e _ _ ?_) hk (fun _ _ => rfl) f9 _ _ _ _
  · exact ⟨rfl, rfl, zca1_e (fun x0 h k t => n_M_isOver e (fun _ _ => rfl) x0 h), trivial⟩
  · exact ⟨rfl, rfl, rfl, zap4_e (fun x0 x1 x2 x3 h => n_M_goThrough_103 e hk h2 x0 x1 x2 x3 h), ⟨rfl, rfl, rfl, zap5_e (fun x0 x1 x2 x3 x4 h => n_M_goThrough_104 e hk h2 x0 x1 x2 x3 x4 h), trivial⟩⟩
set_option maxRecDepth 100000 in
set_option maxHeartbeats 0 in
theorem n_M_goThrough_64 {ρ : Type} (e : zRes → Option ρ) {krA : Int → zH → Option ρ} {krZ : Int → zH → Option zRes} (hk : ∀ v h, (krZ v h).bind e = krA v h) {r2A : Int → Int → zH → Option ρ} {r2Z : Int → Int → zH → Option zRes} (h2 : ∀ (x0 x1 : Int) (h : zH), (r2Z x0 x1 h).bind e = r2A x0 x1 h) (a1 a2 a3 : Int) (h : zH) : (M_goThrough_64 krZ r2Z a1 a2 a3 h).bind e = M_goThrough_64 krA r2A a1 a2 a3 h := by
  refine Eq.trans (congrArg (fun z => Option.bind z e) (qe_M_goThrough_64 krZ r2Z a1 a2 a3 h)) (Eq.trans ?_ (Eq.symm (qe_M_goThrough_64 krA r2A a1 a2 a3 h)))
  generalize (400 : Nat) = f9
  refine zseg_e e (zcal_e _ _ ?_) (zorc_e _ _ ?_) hk (fun _ _ => rfl) f9 _ _ _ _
  · exact trivial
  · exact ⟨rfl, rfl, rfl, zap4_e (fun x0 x1 x2 x3 h => n_M_goThrough_69 e hk h2 x0 x1 x2 x3 h), trivial⟩
set_option maxRecDepth 100000 in
set_option maxHeartbeats 0 in
theorem n_M_goThrough_33 {ρ : Type} (e : zRes → Option ρ) {krA : Int → zH → Option ρ} {krZ : Int → zH → Option zRes} (hk : ∀ v h, (krZ v h).bind e = krA v h) {r2A : Int → Int → zH → Option ρ} {r2Z : Int → Int → zH → Option zRes} (h2 : ∀ (x0 x1 : Int) (h : zH), (r2Z x0 x1 h).bind e = r2A x0 x1 h) (a1 a3 t0 : Int) (h : zH) : (M_goThrough_33 krZ r2Z a1 a3 t0 h).bind e = M_goThrough_33 krA r2A a1 a3 t0 h := by
  refine Eq.trans (congrArg (fun z => Option.bind z e) (qe_M_goThrough_33 krZ r2Z a1 a3 t0 h)) (Eq.trans ?_ (Eq.symm (qe_M_goThrough_33 krA r2A a1 a3 t0 h)))
  generalize (400 : Nat) = f9
  refine zseg_e e (zcal_e _ _ ?_) (zorc_e _ _ ?_) hk (fun _ _ => rfl) f9 _ _ _ _
  · exact ⟨rfl, rfl, zca1_e (fun x0 h k t => n_M_isBroken e (fun _ _ => rfl) x0 h), trivial⟩
  · exact ⟨rfl, rfl, rfl, zap3_e (fun x0 x1 x2 h => n_M_goThrough_64 e hk h2 x0 x1 x2 h), ⟨rfl, rfl, rfl, zap4_e (fun x0 x1 x2 x3 h => n_M_goThrough_69 e hk h2 x0 x1 x2 x3 h), ⟨rfl, rfl, rfl, zap2_e (fun x0 x1 h => n_M_goThrough_137 e hk h2 x0 x1 h), trivial⟩⟩⟩
set_option maxRecDepth 100000 in
set_option maxHeartbeats 0 in
theorem n_M_goThrough_32 {ρ : Type} (e : zRes → Option ρ) {krA : Int → zH → Option ρ} {krZ : Int → zH → Option zRes} (hk : ∀ v h, (krZ v h).bind e = krA v h) {r2A : Int → Int → zH → Option ρ} {r2Z : Int → Int → zH → Option zRes} (h2 : ∀ (x0 x1 : Int) (h : zH), (r2Z x0 x1 h).bind e = r2A x0 x1 h) (a1 a3 : Int) (h : zH) : (M_goThrough_32 krZ r2Z a1 a3 h).bind e = M_goThrough_32 krA r2A a1 a3 h := by
  refine Eq.trans (congrArg (fun z => Option.bind z e) (qe_M_goThrough_32 krZ r2Z a1 a3 h)) (Eq.trans ?_ (Eq.symm (qe_M_goThrough_32 krA r2A a1 a3 h)))
  generalize (400 : Nat) = f9
  refine zseg_e e (zcal_e _ _ ?_) (zorc_e _ _ ?_) hk (fun _ _ => rfl) f9 _ _ _ _
  · exact trivial
  · exact ⟨rfl, rfl, rfl, zap3_e (fun x0 x1 x2 h => n_M_goThrough_33 e hk h2 x0 x1 x2 h), trivial⟩
set_option maxRecDepth 100000 in
set_option maxHeartbeats 0 in
theorem n_M_goThrough_2b {ρ : Type} (e : zRes → Option ρ) {krA : Int → zH → Option ρ} {krZ : Int → zH → Option zRes} (hk : ∀ v h, (krZ v h).bind e = krA v h) {r2A : Int → Int → zH → Option ρ} {r2Z : Int → Int → zH → Option zRes} (h2 : ∀ (x0 x1 : Int) (h : zH), (r2Z x0 x1 h).bind e = r2A x0 x1 h) (a1 a2 : Int) (h : zH) : (M_goThrough_2b krZ r2Z a1 a2 h).bind e = M_goThrough_2b krA r2A a1 a2 h := by
  refine Eq.trans (congrArg (fun z => Option.bind z e) (qe_M_goThrough_2b krZ r2Z a1 a2 h)) (Eq.trans ?_ (Eq.symm (qe_M_goThrough_2b krA r2A a1 a2 h)))
  generalize (400 : Nat) = f9
  refine zseg_e e (zcal_e _ _ ?_) (zorc_e _ _ ?_) hk (fun _ _ => rfl) f9 _ _ _ _
  · exact ⟨rfl, rfl, zca1_e (fun x0 h k t => n_M_firstOf e (fun _ _ => rfl) x0 h), trivial⟩
  · exact ⟨rfl, rfl, rfl, zap2_e (fun x0 x1 h => n_M_goThrough_32 e hk h2 x0 x1 h), ⟨rfl, rfl, rfl, zap3_e (fun x0 x1 x2 h => n_M_goThrough_33 e hk h2 x0 x1 x2 h), trivial⟩⟩
theorem n_M_goThrough_2 {ρ : Type} (e : zRes → Option ρ) {krA : Int → zH → Option ρ} {krZ : Int → zH → Option zRes} (hk : ∀ v h, (krZ v h).bind e = krA v h) (a1 a2 : Int) (h : zH) : (M_goThrough_2 krZ a1 a2 h).bind e = M_goThrough_2 krA a1 a2 h := zit2_e (fun rA rZ hh a1 a2 h => n_M_goThrough_2b e hk hh a1 a2 h) zN a1 a2 h
set_option maxRecDepth 100000 in
set_option maxHeartbeats 0 in
theorem n_M_goThrough {ρ : Type} (e : zRes → Option ρ) {krA : Int → zH → Option ρ} {krZ : Int → zH → Option zRes} (hk : ∀ v h, (krZ v h).bind e = krA v h) (a1 : Int) (h : zH) : (M_goThrough a1 h krZ).bind e = M_goThrough a1 h krA := by
  refine Eq.trans (congrArg (fun z => Option.bind z e) (qe_M_goThrough krZ a1 h)) (Eq.trans ?_ (Eq.symm (qe_M_goThrough krA a1 h)))
  generalize (400 : Nat) = f9
  refine zseg_e e (zcal_e _ _ ?_) (zorc_e _ _ ?_) hk (fun _ _ => rfl) f9 _ _ _ _
  · exact trivial
  · exact ⟨rfl, rfl, rfl, zap2_e (fun x0 x1 h => n_M_goThrough_2 e hk x0 x1 h), trivial⟩
set_option maxRecDepth 100000 in
set_option maxHeartbeats 0 in
theorem n_M_copyOne_73 {ρ : Type} (e : zRes → Option ρ) {krA : Int → zH → Option ρ} {krZ : Int → zH → Option zRes} (hk : ∀ v h, (krZ v h).bind e = krA v h) (t0 t1 : Int) (h : zH) : (M_copyOne_73 krZ t0 t1 h).bind e = M_copyOne_73 krA t0 t1 h := by
  refine Eq.trans (congrArg (fun z => Option.bind z e) (qe_M_copyOne_73 krZ t0 t1 h)) (Eq.trans ?_ (Eq.symm (qe_M_copyOne_73 krA t0 t1 h)))
  generalize (400 : Nat) = f9
  refine zseg_e e (zcal_e _ _ ?_) (zorc_e _ _ ?_) hk (fun _ _ => rfl) f9 _ _ _ _
  · exact trivial
  · exact trivial
set_option maxRecDepth 100000 in
set_option maxHeartbeats 0 in
theorem n_M_copyOne {ρ : Type} (e : zRes → Option ρ) {krA : Int → zH → Option ρ} {krZ : Int → zH → Option zRes} (hk : ∀ v h, (krZ v h).bind e = krA v h) (a1 : Int) (h : zH) : (M_copyOne a1 h krZ).bind e = M_copyOne a1 h krA := by
  refine Eq.trans (congrArg (fun z => Option.bind z e) (qe_M_copyOne krZ a1 h)) (Eq.trans ?_ (Eq.symm (qe_M_copyOne krA a1 h)))
  generalize (400 : Nat) = f9
  refine zseg_e e (zcal_e _ _ ?_) (zorc_e _ _ ?_) hk (fun _ _ => rfl) f9 _ _ _ _
  · exact trivial
  · exact ⟨rfl, rfl, rfl, zap2_e (fun x0 x1 h => n_M_copyOne_73 e hk x0 x1 h), trivial⟩
set_option maxRecDepth 100000 in
set_option maxHeartbeats 0 in
theorem n_M_usedRegisters_58 {ρ : Type} (e : zRes → Option ρ) {krA : Int → zH → Option ρ} {krZ : Int → zH → Option zRes} (hk : ∀ v h, (krZ v h).bind e = krA v h) {r4A : Int → Int → Int → zH → Option ρ} {r4Z : Int → Int → Int → zH → Option zRes} (h4 : ∀ (x0 x1 x2 : Int) (h : zH), (r4Z x0 x1 x2 h).bind e = r4A x0 x1 x2 h) (a1 a3 t0 t1 : Int) (h : zH) : (M_usedRegisters_58 krZ r4Z a1 a3 t0 t1 h).bind e = M_usedRegisters_58 krA r4A a1 a3 t0 t1 h := by
  refine Eq.trans (congrArg (fun z => Option.bind z e) (qe_M_usedRegisters_58 krZ r4Z a1 a3 t0 t1 h)) (Eq.trans ?_ (Eq.symm (qe_M_usedRegisters_58 krA r4A a1 a3 t0 t1 h)))
  generalize (400 : Nat) = f9
  refine zseg_e e (zcal_e _ _ ?_) (zorc_e _ _ ?_) hk (fun _ _ => rfl) f9 _ _ _ _
  · exact trivial
  · exact ⟨rfl, rfl, rfl, zap3_e h4, trivial⟩
set_option maxRecDepth 100000 in
set_option maxHeartbeats 0 in
theorem n_M_usedRegisters_57 {ρ : Type} (e : zRes → Option ρ) {krA : Int → zH → Option ρ} {krZ : Int → zH → Option zRes} (hk : ∀ v h, (krZ v h).bind e = krA v h) {r4A : Int → Int → Int → zH → Option ρ} {r4Z : Int → Int → Int → zH → Option zRes} (h4 : ∀ (x0 x1 x2 : Int) (h : zH), (r4Z x0 x1 x2 h).bind e = r4A x0 x1 x2 h) (a1 a3 t0 : Int) (h : zH) : (M_usedRegisters_57 krZ r4Z a1 a3 t0 h).bind e = M_usedRegisters_57 krA r4A a1 a3 t0 h := by
  refine Eq.trans (congrArg (fun z => Option.bind z e) (qe_M_usedRegisters_57 krZ r4Z a1 a3 t0 h)) (Eq.trans ?_ (Eq.symm (qe_M_usedRegisters_57 krA r4A a1 a3 t0 h)))
  generalize (400 : Nat) = f9
  refine zseg_e e (zcal_e _ _ ?_) (zorc_e _ _ ?_) hk (fun _ _ => rfl) f9 _ _ _ _
  · exact trivial
  · exact ⟨rfl, rfl, rfl, zap4_e (fun x0 x1 x2 x3 h => n_M_usedRegisters_58 e hk h4 x0 x1 x2 x3 h), trivial⟩
set_option maxRecDepth 100000 in
set_option maxHeartbeats 0 in
theorem n_M_usedRegisters_4b {ρ : Type} (e : zRes → Option ρ) {krA : Int → zH → Option ρ} {krZ : Int → zH → Option zRes} (hk : ∀ v h, (krZ v h).bind e = krA v h) {r4A : Int → Int → Int → zH → Option ρ} {r4Z : Int → Int → Int → zH → Option zRes} (h4 : ∀ (x0 x1 x2 : Int) (h : zH), (r4Z x0 x1 x2 h).bind e = r4A x0 x1 x2 h) (a1 a2 a3 : Int) (h : zH) : (M_usedRegisters_4b krZ r4Z a1 a2 a3 h).bind e = M_usedRegisters_4b krA r4A a1 a2 a3 h := by
  refine Eq.trans (congrArg (fun z => Option.bind z e) (qe_M_usedRegisters_4b krZ r4Z a1 a2 a3 h)) (Eq.trans ?_ (Eq.symm (qe_M_usedRegisters_4b krA r4A a1 a2 a3 h)))
  generalize (400 : Nat) = f9
  refine zseg_e e (zcal_e _ _ ?_) (zorc_e _ _ ?_) hk (fun _ _ => rfl) f9 _ _ _ _
  · exact trivial
  · exact ⟨rfl, rfl, rfl, zap3_e (fun x0 x1 x2 h => n_M_usedRegisters_57 e hk h4 x0 x1 x2 h), ⟨rfl, rfl, rfl, zap4_e (fun x0 x1 x2 x3 h => n_M_usedRegisters_58 e hk h4 x0 x1 x2 x3 h), trivial⟩⟩
theorem n_M_usedRegisters_4 {ρ : Type} (e : zRes → Option ρ) {krA : Int → zH → Option ρ} {krZ : Int → zH → Option zRes} (hk : ∀ v h, (krZ v h).bind e = krA v h) (a1 a2 a3 : Int) (h : zH) : (M_usedRegisters_4 krZ a1 a2 a3 h).bind e = M_usedRegisters_4 krA a1 a2 a3 h := zit3_e (fun rA rZ hh a1 a2 a3 h => n_M_usedRegisters_4b e hk hh a1 a2 a3 h) zN a1 a2 a3 h
set_option maxRecDepth 100000 in
set_option maxHeartbeats 0 in
theorem n_M_usedRegisters {ρ : Type} (e : zRes → Option ρ) {krA : Int → zH → Option ρ} {krZ : Int → zH → Option zRes} (hk : ∀ v h, (krZ v h).bind e = krA v h) (a1 : Int) (h : zH) : (M_usedRegisters a1 h krZ).bind e = M_usedRegisters a1 h krA := by
  refine Eq.trans (congrArg (fun z => Option.bind z e) (qe_M_usedRegisters krZ a1 h)) (Eq.trans ?_ (Eq.symm (qe_M_usedRegisters krA a1 h)))
  generalize (400 : Nat) = f9
  refine zseg_e e (zcal_e _ _ ?_) (zorc_e _ _ ?_) hk (fun _ _ => rfl) f9 _ _ _ _
  · exact trivial
  · exact ⟨rfl, rfl, rfl, zap3_e (fun x0 x1 x2 h => n_M_usedRegisters_4 e hk x0 x1 x2 h), trivial⟩
set_option maxRecDepth 100000 in
set_option maxHeartbeats 0 in
theorem n_M_usedShared_48 {ρ : Type} (e : zRes → Option ρ) {krA : Int → zH → Option ρ} {krZ : Int → zH → Option zRes} (hk : ∀ v h, (krZ v h).bind e = krA v h) {r4A : Int → Int → Int → zH → Option ρ} {r4Z : Int → Int → Int → zH → Option zRes} (h4 : ∀ (x0 x1 x2 : Int) (h : zH), (r4Z x0 x1 x2 h).bind e = r4A x0 x1 x2 h) (a1 a3 t0 t1 : Int) (h : zH) : (M_usedShared_48 krZ r4Z a1 a3 t0 t1 h).bind e = M_usedShared_48 krA r4A a1 a3 t0 t1 h := by
  refine Eq.trans (congrArg (fun z => Option.bind z e) (qe_M_usedShared_48 krZ r4Z a1 a3 t0 t1 h)) (Eq.trans ?_ (Eq.symm (qe_M_usedShared_48 krA r4A a1 a3 t0 t1 h)))
  generalize (400 : Nat) = f9
  refine zseg_e e (zcal_e _ _ ?_) (zorc_e _ _ ?_) hk (fun _ _ => rfl) f9 _ _ _ _
  · exact trivial
  · exact ⟨rfl, rfl, rfl, zap3_e h4, trivial⟩
set_option maxRecDepth 100000 in
set_option maxHeartbeats 0 in
theorem n_M_usedShared_47 {ρ : Type} (e : zRes → Option ρ) {krA : Int → zH → Option ρ} {krZ : Int → zH → Option zRes} (hk : ∀ v h, (krZ v h).bind e = krA v h) {r4A : Int → Int → Int → zH → Option ρ} {r4Z : Int → Int → Int → zH → Option zRes} (h4 : ∀ (x0 x1 x2 : Int) (h : zH), (r4Z x0 x1 x2 h).bind e = r4A x0 x1 x2 h) (a1 a3 t0 : Int) (h : zH) : (M_usedShared_47 krZ r4Z a1 a3 t0 h).bind e = M_usedShared_47 krA r4A a1 a3 t0 h := by
  refine Eq.trans (congrArg (fun z => Option.bind z e) (qe_M_usedShared_47 krZ r4Z a1 a3 t0 h)) (Eq.trans ?_ (Eq.symm (qe_M_usedShared_47 krA r4A a1 a3 t0 h)))
  generalize (400 : Nat) = f9
  refine zseg_e e (zcal_e _ _ ?_) (zorc_e _ _ ?_) hk (fun _ _ => rfl) f9 _ _ _ _
  · exact trivial
  · exact ⟨rfl, rfl, rfl, zap4_e (fun x0 x1 x2 x3 h => n_M_usedShared_48 e hk h4 x0 x1 x2 x3 h), trivial⟩
set_option maxRecDepth 100000 in
set_option maxHeartbeats 0 in
theorem n_M_usedShared_4b {ρ : Type} (e : zRes → Option ρ) {krA : Int → zH → Option ρ} {krZ : Int → zH → Option zRes} (hk : ∀ v h, (krZ v h).bind e = krA v h) {r4A : Int → Int → Int → zH → Option ρ} {r4Z : Int → Int → Int → zH → Option zRes} (h4 : ∀ (x0 x1 x2 : Int) (h : zH), (r4Z x0 x1 x2 h).bind e = r4A x0 x1 x2 h) (a1 a2 a3 : Int) (h : zH) : (M_usedShared_4b krZ r4Z a1 a2 a3 h).bind e = M_usedShared_4b krA r4A a1 a2 a3 h := by
  refine Eq.trans (congrArg (fun z => Option.bind z e) (qe_M_usedShared_4b krZ r4Z a1 a2 a3 h)) (Eq.trans ?_ (Eq.symm (qe_M_usedShared_4b krA r4A a1 a2 a3 h)))
  generalize (400 : Nat) = f9
  refine zseg_e e (zcal_e _ _ ?_) (zorc_e _ _ ?_) hk (fun _ _ => rfl) f9 _ _ _ _
  · exact trivial
  · exact ⟨rfl, rfl, rfl, zap3_e (fun x0 x1 x2 h => n_M_usedShared_47 e hk h4 x0 x1 x2 h), ⟨rfl, rfl, rfl, zap4_e (fun x0 x1 x2 x3 h => n_M_usedShared_48 e hk h4 x0 x1 x2 x3 h), trivial⟩⟩
theorem n_M_usedShared_4 {ρ : Type} (e : zRes → Option ρ) {krA : Int → zH → Option ρ} {krZ : Int → zH → Option zRes} (hk : ∀ v h, (krZ v h).bind e = krA v h) (a1 a2 a3 : Int) (h : zH) : (M_usedShared_4 krZ a1 a2 a3 h).bind e = M_usedShared_4 krA a1 a2 a3 h := zit3_e (fun rA rZ hh a1 a2 a3 h => n_M_usedShared_4b e hk hh a1 a2 a3 h) zN a1 a2 a3 h
set_option maxRecDepth 100000 in
set_option maxHeartbeats 0 in
theorem n_M_usedShared {ρ : Type} (e : zRes → Option ρ) {krA : Int → zH → Option ρ} {krZ : Int → zH → Option zRes} (hk : ∀ v h, (krZ v h).bind e = krA v h) (a1 : Int) (h : zH) : (M_usedShared a1 h krZ).bind e = M_usedShared a1 h krA := by
  refine Eq.trans (congrArg (fun z => Option.bind z e) (qe_M_usedShared krZ a1 h)) (Eq.trans ?_ (Eq.symm (qe_M_usedShared krA a1 h)))
  generalize (400 : Nat) = f9
  refine zseg_e e (zcal_e _ _ ?_) (zorc_e _ _ ?_) hk (fun _ _ => rfl) f9 _ _ _ _
  · exact trivial
  · exact ⟨rfl, rfl, rfl, zap3_e (fun x0 x1 x2 h => n_M_usedShared_4 e hk x0 x1 x2 h), trivial⟩
set_option maxRecDepth 100000 in
set_option maxHeartbeats 0 in
theorem n_M_hasRoom_72 {ρ : Type} (e : zRes → Option ρ) {krA : Int → zH → Option ρ} {krZ : Int → zH → Option zRes} (hk : ∀ v h, (krZ v h).bind e = krA v h) (t0 : Int) (h : zH) : (M_hasRoom_72 krZ t0 h).bind e = M_hasRoom_72 krA t0 h := by
  refine Eq.trans (congrArg (fun z => Option.bind z e) (qe_M_hasRoom_72 krZ t0 h)) (Eq.trans ?_ (Eq.symm (qe_M_hasRoom_72 krA t0 h)))
  generalize (400 : Nat) = f9
  refine zseg_e e (zcal_e _ _ ?_) (zorc_e _ _ ?_) hk (fun _ _ => rfl) f9 _ _ _ _
  · exact trivial
  · exact trivial
set_option maxRecDepth 100000 in
set_option maxHeartbeats 0 in
theorem n_M_hasRoom_71 {ρ : Type} (e : zRes → Option ρ) {krA : Int → zH → Option ρ} {krZ : Int → zH → Option zRes} (hk : ∀ v h, (krZ v h).bind e = krA v h) (h : zH) : (M_hasRoom_71 krZ h).bind e = M_hasRoom_71 krA h := by
  refine Eq.trans (congrArg (fun z => Option.bind z e) (qe_M_hasRoom_71 krZ h)) (Eq.trans ?_ (Eq.symm (qe_M_hasRoom_71 krA h)))
  generalize (400 : Nat) = f9
  refine zseg_e e (zcal_e _ _ ?_) (zorc_e _ _ ?_) hk (fun _ _ => rfl) f9 _ _ _ _
  · exact trivial
  · exact ⟨rfl, rfl, rfl, zap1_e (fun x0 h => n_M_hasRoom_72 e hk x0 h), trivial⟩
set_option maxRecDepth 100000 in
set_option maxHeartbeats 0 in
theorem n_M_hasRoom {ρ : Type} (e : zRes → Option ρ) {krA : Int → zH → Option ρ} {krZ : Int → zH → Option zRes} (hk : ∀ v h, (krZ v h).bind e = krA v h) (a1 a2 : Int) (h : zH) : (M_hasRoom a1 a2 h krZ).bind e = M_hasRoom a1 a2 h krA := by
  refine Eq.trans (congrArg (fun z => Option.bind z e) (qe_M_hasRoom krZ a1 a2 h)) (Eq.trans ?_ (Eq.symm (qe_M_hasRoom krA a1 a2 h)))
  generalize (400 : Nat) = f9
  refine zseg_e e (zcal_e _ _ ?_) (zorc_e _ _ ?_) hk (fun _ _ => rfl) f9 _ _ _ _
  · exact ⟨rfl, rfl, zca1_e (fun x0 h k t => n_M_groupsOf e (fun _ _ => rfl) x0 h), ⟨rfl, rfl, zca1_e (fun x0 h k t => n_M_usedRegisters e (fun _ _ => rfl) x0 h), ⟨rfl, rfl, zca1_e (fun x0 h k t => n_M_usedShared e (fun _ _ => rfl) x0 h), trivial⟩⟩⟩
  · exact ⟨rfl, rfl, rfl, zap0_e (fun  h => n_M_hasRoom_71 e hk  h), ⟨rfl, rfl, rfl, zap1_e (fun x0 h => n_M_hasRoom_72 e hk x0 h), trivial⟩⟩
set_option maxRecDepth 100000 in
set_option maxHeartbeats 0 in
theorem n_M_unitFor_50 {ρ : Type} (e : zRes → Option ρ) {krA : Int → zH → Option ρ} {krZ : Int → zH → Option zRes} (hk : ∀ v h, (krZ v h).bind e = krA v h) (t0 : Int) (h : zH) : (M_unitFor_50 krZ t0 h).bind e = M_unitFor_50 krA t0 h := by
  refine Eq.trans (congrArg (fun z => Option.bind z e) (qe_M_unitFor_50 krZ t0 h)) (Eq.trans ?_ (Eq.symm (qe_M_unitFor_50 krA t0 h)))
  generalize (400 : Nat) = f9
  refine zseg_e e (zcal_e _ _ ?_) (zorc_e _ _ ?_) hk (fun _ _ => rfl) f9 _ _ _ _
  · exact trivial
  · exact trivial
set_option maxRecDepth 100000 in
set_option maxHeartbeats 0 in
theorem n_M_unitFor_37 {ρ : Type} (e : zRes → Option ρ) {krA : Int → zH → Option ρ} {krZ : Int → zH → Option zRes} (hk : ∀ v h, (krZ v h).bind e = krA v h) (h : zH) : (M_unitFor_37 krZ h).bind e = M_unitFor_37 krA h := by
  refine Eq.trans (congrArg (fun z => Option.bind z e) (qe_M_unitFor_37 krZ h)) (Eq.trans ?_ (Eq.symm (qe_M_unitFor_37 krA h)))
  generalize (400 : Nat) = f9
  refine zseg_e e (zcal_e _ _ ?_) (zorc_e _ _ ?_) hk (fun _ _ => rfl) f9 _ _ _ _
  · exact trivial
  · exact ⟨rfl, rfl, rfl, zap1_e (fun x0 h => n_M_unitFor_50 e hk x0 h), trivial⟩
set_option maxRecDepth 100000 in
set_option maxHeartbeats 0 in
theorem n_M_unitFor_41 {ρ : Type} (e : zRes → Option ρ) {krA : Int → zH → Option ρ} {krZ : Int → zH → Option zRes} (hk : ∀ v h, (krZ v h).bind e = krA v h) (a3 : Int) (h : zH) : (M_unitFor_41 krZ a3 h).bind e = M_unitFor_41 krA a3 h := by
  refine Eq.trans (congrArg (fun z => Option.bind z e) (qe_M_unitFor_41 krZ a3 h)) (Eq.trans ?_ (Eq.symm (qe_M_unitFor_41 krA a3 h)))
  generalize (400 : Nat) = f9
  refine zseg_e e (zcal_e _ _ ?_) (zorc_e _ _ ?_) hk (fun _ _ => rfl) f9 _ _ _ _
  · exact trivial
  · exact ⟨rfl, rfl, rfl, zap1_e (fun x0 h => n_M_unitFor_50 e hk x0 h), trivial⟩
set_option maxRecDepth 100000 in
set_option maxHeartbeats 0 in
theorem n_M_unitFor {ρ : Type} (e : zRes → Option ρ) {krA : Int → zH → Option ρ} {krZ : Int → zH → Option zRes} (hk : ∀ v h, (krZ v h).bind e = krA v h) (a1 : Int) (h : zH) : (M_unitFor a1 h krZ).bind e = M_unitFor a1 h krA := by
  refine Eq.trans (congrArg (fun z => Option.bind z e) (qe_M_unitFor krZ a1 h)) (Eq.trans ?_ (Eq.symm (qe_M_unitFor krA a1 h)))
  generalize (400 : Nat) = f9
  refine zseg_e e (zcal_e _ _ ?_) (zorc_e _ _ ?_) hk (fun _ _ => rfl) f9 _ _ _ _
  · exact ⟨rfl, rfl, zca2_e (fun x0 x1 h k t => n_M_hasRoom e (fun _ _ => rfl) x0 x1 h), trivial⟩
  · exact ⟨rfl, rfl, rfl, zap0_e (fun  h => n_M_unitFor_37 e hk  h), ⟨rfl, rfl, rfl, zap1_e (fun x0 h => n_M_unitFor_41 e hk x0 h), trivial⟩⟩
set_option maxRecDepth 100000 in
set_option maxHeartbeats 0 in
theorem n_M_give_133b {ρ : Type} (e : zRes → Option ρ) {krA : Int → zH → Option ρ} {krZ : Int → zH → Option zRes} (hk : ∀ v h, (krZ v h).bind e = krA v h) {r74A : Int → Int → Int → Int → zH → Option ρ} {r74Z : Int → Int → Int → Int → zH → Option zRes} (h74 : ∀ (x0 x1 x2 x3 : Int) (h : zH), (r74Z x0 x1 x2 x3 h).bind e = r74A x0 x1 x2 x3 h) {r133A : Int → Int → Int → Int → Int → Int → zH → Option ρ} {r133Z : Int → Int → Int → Int → Int → Int → zH → Option zRes} (h133 : ∀ (x0 x1 x2 x3 x4 x5 : Int) (h : zH), (r133Z x0 x1 x2 x3 x4 x5 h).bind e = r133A x0 x1 x2 x3 x4 x5 h) (a1 a2 a3 a4 a5 a6 : Int) (h : zH) : (M_give_133b krZ r74Z r133Z a1 a2 a3 a4 a5 a6 h).bind e = M_give_133b krA r74A r133A a1 a2 a3 a4 a5 a6 h := by
  refine Eq.trans (congrArg (fun z => Option.bind z e) (qe_M_give_133b krZ r74Z r133Z a1 a2 a3 a4 a5 a6 h)) (Eq.trans ?_ (Eq.symm (qe_M_give_133b krA r74A r133A a1 a2 a3 a4 a5 a6 h)))
  generalize (400 : Nat) = f9
  refine zseg_e e (zcal_e _ _ ?_) (zorc_e _ _ ?_) hk (fun _ _ => rfl) f9 _ _ _ _
  · exact trivial
  · exact ⟨rfl, rfl, rfl, zap4_e h74, ⟨rfl, rfl, rfl, zap6_e h133, trivial⟩⟩
theorem n_M_give_133 {ρ : Type} (e : zRes → Option ρ) {krA : Int → zH → Option ρ} {krZ : Int → zH → Option zRes} (hk : ∀ v h, (krZ v h).bind e = krA v h) {r74A : Int → Int → Int → Int → zH → Option ρ} {r74Z : Int → Int → Int → Int → zH → Option zRes} (h74 : ∀ (x0 x1 x2 x3 : Int) (h : zH), (r74Z x0 x1 x2 x3 h).bind e = r74A x0 x1 x2 x3 h) (a1 a2 a3 a4 a5 a6 : Int) (h : zH) : (M_give_133 krZ r74Z a1 a2 a3 a4 a5 a6 h).bind e = M_give_133 krA r74A a1 a2 a3 a4 a5 a6 h := zit6_e (fun rA rZ hh a1 a2 a3 a4 a5 a6 h => n_M_give_133b e hk h74 hh a1 a2 a3 a4 a5 a6 h) zN a1 a2 a3 a4 a5 a6 h
set_option maxRecDepth 100000 in
set_option maxHeartbeats 0 in
theorem n_M_give_129 {ρ : Type} (e : zRes → Option ρ) {krA : Int → zH → Option ρ} {krZ : Int → zH → Option zRes} (hk : ∀ v h, (krZ v h).bind e = krA v h) {r74A : Int → Int → Int → Int → zH → Option ρ} {r74Z : Int → Int → Int → Int → zH → Option zRes} (h74 : ∀ (x0 x1 x2 x3 : Int) (h : zH), (r74Z x0 x1 x2 x3 h).bind e = r74A x0 x1 x2 x3 h) (a1 a2 a3 a4 a5 t0 t1 : Int) (h : zH) : (M_give_129 krZ r74Z a1 a2 a3 a4 a5 t0 t1 h).bind e = M_give_129 krA r74A a1 a2 a3 a4 a5 t0 t1 h := by
  refine Eq.trans (congrArg (fun z => Option.bind z e) (qe_M_give_129 krZ r74Z a1 a2 a3 a4 a5 t0 t1 h)) (Eq.trans ?_ (Eq.symm (qe_M_give_129 krA r74A a1 a2 a3 a4 a5 t0 t1 h)))
  generalize (400 : Nat) = f9
  refine zseg_e e (zcal_e _ _ ?_) (zorc_e _ _ ?_) hk (fun _ _ => rfl) f9 _ _ _ _
  · exact trivial
  · exact ⟨rfl, rfl, rfl, zap6_e (fun x0 x1 x2 x3 x4 x5 h => n_M_give_133 e hk h74 x0 x1 x2 x3 x4 x5 h), trivial⟩
set_option maxRecDepth 100000 in
set_option maxHeartbeats 0 in
theorem n_M_give_169b {ρ : Type} (e : zRes → Option ρ) {krA : Int → zH → Option ρ} {krZ : Int → zH → Option zRes} (hk : ∀ v h, (krZ v h).bind e = krA v h) {r169A : Int → Int → Int → Int → zH → Option ρ} {r169Z : Int → Int → Int → Int → zH → Option zRes} (h169 : ∀ (x0 x1 x2 x3 : Int) (h : zH), (r169Z x0 x1 x2 x3 h).bind e = r169A x0 x1 x2 x3 h) (a1 a2 a3 a4 : Int) (h : zH) : (M_give_169b krZ r169Z a1 a2 a3 a4 h).bind e = M_give_169b krA r169A a1 a2 a3 a4 h := by
  refine Eq.trans (congrArg (fun z => Option.bind z e) (qe_M_give_169b krZ r169Z a1 a2 a3 a4 h)) (Eq.trans ?_ (Eq.symm (qe_M_give_169b krA r169A a1 a2 a3 a4 h)))
  generalize (400 : Nat) = f9
  refine zseg_e e (zcal_e _ _ ?_) (zorc_e _ _ ?_) hk (fun _ _ => rfl) f9 _ _ _ _
  · exact ⟨rfl, rfl, zca1_e (fun x0 h k t => n_M_groupsOf e (fun _ _ => rfl) x0 h), ⟨rfl, rfl, zca1_e (fun x0 h k t => n_M_settle e (fun _ _ => rfl) x0 h), trivial⟩⟩
  · exact ⟨rfl, rfl, rfl, zap4_e h169, trivial⟩
theorem n_M_give_169 {ρ : Type} (e : zRes → Option ρ) {krA : Int → zH → Option ρ} {krZ : Int → zH → Option zRes} (hk : ∀ v h, (krZ v h).bind e = krA v h) (a1 a2 a3 a4 : Int) (h : zH) : (M_give_169 krZ a1 a2 a3 a4 h).bind e = M_give_169 krA a1 a2 a3 a4 h := zit4_e (fun rA rZ hh a1 a2 a3 a4 h => n_M_give_169b e hk hh a1 a2 a3 a4 h) zN a1 a2 a3 a4 h
set_option maxRecDepth 100000 in
set_option maxHeartbeats 0 in
theorem n_M_give_74b {ρ : Type} (e : zRes → Option ρ) {krA : Int → zH → Option ρ} {krZ : Int → zH → Option zRes} (hk : ∀ v h, (krZ v h).bind e = krA v h) {r74A : Int → Int → Int → Int → zH → Option ρ} {r74Z : Int → Int → Int → Int → zH → Option zRes} (h74 : ∀ (x0 x1 x2 x3 : Int) (h : zH), (r74Z x0 x1 x2 x3 h).bind e = r74A x0 x1 x2 x3 h) (a1 a2 a3 a4 : Int) (h : zH) : (M_give_74b krZ r74Z a1 a2 a3 a4 h).bind e = M_give_74b krA r74A a1 a2 a3 a4 h := by
  refine Eq.trans (congrArg (fun z => Option.bind z e) (qe_M_give_74b krZ r74Z a1 a2 a3 a4 h)) (Eq.trans ?_ (Eq.symm (qe_M_give_74b krA r74A a1 a2 a3 a4 h)))
  generalize (400 : Nat) = f9
  refine zseg_e e (zcal_e _ _ ?_) (zorc_e _ _ ?_) hk (fun _ _ => rfl) f9 _ _ _ _
  · exact ⟨rfl, rfl, zca2_e (fun x0 x1 h k t => n_M_threadCell e (fun _ _ => rfl) x0 x1 h), trivial⟩
  · exact ⟨rfl, rfl, rfl, zap7_e (fun x0 x1 x2 x3 x4 x5 x6 h => n_M_give_129 e hk h74 x0 x1 x2 x3 x4 x5 x6 h), ⟨rfl, rfl, rfl, zap4_e (fun x0 x1 x2 x3 h => n_M_give_169 e hk x0 x1 x2 x3 h), trivial⟩⟩
theorem n_M_give_74 {ρ : Type} (e : zRes → Option ρ) {krA : Int → zH → Option ρ} {krZ : Int → zH → Option zRes} (hk : ∀ v h, (krZ v h).bind e = krA v h) (a1 a2 a3 a4 : Int) (h : zH) : (M_give_74 krZ a1 a2 a3 a4 h).bind e = M_give_74 krA a1 a2 a3 a4 h := zit4_e (fun rA rZ hh a1 a2 a3 a4 h => n_M_give_74b e hk hh a1 a2 a3 a4 h) zN a1 a2 a3 a4 h
set_option maxRecDepth 100000 in
set_option maxHeartbeats 0 in
theorem n_M_give_45b {ρ : Type} (e : zRes → Option ρ) {krA : Int → zH → Option ρ} {krZ : Int → zH → Option zRes} (hk : ∀ v h, (krZ v h).bind e = krA v h) {r45A : Int → Int → Int → Int → zH → Option ρ} {r45Z : Int → Int → Int → Int → zH → Option zRes} (h45 : ∀ (x0 x1 x2 x3 : Int) (h : zH), (r45Z x0 x1 x2 x3 h).bind e = r45A x0 x1 x2 x3 h) (a1 a2 a3 a4 : Int) (h : zH) : (M_give_45b krZ r45Z a1 a2 a3 a4 h).bind e = M_give_45b krA r45A a1 a2 a3 a4 h := by
  refine Eq.trans (congrArg (fun z => Option.bind z e) (qe_M_give_45b krZ r45Z a1 a2 a3 a4 h)) (Eq.trans ?_ (Eq.symm (qe_M_give_45b krA r45A a1 a2 a3 a4 h)))
  generalize (400 : Nat) = f9
  refine zseg_e e (zcal_e _ _ ?_) (zorc_e _ _ ?_) hk (fun _ _ => rfl) f9 _ _ _ _
  · exact trivial
  · exact ⟨rfl, rfl, rfl, zap4_e h45, ⟨rfl, rfl, rfl, zap4_e (fun x0 x1 x2 x3 h => n_M_give_74 e hk x0 x1 x2 x3 h), trivial⟩⟩
theorem n_M_give_45 {ρ : Type} (e : zRes → Option ρ) {krA : Int → zH → Option ρ} {krZ : Int → zH → Option zRes} (hk : ∀ v h, (krZ v h).bind e = krA v h) (a1 a2 a3 a4 : Int) (h : zH) : (M_give_45 krZ a1 a2 a3 a4 h).bind e = M_give_45 krA a1 a2 a3 a4 h := zit4_e (fun rA rZ hh a1 a2 a3 a4 h => n_M_give_45b e hk hh a1 a2 a3 a4 h) zN a1 a2 a3 a4 h
set_option maxRecDepth 100000 in
set_option maxHeartbeats 0 in
theorem n_M_give {ρ : Type} (e : zRes → Option ρ) {krA : Int → zH → Option ρ} {krZ : Int → zH → Option zRes} (hk : ∀ v h, (krZ v h).bind e = krA v h) (a1 a2 : Int) (h : zH) : (M_give a1 a2 h krZ).bind e = M_give a1 a2 h krA := by
  refine Eq.trans (congrArg (fun z => Option.bind z e) (qe_M_give krZ a1 a2 h)) (Eq.trans ?_ (Eq.symm (qe_M_give krA a1 a2 h)))
  generalize (400 : Nat) = f9
  refine zseg_e e (zcal_e _ _ ?_) (zorc_e _ _ ?_) hk (fun _ _ => rfl) f9 _ _ _ _
  · exact ⟨rfl, rfl, zca2_e (fun x0 x1 h k t => n_M_blockOf e (fun _ _ => rfl) x0 x1 h), trivial⟩
  · exact ⟨rfl, rfl, rfl, zap4_e (fun x0 x1 x2 x3 h => n_M_give_45 e hk x0 x1 x2 x3 h), trivial⟩
set_option maxRecDepth 100000 in
set_option maxHeartbeats 0 in
theorem n_M_canGo_27 {ρ : Type} (e : zRes → Option ρ) {krA : Int → zH → Option ρ} {krZ : Int → zH → Option zRes} (hk : ∀ v h, (krZ v h).bind e = krA v h) (t0 : Int) (h : zH) : (M_canGo_27 krZ t0 h).bind e = M_canGo_27 krA t0 h := by
  refine Eq.trans (congrArg (fun z => Option.bind z e) (qe_M_canGo_27 krZ t0 h)) (Eq.trans ?_ (Eq.symm (qe_M_canGo_27 krA t0 h)))
  generalize (400 : Nat) = f9
  refine zseg_e e (zcal_e _ _ ?_) (zorc_e _ _ ?_) hk (fun _ _ => rfl) f9 _ _ _ _
  · exact trivial
  · exact trivial
set_option maxRecDepth 100000 in
set_option maxHeartbeats 0 in
theorem n_M_canGo_26 {ρ : Type} (e : zRes → Option ρ) {krA : Int → zH → Option ρ} {krZ : Int → zH → Option zRes} (hk : ∀ v h, (krZ v h).bind e = krA v h) (h : zH) : (M_canGo_26 krZ h).bind e = M_canGo_26 krA h := by
  refine Eq.trans (congrArg (fun z => Option.bind z e) (qe_M_canGo_26 krZ h)) (Eq.trans ?_ (Eq.symm (qe_M_canGo_26 krA h)))
  generalize (400 : Nat) = f9
  refine zseg_e e (zcal_e _ _ ?_) (zorc_e _ _ ?_) hk (fun _ _ => rfl) f9 _ _ _ _
  · exact trivial
  · exact ⟨rfl, rfl, rfl, zap1_e (fun x0 h => n_M_canGo_27 e hk x0 h), trivial⟩
set_option maxRecDepth 100000 in
set_option maxHeartbeats 0 in
theorem n_M_canGo {ρ : Type} (e : zRes → Option ρ) {krA : Int → zH → Option ρ} {krZ : Int → zH → Option zRes} (hk : ∀ v h, (krZ v h).bind e = krA v h) (a1 : Int) (h : zH) : (M_canGo a1 h krZ).bind e = M_canGo a1 h krA := by
  refine Eq.trans (congrArg (fun z => Option.bind z e) (qe_M_canGo krZ a1 h)) (Eq.trans ?_ (Eq.symm (qe_M_canGo krA a1 h)))
  generalize (400 : Nat) = f9
  refine zseg_e e (zcal_e _ _ ?_) (zorc_e _ _ ?_) hk (fun _ _ => rfl) f9 _ _ _ _
  · exact ⟨rfl, rfl, zca1_e (fun x0 h k t => n_M_placeOf e (fun _ _ => rfl) x0 h), trivial⟩
  · exact ⟨rfl, rfl, rfl, zap0_e (fun  h => n_M_canGo_26 e hk  h), ⟨rfl, rfl, rfl, zap1_e (fun x0 h => n_M_canGo_27 e hk x0 h), trivial⟩⟩
set_option maxRecDepth 100000 in
set_option maxHeartbeats 0 in
theorem n_M_choose_78 {ρ : Type} (e : zRes → Option ρ) {krA : Int → zH → Option ρ} {krZ : Int → zH → Option zRes} (hk : ∀ v h, (krZ v h).bind e = krA v h) {r23A : Int → Int → Int → zH → Option ρ} {r23Z : Int → Int → Int → zH → Option zRes} (h23 : ∀ (x0 x1 x2 : Int) (h : zH), (r23Z x0 x1 x2 h).bind e = r23A x0 x1 x2 h) (a1 a3 t0 : Int) (h : zH) : (M_choose_78 krZ r23Z a1 a3 t0 h).bind e = M_choose_78 krA r23A a1 a3 t0 h := by
  refine Eq.trans (congrArg (fun z => Option.bind z e) (qe_M_choose_78 krZ r23Z a1 a3 t0 h)) (Eq.trans ?_ (Eq.symm (qe_M_choose_78 krA r23A a1 a3 t0 h)))
  generalize (400 : Nat) = f9
  refine zseg_e e (zcal_e _ _ ?_) (zorc_e _ _ ?_) hk (fun _ _ => rfl) f9 _ _ _ _
  · exact trivial
  · exact ⟨rfl, rfl, rfl, zap3_e h23, trivial⟩
set_option maxRecDepth 100000 in
set_option maxHeartbeats 0 in
theorem n_M_choose_77 {ρ : Type} (e : zRes → Option ρ) {krA : Int → zH → Option ρ} {krZ : Int → zH → Option zRes} (hk : ∀ v h, (krZ v h).bind e = krA v h) {r23A : Int → Int → Int → zH → Option ρ} {r23Z : Int → Int → Int → zH → Option zRes} (h23 : ∀ (x0 x1 x2 : Int) (h : zH), (r23Z x0 x1 x2 h).bind e = r23A x0 x1 x2 h) (a1 a2 a3 : Int) (h : zH) : (M_choose_77 krZ r23Z a1 a2 a3 h).bind e = M_choose_77 krA r23A a1 a2 a3 h := by
  refine Eq.trans (congrArg (fun z => Option.bind z e) (qe_M_choose_77 krZ r23Z a1 a2 a3 h)) (Eq.trans ?_ (Eq.symm (qe_M_choose_77 krA r23A a1 a2 a3 h)))
  generalize (400 : Nat) = f9
  refine zseg_e e (zcal_e _ _ ?_) (zorc_e _ _ ?_) hk (fun _ _ => rfl) f9 _ _ _ _
  · exact trivial
  · exact ⟨rfl, rfl, rfl, zap3_e (fun x0 x1 x2 h => n_M_choose_78 e hk h23 x0 x1 x2 h), trivial⟩
set_option maxRecDepth 100000 in
set_option maxHeartbeats 0 in
theorem n_M_choose_151 {ρ : Type} (e : zRes → Option ρ) {krA : Int → zH → Option ρ} {krZ : Int → zH → Option zRes} (hk : ∀ v h, (krZ v h).bind e = krA v h) {r90A : Int → Int → Int → Int → zH → Option ρ} {r90Z : Int → Int → Int → Int → zH → Option zRes} (h90 : ∀ (x0 x1 x2 x3 : Int) (h : zH), (r90Z x0 x1 x2 x3 h).bind e = r90A x0 x1 x2 x3 h) (a1 a2 a4 t0 : Int) (h : zH) : (M_choose_151 krZ r90Z a1 a2 a4 t0 h).bind e = M_choose_151 krA r90A a1 a2 a4 t0 h := by
  refine Eq.trans (congrArg (fun z => Option.bind z e) (qe_M_choose_151 krZ r90Z a1 a2 a4 t0 h)) (Eq.trans ?_ (Eq.symm (qe_M_choose_151 krA r90A a1 a2 a4 t0 h)))
  generalize (400 : Nat) = f9
  refine zseg_e e (zcal_e _ _ ?_) (zorc_e _ _ ?_) hk (fun _ _ => rfl) f9 _ _ _ _
  · exact trivial
  · exact ⟨rfl, rfl, rfl, zap4_e h90, trivial⟩
set_option maxRecDepth 100000 in
set_option maxHeartbeats 0 in
theorem n_M_choose_145 {ρ : Type} (e : zRes → Option ρ) {krA : Int → zH → Option ρ} {krZ : Int → zH → Option zRes} (hk : ∀ v h, (krZ v h).bind e = krA v h) {r90A : Int → Int → Int → Int → zH → Option ρ} {r90Z : Int → Int → Int → Int → zH → Option zRes} (h90 : ∀ (x0 x1 x2 x3 : Int) (h : zH), (r90Z x0 x1 x2 x3 h).bind e = r90A x0 x1 x2 x3 h) (a1 a2 a4 a5 : Int) (h : zH) : (M_choose_145 krZ r90Z a1 a2 a4 a5 h).bind e = M_choose_145 krA r90A a1 a2 a4 a5 h := by
  refine Eq.trans (congrArg (fun z => Option.bind z e) (qe_M_choose_145 krZ r90Z a1 a2 a4 a5 h)) (Eq.trans ?_ (Eq.symm (qe_M_choose_145 krA r90A a1 a2 a4 a5 h)))
  generalize (400 : Nat) = f9
  refine zseg_e e (zcal_e _ _ ?_) (zorc_e _ _ ?_) hk (fun _ _ => rfl) f9 _ _ _ _
  · exact trivial
  · exact ⟨rfl, rfl, rfl, zap4_e (fun x0 x1 x2 x3 h => n_M_choose_151 e hk h90 x0 x1 x2 x3 h), trivial⟩
set_option maxRecDepth 100000 in
set_option maxHeartbeats 0 in
theorem n_M_choose_150 {ρ : Type} (e : zRes → Option ρ) {krA : Int → zH → Option ρ} {krZ : Int → zH → Option zRes} (hk : ∀ v h, (krZ v h).bind e = krA v h) {r90A : Int → Int → Int → Int → zH → Option ρ} {r90Z : Int → Int → Int → Int → zH → Option zRes} (h90 : ∀ (x0 x1 x2 x3 : Int) (h : zH), (r90Z x0 x1 x2 x3 h).bind e = r90A x0 x1 x2 x3 h) (a1 a2 a3 a4 : Int) (h : zH) : (M_choose_150 krZ r90Z a1 a2 a3 a4 h).bind e = M_choose_150 krA r90A a1 a2 a3 a4 h := by
  refine Eq.trans (congrArg (fun z => Option.bind z e) (qe_M_choose_150 krZ r90Z a1 a2 a3 a4 h)) (Eq.trans ?_ (Eq.symm (qe_M_choose_150 krA r90A a1 a2 a3 a4 h)))
  generalize (400 : Nat) = f9
  refine zseg_e e (zcal_e _ _ ?_) (zorc_e _ _ ?_) hk (fun _ _ => rfl) f9 _ _ _ _
  · exact trivial
  · exact ⟨rfl, rfl, rfl, zap4_e (fun x0 x1 x2 x3 h => n_M_choose_151 e hk h90 x0 x1 x2 x3 h), trivial⟩
set_option maxRecDepth 100000 in
set_option maxHeartbeats 0 in
theorem n_M_choose_90b {ρ : Type} (e : zRes → Option ρ) {krA : Int → zH → Option ρ} {krZ : Int → zH → Option zRes} (hk : ∀ v h, (krZ v h).bind e = krA v h) {r90A : Int → Int → Int → Int → zH → Option ρ} {r90Z : Int → Int → Int → Int → zH → Option zRes} (h90 : ∀ (x0 x1 x2 x3 : Int) (h : zH), (r90Z x0 x1 x2 x3 h).bind e = r90A x0 x1 x2 x3 h) (a1 a2 a3 a4 : Int) (h : zH) : (M_choose_90b krZ r90Z a1 a2 a3 a4 h).bind e = M_choose_90b krA r90A a1 a2 a3 a4 h := by
  refine Eq.trans (congrArg (fun z => Option.bind z e) (qe_M_choose_90b krZ r90Z a1 a2 a3 a4 h)) (Eq.trans ?_ (Eq.symm (qe_M_choose_90b krA r90A a1 a2 a3 a4 h)))
  generalize (400 : Nat) = f9
  refine zseg_e e (zcal_e _ _ ?_) (zorc_e _ _ ?_) hk (fun _ _ => rfl) f9 _ _ _ _
  · exact ⟨rfl, rfl, zca1_e (fun x0 h k t => n_M_canGo e (fun _ _ => rfl) x0 h), trivial⟩
  · exact ⟨rfl, rfl, rfl, zap4_e (fun x0 x1 x2 x3 h => n_M_choose_145 e hk h90 x0 x1 x2 x3 h), ⟨rfl, rfl, rfl, zap4_e (fun x0 x1 x2 x3 h => n_M_choose_150 e hk h90 x0 x1 x2 x3 h), trivial⟩⟩
theorem n_M_choose_90 {ρ : Type} (e : zRes → Option ρ) {krA : Int → zH → Option ρ} {krZ : Int → zH → Option zRes} (hk : ∀ v h, (krZ v h).bind e = krA v h) (a1 a2 a3 a4 : Int) (h : zH) : (M_choose_90 krZ a1 a2 a3 a4 h).bind e = M_choose_90 krA a1 a2 a3 a4 h := zit4_e (fun rA rZ hh a1 a2 a3 a4 h => n_M_choose_90b e hk hh a1 a2 a3 a4 h) zN a1 a2 a3 a4 h
set_option maxRecDepth 100000 in
set_option maxHeartbeats 0 in
theorem n_M_choose_85 {ρ : Type} (e : zRes → Option ρ) {krA : Int → zH → Option ρ} {krZ : Int → zH → Option zRes} (hk : ∀ v h, (krZ v h).bind e = krA v h) (a1 a2 : Int) (h : zH) : (M_choose_85 krZ a1 a2 h).bind e = M_choose_85 krA a1 a2 h := by
  refine Eq.trans (congrArg (fun z => Option.bind z e) (qe_M_choose_85 krZ a1 a2 h)) (Eq.trans ?_ (Eq.symm (qe_M_choose_85 krA a1 a2 h)))
  generalize (400 : Nat) = f9
  refine zseg_e e (zcal_e _ _ ?_) (zorc_e _ _ ?_) hk (fun _ _ => rfl) f9 _ _ _ _
  · exact trivial
  · exact ⟨rfl, rfl, rfl, zap4_e (fun x0 x1 x2 x3 h => n_M_choose_90 e hk x0 x1 x2 x3 h), trivial⟩
set_option maxRecDepth 100000 in
set_option maxHeartbeats 0 in
theorem n_M_choose_23b {ρ : Type} (e : zRes → Option ρ) {krA : Int → zH → Option ρ} {krZ : Int → zH → Option zRes} (hk : ∀ v h, (krZ v h).bind e = krA v h) {r23A : Int → Int → Int → zH → Option ρ} {r23Z : Int → Int → Int → zH → Option zRes} (h23 : ∀ (x0 x1 x2 : Int) (h : zH), (r23Z x0 x1 x2 h).bind e = r23A x0 x1 x2 h) (a1 a2 a3 : Int) (h : zH) : (M_choose_23b krZ r23Z a1 a2 a3 h).bind e = M_choose_23b krA r23A a1 a2 a3 h := by
  refine Eq.trans (congrArg (fun z => Option.bind z e) (qe_M_choose_23b krZ r23Z a1 a2 a3 h)) (Eq.trans ?_ (Eq.symm (qe_M_choose_23b krA r23A a1 a2 a3 h)))
  generalize (400 : Nat) = f9
  refine zseg_e e (zcal_e _ _ ?_) (zorc_e _ _ ?_) hk (fun _ _ => rfl) f9 _ _ _ _
  · exact trivial
  · exact ⟨rfl, rfl, rfl, zap3_e (fun x0 x1 x2 h => n_M_choose_77 e hk h23 x0 x1 x2 h), ⟨rfl, rfl, rfl, zap3_e (fun x0 x1 x2 h => n_M_choose_78 e hk h23 x0 x1 x2 h), ⟨rfl, rfl, rfl, zap2_e (fun x0 x1 h => n_M_choose_85 e hk x0 x1 h), trivial⟩⟩⟩
theorem n_M_choose_23 {ρ : Type} (e : zRes → Option ρ) {krA : Int → zH → Option ρ} {krZ : Int → zH → Option zRes} (hk : ∀ v h, (krZ v h).bind e = krA v h) (a1 a2 a3 : Int) (h : zH) : (M_choose_23 krZ a1 a2 a3 h).bind e = M_choose_23 krA a1 a2 a3 h := zit3_e (fun rA rZ hh a1 a2 a3 h => n_M_choose_23b e hk hh a1 a2 a3 h) zN a1 a2 a3 h
set_option maxRecDepth 100000 in
set_option maxHeartbeats 0 in
theorem n_M_choose {ρ : Type} (e : zRes → Option ρ) {krA : Int → zH → Option ρ} {krZ : Int → zH → Option zRes} (hk : ∀ v h, (krZ v h).bind e = krA v h) (a1 : Int) (h : zH) : (M_choose a1 h krZ).bind e = M_choose a1 h krA := by
  refine Eq.trans (congrArg (fun z => Option.bind z e) (qe_M_choose krZ a1 h)) (Eq.trans ?_ (Eq.symm (qe_M_choose krA a1 h)))
  generalize (400 : Nat) = f9
  refine zseg_e e (zcal_e _ _ ?_) (zorc_e _ _ ?_) hk (fun _ _ => rfl) f9 _ _ _ _
  · exact trivial
  · exact ⟨rfl, rfl, rfl, zap3_e (fun x0 x1 x2 h => n_M_choose_23 e hk x0 x1 x2 h), ⟨rfl, rfl, rfl, zap2_e (fun x0 x1 h => n_M_choose_85 e hk x0 x1 h), trivial⟩⟩
