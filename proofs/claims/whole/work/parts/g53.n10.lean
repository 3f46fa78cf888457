set_option maxRecDepth 100000 in
set_option maxHeartbeats 0 in
theorem n_M_runBarrier_59 {ρ : Type} (e : zRes → Option ρ) {krA : Int → zH → Option ρ} {krZ : Int → zH → Option zRes} (hk : ∀ v h, (krZ v h).bind e = krA v h) {r7A : Int → Int → Int → Int → zH → Option ρ} {r7Z : Int → Int → Int → Int → zH → Option zRes} (h7 : ∀ (x0 x1 x2 x3 : Int) (h : zH), (r7Z x0 x1 x2 x3 h).bind e = r7A x0 x1 x2 x3 h) (a1 a2 a3 a4 : Int) (h : zH) : (M_runBarrier_59 krZ r7Z a1 a2 a3 a4 h).bind e = M_runBarrier_59 krA r7A a1 a2 a3 a4 h := by
  refine Eq.trans (congrArg (fun z => Option.bind z e) (qe_M_runBarrier_59 krZ r7Z a1 a2 a3 a4 h)) (Eq.trans ?_ (Eq.symm (qe_M_runBarrier_59 krA r7A a1 a2 a3 a4 h)))
  generalize (400 : Nat) = f9
  refine zseg_e e (zcal_e _ _ ?_) (zorc_e _ _ ?_) hk (fun _ _ => rfl) f9 _ _ _ _
  · exact trivial
  · exact ⟨rfl, rfl, rfl, zap4_e h7, trivial⟩
set_option maxRecDepth 100000 in
set_option maxHeartbeats 0 in
theorem n_M_runBarrier_50 {ρ : Type} (e : zRes → Option ρ) {krA : Int → zH → Option ρ} {krZ : Int → zH → Option zRes} (hk : ∀ v h, (krZ v h).bind e = krA v h) {r7A : Int → Int → Int → Int → zH → Option ρ} {r7Z : Int → Int → Int → Int → zH → Option zRes} (h7 : ∀ (x0 x1 x2 x3 : Int) (h : zH), (r7Z x0 x1 x2 x3 h).bind e = r7A x0 x1 x2 x3 h) (a1 a4 t0 : Int) (h : zH) : (M_runBarrier_50 krZ r7Z a1 a4 t0 h).bind e = M_runBarrier_50 krA r7A a1 a4 t0 h := by
  refine Eq.trans (congrArg (fun z => Option.bind z e) (qe_M_runBarrier_50 krZ r7Z a1 a4 t0 h)) (Eq.trans ?_ (Eq.symm (qe_M_runBarrier_50 krA r7A a1 a4 t0 h)))
  generalize (400 : Nat) = f9
  refine zseg_e e (zcal_e _ _ ?_) (zorc_e _ _ ?_) hk (fun _ _ => rfl) f9 _ _ _ _
  · exact trivial
  · exact ⟨rfl, rfl, rfl, zap4_e (fun x0 x1 x2 x3 h => n_M_runBarrier_59 e hk h7 x0 x1 x2 x3 h), trivial⟩
set_option maxRecDepth 100000 in
set_option maxHeartbeats 0 in
theorem n_M_runBarrier_45 {ρ : Type} (e : zRes → Option ρ) {krA : Int → zH → Option ρ} {krZ : Int → zH → Option zRes} (hk : ∀ v h, (krZ v h).bind e = krA v h) {r7A : Int → Int → Int → Int → zH → Option ρ} {r7Z : Int → Int → Int → Int → zH → Option zRes} (h7 : ∀ (x0 x1 x2 x3 : Int) (h : zH), (r7Z x0 x1 x2 x3 h).bind e = r7A x0 x1 x2 x3 h) (a1 a4 : Int) (h : zH) : (M_runBarrier_45 krZ r7Z a1 a4 h).bind e = M_runBarrier_45 krA r7A a1 a4 h := by
  refine Eq.trans (congrArg (fun z => Option.bind z e) (qe_M_runBarrier_45 krZ r7Z a1 a4 h)) (Eq.trans ?_ (Eq.symm (qe_M_runBarrier_45 krA r7A a1 a4 h)))
  generalize (400 : Nat) = f9
  refine zseg_e e (zcal_e _ _ ?_) (zorc_e _ _ ?_) hk (fun _ _ => rfl) f9 _ _ _ _
  · exact trivial
  · exact ⟨rfl, rfl, rfl, zap3_e (fun x0 x1 x2 h => n_M_runBarrier_50 e hk h7 x0 x1 x2 h), trivial⟩
set_option maxRecDepth 100000 in
set_option maxHeartbeats 0 in
theorem n_M_runBarrier_49 {ρ : Type} (e : zRes → Option ρ) {krA : Int → zH → Option ρ} {krZ : Int → zH → Option zRes} (hk : ∀ v h, (krZ v h).bind e = krA v h) {r7A : Int → Int → Int → Int → zH → Option ρ} {r7Z : Int → Int → Int → Int → zH → Option zRes} (h7 : ∀ (x0 x1 x2 x3 : Int) (h : zH), (r7Z x0 x1 x2 x3 h).bind e = r7A x0 x1 x2 x3 h) (a1 a4 : Int) (h : zH) : (M_runBarrier_49 krZ r7Z a1 a4 h).bind e = M_runBarrier_49 krA r7A a1 a4 h := by
  refine Eq.trans (congrArg (fun z => Option.bind z e) (qe_M_runBarrier_49 krZ r7Z a1 a4 h)) (Eq.trans ?_ (Eq.symm (qe_M_runBarrier_49 krA r7A a1 a4 h)))
  generalize (400 : Nat) = f9
  refine zseg_e e (zcal_e _ _ ?_) (zorc_e _ _ ?_) hk (fun _ _ => rfl) f9 _ _ _ _
  · exact trivial
  · exact ⟨rfl, rfl, rfl, zap3_e (fun x0 x1 x2 h => n_M_runBarrier_50 e hk h7 x0 x1 x2 h), trivial⟩
set_option maxRecDepth 100000 in
set_option maxHeartbeats 0 in
theorem n_M_runBarrier_110 {ρ : Type} (e : zRes → Option ρ) {krA : Int → zH → Option ρ} {krZ : Int → zH → Option zRes} (hk : ∀ v h, (krZ v h).bind e = krA v h) {r68A : Int → Int → Int → Int → zH → Option ρ} {r68Z : Int → Int → Int → Int → zH → Option zRes} (h68 : ∀ (x0 x1 x2 x3 : Int) (h : zH), (r68Z x0 x1 x2 x3 h).bind e = r68A x0 x1 x2 x3 h) (a1 a2 a3 a4 : Int) (h : zH) : (M_runBarrier_110 krZ r68Z a1 a2 a3 a4 h).bind e = M_runBarrier_110 krA r68A a1 a2 a3 a4 h := by
  refine Eq.trans (congrArg (fun z => Option.bind z e) (qe_M_runBarrier_110 krZ r68Z a1 a2 a3 a4 h)) (Eq.trans ?_ (Eq.symm (qe_M_runBarrier_110 krA r68A a1 a2 a3 a4 h)))
  generalize (400 : Nat) = f9
  refine zseg_e e (zcal_e _ _ ?_) (zorc_e _ _ ?_) hk (fun _ _ => rfl) f9 _ _ _ _
  · exact trivial
  · exact ⟨rfl, rfl, rfl, zap4_e h68, trivial⟩
set_option maxRecDepth 100000 in
set_option maxHeartbeats 0 in
theorem n_M_runBarrier_137 {ρ : Type} (e : zRes → Option ρ) {krA : Int → zH → Option ρ} {krZ : Int → zH → Option zRes} (hk : ∀ v h, (krZ v h).bind e = krA v h) (t0 : Int) (h : zH) : (M_runBarrier_137 krZ t0 h).bind e = M_runBarrier_137 krA t0 h := by
  refine Eq.trans (congrArg (fun z => Option.bind z e) (qe_M_runBarrier_137 krZ t0 h)) (Eq.trans ?_ (Eq.symm (qe_M_runBarrier_137 krA t0 h)))
  generalize (400 : Nat) = f9
  refine zseg_e e (zcal_e _ _ ?_) (zorc_e _ _ ?_) hk (fun _ _ => rfl) f9 _ _ _ _
  · exact trivial
  · exact trivial
set_option maxRecDepth 100000 in
set_option maxHeartbeats 0 in
theorem n_M_runBarrier_116 {ρ : Type} (e : zRes → Option ρ) {krA : Int → zH → Option ρ} {krZ : Int → zH → Option zRes} (hk : ∀ v h, (krZ v h).bind e = krA v h) (a2 a3 : Int) (h : zH) : (M_runBarrier_116 krZ a2 a3 h).bind e = M_runBarrier_116 krA a2 a3 h := by
  refine Eq.trans (congrArg (fun z => Option.bind z e) (qe_M_runBarrier_116 krZ a2 a3 h)) (Eq.trans ?_ (Eq.symm (qe_M_runBarrier_116 krA a2 a3 h)))
  generalize (400 : Nat) = f9
  refine zseg_e e (zcal_e _ _ ?_) (zorc_e _ _ ?_) hk (fun _ _ => rfl) f9 _ _ _ _
  · exact trivial
  · exact ⟨rfl, rfl, rfl, zap1_e (fun x0 h => n_M_runBarrier_137 e hk x0 h), trivial⟩
set_option maxRecDepth 100000 in
set_option maxHeartbeats 0 in
theorem n_M_runBarrier_68b {ρ : Type} (e : zRes → Option ρ) {krA : Int → zH → Option ρ} {krZ : Int → zH → Option zRes} (hk : ∀ v h, (krZ v h).bind e = krA v h) {r68A : Int → Int → Int → Int → zH → Option ρ} {r68Z : Int → Int → Int → Int → zH → Option zRes} (h68 : ∀ (x0 x1 x2 x3 : Int) (h : zH), (r68Z x0 x1 x2 x3 h).bind e = r68A x0 x1 x2 x3 h) (a1 a2 a3 a4 : Int) (h : zH) : (M_runBarrier_68b krZ r68Z a1 a2 a3 a4 h).bind e = M_runBarrier_68b krA r68A a1 a2 a3 a4 h := by
  refine Eq.trans (congrArg (fun z => Option.bind z e) (qe_M_runBarrier_68b krZ r68Z a1 a2 a3 a4 h)) (Eq.trans ?_ (Eq.symm (qe_M_runBarrier_68b krA r68A a1 a2 a3 a4 h)))
  generalize (400 : Nat) = f9
  refine zseg_e e (zcal_e _ _ ?_) (zorc_e _ _ ?_) hk (fun _ _ => rfl) f9 _ _ _ _
  · exact trivial
  · exact ⟨rfl, rfl, rfl, zap4_e (fun x0 x1 x2 x3 h => n_M_runBarrier_110 e hk h68 x0 x1 x2 x3 h), ⟨rfl, rfl, rfl, zap2_e (fun x0 x1 h => n_M_runBarrier_116 e hk x0 x1 h), trivial⟩⟩
theorem n_M_runBarrier_68 {ρ : Type} (e : zRes → Option ρ) {krA : Int → zH → Option ρ} {krZ : Int → zH → Option zRes} (hk : ∀ v h, (krZ v h).bind e = krA v h) (a1 a2 a3 a4 : Int) (h : zH) : (M_runBarrier_68 krZ a1 a2 a3 a4 h).bind e = M_runBarrier_68 krA a1 a2 a3 a4 h := zit4_e (fun rA rZ hh a1 a2 a3 a4 h => n_M_runBarrier_68b e hk hh a1 a2 a3 a4 h) zN a1 a2 a3 a4 h
set_option maxRecDepth 100000 in
set_option maxHeartbeats 0 in
theorem n_M_runBarrier_7b {ρ : Type} (e : zRes → Option ρ) {krA : Int → zH → Option ρ} {krZ : Int → zH → Option zRes} (hk : ∀ v h, (krZ v h).bind e = krA v h) {r7A : Int → Int → Int → Int → zH → Option ρ} {r7Z : Int → Int → Int → Int → zH → Option zRes} (h7 : ∀ (x0 x1 x2 x3 : Int) (h : zH), (r7Z x0 x1 x2 x3 h).bind e = r7A x0 x1 x2 x3 h) (a1 a2 a3 a4 : Int) (h : zH) : (M_runBarrier_7b krZ r7Z a1 a2 a3 a4 h).bind e = M_runBarrier_7b krA r7A a1 a2 a3 a4 h := by
  refine Eq.trans (congrArg (fun z => Option.bind z e) (qe_M_runBarrier_7b krZ r7Z a1 a2 a3 a4 h)) (Eq.trans ?_ (Eq.symm (qe_M_runBarrier_7b krA r7A a1 a2 a3 a4 h)))
  generalize (400 : Nat) = f9
  refine zseg_e e (zcal_e _ _ ?_) (zorc_e _ _ ?_) hk (fun _ _ => rfl) f9 _ _ _ _
  · exact trivial
  · exact ⟨rfl, rfl, rfl, zap2_e (fun x0 x1 h => n_M_runBarrier_45 e hk h7 x0 x1 h), ⟨rfl, rfl, rfl, zap2_e (fun x0 x1 h => n_M_runBarrier_49 e hk h7 x0 x1 h), ⟨rfl, rfl, rfl, zap4_e (fun x0 x1 x2 x3 h => n_M_runBarrier_59 e hk h7 x0 x1 x2 x3 h), ⟨rfl, rfl, rfl, zap4_e (fun x0 x1 x2 x3 h => n_M_runBarrier_68 e hk x0 x1 x2 x3 h), trivial⟩⟩⟩⟩
theorem n_M_runBarrier_7 {ρ : Type} (e : zRes → Option ρ) {krA : Int → zH → Option ρ} {krZ : Int → zH → Option zRes} (hk : ∀ v h, (krZ v h).bind e = krA v h) (a1 a2 a3 a4 : Int) (h : zH) : (M_runBarrier_7 krZ a1 a2 a3 a4 h).bind e = M_runBarrier_7 krA a1 a2 a3 a4 h := zit4_e (fun rA rZ hh a1 a2 a3 a4 h => n_M_runBarrier_7b e hk hh a1 a2 a3 a4 h) zN a1 a2 a3 a4 h
set_option maxRecDepth 100000 in
set_option maxHeartbeats 0 in
theorem n_M_runBarrier {ρ : Type} (e : zRes → Option ρ) {krA : Int → zH → Option ρ} {krZ : Int → zH → Option zRes} (hk : ∀ v h, (krZ v h).bind e = krA v h) (a1 : Int) (h : zH) : (M_runBarrier a1 h krZ).bind e = M_runBarrier a1 h krA := by
  refine Eq.trans (congrArg (fun z => Option.bind z e) (qe_M_runBarrier krZ a1 h)) (Eq.trans ?_ (Eq.symm (qe_M_runBarrier krA a1 h)))
  generalize (400 : Nat) = f9
  refine zseg_e e (zcal_e _ _ ?_) (zorc_e _ _ ?_) hk (fun _ _ => rfl) f9 _ _ _ _
  · exact trivial
  · exact ⟨rfl, rfl, rfl, zap4_e (fun x0 x1 x2 x3 h => n_M_runBarrier_7 e hk x0 x1 x2 x3 h), trivial⟩
set_option maxRecDepth 100000 in
set_option maxHeartbeats 0 in
theorem n_M_runBlock_46b {ρ : Type} (e : zRes → Option ρ) {krA : Int → zH → Option ρ} {krZ : Int → zH → Option zRes} (hk : ∀ v h, (krZ v h).bind e = krA v h) {r3A : Int → Int → Int → Int → Int → zH → Option ρ} {r3Z : Int → Int → Int → Int → Int → zH → Option zRes} (h3 : ∀ (x0 x1 x2 x3 x4 : Int) (h : zH), (r3Z x0 x1 x2 x3 x4 h).bind e = r3A x0 x1 x2 x3 x4 h) {r46A : Int → Int → Int → Int → Int → Int → zH → Option ρ} {r46Z : Int → Int → Int → Int → Int → Int → zH → Option zRes} (h46 : ∀ (x0 x1 x2 x3 x4 x5 : Int) (h : zH), (r46Z x0 x1 x2 x3 x4 x5 h).bind e = r46A x0 x1 x2 x3 x4 x5 h) (a1 a2 a3 a4 a5 a6 : Int) (h : zH) : (M_runBlock_46b krZ r3Z r46Z a1 a2 a3 a4 a5 a6 h).bind e = M_runBlock_46b krA r3A r46A a1 a2 a3 a4 a5 a6 h := by
  refine Eq.trans (congrArg (fun z => Option.bind z e) (qe_M_runBlock_46b krZ r3Z r46Z a1 a2 a3 a4 a5 a6 h)) (Eq.trans ?_ (Eq.symm (qe_M_runBlock_46b krA r3A r46A a1 a2 a3 a4 a5 a6 h)))
  generalize (400 : Nat) = f9
  refine zseg_e e (zcal_e _ _ ?_) (zorc_e _ _ ?_) hk (fun _ _ => rfl) f9 _ _ _ _
  · exact trivial
  · exact ⟨rfl, rfl, rfl, zap5_e h3, ⟨rfl, rfl, rfl, zap6_e h46, trivial⟩⟩
theorem n_M_runBlock_46 {ρ : Type} (e : zRes → Option ρ) {krA : Int → zH → Option ρ} {krZ : Int → zH → Option zRes} (hk : ∀ v h, (krZ v h).bind e = krA v h) {r3A : Int → Int → Int → Int → Int → zH → Option ρ} {r3Z : Int → Int → Int → Int → Int → zH → Option zRes} (h3 : ∀ (x0 x1 x2 x3 x4 : Int) (h : zH), (r3Z x0 x1 x2 x3 x4 h).bind e = r3A x0 x1 x2 x3 x4 h) (a1 a2 a3 a4 a5 a6 : Int) (h : zH) : (M_runBlock_46 krZ r3Z a1 a2 a3 a4 a5 a6 h).bind e = M_runBlock_46 krA r3A a1 a2 a3 a4 a5 a6 h := zit6_e (fun rA rZ hh a1 a2 a3 a4 a5 a6 h => n_M_runBlock_46b e hk h3 hh a1 a2 a3 a4 a5 a6 h) zN a1 a2 a3 a4 a5 a6 h
set_option maxRecDepth 100000 in
set_option maxHeartbeats 0 in
theorem n_M_runBlock_115 {ρ : Type} (e : zRes → Option ρ) {krA : Int → zH → Option ρ} {krZ : Int → zH → Option zRes} (hk : ∀ v h, (krZ v h).bind e = krA v h) {r83A : Int → Int → Int → Int → Int → zH → Option ρ} {r83Z : Int → Int → Int → Int → Int → zH → Option zRes} (h83 : ∀ (x0 x1 x2 x3 x4 : Int) (h : zH), (r83Z x0 x1 x2 x3 x4 h).bind e = r83A x0 x1 x2 x3 x4 h) {r93A : Int → Int → Int → Int → Int → zH → Option ρ} {r93Z : Int → Int → Int → Int → Int → zH → Option zRes} (h93 : ∀ (x0 x1 x2 x3 x4 : Int) (h : zH), (r93Z x0 x1 x2 x3 x4 h).bind e = r93A x0 x1 x2 x3 x4 h) (a1 a2 a3 a4 a6 t0 : Int) (h : zH) : (M_runBlock_115 krZ r83Z r93Z a1 a2 a3 a4 a6 t0 h).bind e = M_runBlock_115 krA r83A r93A a1 a2 a3 a4 a6 t0 h := by
  refine Eq.trans (congrArg (fun z => Option.bind z e) (qe_M_runBlock_115 krZ r83Z r93Z a1 a2 a3 a4 a6 t0 h)) (Eq.trans ?_ (Eq.symm (qe_M_runBlock_115 krA r83A r93A a1 a2 a3 a4 a6 t0 h)))
  generalize (400 : Nat) = f9
  refine zseg_e e (zcal_e _ _ ?_) (zorc_e _ _ ?_) hk (fun _ _ => rfl) f9 _ _ _ _
  · exact ⟨rfl, rfl, zca3_e (fun x0 x1 x2 h k t => n_M_runThread e (fun _ _ => rfl) x0 x1 x2 h), trivial⟩
  · exact ⟨rfl, rfl, rfl, zap5_e h93, trivial⟩
set_option maxRecDepth 100000 in
set_option maxHeartbeats 0 in
theorem n_M_runBlock_93b {ρ : Type} (e : zRes → Option ρ) {krA : Int → zH → Option ρ} {krZ : Int → zH → Option zRes} (hk : ∀ v h, (krZ v h).bind e = krA v h) {r83A : Int → Int → Int → Int → Int → zH → Option ρ} {r83Z : Int → Int → Int → Int → Int → zH → Option zRes} (h83 : ∀ (x0 x1 x2 x3 x4 : Int) (h : zH), (r83Z x0 x1 x2 x3 x4 h).bind e = r83A x0 x1 x2 x3 x4 h) {r93A : Int → Int → Int → Int → Int → zH → Option ρ} {r93Z : Int → Int → Int → Int → Int → zH → Option zRes} (h93 : ∀ (x0 x1 x2 x3 x4 : Int) (h : zH), (r93Z x0 x1 x2 x3 x4 h).bind e = r93A x0 x1 x2 x3 x4 h) (a1 a2 a3 a4 a6 : Int) (h : zH) : (M_runBlock_93b krZ r83Z r93Z a1 a2 a3 a4 a6 h).bind e = M_runBlock_93b krA r83A r93A a1 a2 a3 a4 a6 h := by
  refine Eq.trans (congrArg (fun z => Option.bind z e) (qe_M_runBlock_93b krZ r83Z r93Z a1 a2 a3 a4 a6 h)) (Eq.trans ?_ (Eq.symm (qe_M_runBlock_93b krA r83A r93A a1 a2 a3 a4 a6 h)))
  generalize (400 : Nat) = f9
  refine zseg_e e (zcal_e _ _ ?_) (zorc_e _ _ ?_) hk (fun _ _ => rfl) f9 _ _ _ _
  · exact ⟨rfl, rfl, zca1_e (fun x0 h k t => n_M_runBarrier e (fun _ _ => rfl) x0 h), trivial⟩
  · exact ⟨rfl, rfl, rfl, zap5_e h83, ⟨rfl, rfl, rfl, zap6_e (fun x0 x1 x2 x3 x4 x5 h => n_M_runBlock_115 e hk h83 h93 x0 x1 x2 x3 x4 x5 h), trivial⟩⟩
theorem n_M_runBlock_93 {ρ : Type} (e : zRes → Option ρ) {krA : Int → zH → Option ρ} {krZ : Int → zH → Option zRes} (hk : ∀ v h, (krZ v h).bind e = krA v h) {r83A : Int → Int → Int → Int → Int → zH → Option ρ} {r83Z : Int → Int → Int → Int → Int → zH → Option zRes} (h83 : ∀ (x0 x1 x2 x3 x4 : Int) (h : zH), (r83Z x0 x1 x2 x3 x4 h).bind e = r83A x0 x1 x2 x3 x4 h) (a1 a2 a3 a4 a6 : Int) (h : zH) : (M_runBlock_93 krZ r83Z a1 a2 a3 a4 a6 h).bind e = M_runBlock_93 krA r83A a1 a2 a3 a4 a6 h := zit5_e (fun rA rZ hh a1 a2 a3 a4 a6 h => n_M_runBlock_93b e hk h83 hh a1 a2 a3 a4 a6 h) zN a1 a2 a3 a4 a6 h
set_option maxRecDepth 100000 in
set_option maxHeartbeats 0 in
theorem n_M_runBlock_158 {ρ : Type} (e : zRes → Option ρ) {krA : Int → zH → Option ρ} {krZ : Int → zH → Option zRes} (hk : ∀ v h, (krZ v h).bind e = krA v h) (t0 : Int) (h : zH) : (M_runBlock_158 krZ t0 h).bind e = M_runBlock_158 krA t0 h := by
  refine Eq.trans (congrArg (fun z => Option.bind z e) (qe_M_runBlock_158 krZ t0 h)) (Eq.trans ?_ (Eq.symm (qe_M_runBlock_158 krA t0 h)))
  generalize (400 : Nat) = f9
  refine zseg_e e (zcal_e _ _ ?_) (zorc_e _ _ ?_) hk (fun _ _ => rfl) f9 _ _ _ _
  · exact trivial
  · exact trivial
set_option maxRecDepth 100000 in
set_option maxHeartbeats 0 in
theorem n_M_runBlock_83b {ρ : Type} (e : zRes → Option ρ) {krA : Int → zH → Option ρ} {krZ : Int → zH → Option zRes} (hk : ∀ v h, (krZ v h).bind e = krA v h) {r83A : Int → Int → Int → Int → Int → zH → Option ρ} {r83Z : Int → Int → Int → Int → Int → zH → Option zRes} (h83 : ∀ (x0 x1 x2 x3 x4 : Int) (h : zH), (r83Z x0 x1 x2 x3 x4 h).bind e = r83A x0 x1 x2 x3 x4 h) (a1 a2 a3 a4 a5 : Int) (h : zH) : (M_runBlock_83b krZ r83Z a1 a2 a3 a4 a5 h).bind e = M_runBlock_83b krA r83A a1 a2 a3 a4 a5 h := by
  refine Eq.trans (congrArg (fun z => Option.bind z e) (qe_M_runBlock_83b krZ r83Z a1 a2 a3 a4 a5 h)) (Eq.trans ?_ (Eq.symm (qe_M_runBlock_83b krA r83A a1 a2 a3 a4 a5 h)))
  generalize (400 : Nat) = f9
  refine zseg_e e (zcal_e _ _ ?_) (zorc_e _ _ ?_) hk (fun _ _ => rfl) f9 _ _ _ _
  · exact trivial
  · exact ⟨rfl, rfl, rfl, zap5_e (fun x0 x1 x2 x3 x4 h => n_M_runBlock_93 e hk h83 x0 x1 x2 x3 x4 h), ⟨rfl, rfl, rfl, zap1_e (fun x0 h => n_M_runBlock_158 e hk x0 h), trivial⟩⟩
theorem n_M_runBlock_83 {ρ : Type} (e : zRes → Option ρ) {krA : Int → zH → Option ρ} {krZ : Int → zH → Option zRes} (hk : ∀ v h, (krZ v h).bind e = krA v h) (a1 a2 a3 a4 a5 : Int) (h : zH) : (M_runBlock_83 krZ a1 a2 a3 a4 a5 h).bind e = M_runBlock_83 krA a1 a2 a3 a4 a5 h := zit5_e (fun rA rZ hh a1 a2 a3 a4 a5 h => n_M_runBlock_83b e hk hh a1 a2 a3 a4 a5 h) zN a1 a2 a3 a4 a5 h
set_option maxRecDepth 100000 in
set_option maxHeartbeats 0 in
theorem n_M_runBlock_3b {ρ : Type} (e : zRes → Option ρ) {krA : Int → zH → Option ρ} {krZ : Int → zH → Option zRes} (hk : ∀ v h, (krZ v h).bind e = krA v h) {r3A : Int → Int → Int → Int → Int → zH → Option ρ} {r3Z : Int → Int → Int → Int → Int → zH → Option zRes} (h3 : ∀ (x0 x1 x2 x3 x4 : Int) (h : zH), (r3Z x0 x1 x2 x3 x4 h).bind e = r3A x0 x1 x2 x3 x4 h) (a1 a2 a3 a4 a5 : Int) (h : zH) : (M_runBlock_3b krZ r3Z a1 a2 a3 a4 a5 h).bind e = M_runBlock_3b krA r3A a1 a2 a3 a4 a5 h := by
  refine Eq.trans (congrArg (fun z => Option.bind z e) (qe_M_runBlock_3b krZ r3Z a1 a2 a3 a4 a5 h)) (Eq.trans ?_ (Eq.symm (qe_M_runBlock_3b krA r3A a1 a2 a3 a4 a5 h)))
  generalize (400 : Nat) = f9
  refine zseg_e e (zcal_e _ _ ?_) (zorc_e _ _ ?_) hk (fun _ _ => rfl) f9 _ _ _ _
  · exact trivial
  · exact ⟨rfl, rfl, rfl, zap6_e (fun x0 x1 x2 x3 x4 x5 h => n_M_runBlock_46 e hk h3 x0 x1 x2 x3 x4 x5 h), ⟨rfl, rfl, rfl, zap5_e (fun x0 x1 x2 x3 x4 h => n_M_runBlock_83 e hk x0 x1 x2 x3 x4 h), trivial⟩⟩
theorem n_M_runBlock_3 {ρ : Type} (e : zRes → Option ρ) {krA : Int → zH → Option ρ} {krZ : Int → zH → Option zRes} (hk : ∀ v h, (krZ v h).bind e = krA v h) (a1 a2 a3 a4 a5 : Int) (h : zH) : (M_runBlock_3 krZ a1 a2 a3 a4 a5 h).bind e = M_runBlock_3 krA a1 a2 a3 a4 a5 h := zit5_e (fun rA rZ hh a1 a2 a3 a4 a5 h => n_M_runBlock_3b e hk hh a1 a2 a3 a4 a5 h) zN a1 a2 a3 a4 a5 h
set_option maxRecDepth 100000 in
set_option maxHeartbeats 0 in
theorem n_M_runBlock {ρ : Type} (e : zRes → Option ρ) {krA : Int → zH → Option ρ} {krZ : Int → zH → Option zRes} (hk : ∀ v h, (krZ v h).bind e = krA v h) (a1 a2 a3 a4 : Int) (h : zH) : (M_runBlock a1 a2 a3 a4 h krZ).bind e = M_runBlock a1 a2 a3 a4 h krA := by
  refine Eq.trans (congrArg (fun z => Option.bind z e) (qe_M_runBlock krZ a1 a2 a3 a4 h)) (Eq.trans ?_ (Eq.symm (qe_M_runBlock krA a1 a2 a3 a4 h)))
  generalize (400 : Nat) = f9
  refine zseg_e e (zcal_e _ _ ?_) (zorc_e _ _ ?_) hk (fun _ _ => rfl) f9 _ _ _ _
  · exact trivial
  · exact ⟨rfl, rfl, rfl, zap5_e (fun x0 x1 x2 x3 x4 h => n_M_runBlock_3 e hk x0 x1 x2 x3 x4 h), trivial⟩
set_option maxRecDepth 100000 in
set_option maxHeartbeats 0 in
theorem n_M_serial_67 {ρ : Type} (e : zRes → Option ρ) {krA : Int → zH → Option ρ} {krZ : Int → zH → Option zRes} (hk : ∀ v h, (krZ v h).bind e = krA v h) (h : zH) : (M_serial_67 krZ h).bind e = M_serial_67 krA h := by
  refine Eq.trans (congrArg (fun z => Option.bind z e) (qe_M_serial_67 krZ h)) (Eq.trans ?_ (Eq.symm (qe_M_serial_67 krA h)))
  generalize (400 : Nat) = f9
  refine zseg_e e (zcal_e _ _ ?_) (zorc_e _ _ ?_) hk (fun _ _ => rfl) f9 _ _ _ _
  · exact trivial
  · exact trivial
set_option maxRecDepth 100000 in
set_option maxHeartbeats 0 in
theorem n_M_serial_140 {ρ : Type} (e : zRes → Option ρ) {krA : Int → zH → Option ρ} {krZ : Int → zH → Option zRes} (hk : ∀ v h, (krZ v h).bind e = krA v h) {r78A : Int → Int → Int → Int → Int → Int → Int → zH → Option ρ} {r78Z : Int → Int → Int → Int → Int → Int → Int → zH → Option zRes} (h78 : ∀ (x0 x1 x2 x3 x4 x5 x6 : Int) (h : zH), (r78Z x0 x1 x2 x3 x4 x5 x6 h).bind e = r78A x0 x1 x2 x3 x4 x5 x6 h) (a1 a2 a3 a4 a5 a7 t0 : Int) (h : zH) : (M_serial_140 krZ r78Z a1 a2 a3 a4 a5 a7 t0 h).bind e = M_serial_140 krA r78A a1 a2 a3 a4 a5 a7 t0 h := by
  refine Eq.trans (congrArg (fun z => Option.bind z e) (qe_M_serial_140 krZ r78Z a1 a2 a3 a4 a5 a7 t0 h)) (Eq.trans ?_ (Eq.symm (qe_M_serial_140 krA r78A a1 a2 a3 a4 a5 a7 t0 h)))
  generalize (400 : Nat) = f9
  refine zseg_e e (zcal_e _ _ ?_) (zorc_e _ _ ?_) hk (fun _ _ => rfl) f9 _ _ _ _
  · exact trivial
  · exact ⟨rfl, rfl, rfl, zap7_e h78, trivial⟩
set_option maxRecDepth 100000 in
set_option maxHeartbeats 0 in
theorem n_M_serial_135 {ρ : Type} (e : zRes → Option ρ) {krA : Int → zH → Option ρ} {krZ : Int → zH → Option zRes} (hk : ∀ v h, (krZ v h).bind e = krA v h) {r78A : Int → Int → Int → Int → Int → Int → Int → zH → Option ρ} {r78Z : Int → Int → Int → Int → Int → Int → Int → zH → Option zRes} (h78 : ∀ (x0 x1 x2 x3 x4 x5 x6 : Int) (h : zH), (r78Z x0 x1 x2 x3 x4 x5 x6 h).bind e = r78A x0 x1 x2 x3 x4 x5 x6 h) (a1 a2 a3 a4 a5 a7 : Int) (h : zH) : (M_serial_135 krZ r78Z a1 a2 a3 a4 a5 a7 h).bind e = M_serial_135 krA r78A a1 a2 a3 a4 a5 a7 h := by
  refine Eq.trans (congrArg (fun z => Option.bind z e) (qe_M_serial_135 krZ r78Z a1 a2 a3 a4 a5 a7 h)) (Eq.trans ?_ (Eq.symm (qe_M_serial_135 krA r78A a1 a2 a3 a4 a5 a7 h)))
  generalize (400 : Nat) = f9
  refine zseg_e e (zcal_e _ _ ?_) (zorc_e _ _ ?_) hk (fun _ _ => rfl) f9 _ _ _ _
  · exact trivial
  · exact ⟨rfl, rfl, rfl, zap7_e (fun x0 x1 x2 x3 x4 x5 x6 h => n_M_serial_140 e hk h78 x0 x1 x2 x3 x4 x5 x6 h), trivial⟩
set_option maxRecDepth 100000 in
set_option maxHeartbeats 0 in
theorem n_M_serial_225 {ρ : Type} (e : zRes → Option ρ) {krA : Int → zH → Option ρ} {krZ : Int → zH → Option zRes} (hk : ∀ v h, (krZ v h).bind e = krA v h) {r196A : Int → Int → Int → Int → Int → Int → Int → zH → Option ρ} {r196Z : Int → Int → Int → Int → Int → Int → Int → zH → Option zRes} (h196 : ∀ (x0 x1 x2 x3 x4 x5 x6 : Int) (h : zH), (r196Z x0 x1 x2 x3 x4 x5 x6 h).bind e = r196A x0 x1 x2 x3 x4 x5 x6 h) (a1 a2 a3 a4 a5 a8 t0 t1 : Int) (h : zH) : (M_serial_225 krZ r196Z a1 a2 a3 a4 a5 a8 t0 t1 h).bind e = M_serial_225 krA r196A a1 a2 a3 a4 a5 a8 t0 t1 h := by
  refine Eq.trans (congrArg (fun z => Option.bind z e) (qe_M_serial_225 krZ r196Z a1 a2 a3 a4 a5 a8 t0 t1 h)) (Eq.trans ?_ (Eq.symm (qe_M_serial_225 krA r196A a1 a2 a3 a4 a5 a8 t0 t1 h)))
  generalize (400 : Nat) = f9
  refine zseg_e e (zcal_e _ _ ?_) (zorc_e _ _ ?_) hk (fun _ _ => rfl) f9 _ _ _ _
  · exact ⟨rfl, rfl, zca4_e (fun x0 x1 x2 x3 h k t => n_M_runBlock e (fun _ _ => rfl) x0 x1 x2 x3 h), trivial⟩
  · exact ⟨rfl, rfl, rfl, zap7_e h196, trivial⟩
set_option maxRecDepth 100000 in
set_option maxHeartbeats 0 in
theorem n_M_serial_268 {ρ : Type} (e : zRes → Option ρ) {krA : Int → zH → Option ρ} {krZ : Int → zH → Option zRes} (hk : ∀ v h, (krZ v h).bind e = krA v h) (t0 : Int) (h : zH) : (M_serial_268 krZ t0 h).bind e = M_serial_268 krA t0 h := by
  refine Eq.trans (congrArg (fun z => Option.bind z e) (qe_M_serial_268 krZ t0 h)) (Eq.trans ?_ (Eq.symm (qe_M_serial_268 krA t0 h)))
  generalize (400 : Nat) = f9
  refine zseg_e e (zcal_e _ _ ?_) (zorc_e _ _ ?_) hk (fun _ _ => rfl) f9 _ _ _ _
  · exact trivial
  · exact trivial
set_option maxRecDepth 100000 in
set_option maxHeartbeats 0 in
theorem n_M_serial_250 {ρ : Type} (e : zRes → Option ρ) {krA : Int → zH → Option ρ} {krZ : Int → zH → Option zRes} (hk : ∀ v h, (krZ v h).bind e = krA v h) (a5 t0 : Int) (h : zH) : (M_serial_250 krZ a5 t0 h).bind e = M_serial_250 krA a5 t0 h := by
  refine Eq.trans (congrArg (fun z => Option.bind z e) (qe_M_serial_250 krZ a5 t0 h)) (Eq.trans ?_ (Eq.symm (qe_M_serial_250 krA a5 t0 h)))
  generalize (400 : Nat) = f9
  refine zseg_e e (zcal_e _ _ ?_) (zorc_e _ _ ?_) hk (fun _ _ => rfl) f9 _ _ _ _
  · exact ⟨rfl, rfl, zca2_e (fun x0 x1 h k t => n_M_fails e (fun _ _ => rfl) x0 x1 h), trivial⟩
  · exact ⟨rfl, rfl, rfl, zap1_e (fun x0 h => n_M_serial_268 e hk x0 h), trivial⟩
set_option maxRecDepth 100000 in
set_option maxHeartbeats 0 in
theorem n_M_serial_239 {ρ : Type} (e : zRes → Option ρ) {krA : Int → zH → Option ρ} {krZ : Int → zH → Option zRes} (hk : ∀ v h, (krZ v h).bind e = krA v h) (a5 a7 : Int) (h : zH) : (M_serial_239 krZ a5 a7 h).bind e = M_serial_239 krA a5 a7 h := by
  refine Eq.trans (congrArg (fun z => Option.bind z e) (qe_M_serial_239 krZ a5 a7 h)) (Eq.trans ?_ (Eq.symm (qe_M_serial_239 krA a5 a7 h)))
  generalize (400 : Nat) = f9
  refine zseg_e e (zcal_e _ _ ?_) (zorc_e _ _ ?_) hk (fun _ _ => rfl) f9 _ _ _ _
  · exact trivial
  · exact ⟨rfl, rfl, rfl, zap2_e (fun x0 x1 h => n_M_serial_250 e hk x0 x1 h), trivial⟩
set_option maxRecDepth 100000 in
set_option maxHeartbeats 0 in
theorem n_M_serial_196b {ρ : Type} (e : zRes → Option ρ) {krA : Int → zH → Option ρ} {krZ : Int → zH → Option zRes} (hk : ∀ v h, (krZ v h).bind e = krA v h) {r196A : Int → Int → Int → Int → Int → Int → Int → zH → Option ρ} {r196Z : Int → Int → Int → Int → Int → Int → Int → zH → Option zRes} (h196 : ∀ (x0 x1 x2 x3 x4 x5 x6 : Int) (h : zH), (r196Z x0 x1 x2 x3 x4 x5 x6 h).bind e = r196A x0 x1 x2 x3 x4 x5 x6 h) (a1 a2 a3 a4 a5 a7 a8 : Int) (h : zH) : (M_serial_196b krZ r196Z a1 a2 a3 a4 a5 a7 a8 h).bind e = M_serial_196b krA r196A a1 a2 a3 a4 a5 a7 a8 h := by
  refine Eq.trans (congrArg (fun z => Option.bind z e) (qe_M_serial_196b krZ r196Z a1 a2 a3 a4 a5 a7 a8 h)) (Eq.trans ?_ (Eq.symm (qe_M_serial_196b krA r196A a1 a2 a3 a4 a5 a7 a8 h)))
  generalize (400 : Nat) = f9
  refine zseg_e e (zcal_e _ _ ?_) (zorc_e _ _ ?_) hk (fun _ _ => rfl) f9 _ _ _ _
  · exact trivial
  · exact ⟨rfl, rfl, rfl, zap8_e (fun x0 x1 x2 x3 x4 x5 x6 x7 h => n_M_serial_225 e hk h196 x0 x1 x2 x3 x4 x5 x6 x7 h), ⟨rfl, rfl, rfl, zap2_e (fun x0 x1 h => n_M_serial_239 e hk x0 x1 h), trivial⟩⟩
theorem n_M_serial_196 {ρ : Type} (e : zRes → Option ρ) {krA : Int → zH → Option ρ} {krZ : Int → zH → Option zRes} (hk : ∀ v h, (krZ v h).bind e = krA v h) (a1 a2 a3 a4 a5 a7 a8 : Int) (h : zH) : (M_serial_196 krZ a1 a2 a3 a4 a5 a7 a8 h).bind e = M_serial_196 krA a1 a2 a3 a4 a5 a7 a8 h := zit7_e (fun rA rZ hh a1 a2 a3 a4 a5 a7 a8 h => n_M_serial_196b e hk hh a1 a2 a3 a4 a5 a7 a8 h) zN a1 a2 a3 a4 a5 a7 a8 h
set_option maxRecDepth 100000 in
set_option maxHeartbeats 0 in
theorem n_M_serial_163b {ρ : Type} (e : zRes → Option ρ) {krA : Int → zH → Option ρ} {krZ : Int → zH → Option zRes} (hk : ∀ v h, (krZ v h).bind e = krA v h) {r163A : Int → Int → Int → Int → Int → Int → zH → Option ρ} {r163Z : Int → Int → Int → Int → Int → Int → zH → Option zRes} (h163 : ∀ (x0 x1 x2 x3 x4 x5 : Int) (h : zH), (r163Z x0 x1 x2 x3 x4 x5 h).bind e = r163A x0 x1 x2 x3 x4 x5 h) (a1 a2 a3 a4 a5 a7 : Int) (h : zH) : (M_serial_163b krZ r163Z a1 a2 a3 a4 a5 a7 h).bind e = M_serial_163b krA r163A a1 a2 a3 a4 a5 a7 h := by
  refine Eq.trans (congrArg (fun z => Option.bind z e) (qe_M_serial_163b krZ r163Z a1 a2 a3 a4 a5 a7 h)) (Eq.trans ?_ (Eq.symm (qe_M_serial_163b krA r163A a1 a2 a3 a4 a5 a7 h)))
  generalize (400 : Nat) = f9
  refine zseg_e e (zcal_e _ _ ?_) (zorc_e _ _ ?_) hk (fun _ _ => rfl) f9 _ _ _ _
  · exact trivial
  · exact ⟨rfl, rfl, rfl, zap6_e h163, ⟨rfl, rfl, rfl, zap7_e (fun x0 x1 x2 x3 x4 x5 x6 h => n_M_serial_196 e hk x0 x1 x2 x3 x4 x5 x6 h), trivial⟩⟩
theorem n_M_serial_163 {ρ : Type} (e : zRes → Option ρ) {krA : Int → zH → Option ρ} {krZ : Int → zH → Option zRes} (hk : ∀ v h, (krZ v h).bind e = krA v h) (a1 a2 a3 a4 a5 a7 : Int) (h : zH) : (M_serial_163 krZ a1 a2 a3 a4 a5 a7 h).bind e = M_serial_163 krA a1 a2 a3 a4 a5 a7 h := zit6_e (fun rA rZ hh a1 a2 a3 a4 a5 a7 h => n_M_serial_163b e hk hh a1 a2 a3 a4 a5 a7 h) zN a1 a2 a3 a4 a5 a7 h
set_option maxRecDepth 100000 in
set_option maxHeartbeats 0 in
theorem n_M_serial_78b {ρ : Type} (e : zRes → Option ρ) {krA : Int → zH → Option ρ} {krZ : Int → zH → Option zRes} (hk : ∀ v h, (krZ v h).bind e = krA v h) {r78A : Int → Int → Int → Int → Int → Int → Int → zH → Option ρ} {r78Z : Int → Int → Int → Int → Int → Int → Int → zH → Option zRes} (h78 : ∀ (x0 x1 x2 x3 x4 x5 x6 : Int) (h : zH), (r78Z x0 x1 x2 x3 x4 x5 x6 h).bind e = r78A x0 x1 x2 x3 x4 x5 x6 h) (a1 a2 a3 a4 a5 a6 a7 : Int) (h : zH) : (M_serial_78b krZ r78Z a1 a2 a3 a4 a5 a6 a7 h).bind e = M_serial_78b krA r78A a1 a2 a3 a4 a5 a6 a7 h := by
  refine Eq.trans (congrArg (fun z => Option.bind z e) (qe_M_serial_78b krZ r78Z a1 a2 a3 a4 a5 a6 a7 h)) (Eq.trans ?_ (Eq.symm (qe_M_serial_78b krA r78A a1 a2 a3 a4 a5 a6 a7 h)))
  generalize (400 : Nat) = f9
  refine zseg_e e (zcal_e _ _ ?_) (zorc_e _ _ ?_) hk (fun _ _ => rfl) f9 _ _ _ _
  · exact ⟨rfl, rfl, zca2_e (fun x0 x1 h k t => n_M_fails e (fun _ _ => rfl) x0 x1 h), trivial⟩
  · exact ⟨rfl, rfl, rfl, zap6_e (fun x0 x1 x2 x3 x4 x5 h => n_M_serial_135 e hk h78 x0 x1 x2 x3 x4 x5 h), ⟨rfl, rfl, rfl, zap7_e (fun x0 x1 x2 x3 x4 x5 x6 h => n_M_serial_140 e hk h78 x0 x1 x2 x3 x4 x5 x6 h), ⟨rfl, rfl, rfl, zap6_e (fun x0 x1 x2 x3 x4 x5 h => n_M_serial_163 e hk x0 x1 x2 x3 x4 x5 h), trivial⟩⟩⟩
theorem n_M_serial_78 {ρ : Type} (e : zRes → Option ρ) {krA : Int → zH → Option ρ} {krZ : Int → zH → Option zRes} (hk : ∀ v h, (krZ v h).bind e = krA v h) (a1 a2 a3 a4 a5 a6 a7 : Int) (h : zH) : (M_serial_78 krZ a1 a2 a3 a4 a5 a6 a7 h).bind e = M_serial_78 krA a1 a2 a3 a4 a5 a6 a7 h := zit7_e (fun rA rZ hh a1 a2 a3 a4 a5 a6 a7 h => n_M_serial_78b e hk hh a1 a2 a3 a4 a5 a6 a7 h) zN a1 a2 a3 a4 a5 a6 a7 h
set_option maxRecDepth 100000 in
set_option maxHeartbeats 0 in
theorem n_M_serial_60 {ρ : Type} (e : zRes → Option ρ) {krA : Int → zH → Option ρ} {krZ : Int → zH → Option zRes} (hk : ∀ v h, (krZ v h).bind e = krA v h) (a1 a2 a3 a4 a5 t0 : Int) (h : zH) : (M_serial_60 krZ a1 a2 a3 a4 a5 t0 h).bind e = M_serial_60 krA a1 a2 a3 a4 a5 t0 h := by
  refine Eq.trans (congrArg (fun z => Option.bind z e) (qe_M_serial_60 krZ a1 a2 a3 a4 a5 t0 h)) (Eq.trans ?_ (Eq.symm (qe_M_serial_60 krA a1 a2 a3 a4 a5 t0 h)))
  generalize (400 : Nat) = f9
  refine zseg_e e (zcal_e _ _ ?_) (zorc_e _ _ ?_) hk (fun _ _ => rfl) f9 _ _ _ _
  · exact ⟨rfl, rfl, zca2_e (fun x0 x1 h k t => n_M_fails e (fun _ _ => rfl) x0 x1 h), trivial⟩
  · exact ⟨rfl, rfl, rfl, zap0_e (fun  h => n_M_serial_67 e hk  h), ⟨rfl, rfl, rfl, zap7_e (fun x0 x1 x2 x3 x4 x5 x6 h => n_M_serial_78 e hk x0 x1 x2 x3 x4 x5 x6 h), trivial⟩⟩
set_option maxRecDepth 100000 in
set_option maxHeartbeats 0 in
theorem n_M_serial_55 {ρ : Type} (e : zRes → Option ρ) {krA : Int → zH → Option ρ} {krZ : Int → zH → Option zRes} (hk : ∀ v h, (krZ v h).bind e = krA v h) (a1 a2 a3 a4 a5 : Int) (h : zH) : (M_serial_55 krZ a1 a2 a3 a4 a5 h).bind e = M_serial_55 krA a1 a2 a3 a4 a5 h := by
  refine Eq.trans (congrArg (fun z => Option.bind z e) (qe_M_serial_55 krZ a1 a2 a3 a4 a5 h)) (Eq.trans ?_ (Eq.symm (qe_M_serial_55 krA a1 a2 a3 a4 a5 h)))
  generalize (400 : Nat) = f9
  refine zseg_e e (zcal_e _ _ ?_) (zorc_e _ _ ?_) hk (fun _ _ => rfl) f9 _ _ _ _
  · exact trivial
  · exact ⟨rfl, rfl, rfl, zap6_e (fun x0 x1 x2 x3 x4 x5 h => n_M_serial_60 e hk x0 x1 x2 x3 x4 x5 h), trivial⟩
set_option maxRecDepth 100000 in
set_option maxHeartbeats 0 in
theorem n_M_serial_27 {ρ : Type} (e : zRes → Option ρ) {krA : Int → zH → Option ρ} {krZ : Int → zH → Option zRes} (hk : ∀ v h, (krZ v h).bind e = krA v h) (a1 a2 a3 a4 a5 t0 : Int) (h : zH) : (M_serial_27 krZ a1 a2 a3 a4 a5 t0 h).bind e = M_serial_27 krA a1 a2 a3 a4 a5 t0 h := by
  refine Eq.trans (congrArg (fun z => Option.bind z e) (qe_M_serial_27 krZ a1 a2 a3 a4 a5 t0 h)) (Eq.trans ?_ (Eq.symm (qe_M_serial_27 krA a1 a2 a3 a4 a5 t0 h)))
  generalize (400 : Nat) = f9
  refine zseg_e e (zcal_e _ _ ?_) (zorc_e _ _ ?_) hk (fun _ _ => rfl) f9 _ _ _ _
  · exact ⟨rfl, rfl, zca3_e (fun x0 x1 x2 h k t => n_M_in e (fun _ _ => rfl) x0 x1 x2 h), ⟨rfl, rfl, zca2_e (fun x0 x1 h k t => n_M_fails e (fun _ _ => rfl) x0 x1 h), trivial⟩⟩
  · exact ⟨rfl, rfl, rfl, zap5_e (fun x0 x1 x2 x3 x4 h => n_M_serial_55 e hk x0 x1 x2 x3 x4 h), ⟨rfl, rfl, rfl, zap6_e (fun x0 x1 x2 x3 x4 x5 h => n_M_serial_60 e hk x0 x1 x2 x3 x4 x5 h), ⟨rfl, rfl, rfl, zap0_e (fun  h => n_M_serial_67 e hk  h), trivial⟩⟩⟩
set_option maxRecDepth 100000 in
set_option maxHeartbeats 0 in
theorem n_M_serial_22 {ρ : Type} (e : zRes → Option ρ) {krA : Int → zH → Option ρ} {krZ : Int → zH → Option zRes} (hk : ∀ v h, (krZ v h).bind e = krA v h) (a1 a2 a3 a4 a5 : Int) (h : zH) : (M_serial_22 krZ a1 a2 a3 a4 a5 h).bind e = M_serial_22 krA a1 a2 a3 a4 a5 h := by
  refine Eq.trans (congrArg (fun z => Option.bind z e) (qe_M_serial_22 krZ a1 a2 a3 a4 a5 h)) (Eq.trans ?_ (Eq.symm (qe_M_serial_22 krA a1 a2 a3 a4 a5 h)))
  generalize (400 : Nat) = f9
  refine zseg_e e (zcal_e _ _ ?_) (zorc_e _ _ ?_) hk (fun _ _ => rfl) f9 _ _ _ _
  · exact trivial
  · exact ⟨rfl, rfl, rfl, zap6_e (fun x0 x1 x2 x3 x4 x5 h => n_M_serial_27 e hk x0 x1 x2 x3 x4 x5 h), trivial⟩
set_option maxRecDepth 100000 in
set_option maxHeartbeats 0 in
theorem n_M_serial {ρ : Type} (e : zRes → Option ρ) {krA : Int → zH → Option ρ} {krZ : Int → zH → Option zRes} (hk : ∀ v h, (krZ v h).bind e = krA v h) (a1 a2 a3 a4 a5 : Int) (h : zH) : (M_serial a1 a2 a3 a4 a5 h krZ).bind e = M_serial a1 a2 a3 a4 a5 h krA := by
  refine Eq.trans (congrArg (fun z => Option.bind z e) (qe_M_serial krZ a1 a2 a3 a4 a5 h)) (Eq.trans ?_ (Eq.symm (qe_M_serial krA a1 a2 a3 a4 a5 h)))
  generalize (400 : Nat) = f9
  refine zseg_e e (zcal_e _ _ ?_) (zorc_e _ _ ?_) hk (fun _ _ => rfl) f9 _ _ _ _
  · exact ⟨rfl, rfl, zca1_e (fun x0 h k t => n_M_noKernel e (fun _ _ => rfl) x0 h), ⟨rfl, rfl, zca1_e (fun x0 h k t => n_M_noCell e (fun _ _ => rfl) x0 h), trivial⟩⟩
  · exact ⟨rfl, rfl, rfl, zap5_e (fun x0 x1 x2 x3 x4 h => n_M_serial_22 e hk x0 x1 x2 x3 x4 h), ⟨rfl, rfl, rfl, zap6_e (fun x0 x1 x2 x3 x4 x5 h => n_M_serial_27 e hk x0 x1 x2 x3 x4 x5 h), trivial⟩⟩
set_option maxRecDepth 100000 in
set_option maxHeartbeats 0 in
theorem n_M_lanes {ρ : Type} (e : zRes → Option ρ) {krA : Int → zH → Option ρ} {krZ : Int → zH → Option zRes} (hk : ∀ v h, (krZ v h).bind e = krA v h) (h : zH) : (M_lanes h krZ).bind e = M_lanes h krA := by
  refine Eq.trans (congrArg (fun z => Option.bind z e) (qe_M_lanes krZ h)) (Eq.trans ?_ (Eq.symm (qe_M_lanes krA h)))
  generalize (400 : Nat) = f9
  refine zseg_e e (zcal_e _ _ ?_) (zorc_e _ _ ?_) hk (fun _ _ => rfl) f9 _ _ _ _
  · exact trivial
  · exact trivial
set_option maxRecDepth 100000 in
set_option maxHeartbeats 0 in
theorem n_M_misses {ρ : Type} (e : zRes → Option ρ) {krA : Int → zH → Option ρ} {krZ : Int → zH → Option zRes} (hk : ∀ v h, (krZ v h).bind e = krA v h) (h : zH) : (M_misses h krZ).bind e = M_misses h krA := by
  refine Eq.trans (congrArg (fun z => Option.bind z e) (qe_M_misses krZ h)) (Eq.trans ?_ (Eq.symm (qe_M_misses krA h)))
  generalize (400 : Nat) = f9
  refine zseg_e e (zcal_e _ _ ?_) (zorc_e _ _ ?_) hk (fun _ _ => rfl) f9 _ _ _ _
  · exact trivial
  · exact trivial
set_option maxRecDepth 100000 in
set_option maxHeartbeats 0 in
theorem n_M_lost {ρ : Type} (e : zRes → Option ρ) {krA : Int → zH → Option ρ} {krZ : Int → zH → Option zRes} (hk : ∀ v h, (krZ v h).bind e = krA v h) (h : zH) : (M_lost h krZ).bind e = M_lost h krA := by
  refine Eq.trans (congrArg (fun z => Option.bind z e) (qe_M_lost krZ h)) (Eq.trans ?_ (Eq.symm (qe_M_lost krA h)))
  generalize (400 : Nat) = f9
  refine zseg_e e (zcal_e _ _ ?_) (zorc_e _ _ ?_) hk (fun _ _ => rfl) f9 _ _ _ _
  · exact trivial
  · exact trivial
set_option maxRecDepth 100000 in
set_option maxHeartbeats 0 in
theorem n_M_barriers {ρ : Type} (e : zRes → Option ρ) {krA : Int → zH → Option ρ} {krZ : Int → zH → Option zRes} (hk : ∀ v h, (krZ v h).bind e = krA v h) (h : zH) : (M_barriers h krZ).bind e = M_barriers h krA := by
  refine Eq.trans (congrArg (fun z => Option.bind z e) (qe_M_barriers krZ h)) (Eq.trans ?_ (Eq.symm (qe_M_barriers krA h)))
  generalize (400 : Nat) = f9
  refine zseg_e e (zcal_e _ _ ?_) (zorc_e _ _ ?_) hk (fun _ _ => rfl) f9 _ _ _ _
  · exact trivial
  · exact trivial
set_option maxRecDepth 100000 in
set_option maxHeartbeats 0 in
theorem n_M_refused {ρ : Type} (e : zRes → Option ρ) {krA : Int → zH → Option ρ} {krZ : Int → zH → Option zRes} (hk : ∀ v h, (krZ v h).bind e = krA v h) (h : zH) : (M_refused h krZ).bind e = M_refused h krA := by
  refine Eq.trans (congrArg (fun z => Option.bind z e) (qe_M_refused krZ h)) (Eq.trans ?_ (Eq.symm (qe_M_refused krA h)))
  generalize (400 : Nat) = f9
  refine zseg_e e (zcal_e _ _ ?_) (zorc_e _ _ ?_) hk (fun _ _ => rfl) f9 _ _ _ _
  · exact trivial
  · exact trivial
set_option maxRecDepth 100000 in
set_option maxHeartbeats 0 in
theorem n_M_usedShare_42 {ρ : Type} (e : zRes → Option ρ) {krA : Int → zH → Option ρ} {krZ : Int → zH → Option zRes} (hk : ∀ v h, (krZ v h).bind e = krA v h) (t0 : Int) (h : zH) : (M_usedShare_42 krZ t0 h).bind e = M_usedShare_42 krA t0 h := by
  refine Eq.trans (congrArg (fun z => Option.bind z e) (qe_M_usedShare_42 krZ t0 h)) (Eq.trans ?_ (Eq.symm (qe_M_usedShare_42 krA t0 h)))
  generalize (400 : Nat) = f9
  refine zseg_e e (zcal_e _ _ ?_) (zorc_e _ _ ?_) hk (fun _ _ => rfl) f9 _ _ _ _
  · exact trivial
  · exact trivial
set_option maxRecDepth 100000 in
set_option maxHeartbeats 0 in
theorem n_M_usedShare_18 {ρ : Type} (e : zRes → Option ρ) {krA : Int → zH → Option ρ} {krZ : Int → zH → Option zRes} (hk : ∀ v h, (krZ v h).bind e = krA v h) (t0 : Int) (h : zH) : (M_usedShare_18 krZ t0 h).bind e = M_usedShare_18 krA t0 h := by
  refine Eq.trans (congrArg (fun z => Option.bind z e) (qe_M_usedShare_18 krZ t0 h)) (Eq.trans ?_ (Eq.symm (qe_M_usedShare_18 krA t0 h)))
  generalize (400 : Nat) = f9
  refine zseg_e e (zcal_e _ _ ?_) (zorc_e _ _ ?_) hk (fun _ _ => rfl) f9 _ _ _ _
  · exact ⟨rfl, rfl, zca2_e (fun x0 x1 h k t => n_M_fails e (fun _ _ => rfl) x0 x1 h), trivial⟩
  · exact ⟨rfl, rfl, rfl, zap1_e (fun x0 h => n_M_usedShare_42 e hk x0 h), trivial⟩
set_option maxRecDepth 100000 in
set_option maxHeartbeats 0 in
theorem n_M_usedShare {ρ : Type} (e : zRes → Option ρ) {krA : Int → zH → Option ρ} {krZ : Int → zH → Option zRes} (hk : ∀ v h, (krZ v h).bind e = krA v h) (h : zH) : (M_usedShare h krZ).bind e = M_usedShare h krA := by
  refine Eq.trans (congrArg (fun z => Option.bind z e) (qe_M_usedShare krZ h)) (Eq.trans ?_ (Eq.symm (qe_M_usedShare krA h)))
  generalize (400 : Nat) = f9
  refine zseg_e e (zcal_e _ _ ?_) (zorc_e _ _ ?_) hk (fun _ _ => rfl) f9 _ _ _ _
  · exact trivial
  · exact ⟨rfl, rfl, rfl, zap1_e (fun x0 h => n_M_usedShare_18 e hk x0 h), trivial⟩
set_option maxRecDepth 100000 in
set_option maxHeartbeats 0 in
theorem n_M_meanDelay_40 {ρ : Type} (e : zRes → Option ρ) {krA : Int → zH → Option ρ} {krZ : Int → zH → Option zRes} (hk : ∀ v h, (krZ v h).bind e = krA v h) (t0 : Int) (h : zH) : (M_meanDelay_40 krZ t0 h).bind e = M_meanDelay_40 krA t0 h := by
  refine Eq.trans (congrArg (fun z => Option.bind z e) (qe_M_meanDelay_40 krZ t0 h)) (Eq.trans ?_ (Eq.symm (qe_M_meanDelay_40 krA t0 h)))
  generalize (400 : Nat) = f9
  refine zseg_e e (zcal_e _ _ ?_) (zorc_e _ _ ?_) hk (fun _ _ => rfl) f9 _ _ _ _
  · exact trivial
  · exact trivial
set_option maxRecDepth 100000 in
set_option maxHeartbeats 0 in
theorem n_M_meanDelay_18 {ρ : Type} (e : zRes → Option ρ) {krA : Int → zH → Option ρ} {krZ : Int → zH → Option zRes} (hk : ∀ v h, (krZ v h).bind e = krA v h) (t0 : Int) (h : zH) : (M_meanDelay_18 krZ t0 h).bind e = M_meanDelay_18 krA t0 h := by
  refine Eq.trans (congrArg (fun z => Option.bind z e) (qe_M_meanDelay_18 krZ t0 h)) (Eq.trans ?_ (Eq.symm (qe_M_meanDelay_18 krA t0 h)))
  generalize (400 : Nat) = f9
  refine zseg_e e (zcal_e _ _ ?_) (zorc_e _ _ ?_) hk (fun _ _ => rfl) f9 _ _ _ _
  · exact ⟨rfl, rfl, zca2_e (fun x0 x1 h k t => n_M_fails e (fun _ _ => rfl) x0 x1 h), trivial⟩
  · exact ⟨rfl, rfl, rfl, zap1_e (fun x0 h => n_M_meanDelay_40 e hk x0 h), trivial⟩
set_option maxRecDepth 100000 in
set_option maxHeartbeats 0 in
theorem n_M_meanDelay {ρ : Type} (e : zRes → Option ρ) {krA : Int → zH → Option ρ} {krZ : Int → zH → Option zRes} (hk : ∀ v h, (krZ v h).bind e = krA v h) (h : zH) : (M_meanDelay h krZ).bind e = M_meanDelay h krA := by
  refine Eq.trans (congrArg (fun z => Option.bind z e) (qe_M_meanDelay krZ h)) (Eq.trans ?_ (Eq.symm (qe_M_meanDelay krA h)))
  generalize (400 : Nat) = f9
  refine zseg_e e (zcal_e _ _ ?_) (zorc_e _ _ ?_) hk (fun _ _ => rfl) f9 _ _ _ _
  · exact trivial
  · exact ⟨rfl, rfl, rfl, zap1_e (fun x0 h => n_M_meanDelay_18 e hk x0 h), trivial⟩
set_option maxRecDepth 100000 in
set_option maxHeartbeats 0 in
theorem n_M_isSound {ρ : Type} (e : zRes → Option ρ) {krA : Int → zH → Option ρ} {krZ : Int → zH → Option zRes} (hk : ∀ v h, (krZ v h).bind e = krA v h) (h : zH) : (M_isSound h krZ).bind e = M_isSound h krA := by
  refine Eq.trans (congrArg (fun z => Option.bind z e) (qe_M_isSound krZ h)) (Eq.trans ?_ (Eq.symm (qe_M_isSound krA h)))
  generalize (400 : Nat) = f9
  refine zseg_e e (zcal_e _ _ ?_) (zorc_e _ _ ?_) hk (fun _ _ => rfl) f9 _ _ _ _
  · exact trivial
  · exact trivial
set_option maxRecDepth 100000 in
set_option maxHeartbeats 0 in
theorem n_Lw_addKernel {ρ : Type} (e : zRes → Option ρ) {krA : Int → zH → Option ρ} {krZ : Int → zH → Option zRes} (hk : ∀ v h, (krZ v h).bind e = krA v h) (a0 a1 a2 a3 : Int) (h : zH) : (Lw_addKernel a0 a1 a2 a3 h krZ).bind e = Lw_addKernel a0 a1 a2 a3 h krA := by
  refine Eq.trans (congrArg (fun z => Option.bind z e) (qe_Lw_addKernel krZ a0 a1 a2 a3 h)) (Eq.trans ?_ (Eq.symm (qe_Lw_addKernel krA a0 a1 a2 a3 h)))
  generalize (400 : Nat) = f9
  refine zseg_e e (zcal_e _ _ ?_) (zorc_e _ _ ?_) hk (fun _ _ => rfl) f9 _ _ _ _
  · exact ⟨rfl, rfl, zcx3_e (fun x0 x1 x2 h k t => n_X_addKernel e (fun _ _ => rfl) (fun _ _ => rfl) x0 x1 x2 h), trivial⟩
  · exact trivial
set_option maxRecDepth 100000 in
set_option maxHeartbeats 0 in
theorem n_Lw_code {ρ : Type} (e : zRes → Option ρ) {krA : Int → zH → Option ρ} {krZ : Int → zH → Option zRes} (hk : ∀ v h, (krZ v h).bind e = krA v h) (a0 a1 a2 a3 a4 a5 a6 : Int) (h : zH) : (Lw_code a0 a1 a2 a3 a4 a5 a6 h krZ).bind e = Lw_code a0 a1 a2 a3 a4 a5 a6 h krA := by
  refine Eq.trans (congrArg (fun z => Option.bind z e) (qe_Lw_code krZ a0 a1 a2 a3 a4 a5 a6 h)) (Eq.trans ?_ (Eq.symm (qe_Lw_code krA a0 a1 a2 a3 a4 a5 a6 h)))
  generalize (400 : Nat) = f9
  refine zseg_e e (zcal_e _ _ ?_) (zorc_e _ _ ?_) hk (fun _ _ => rfl) f9 _ _ _ _
  · exact ⟨rfl, rfl, zcx6_e (fun x0 x1 x2 x3 x4 x5 h k t => n_X_code e (fun _ _ => rfl) (fun _ _ => rfl) x0 x1 x2 x3 x4 x5 h), trivial⟩
  · exact trivial
set_option maxRecDepth 100000 in
set_option maxHeartbeats 0 in
theorem n_Lw_fits {ρ : Type} (e : zRes → Option ρ) {krA : Int → zH → Option ρ} {krZ : Int → zH → Option zRes} (hk : ∀ v h, (krZ v h).bind e = krA v h) (a0 a1 a2 a3 : Int) (h : zH) : (Lw_fits a0 a1 a2 a3 h krZ).bind e = Lw_fits a0 a1 a2 a3 h krA := by
  refine Eq.trans (congrArg (fun z => Option.bind z e) (qe_Lw_fits krZ a0 a1 a2 a3 h)) (Eq.trans ?_ (Eq.symm (qe_Lw_fits krA a0 a1 a2 a3 h)))
  generalize (400 : Nat) = f9
  refine zseg_e e (zcal_e _ _ ?_) (zorc_e _ _ ?_) hk (fun _ _ => rfl) f9 _ _ _ _
  · exact ⟨rfl, rfl, zcx3_e (fun x0 x1 x2 h k t => n_X_fits e (fun _ _ => rfl) (fun _ _ => rfl) x0 x1 x2 h), trivial⟩
  · exact trivial
set_option maxRecDepth 100000 in
set_option maxHeartbeats 0 in
theorem n_Lw_poke {ρ : Type} (e : zRes → Option ρ) {krA : Int → zH → Option ρ} {krZ : Int → zH → Option zRes} (hk : ∀ v h, (krZ v h).bind e = krA v h) (a0 a1 a2 a3 : Int) (h : zH) : (Lw_poke a0 a1 a2 a3 h krZ).bind e = Lw_poke a0 a1 a2 a3 h krA := by
  refine Eq.trans (congrArg (fun z => Option.bind z e) (qe_Lw_poke krZ a0 a1 a2 a3 h)) (Eq.trans ?_ (Eq.symm (qe_Lw_poke krA a0 a1 a2 a3 h)))
  generalize (400 : Nat) = f9
  refine zseg_e e (zcal_e _ _ ?_) (zorc_e _ _ ?_) hk (fun _ _ => rfl) f9 _ _ _ _
  · exact ⟨rfl, rfl, zcx3_e (fun x0 x1 x2 h k t => n_X_poke e (fun _ _ => rfl) (fun _ _ => rfl) x0 x1 x2 h), trivial⟩
  · exact trivial
set_option maxRecDepth 100000 in
set_option maxHeartbeats 0 in
theorem n_Lw_peek {ρ : Type} (e : zRes → Option ρ) {krA : Int → zH → Option ρ} {krZ : Int → zH → Option zRes} (hk : ∀ v h, (krZ v h).bind e = krA v h) (a0 a1 a2 : Int) (h : zH) : (Lw_peek a0 a1 a2 h krZ).bind e = Lw_peek a0 a1 a2 h krA := by
  refine Eq.trans (congrArg (fun z => Option.bind z e) (qe_Lw_peek krZ a0 a1 a2 h)) (Eq.trans ?_ (Eq.symm (qe_Lw_peek krA a0 a1 a2 h)))
  generalize (400 : Nat) = f9
  refine zseg_e e (zcal_e _ _ ?_) (zorc_e _ _ ?_) hk (fun _ _ => rfl) f9 _ _ _ _
  · exact ⟨rfl, rfl, zcx2_e (fun x0 x1 h k t => n_X_peek e (fun _ _ => rfl) (fun _ _ => rfl) x0 x1 h), trivial⟩
  · exact trivial
set_option maxRecDepth 100000 in
set_option maxHeartbeats 0 in
theorem n_Lw_launch {ρ : Type} (e : zRes → Option ρ) {krA : Int → zH → Option ρ} {krZ : Int → zH → Option zRes} (hk : ∀ v h, (krZ v h).bind e = krA v h) (a0 a1 a2 a3 a4 a5 a6 : Int) (h : zH) : (Lw_launch a0 a1 a2 a3 a4 a5 a6 h krZ).bind e = Lw_launch a0 a1 a2 a3 a4 a5 a6 h krA := by
  refine Eq.trans (congrArg (fun z => Option.bind z e) (qe_Lw_launch krZ a0 a1 a2 a3 a4 a5 a6 h)) (Eq.trans ?_ (Eq.symm (qe_Lw_launch krA a0 a1 a2 a3 a4 a5 a6 h)))
  generalize (400 : Nat) = f9
  refine zseg_e e (zcal_e _ _ ?_) (zorc_e _ _ ?_) hk (fun _ _ => rfl) f9 _ _ _ _
  · exact ⟨rfl, rfl, zcx6_e (fun x0 x1 x2 x3 x4 x5 h k t => n_X_launch e (fun _ _ => rfl) (fun _ _ => rfl) x0 x1 x2 x3 x4 x5 h), trivial⟩
  · exact trivial
set_option maxRecDepth 100000 in
set_option maxHeartbeats 0 in
theorem n_Lw_copy {ρ : Type} (e : zRes → Option ρ) {krA : Int → zH → Option ρ} {krZ : Int → zH → Option zRes} (hk : ∀ v h, (krZ v h).bind e = krA v h) (a0 a1 a2 a3 a4 a5 a6 : Int) (h : zH) : (Lw_copy a0 a1 a2 a3 a4 a5 a6 h krZ).bind e = Lw_copy a0 a1 a2 a3 a4 a5 a6 h krA := by
  refine Eq.trans (congrArg (fun z => Option.bind z e) (qe_Lw_copy krZ a0 a1 a2 a3 a4 a5 a6 h)) (Eq.trans ?_ (Eq.symm (qe_Lw_copy krA a0 a1 a2 a3 a4 a5 a6 h)))
  generalize (400 : Nat) = f9
  refine zseg_e e (zcal_e _ _ ?_) (zorc_e _ _ ?_) hk (fun _ _ => rfl) f9 _ _ _ _
  · exact ⟨rfl, rfl, zcx6_e (fun x0 x1 x2 x3 x4 x5 h k t => n_X_copy e (fun _ _ => rfl) (fun _ _ => rfl) x0 x1 x2 x3 x4 x5 h), trivial⟩
  · exact trivial
set_option maxRecDepth 100000 in
set_option maxHeartbeats 0 in
theorem n_Lw_state {ρ : Type} (e : zRes → Option ρ) {krA : Int → zH → Option ρ} {krZ : Int → zH → Option zRes} (hk : ∀ v h, (krZ v h).bind e = krA v h) (a0 a1 a2 : Int) (h : zH) : (Lw_state a0 a1 a2 h krZ).bind e = Lw_state a0 a1 a2 h krA := by
  refine Eq.trans (congrArg (fun z => Option.bind z e) (qe_Lw_state krZ a0 a1 a2 h)) (Eq.trans ?_ (Eq.symm (qe_Lw_state krA a0 a1 a2 h)))
  generalize (400 : Nat) = f9
  refine zseg_e e (zcal_e _ _ ?_) (zorc_e _ _ ?_) hk (fun _ _ => rfl) f9 _ _ _ _
  · exact ⟨rfl, rfl, zcx2_e (fun x0 x1 h k t => n_X_state e (fun _ _ => rfl) (fun _ _ => rfl) x0 x1 h), trivial⟩
  · exact trivial
set_option maxRecDepth 100000 in
set_option maxHeartbeats 0 in
theorem n_Lw_parent {ρ : Type} (e : zRes → Option ρ) {krA : Int → zH → Option ρ} {krZ : Int → zH → Option zRes} (hk : ∀ v h, (krZ v h).bind e = krA v h) (a0 a1 a2 : Int) (h : zH) : (Lw_parent a0 a1 a2 h krZ).bind e = Lw_parent a0 a1 a2 h krA := by
  refine Eq.trans (congrArg (fun z => Option.bind z e) (qe_Lw_parent krZ a0 a1 a2 h)) (Eq.trans ?_ (Eq.symm (qe_Lw_parent krA a0 a1 a2 h)))
  generalize (400 : Nat) = f9
  refine zseg_e e (zcal_e _ _ ?_) (zorc_e _ _ ?_) hk (fun _ _ => rfl) f9 _ _ _ _
  · exact ⟨rfl, rfl, zcx2_e (fun x0 x1 h k t => n_X_parent e (fun _ _ => rfl) (fun _ _ => rfl) x0 x1 h), trivial⟩
  · exact trivial
set_option maxRecDepth 100000 in
set_option maxHeartbeats 0 in
theorem n_Lw_given {ρ : Type} (e : zRes → Option ρ) {krA : Int → zH → Option ρ} {krZ : Int → zH → Option zRes} (hk : ∀ v h, (krZ v h).bind e = krA v h) (a0 a1 a2 : Int) (h : zH) : (Lw_given a0 a1 a2 h krZ).bind e = Lw_given a0 a1 a2 h krA := by
  refine Eq.trans (congrArg (fun z => Option.bind z e) (qe_Lw_given krZ a0 a1 a2 h)) (Eq.trans ?_ (Eq.symm (qe_Lw_given krA a0 a1 a2 h)))
  generalize (400 : Nat) = f9
  refine zseg_e e (zcal_e _ _ ?_) (zorc_e _ _ ?_) hk (fun _ _ => rfl) f9 _ _ _ _
  · exact ⟨rfl, rfl, zcx2_e (fun x0 x1 h k t => n_X_given e (fun _ _ => rfl) (fun _ _ => rfl) x0 x1 h), trivial⟩
  · exact trivial
set_option maxRecDepth 100000 in
set_option maxHeartbeats 0 in
theorem n_Lw_step {ρ : Type} (e : zRes → Option ρ) {krA : Int → zH → Option ρ} {krZ : Int → zH → Option zRes} (hk : ∀ v h, (krZ v h).bind e = krA v h) (a0 a1 a2 : Int) (h : zH) : (Lw_step a0 a1 a2 h krZ).bind e = Lw_step a0 a1 a2 h krA := by
  refine Eq.trans (congrArg (fun z => Option.bind z e) (qe_Lw_step krZ a0 a1 a2 h)) (Eq.trans ?_ (Eq.symm (qe_Lw_step krA a0 a1 a2 h)))
  generalize (400 : Nat) = f9
  refine zseg_e e (zcal_e _ _ ?_) (zorc_e _ _ ?_) hk (fun _ _ => rfl) f9 _ _ _ _
  · exact ⟨rfl, rfl, zcx2_e (fun x0 x1 h k t => n_X_step e (fun _ _ => rfl) (fun _ _ => rfl) x0 x1 h), trivial⟩
  · exact trivial
set_option maxRecDepth 100000 in
set_option maxHeartbeats 0 in
theorem n_Lw_run {ρ : Type} (e : zRes → Option ρ) {krA : Int → zH → Option ρ} {krZ : Int → zH → Option zRes} (hk : ∀ v h, (krZ v h).bind e = krA v h) (a0 a1 a2 : Int) (h : zH) : (Lw_run a0 a1 a2 h krZ).bind e = Lw_run a0 a1 a2 h krA := by
  refine Eq.trans (congrArg (fun z => Option.bind z e) (qe_Lw_run krZ a0 a1 a2 h)) (Eq.trans ?_ (Eq.symm (qe_Lw_run krA a0 a1 a2 h)))
  generalize (400 : Nat) = f9
  refine zseg_e e (zcal_e _ _ ?_) (zorc_e _ _ ?_) hk (fun _ _ => rfl) f9 _ _ _ _
  · exact ⟨rfl, rfl, zcx2_e (fun x0 x1 h k t => n_X_run e (fun _ _ => rfl) (fun _ _ => rfl) x0 x1 h), trivial⟩
  · exact trivial
set_option maxRecDepth 100000 in
set_option maxHeartbeats 0 in
theorem n_Lw_setOrder {ρ : Type} (e : zRes → Option ρ) {krA : Int → zH → Option ρ} {krZ : Int → zH → Option zRes} (hk : ∀ v h, (krZ v h).bind e = krA v h) (a0 a1 a2 : Int) (h : zH) : (Lw_setOrder a0 a1 a2 h krZ).bind e = Lw_setOrder a0 a1 a2 h krA := by
  refine Eq.trans (congrArg (fun z => Option.bind z e) (qe_Lw_setOrder krZ a0 a1 a2 h)) (Eq.trans ?_ (Eq.symm (qe_Lw_setOrder krA a0 a1 a2 h)))
  generalize (400 : Nat) = f9
  refine zseg_e e (zcal_e _ _ ?_) (zorc_e _ _ ?_) hk (fun _ _ => rfl) f9 _ _ _ _
  · exact ⟨rfl, rfl, zcx2_e (fun x0 x1 h k t => n_X_setOrder e (fun _ _ => rfl) (fun _ _ => rfl) x0 x1 h), trivial⟩
  · exact trivial
set_option maxRecDepth 100000 in
set_option maxHeartbeats 0 in
theorem n_Lw_groups {ρ : Type} (e : zRes → Option ρ) {krA : Int → zH → Option ρ} {krZ : Int → zH → Option zRes} (hk : ∀ v h, (krZ v h).bind e = krA v h) (a0 a1 a2 : Int) (h : zH) : (Lw_groups a0 a1 a2 h krZ).bind e = Lw_groups a0 a1 a2 h krA := by
  refine Eq.trans (congrArg (fun z => Option.bind z e) (qe_Lw_groups krZ a0 a1 a2 h)) (Eq.trans ?_ (Eq.symm (qe_Lw_groups krA a0 a1 a2 h)))
  generalize (400 : Nat) = f9
  refine zseg_e e (zcal_e _ _ ?_) (zorc_e _ _ ?_) hk (fun _ _ => rfl) f9 _ _ _ _
  · exact ⟨rfl, rfl, zcx2_e (fun x0 x1 h k t => n_X_groups e (fun _ _ => rfl) (fun _ _ => rfl) x0 x1 h), trivial⟩
  · exact trivial
set_option maxRecDepth 100000 in
set_option maxHeartbeats 0 in
theorem n_Lw_threadAt {ρ : Type} (e : zRes → Option ρ) {krA : Int → zH → Option ρ} {krZ : Int → zH → Option zRes} (hk : ∀ v h, (krZ v h).bind e = krA v h) (a0 a1 a2 a3 : Int) (h : zH) : (Lw_threadAt a0 a1 a2 a3 h krZ).bind e = Lw_threadAt a0 a1 a2 a3 h krA := by
  refine Eq.trans (congrArg (fun z => Option.bind z e) (qe_Lw_threadAt krZ a0 a1 a2 a3 h)) (Eq.trans ?_ (Eq.symm (qe_Lw_threadAt krA a0 a1 a2 a3 h)))
  generalize (400 : Nat) = f9
  refine zseg_e e (zcal_e _ _ ?_) (zorc_e _ _ ?_) hk (fun _ _ => rfl) f9 _ _ _ _
  · exact ⟨rfl, rfl, zcx3_e (fun x0 x1 x2 h k t => n_X_threadAt e (fun _ _ => rfl) (fun _ _ => rfl) x0 x1 x2 h), trivial⟩
  · exact trivial
set_option maxRecDepth 100000 in
set_option maxHeartbeats 0 in
theorem n_Lw_place {ρ : Type} (e : zRes → Option ρ) {krA : Int → zH → Option ρ} {krZ : Int → zH → Option zRes} (hk : ∀ v h, (krZ v h).bind e = krA v h) (a0 a1 a2 a3 : Int) (h : zH) : (Lw_place a0 a1 a2 a3 h krZ).bind e = Lw_place a0 a1 a2 a3 h krA := by
  refine Eq.trans (congrArg (fun z => Option.bind z e) (qe_Lw_place krZ a0 a1 a2 a3 h)) (Eq.trans ?_ (Eq.symm (qe_Lw_place krA a0 a1 a2 a3 h)))
  generalize (400 : Nat) = f9
  refine zseg_e e (zcal_e _ _ ?_) (zorc_e _ _ ?_) hk (fun _ _ => rfl) f9 _ _ _ _
  · exact ⟨rfl, rfl, zcx3_e (fun x0 x1 x2 h k t => n_X_place e (fun _ _ => rfl) (fun _ _ => rfl) x0 x1 x2 h), trivial⟩
  · exact trivial
set_option maxRecDepth 100000 in
set_option maxHeartbeats 0 in
theorem n_Lw_mask {ρ : Type} (e : zRes → Option ρ) {krA : Int → zH → Option ρ} {krZ : Int → zH → Option zRes} (hk : ∀ v h, (krZ v h).bind e = krA v h) (a0 a1 a2 a3 : Int) (h : zH) : (Lw_mask a0 a1 a2 a3 h krZ).bind e = Lw_mask a0 a1 a2 a3 h krA := by
  refine Eq.trans (congrArg (fun z => Option.bind z e) (qe_Lw_mask krZ a0 a1 a2 a3 h)) (Eq.trans ?_ (Eq.symm (qe_Lw_mask krA a0 a1 a2 a3 h)))
  generalize (400 : Nat) = f9
  refine zseg_e e (zcal_e _ _ ?_) (zorc_e _ _ ?_) hk (fun _ _ => rfl) f9 _ _ _ _
  · exact ⟨rfl, rfl, zcx3_e (fun x0 x1 x2 h k t => n_X_mask e (fun _ _ => rfl) (fun _ _ => rfl) x0 x1 x2 h), trivial⟩
  · exact trivial
set_option maxRecDepth 100000 in
set_option maxHeartbeats 0 in
theorem n_Lw_places {ρ : Type} (e : zRes → Option ρ) {krA : Int → zH → Option ρ} {krZ : Int → zH → Option zRes} (hk : ∀ v h, (krZ v h).bind e = krA v h) (a0 a1 a2 a3 : Int) (h : zH) : (Lw_places a0 a1 a2 a3 h krZ).bind e = Lw_places a0 a1 a2 a3 h krA := by
  refine Eq.trans (congrArg (fun z => Option.bind z e) (qe_Lw_places krZ a0 a1 a2 a3 h)) (Eq.trans ?_ (Eq.symm (qe_Lw_places krA a0 a1 a2 a3 h)))
  generalize (400 : Nat) = f9
  refine zseg_e e (zcal_e _ _ ?_) (zorc_e _ _ ?_) hk (fun _ _ => rfl) f9 _ _ _ _
  · exact ⟨rfl, rfl, zcx3_e (fun x0 x1 x2 h k t => n_X_places e (fun _ _ => rfl) (fun _ _ => rfl) x0 x1 x2 h), trivial⟩
  · exact trivial
set_option maxRecDepth 100000 in
set_option maxHeartbeats 0 in
theorem n_Lw_reason {ρ : Type} (e : zRes → Option ρ) {krA : Int → zH → Option ρ} {krZ : Int → zH → Option zRes} (hk : ∀ v h, (krZ v h).bind e = krA v h) (a0 a1 a2 a3 : Int) (h : zH) : (Lw_reason a0 a1 a2 a3 h krZ).bind e = Lw_reason a0 a1 a2 a3 h krA := by
  refine Eq.trans (congrArg (fun z => Option.bind z e) (qe_Lw_reason krZ a0 a1 a2 a3 h)) (Eq.trans ?_ (Eq.symm (qe_Lw_reason krA a0 a1 a2 a3 h)))
  generalize (400 : Nat) = f9
  refine zseg_e e (zcal_e _ _ ?_) (zorc_e _ _ ?_) hk (fun _ _ => rfl) f9 _ _ _ _
  · exact ⟨rfl, rfl, zcx3_e (fun x0 x1 x2 h k t => n_X_reason e (fun _ _ => rfl) (fun _ _ => rfl) x0 x1 x2 h), trivial⟩
  · exact trivial
set_option maxRecDepth 100000 in
set_option maxHeartbeats 0 in
theorem n_Lw_register {ρ : Type} (e : zRes → Option ρ) {krA : Int → zH → Option ρ} {krZ : Int → zH → Option zRes} (hk : ∀ v h, (krZ v h).bind e = krA v h) (a0 a1 a2 a3 a4 a5 : Int) (h : zH) : (Lw_register a0 a1 a2 a3 a4 a5 h krZ).bind e = Lw_register a0 a1 a2 a3 a4 a5 h krA := by
  refine Eq.trans (congrArg (fun z => Option.bind z e) (qe_Lw_register krZ a0 a1 a2 a3 a4 a5 h)) (Eq.trans ?_ (Eq.symm (qe_Lw_register krA a0 a1 a2 a3 a4 a5 h)))
  generalize (400 : Nat) = f9
  refine zseg_e e (zcal_e _ _ ?_) (zorc_e _ _ ?_) hk (fun _ _ => rfl) f9 _ _ _ _
  · exact ⟨rfl, rfl, zcx5_e (fun x0 x1 x2 x3 x4 h k t => n_X_register e (fun _ _ => rfl) (fun _ _ => rfl) x0 x1 x2 x3 x4 h), trivial⟩
  · exact trivial
set_option maxRecDepth 100000 in
set_option maxHeartbeats 0 in
theorem n_Lw_shared {ρ : Type} (e : zRes → Option ρ) {krA : Int → zH → Option ρ} {krZ : Int → zH → Option zRes} (hk : ∀ v h, (krZ v h).bind e = krA v h) (a0 a1 a2 a3 a4 : Int) (h : zH) : (Lw_shared a0 a1 a2 a3 a4 h krZ).bind e = Lw_shared a0 a1 a2 a3 a4 h krA := by
  refine Eq.trans (congrArg (fun z => Option.bind z e) (qe_Lw_shared krZ a0 a1 a2 a3 a4 h)) (Eq.trans ?_ (Eq.symm (qe_Lw_shared krA a0 a1 a2 a3 a4 h)))
  generalize (400 : Nat) = f9
  refine zseg_e e (zcal_e _ _ ?_) (zorc_e _ _ ?_) hk (fun _ _ => rfl) f9 _ _ _ _
  · exact ⟨rfl, rfl, zcx4_e (fun x0 x1 x2 x3 h k t => n_X_shared e (fun _ _ => rfl) (fun _ _ => rfl) x0 x1 x2 x3 h), trivial⟩
  · exact trivial
set_option maxRecDepth 100000 in
set_option maxHeartbeats 0 in
theorem n_Lw_buffered {ρ : Type} (e : zRes → Option ρ) {krA : Int → zH → Option ρ} {krZ : Int → zH → Option zRes} (hk : ∀ v h, (krZ v h).bind e = krA v h) (a0 a1 a2 a3 : Int) (h : zH) : (Lw_buffered a0 a1 a2 a3 h krZ).bind e = Lw_buffered a0 a1 a2 a3 h krA := by
  refine Eq.trans (congrArg (fun z => Option.bind z e) (qe_Lw_buffered krZ a0 a1 a2 a3 h)) (Eq.trans ?_ (Eq.symm (qe_Lw_buffered krA a0 a1 a2 a3 h)))
  generalize (400 : Nat) = f9
  refine zseg_e e (zcal_e _ _ ?_) (zorc_e _ _ ?_) hk (fun _ _ => rfl) f9 _ _ _ _
  · exact ⟨rfl, rfl, zcx3_e (fun x0 x1 x2 h k t => n_X_buffered e (fun _ _ => rfl) (fun _ _ => rfl) x0 x1 x2 h), trivial⟩
  · exact trivial
set_option maxRecDepth 100000 in
set_option maxHeartbeats 0 in
theorem n_Lw_fault {ρ : Type} (e : zRes → Option ρ) {krA : Int → zH → Option ρ} {krZ : Int → zH → Option zRes} (hk : ∀ v h, (krZ v h).bind e = krA v h) (a0 a1 a2 : Int) (h : zH) : (Lw_fault a0 a1 a2 h krZ).bind e = Lw_fault a0 a1 a2 h krA := by
  refine Eq.trans (congrArg (fun z => Option.bind z e) (qe_Lw_fault krZ a0 a1 a2 h)) (Eq.trans ?_ (Eq.symm (qe_Lw_fault krA a0 a1 a2 h)))
  generalize (400 : Nat) = f9
  refine zseg_e e (zcal_e _ _ ?_) (zorc_e _ _ ?_) hk (fun _ _ => rfl) f9 _ _ _ _
  · exact ⟨rfl, rfl, zcx2_e (fun x0 x1 h k t => n_X_fault e (fun _ _ => rfl) (fun _ _ => rfl) x0 x1 h), trivial⟩
  · exact trivial
set_option maxRecDepth 100000 in
set_option maxHeartbeats 0 in
theorem n_Lw_faultAt {ρ : Type} (e : zRes → Option ρ) {krA : Int → zH → Option ρ} {krZ : Int → zH → Option zRes} (hk : ∀ v h, (krZ v h).bind e = krA v h) (a0 a1 a2 : Int) (h : zH) : (Lw_faultAt a0 a1 a2 h krZ).bind e = Lw_faultAt a0 a1 a2 h krA := by
  refine Eq.trans (congrArg (fun z => Option.bind z e) (qe_Lw_faultAt krZ a0 a1 a2 h)) (Eq.trans ?_ (Eq.symm (qe_Lw_faultAt krA a0 a1 a2 h)))
  generalize (400 : Nat) = f9
  refine zseg_e e (zcal_e _ _ ?_) (zorc_e _ _ ?_) hk (fun _ _ => rfl) f9 _ _ _ _
  · exact ⟨rfl, rfl, zcx2_e (fun x0 x1 h k t => n_X_faultAt e (fun _ _ => rfl) (fun _ _ => rfl) x0 x1 h), trivial⟩
  · exact trivial
set_option maxRecDepth 100000 in
set_option maxHeartbeats 0 in
theorem n_Lw_isRacing_16 {ρ : Type} (e : zRes → Option ρ) {krA : Int → zH → Option ρ} {krZ : Int → zH → Option zRes} (hk : ∀ v h, (krZ v h).bind e = krA v h) (t0 t1 t2 : Int) (h : zH) : (Lw_isRacing_16 krZ t0 t1 t2 h).bind e = Lw_isRacing_16 krA t0 t1 t2 h := by
  refine Eq.trans (congrArg (fun z => Option.bind z e) (qe_Lw_isRacing_16 krZ t0 t1 t2 h)) (Eq.trans ?_ (Eq.symm (qe_Lw_isRacing_16 krA t0 t1 t2 h)))
  generalize (400 : Nat) = f9
  refine zseg_e e (zcal_e _ _ ?_) (zorc_e _ _ ?_) hk (fun _ _ => rfl) f9 _ _ _ _
  · exact trivial
  · exact trivial
set_option maxRecDepth 100000 in
set_option maxHeartbeats 0 in
theorem n_Lw_isRacing {ρ : Type} (e : zRes → Option ρ) {krA : Int → zH → Option ρ} {krZ : Int → zH → Option zRes} (hk : ∀ v h, (krZ v h).bind e = krA v h) (a0 a1 a2 a3 : Int) (h : zH) : (Lw_isRacing a0 a1 a2 a3 h krZ).bind e = Lw_isRacing a0 a1 a2 a3 h krA := by
  refine Eq.trans (congrArg (fun z => Option.bind z e) (qe_Lw_isRacing krZ a0 a1 a2 a3 h)) (Eq.trans ?_ (Eq.symm (qe_Lw_isRacing krA a0 a1 a2 a3 h)))
  generalize (400 : Nat) = f9
  refine zseg_e e (zcal_e _ _ ?_) (zorc_e _ _ ?_) hk (fun _ _ => rfl) f9 _ _ _ _
  · exact ⟨rfl, rfl, zcx3_e (fun x0 x1 x2 h k t => n_X_isRacing e (fun _ _ => rfl) (fun _ _ => rfl) x0 x1 x2 h), trivial⟩
  · exact ⟨rfl, rfl, rfl, zap3_e (fun x0 x1 x2 h => n_Lw_isRacing_16 e hk x0 x1 x2 h), trivial⟩
set_option maxRecDepth 100000 in
set_option maxHeartbeats 0 in
theorem n_Lw_races {ρ : Type} (e : zRes → Option ρ) {krA : Int → zH → Option ρ} {krZ : Int → zH → Option zRes} (hk : ∀ v h, (krZ v h).bind e = krA v h) (a0 a1 a2 : Int) (h : zH) : (Lw_races a0 a1 a2 h krZ).bind e = Lw_races a0 a1 a2 h krA := by
  refine Eq.trans (congrArg (fun z => Option.bind z e) (qe_Lw_races krZ a0 a1 a2 h)) (Eq.trans ?_ (Eq.symm (qe_Lw_races krA a0 a1 a2 h)))
  generalize (400 : Nat) = f9
  refine zseg_e e (zcal_e _ _ ?_) (zorc_e _ _ ?_) hk (fun _ _ => rfl) f9 _ _ _ _
  · exact ⟨rfl, rfl, zcx2_e (fun x0 x1 h k t => n_X_races e (fun _ _ => rfl) (fun _ _ => rfl) x0 x1 h), trivial⟩
  · exact trivial
set_option maxRecDepth 100000 in
set_option maxHeartbeats 0 in
theorem n_Lw_serial {ρ : Type} (e : zRes → Option ρ) {krA : Int → zH → Option ρ} {krZ : Int → zH → Option zRes} (hk : ∀ v h, (krZ v h).bind e = krA v h) (a0 a1 a2 a3 a4 a5 a6 : Int) (h : zH) : (Lw_serial a0 a1 a2 a3 a4 a5 a6 h krZ).bind e = Lw_serial a0 a1 a2 a3 a4 a5 a6 h krA := by
  refine Eq.trans (congrArg (fun z => Option.bind z e) (qe_Lw_serial krZ a0 a1 a2 a3 a4 a5 a6 h)) (Eq.trans ?_ (Eq.symm (qe_Lw_serial krA a0 a1 a2 a3 a4 a5 a6 h)))
  generalize (400 : Nat) = f9
  refine zseg_e e (zcal_e _ _ ?_) (zorc_e _ _ ?_) hk (fun _ _ => rfl) f9 _ _ _ _
  · exact ⟨rfl, rfl, zcx6_e (fun x0 x1 x2 x3 x4 x5 h k t => n_X_serial e (fun _ _ => rfl) (fun _ _ => rfl) x0 x1 x2 x3 x4 x5 h), trivial⟩
  · exact trivial
set_option maxRecDepth 100000 in
set_option maxHeartbeats 0 in
theorem n_Lw_usedShare {ρ : Type} (e : zRes → Option ρ) {krA : Int → zH → Option ρ} {krZ : Int → zH → Option zRes} (hk : ∀ v h, (krZ v h).bind e = krA v h) (a0 a1 : Int) (h : zH) : (Lw_usedShare a0 a1 h krZ).bind e = Lw_usedShare a0 a1 h krA := by
  refine Eq.trans (congrArg (fun z => Option.bind z e) (qe_Lw_usedShare krZ a0 a1 h)) (Eq.trans ?_ (Eq.symm (qe_Lw_usedShare krA a0 a1 h)))
  generalize (400 : Nat) = f9
  refine zseg_e e (zcal_e _ _ ?_) (zorc_e _ _ ?_) hk (fun _ _ => rfl) f9 _ _ _ _
  · exact ⟨rfl, rfl, zcx1_e (fun x0 h k t => n_X_usedShare e (fun _ _ => rfl) (fun _ _ => rfl) x0 h), trivial⟩
  · exact trivial
set_option maxRecDepth 100000 in
set_option maxHeartbeats 0 in
theorem n_Lw_meanDelay {ρ : Type} (e : zRes → Option ρ) {krA : Int → zH → Option ρ} {krZ : Int → zH → Option zRes} (hk : ∀ v h, (krZ v h).bind e = krA v h) (a0 a1 : Int) (h : zH) : (Lw_meanDelay a0 a1 h krZ).bind e = Lw_meanDelay a0 a1 h krA := by
  refine Eq.trans (congrArg (fun z => Option.bind z e) (qe_Lw_meanDelay krZ a0 a1 h)) (Eq.trans ?_ (Eq.symm (qe_Lw_meanDelay krA a0 a1 h)))
  generalize (400 : Nat) = f9
  refine zseg_e e (zcal_e _ _ ?_) (zorc_e _ _ ?_) hk (fun _ _ => rfl) f9 _ _ _ _
  · exact ⟨rfl, rfl, zcx1_e (fun x0 h k t => n_X_meanDelay e (fun _ _ => rfl) (fun _ _ => rfl) x0 h), trivial⟩
  · exact trivial
set_option maxRecDepth 100000 in
set_option maxHeartbeats 0 in
theorem n_Lw_law_2355 {ρ : Type} (e : zRes → Option ρ) {krA : Int → zH → Option ρ} {krZ : Int → zH → Option zRes} (hk : ∀ v h, (krZ v h).bind e = krA v h) {r28A : Int → Int → Int → Int → Int → Int → zH → Option ρ} {r28Z : Int → Int → Int → Int → Int → Int → zH → Option zRes} (h28 : ∀ (x0 x1 x2 x3 x4 x5 : Int) (h : zH), (r28Z x0 x1 x2 x3 x4 x5 h).bind e = r28A x0 x1 x2 x3 x4 x5 h) (a0 a1 a2 a3 a4 a5 : Int) (h : zH) : (Lw_law_2355 krZ r28Z a0 a1 a2 a3 a4 a5 h).bind e = Lw_law_2355 krA r28A a0 a1 a2 a3 a4 a5 h := by
  refine Eq.trans (congrArg (fun z => Option.bind z e) (qe_Lw_law_2355 krZ r28Z a0 a1 a2 a3 a4 a5 h)) (Eq.trans ?_ (Eq.symm (qe_Lw_law_2355 krA r28A a0 a1 a2 a3 a4 a5 h)))
  generalize (400 : Nat) = f9
  refine zseg_e e (zcal_e _ _ ?_) (zorc_e _ _ ?_) hk (fun _ _ => rfl) f9 _ _ _ _
  · exact trivial
  · exact ⟨rfl, rfl, rfl, zap6_e h28, trivial⟩
set_option maxRecDepth 100000 in
set_option maxHeartbeats 0 in
theorem n_Lw_law_273 {ρ : Type} (e : zRes → Option ρ) {krA : Int → zH → Option ρ} {krZ : Int → zH → Option zRes} (hk : ∀ v h, (krZ v h).bind e = krA v h) {r28A : Int → Int → Int → Int → Int → Int → zH → Option ρ} {r28Z : Int → Int → Int → Int → Int → Int → zH → Option zRes} (h28 : ∀ (x0 x1 x2 x3 x4 x5 : Int) (h : zH), (r28Z x0 x1 x2 x3 x4 x5 h).bind e = r28A x0 x1 x2 x3 x4 x5 h) (a0 a1 a2 a3 a4 a5 : Int) (h : zH) : (Lw_law_273 krZ r28Z a0 a1 a2 a3 a4 a5 h).bind e = Lw_law_273 krA r28A a0 a1 a2 a3 a4 a5 h := by
  refine Eq.trans (congrArg (fun z => Option.bind z e) (qe_Lw_law_273 krZ r28Z a0 a1 a2 a3 a4 a5 h)) (Eq.trans ?_ (Eq.symm (qe_Lw_law_273 krA r28A a0 a1 a2 a3 a4 a5 h)))
  generalize (400 : Nat) = f9
  refine zseg_e e (zcal_e _ _ ?_) (zorc_e _ _ ?_) hk (fun _ _ => rfl) f9 _ _ _ _
  · exact trivial
  · exact ⟨rfl, rfl, rfl, zap6_e (fun x0 x1 x2 x3 x4 x5 h => n_Lw_law_2355 e hk h28 x0 x1 x2 x3 x4 x5 h), trivial⟩
set_option maxRecDepth 100000 in
set_option maxHeartbeats 0 in
theorem n_Lw_law_208 {ρ : Type} (e : zRes → Option ρ) {krA : Int → zH → Option ρ} {krZ : Int → zH → Option zRes} (hk : ∀ v h, (krZ v h).bind e = krA v h) {r28A : Int → Int → Int → Int → Int → Int → zH → Option ρ} {r28Z : Int → Int → Int → Int → Int → Int → zH → Option zRes} (h28 : ∀ (x0 x1 x2 x3 x4 x5 : Int) (h : zH), (r28Z x0 x1 x2 x3 x4 x5 h).bind e = r28A x0 x1 x2 x3 x4 x5 h) (a0 a1 a2 a3 a4 a5 : Int) (h : zH) : (Lw_law_208 krZ r28Z a0 a1 a2 a3 a4 a5 h).bind e = Lw_law_208 krA r28A a0 a1 a2 a3 a4 a5 h := by
  refine Eq.trans (congrArg (fun z => Option.bind z e) (qe_Lw_law_208 krZ r28Z a0 a1 a2 a3 a4 a5 h)) (Eq.trans ?_ (Eq.symm (qe_Lw_law_208 krA r28A a0 a1 a2 a3 a4 a5 h)))
  generalize (400 : Nat) = f9
  refine zseg_e e (zcal_e _ _ ?_) (zorc_e _ _ ?_) hk (fun _ _ => rfl) f9 _ _ _ _
  · exact ⟨rfl, rfl, zcm0_e (fun  h k t => n_M_thrown e (fun _ _ => rfl)  h), ⟨rfl, rfl, zcm2_e (fun x0 x1 h k t => n_M_addKernel e (fun _ _ => rfl) x0 x1 h), ⟨rfl, rfl, zca4_e (fun x0 x1 x2 x3 h k t => n_Lw_addKernel e (fun _ _ => rfl) x0 x1 x2 x3 h), trivial⟩⟩⟩
  · exact ⟨rfl, rfl, rfl, zap6_e (fun x0 x1 x2 x3 x4 x5 h => n_Lw_law_273 e hk h28 x0 x1 x2 x3 x4 x5 h), trivial⟩
set_option maxRecDepth 100000 in
set_option maxHeartbeats 0 in
theorem n_Lw_law_379 {ρ : Type} (e : zRes → Option ρ) {krA : Int → zH → Option ρ} {krZ : Int → zH → Option zRes} (hk : ∀ v h, (krZ v h).bind e = krA v h) {r28A : Int → Int → Int → Int → Int → Int → zH → Option ρ} {r28Z : Int → Int → Int → Int → Int → Int → zH → Option zRes} (h28 : ∀ (x0 x1 x2 x3 x4 x5 : Int) (h : zH), (r28Z x0 x1 x2 x3 x4 x5 h).bind e = r28A x0 x1 x2 x3 x4 x5 h) (a0 a1 a2 a3 a4 a5 : Int) (h : zH) : (Lw_law_379 krZ r28Z a0 a1 a2 a3 a4 a5 h).bind e = Lw_law_379 krA r28A a0 a1 a2 a3 a4 a5 h := by
  refine Eq.trans (congrArg (fun z => Option.bind z e) (qe_Lw_law_379 krZ r28Z a0 a1 a2 a3 a4 a5 h)) (Eq.trans ?_ (Eq.symm (qe_Lw_law_379 krA r28A a0 a1 a2 a3 a4 a5 h)))
  generalize (400 : Nat) = f9
  refine zseg_e e (zcal_e _ _ ?_) (zorc_e _ _ ?_) hk (fun _ _ => rfl) f9 _ _ _ _
  · exact trivial
  · exact ⟨rfl, rfl, rfl, zap6_e (fun x0 x1 x2 x3 x4 x5 h => n_Lw_law_2355 e hk h28 x0 x1 x2 x3 x4 x5 h), trivial⟩
set_option maxRecDepth 100000 in
set_option maxHeartbeats 0 in
theorem n_Lw_law_276 {ρ : Type} (e : zRes → Option ρ) {krA : Int → zH → Option ρ} {krZ : Int → zH → Option zRes} (hk : ∀ v h, (krZ v h).bind e = krA v h) {r28A : Int → Int → Int → Int → Int → Int → zH → Option ρ} {r28Z : Int → Int → Int → Int → Int → Int → zH → Option zRes} (h28 : ∀ (x0 x1 x2 x3 x4 x5 : Int) (h : zH), (r28Z x0 x1 x2 x3 x4 x5 h).bind e = r28A x0 x1 x2 x3 x4 x5 h) (a0 a1 a2 a3 a4 a5 : Int) (h : zH) : (Lw_law_276 krZ r28Z a0 a1 a2 a3 a4 a5 h).bind e = Lw_law_276 krA r28A a0 a1 a2 a3 a4 a5 h := by
  refine Eq.trans (congrArg (fun z => Option.bind z e) (qe_Lw_law_276 krZ r28Z a0 a1 a2 a3 a4 a5 h)) (Eq.trans ?_ (Eq.symm (qe_Lw_law_276 krA r28A a0 a1 a2 a3 a4 a5 h)))
  generalize (400 : Nat) = f9
  refine zseg_e e (zcal_e _ _ ?_) (zorc_e _ _ ?_) hk (fun _ _ => rfl) f9 _ _ _ _
  · exact ⟨rfl, rfl, zcm0_e (fun  h k t => n_M_thrown e (fun _ _ => rfl)  h), ⟨rfl, rfl, zcm5_e (fun x0 x1 x2 x3 x4 h k t => n_M_code e (fun _ _ => rfl) x0 x1 x2 x3 x4 h), ⟨rfl, rfl, zca7_e (fun x0 x1 x2 x3 x4 x5 x6 h k t => n_Lw_code e (fun _ _ => rfl) x0 x1 x2 x3 x4 x5 x6 h), trivial⟩⟩⟩
  · exact ⟨rfl, rfl, rfl, zap6_e (fun x0 x1 x2 x3 x4 x5 h => n_Lw_law_379 e hk h28 x0 x1 x2 x3 x4 x5 h), trivial⟩
set_option maxRecDepth 100000 in
set_option maxHeartbeats 0 in
theorem n_Lw_law_447 {ρ : Type} (e : zRes → Option ρ) {krA : Int → zH → Option ρ} {krZ : Int → zH → Option zRes} (hk : ∀ v h, (krZ v h).bind e = krA v h) {r28A : Int → Int → Int → Int → Int → Int → zH → Option ρ} {r28Z : Int → Int → Int → Int → Int → Int → zH → Option zRes} (h28 : ∀ (x0 x1 x2 x3 x4 x5 : Int) (h : zH), (r28Z x0 x1 x2 x3 x4 x5 h).bind e = r28A x0 x1 x2 x3 x4 x5 h) (a0 a1 a2 a3 a4 a5 : Int) (h : zH) : (Lw_law_447 krZ r28Z a0 a1 a2 a3 a4 a5 h).bind e = Lw_law_447 krA r28A a0 a1 a2 a3 a4 a5 h := by
  refine Eq.trans (congrArg (fun z => Option.bind z e) (qe_Lw_law_447 krZ r28Z a0 a1 a2 a3 a4 a5 h)) (Eq.trans ?_ (Eq.symm (qe_Lw_law_447 krA r28A a0 a1 a2 a3 a4 a5 h)))
  generalize (400 : Nat) = f9
  refine zseg_e e (zcal_e _ _ ?_) (zorc_e _ _ ?_) hk (fun _ _ => rfl) f9 _ _ _ _
  · exact trivial
  · exact ⟨rfl, rfl, rfl, zap6_e (fun x0 x1 x2 x3 x4 x5 h => n_Lw_law_2355 e hk h28 x0 x1 x2 x3 x4 x5 h), trivial⟩
set_option maxRecDepth 100000 in
set_option maxHeartbeats 0 in
theorem n_Lw_law_382 {ρ : Type} (e : zRes → Option ρ) {krA : Int → zH → Option ρ} {krZ : Int → zH → Option zRes} (hk : ∀ v h, (krZ v h).bind e = krA v h) {r28A : Int → Int → Int → Int → Int → Int → zH → Option ρ} {r28Z : Int → Int → Int → Int → Int → Int → zH → Option zRes} (h28 : ∀ (x0 x1 x2 x3 x4 x5 : Int) (h : zH), (r28Z x0 x1 x2 x3 x4 x5 h).bind e = r28A x0 x1 x2 x3 x4 x5 h) (a0 a1 a2 a3 a4 a5 : Int) (h : zH) : (Lw_law_382 krZ r28Z a0 a1 a2 a3 a4 a5 h).bind e = Lw_law_382 krA r28A a0 a1 a2 a3 a4 a5 h := by
  refine Eq.trans (congrArg (fun z => Option.bind z e) (qe_Lw_law_382 krZ r28Z a0 a1 a2 a3 a4 a5 h)) (Eq.trans ?_ (Eq.symm (qe_Lw_law_382 krA r28A a0 a1 a2 a3 a4 a5 h)))
  generalize (400 : Nat) = f9
  refine zseg_e e (zcal_e _ _ ?_) (zorc_e _ _ ?_) hk (fun _ _ => rfl) f9 _ _ _ _
  · exact ⟨rfl, rfl, zcm0_e (fun  h k t => n_M_thrown e (fun _ _ => rfl)  h), ⟨rfl, rfl, zcm2_e (fun x0 x1 h k t => n_M_fits e (fun _ _ => rfl) x0 x1 h), ⟨rfl, rfl, zca4_e (fun x0 x1 x2 x3 h k t => n_Lw_fits e (fun _ _ => rfl) x0 x1 x2 x3 h), trivial⟩⟩⟩
  · exact ⟨rfl, rfl, rfl, zap6_e (fun x0 x1 x2 x3 x4 x5 h => n_Lw_law_447 e hk h28 x0 x1 x2 x3 x4 x5 h), trivial⟩
set_option maxRecDepth 100000 in
set_option maxHeartbeats 0 in
theorem n_Lw_law_515 {ρ : Type} (e : zRes → Option ρ) {krA : Int → zH → Option ρ} {krZ : Int → zH → Option zRes} (hk : ∀ v h, (krZ v h).bind e = krA v h) {r28A : Int → Int → Int → Int → Int → Int → zH → Option ρ} {r28Z : Int → Int → Int → Int → Int → Int → zH → Option zRes} (h28 : ∀ (x0 x1 x2 x3 x4 x5 : Int) (h : zH), (r28Z x0 x1 x2 x3 x4 x5 h).bind e = r28A x0 x1 x2 x3 x4 x5 h) (a0 a1 a2 a3 a4 a5 : Int) (h : zH) : (Lw_law_515 krZ r28Z a0 a1 a2 a3 a4 a5 h).bind e = Lw_law_515 krA r28A a0 a1 a2 a3 a4 a5 h := by
  refine Eq.trans (congrArg (fun z => Option.bind z e) (qe_Lw_law_515 krZ r28Z a0 a1 a2 a3 a4 a5 h)) (Eq.trans ?_ (Eq.symm (qe_Lw_law_515 krA r28A a0 a1 a2 a3 a4 a5 h)))
  generalize (400 : Nat) = f9
  refine zseg_e e (zcal_e _ _ ?_) (zorc_e _ _ ?_) hk (fun _ _ => rfl) f9 _ _ _ _
  · exact trivial
  · exact ⟨rfl, rfl, rfl, zap6_e (fun x0 x1 x2 x3 x4 x5 h => n_Lw_law_2355 e hk h28 x0 x1 x2 x3 x4 x5 h), trivial⟩
set_option maxRecDepth 100000 in
set_option maxHeartbeats 0 in
theorem n_Lw_law_450 {ρ : Type} (e : zRes → Option ρ) {krA : Int → zH → Option ρ} {krZ : Int → zH → Option zRes} (hk : ∀ v h, (krZ v h).bind e = krA v h) {r28A : Int → Int → Int → Int → Int → Int → zH → Option ρ} {r28Z : Int → Int → Int → Int → Int → Int → zH → Option zRes} (h28 : ∀ (x0 x1 x2 x3 x4 x5 : Int) (h : zH), (r28Z x0 x1 x2 x3 x4 x5 h).bind e = r28A x0 x1 x2 x3 x4 x5 h) (a0 a1 a2 a3 a4 a5 : Int) (h : zH) : (Lw_law_450 krZ r28Z a0 a1 a2 a3 a4 a5 h).bind e = Lw_law_450 krA r28A a0 a1 a2 a3 a4 a5 h := by
  refine Eq.trans (congrArg (fun z => Option.bind z e) (qe_Lw_law_450 krZ r28Z a0 a1 a2 a3 a4 a5 h)) (Eq.trans ?_ (Eq.symm (qe_Lw_law_450 krA r28A a0 a1 a2 a3 a4 a5 h)))
  generalize (400 : Nat) = f9
  refine zseg_e e (zcal_e _ _ ?_) (zorc_e _ _ ?_) hk (fun _ _ => rfl) f9 _ _ _ _
  · exact ⟨rfl, rfl, zcm0_e (fun  h k t => n_M_thrown e (fun _ _ => rfl)  h), ⟨rfl, rfl, zcm2_e (fun x0 x1 h k t => n_M_poke e (fun _ _ => rfl) x0 x1 h), ⟨rfl, rfl, zca4_e (fun x0 x1 x2 x3 h k t => n_Lw_poke e (fun _ _ => rfl) x0 x1 x2 x3 h), trivial⟩⟩⟩
  · exact ⟨rfl, rfl, rfl, zap6_e (fun x0 x1 x2 x3 x4 x5 h => n_Lw_law_515 e hk h28 x0 x1 x2 x3 x4 x5 h), trivial⟩
set_option maxRecDepth 100000 in
set_option maxHeartbeats 0 in
theorem n_Lw_law_571 {ρ : Type} (e : zRes → Option ρ) {krA : Int → zH → Option ρ} {krZ : Int → zH → Option zRes} (hk : ∀ v h, (krZ v h).bind e = krA v h) {r28A : Int → Int → Int → Int → Int → Int → zH → Option ρ} {r28Z : Int → Int → Int → Int → Int → Int → zH → Option zRes} (h28 : ∀ (x0 x1 x2 x3 x4 x5 : Int) (h : zH), (r28Z x0 x1 x2 x3 x4 x5 h).bind e = r28A x0 x1 x2 x3 x4 x5 h) (a0 a1 a2 a3 a4 a5 : Int) (h : zH) : (Lw_law_571 krZ r28Z a0 a1 a2 a3 a4 a5 h).bind e = Lw_law_571 krA r28A a0 a1 a2 a3 a4 a5 h := by
  refine Eq.trans (congrArg (fun z => Option.bind z e) (qe_Lw_law_571 krZ r28Z a0 a1 a2 a3 a4 a5 h)) (Eq.trans ?_ (Eq.symm (qe_Lw_law_571 krA r28A a0 a1 a2 a3 a4 a5 h)))
  generalize (400 : Nat) = f9
  refine zseg_e e (zcal_e _ _ ?_) (zorc_e _ _ ?_) hk (fun _ _ => rfl) f9 _ _ _ _
  · exact trivial
  · exact ⟨rfl, rfl, rfl, zap6_e (fun x0 x1 x2 x3 x4 x5 h => n_Lw_law_2355 e hk h28 x0 x1 x2 x3 x4 x5 h), trivial⟩
set_option maxRecDepth 100000 in
set_option maxHeartbeats 0 in
theorem n_Lw_law_518 {ρ : Type} (e : zRes → Option ρ) {krA : Int → zH → Option ρ} {krZ : Int → zH → Option zRes} (hk : ∀ v h, (krZ v h).bind e = krA v h) {r28A : Int → Int → Int → Int → Int → Int → zH → Option ρ} {r28Z : Int → Int → Int → Int → Int → Int → zH → Option zRes} (h28 : ∀ (x0 x1 x2 x3 x4 x5 : Int) (h : zH), (r28Z x0 x1 x2 x3 x4 x5 h).bind e = r28A x0 x1 x2 x3 x4 x5 h) (a0 a1 a2 a3 a4 a5 : Int) (h : zH) : (Lw_law_518 krZ r28Z a0 a1 a2 a3 a4 a5 h).bind e = Lw_law_518 krA r28A a0 a1 a2 a3 a4 a5 h := by
  refine Eq.trans (congrArg (fun z => Option.bind z e) (qe_Lw_law_518 krZ r28Z a0 a1 a2 a3 a4 a5 h)) (Eq.trans ?_ (Eq.symm (qe_Lw_law_518 krA r28A a0 a1 a2 a3 a4 a5 h)))
  generalize (400 : Nat) = f9
  refine zseg_e e (zcal_e _ _ ?_) (zorc_e _ _ ?_) hk (fun _ _ => rfl) f9 _ _ _ _
  · exact ⟨rfl, rfl, zcm0_e (fun  h k t => n_M_thrown e (fun _ _ => rfl)  h), ⟨rfl, rfl, zcm1_e (fun x0 h k t => n_M_peek e (fun _ _ => rfl) x0 h), ⟨rfl, rfl, zca3_e (fun x0 x1 x2 h k t => n_Lw_peek e (fun _ _ => rfl) x0 x1 x2 h), trivial⟩⟩⟩
  · exact ⟨rfl, rfl, rfl, zap6_e (fun x0 x1 x2 x3 x4 x5 h => n_Lw_law_571 e hk h28 x0 x1 x2 x3 x4 x5 h), trivial⟩
set_option maxRecDepth 100000 in
set_option maxHeartbeats 0 in
theorem n_Lw_law_675 {ρ : Type} (e : zRes → Option ρ) {krA : Int → zH → Option ρ} {krZ : Int → zH → Option zRes} (hk : ∀ v h, (krZ v h).bind e = krA v h) {r28A : Int → Int → Int → Int → Int → Int → zH → Option ρ} {r28Z : Int → Int → Int → Int → Int → Int → zH → Option zRes} (h28 : ∀ (x0 x1 x2 x3 x4 x5 : Int) (h : zH), (r28Z x0 x1 x2 x3 x4 x5 h).bind e = r28A x0 x1 x2 x3 x4 x5 h) (a0 a1 a2 a3 a4 a5 : Int) (h : zH) : (Lw_law_675 krZ r28Z a0 a1 a2 a3 a4 a5 h).bind e = Lw_law_675 krA r28A a0 a1 a2 a3 a4 a5 h := by
  refine Eq.trans (congrArg (fun z => Option.bind z e) (qe_Lw_law_675 krZ r28Z a0 a1 a2 a3 a4 a5 h)) (Eq.trans ?_ (Eq.symm (qe_Lw_law_675 krA r28A a0 a1 a2 a3 a4 a5 h)))
  generalize (400 : Nat) = f9
  refine zseg_e e (zcal_e _ _ ?_) (zorc_e _ _ ?_) hk (fun _ _ => rfl) f9 _ _ _ _
  · exact trivial
  · exact ⟨rfl, rfl, rfl, zap6_e (fun x0 x1 x2 x3 x4 x5 h => n_Lw_law_2355 e hk h28 x0 x1 x2 x3 x4 x5 h), trivial⟩
set_option maxRecDepth 100000 in
set_option maxHeartbeats 0 in
theorem n_Lw_law_574 {ρ : Type} (e : zRes → Option ρ) {krA : Int → zH → Option ρ} {krZ : Int → zH → Option zRes} (hk : ∀ v h, (krZ v h).bind e = krA v h) {r28A : Int → Int → Int → Int → Int → Int → zH → Option ρ} {r28Z : Int → Int → Int → Int → Int → Int → zH → Option zRes} (h28 : ∀ (x0 x1 x2 x3 x4 x5 : Int) (h : zH), (r28Z x0 x1 x2 x3 x4 x5 h).bind e = r28A x0 x1 x2 x3 x4 x5 h) (a0 a1 a2 a3 a4 a5 : Int) (h : zH) : (Lw_law_574 krZ r28Z a0 a1 a2 a3 a4 a5 h).bind e = Lw_law_574 krA r28A a0 a1 a2 a3 a4 a5 h := by
  refine Eq.trans (congrArg (fun z => Option.bind z e) (qe_Lw_law_574 krZ r28Z a0 a1 a2 a3 a4 a5 h)) (Eq.trans ?_ (Eq.symm (qe_Lw_law_574 krA r28A a0 a1 a2 a3 a4 a5 h)))
  generalize (400 : Nat) = f9
  refine zseg_e e (zcal_e _ _ ?_) (zorc_e _ _ ?_) hk (fun _ _ => rfl) f9 _ _ _ _
  · exact ⟨rfl, rfl, zcm0_e (fun  h k t => n_M_thrown e (fun _ _ => rfl)  h), ⟨rfl, rfl, zcm5_e (fun x0 x1 x2 x3 x4 h k t => n_M_launch e (fun _ _ => rfl) x0 x1 x2 x3 x4 h), ⟨rfl, rfl, zca7_e (fun x0 x1 x2 x3 x4 x5 x6 h k t => n_Lw_launch e (fun _ _ => rfl) x0 x1 x2 x3 x4 x5 x6 h), trivial⟩⟩⟩
  · exact ⟨rfl, rfl, rfl, zap6_e (fun x0 x1 x2 x3 x4 x5 h => n_Lw_law_675 e hk h28 x0 x1 x2 x3 x4 x5 h), trivial⟩
set_option maxRecDepth 100000 in
set_option maxHeartbeats 0 in
theorem n_Lw_law_779 {ρ : Type} (e : zRes → Option ρ) {krA : Int → zH → Option ρ} {krZ : Int → zH → Option zRes} (hk : ∀ v h, (krZ v h).bind e = krA v h) {r28A : Int → Int → Int → Int → Int → Int → zH → Option ρ} {r28Z : Int → Int → Int → Int → Int → Int → zH → Option zRes} (h28 : ∀ (x0 x1 x2 x3 x4 x5 : Int) (h : zH), (r28Z x0 x1 x2 x3 x4 x5 h).bind e = r28A x0 x1 x2 x3 x4 x5 h) (a0 a1 a2 a3 a4 a5 : Int) (h : zH) : (Lw_law_779 krZ r28Z a0 a1 a2 a3 a4 a5 h).bind e = Lw_law_779 krA r28A a0 a1 a2 a3 a4 a5 h := by
  refine Eq.trans (congrArg (fun z => Option.bind z e) (qe_Lw_law_779 krZ r28Z a0 a1 a2 a3 a4 a5 h)) (Eq.trans ?_ (Eq.symm (qe_Lw_law_779 krA r28A a0 a1 a2 a3 a4 a5 h)))
  generalize (400 : Nat) = f9
  refine zseg_e e (zcal_e _ _ ?_) (zorc_e _ _ ?_) hk (fun _ _ => rfl) f9 _ _ _ _
  · exact trivial
  · exact ⟨rfl, rfl, rfl, zap6_e (fun x0 x1 x2 x3 x4 x5 h => n_Lw_law_2355 e hk h28 x0 x1 x2 x3 x4 x5 h), trivial⟩
set_option maxRecDepth 100000 in
set_option maxHeartbeats 0 in
theorem n_Lw_law_678 {ρ : Type} (e : zRes → Option ρ) {krA : Int → zH → Option ρ} {krZ : Int → zH → Option zRes} (hk : ∀ v h, (krZ v h).bind e = krA v h) {r28A : Int → Int → Int → Int → Int → Int → zH → Option ρ} {r28Z : Int → Int → Int → Int → Int → Int → zH → Option zRes} (h28 : ∀ (x0 x1 x2 x3 x4 x5 : Int) (h : zH), (r28Z x0 x1 x2 x3 x4 x5 h).bind e = r28A x0 x1 x2 x3 x4 x5 h) (a0 a1 a2 a3 a4 a5 : Int) (h : zH) : (Lw_law_678 krZ r28Z a0 a1 a2 a3 a4 a5 h).bind e = Lw_law_678 krA r28A a0 a1 a2 a3 a4 a5 h := by
  refine Eq.trans (congrArg (fun z => Option.bind z e) (qe_Lw_law_678 krZ r28Z a0 a1 a2 a3 a4 a5 h)) (Eq.trans ?_ (Eq.symm (qe_Lw_law_678 krA r28A a0 a1 a2 a3 a4 a5 h)))
  generalize (400 : Nat) = f9
  refine zseg_e e (zcal_e _ _ ?_) (zorc_e _ _ ?_) hk (fun _ _ => rfl) f9 _ _ _ _
  · exact ⟨rfl, rfl, zcm0_e (fun  h k t => n_M_thrown e (fun _ _ => rfl)  h), ⟨rfl, rfl, zcm5_e (fun x0 x1 x2 x3 x4 h k t => n_M_copy e (fun _ _ => rfl) x0 x1 x2 x3 x4 h), ⟨rfl, rfl, zca7_e (fun x0 x1 x2 x3 x4 x5 x6 h k t => n_Lw_copy e (fun _ _ => rfl) x0 x1 x2 x3 x4 x5 x6 h), trivial⟩⟩⟩
  · exact ⟨rfl, rfl, rfl, zap6_e (fun x0 x1 x2 x3 x4 x5 h => n_Lw_law_779 e hk h28 x0 x1 x2 x3 x4 x5 h), trivial⟩
set_option maxRecDepth 100000 in
set_option maxHeartbeats 0 in
theorem n_Lw_law_782 {ρ : Type} (e : zRes → Option ρ) {krA : Int → zH → Option ρ} {krZ : Int → zH → Option zRes} (hk : ∀ v h, (krZ v h).bind e = krA v h) {r28A : Int → Int → Int → Int → Int → Int → zH → Option ρ} {r28Z : Int → Int → Int → Int → Int → Int → zH → Option zRes} (h28 : ∀ (x0 x1 x2 x3 x4 x5 : Int) (h : zH), (r28Z x0 x1 x2 x3 x4 x5 h).bind e = r28A x0 x1 x2 x3 x4 x5 h) (a0 a1 a2 a3 a4 a5 : Int) (h : zH) : (Lw_law_782 krZ r28Z a0 a1 a2 a3 a4 a5 h).bind e = Lw_law_782 krA r28A a0 a1 a2 a3 a4 a5 h := by
  refine Eq.trans (congrArg (fun z => Option.bind z e) (qe_Lw_law_782 krZ r28Z a0 a1 a2 a3 a4 a5 h)) (Eq.trans ?_ (Eq.symm (qe_Lw_law_782 krA r28A a0 a1 a2 a3 a4 a5 h)))
  generalize (400 : Nat) = f9
  refine zseg_e e (zcal_e _ _ ?_) (zorc_e _ _ ?_) hk (fun _ _ => rfl) f9 _ _ _ _
  · exact ⟨rfl, rfl, zca1_e (fun x0 h k t => n_X_launches e (fun _ _ => rfl) x0 h), ⟨rfl, rfl, zcm0_e (fun  h k t => n_M_launches e (fun _ _ => rfl)  h), trivial⟩⟩
  · exact ⟨rfl, rfl, rfl, zap6_e (fun x0 x1 x2 x3 x4 x5 h => n_Lw_law_2355 e hk h28 x0 x1 x2 x3 x4 x5 h), trivial⟩
set_option maxRecDepth 100000 in
set_option maxHeartbeats 0 in
theorem n_Lw_law_848 {ρ : Type} (e : zRes → Option ρ) {krA : Int → zH → Option ρ} {krZ : Int → zH → Option zRes} (hk : ∀ v h, (krZ v h).bind e = krA v h) {r28A : Int → Int → Int → Int → Int → Int → zH → Option ρ} {r28Z : Int → Int → Int → Int → Int → Int → zH → Option zRes} (h28 : ∀ (x0 x1 x2 x3 x4 x5 : Int) (h : zH), (r28Z x0 x1 x2 x3 x4 x5 h).bind e = r28A x0 x1 x2 x3 x4 x5 h) (a0 a1 a2 a3 a4 a5 : Int) (h : zH) : (Lw_law_848 krZ r28Z a0 a1 a2 a3 a4 a5 h).bind e = Lw_law_848 krA r28A a0 a1 a2 a3 a4 a5 h := by
  refine Eq.trans (congrArg (fun z => Option.bind z e) (qe_Lw_law_848 krZ r28Z a0 a1 a2 a3 a4 a5 h)) (Eq.trans ?_ (Eq.symm (qe_Lw_law_848 krA r28A a0 a1 a2 a3 a4 a5 h)))
  generalize (400 : Nat) = f9
  refine zseg_e e (zcal_e _ _ ?_) (zorc_e _ _ ?_) hk (fun _ _ => rfl) f9 _ _ _ _
  · exact trivial
  · exact ⟨rfl, rfl, rfl, zap6_e (fun x0 x1 x2 x3 x4 x5 h => n_Lw_law_2355 e hk h28 x0 x1 x2 x3 x4 x5 h), trivial⟩
set_option maxRecDepth 100000 in
set_option maxHeartbeats 0 in
theorem n_Lw_law_795 {ρ : Type} (e : zRes → Option ρ) {krA : Int → zH → Option ρ} {krZ : Int → zH → Option zRes} (hk : ∀ v h, (krZ v h).bind e = krA v h) {r28A : Int → Int → Int → Int → Int → Int → zH → Option ρ} {r28Z : Int → Int → Int → Int → Int → Int → zH → Option zRes} (h28 : ∀ (x0 x1 x2 x3 x4 x5 : Int) (h : zH), (r28Z x0 x1 x2 x3 x4 x5 h).bind e = r28A x0 x1 x2 x3 x4 x5 h) (a0 a1 a2 a3 a4 a5 : Int) (h : zH) : (Lw_law_795 krZ r28Z a0 a1 a2 a3 a4 a5 h).bind e = Lw_law_795 krA r28A a0 a1 a2 a3 a4 a5 h := by
  refine Eq.trans (congrArg (fun z => Option.bind z e) (qe_Lw_law_795 krZ r28Z a0 a1 a2 a3 a4 a5 h)) (Eq.trans ?_ (Eq.symm (qe_Lw_law_795 krA r28A a0 a1 a2 a3 a4 a5 h)))
  generalize (400 : Nat) = f9
  refine zseg_e e (zcal_e _ _ ?_) (zorc_e _ _ ?_) hk (fun _ _ => rfl) f9 _ _ _ _
  · exact ⟨rfl, rfl, zcm0_e (fun  h k t => n_M_thrown e (fun _ _ => rfl)  h), ⟨rfl, rfl, zcm1_e (fun x0 h k t => n_M_state e (fun _ _ => rfl) x0 h), ⟨rfl, rfl, zca3_e (fun x0 x1 x2 h k t => n_Lw_state e (fun _ _ => rfl) x0 x1 x2 h), trivial⟩⟩⟩
  · exact ⟨rfl, rfl, rfl, zap6_e (fun x0 x1 x2 x3 x4 x5 h => n_Lw_law_848 e hk h28 x0 x1 x2 x3 x4 x5 h), trivial⟩
set_option maxRecDepth 100000 in
set_option maxHeartbeats 0 in
theorem n_Lw_law_904 {ρ : Type} (e : zRes → Option ρ) {krA : Int → zH → Option ρ} {krZ : Int → zH → Option zRes} (hk : ∀ v h, (krZ v h).bind e = krA v h) {r28A : Int → Int → Int → Int → Int → Int → zH → Option ρ} {r28Z : Int → Int → Int → Int → Int → Int → zH → Option zRes} (h28 : ∀ (x0 x1 x2 x3 x4 x5 : Int) (h : zH), (r28Z x0 x1 x2 x3 x4 x5 h).bind e = r28A x0 x1 x2 x3 x4 x5 h) (a0 a1 a2 a3 a4 a5 : Int) (h : zH) : (Lw_law_904 krZ r28Z a0 a1 a2 a3 a4 a5 h).bind e = Lw_law_904 krA r28A a0 a1 a2 a3 a4 a5 h := by
  refine Eq.trans (congrArg (fun z => Option.bind z e) (qe_Lw_law_904 krZ r28Z a0 a1 a2 a3 a4 a5 h)) (Eq.trans ?_ (Eq.symm (qe_Lw_law_904 krA r28A a0 a1 a2 a3 a4 a5 h)))
  generalize (400 : Nat) = f9
  refine zseg_e e (zcal_e _ _ ?_) (zorc_e _ _ ?_) hk (fun _ _ => rfl) f9 _ _ _ _
  · exact trivial
  · exact ⟨rfl, rfl, rfl, zap6_e (fun x0 x1 x2 x3 x4 x5 h => n_Lw_law_2355 e hk h28 x0 x1 x2 x3 x4 x5 h), trivial⟩
set_option maxRecDepth 100000 in
set_option maxHeartbeats 0 in
theorem n_Lw_law_851 {ρ : Type} (e : zRes → Option ρ) {krA : Int → zH → Option ρ} {krZ : Int → zH → Option zRes} (hk : ∀ v h, (krZ v h).bind e = krA v h) {r28A : Int → Int → Int → Int → Int → Int → zH → Option ρ} {r28Z : Int → Int → Int → Int → Int → Int → zH → Option zRes} (h28 : ∀ (x0 x1 x2 x3 x4 x5 : Int) (h : zH), (r28Z x0 x1 x2 x3 x4 x5 h).bind e = r28A x0 x1 x2 x3 x4 x5 h) (a0 a1 a2 a3 a4 a5 : Int) (h : zH) : (Lw_law_851 krZ r28Z a0 a1 a2 a3 a4 a5 h).bind e = Lw_law_851 krA r28A a0 a1 a2 a3 a4 a5 h := by
  refine Eq.trans (congrArg (fun z => Option.bind z e) (qe_Lw_law_851 krZ r28Z a0 a1 a2 a3 a4 a5 h)) (Eq.trans ?_ (Eq.symm (qe_Lw_law_851 krA r28A a0 a1 a2 a3 a4 a5 h)))
  generalize (400 : Nat) = f9
  refine zseg_e e (zcal_e _ _ ?_) (zorc_e _ _ ?_) hk (fun _ _ => rfl) f9 _ _ _ _
  · exact ⟨rfl, rfl, zcm0_e (fun  h k t => n_M_thrown e (fun _ _ => rfl)  h), ⟨rfl, rfl, zcm1_e (fun x0 h k t => n_M_parent e (fun _ _ => rfl) x0 h), ⟨rfl, rfl, zca3_e (fun x0 x1 x2 h k t => n_Lw_parent e (fun _ _ => rfl) x0 x1 x2 h), trivial⟩⟩⟩
  · exact ⟨rfl, rfl, rfl, zap6_e (fun x0 x1 x2 x3 x4 x5 h => n_Lw_law_904 e hk h28 x0 x1 x2 x3 x4 x5 h), trivial⟩
set_option maxRecDepth 100000 in
set_option maxHeartbeats 0 in
theorem n_Lw_law_960 {ρ : Type} (e : zRes → Option ρ) {krA : Int → zH → Option ρ} {krZ : Int → zH → Option zRes} (hk : ∀ v h, (krZ v h).bind e = krA v h) {r28A : Int → Int → Int → Int → Int → Int → zH → Option ρ} {r28Z : Int → Int → Int → Int → Int → Int → zH → Option zRes} (h28 : ∀ (x0 x1 x2 x3 x4 x5 : Int) (h : zH), (r28Z x0 x1 x2 x3 x4 x5 h).bind e = r28A x0 x1 x2 x3 x4 x5 h) (a0 a1 a2 a3 a4 a5 : Int) (h : zH) : (Lw_law_960 krZ r28Z a0 a1 a2 a3 a4 a5 h).bind e = Lw_law_960 krA r28A a0 a1 a2 a3 a4 a5 h := by
  refine Eq.trans (congrArg (fun z => Option.bind z e) (qe_Lw_law_960 krZ r28Z a0 a1 a2 a3 a4 a5 h)) (Eq.trans ?_ (Eq.symm (qe_Lw_law_960 krA r28A a0 a1 a2 a3 a4 a5 h)))
  generalize (400 : Nat) = f9
  refine zseg_e e (zcal_e _ _ ?_) (zorc_e _ _ ?_) hk (fun _ _ => rfl) f9 _ _ _ _
  · exact trivial
  · exact ⟨rfl, rfl, rfl, zap6_e (fun x0 x1 x2 x3 x4 x5 h => n_Lw_law_2355 e hk h28 x0 x1 x2 x3 x4 x5 h), trivial⟩
set_option maxRecDepth 100000 in
set_option maxHeartbeats 0 in
theorem n_Lw_law_907 {ρ : Type} (e : zRes → Option ρ) {krA : Int → zH → Option ρ} {krZ : Int → zH → Option zRes} (hk : ∀ v h, (krZ v h).bind e = krA v h) {r28A : Int → Int → Int → Int → Int → Int → zH → Option ρ} {r28Z : Int → Int → Int → Int → Int → Int → zH → Option zRes} (h28 : ∀ (x0 x1 x2 x3 x4 x5 : Int) (h : zH), (r28Z x0 x1 x2 x3 x4 x5 h).bind e = r28A x0 x1 x2 x3 x4 x5 h) (a0 a1 a2 a3 a4 a5 : Int) (h : zH) : (Lw_law_907 krZ r28Z a0 a1 a2 a3 a4 a5 h).bind e = Lw_law_907 krA r28A a0 a1 a2 a3 a4 a5 h := by
  refine Eq.trans (congrArg (fun z => Option.bind z e) (qe_Lw_law_907 krZ r28Z a0 a1 a2 a3 a4 a5 h)) (Eq.trans ?_ (Eq.symm (qe_Lw_law_907 krA r28A a0 a1 a2 a3 a4 a5 h)))
  generalize (400 : Nat) = f9
  refine zseg_e e (zcal_e _ _ ?_) (zorc_e _ _ ?_) hk (fun _ _ => rfl) f9 _ _ _ _
  · exact ⟨rfl, rfl, zcm0_e (fun  h k t => n_M_thrown e (fun _ _ => rfl)  h), ⟨rfl, rfl, zcm1_e (fun x0 h k t => n_M_given e (fun _ _ => rfl) x0 h), ⟨rfl, rfl, zca3_e (fun x0 x1 x2 h k t => n_Lw_given e (fun _ _ => rfl) x0 x1 x2 h), trivial⟩⟩⟩
  · exact ⟨rfl, rfl, rfl, zap6_e (fun x0 x1 x2 x3 x4 x5 h => n_Lw_law_960 e hk h28 x0 x1 x2 x3 x4 x5 h), trivial⟩
set_option maxRecDepth 100000 in
set_option maxHeartbeats 0 in
theorem n_Lw_law_1016 {ρ : Type} (e : zRes → Option ρ) {krA : Int → zH → Option ρ} {krZ : Int → zH → Option zRes} (hk : ∀ v h, (krZ v h).bind e = krA v h) {r28A : Int → Int → Int → Int → Int → Int → zH → Option ρ} {r28Z : Int → Int → Int → Int → Int → Int → zH → Option zRes} (h28 : ∀ (x0 x1 x2 x3 x4 x5 : Int) (h : zH), (r28Z x0 x1 x2 x3 x4 x5 h).bind e = r28A x0 x1 x2 x3 x4 x5 h) (a0 a1 a2 a3 a4 a5 : Int) (h : zH) : (Lw_law_1016 krZ r28Z a0 a1 a2 a3 a4 a5 h).bind e = Lw_law_1016 krA r28A a0 a1 a2 a3 a4 a5 h := by
  refine Eq.trans (congrArg (fun z => Option.bind z e) (qe_Lw_law_1016 krZ r28Z a0 a1 a2 a3 a4 a5 h)) (Eq.trans ?_ (Eq.symm (qe_Lw_law_1016 krA r28A a0 a1 a2 a3 a4 a5 h)))
  generalize (400 : Nat) = f9
  refine zseg_e e (zcal_e _ _ ?_) (zorc_e _ _ ?_) hk (fun _ _ => rfl) f9 _ _ _ _
  · exact trivial
  · exact ⟨rfl, rfl, rfl, zap6_e (fun x0 x1 x2 x3 x4 x5 h => n_Lw_law_2355 e hk h28 x0 x1 x2 x3 x4 x5 h), trivial⟩
set_option maxRecDepth 100000 in
set_option maxHeartbeats 0 in
theorem n_Lw_law_963 {ρ : Type} (e : zRes → Option ρ) {krA : Int → zH → Option ρ} {krZ : Int → zH → Option zRes} (hk : ∀ v h, (krZ v h).bind e = krA v h) {r28A : Int → Int → Int → Int → Int → Int → zH → Option ρ} {r28Z : Int → Int → Int → Int → Int → Int → zH → Option zRes} (h28 : ∀ (x0 x1 x2 x3 x4 x5 : Int) (h : zH), (r28Z x0 x1 x2 x3 x4 x5 h).bind e = r28A x0 x1 x2 x3 x4 x5 h) (a0 a1 a2 a3 a4 a5 : Int) (h : zH) : (Lw_law_963 krZ r28Z a0 a1 a2 a3 a4 a5 h).bind e = Lw_law_963 krA r28A a0 a1 a2 a3 a4 a5 h := by
  refine Eq.trans (congrArg (fun z => Option.bind z e) (qe_Lw_law_963 krZ r28Z a0 a1 a2 a3 a4 a5 h)) (Eq.trans ?_ (Eq.symm (qe_Lw_law_963 krA r28A a0 a1 a2 a3 a4 a5 h)))
  generalize (400 : Nat) = f9
  refine zseg_e e (zcal_e _ _ ?_) (zorc_e _ _ ?_) hk (fun _ _ => rfl) f9 _ _ _ _
  · exact ⟨rfl, rfl, zcm0_e (fun  h k t => n_M_thrown e (fun _ _ => rfl)  h), ⟨rfl, rfl, zcm1_e (fun x0 h k t => n_M_step e (fun _ _ => rfl) x0 h), ⟨rfl, rfl, zca3_e (fun x0 x1 x2 h k t => n_Lw_step e (fun _ _ => rfl) x0 x1 x2 h), trivial⟩⟩⟩
  · exact ⟨rfl, rfl, rfl, zap6_e (fun x0 x1 x2 x3 x4 x5 h => n_Lw_law_1016 e hk h28 x0 x1 x2 x3 x4 x5 h), trivial⟩
set_option maxRecDepth 100000 in
set_option maxHeartbeats 0 in
theorem n_Lw_law_1072 {ρ : Type} (e : zRes → Option ρ) {krA : Int → zH → Option ρ} {krZ : Int → zH → Option zRes} (hk : ∀ v h, (krZ v h).bind e = krA v h) {r28A : Int → Int → Int → Int → Int → Int → zH → Option ρ} {r28Z : Int → Int → Int → Int → Int → Int → zH → Option zRes} (h28 : ∀ (x0 x1 x2 x3 x4 x5 : Int) (h : zH), (r28Z x0 x1 x2 x3 x4 x5 h).bind e = r28A x0 x1 x2 x3 x4 x5 h) (a0 a1 a2 a3 a4 a5 : Int) (h : zH) : (Lw_law_1072 krZ r28Z a0 a1 a2 a3 a4 a5 h).bind e = Lw_law_1072 krA r28A a0 a1 a2 a3 a4 a5 h := by
  refine Eq.trans (congrArg (fun z => Option.bind z e) (qe_Lw_law_1072 krZ r28Z a0 a1 a2 a3 a4 a5 h)) (Eq.trans ?_ (Eq.symm (qe_Lw_law_1072 krA r28A a0 a1 a2 a3 a4 a5 h)))
  generalize (400 : Nat) = f9
  refine zseg_e e (zcal_e _ _ ?_) (zorc_e _ _ ?_) hk (fun _ _ => rfl) f9 _ _ _ _
  · exact trivial
  · exact ⟨rfl, rfl, rfl, zap6_e (fun x0 x1 x2 x3 x4 x5 h => n_Lw_law_2355 e hk h28 x0 x1 x2 x3 x4 x5 h), trivial⟩
set_option maxRecDepth 100000 in
set_option maxHeartbeats 0 in
theorem n_Lw_law_1019 {ρ : Type} (e : zRes → Option ρ) {krA : Int → zH → Option ρ} {krZ : Int → zH → Option zRes} (hk : ∀ v h, (krZ v h).bind e = krA v h) {r28A : Int → Int → Int → Int → Int → Int → zH → Option ρ} {r28Z : Int → Int → Int → Int → Int → Int → zH → Option zRes} (h28 : ∀ (x0 x1 x2 x3 x4 x5 : Int) (h : zH), (r28Z x0 x1 x2 x3 x4 x5 h).bind e = r28A x0 x1 x2 x3 x4 x5 h) (a0 a1 a2 a3 a4 a5 : Int) (h : zH) : (Lw_law_1019 krZ r28Z a0 a1 a2 a3 a4 a5 h).bind e = Lw_law_1019 krA r28A a0 a1 a2 a3 a4 a5 h := by
  refine Eq.trans (congrArg (fun z => Option.bind z e) (qe_Lw_law_1019 krZ r28Z a0 a1 a2 a3 a4 a5 h)) (Eq.trans ?_ (Eq.symm (qe_Lw_law_1019 krA r28A a0 a1 a2 a3 a4 a5 h)))
  generalize (400 : Nat) = f9
  refine zseg_e e (zcal_e _ _ ?_) (zorc_e _ _ ?_) hk (fun _ _ => rfl) f9 _ _ _ _
  · exact ⟨rfl, rfl, zcm0_e (fun  h k t => n_M_thrown e (fun _ _ => rfl)  h), ⟨rfl, rfl, zcm1_e (fun x0 h k t => n_M_run e (fun _ _ => rfl) x0 h), ⟨rfl, rfl, zca3_e (fun x0 x1 x2 h k t => n_Lw_run e (fun _ _ => rfl) x0 x1 x2 h), trivial⟩⟩⟩
  · exact ⟨rfl, rfl, rfl, zap6_e (fun x0 x1 x2 x3 x4 x5 h => n_Lw_law_1072 e hk h28 x0 x1 x2 x3 x4 x5 h), trivial⟩
set_option maxRecDepth 100000 in
set_option maxHeartbeats 0 in
theorem n_Lw_law_1130 {ρ : Type} (e : zRes → Option ρ) {krA : Int → zH → Option ρ} {krZ : Int → zH → Option zRes} (hk : ∀ v h, (krZ v h).bind e = krA v h) {r28A : Int → Int → Int → Int → Int → Int → zH → Option ρ} {r28Z : Int → Int → Int → Int → Int → Int → zH → Option zRes} (h28 : ∀ (x0 x1 x2 x3 x4 x5 : Int) (h : zH), (r28Z x0 x1 x2 x3 x4 x5 h).bind e = r28A x0 x1 x2 x3 x4 x5 h) (a0 a1 a2 a3 a4 a5 : Int) (h : zH) : (Lw_law_1130 krZ r28Z a0 a1 a2 a3 a4 a5 h).bind e = Lw_law_1130 krA r28A a0 a1 a2 a3 a4 a5 h := by
  refine Eq.trans (congrArg (fun z => Option.bind z e) (qe_Lw_law_1130 krZ r28Z a0 a1 a2 a3 a4 a5 h)) (Eq.trans ?_ (Eq.symm (qe_Lw_law_1130 krA r28A a0 a1 a2 a3 a4 a5 h)))
  generalize (400 : Nat) = f9
  refine zseg_e e (zcal_e _ _ ?_) (zorc_e _ _ ?_) hk (fun _ _ => rfl) f9 _ _ _ _
  · exact trivial
  · exact ⟨rfl, rfl, rfl, zap6_e (fun x0 x1 x2 x3 x4 x5 h => n_Lw_law_2355 e hk h28 x0 x1 x2 x3 x4 x5 h), trivial⟩
set_option maxRecDepth 100000 in
set_option maxHeartbeats 0 in
theorem n_Lw_law_1075 {ρ : Type} (e : zRes → Option ρ) {krA : Int → zH → Option ρ} {krZ : Int → zH → Option zRes} (hk : ∀ v h, (krZ v h).bind e = krA v h) {r28A : Int → Int → Int → Int → Int → Int → zH → Option ρ} {r28Z : Int → Int → Int → Int → Int → Int → zH → Option zRes} (h28 : ∀ (x0 x1 x2 x3 x4 x5 : Int) (h : zH), (r28Z x0 x1 x2 x3 x4 x5 h).bind e = r28A x0 x1 x2 x3 x4 x5 h) (a0 a1 a2 a3 a4 a5 : Int) (h : zH) : (Lw_law_1075 krZ r28Z a0 a1 a2 a3 a4 a5 h).bind e = Lw_law_1075 krA r28A a0 a1 a2 a3 a4 a5 h := by
  refine Eq.trans (congrArg (fun z => Option.bind z e) (qe_Lw_law_1075 krZ r28Z a0 a1 a2 a3 a4 a5 h)) (Eq.trans ?_ (Eq.symm (qe_Lw_law_1075 krA r28A a0 a1 a2 a3 a4 a5 h)))
  generalize (400 : Nat) = f9
  refine zseg_e e (zcal_e _ _ ?_) (zorc_e _ _ ?_) hk (fun _ _ => rfl) f9 _ _ _ _
  · exact ⟨rfl, rfl, zcm0_e (fun  h k t => n_M_thrown e (fun _ _ => rfl)  h), ⟨rfl, rfl, zcm1_e (fun x0 h k t => n_M_setOrder e (fun _ _ => rfl) x0 h), ⟨rfl, rfl, zca3_e (fun x0 x1 x2 h k t => n_Lw_setOrder e (fun _ _ => rfl) x0 x1 x2 h), trivial⟩⟩⟩
  · exact ⟨rfl, rfl, rfl, zap6_e (fun x0 x1 x2 x3 x4 x5 h => n_Lw_law_1130 e hk h28 x0 x1 x2 x3 x4 x5 h), trivial⟩
set_option maxRecDepth 100000 in
set_option maxHeartbeats 0 in
theorem n_Lw_law_1133 {ρ : Type} (e : zRes → Option ρ) {krA : Int → zH → Option ρ} {krZ : Int → zH → Option zRes} (hk : ∀ v h, (krZ v h).bind e = krA v h) {r28A : Int → Int → Int → Int → Int → Int → zH → Option ρ} {r28Z : Int → Int → Int → Int → Int → Int → zH → Option zRes} (h28 : ∀ (x0 x1 x2 x3 x4 x5 : Int) (h : zH), (r28Z x0 x1 x2 x3 x4 x5 h).bind e = r28A x0 x1 x2 x3 x4 x5 h) (a0 a1 a2 a3 a4 a5 : Int) (h : zH) : (Lw_law_1133 krZ r28Z a0 a1 a2 a3 a4 a5 h).bind e = Lw_law_1133 krA r28A a0 a1 a2 a3 a4 a5 h := by
  refine Eq.trans (congrArg (fun z => Option.bind z e) (qe_Lw_law_1133 krZ r28Z a0 a1 a2 a3 a4 a5 h)) (Eq.trans ?_ (Eq.symm (qe_Lw_law_1133 krA r28A a0 a1 a2 a3 a4 a5 h)))
  generalize (400 : Nat) = f9
  refine zseg_e e (zcal_e _ _ ?_) (zorc_e _ _ ?_) hk (fun _ _ => rfl) f9 _ _ _ _
  · exact ⟨rfl, rfl, zca1_e (fun x0 h k t => n_X_cycle e (fun _ _ => rfl) x0 h), ⟨rfl, rfl, zcm0_e (fun  h k t => n_M_cycle e (fun _ _ => rfl)  h), trivial⟩⟩
  · exact ⟨rfl, rfl, rfl, zap6_e (fun x0 x1 x2 x3 x4 x5 h => n_Lw_law_2355 e hk h28 x0 x1 x2 x3 x4 x5 h), trivial⟩
set_option maxRecDepth 100000 in
set_option maxHeartbeats 0 in
theorem n_Lw_law_1199 {ρ : Type} (e : zRes → Option ρ) {krA : Int → zH → Option ρ} {krZ : Int → zH → Option zRes} (hk : ∀ v h, (krZ v h).bind e = krA v h) {r28A : Int → Int → Int → Int → Int → Int → zH → Option ρ} {r28Z : Int → Int → Int → Int → Int → Int → zH → Option zRes} (h28 : ∀ (x0 x1 x2 x3 x4 x5 : Int) (h : zH), (r28Z x0 x1 x2 x3 x4 x5 h).bind e = r28A x0 x1 x2 x3 x4 x5 h) (a0 a1 a2 a3 a4 a5 : Int) (h : zH) : (Lw_law_1199 krZ r28Z a0 a1 a2 a3 a4 a5 h).bind e = Lw_law_1199 krA r28A a0 a1 a2 a3 a4 a5 h := by
  refine Eq.trans (congrArg (fun z => Option.bind z e) (qe_Lw_law_1199 krZ r28Z a0 a1 a2 a3 a4 a5 h)) (Eq.trans ?_ (Eq.symm (qe_Lw_law_1199 krA r28A a0 a1 a2 a3 a4 a5 h)))
  generalize (400 : Nat) = f9
  refine zseg_e e (zcal_e _ _ ?_) (zorc_e _ _ ?_) hk (fun _ _ => rfl) f9 _ _ _ _
  · exact trivial
  · exact ⟨rfl, rfl, rfl, zap6_e (fun x0 x1 x2 x3 x4 x5 h => n_Lw_law_2355 e hk h28 x0 x1 x2 x3 x4 x5 h), trivial⟩
set_option maxRecDepth 100000 in
set_option maxHeartbeats 0 in
theorem n_Lw_law_1146 {ρ : Type} (e : zRes → Option ρ) {krA : Int → zH → Option ρ} {krZ : Int → zH → Option zRes} (hk : ∀ v h, (krZ v h).bind e = krA v h) {r28A : Int → Int → Int → Int → Int → Int → zH → Option ρ} {r28Z : Int → Int → Int → Int → Int → Int → zH → Option zRes} (h28 : ∀ (x0 x1 x2 x3 x4 x5 : Int) (h : zH), (r28Z x0 x1 x2 x3 x4 x5 h).bind e = r28A x0 x1 x2 x3 x4 x5 h) (a0 a1 a2 a3 a4 a5 : Int) (h : zH) : (Lw_law_1146 krZ r28Z a0 a1 a2 a3 a4 a5 h).bind e = Lw_law_1146 krA r28A a0 a1 a2 a3 a4 a5 h := by
  refine Eq.trans (congrArg (fun z => Option.bind z e) (qe_Lw_law_1146 krZ r28Z a0 a1 a2 a3 a4 a5 h)) (Eq.trans ?_ (Eq.symm (qe_Lw_law_1146 krA r28A a0 a1 a2 a3 a4 a5 h)))
  generalize (400 : Nat) = f9
  refine zseg_e e (zcal_e _ _ ?_) (zorc_e _ _ ?_) hk (fun _ _ => rfl) f9 _ _ _ _
  · exact ⟨rfl, rfl, zcm0_e (fun  h k t => n_M_thrown e (fun _ _ => rfl)  h), ⟨rfl, rfl, zcm1_e (fun x0 h k t => n_M_groups e (fun _ _ => rfl) x0 h), ⟨rfl, rfl, zca3_e (fun x0 x1 x2 h k t => n_Lw_groups e (fun _ _ => rfl) x0 x1 x2 h), trivial⟩⟩⟩
  · exact ⟨rfl, rfl, rfl, zap6_e (fun x0 x1 x2 x3 x4 x5 h => n_Lw_law_1199 e hk h28 x0 x1 x2 x3 x4 x5 h), trivial⟩
set_option maxRecDepth 100000 in
set_option maxHeartbeats 0 in
theorem n_Lw_law_1267 {ρ : Type} (e : zRes → Option ρ) {krA : Int → zH → Option ρ} {krZ : Int → zH → Option zRes} (hk : ∀ v h, (krZ v h).bind e = krA v h) {r28A : Int → Int → Int → Int → Int → Int → zH → Option ρ} {r28Z : Int → Int → Int → Int → Int → Int → zH → Option zRes} (h28 : ∀ (x0 x1 x2 x3 x4 x5 : Int) (h : zH), (r28Z x0 x1 x2 x3 x4 x5 h).bind e = r28A x0 x1 x2 x3 x4 x5 h) (a0 a1 a2 a3 a4 a5 : Int) (h : zH) : (Lw_law_1267 krZ r28Z a0 a1 a2 a3 a4 a5 h).bind e = Lw_law_1267 krA r28A a0 a1 a2 a3 a4 a5 h := by
  refine Eq.trans (congrArg (fun z => Option.bind z e) (qe_Lw_law_1267 krZ r28Z a0 a1 a2 a3 a4 a5 h)) (Eq.trans ?_ (Eq.symm (qe_Lw_law_1267 krA r28A a0 a1 a2 a3 a4 a5 h)))
  generalize (400 : Nat) = f9
  refine zseg_e e (zcal_e _ _ ?_) (zorc_e _ _ ?_) hk (fun _ _ => rfl) f9 _ _ _ _
  · exact trivial
  · exact ⟨rfl, rfl, rfl, zap6_e (fun x0 x1 x2 x3 x4 x5 h => n_Lw_law_2355 e hk h28 x0 x1 x2 x3 x4 x5 h), trivial⟩
set_option maxRecDepth 100000 in
set_option maxHeartbeats 0 in
theorem n_Lw_law_1202 {ρ : Type} (e : zRes → Option ρ) {krA : Int → zH → Option ρ} {krZ : Int → zH → Option zRes} (hk : ∀ v h, (krZ v h).bind e = krA v h) {r28A : Int → Int → Int → Int → Int → Int → zH → Option ρ} {r28Z : Int → Int → Int → Int → Int → Int → zH → Option zRes} (h28 : ∀ (x0 x1 x2 x3 x4 x5 : Int) (h : zH), (r28Z x0 x1 x2 x3 x4 x5 h).bind e = r28A x0 x1 x2 x3 x4 x5 h) (a0 a1 a2 a3 a4 a5 : Int) (h : zH) : (Lw_law_1202 krZ r28Z a0 a1 a2 a3 a4 a5 h).bind e = Lw_law_1202 krA r28A a0 a1 a2 a3 a4 a5 h := by
  refine Eq.trans (congrArg (fun z => Option.bind z e) (qe_Lw_law_1202 krZ r28Z a0 a1 a2 a3 a4 a5 h)) (Eq.trans ?_ (Eq.symm (qe_Lw_law_1202 krA r28A a0 a1 a2 a3 a4 a5 h)))
  generalize (400 : Nat) = f9
  refine zseg_e e (zcal_e _ _ ?_) (zorc_e _ _ ?_) hk (fun _ _ => rfl) f9 _ _ _ _
  · exact ⟨rfl, rfl, zcm0_e (fun  h k t => n_M_thrown e (fun _ _ => rfl)  h), ⟨rfl, rfl, zcm2_e (fun x0 x1 h k t => n_M_threadAt e (fun _ _ => rfl) x0 x1 h), ⟨rfl, rfl, zca4_e (fun x0 x1 x2 x3 h k t => n_Lw_threadAt e (fun _ _ => rfl) x0 x1 x2 x3 h), trivial⟩⟩⟩
  · exact ⟨rfl, rfl, rfl, zap6_e (fun x0 x1 x2 x3 x4 x5 h => n_Lw_law_1267 e hk h28 x0 x1 x2 x3 x4 x5 h), trivial⟩
set_option maxRecDepth 100000 in
set_option maxHeartbeats 0 in
theorem n_Lw_law_1335 {ρ : Type} (e : zRes → Option ρ) {krA : Int → zH → Option ρ} {krZ : Int → zH → Option zRes} (hk : ∀ v h, (krZ v h).bind e = krA v h) {r28A : Int → Int → Int → Int → Int → Int → zH → Option ρ} {r28Z : Int → Int → Int → Int → Int → Int → zH → Option zRes} (h28 : ∀ (x0 x1 x2 x3 x4 x5 : Int) (h : zH), (r28Z x0 x1 x2 x3 x4 x5 h).bind e = r28A x0 x1 x2 x3 x4 x5 h) (a0 a1 a2 a3 a4 a5 : Int) (h : zH) : (Lw_law_1335 krZ r28Z a0 a1 a2 a3 a4 a5 h).bind e = Lw_law_1335 krA r28A a0 a1 a2 a3 a4 a5 h := by
  refine Eq.trans (congrArg (fun z => Option.bind z e) (qe_Lw_law_1335 krZ r28Z a0 a1 a2 a3 a4 a5 h)) (Eq.trans ?_ (Eq.symm (qe_Lw_law_1335 krA r28A a0 a1 a2 a3 a4 a5 h)))
  generalize (400 : Nat) = f9
  refine zseg_e e (zcal_e _ _ ?_) (zorc_e _ _ ?_) hk (fun _ _ => rfl) f9 _ _ _ _
  · exact trivial
  · exact ⟨rfl, rfl, rfl, zap6_e (fun x0 x1 x2 x3 x4 x5 h => n_Lw_law_2355 e hk h28 x0 x1 x2 x3 x4 x5 h), trivial⟩
set_option maxRecDepth 100000 in
set_option maxHeartbeats 0 in
theorem n_Lw_law_1270 {ρ : Type} (e : zRes → Option ρ) {krA : Int → zH → Option ρ} {krZ : Int → zH → Option zRes} (hk : ∀ v h, (krZ v h).bind e = krA v h) {r28A : Int → Int → Int → Int → Int → Int → zH → Option ρ} {r28Z : Int → Int → Int → Int → Int → Int → zH → Option zRes} (h28 : ∀ (x0 x1 x2 x3 x4 x5 : Int) (h : zH), (r28Z x0 x1 x2 x3 x4 x5 h).bind e = r28A x0 x1 x2 x3 x4 x5 h) (a0 a1 a2 a3 a4 a5 : Int) (h : zH) : (Lw_law_1270 krZ r28Z a0 a1 a2 a3 a4 a5 h).bind e = Lw_law_1270 krA r28A a0 a1 a2 a3 a4 a5 h := by
  refine Eq.trans (congrArg (fun z => Option.bind z e) (qe_Lw_law_1270 krZ r28Z a0 a1 a2 a3 a4 a5 h)) (Eq.trans ?_ (Eq.symm (qe_Lw_law_1270 krA r28A a0 a1 a2 a3 a4 a5 h)))
  generalize (400 : Nat) = f9
  refine zseg_e e (zcal_e _ _ ?_) (zorc_e _ _ ?_) hk (fun _ _ => rfl) f9 _ _ _ _
  · exact ⟨rfl, rfl, zcm0_e (fun  h k t => n_M_thrown e (fun _ _ => rfl)  h), ⟨rfl, rfl, zcm2_e (fun x0 x1 h k t => n_M_place e (fun _ _ => rfl) x0 x1 h), ⟨rfl, rfl, zca4_e (fun x0 x1 x2 x3 h k t => n_Lw_place e (fun _ _ => rfl) x0 x1 x2 x3 h), trivial⟩⟩⟩
  · exact ⟨rfl, rfl, rfl, zap6_e (fun x0 x1 x2 x3 x4 x5 h => n_Lw_law_1335 e hk h28 x0 x1 x2 x3 x4 x5 h), trivial⟩
set_option maxRecDepth 100000 in
set_option maxHeartbeats 0 in
theorem n_Lw_law_1403 {ρ : Type} (e : zRes → Option ρ) {krA : Int → zH → Option ρ} {krZ : Int → zH → Option zRes} (hk : ∀ v h, (krZ v h).bind e = krA v h) {r28A : Int → Int → Int → Int → Int → Int → zH → Option ρ} {r28Z : Int → Int → Int → Int → Int → Int → zH → Option zRes} (h28 : ∀ (x0 x1 x2 x3 x4 x5 : Int) (h : zH), (r28Z x0 x1 x2 x3 x4 x5 h).bind e = r28A x0 x1 x2 x3 x4 x5 h) (a0 a1 a2 a3 a4 a5 : Int) (h : zH) : (Lw_law_1403 krZ r28Z a0 a1 a2 a3 a4 a5 h).bind e = Lw_law_1403 krA r28A a0 a1 a2 a3 a4 a5 h := by
  refine Eq.trans (congrArg (fun z => Option.bind z e) (qe_Lw_law_1403 krZ r28Z a0 a1 a2 a3 a4 a5 h)) (Eq.trans ?_ (Eq.symm (qe_Lw_law_1403 krA r28A a0 a1 a2 a3 a4 a5 h)))
  generalize (400 : Nat) = f9
  refine zseg_e e (zcal_e _ _ ?_) (zorc_e _ _ ?_) hk (fun _ _ => rfl) f9 _ _ _ _
  · exact trivial
  · exact ⟨rfl, rfl, rfl, zap6_e (fun x0 x1 x2 x3 x4 x5 h => n_Lw_law_2355 e hk h28 x0 x1 x2 x3 x4 x5 h), trivial⟩
set_option maxRecDepth 100000 in
set_option maxHeartbeats 0 in
theorem n_Lw_law_1338 {ρ : Type} (e : zRes → Option ρ) {krA : Int → zH → Option ρ} {krZ : Int → zH → Option zRes} (hk : ∀ v h, (krZ v h).bind e = krA v h) {r28A : Int → Int → Int → Int → Int → Int → zH → Option ρ} {r28Z : Int → Int → Int → Int → Int → Int → zH → Option zRes} (h28 : ∀ (x0 x1 x2 x3 x4 x5 : Int) (h : zH), (r28Z x0 x1 x2 x3 x4 x5 h).bind e = r28A x0 x1 x2 x3 x4 x5 h) (a0 a1 a2 a3 a4 a5 : Int) (h : zH) : (Lw_law_1338 krZ r28Z a0 a1 a2 a3 a4 a5 h).bind e = Lw_law_1338 krA r28A a0 a1 a2 a3 a4 a5 h := by
  refine Eq.trans (congrArg (fun z => Option.bind z e) (qe_Lw_law_1338 krZ r28Z a0 a1 a2 a3 a4 a5 h)) (Eq.trans ?_ (Eq.symm (qe_Lw_law_1338 krA r28A a0 a1 a2 a3 a4 a5 h)))
  generalize (400 : Nat) = f9
  refine zseg_e e (zcal_e _ _ ?_) (zorc_e _ _ ?_) hk (fun _ _ => rfl) f9 _ _ _ _
  · exact ⟨rfl, rfl, zcm0_e (fun  h k t => n_M_thrown e (fun _ _ => rfl)  h), ⟨rfl, rfl, zcm2_e (fun x0 x1 h k t => n_M_mask e (fun _ _ => rfl) x0 x1 h), ⟨rfl, rfl, zca4_e (fun x0 x1 x2 x3 h k t => n_Lw_mask e (fun _ _ => rfl) x0 x1 x2 x3 h), trivial⟩⟩⟩
  · exact ⟨rfl, rfl, rfl, zap6_e (fun x0 x1 x2 x3 x4 x5 h => n_Lw_law_1403 e hk h28 x0 x1 x2 x3 x4 x5 h), trivial⟩
set_option maxRecDepth 100000 in
set_option maxHeartbeats 0 in
theorem n_Lw_law_1471 {ρ : Type} (e : zRes → Option ρ) {krA : Int → zH → Option ρ} {krZ : Int → zH → Option zRes} (hk : ∀ v h, (krZ v h).bind e = krA v h) {r28A : Int → Int → Int → Int → Int → Int → zH → Option ρ} {r28Z : Int → Int → Int → Int → Int → Int → zH → Option zRes} (h28 : ∀ (x0 x1 x2 x3 x4 x5 : Int) (h : zH), (r28Z x0 x1 x2 x3 x4 x5 h).bind e = r28A x0 x1 x2 x3 x4 x5 h) (a0 a1 a2 a3 a4 a5 : Int) (h : zH) : (Lw_law_1471 krZ r28Z a0 a1 a2 a3 a4 a5 h).bind e = Lw_law_1471 krA r28A a0 a1 a2 a3 a4 a5 h := by
  refine Eq.trans (congrArg (fun z => Option.bind z e) (qe_Lw_law_1471 krZ r28Z a0 a1 a2 a3 a4 a5 h)) (Eq.trans ?_ (Eq.symm (qe_Lw_law_1471 krA r28A a0 a1 a2 a3 a4 a5 h)))
  generalize (400 : Nat) = f9
  refine zseg_e e (zcal_e _ _ ?_) (zorc_e _ _ ?_) hk (fun _ _ => rfl) f9 _ _ _ _
  · exact trivial
  · exact ⟨rfl, rfl, rfl, zap6_e (fun x0 x1 x2 x3 x4 x5 h => n_Lw_law_2355 e hk h28 x0 x1 x2 x3 x4 x5 h), trivial⟩
set_option maxRecDepth 100000 in
set_option maxHeartbeats 0 in
theorem n_Lw_law_1406 {ρ : Type} (e : zRes → Option ρ) {krA : Int → zH → Option ρ} {krZ : Int → zH → Option zRes} (hk : ∀ v h, (krZ v h).bind e = krA v h) {r28A : Int → Int → Int → Int → Int → Int → zH → Option ρ} {r28Z : Int → Int → Int → Int → Int → Int → zH → Option zRes} (h28 : ∀ (x0 x1 x2 x3 x4 x5 : Int) (h : zH), (r28Z x0 x1 x2 x3 x4 x5 h).bind e = r28A x0 x1 x2 x3 x4 x5 h) (a0 a1 a2 a3 a4 a5 : Int) (h : zH) : (Lw_law_1406 krZ r28Z a0 a1 a2 a3 a4 a5 h).bind e = Lw_law_1406 krA r28A a0 a1 a2 a3 a4 a5 h := by
  refine Eq.trans (congrArg (fun z => Option.bind z e) (qe_Lw_law_1406 krZ r28Z a0 a1 a2 a3 a4 a5 h)) (Eq.trans ?_ (Eq.symm (qe_Lw_law_1406 krA r28A a0 a1 a2 a3 a4 a5 h)))
  generalize (400 : Nat) = f9
  refine zseg_e e (zcal_e _ _ ?_) (zorc_e _ _ ?_) hk (fun _ _ => rfl) f9 _ _ _ _
  · exact ⟨rfl, rfl, zcm0_e (fun  h k t => n_M_thrown e (fun _ _ => rfl)  h), ⟨rfl, rfl, zcm2_e (fun x0 x1 h k t => n_M_places e (fun _ _ => rfl) x0 x1 h), ⟨rfl, rfl, zca4_e (fun x0 x1 x2 x3 h k t => n_Lw_places e (fun _ _ => rfl) x0 x1 x2 x3 h), trivial⟩⟩⟩
  · exact ⟨rfl, rfl, rfl, zap6_e (fun x0 x1 x2 x3 x4 x5 h => n_Lw_law_1471 e hk h28 x0 x1 x2 x3 x4 x5 h), trivial⟩
set_option maxRecDepth 100000 in
set_option maxHeartbeats 0 in
theorem n_Lw_law_1539 {ρ : Type} (e : zRes → Option ρ) {krA : Int → zH → Option ρ} {krZ : Int → zH → Option zRes} (hk : ∀ v h, (krZ v h).bind e = krA v h) {r28A : Int → Int → Int → Int → Int → Int → zH → Option ρ} {r28Z : Int → Int → Int → Int → Int → Int → zH → Option zRes} (h28 : ∀ (x0 x1 x2 x3 x4 x5 : Int) (h : zH), (r28Z x0 x1 x2 x3 x4 x5 h).bind e = r28A x0 x1 x2 x3 x4 x5 h) (a0 a1 a2 a3 a4 a5 : Int) (h : zH) : (Lw_law_1539 krZ r28Z a0 a1 a2 a3 a4 a5 h).bind e = Lw_law_1539 krA r28A a0 a1 a2 a3 a4 a5 h := by
  refine Eq.trans (congrArg (fun z => Option.bind z e) (qe_Lw_law_1539 krZ r28Z a0 a1 a2 a3 a4 a5 h)) (Eq.trans ?_ (Eq.symm (qe_Lw_law_1539 krA r28A a0 a1 a2 a3 a4 a5 h)))
  generalize (400 : Nat) = f9
  refine zseg_e e (zcal_e _ _ ?_) (zorc_e _ _ ?_) hk (fun _ _ => rfl) f9 _ _ _ _
  · exact trivial
  · exact ⟨rfl, rfl, rfl, zap6_e (fun x0 x1 x2 x3 x4 x5 h => n_Lw_law_2355 e hk h28 x0 x1 x2 x3 x4 x5 h), trivial⟩
set_option maxRecDepth 100000 in
set_option maxHeartbeats 0 in
theorem n_Lw_law_1474 {ρ : Type} (e : zRes → Option ρ) {krA : Int → zH → Option ρ} {krZ : Int → zH → Option zRes} (hk : ∀ v h, (krZ v h).bind e = krA v h) {r28A : Int → Int → Int → Int → Int → Int → zH → Option ρ} {r28Z : Int → Int → Int → Int → Int → Int → zH → Option zRes} (h28 : ∀ (x0 x1 x2 x3 x4 x5 : Int) (h : zH), (r28Z x0 x1 x2 x3 x4 x5 h).bind e = r28A x0 x1 x2 x3 x4 x5 h) (a0 a1 a2 a3 a4 a5 : Int) (h : zH) : (Lw_law_1474 krZ r28Z a0 a1 a2 a3 a4 a5 h).bind e = Lw_law_1474 krA r28A a0 a1 a2 a3 a4 a5 h := by
  refine Eq.trans (congrArg (fun z => Option.bind z e) (qe_Lw_law_1474 krZ r28Z a0 a1 a2 a3 a4 a5 h)) (Eq.trans ?_ (Eq.symm (qe_Lw_law_1474 krA r28A a0 a1 a2 a3 a4 a5 h)))
  generalize (400 : Nat) = f9
  refine zseg_e e (zcal_e _ _ ?_) (zorc_e _ _ ?_) hk (fun _ _ => rfl) f9 _ _ _ _
  · exact ⟨rfl, rfl, zcm0_e (fun  h k t => n_M_thrown e (fun _ _ => rfl)  h), ⟨rfl, rfl, zcm2_e (fun x0 x1 h k t => n_M_reason e (fun _ _ => rfl) x0 x1 h), ⟨rfl, rfl, zca4_e (fun x0 x1 x2 x3 h k t => n_Lw_reason e (fun _ _ => rfl) x0 x1 x2 x3 h), trivial⟩⟩⟩
  · exact ⟨rfl, rfl, rfl, zap6_e (fun x0 x1 x2 x3 x4 x5 h => n_Lw_law_1539 e hk h28 x0 x1 x2 x3 x4 x5 h), trivial⟩
set_option maxRecDepth 100000 in
set_option maxHeartbeats 0 in
theorem n_Lw_law_1631 {ρ : Type} (e : zRes → Option ρ) {krA : Int → zH → Option ρ} {krZ : Int → zH → Option zRes} (hk : ∀ v h, (krZ v h).bind e = krA v h) {r28A : Int → Int → Int → Int → Int → Int → zH → Option ρ} {r28Z : Int → Int → Int → Int → Int → Int → zH → Option zRes} (h28 : ∀ (x0 x1 x2 x3 x4 x5 : Int) (h : zH), (r28Z x0 x1 x2 x3 x4 x5 h).bind e = r28A x0 x1 x2 x3 x4 x5 h) (a0 a1 a2 a3 a4 a5 : Int) (h : zH) : (Lw_law_1631 krZ r28Z a0 a1 a2 a3 a4 a5 h).bind e = Lw_law_1631 krA r28A a0 a1 a2 a3 a4 a5 h := by
  refine Eq.trans (congrArg (fun z => Option.bind z e) (qe_Lw_law_1631 krZ r28Z a0 a1 a2 a3 a4 a5 h)) (Eq.trans ?_ (Eq.symm (qe_Lw_law_1631 krA r28A a0 a1 a2 a3 a4 a5 h)))
  generalize (400 : Nat) = f9
  refine zseg_e e (zcal_e _ _ ?_) (zorc_e _ _ ?_) hk (fun _ _ => rfl) f9 _ _ _ _
  · exact trivial
  · exact ⟨rfl, rfl, rfl, zap6_e (fun x0 x1 x2 x3 x4 x5 h => n_Lw_law_2355 e hk h28 x0 x1 x2 x3 x4 x5 h), trivial⟩
set_option maxRecDepth 100000 in
set_option maxHeartbeats 0 in
theorem n_Lw_law_1542 {ρ : Type} (e : zRes → Option ρ) {krA : Int → zH → Option ρ} {krZ : Int → zH → Option zRes} (hk : ∀ v h, (krZ v h).bind e = krA v h) {r28A : Int → Int → Int → Int → Int → Int → zH → Option ρ} {r28Z : Int → Int → Int → Int → Int → Int → zH → Option zRes} (h28 : ∀ (x0 x1 x2 x3 x4 x5 : Int) (h : zH), (r28Z x0 x1 x2 x3 x4 x5 h).bind e = r28A x0 x1 x2 x3 x4 x5 h) (a0 a1 a2 a3 a4 a5 : Int) (h : zH) : (Lw_law_1542 krZ r28Z a0 a1 a2 a3 a4 a5 h).bind e = Lw_law_1542 krA r28A a0 a1 a2 a3 a4 a5 h := by
  refine Eq.trans (congrArg (fun z => Option.bind z e) (qe_Lw_law_1542 krZ r28Z a0 a1 a2 a3 a4 a5 h)) (Eq.trans ?_ (Eq.symm (qe_Lw_law_1542 krA r28A a0 a1 a2 a3 a4 a5 h)))
  generalize (400 : Nat) = f9
  refine zseg_e e (zcal_e _ _ ?_) (zorc_e _ _ ?_) hk (fun _ _ => rfl) f9 _ _ _ _
  · exact ⟨rfl, rfl, zcm0_e (fun  h k t => n_M_thrown e (fun _ _ => rfl)  h), ⟨rfl, rfl, zcm4_e (fun x0 x1 x2 x3 h k t => n_M_register e (fun _ _ => rfl) x0 x1 x2 x3 h), ⟨rfl, rfl, zca6_e (fun x0 x1 x2 x3 x4 x5 h k t => n_Lw_register e (fun _ _ => rfl) x0 x1 x2 x3 x4 x5 h), trivial⟩⟩⟩
  · exact ⟨rfl, rfl, rfl, zap6_e (fun x0 x1 x2 x3 x4 x5 h => n_Lw_law_1631 e hk h28 x0 x1 x2 x3 x4 x5 h), trivial⟩
set_option maxRecDepth 100000 in
set_option maxHeartbeats 0 in
theorem n_Lw_law_1711 {ρ : Type} (e : zRes → Option ρ) {krA : Int → zH → Option ρ} {krZ : Int → zH → Option zRes} (hk : ∀ v h, (krZ v h).bind e = krA v h) {r28A : Int → Int → Int → Int → Int → Int → zH → Option ρ} {r28Z : Int → Int → Int → Int → Int → Int → zH → Option zRes} (h28 : ∀ (x0 x1 x2 x3 x4 x5 : Int) (h : zH), (r28Z x0 x1 x2 x3 x4 x5 h).bind e = r28A x0 x1 x2 x3 x4 x5 h) (a0 a1 a2 a3 a4 a5 : Int) (h : zH) : (Lw_law_1711 krZ r28Z a0 a1 a2 a3 a4 a5 h).bind e = Lw_law_1711 krA r28A a0 a1 a2 a3 a4 a5 h := by
  refine Eq.trans (congrArg (fun z => Option.bind z e) (qe_Lw_law_1711 krZ r28Z a0 a1 a2 a3 a4 a5 h)) (Eq.trans ?_ (Eq.symm (qe_Lw_law_1711 krA r28A a0 a1 a2 a3 a4 a5 h)))
  generalize (400 : Nat) = f9
  refine zseg_e e (zcal_e _ _ ?_) (zorc_e _ _ ?_) hk (fun _ _ => rfl) f9 _ _ _ _
  · exact trivial
  · exact ⟨rfl, rfl, rfl, zap6_e (fun x0 x1 x2 x3 x4 x5 h => n_Lw_law_2355 e hk h28 x0 x1 x2 x3 x4 x5 h), trivial⟩
set_option maxRecDepth 100000 in
set_option maxHeartbeats 0 in
theorem n_Lw_law_1634 {ρ : Type} (e : zRes → Option ρ) {krA : Int → zH → Option ρ} {krZ : Int → zH → Option zRes} (hk : ∀ v h, (krZ v h).bind e = krA v h) {r28A : Int → Int → Int → Int → Int → Int → zH → Option ρ} {r28Z : Int → Int → Int → Int → Int → Int → zH → Option zRes} (h28 : ∀ (x0 x1 x2 x3 x4 x5 : Int) (h : zH), (r28Z x0 x1 x2 x3 x4 x5 h).bind e = r28A x0 x1 x2 x3 x4 x5 h) (a0 a1 a2 a3 a4 a5 : Int) (h : zH) : (Lw_law_1634 krZ r28Z a0 a1 a2 a3 a4 a5 h).bind e = Lw_law_1634 krA r28A a0 a1 a2 a3 a4 a5 h := by
  refine Eq.trans (congrArg (fun z => Option.bind z e) (qe_Lw_law_1634 krZ r28Z a0 a1 a2 a3 a4 a5 h)) (Eq.trans ?_ (Eq.symm (qe_Lw_law_1634 krA r28A a0 a1 a2 a3 a4 a5 h)))
  generalize (400 : Nat) = f9
  refine zseg_e e (zcal_e _ _ ?_) (zorc_e _ _ ?_) hk (fun _ _ => rfl) f9 _ _ _ _
  · exact ⟨rfl, rfl, zcm0_e (fun  h k t => n_M_thrown e (fun _ _ => rfl)  h), ⟨rfl, rfl, zcm3_e (fun x0 x1 x2 h k t => n_M_shared e (fun _ _ => rfl) x0 x1 x2 h), ⟨rfl, rfl, zca5_e (fun x0 x1 x2 x3 x4 h k t => n_Lw_shared e (fun _ _ => rfl) x0 x1 x2 x3 x4 h), trivial⟩⟩⟩
  · exact ⟨rfl, rfl, rfl, zap6_e (fun x0 x1 x2 x3 x4 x5 h => n_Lw_law_1711 e hk h28 x0 x1 x2 x3 x4 x5 h), trivial⟩
set_option maxRecDepth 100000 in
set_option maxHeartbeats 0 in
theorem n_Lw_law_1779 {ρ : Type} (e : zRes → Option ρ) {krA : Int → zH → Option ρ} {krZ : Int → zH → Option zRes} (hk : ∀ v h, (krZ v h).bind e = krA v h) {r28A : Int → Int → Int → Int → Int → Int → zH → Option ρ} {r28Z : Int → Int → Int → Int → Int → Int → zH → Option zRes} (h28 : ∀ (x0 x1 x2 x3 x4 x5 : Int) (h : zH), (r28Z x0 x1 x2 x3 x4 x5 h).bind e = r28A x0 x1 x2 x3 x4 x5 h) (a0 a1 a2 a3 a4 a5 : Int) (h : zH) : (Lw_law_1779 krZ r28Z a0 a1 a2 a3 a4 a5 h).bind e = Lw_law_1779 krA r28A a0 a1 a2 a3 a4 a5 h := by
  refine Eq.trans (congrArg (fun z => Option.bind z e) (qe_Lw_law_1779 krZ r28Z a0 a1 a2 a3 a4 a5 h)) (Eq.trans ?_ (Eq.symm (qe_Lw_law_1779 krA r28A a0 a1 a2 a3 a4 a5 h)))
  generalize (400 : Nat) = f9
  refine zseg_e e (zcal_e _ _ ?_) (zorc_e _ _ ?_) hk (fun _ _ => rfl) f9 _ _ _ _
  · exact trivial
  · exact ⟨rfl, rfl, rfl, zap6_e (fun x0 x1 x2 x3 x4 x5 h => n_Lw_law_2355 e hk h28 x0 x1 x2 x3 x4 x5 h), trivial⟩
set_option maxRecDepth 100000 in
set_option maxHeartbeats 0 in
theorem n_Lw_law_1714 {ρ : Type} (e : zRes → Option ρ) {krA : Int → zH → Option ρ} {krZ : Int → zH → Option zRes} (hk : ∀ v h, (krZ v h).bind e = krA v h) {r28A : Int → Int → Int → Int → Int → Int → zH → Option ρ} {r28Z : Int → Int → Int → Int → Int → Int → zH → Option zRes} (h28 : ∀ (x0 x1 x2 x3 x4 x5 : Int) (h : zH), (r28Z x0 x1 x2 x3 x4 x5 h).bind e = r28A x0 x1 x2 x3 x4 x5 h) (a0 a1 a2 a3 a4 a5 : Int) (h : zH) : (Lw_law_1714 krZ r28Z a0 a1 a2 a3 a4 a5 h).bind e = Lw_law_1714 krA r28A a0 a1 a2 a3 a4 a5 h := by
  refine Eq.trans (congrArg (fun z => Option.bind z e) (qe_Lw_law_1714 krZ r28Z a0 a1 a2 a3 a4 a5 h)) (Eq.trans ?_ (Eq.symm (qe_Lw_law_1714 krA r28A a0 a1 a2 a3 a4 a5 h)))
  generalize (400 : Nat) = f9
  refine zseg_e e (zcal_e _ _ ?_) (zorc_e _ _ ?_) hk (fun _ _ => rfl) f9 _ _ _ _
  · exact ⟨rfl, rfl, zcm0_e (fun  h k t => n_M_thrown e (fun _ _ => rfl)  h), ⟨rfl, rfl, zcm2_e (fun x0 x1 h k t => n_M_buffered e (fun _ _ => rfl) x0 x1 h), ⟨rfl, rfl, zca4_e (fun x0 x1 x2 x3 h k t => n_Lw_buffered e (fun _ _ => rfl) x0 x1 x2 x3 h), trivial⟩⟩⟩
  · exact ⟨rfl, rfl, rfl, zap6_e (fun x0 x1 x2 x3 x4 x5 h => n_Lw_law_1779 e hk h28 x0 x1 x2 x3 x4 x5 h), trivial⟩
set_option maxRecDepth 100000 in
set_option maxHeartbeats 0 in
theorem n_Lw_law_1835 {ρ : Type} (e : zRes → Option ρ) {krA : Int → zH → Option ρ} {krZ : Int → zH → Option zRes} (hk : ∀ v h, (krZ v h).bind e = krA v h) {r28A : Int → Int → Int → Int → Int → Int → zH → Option ρ} {r28Z : Int → Int → Int → Int → Int → Int → zH → Option zRes} (h28 : ∀ (x0 x1 x2 x3 x4 x5 : Int) (h : zH), (r28Z x0 x1 x2 x3 x4 x5 h).bind e = r28A x0 x1 x2 x3 x4 x5 h) (a0 a1 a2 a3 a4 a5 : Int) (h : zH) : (Lw_law_1835 krZ r28Z a0 a1 a2 a3 a4 a5 h).bind e = Lw_law_1835 krA r28A a0 a1 a2 a3 a4 a5 h := by
  refine Eq.trans (congrArg (fun z => Option.bind z e) (qe_Lw_law_1835 krZ r28Z a0 a1 a2 a3 a4 a5 h)) (Eq.trans ?_ (Eq.symm (qe_Lw_law_1835 krA r28A a0 a1 a2 a3 a4 a5 h)))
  generalize (400 : Nat) = f9
  refine zseg_e e (zcal_e _ _ ?_) (zorc_e _ _ ?_) hk (fun _ _ => rfl) f9 _ _ _ _
  · exact trivial
  · exact ⟨rfl, rfl, rfl, zap6_e (fun x0 x1 x2 x3 x4 x5 h => n_Lw_law_2355 e hk h28 x0 x1 x2 x3 x4 x5 h), trivial⟩
set_option maxRecDepth 100000 in
set_option maxHeartbeats 0 in
theorem n_Lw_law_1782 {ρ : Type} (e : zRes → Option ρ) {krA : Int → zH → Option ρ} {krZ : Int → zH → Option zRes} (hk : ∀ v h, (krZ v h).bind e = krA v h) {r28A : Int → Int → Int → Int → Int → Int → zH → Option ρ} {r28Z : Int → Int → Int → Int → Int → Int → zH → Option zRes} (h28 : ∀ (x0 x1 x2 x3 x4 x5 : Int) (h : zH), (r28Z x0 x1 x2 x3 x4 x5 h).bind e = r28A x0 x1 x2 x3 x4 x5 h) (a0 a1 a2 a3 a4 a5 : Int) (h : zH) : (Lw_law_1782 krZ r28Z a0 a1 a2 a3 a4 a5 h).bind e = Lw_law_1782 krA r28A a0 a1 a2 a3 a4 a5 h := by
  refine Eq.trans (congrArg (fun z => Option.bind z e) (qe_Lw_law_1782 krZ r28Z a0 a1 a2 a3 a4 a5 h)) (Eq.trans ?_ (Eq.symm (qe_Lw_law_1782 krA r28A a0 a1 a2 a3 a4 a5 h)))
  generalize (400 : Nat) = f9
  refine zseg_e e (zcal_e _ _ ?_) (zorc_e _ _ ?_) hk (fun _ _ => rfl) f9 _ _ _ _
  · exact ⟨rfl, rfl, zcm0_e (fun  h k t => n_M_thrown e (fun _ _ => rfl)  h), ⟨rfl, rfl, zcm1_e (fun x0 h k t => n_M_fault e (fun _ _ => rfl) x0 h), ⟨rfl, rfl, zca3_e (fun x0 x1 x2 h k t => n_Lw_fault e (fun _ _ => rfl) x0 x1 x2 h), trivial⟩⟩⟩
  · exact ⟨rfl, rfl, rfl, zap6_e (fun x0 x1 x2 x3 x4 x5 h => n_Lw_law_1835 e hk h28 x0 x1 x2 x3 x4 x5 h), trivial⟩
set_option maxRecDepth 100000 in
set_option maxHeartbeats 0 in
theorem n_Lw_law_1891 {ρ : Type} (e : zRes → Option ρ) {krA : Int → zH → Option ρ} {krZ : Int → zH → Option zRes} (hk : ∀ v h, (krZ v h).bind e = krA v h) {r28A : Int → Int → Int → Int → Int → Int → zH → Option ρ} {r28Z : Int → Int → Int → Int → Int → Int → zH → Option zRes} (h28 : ∀ (x0 x1 x2 x3 x4 x5 : Int) (h : zH), (r28Z x0 x1 x2 x3 x4 x5 h).bind e = r28A x0 x1 x2 x3 x4 x5 h) (a0 a1 a2 a3 a4 a5 : Int) (h : zH) : (Lw_law_1891 krZ r28Z a0 a1 a2 a3 a4 a5 h).bind e = Lw_law_1891 krA r28A a0 a1 a2 a3 a4 a5 h := by
  refine Eq.trans (congrArg (fun z => Option.bind z e) (qe_Lw_law_1891 krZ r28Z a0 a1 a2 a3 a4 a5 h)) (Eq.trans ?_ (Eq.symm (qe_Lw_law_1891 krA r28A a0 a1 a2 a3 a4 a5 h)))
  generalize (400 : Nat) = f9
  refine zseg_e e (zcal_e _ _ ?_) (zorc_e _ _ ?_) hk (fun _ _ => rfl) f9 _ _ _ _
  · exact trivial
  · exact ⟨rfl, rfl, rfl, zap6_e (fun x0 x1 x2 x3 x4 x5 h => n_Lw_law_2355 e hk h28 x0 x1 x2 x3 x4 x5 h), trivial⟩
set_option maxRecDepth 100000 in
set_option maxHeartbeats 0 in
theorem n_Lw_law_1838 {ρ : Type} (e : zRes → Option ρ) {krA : Int → zH → Option ρ} {krZ : Int → zH → Option zRes} (hk : ∀ v h, (krZ v h).bind e = krA v h) {r28A : Int → Int → Int → Int → Int → Int → zH → Option ρ} {r28Z : Int → Int → Int → Int → Int → Int → zH → Option zRes} (h28 : ∀ (x0 x1 x2 x3 x4 x5 : Int) (h : zH), (r28Z x0 x1 x2 x3 x4 x5 h).bind e = r28A x0 x1 x2 x3 x4 x5 h) (a0 a1 a2 a3 a4 a5 : Int) (h : zH) : (Lw_law_1838 krZ r28Z a0 a1 a2 a3 a4 a5 h).bind e = Lw_law_1838 krA r28A a0 a1 a2 a3 a4 a5 h := by
  refine Eq.trans (congrArg (fun z => Option.bind z e) (qe_Lw_law_1838 krZ r28Z a0 a1 a2 a3 a4 a5 h)) (Eq.trans ?_ (Eq.symm (qe_Lw_law_1838 krA r28A a0 a1 a2 a3 a4 a5 h)))
  generalize (400 : Nat) = f9
  refine zseg_e e (zcal_e _ _ ?_) (zorc_e _ _ ?_) hk (fun _ _ => rfl) f9 _ _ _ _
  · exact ⟨rfl, rfl, zcm0_e (fun  h k t => n_M_thrown e (fun _ _ => rfl)  h), ⟨rfl, rfl, zcm1_e (fun x0 h k t => n_M_faultAt e (fun _ _ => rfl) x0 h), ⟨rfl, rfl, zca3_e (fun x0 x1 x2 h k t => n_Lw_faultAt e (fun _ _ => rfl) x0 x1 x2 h), trivial⟩⟩⟩
  · exact ⟨rfl, rfl, rfl, zap6_e (fun x0 x1 x2 x3 x4 x5 h => n_Lw_law_1891 e hk h28 x0 x1 x2 x3 x4 x5 h), trivial⟩
set_option maxRecDepth 100000 in
set_option maxHeartbeats 0 in
theorem n_Lw_law_1966 {ρ : Type} (e : zRes → Option ρ) {krA : Int → zH → Option ρ} {krZ : Int → zH → Option zRes} (hk : ∀ v h, (krZ v h).bind e = krA v h) {r28A : Int → Int → Int → Int → Int → Int → zH → Option ρ} {r28Z : Int → Int → Int → Int → Int → Int → zH → Option zRes} (h28 : ∀ (x0 x1 x2 x3 x4 x5 : Int) (h : zH), (r28Z x0 x1 x2 x3 x4 x5 h).bind e = r28A x0 x1 x2 x3 x4 x5 h) (a0 a1 a2 a3 a4 a5 : Int) (h : zH) : (Lw_law_1966 krZ r28Z a0 a1 a2 a3 a4 a5 h).bind e = Lw_law_1966 krA r28A a0 a1 a2 a3 a4 a5 h := by
  refine Eq.trans (congrArg (fun z => Option.bind z e) (qe_Lw_law_1966 krZ r28Z a0 a1 a2 a3 a4 a5 h)) (Eq.trans ?_ (Eq.symm (qe_Lw_law_1966 krA r28A a0 a1 a2 a3 a4 a5 h)))
  generalize (400 : Nat) = f9
  refine zseg_e e (zcal_e _ _ ?_) (zorc_e _ _ ?_) hk (fun _ _ => rfl) f9 _ _ _ _
  · exact trivial
  · exact ⟨rfl, rfl, rfl, zap6_e (fun x0 x1 x2 x3 x4 x5 h => n_Lw_law_2355 e hk h28 x0 x1 x2 x3 x4 x5 h), trivial⟩
set_option maxRecDepth 100000 in
set_option maxHeartbeats 0 in
theorem n_Lw_law_1960 {ρ : Type} (e : zRes → Option ρ) {krA : Int → zH → Option ρ} {krZ : Int → zH → Option zRes} (hk : ∀ v h, (krZ v h).bind e = krA v h) {r28A : Int → Int → Int → Int → Int → Int → zH → Option ρ} {r28Z : Int → Int → Int → Int → Int → Int → zH → Option zRes} (h28 : ∀ (x0 x1 x2 x3 x4 x5 : Int) (h : zH), (r28Z x0 x1 x2 x3 x4 x5 h).bind e = r28A x0 x1 x2 x3 x4 x5 h) (a0 a1 a2 a3 a4 a5 t0 t1 : Int) (h : zH) : (Lw_law_1960 krZ r28Z a0 a1 a2 a3 a4 a5 t0 t1 h).bind e = Lw_law_1960 krA r28A a0 a1 a2 a3 a4 a5 t0 t1 h := by
  refine Eq.trans (congrArg (fun z => Option.bind z e) (qe_Lw_law_1960 krZ r28Z a0 a1 a2 a3 a4 a5 t0 t1 h)) (Eq.trans ?_ (Eq.symm (qe_Lw_law_1960 krA r28A a0 a1 a2 a3 a4 a5 t0 t1 h)))
  generalize (400 : Nat) = f9
  refine zseg_e e (zcal_e _ _ ?_) (zorc_e _ _ ?_) hk (fun _ _ => rfl) f9 _ _ _ _
  · exact trivial
  · exact ⟨rfl, rfl, rfl, zap6_e (fun x0 x1 x2 x3 x4 x5 h => n_Lw_law_1966 e hk h28 x0 x1 x2 x3 x4 x5 h), trivial⟩
set_option maxRecDepth 100000 in
set_option maxHeartbeats 0 in
theorem n_Lw_law_1894 {ρ : Type} (e : zRes → Option ρ) {krA : Int → zH → Option ρ} {krZ : Int → zH → Option zRes} (hk : ∀ v h, (krZ v h).bind e = krA v h) {r28A : Int → Int → Int → Int → Int → Int → zH → Option ρ} {r28Z : Int → Int → Int → Int → Int → Int → zH → Option zRes} (h28 : ∀ (x0 x1 x2 x3 x4 x5 : Int) (h : zH), (r28Z x0 x1 x2 x3 x4 x5 h).bind e = r28A x0 x1 x2 x3 x4 x5 h) (a0 a1 a2 a3 a4 a5 : Int) (h : zH) : (Lw_law_1894 krZ r28Z a0 a1 a2 a3 a4 a5 h).bind e = Lw_law_1894 krA r28A a0 a1 a2 a3 a4 a5 h := by
  refine Eq.trans (congrArg (fun z => Option.bind z e) (qe_Lw_law_1894 krZ r28Z a0 a1 a2 a3 a4 a5 h)) (Eq.trans ?_ (Eq.symm (qe_Lw_law_1894 krA r28A a0 a1 a2 a3 a4 a5 h)))
  generalize (400 : Nat) = f9
  refine zseg_e e (zcal_e _ _ ?_) (zorc_e _ _ ?_) hk (fun _ _ => rfl) f9 _ _ _ _
  · exact ⟨rfl, rfl, zcm0_e (fun  h k t => n_M_thrown e (fun _ _ => rfl)  h), ⟨rfl, rfl, zcm2_e (fun x0 x1 h k t => n_M_isRacing e (fun _ _ => rfl) x0 x1 h), ⟨rfl, rfl, zca4_e (fun x0 x1 x2 x3 h k t => n_Lw_isRacing e (fun _ _ => rfl) x0 x1 x2 x3 h), trivial⟩⟩⟩
  · exact ⟨rfl, rfl, rfl, zap8_e (fun x0 x1 x2 x3 x4 x5 x6 x7 h => n_Lw_law_1960 e hk h28 x0 x1 x2 x3 x4 x5 x6 x7 h), ⟨rfl, rfl, rfl, zap6_e (fun x0 x1 x2 x3 x4 x5 h => n_Lw_law_1966 e hk h28 x0 x1 x2 x3 x4 x5 h), trivial⟩⟩
set_option maxRecDepth 100000 in
set_option maxHeartbeats 0 in
theorem n_Lw_law_2022 {ρ : Type} (e : zRes → Option ρ) {krA : Int → zH → Option ρ} {krZ : Int → zH → Option zRes} (hk : ∀ v h, (krZ v h).bind e = krA v h) {r28A : Int → Int → Int → Int → Int → Int → zH → Option ρ} {r28Z : Int → Int → Int → Int → Int → Int → zH → Option zRes} (h28 : ∀ (x0 x1 x2 x3 x4 x5 : Int) (h : zH), (r28Z x0 x1 x2 x3 x4 x5 h).bind e = r28A x0 x1 x2 x3 x4 x5 h) (a0 a1 a2 a3 a4 a5 : Int) (h : zH) : (Lw_law_2022 krZ r28Z a0 a1 a2 a3 a4 a5 h).bind e = Lw_law_2022 krA r28A a0 a1 a2 a3 a4 a5 h := by
  refine Eq.trans (congrArg (fun z => Option.bind z e) (qe_Lw_law_2022 krZ r28Z a0 a1 a2 a3 a4 a5 h)) (Eq.trans ?_ (Eq.symm (qe_Lw_law_2022 krA r28A a0 a1 a2 a3 a4 a5 h)))
  generalize (400 : Nat) = f9
  refine zseg_e e (zcal_e _ _ ?_) (zorc_e _ _ ?_) hk (fun _ _ => rfl) f9 _ _ _ _
  · exact trivial
  · exact ⟨rfl, rfl, rfl, zap6_e (fun x0 x1 x2 x3 x4 x5 h => n_Lw_law_2355 e hk h28 x0 x1 x2 x3 x4 x5 h), trivial⟩
set_option maxRecDepth 100000 in
set_option maxHeartbeats 0 in
theorem n_Lw_law_1969 {ρ : Type} (e : zRes → Option ρ) {krA : Int → zH → Option ρ} {krZ : Int → zH → Option zRes} (hk : ∀ v h, (krZ v h).bind e = krA v h) {r28A : Int → Int → Int → Int → Int → Int → zH → Option ρ} {r28Z : Int → Int → Int → Int → Int → Int → zH → Option zRes} (h28 : ∀ (x0 x1 x2 x3 x4 x5 : Int) (h : zH), (r28Z x0 x1 x2 x3 x4 x5 h).bind e = r28A x0 x1 x2 x3 x4 x5 h) (a0 a1 a2 a3 a4 a5 : Int) (h : zH) : (Lw_law_1969 krZ r28Z a0 a1 a2 a3 a4 a5 h).bind e = Lw_law_1969 krA r28A a0 a1 a2 a3 a4 a5 h := by
  refine Eq.trans (congrArg (fun z => Option.bind z e) (qe_Lw_law_1969 krZ r28Z a0 a1 a2 a3 a4 a5 h)) (Eq.trans ?_ (Eq.symm (qe_Lw_law_1969 krA r28A a0 a1 a2 a3 a4 a5 h)))
  generalize (400 : Nat) = f9
  refine zseg_e e (zcal_e _ _ ?_) (zorc_e _ _ ?_) hk (fun _ _ => rfl) f9 _ _ _ _
  · exact ⟨rfl, rfl, zcm0_e (fun  h k t => n_M_thrown e (fun _ _ => rfl)  h), ⟨rfl, rfl, zcm1_e (fun x0 h k t => n_M_races e (fun _ _ => rfl) x0 h), ⟨rfl, rfl, zca3_e (fun x0 x1 x2 h k t => n_Lw_races e (fun _ _ => rfl) x0 x1 x2 h), trivial⟩⟩⟩
  · exact ⟨rfl, rfl, rfl, zap6_e (fun x0 x1 x2 x3 x4 x5 h => n_Lw_law_2022 e hk h28 x0 x1 x2 x3 x4 x5 h), trivial⟩
set_option maxRecDepth 100000 in
set_option maxHeartbeats 0 in
theorem n_Lw_law_2142 {ρ : Type} (e : zRes → Option ρ) {krA : Int → zH → Option ρ} {krZ : Int → zH → Option zRes} (hk : ∀ v h, (krZ v h).bind e = krA v h) {r28A : Int → Int → Int → Int → Int → Int → zH → Option ρ} {r28Z : Int → Int → Int → Int → Int → Int → zH → Option zRes} (h28 : ∀ (x0 x1 x2 x3 x4 x5 : Int) (h : zH), (r28Z x0 x1 x2 x3 x4 x5 h).bind e = r28A x0 x1 x2 x3 x4 x5 h) (a0 a1 a2 a3 a4 a5 : Int) (h : zH) : (Lw_law_2142 krZ r28Z a0 a1 a2 a3 a4 a5 h).bind e = Lw_law_2142 krA r28A a0 a1 a2 a3 a4 a5 h := by
  refine Eq.trans (congrArg (fun z => Option.bind z e) (qe_Lw_law_2142 krZ r28Z a0 a1 a2 a3 a4 a5 h)) (Eq.trans ?_ (Eq.symm (qe_Lw_law_2142 krA r28A a0 a1 a2 a3 a4 a5 h)))
  generalize (400 : Nat) = f9
  refine zseg_e e (zcal_e _ _ ?_) (zorc_e _ _ ?_) hk (fun _ _ => rfl) f9 _ _ _ _
  · exact trivial
  · exact ⟨rfl, rfl, rfl, zap6_e (fun x0 x1 x2 x3 x4 x5 h => n_Lw_law_2355 e hk h28 x0 x1 x2 x3 x4 x5 h), trivial⟩
set_option maxRecDepth 100000 in
set_option maxHeartbeats 0 in
theorem n_Lw_law_2103 {ρ : Type} (e : zRes → Option ρ) {krA : Int → zH → Option ρ} {krZ : Int → zH → Option zRes} (hk : ∀ v h, (krZ v h).bind e = krA v h) {r28A : Int → Int → Int → Int → Int → Int → zH → Option ρ} {r28Z : Int → Int → Int → Int → Int → Int → zH → Option zRes} (h28 : ∀ (x0 x1 x2 x3 x4 x5 : Int) (h : zH), (r28Z x0 x1 x2 x3 x4 x5 h).bind e = r28A x0 x1 x2 x3 x4 x5 h) (a0 a1 a2 a3 a4 a5 a6 t0 t1 t2 t3 t4 : Int) (h : zH) : (Lw_law_2103 krZ r28Z a0 a1 a2 a3 a4 a5 a6 t0 t1 t2 t3 t4 h).bind e = Lw_law_2103 krA r28A a0 a1 a2 a3 a4 a5 a6 t0 t1 t2 t3 t4 h := by
  refine Eq.trans (congrArg (fun z => Option.bind z e) (qe_Lw_law_2103 krZ r28Z a0 a1 a2 a3 a4 a5 a6 t0 t1 t2 t3 t4 h)) (Eq.trans ?_ (Eq.symm (qe_Lw_law_2103 krA r28A a0 a1 a2 a3 a4 a5 a6 t0 t1 t2 t3 t4 h)))
  generalize (400 : Nat) = f9
  refine zseg_e e (zcal_e _ _ ?_) (zorc_e _ _ ?_) hk (fun _ _ => rfl) f9 _ _ _ _
  · exact ⟨rfl, rfl, zcm0_e (fun  h k t => n_M_thrown e (fun _ _ => rfl)  h), ⟨rfl, rfl, zcm5_e (fun x0 x1 x2 x3 x4 h k t => n_M_serial e (fun _ _ => rfl) x0 x1 x2 x3 x4 h), trivial⟩⟩
  · exact ⟨rfl, rfl, rfl, zap6_e (fun x0 x1 x2 x3 x4 x5 h => n_Lw_law_2142 e hk h28 x0 x1 x2 x3 x4 x5 h), trivial⟩
set_option maxRecDepth 100000 in
set_option maxHeartbeats 0 in
theorem n_Lw_law_2058 {ρ : Type} (e : zRes → Option ρ) {krA : Int → zH → Option ρ} {krZ : Int → zH → Option zRes} (hk : ∀ v h, (krZ v h).bind e = krA v h) {r28A : Int → Int → Int → Int → Int → Int → zH → Option ρ} {r28Z : Int → Int → Int → Int → Int → Int → zH → Option zRes} (h28 : ∀ (x0 x1 x2 x3 x4 x5 : Int) (h : zH), (r28Z x0 x1 x2 x3 x4 x5 h).bind e = r28A x0 x1 x2 x3 x4 x5 h) (a0 a1 a2 a3 a4 a5 t0 t1 t2 t3 t4 : Int) (h : zH) : (Lw_law_2058 krZ r28Z a0 a1 a2 a3 a4 a5 t0 t1 t2 t3 t4 h).bind e = Lw_law_2058 krA r28A a0 a1 a2 a3 a4 a5 t0 t1 t2 t3 t4 h := by
  refine Eq.trans (congrArg (fun z => Option.bind z e) (qe_Lw_law_2058 krZ r28Z a0 a1 a2 a3 a4 a5 t0 t1 t2 t3 t4 h)) (Eq.trans ?_ (Eq.symm (qe_Lw_law_2058 krA r28A a0 a1 a2 a3 a4 a5 t0 t1 t2 t3 t4 h)))
  generalize (400 : Nat) = f9
  refine zseg_e e (zcal_e _ _ ?_) (zorc_e _ _ ?_) hk (fun _ _ => rfl) f9 _ _ _ _
  · exact ⟨rfl, rfl, zca7_e (fun x0 x1 x2 x3 x4 x5 x6 h k t => n_Lw_serial e (fun _ _ => rfl) x0 x1 x2 x3 x4 x5 x6 h), trivial⟩
  · exact ⟨rfl, rfl, rfl, zap12_e (fun x0 x1 x2 x3 x4 x5 x6 x7 x8 x9 x10 x11 h => n_Lw_law_2103 e hk h28 x0 x1 x2 x3 x4 x5 x6 x7 x8 x9 x10 x11 h), trivial⟩
set_option maxRecDepth 100000 in
set_option maxHeartbeats 0 in
theorem n_Lw_law_2025 {ρ : Type} (e : zRes → Option ρ) {krA : Int → zH → Option ρ} {krZ : Int → zH → Option zRes} (hk : ∀ v h, (krZ v h).bind e = krA v h) {r28A : Int → Int → Int → Int → Int → Int → zH → Option ρ} {r28Z : Int → Int → Int → Int → Int → Int → zH → Option zRes} (h28 : ∀ (x0 x1 x2 x3 x4 x5 : Int) (h : zH), (r28Z x0 x1 x2 x3 x4 x5 h).bind e = r28A x0 x1 x2 x3 x4 x5 h) (a0 a1 a2 a3 a4 a5 : Int) (h : zH) : (Lw_law_2025 krZ r28Z a0 a1 a2 a3 a4 a5 h).bind e = Lw_law_2025 krA r28A a0 a1 a2 a3 a4 a5 h := by
  refine Eq.trans (congrArg (fun z => Option.bind z e) (qe_Lw_law_2025 krZ r28Z a0 a1 a2 a3 a4 a5 h)) (Eq.trans ?_ (Eq.symm (qe_Lw_law_2025 krA r28A a0 a1 a2 a3 a4 a5 h)))
  generalize (400 : Nat) = f9
  refine zseg_e e (zcal_e _ _ ?_) (zorc_e _ _ ?_) hk (fun _ _ => rfl) f9 _ _ _ _
  · exact trivial
  · exact ⟨rfl, rfl, rfl, zap11_e (fun x0 x1 x2 x3 x4 x5 x6 x7 x8 x9 x10 h => n_Lw_law_2058 e hk h28 x0 x1 x2 x3 x4 x5 x6 x7 x8 x9 x10 h), trivial⟩
set_option maxRecDepth 100000 in
set_option maxHeartbeats 0 in
theorem n_Lw_law_2145 {ρ : Type} (e : zRes → Option ρ) {krA : Int → zH → Option ρ} {krZ : Int → zH → Option zRes} (hk : ∀ v h, (krZ v h).bind e = krA v h) {r28A : Int → Int → Int → Int → Int → Int → zH → Option ρ} {r28Z : Int → Int → Int → Int → Int → Int → zH → Option zRes} (h28 : ∀ (x0 x1 x2 x3 x4 x5 : Int) (h : zH), (r28Z x0 x1 x2 x3 x4 x5 h).bind e = r28A x0 x1 x2 x3 x4 x5 h) (a0 a1 a2 a3 a4 a5 : Int) (h : zH) : (Lw_law_2145 krZ r28Z a0 a1 a2 a3 a4 a5 h).bind e = Lw_law_2145 krA r28A a0 a1 a2 a3 a4 a5 h := by
  refine Eq.trans (congrArg (fun z => Option.bind z e) (qe_Lw_law_2145 krZ r28Z a0 a1 a2 a3 a4 a5 h)) (Eq.trans ?_ (Eq.symm (qe_Lw_law_2145 krA r28A a0 a1 a2 a3 a4 a5 h)))
  generalize (400 : Nat) = f9
  refine zseg_e e (zcal_e _ _ ?_) (zorc_e _ _ ?_) hk (fun _ _ => rfl) f9 _ _ _ _
  · exact ⟨rfl, rfl, zca1_e (fun x0 h k t => n_X_lanes e (fun _ _ => rfl) x0 h), ⟨rfl, rfl, zcm0_e (fun  h k t => n_M_lanes e (fun _ _ => rfl)  h), trivial⟩⟩
  · exact ⟨rfl, rfl, rfl, zap6_e (fun x0 x1 x2 x3 x4 x5 h => n_Lw_law_2355 e hk h28 x0 x1 x2 x3 x4 x5 h), trivial⟩
set_option maxRecDepth 100000 in
set_option maxHeartbeats 0 in
theorem n_Lw_law_2159 {ρ : Type} (e : zRes → Option ρ) {krA : Int → zH → Option ρ} {krZ : Int → zH → Option zRes} (hk : ∀ v h, (krZ v h).bind e = krA v h) {r28A : Int → Int → Int → Int → Int → Int → zH → Option ρ} {r28Z : Int → Int → Int → Int → Int → Int → zH → Option zRes} (h28 : ∀ (x0 x1 x2 x3 x4 x5 : Int) (h : zH), (r28Z x0 x1 x2 x3 x4 x5 h).bind e = r28A x0 x1 x2 x3 x4 x5 h) (a0 a1 a2 a3 a4 a5 : Int) (h : zH) : (Lw_law_2159 krZ r28Z a0 a1 a2 a3 a4 a5 h).bind e = Lw_law_2159 krA r28A a0 a1 a2 a3 a4 a5 h := by
  refine Eq.trans (congrArg (fun z => Option.bind z e) (qe_Lw_law_2159 krZ r28Z a0 a1 a2 a3 a4 a5 h)) (Eq.trans ?_ (Eq.symm (qe_Lw_law_2159 krA r28A a0 a1 a2 a3 a4 a5 h)))
  generalize (400 : Nat) = f9
  refine zseg_e e (zcal_e _ _ ?_) (zorc_e _ _ ?_) hk (fun _ _ => rfl) f9 _ _ _ _
  · exact ⟨rfl, rfl, zca1_e (fun x0 h k t => n_X_misses e (fun _ _ => rfl) x0 h), ⟨rfl, rfl, zcm0_e (fun  h k t => n_M_misses e (fun _ _ => rfl)  h), trivial⟩⟩
  · exact ⟨rfl, rfl, rfl, zap6_e (fun x0 x1 x2 x3 x4 x5 h => n_Lw_law_2355 e hk h28 x0 x1 x2 x3 x4 x5 h), trivial⟩
set_option maxRecDepth 100000 in
set_option maxHeartbeats 0 in
theorem n_Lw_law_2172 {ρ : Type} (e : zRes → Option ρ) {krA : Int → zH → Option ρ} {krZ : Int → zH → Option zRes} (hk : ∀ v h, (krZ v h).bind e = krA v h) {r28A : Int → Int → Int → Int → Int → Int → zH → Option ρ} {r28Z : Int → Int → Int → Int → Int → Int → zH → Option zRes} (h28 : ∀ (x0 x1 x2 x3 x4 x5 : Int) (h : zH), (r28Z x0 x1 x2 x3 x4 x5 h).bind e = r28A x0 x1 x2 x3 x4 x5 h) (a0 a1 a2 a3 a4 a5 : Int) (h : zH) : (Lw_law_2172 krZ r28Z a0 a1 a2 a3 a4 a5 h).bind e = Lw_law_2172 krA r28A a0 a1 a2 a3 a4 a5 h := by
  refine Eq.trans (congrArg (fun z => Option.bind z e) (qe_Lw_law_2172 krZ r28Z a0 a1 a2 a3 a4 a5 h)) (Eq.trans ?_ (Eq.symm (qe_Lw_law_2172 krA r28A a0 a1 a2 a3 a4 a5 h)))
  generalize (400 : Nat) = f9
  refine zseg_e e (zcal_e _ _ ?_) (zorc_e _ _ ?_) hk (fun _ _ => rfl) f9 _ _ _ _
  · exact ⟨rfl, rfl, zca1_e (fun x0 h k t => n_X_lost e (fun _ _ => rfl) x0 h), ⟨rfl, rfl, zcm0_e (fun  h k t => n_M_lost e (fun _ _ => rfl)  h), trivial⟩⟩
  · exact ⟨rfl, rfl, rfl, zap6_e (fun x0 x1 x2 x3 x4 x5 h => n_Lw_law_2355 e hk h28 x0 x1 x2 x3 x4 x5 h), trivial⟩
set_option maxRecDepth 100000 in
set_option maxHeartbeats 0 in
theorem n_Lw_law_2185 {ρ : Type} (e : zRes → Option ρ) {krA : Int → zH → Option ρ} {krZ : Int → zH → Option zRes} (hk : ∀ v h, (krZ v h).bind e = krA v h) {r28A : Int → Int → Int → Int → Int → Int → zH → Option ρ} {r28Z : Int → Int → Int → Int → Int → Int → zH → Option zRes} (h28 : ∀ (x0 x1 x2 x3 x4 x5 : Int) (h : zH), (r28Z x0 x1 x2 x3 x4 x5 h).bind e = r28A x0 x1 x2 x3 x4 x5 h) (a0 a1 a2 a3 a4 a5 : Int) (h : zH) : (Lw_law_2185 krZ r28Z a0 a1 a2 a3 a4 a5 h).bind e = Lw_law_2185 krA r28A a0 a1 a2 a3 a4 a5 h := by
  refine Eq.trans (congrArg (fun z => Option.bind z e) (qe_Lw_law_2185 krZ r28Z a0 a1 a2 a3 a4 a5 h)) (Eq.trans ?_ (Eq.symm (qe_Lw_law_2185 krA r28A a0 a1 a2 a3 a4 a5 h)))
  generalize (400 : Nat) = f9
  refine zseg_e e (zcal_e _ _ ?_) (zorc_e _ _ ?_) hk (fun _ _ => rfl) f9 _ _ _ _
  · exact ⟨rfl, rfl, zca1_e (fun x0 h k t => n_X_barriers e (fun _ _ => rfl) x0 h), ⟨rfl, rfl, zcm0_e (fun  h k t => n_M_barriers e (fun _ _ => rfl)  h), trivial⟩⟩
  · exact ⟨rfl, rfl, rfl, zap6_e (fun x0 x1 x2 x3 x4 x5 h => n_Lw_law_2355 e hk h28 x0 x1 x2 x3 x4 x5 h), trivial⟩
set_option maxRecDepth 100000 in
set_option maxHeartbeats 0 in
theorem n_Lw_law_2198 {ρ : Type} (e : zRes → Option ρ) {krA : Int → zH → Option ρ} {krZ : Int → zH → Option zRes} (hk : ∀ v h, (krZ v h).bind e = krA v h) {r28A : Int → Int → Int → Int → Int → Int → zH → Option ρ} {r28Z : Int → Int → Int → Int → Int → Int → zH → Option zRes} (h28 : ∀ (x0 x1 x2 x3 x4 x5 : Int) (h : zH), (r28Z x0 x1 x2 x3 x4 x5 h).bind e = r28A x0 x1 x2 x3 x4 x5 h) (a0 a1 a2 a3 a4 a5 : Int) (h : zH) : (Lw_law_2198 krZ r28Z a0 a1 a2 a3 a4 a5 h).bind e = Lw_law_2198 krA r28A a0 a1 a2 a3 a4 a5 h := by
  refine Eq.trans (congrArg (fun z => Option.bind z e) (qe_Lw_law_2198 krZ r28Z a0 a1 a2 a3 a4 a5 h)) (Eq.trans ?_ (Eq.symm (qe_Lw_law_2198 krA r28A a0 a1 a2 a3 a4 a5 h)))
  generalize (400 : Nat) = f9
  refine zseg_e e (zcal_e _ _ ?_) (zorc_e _ _ ?_) hk (fun _ _ => rfl) f9 _ _ _ _
  · exact ⟨rfl, rfl, zca1_e (fun x0 h k t => n_X_refused e (fun _ _ => rfl) x0 h), ⟨rfl, rfl, zcm0_e (fun  h k t => n_M_refused e (fun _ _ => rfl)  h), trivial⟩⟩
  · exact ⟨rfl, rfl, rfl, zap6_e (fun x0 x1 x2 x3 x4 x5 h => n_Lw_law_2355 e hk h28 x0 x1 x2 x3 x4 x5 h), trivial⟩
set_option maxRecDepth 100000 in
set_option maxHeartbeats 0 in
theorem n_Lw_law_2272 {ρ : Type} (e : zRes → Option ρ) {krA : Int → zH → Option ρ} {krZ : Int → zH → Option zRes} (hk : ∀ v h, (krZ v h).bind e = krA v h) (h : zH) : (Lw_law_2272 krZ h).bind e = Lw_law_2272 krA h := by
  refine Eq.trans (congrArg (fun z => Option.bind z e) (qe_Lw_law_2272 krZ h)) (Eq.trans ?_ (Eq.symm (qe_Lw_law_2272 krA h)))
  generalize (400 : Nat) = f9
  refine zseg_e e (zcal_e _ _ ?_) (zorc_e _ _ ?_) hk (fun _ _ => rfl) f9 _ _ _ _
  · exact trivial
  · exact trivial
set_option maxRecDepth 100000 in
set_option maxHeartbeats 0 in
theorem n_Lw_law_2274 {ρ : Type} (e : zRes → Option ρ) {krA : Int → zH → Option ρ} {krZ : Int → zH → Option zRes} (hk : ∀ v h, (krZ v h).bind e = krA v h) {r28A : Int → Int → Int → Int → Int → Int → zH → Option ρ} {r28Z : Int → Int → Int → Int → Int → Int → zH → Option zRes} (h28 : ∀ (x0 x1 x2 x3 x4 x5 : Int) (h : zH), (r28Z x0 x1 x2 x3 x4 x5 h).bind e = r28A x0 x1 x2 x3 x4 x5 h) (a0 a1 a2 a3 a4 a5 : Int) (h : zH) : (Lw_law_2274 krZ r28Z a0 a1 a2 a3 a4 a5 h).bind e = Lw_law_2274 krA r28A a0 a1 a2 a3 a4 a5 h := by
  refine Eq.trans (congrArg (fun z => Option.bind z e) (qe_Lw_law_2274 krZ r28Z a0 a1 a2 a3 a4 a5 h)) (Eq.trans ?_ (Eq.symm (qe_Lw_law_2274 krA r28A a0 a1 a2 a3 a4 a5 h)))
  generalize (400 : Nat) = f9
  refine zseg_e e (zcal_e _ _ ?_) (zorc_e _ _ ?_) hk (fun _ _ => rfl) f9 _ _ _ _
  · exact trivial
  · exact ⟨rfl, rfl, rfl, zap6_e (fun x0 x1 x2 x3 x4 x5 h => n_Lw_law_2355 e hk h28 x0 x1 x2 x3 x4 x5 h), trivial⟩
set_option maxRecDepth 100000 in
set_option maxHeartbeats 0 in
theorem n_Lw_law_2211 {ρ : Type} (e : zRes → Option ρ) {krA : Int → zH → Option ρ} {krZ : Int → zH → Option zRes} (hk : ∀ v h, (krZ v h).bind e = krA v h) {r28A : Int → Int → Int → Int → Int → Int → zH → Option ρ} {r28Z : Int → Int → Int → Int → Int → Int → zH → Option zRes} (h28 : ∀ (x0 x1 x2 x3 x4 x5 : Int) (h : zH), (r28Z x0 x1 x2 x3 x4 x5 h).bind e = r28A x0 x1 x2 x3 x4 x5 h) (a0 a1 a2 a3 a4 a5 : Int) (h : zH) : (Lw_law_2211 krZ r28Z a0 a1 a2 a3 a4 a5 h).bind e = Lw_law_2211 krA r28A a0 a1 a2 a3 a4 a5 h := by
  refine Eq.trans (congrArg (fun z => Option.bind z e) (qe_Lw_law_2211 krZ r28Z a0 a1 a2 a3 a4 a5 h)) (Eq.trans ?_ (Eq.symm (qe_Lw_law_2211 krA r28A a0 a1 a2 a3 a4 a5 h)))
  generalize (400 : Nat) = f9
  refine zseg_e e (zcal_e _ _ ?_) (zorc_e _ _ ?_) hk (fun _ _ => rfl) f9 _ _ _ _
  · exact ⟨rfl, rfl, zcm0_e (fun  h k t => n_M_thrown e (fun _ _ => rfl)  h), ⟨rfl, rfl, zcm0_e (fun  h k t => n_M_usedShare e (fun _ _ => rfl)  h), ⟨rfl, rfl, zca2_e (fun x0 x1 h k t => n_Lw_usedShare e (fun _ _ => rfl) x0 x1 h), trivial⟩⟩⟩
  · exact ⟨rfl, rfl, rfl, zap0_e (fun  h => n_Lw_law_2272 e hk  h), ⟨rfl, rfl, rfl, zap6_e (fun x0 x1 x2 x3 x4 x5 h => n_Lw_law_2274 e hk h28 x0 x1 x2 x3 x4 x5 h), trivial⟩⟩
set_option maxRecDepth 100000 in
set_option maxHeartbeats 0 in
theorem n_Lw_law_2337 {ρ : Type} (e : zRes → Option ρ) {krA : Int → zH → Option ρ} {krZ : Int → zH → Option zRes} (hk : ∀ v h, (krZ v h).bind e = krA v h) (h : zH) : (Lw_law_2337 krZ h).bind e = Lw_law_2337 krA h := by
  refine Eq.trans (congrArg (fun z => Option.bind z e) (qe_Lw_law_2337 krZ h)) (Eq.trans ?_ (Eq.symm (qe_Lw_law_2337 krA h)))
  generalize (400 : Nat) = f9
  refine zseg_e e (zcal_e _ _ ?_) (zorc_e _ _ ?_) hk (fun _ _ => rfl) f9 _ _ _ _
  · exact trivial
  · exact trivial
set_option maxRecDepth 100000 in
set_option maxHeartbeats 0 in
theorem n_Lw_law_2339 {ρ : Type} (e : zRes → Option ρ) {krA : Int → zH → Option ρ} {krZ : Int → zH → Option zRes} (hk : ∀ v h, (krZ v h).bind e = krA v h) {r28A : Int → Int → Int → Int → Int → Int → zH → Option ρ} {r28Z : Int → Int → Int → Int → Int → Int → zH → Option zRes} (h28 : ∀ (x0 x1 x2 x3 x4 x5 : Int) (h : zH), (r28Z x0 x1 x2 x3 x4 x5 h).bind e = r28A x0 x1 x2 x3 x4 x5 h) (a0 a1 a2 a3 a4 a5 : Int) (h : zH) : (Lw_law_2339 krZ r28Z a0 a1 a2 a3 a4 a5 h).bind e = Lw_law_2339 krA r28A a0 a1 a2 a3 a4 a5 h := by
  refine Eq.trans (congrArg (fun z => Option.bind z e) (qe_Lw_law_2339 krZ r28Z a0 a1 a2 a3 a4 a5 h)) (Eq.trans ?_ (Eq.symm (qe_Lw_law_2339 krA r28A a0 a1 a2 a3 a4 a5 h)))
  generalize (400 : Nat) = f9
  refine zseg_e e (zcal_e _ _ ?_) (zorc_e _ _ ?_) hk (fun _ _ => rfl) f9 _ _ _ _
  · exact trivial
  · exact ⟨rfl, rfl, rfl, zap6_e (fun x0 x1 x2 x3 x4 x5 h => n_Lw_law_2355 e hk h28 x0 x1 x2 x3 x4 x5 h), trivial⟩
set_option maxRecDepth 100000 in
set_option maxHeartbeats 0 in
theorem n_Lw_law_2277 {ρ : Type} (e : zRes → Option ρ) {krA : Int → zH → Option ρ} {krZ : Int → zH → Option zRes} (hk : ∀ v h, (krZ v h).bind e = krA v h) {r28A : Int → Int → Int → Int → Int → Int → zH → Option ρ} {r28Z : Int → Int → Int → Int → Int → Int → zH → Option zRes} (h28 : ∀ (x0 x1 x2 x3 x4 x5 : Int) (h : zH), (r28Z x0 x1 x2 x3 x4 x5 h).bind e = r28A x0 x1 x2 x3 x4 x5 h) (a0 a1 a2 a3 a4 a5 : Int) (h : zH) : (Lw_law_2277 krZ r28Z a0 a1 a2 a3 a4 a5 h).bind e = Lw_law_2277 krA r28A a0 a1 a2 a3 a4 a5 h := by
  refine Eq.trans (congrArg (fun z => Option.bind z e) (qe_Lw_law_2277 krZ r28Z a0 a1 a2 a3 a4 a5 h)) (Eq.trans ?_ (Eq.symm (qe_Lw_law_2277 krA r28A a0 a1 a2 a3 a4 a5 h)))
  generalize (400 : Nat) = f9
  refine zseg_e e (zcal_e _ _ ?_) (zorc_e _ _ ?_) hk (fun _ _ => rfl) f9 _ _ _ _
  · exact ⟨rfl, rfl, zcm0_e (fun  h k t => n_M_thrown e (fun _ _ => rfl)  h), ⟨rfl, rfl, zcm0_e (fun  h k t => n_M_meanDelay e (fun _ _ => rfl)  h), ⟨rfl, rfl, zca2_e (fun x0 x1 h k t => n_Lw_meanDelay e (fun _ _ => rfl) x0 x1 h), trivial⟩⟩⟩
  · exact ⟨rfl, rfl, rfl, zap0_e (fun  h => n_Lw_law_2337 e hk  h), ⟨rfl, rfl, rfl, zap6_e (fun x0 x1 x2 x3 x4 x5 h => n_Lw_law_2339 e hk h28 x0 x1 x2 x3 x4 x5 h), trivial⟩⟩
set_option maxRecDepth 100000 in
set_option maxHeartbeats 0 in
theorem n_Lw_law_2342 {ρ : Type} (e : zRes → Option ρ) {krA : Int → zH → Option ρ} {krZ : Int → zH → Option zRes} (hk : ∀ v h, (krZ v h).bind e = krA v h) {r28A : Int → Int → Int → Int → Int → Int → zH → Option ρ} {r28Z : Int → Int → Int → Int → Int → Int → zH → Option zRes} (h28 : ∀ (x0 x1 x2 x3 x4 x5 : Int) (h : zH), (r28Z x0 x1 x2 x3 x4 x5 h).bind e = r28A x0 x1 x2 x3 x4 x5 h) (a0 a1 a2 a3 a4 a5 : Int) (h : zH) : (Lw_law_2342 krZ r28Z a0 a1 a2 a3 a4 a5 h).bind e = Lw_law_2342 krA r28A a0 a1 a2 a3 a4 a5 h := by
  refine Eq.trans (congrArg (fun z => Option.bind z e) (qe_Lw_law_2342 krZ r28Z a0 a1 a2 a3 a4 a5 h)) (Eq.trans ?_ (Eq.symm (qe_Lw_law_2342 krA r28A a0 a1 a2 a3 a4 a5 h)))
  generalize (400 : Nat) = f9
  refine zseg_e e (zcal_e _ _ ?_) (zorc_e _ _ ?_) hk (fun _ _ => rfl) f9 _ _ _ _
  · exact ⟨rfl, rfl, zca1_e (fun x0 h k t => n_X_isSound e (fun _ _ => rfl) x0 h), ⟨rfl, rfl, zcm0_e (fun  h k t => n_M_isSound e (fun _ _ => rfl)  h), trivial⟩⟩
  · exact ⟨rfl, rfl, rfl, zap6_e (fun x0 x1 x2 x3 x4 x5 h => n_Lw_law_2355 e hk h28 x0 x1 x2 x3 x4 x5 h), trivial⟩
set_option maxRecDepth 100000 in
set_option maxHeartbeats 0 in
theorem n_Lw_law_28b {ρ : Type} (e : zRes → Option ρ) {krA : Int → zH → Option ρ} {krZ : Int → zH → Option zRes} (hk : ∀ v h, (krZ v h).bind e = krA v h) {r28A : Int → Int → Int → Int → Int → Int → zH → Option ρ} {r28Z : Int → Int → Int → Int → Int → Int → zH → Option zRes} (h28 : ∀ (x0 x1 x2 x3 x4 x5 : Int) (h : zH), (r28Z x0 x1 x2 x3 x4 x5 h).bind e = r28A x0 x1 x2 x3 x4 x5 h) (a0 a1 a2 a3 a4 a5 : Int) (h : zH) : (Lw_law_28b krZ r28Z a0 a1 a2 a3 a4 a5 h).bind e = Lw_law_28b krA r28A a0 a1 a2 a3 a4 a5 h := by
  refine Eq.trans (congrArg (fun z => Option.bind z e) (qe_Lw_law_28b krZ r28Z a0 a1 a2 a3 a4 a5 h)) (Eq.trans ?_ (Eq.symm (qe_Lw_law_28b krA r28A a0 a1 a2 a3 a4 a5 h)))
  generalize (400 : Nat) = f9
  refine zseg_e e (zcal_e _ _ ?_) (zorc_e _ _ ?_) hk (fun _ _ => rfl) f9 _ _ _ _
  · exact trivial
  · exact ⟨rfl, rfl, rfl, zap6_e (fun x0 x1 x2 x3 x4 x5 h => n_Lw_law_208 e hk h28 x0 x1 x2 x3 x4 x5 h), ⟨rfl, rfl, rfl, zap6_e (fun x0 x1 x2 x3 x4 x5 h => n_Lw_law_276 e hk h28 x0 x1 x2 x3 x4 x5 h), ⟨rfl, rfl, rfl, zap6_e (fun x0 x1 x2 x3 x4 x5 h => n_Lw_law_382 e hk h28 x0 x1 x2 x3 x4 x5 h), ⟨rfl, rfl, rfl, zap6_e (fun x0 x1 x2 x3 x4 x5 h => n_Lw_law_450 e hk h28 x0 x1 x2 x3 x4 x5 h), ⟨rfl, rfl, rfl, zap6_e (fun x0 x1 x2 x3 x4 x5 h => n_Lw_law_518 e hk h28 x0 x1 x2 x3 x4 x5 h), ⟨rfl, rfl, rfl, zap6_e (fun x0 x1 x2 x3 x4 x5 h => n_Lw_law_574 e hk h28 x0 x1 x2 x3 x4 x5 h), ⟨rfl, rfl, rfl, zap6_e (fun x0 x1 x2 x3 x4 x5 h => n_Lw_law_678 e hk h28 x0 x1 x2 x3 x4 x5 h), ⟨rfl, rfl, rfl, zap6_e (fun x0 x1 x2 x3 x4 x5 h => n_Lw_law_782 e hk h28 x0 x1 x2 x3 x4 x5 h), ⟨rfl, rfl, rfl, zap6_e (fun x0 x1 x2 x3 x4 x5 h => n_Lw_law_795 e hk h28 x0 x1 x2 x3 x4 x5 h), ⟨rfl, rfl, rfl, zap6_e (fun x0 x1 x2 x3 x4 x5 h => n_Lw_law_851 e hk h28 x0 x1 x2 x3 x4 x5 h), ⟨rfl, rfl, rfl, zap6_e (fun x0 x1 x2 x3 x4 x5 h => n_Lw_law_907 e hk h28 x0 x1 x2 x3 x4 x5 h), ⟨rfl, rfl, rfl, zap6_e (fun x0 x1 x2 x3 x4 x5 h => n_Lw_law_963 e hk h28 x0 x1 x2 x3 x4 x5 h), ⟨rfl, rfl, rfl, zap6_e (fun x0 x1 x2 x3 x4 x5 h => n_Lw_law_1019 e hk h28 x0 x1 x2 x3 x4 x5 h), ⟨rfl, rfl, rfl, zap6_e (fun x0 x1 x2 x3 x4 x5 h => n_Lw_law_1075 e hk h28 x0 x1 x2 x3 x4 x5 h), ⟨rfl, rfl, rfl, zap6_e (fun x0 x1 x2 x3 x4 x5 h => n_Lw_law_1133 e hk h28 x0 x1 x2 x3 x4 x5 h), ⟨rfl, rfl, rfl, zap6_e (fun x0 x1 x2 x3 x4 x5 h => n_Lw_law_1146 e hk h28 x0 x1 x2 x3 x4 x5 h), ⟨rfl, rfl, rfl, zap6_e (fun x0 x1 x2 x3 x4 x5 h => n_Lw_law_1202 e hk h28 x0 x1 x2 x3 x4 x5 h), ⟨rfl, rfl, rfl, zap6_e (fun x0 x1 x2 x3 x4 x5 h => n_Lw_law_1270 e hk h28 x0 x1 x2 x3 x4 x5 h), ⟨rfl, rfl, rfl, zap6_e (fun x0 x1 x2 x3 x4 x5 h => n_Lw_law_1338 e hk h28 x0 x1 x2 x3 x4 x5 h), ⟨rfl, rfl, rfl, zap6_e (fun x0 x1 x2 x3 x4 x5 h => n_Lw_law_1406 e hk h28 x0 x1 x2 x3 x4 x5 h), ⟨rfl, rfl, rfl, zap6_e (fun x0 x1 x2 x3 x4 x5 h => n_Lw_law_1474 e hk h28 x0 x1 x2 x3 x4 x5 h), ⟨rfl, rfl, rfl, zap6_e (fun x0 x1 x2 x3 x4 x5 h => n_Lw_law_1542 e hk h28 x0 x1 x2 x3 x4 x5 h), ⟨rfl, rfl, rfl, zap6_e (fun x0 x1 x2 x3 x4 x5 h => n_Lw_law_1634 e hk h28 x0 x1 x2 x3 x4 x5 h), ⟨rfl, rfl, rfl, zap6_e (fun x0 x1 x2 x3 x4 x5 h => n_Lw_law_1714 e hk h28 x0 x1 x2 x3 x4 x5 h), ⟨rfl, rfl, rfl, zap6_e (fun x0 x1 x2 x3 x4 x5 h => n_Lw_law_1782 e hk h28 x0 x1 x2 x3 x4 x5 h), ⟨rfl, rfl, rfl, zap6_e (fun x0 x1 x2 x3 x4 x5 h => n_Lw_law_1838 e hk h28 x0 x1 x2 x3 x4 x5 h), ⟨rfl, rfl, rfl, zap6_e (fun x0 x1 x2 x3 x4 x5 h => n_Lw_law_1894 e hk h28 x0 x1 x2 x3 x4 x5 h), ⟨rfl, rfl, rfl, zap6_e (fun x0 x1 x2 x3 x4 x5 h => n_Lw_law_1969 e hk h28 x0 x1 x2 x3 x4 x5 h), ⟨rfl, rfl, rfl, zap6_e (fun x0 x1 x2 x3 x4 x5 h => n_Lw_law_2025 e hk h28 x0 x1 x2 x3 x4 x5 h), ⟨rfl, rfl, rfl, zap6_e (fun x0 x1 x2 x3 x4 x5 h => n_Lw_law_2145 e hk h28 x0 x1 x2 x3 x4 x5 h), ⟨rfl, rfl, rfl, zap6_e (fun x0 x1 x2 x3 x4 x5 h => n_Lw_law_2159 e hk h28 x0 x1 x2 x3 x4 x5 h), ⟨rfl, rfl, rfl, zap6_e (fun x0 x1 x2 x3 x4 x5 h => n_Lw_law_2172 e hk h28 x0 x1 x2 x3 x4 x5 h), ⟨rfl, rfl, rfl, zap6_e (fun x0 x1 x2 x3 x4 x5 h => n_Lw_law_2185 e hk h28 x0 x1 x2 x3 x4 x5 h), ⟨rfl, rfl, rfl, zap6_e (fun x0 x1 x2 x3 x4 x5 h => n_Lw_law_2198 e hk h28 x0 x1 x2 x3 x4 x5 h), ⟨rfl, rfl, rfl, zap6_e (fun x0 x1 x2 x3 x4 x5 h => n_Lw_law_2211 e hk h28 x0 x1 x2 x3 x4 x5 h), ⟨rfl, rfl, rfl, zap6_e (fun x0 x1 x2 x3 x4 x5 h => n_Lw_law_2277 e hk h28 x0 x1 x2 x3 x4 x5 h), ⟨rfl, rfl, rfl, zap6_e (fun x0 x1 x2 x3 x4 x5 h => n_Lw_law_2342 e hk h28 x0 x1 x2 x3 x4 x5 h), ⟨rfl, rfl, rfl, zap6_e (fun x0 x1 x2 x3 x4 x5 h => n_Lw_law_2355 e hk h28 x0 x1 x2 x3 x4 x5 h), trivial⟩⟩⟩⟩⟩⟩⟩⟩⟩⟩⟩⟩⟩⟩⟩⟩⟩⟩⟩⟩⟩⟩⟩⟩⟩⟩⟩⟩⟩⟩⟩⟩⟩⟩⟩⟩⟩⟩
theorem n_Lw_law_28 {ρ : Type} (e : zRes → Option ρ) {krA : Int → zH → Option ρ} {krZ : Int → zH → Option zRes} (hk : ∀ v h, (krZ v h).bind e = krA v h) (a0 a1 a2 a3 a4 a5 : Int) (h : zH) : (Lw_law_28 krZ a0 a1 a2 a3 a4 a5 h).bind e = Lw_law_28 krA a0 a1 a2 a3 a4 a5 h := zit6_e (fun rA rZ hh a0 a1 a2 a3 a4 a5 h => n_Lw_law_28b e hk hh a0 a1 a2 a3 a4 a5 h) zN a0 a1 a2 a3 a4 a5 h
set_option maxRecDepth 100000 in
set_option maxHeartbeats 0 in
theorem n_Lw_law {ρ : Type} (e : zRes → Option ρ) {krA : Int → zH → Option ρ} {krZ : Int → zH → Option zRes} (hk : ∀ v h, (krZ v h).bind e = krA v h) (a0 : Int) (h : zH) : (Lw_law a0 h krZ).bind e = Lw_law a0 h krA := by
  refine Eq.trans (congrArg (fun z => Option.bind z e) (qe_Lw_law krZ a0 h)) (Eq.trans ?_ (Eq.symm (qe_Lw_law krA a0 h)))
  generalize (400 : Nat) = f9
  refine zseg_e e (zcal_e _ _ ?_) (zorc_e _ _ ?_) hk (fun _ _ => rfl) f9 _ _ _ _
  · exact ⟨rfl, rfl, zca1_e (fun x0 h k t => n_X_init e (fun _ _ => rfl) x0 h), ⟨rfl, rfl, zca1_e (fun x0 h k t => n_M_init e (fun _ _ => rfl) x0 h), trivial⟩⟩
  · exact ⟨rfl, rfl, rfl, zap6_e (fun x0 x1 x2 x3 x4 x5 h => n_Lw_law_28 e hk x0 x1 x2 x3 x4 x5 h), trivial⟩
