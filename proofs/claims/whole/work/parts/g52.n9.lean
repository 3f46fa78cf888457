set_option maxRecDepth 100000 in
set_option maxHeartbeats 0 in
theorem n_M_comeOne_51 {ρ : Type} (e : zRes → Option ρ) {krA : Int → zH → Option ρ} {krZ : Int → zH → Option zRes} (hk : ∀ v h, (krZ v h).bind e = krA v h) {r17A : Int → Int → zH → Option ρ} {r17Z : Int → Int → zH → Option zRes} (h17 : ∀ (x0 x1 : Int) (h : zH), (r17Z x0 x1 h).bind e = r17A x0 x1 h) (a1 a2 : Int) (h : zH) : (M_comeOne_51 krZ r17Z a1 a2 h).bind e = M_comeOne_51 krA r17A a1 a2 h := by
  refine Eq.trans (congrArg (fun z => Option.bind z e) (qe_M_comeOne_51 krZ r17Z a1 a2 h)) (Eq.trans ?_ (Eq.symm (qe_M_comeOne_51 krA r17A a1 a2 h)))
  generalize (400 : Nat) = f9
  refine zseg_e e (zcal_e _ _ ?_) (zorc_e _ _ ?_) hk (fun _ _ => rfl) f9 _ _ _ _
  · exact trivial
  · exact ⟨rfl, rfl, rfl, zap2_e h17, trivial⟩
set_option maxRecDepth 100000 in
set_option maxHeartbeats 0 in
theorem n_M_comeOne_93 {ρ : Type} (e : zRes → Option ρ) {krA : Int → zH → Option ρ} {krZ : Int → zH → Option zRes} (hk : ∀ v h, (krZ v h).bind e = krA v h) {r59A : Int → Int → zH → Option ρ} {r59Z : Int → Int → zH → Option zRes} (h59 : ∀ (x0 x1 : Int) (h : zH), (r59Z x0 x1 h).bind e = r59A x0 x1 h) (a1 a2 : Int) (h : zH) : (M_comeOne_93 krZ r59Z a1 a2 h).bind e = M_comeOne_93 krA r59A a1 a2 h := by
  refine Eq.trans (congrArg (fun z => Option.bind z e) (qe_M_comeOne_93 krZ r59Z a1 a2 h)) (Eq.trans ?_ (Eq.symm (qe_M_comeOne_93 krA r59A a1 a2 h)))
  generalize (400 : Nat) = f9
  refine zseg_e e (zcal_e _ _ ?_) (zorc_e _ _ ?_) hk (fun _ _ => rfl) f9 _ _ _ _
  · exact trivial
  · exact ⟨rfl, rfl, rfl, zap2_e h59, trivial⟩
set_option maxRecDepth 100000 in
set_option maxHeartbeats 0 in
theorem n_M_comeOne_167 {ρ : Type} (e : zRes → Option ρ) {krA : Int → zH → Option ρ} {krZ : Int → zH → Option zRes} (hk : ∀ v h, (krZ v h).bind e = krA v h) {r101A : Int → Int → zH → Option ρ} {r101Z : Int → Int → zH → Option zRes} (h101 : ∀ (x0 x1 : Int) (h : zH), (r101Z x0 x1 h).bind e = r101A x0 x1 h) (a1 a2 : Int) (h : zH) : (M_comeOne_167 krZ r101Z a1 a2 h).bind e = M_comeOne_167 krA r101A a1 a2 h := by
  refine Eq.trans (congrArg (fun z => Option.bind z e) (qe_M_comeOne_167 krZ r101Z a1 a2 h)) (Eq.trans ?_ (Eq.symm (qe_M_comeOne_167 krA r101A a1 a2 h)))
  generalize (400 : Nat) = f9
  refine zseg_e e (zcal_e _ _ ?_) (zorc_e _ _ ?_) hk (fun _ _ => rfl) f9 _ _ _ _
  · exact trivial
  · exact ⟨rfl, rfl, rfl, zap2_e h101, trivial⟩
set_option maxRecDepth 100000 in
set_option maxHeartbeats 0 in
theorem n_M_comeOne_109b {ρ : Type} (e : zRes → Option ρ) {krA : Int → zH → Option ρ} {krZ : Int → zH → Option zRes} (hk : ∀ v h, (krZ v h).bind e = krA v h) {r101A : Int → Int → zH → Option ρ} {r101Z : Int → Int → zH → Option zRes} (h101 : ∀ (x0 x1 : Int) (h : zH), (r101Z x0 x1 h).bind e = r101A x0 x1 h) {r109A : Int → Int → zH → Option ρ} {r109Z : Int → Int → zH → Option zRes} (h109 : ∀ (x0 x1 : Int) (h : zH), (r109Z x0 x1 h).bind e = r109A x0 x1 h) (a1 a2 : Int) (h : zH) : (M_comeOne_109b krZ r101Z r109Z a1 a2 h).bind e = M_comeOne_109b krA r101A r109A a1 a2 h := by
  refine Eq.trans (congrArg (fun z => Option.bind z e) (qe_M_comeOne_109b krZ r101Z r109Z a1 a2 h)) (Eq.trans ?_ (Eq.symm (qe_M_comeOne_109b krA r101A r109A a1 a2 h)))
  generalize (400 : Nat) = f9
  refine zseg_e e (zcal_e _ _ ?_) (zorc_e _ _ ?_) hk (fun _ _ => rfl) f9 _ _ _ _
  · exact ⟨rfl, rfl, zca1_e (fun x0 h k t => n_M_unitFor e (fun _ _ => rfl) x0 h), ⟨rfl, rfl, zca2_e (fun x0 x1 h k t => n_M_give e (fun _ _ => rfl) x0 x1 h), trivial⟩⟩
  · exact ⟨rfl, rfl, rfl, zap2_e h109, ⟨rfl, rfl, rfl, zap2_e (fun x0 x1 h => n_M_comeOne_167 e hk h101 x0 x1 h), trivial⟩⟩
theorem n_M_comeOne_109 {ρ : Type} (e : zRes → Option ρ) {krA : Int → zH → Option ρ} {krZ : Int → zH → Option zRes} (hk : ∀ v h, (krZ v h).bind e = krA v h) {r101A : Int → Int → zH → Option ρ} {r101Z : Int → Int → zH → Option zRes} (h101 : ∀ (x0 x1 : Int) (h : zH), (r101Z x0 x1 h).bind e = r101A x0 x1 h) (a1 a2 : Int) (h : zH) : (M_comeOne_109 krZ r101Z a1 a2 h).bind e = M_comeOne_109 krA r101A a1 a2 h := zit2_e (fun rA rZ hh a1 a2 h => n_M_comeOne_109b e hk h101 hh a1 a2 h) zN a1 a2 h
set_option maxRecDepth 100000 in
set_option maxHeartbeats 0 in
theorem n_M_comeOne_205 {ρ : Type} (e : zRes → Option ρ) {krA : Int → zH → Option ρ} {krZ : Int → zH → Option zRes} (hk : ∀ v h, (krZ v h).bind e = krA v h) {r179A : Int → Int → zH → Option ρ} {r179Z : Int → Int → zH → Option zRes} (h179 : ∀ (x0 x1 : Int) (h : zH), (r179Z x0 x1 h).bind e = r179A x0 x1 h) (a1 a2 : Int) (h : zH) : (M_comeOne_205 krZ r179Z a1 a2 h).bind e = M_comeOne_205 krA r179A a1 a2 h := by
  refine Eq.trans (congrArg (fun z => Option.bind z e) (qe_M_comeOne_205 krZ r179Z a1 a2 h)) (Eq.trans ?_ (Eq.symm (qe_M_comeOne_205 krA r179A a1 a2 h)))
  generalize (400 : Nat) = f9
  refine zseg_e e (zcal_e _ _ ?_) (zorc_e _ _ ?_) hk (fun _ _ => rfl) f9 _ _ _ _
  · exact trivial
  · exact ⟨rfl, rfl, rfl, zap2_e h179, trivial⟩
set_option maxRecDepth 100000 in
set_option maxHeartbeats 0 in
theorem n_M_comeOne_262 {ρ : Type} (e : zRes → Option ρ) {krA : Int → zH → Option ρ} {krZ : Int → zH → Option zRes} (hk : ∀ v h, (krZ v h).bind e = krA v h) {r213A : Int → Int → zH → Option ρ} {r213Z : Int → Int → zH → Option zRes} (h213 : ∀ (x0 x1 : Int) (h : zH), (r213Z x0 x1 h).bind e = r213A x0 x1 h) {r230A : Int → Int → Int → zH → Option ρ} {r230Z : Int → Int → Int → zH → Option zRes} (h230 : ∀ (x0 x1 x2 : Int) (h : zH), (r230Z x0 x1 x2 h).bind e = r230A x0 x1 x2 h) (a1 a2 a3 : Int) (h : zH) : (M_comeOne_262 krZ r213Z r230Z a1 a2 a3 h).bind e = M_comeOne_262 krA r213A r230A a1 a2 a3 h := by
  refine Eq.trans (congrArg (fun z => Option.bind z e) (qe_M_comeOne_262 krZ r213Z r230Z a1 a2 a3 h)) (Eq.trans ?_ (Eq.symm (qe_M_comeOne_262 krA r213A r230A a1 a2 a3 h)))
  generalize (400 : Nat) = f9
  refine zseg_e e (zcal_e _ _ ?_) (zorc_e _ _ ?_) hk (fun _ _ => rfl) f9 _ _ _ _
  · exact trivial
  · exact ⟨rfl, rfl, rfl, zap3_e h230, trivial⟩
set_option maxRecDepth 100000 in
set_option maxHeartbeats 0 in
theorem n_M_comeOne_230b {ρ : Type} (e : zRes → Option ρ) {krA : Int → zH → Option ρ} {krZ : Int → zH → Option zRes} (hk : ∀ v h, (krZ v h).bind e = krA v h) {r213A : Int → Int → zH → Option ρ} {r213Z : Int → Int → zH → Option zRes} (h213 : ∀ (x0 x1 : Int) (h : zH), (r213Z x0 x1 h).bind e = r213A x0 x1 h) {r230A : Int → Int → Int → zH → Option ρ} {r230Z : Int → Int → Int → zH → Option zRes} (h230 : ∀ (x0 x1 x2 : Int) (h : zH), (r230Z x0 x1 x2 h).bind e = r230A x0 x1 x2 h) (a1 a2 a3 : Int) (h : zH) : (M_comeOne_230b krZ r213Z r230Z a1 a2 a3 h).bind e = M_comeOne_230b krA r213A r230A a1 a2 a3 h := by
  refine Eq.trans (congrArg (fun z => Option.bind z e) (qe_M_comeOne_230b krZ r213Z r230Z a1 a2 a3 h)) (Eq.trans ?_ (Eq.symm (qe_M_comeOne_230b krA r213A r230A a1 a2 a3 h)))
  generalize (400 : Nat) = f9
  refine zseg_e e (zcal_e _ _ ?_) (zorc_e _ _ ?_) hk (fun _ _ => rfl) f9 _ _ _ _
  · exact ⟨rfl, rfl, zca1_e (fun x0 h k t => n_M_writeFirst e (fun _ _ => rfl) x0 h), trivial⟩
  · exact ⟨rfl, rfl, rfl, zap2_e h213, ⟨rfl, rfl, rfl, zap3_e (fun x0 x1 x2 h => n_M_comeOne_262 e hk h213 h230 x0 x1 x2 h), trivial⟩⟩
theorem n_M_comeOne_230 {ρ : Type} (e : zRes → Option ρ) {krA : Int → zH → Option ρ} {krZ : Int → zH → Option zRes} (hk : ∀ v h, (krZ v h).bind e = krA v h) {r213A : Int → Int → zH → Option ρ} {r213Z : Int → Int → zH → Option zRes} (h213 : ∀ (x0 x1 : Int) (h : zH), (r213Z x0 x1 h).bind e = r213A x0 x1 h) (a1 a2 a3 : Int) (h : zH) : (M_comeOne_230 krZ r213Z a1 a2 a3 h).bind e = M_comeOne_230 krA r213A a1 a2 a3 h := zit3_e (fun rA rZ hh a1 a2 a3 h => n_M_comeOne_230b e hk h213 hh a1 a2 a3 h) zN a1 a2 a3 h
set_option maxRecDepth 100000 in
set_option maxHeartbeats 0 in
theorem n_M_comeOne_274 {ρ : Type} (e : zRes → Option ρ) {krA : Int → zH → Option ρ} {krZ : Int → zH → Option zRes} (hk : ∀ v h, (krZ v h).bind e = krA v h) (a1 : Int) (h : zH) : (M_comeOne_274 krZ a1 h).bind e = M_comeOne_274 krA a1 h := by
  refine Eq.trans (congrArg (fun z => Option.bind z e) (qe_M_comeOne_274 krZ a1 h)) (Eq.trans ?_ (Eq.symm (qe_M_comeOne_274 krA a1 h)))
  generalize (400 : Nat) = f9
  refine zseg_e e (zcal_e _ _ ?_) (zorc_e _ _ ?_) hk (fun _ _ => rfl) f9 _ _ _ _
  · exact trivial
  · exact trivial
set_option maxRecDepth 100000 in
set_option maxHeartbeats 0 in
theorem n_M_comeOne_213b {ρ : Type} (e : zRes → Option ρ) {krA : Int → zH → Option ρ} {krZ : Int → zH → Option zRes} (hk : ∀ v h, (krZ v h).bind e = krA v h) {r213A : Int → Int → zH → Option ρ} {r213Z : Int → Int → zH → Option zRes} (h213 : ∀ (x0 x1 : Int) (h : zH), (r213Z x0 x1 h).bind e = r213A x0 x1 h) (a1 a2 : Int) (h : zH) : (M_comeOne_213b krZ r213Z a1 a2 h).bind e = M_comeOne_213b krA r213A a1 a2 h := by
  refine Eq.trans (congrArg (fun z => Option.bind z e) (qe_M_comeOne_213b krZ r213Z a1 a2 h)) (Eq.trans ?_ (Eq.symm (qe_M_comeOne_213b krA r213A a1 a2 h)))
  generalize (400 : Nat) = f9
  refine zseg_e e (zcal_e _ _ ?_) (zorc_e _ _ ?_) hk (fun _ _ => rfl) f9 _ _ _ _
  · exact trivial
  · exact ⟨rfl, rfl, rfl, zap3_e (fun x0 x1 x2 h => n_M_comeOne_230 e hk h213 x0 x1 x2 h), ⟨rfl, rfl, rfl, zap1_e (fun x0 h => n_M_comeOne_274 e hk x0 h), trivial⟩⟩
theorem n_M_comeOne_213 {ρ : Type} (e : zRes → Option ρ) {krA : Int → zH → Option ρ} {krZ : Int → zH → Option zRes} (hk : ∀ v h, (krZ v h).bind e = krA v h) (a1 a2 : Int) (h : zH) : (M_comeOne_213 krZ a1 a2 h).bind e = M_comeOne_213 krA a1 a2 h := zit2_e (fun rA rZ hh a1 a2 h => n_M_comeOne_213b e hk hh a1 a2 h) zN a1 a2 h
set_option maxRecDepth 100000 in
set_option maxHeartbeats 0 in
theorem n_M_comeOne_179b {ρ : Type} (e : zRes → Option ρ) {krA : Int → zH → Option ρ} {krZ : Int → zH → Option zRes} (hk : ∀ v h, (krZ v h).bind e = krA v h) {r179A : Int → Int → zH → Option ρ} {r179Z : Int → Int → zH → Option zRes} (h179 : ∀ (x0 x1 : Int) (h : zH), (r179Z x0 x1 h).bind e = r179A x0 x1 h) (a1 a2 : Int) (h : zH) : (M_comeOne_179b krZ r179Z a1 a2 h).bind e = M_comeOne_179b krA r179A a1 a2 h := by
  refine Eq.trans (congrArg (fun z => Option.bind z e) (qe_M_comeOne_179b krZ r179Z a1 a2 h)) (Eq.trans ?_ (Eq.symm (qe_M_comeOne_179b krA r179A a1 a2 h)))
  generalize (400 : Nat) = f9
  refine zseg_e e (zcal_e _ _ ?_) (zorc_e _ _ ?_) hk (fun _ _ => rfl) f9 _ _ _ _
  · exact ⟨rfl, rfl, zca0_e (fun  h k t => n_M_finish e (fun _ _ => rfl)  h), ⟨rfl, rfl, zca2_e (fun x0 x1 h k t => n_M_carryOut e (fun _ _ => rfl) x0 x1 h), ⟨rfl, rfl, zca1_e (fun x0 h k t => n_M_choose e (fun _ _ => rfl) x0 h), trivial⟩⟩⟩
  · exact ⟨rfl, rfl, rfl, zap2_e (fun x0 x1 h => n_M_comeOne_205 e hk h179 x0 x1 h), ⟨rfl, rfl, rfl, zap2_e (fun x0 x1 h => n_M_comeOne_213 e hk x0 x1 h), trivial⟩⟩
theorem n_M_comeOne_179 {ρ : Type} (e : zRes → Option ρ) {krA : Int → zH → Option ρ} {krZ : Int → zH → Option zRes} (hk : ∀ v h, (krZ v h).bind e = krA v h) (a1 a2 : Int) (h : zH) : (M_comeOne_179 krZ a1 a2 h).bind e = M_comeOne_179 krA a1 a2 h := zit2_e (fun rA rZ hh a1 a2 h => n_M_comeOne_179b e hk hh a1 a2 h) zN a1 a2 h
set_option maxRecDepth 100000 in
set_option maxHeartbeats 0 in
theorem n_M_comeOne_101b {ρ : Type} (e : zRes → Option ρ) {krA : Int → zH → Option ρ} {krZ : Int → zH → Option zRes} (hk : ∀ v h, (krZ v h).bind e = krA v h) {r101A : Int → Int → zH → Option ρ} {r101Z : Int → Int → zH → Option zRes} (h101 : ∀ (x0 x1 : Int) (h : zH), (r101Z x0 x1 h).bind e = r101A x0 x1 h) (a1 a2 : Int) (h : zH) : (M_comeOne_101b krZ r101Z a1 a2 h).bind e = M_comeOne_101b krA r101A a1 a2 h := by
  refine Eq.trans (congrArg (fun z => Option.bind z e) (qe_M_comeOne_101b krZ r101Z a1 a2 h)) (Eq.trans ?_ (Eq.symm (qe_M_comeOne_101b krA r101A a1 a2 h)))
  generalize (400 : Nat) = f9
  refine zseg_e e (zcal_e _ _ ?_) (zorc_e _ _ ?_) hk (fun _ _ => rfl) f9 _ _ _ _
  · exact ⟨rfl, rfl, zca0_e (fun  h k t => n_M_finish e (fun _ _ => rfl)  h), trivial⟩
  · exact ⟨rfl, rfl, rfl, zap2_e (fun x0 x1 h => n_M_comeOne_109 e hk h101 x0 x1 h), ⟨rfl, rfl, rfl, zap2_e (fun x0 x1 h => n_M_comeOne_179 e hk x0 x1 h), trivial⟩⟩
theorem n_M_comeOne_101 {ρ : Type} (e : zRes → Option ρ) {krA : Int → zH → Option ρ} {krZ : Int → zH → Option zRes} (hk : ∀ v h, (krZ v h).bind e = krA v h) (a1 a2 : Int) (h : zH) : (M_comeOne_101 krZ a1 a2 h).bind e = M_comeOne_101 krA a1 a2 h := zit2_e (fun rA rZ hh a1 a2 h => n_M_comeOne_101b e hk hh a1 a2 h) zN a1 a2 h
set_option maxRecDepth 100000 in
set_option maxHeartbeats 0 in
theorem n_M_comeOne_59b {ρ : Type} (e : zRes → Option ρ) {krA : Int → zH → Option ρ} {krZ : Int → zH → Option zRes} (hk : ∀ v h, (krZ v h).bind e = krA v h) {r59A : Int → Int → zH → Option ρ} {r59Z : Int → Int → zH → Option zRes} (h59 : ∀ (x0 x1 : Int) (h : zH), (r59Z x0 x1 h).bind e = r59A x0 x1 h) (a1 a2 : Int) (h : zH) : (M_comeOne_59b krZ r59Z a1 a2 h).bind e = M_comeOne_59b krA r59A a1 a2 h := by
  refine Eq.trans (congrArg (fun z => Option.bind z e) (qe_M_comeOne_59b krZ r59Z a1 a2 h)) (Eq.trans ?_ (Eq.symm (qe_M_comeOne_59b krA r59A a1 a2 h)))
  generalize (400 : Nat) = f9
  refine zseg_e e (zcal_e _ _ ?_) (zorc_e _ _ ?_) hk (fun _ _ => rfl) f9 _ _ _ _
  · exact ⟨rfl, rfl, zca1_e (fun x0 h k t => n_M_copyOne e (fun _ _ => rfl) x0 h), trivial⟩
  · exact ⟨rfl, rfl, rfl, zap2_e (fun x0 x1 h => n_M_comeOne_93 e hk h59 x0 x1 h), ⟨rfl, rfl, rfl, zap2_e (fun x0 x1 h => n_M_comeOne_101 e hk x0 x1 h), trivial⟩⟩
theorem n_M_comeOne_59 {ρ : Type} (e : zRes → Option ρ) {krA : Int → zH → Option ρ} {krZ : Int → zH → Option zRes} (hk : ∀ v h, (krZ v h).bind e = krA v h) (a1 a2 : Int) (h : zH) : (M_comeOne_59 krZ a1 a2 h).bind e = M_comeOne_59 krA a1 a2 h := zit2_e (fun rA rZ hh a1 a2 h => n_M_comeOne_59b e hk hh a1 a2 h) zN a1 a2 h
set_option maxRecDepth 100000 in
set_option maxHeartbeats 0 in
theorem n_M_comeOne_17b {ρ : Type} (e : zRes → Option ρ) {krA : Int → zH → Option ρ} {krZ : Int → zH → Option zRes} (hk : ∀ v h, (krZ v h).bind e = krA v h) {r17A : Int → Int → zH → Option ρ} {r17Z : Int → Int → zH → Option zRes} (h17 : ∀ (x0 x1 : Int) (h : zH), (r17Z x0 x1 h).bind e = r17A x0 x1 h) (a1 a2 : Int) (h : zH) : (M_comeOne_17b krZ r17Z a1 a2 h).bind e = M_comeOne_17b krA r17A a1 a2 h := by
  refine Eq.trans (congrArg (fun z => Option.bind z e) (qe_M_comeOne_17b krZ r17Z a1 a2 h)) (Eq.trans ?_ (Eq.symm (qe_M_comeOne_17b krA r17A a1 a2 h)))
  generalize (400 : Nat) = f9
  refine zseg_e e (zcal_e _ _ ?_) (zorc_e _ _ ?_) hk (fun _ _ => rfl) f9 _ _ _ _
  · exact ⟨rfl, rfl, zca1_e (fun x0 h k t => n_M_beginLaunch e (fun _ _ => rfl) x0 h), trivial⟩
  · exact ⟨rfl, rfl, rfl, zap2_e (fun x0 x1 h => n_M_comeOne_51 e hk h17 x0 x1 h), ⟨rfl, rfl, rfl, zap2_e (fun x0 x1 h => n_M_comeOne_59 e hk x0 x1 h), trivial⟩⟩
theorem n_M_comeOne_17 {ρ : Type} (e : zRes → Option ρ) {krA : Int → zH → Option ρ} {krZ : Int → zH → Option zRes} (hk : ∀ v h, (krZ v h).bind e = krA v h) (a1 a2 : Int) (h : zH) : (M_comeOne_17 krZ a1 a2 h).bind e = M_comeOne_17 krA a1 a2 h := zit2_e (fun rA rZ hh a1 a2 h => n_M_comeOne_17b e hk hh a1 a2 h) zN a1 a2 h
set_option maxRecDepth 100000 in
set_option maxHeartbeats 0 in
theorem n_M_comeOne {ρ : Type} (e : zRes → Option ρ) {krA : Int → zH → Option ρ} {krZ : Int → zH → Option zRes} (hk : ∀ v h, (krZ v h).bind e = krA v h) (h : zH) : (M_comeOne h krZ).bind e = M_comeOne h krA := by
  refine Eq.trans (congrArg (fun z => Option.bind z e) (qe_M_comeOne krZ h)) (Eq.trans ?_ (Eq.symm (qe_M_comeOne krA h)))
  generalize (400 : Nat) = f9
  refine zseg_e e (zcal_e _ _ ?_) (zorc_e _ _ ?_) hk (fun _ _ => rfl) f9 _ _ _ _
  · exact ⟨rfl, rfl, zca1_e (fun x0 h k t => n_M_goThrough e (fun _ _ => rfl) x0 h), trivial⟩
  · exact ⟨rfl, rfl, rfl, zap2_e (fun x0 x1 h => n_M_comeOne_17 e hk x0 x1 h), trivial⟩
set_option maxRecDepth 100000 in
set_option maxHeartbeats 0 in
theorem n_M_step_34b {ρ : Type} (e : zRes → Option ρ) {krA : Int → zH → Option ρ} {krZ : Int → zH → Option zRes} (hk : ∀ v h, (krZ v h).bind e = krA v h) {r34A : Int → Int → Int → zH → Option ρ} {r34Z : Int → Int → Int → zH → Option zRes} (h34 : ∀ (x0 x1 x2 : Int) (h : zH), (r34Z x0 x1 x2 h).bind e = r34A x0 x1 x2 h) (a1 a2 a3 : Int) (h : zH) : (M_step_34b krZ r34Z a1 a2 a3 h).bind e = M_step_34b krA r34A a1 a2 a3 h := by
  refine Eq.trans (congrArg (fun z => Option.bind z e) (qe_M_step_34b krZ r34Z a1 a2 a3 h)) (Eq.trans ?_ (Eq.symm (qe_M_step_34b krA r34A a1 a2 a3 h)))
  generalize (400 : Nat) = f9
  refine zseg_e e (zcal_e _ _ ?_) (zorc_e _ _ ?_) hk (fun _ _ => rfl) f9 _ _ _ _
  · exact ⟨rfl, rfl, zca0_e (fun  h k t => n_M_comeOne e (fun _ _ => rfl)  h), trivial⟩
  · exact ⟨rfl, rfl, rfl, zap3_e h34, trivial⟩
theorem n_M_step_34 {ρ : Type} (e : zRes → Option ρ) {krA : Int → zH → Option ρ} {krZ : Int → zH → Option zRes} (hk : ∀ v h, (krZ v h).bind e = krA v h) (a1 a2 a3 : Int) (h : zH) : (M_step_34 krZ a1 a2 a3 h).bind e = M_step_34 krA a1 a2 a3 h := zit3_e (fun rA rZ hh a1 a2 a3 h => n_M_step_34b e hk hh a1 a2 a3 h) zN a1 a2 a3 h
set_option maxRecDepth 100000 in
set_option maxHeartbeats 0 in
theorem n_M_step_21 {ρ : Type} (e : zRes → Option ρ) {krA : Int → zH → Option ρ} {krZ : Int → zH → Option zRes} (hk : ∀ v h, (krZ v h).bind e = krA v h) (a1 t0 : Int) (h : zH) : (M_step_21 krZ a1 t0 h).bind e = M_step_21 krA a1 t0 h := by
  refine Eq.trans (congrArg (fun z => Option.bind z e) (qe_M_step_21 krZ a1 t0 h)) (Eq.trans ?_ (Eq.symm (qe_M_step_21 krA a1 t0 h)))
  generalize (400 : Nat) = f9
  refine zseg_e e (zcal_e _ _ ?_) (zorc_e _ _ ?_) hk (fun _ _ => rfl) f9 _ _ _ _
  · exact ⟨rfl, rfl, zca2_e (fun x0 x1 h k t => n_M_fails e (fun _ _ => rfl) x0 x1 h), trivial⟩
  · exact ⟨rfl, rfl, rfl, zap3_e (fun x0 x1 x2 h => n_M_step_34 e hk x0 x1 x2 h), trivial⟩
set_option maxRecDepth 100000 in
set_option maxHeartbeats 0 in
theorem n_M_step {ρ : Type} (e : zRes → Option ρ) {krA : Int → zH → Option ρ} {krZ : Int → zH → Option zRes} (hk : ∀ v h, (krZ v h).bind e = krA v h) (a1 : Int) (h : zH) : (M_step a1 h krZ).bind e = M_step a1 h krA := by
  refine Eq.trans (congrArg (fun z => Option.bind z e) (qe_M_step krZ a1 h)) (Eq.trans ?_ (Eq.symm (qe_M_step krA a1 h)))
  generalize (400 : Nat) = f9
  refine zseg_e e (zcal_e _ _ ?_) (zorc_e _ _ ?_) hk (fun _ _ => rfl) f9 _ _ _ _
  · exact ⟨rfl, rfl, zca3_e (fun x0 x1 x2 h k t => n_M_in e (fun _ _ => rfl) x0 x1 x2 h), trivial⟩
  · exact ⟨rfl, rfl, rfl, zap2_e (fun x0 x1 h => n_M_step_21 e hk x0 x1 h), trivial⟩
set_option maxRecDepth 100000 in
set_option maxHeartbeats 0 in
theorem n_M_areOver_29 {ρ : Type} (e : zRes → Option ρ) {krA : Int → zH → Option ρ} {krZ : Int → zH → Option zRes} (hk : ∀ v h, (krZ v h).bind e = krA v h) {r4A : Int → Int → zH → Option ρ} {r4Z : Int → Int → zH → Option zRes} (h4 : ∀ (x0 x1 : Int) (h : zH), (r4Z x0 x1 h).bind e = r4A x0 x1 h) (a2 t0 : Int) (h : zH) : (M_areOver_29 krZ r4Z a2 t0 h).bind e = M_areOver_29 krA r4A a2 t0 h := by
  refine Eq.trans (congrArg (fun z => Option.bind z e) (qe_M_areOver_29 krZ r4Z a2 t0 h)) (Eq.trans ?_ (Eq.symm (qe_M_areOver_29 krA r4A a2 t0 h)))
  generalize (400 : Nat) = f9
  refine zseg_e e (zcal_e _ _ ?_) (zorc_e _ _ ?_) hk (fun _ _ => rfl) f9 _ _ _ _
  · exact trivial
  · exact ⟨rfl, rfl, rfl, zap2_e h4, trivial⟩
set_option maxRecDepth 100000 in
set_option maxHeartbeats 0 in
theorem n_M_areOver_28 {ρ : Type} (e : zRes → Option ρ) {krA : Int → zH → Option ρ} {krZ : Int → zH → Option zRes} (hk : ∀ v h, (krZ v h).bind e = krA v h) {r4A : Int → Int → zH → Option ρ} {r4Z : Int → Int → zH → Option zRes} (h4 : ∀ (x0 x1 : Int) (h : zH), (r4Z x0 x1 h).bind e = r4A x0 x1 h) (a2 : Int) (h : zH) : (M_areOver_28 krZ r4Z a2 h).bind e = M_areOver_28 krA r4A a2 h := by
  refine Eq.trans (congrArg (fun z => Option.bind z e) (qe_M_areOver_28 krZ r4Z a2 h)) (Eq.trans ?_ (Eq.symm (qe_M_areOver_28 krA r4A a2 h)))
  generalize (400 : Nat) = f9
  refine zseg_e e (zcal_e _ _ ?_) (zorc_e _ _ ?_) hk (fun _ _ => rfl) f9 _ _ _ _
  · exact trivial
  · exact ⟨rfl, rfl, rfl, zap2_e (fun x0 x1 h => n_M_areOver_29 e hk h4 x0 x1 h), trivial⟩
set_option maxRecDepth 100000 in
set_option maxHeartbeats 0 in
theorem n_M_areOver_4b {ρ : Type} (e : zRes → Option ρ) {krA : Int → zH → Option ρ} {krZ : Int → zH → Option zRes} (hk : ∀ v h, (krZ v h).bind e = krA v h) {r4A : Int → Int → zH → Option ρ} {r4Z : Int → Int → zH → Option zRes} (h4 : ∀ (x0 x1 : Int) (h : zH), (r4Z x0 x1 h).bind e = r4A x0 x1 h) (a1 a2 : Int) (h : zH) : (M_areOver_4b krZ r4Z a1 a2 h).bind e = M_areOver_4b krA r4A a1 a2 h := by
  refine Eq.trans (congrArg (fun z => Option.bind z e) (qe_M_areOver_4b krZ r4Z a1 a2 h)) (Eq.trans ?_ (Eq.symm (qe_M_areOver_4b krA r4A a1 a2 h)))
  generalize (400 : Nat) = f9
  refine zseg_e e (zcal_e _ _ ?_) (zorc_e _ _ ?_) hk (fun _ _ => rfl) f9 _ _ _ _
  · exact ⟨rfl, rfl, zca1_e (fun x0 h k t => n_M_isOver e (fun _ _ => rfl) x0 h), trivial⟩
  · exact ⟨rfl, rfl, rfl, zap1_e (fun x0 h => n_M_areOver_28 e hk h4 x0 h), ⟨rfl, rfl, rfl, zap2_e (fun x0 x1 h => n_M_areOver_29 e hk h4 x0 x1 h), trivial⟩⟩
theorem n_M_areOver_4 {ρ : Type} (e : zRes → Option ρ) {krA : Int → zH → Option ρ} {krZ : Int → zH → Option zRes} (hk : ∀ v h, (krZ v h).bind e = krA v h) (a1 a2 : Int) (h : zH) : (M_areOver_4 krZ a1 a2 h).bind e = M_areOver_4 krA a1 a2 h := zit2_e (fun rA rZ hh a1 a2 h => n_M_areOver_4b e hk hh a1 a2 h) zN a1 a2 h
set_option maxRecDepth 100000 in
set_option maxHeartbeats 0 in
theorem n_M_areOver {ρ : Type} (e : zRes → Option ρ) {krA : Int → zH → Option ρ} {krZ : Int → zH → Option zRes} (hk : ∀ v h, (krZ v h).bind e = krA v h) (h : zH) : (M_areOver h krZ).bind e = M_areOver h krA := by
  refine Eq.trans (congrArg (fun z => Option.bind z e) (qe_M_areOver krZ h)) (Eq.trans ?_ (Eq.symm (qe_M_areOver krA h)))
  generalize (400 : Nat) = f9
  refine zseg_e e (zcal_e _ _ ?_) (zorc_e _ _ ?_) hk (fun _ _ => rfl) f9 _ _ _ _
  · exact trivial
  · exact ⟨rfl, rfl, rfl, zap2_e (fun x0 x1 h => n_M_areOver_4 e hk x0 x1 h), trivial⟩
set_option maxRecDepth 100000 in
set_option maxHeartbeats 0 in
theorem n_M_run_56 {ρ : Type} (e : zRes → Option ρ) {krA : Int → zH → Option ρ} {krZ : Int → zH → Option zRes} (hk : ∀ v h, (krZ v h).bind e = krA v h) (a2 : Int) (h : zH) : (M_run_56 krZ a2 h).bind e = M_run_56 krA a2 h := by
  refine Eq.trans (congrArg (fun z => Option.bind z e) (qe_M_run_56 krZ a2 h)) (Eq.trans ?_ (Eq.symm (qe_M_run_56 krA a2 h)))
  generalize (400 : Nat) = f9
  refine zseg_e e (zcal_e _ _ ?_) (zorc_e _ _ ?_) hk (fun _ _ => rfl) f9 _ _ _ _
  · exact trivial
  · exact trivial
set_option maxRecDepth 100000 in
set_option maxHeartbeats 0 in
theorem n_M_run_33b {ρ : Type} (e : zRes → Option ρ) {krA : Int → zH → Option ρ} {krZ : Int → zH → Option zRes} (hk : ∀ v h, (krZ v h).bind e = krA v h) {r33A : Int → Int → zH → Option ρ} {r33Z : Int → Int → zH → Option zRes} (h33 : ∀ (x0 x1 : Int) (h : zH), (r33Z x0 x1 h).bind e = r33A x0 x1 h) (a1 a2 : Int) (h : zH) : (M_run_33b krZ r33Z a1 a2 h).bind e = M_run_33b krA r33A a1 a2 h := by
  refine Eq.trans (congrArg (fun z => Option.bind z e) (qe_M_run_33b krZ r33Z a1 a2 h)) (Eq.trans ?_ (Eq.symm (qe_M_run_33b krA r33A a1 a2 h)))
  generalize (400 : Nat) = f9
  refine zseg_e e (zcal_e _ _ ?_) (zorc_e _ _ ?_) hk (fun _ _ => rfl) f9 _ _ _ _
  · exact ⟨rfl, rfl, zca0_e (fun  h k t => n_M_comeOne e (fun _ _ => rfl)  h), ⟨rfl, rfl, zca0_e (fun  h k t => n_M_areOver e (fun _ _ => rfl)  h), trivial⟩⟩
  · exact ⟨rfl, rfl, rfl, zap2_e h33, ⟨rfl, rfl, rfl, zap1_e (fun x0 h => n_M_run_56 e hk x0 h), trivial⟩⟩
theorem n_M_run_33 {ρ : Type} (e : zRes → Option ρ) {krA : Int → zH → Option ρ} {krZ : Int → zH → Option zRes} (hk : ∀ v h, (krZ v h).bind e = krA v h) (a1 a2 : Int) (h : zH) : (M_run_33 krZ a1 a2 h).bind e = M_run_33 krA a1 a2 h := zit2_e (fun rA rZ hh a1 a2 h => n_M_run_33b e hk hh a1 a2 h) zN a1 a2 h
set_option maxRecDepth 100000 in
set_option maxHeartbeats 0 in
theorem n_M_run_22 {ρ : Type} (e : zRes → Option ρ) {krA : Int → zH → Option ρ} {krZ : Int → zH → Option zRes} (hk : ∀ v h, (krZ v h).bind e = krA v h) (a1 t0 : Int) (h : zH) : (M_run_22 krZ a1 t0 h).bind e = M_run_22 krA a1 t0 h := by
  refine Eq.trans (congrArg (fun z => Option.bind z e) (qe_M_run_22 krZ a1 t0 h)) (Eq.trans ?_ (Eq.symm (qe_M_run_22 krA a1 t0 h)))
  generalize (400 : Nat) = f9
  refine zseg_e e (zcal_e _ _ ?_) (zorc_e _ _ ?_) hk (fun _ _ => rfl) f9 _ _ _ _
  · exact ⟨rfl, rfl, zca2_e (fun x0 x1 h k t => n_M_fails e (fun _ _ => rfl) x0 x1 h), trivial⟩
  · exact ⟨rfl, rfl, rfl, zap2_e (fun x0 x1 h => n_M_run_33 e hk x0 x1 h), trivial⟩
set_option maxRecDepth 100000 in
set_option maxHeartbeats 0 in
theorem n_M_run {ρ : Type} (e : zRes → Option ρ) {krA : Int → zH → Option ρ} {krZ : Int → zH → Option zRes} (hk : ∀ v h, (krZ v h).bind e = krA v h) (a1 : Int) (h : zH) : (M_run a1 h krZ).bind e = M_run a1 h krA := by
  refine Eq.trans (congrArg (fun z => Option.bind z e) (qe_M_run krZ a1 h)) (Eq.trans ?_ (Eq.symm (qe_M_run krA a1 h)))
  generalize (400 : Nat) = f9
  refine zseg_e e (zcal_e _ _ ?_) (zorc_e _ _ ?_) hk (fun _ _ => rfl) f9 _ _ _ _
  · exact ⟨rfl, rfl, zca3_e (fun x0 x1 x2 h k t => n_M_in e (fun _ _ => rfl) x0 x1 x2 h), trivial⟩
  · exact ⟨rfl, rfl, rfl, zap2_e (fun x0 x1 h => n_M_run_22 e hk x0 x1 h), trivial⟩
set_option maxRecDepth 100000 in
set_option maxHeartbeats 0 in
theorem n_M_setOrder_29 {ρ : Type} (e : zRes → Option ρ) {krA : Int → zH → Option ρ} {krZ : Int → zH → Option zRes} (hk : ∀ v h, (krZ v h).bind e = krA v h) (a1 t0 : Int) (h : zH) : (M_setOrder_29 krZ a1 t0 h).bind e = M_setOrder_29 krA a1 t0 h := by
  refine Eq.trans (congrArg (fun z => Option.bind z e) (qe_M_setOrder_29 krZ a1 t0 h)) (Eq.trans ?_ (Eq.symm (qe_M_setOrder_29 krA a1 t0 h)))
  generalize (400 : Nat) = f9
  refine zseg_e e (zcal_e _ _ ?_) (zorc_e _ _ ?_) hk (fun _ _ => rfl) f9 _ _ _ _
  · exact ⟨rfl, rfl, zca2_e (fun x0 x1 h k t => n_M_fails e (fun _ _ => rfl) x0 x1 h), trivial⟩
  · exact trivial
set_option maxRecDepth 100000 in
set_option maxHeartbeats 0 in
theorem n_M_setOrder_28 {ρ : Type} (e : zRes → Option ρ) {krA : Int → zH → Option ρ} {krZ : Int → zH → Option zRes} (hk : ∀ v h, (krZ v h).bind e = krA v h) (a1 : Int) (h : zH) : (M_setOrder_28 krZ a1 h).bind e = M_setOrder_28 krA a1 h := by
  refine Eq.trans (congrArg (fun z => Option.bind z e) (qe_M_setOrder_28 krZ a1 h)) (Eq.trans ?_ (Eq.symm (qe_M_setOrder_28 krA a1 h)))
  generalize (400 : Nat) = f9
  refine zseg_e e (zcal_e _ _ ?_) (zorc_e _ _ ?_) hk (fun _ _ => rfl) f9 _ _ _ _
  · exact trivial
  · exact ⟨rfl, rfl, rfl, zap2_e (fun x0 x1 h => n_M_setOrder_29 e hk x0 x1 h), trivial⟩
set_option maxRecDepth 100000 in
set_option maxHeartbeats 0 in
theorem n_M_setOrder {ρ : Type} (e : zRes → Option ρ) {krA : Int → zH → Option ρ} {krZ : Int → zH → Option zRes} (hk : ∀ v h, (krZ v h).bind e = krA v h) (a1 : Int) (h : zH) : (M_setOrder a1 h krZ).bind e = M_setOrder a1 h krA := by
  refine Eq.trans (congrArg (fun z => Option.bind z e) (qe_M_setOrder krZ a1 h)) (Eq.trans ?_ (Eq.symm (qe_M_setOrder krA a1 h)))
  generalize (400 : Nat) = f9
  refine zseg_e e (zcal_e _ _ ?_) (zorc_e _ _ ?_) hk (fun _ _ => rfl) f9 _ _ _ _
  · exact trivial
  · exact ⟨rfl, rfl, rfl, zap1_e (fun x0 h => n_M_setOrder_28 e hk x0 h), ⟨rfl, rfl, rfl, zap2_e (fun x0 x1 h => n_M_setOrder_29 e hk x0 x1 h), trivial⟩⟩
set_option maxRecDepth 100000 in
set_option maxHeartbeats 0 in
theorem n_M_cycle {ρ : Type} (e : zRes → Option ρ) {krA : Int → zH → Option ρ} {krZ : Int → zH → Option zRes} (hk : ∀ v h, (krZ v h).bind e = krA v h) (h : zH) : (M_cycle h krZ).bind e = M_cycle h krA := by
  refine Eq.trans (congrArg (fun z => Option.bind z e) (qe_M_cycle krZ h)) (Eq.trans ?_ (Eq.symm (qe_M_cycle krA h)))
  generalize (400 : Nat) = f9
  refine zseg_e e (zcal_e _ _ ?_) (zorc_e _ _ ?_) hk (fun _ _ => rfl) f9 _ _ _ _
  · exact trivial
  · exact trivial
set_option maxRecDepth 100000 in
set_option maxHeartbeats 0 in
theorem n_M_noUnit_14 {ρ : Type} (e : zRes → Option ρ) {krA : Int → zH → Option ρ} {krZ : Int → zH → Option zRes} (hk : ∀ v h, (krZ v h).bind e = krA v h) (t0 : Int) (h : zH) : (M_noUnit_14 krZ t0 h).bind e = M_noUnit_14 krA t0 h := by
  refine Eq.trans (congrArg (fun z => Option.bind z e) (qe_M_noUnit_14 krZ t0 h)) (Eq.trans ?_ (Eq.symm (qe_M_noUnit_14 krA t0 h)))
  generalize (400 : Nat) = f9
  refine zseg_e e (zcal_e _ _ ?_) (zorc_e _ _ ?_) hk (fun _ _ => rfl) f9 _ _ _ _
  · exact trivial
  · exact trivial
set_option maxRecDepth 100000 in
set_option maxHeartbeats 0 in
theorem n_M_noUnit {ρ : Type} (e : zRes → Option ρ) {krA : Int → zH → Option ρ} {krZ : Int → zH → Option zRes} (hk : ∀ v h, (krZ v h).bind e = krA v h) (a0 : Int) (h : zH) : (M_noUnit a0 h krZ).bind e = M_noUnit a0 h krA := by
  refine Eq.trans (congrArg (fun z => Option.bind z e) (qe_M_noUnit krZ a0 h)) (Eq.trans ?_ (Eq.symm (qe_M_noUnit krA a0 h)))
  generalize (400 : Nat) = f9
  refine zseg_e e (zcal_e _ _ ?_) (zorc_e _ _ ?_) hk (fun _ _ => rfl) f9 _ _ _ _
  · exact ⟨rfl, rfl, zca3_e (fun x0 x1 x2 h k t => n_M_in e (fun _ _ => rfl) x0 x1 x2 h), trivial⟩
  · exact ⟨rfl, rfl, rfl, zap1_e (fun x0 h => n_M_noUnit_14 e hk x0 h), trivial⟩
set_option maxRecDepth 100000 in
set_option maxHeartbeats 0 in
theorem n_M_noGroup_28 {ρ : Type} (e : zRes → Option ρ) {krA : Int → zH → Option ρ} {krZ : Int → zH → Option zRes} (hk : ∀ v h, (krZ v h).bind e = krA v h) (t0 : Int) (h : zH) : (M_noGroup_28 krZ t0 h).bind e = M_noGroup_28 krA t0 h := by
  refine Eq.trans (congrArg (fun z => Option.bind z e) (qe_M_noGroup_28 krZ t0 h)) (Eq.trans ?_ (Eq.symm (qe_M_noGroup_28 krA t0 h)))
  generalize (400 : Nat) = f9
  refine zseg_e e (zcal_e _ _ ?_) (zorc_e _ _ ?_) hk (fun _ _ => rfl) f9 _ _ _ _
  · exact trivial
  · exact trivial
set_option maxRecDepth 100000 in
set_option maxHeartbeats 0 in
theorem n_M_noGroup_23 {ρ : Type} (e : zRes → Option ρ) {krA : Int → zH → Option ρ} {krZ : Int → zH → Option zRes} (hk : ∀ v h, (krZ v h).bind e = krA v h) (h : zH) : (M_noGroup_23 krZ h).bind e = M_noGroup_23 krA h := by
  refine Eq.trans (congrArg (fun z => Option.bind z e) (qe_M_noGroup_23 krZ h)) (Eq.trans ?_ (Eq.symm (qe_M_noGroup_23 krA h)))
  generalize (400 : Nat) = f9
  refine zseg_e e (zcal_e _ _ ?_) (zorc_e _ _ ?_) hk (fun _ _ => rfl) f9 _ _ _ _
  · exact trivial
  · exact ⟨rfl, rfl, rfl, zap1_e (fun x0 h => n_M_noGroup_28 e hk x0 h), trivial⟩
set_option maxRecDepth 100000 in
set_option maxHeartbeats 0 in
theorem n_M_noGroup {ρ : Type} (e : zRes → Option ρ) {krA : Int → zH → Option ρ} {krZ : Int → zH → Option zRes} (hk : ∀ v h, (krZ v h).bind e = krA v h) (a1 a2 : Int) (h : zH) : (M_noGroup a1 a2 h krZ).bind e = M_noGroup a1 a2 h krA := by
  refine Eq.trans (congrArg (fun z => Option.bind z e) (qe_M_noGroup krZ a1 a2 h)) (Eq.trans ?_ (Eq.symm (qe_M_noGroup krA a1 a2 h)))
  generalize (400 : Nat) = f9
  refine zseg_e e (zcal_e _ _ ?_) (zorc_e _ _ ?_) hk (fun _ _ => rfl) f9 _ _ _ _
  · exact ⟨rfl, rfl, zca3_e (fun x0 x1 x2 h k t => n_M_in e (fun _ _ => rfl) x0 x1 x2 h), ⟨rfl, rfl, zca1_e (fun x0 h k t => n_M_noUnit e (fun _ _ => rfl) x0 h), trivial⟩⟩
  · exact ⟨rfl, rfl, rfl, zap0_e (fun  h => n_M_noGroup_23 e hk  h), ⟨rfl, rfl, rfl, zap1_e (fun x0 h => n_M_noGroup_28 e hk x0 h), trivial⟩⟩
set_option maxRecDepth 100000 in
set_option maxHeartbeats 0 in
theorem n_M_groups_27 {ρ : Type} (e : zRes → Option ρ) {krA : Int → zH → Option ρ} {krZ : Int → zH → Option zRes} (hk : ∀ v h, (krZ v h).bind e = krA v h) (t0 : Int) (h : zH) : (M_groups_27 krZ t0 h).bind e = M_groups_27 krA t0 h := by
  refine Eq.trans (congrArg (fun z => Option.bind z e) (qe_M_groups_27 krZ t0 h)) (Eq.trans ?_ (Eq.symm (qe_M_groups_27 krA t0 h)))
  generalize (400 : Nat) = f9
  refine zseg_e e (zcal_e _ _ ?_) (zorc_e _ _ ?_) hk (fun _ _ => rfl) f9 _ _ _ _
  · exact trivial
  · exact trivial
set_option maxRecDepth 100000 in
set_option maxHeartbeats 0 in
theorem n_M_groups {ρ : Type} (e : zRes → Option ρ) {krA : Int → zH → Option ρ} {krZ : Int → zH → Option zRes} (hk : ∀ v h, (krZ v h).bind e = krA v h) (a1 : Int) (h : zH) : (M_groups a1 h krZ).bind e = M_groups a1 h krA := by
  refine Eq.trans (congrArg (fun z => Option.bind z e) (qe_M_groups krZ a1 h)) (Eq.trans ?_ (Eq.symm (qe_M_groups krA a1 h)))
  generalize (400 : Nat) = f9
  refine zseg_e e (zcal_e _ _ ?_) (zorc_e _ _ ?_) hk (fun _ _ => rfl) f9 _ _ _ _
  · exact ⟨rfl, rfl, zca2_e (fun x0 x1 h k t => n_M_fails e (fun _ _ => rfl) x0 x1 h), ⟨rfl, rfl, zca1_e (fun x0 h k t => n_M_noUnit e (fun _ _ => rfl) x0 h), trivial⟩⟩
  · exact ⟨rfl, rfl, rfl, zap1_e (fun x0 h => n_M_groups_27 e hk x0 h), trivial⟩
set_option maxRecDepth 100000 in
set_option maxHeartbeats 0 in
theorem n_M_threadAt {ρ : Type} (e : zRes → Option ρ) {krA : Int → zH → Option ρ} {krZ : Int → zH → Option zRes} (hk : ∀ v h, (krZ v h).bind e = krA v h) (a1 a2 : Int) (h : zH) : (M_threadAt a1 a2 h krZ).bind e = M_threadAt a1 a2 h krA := by
  refine Eq.trans (congrArg (fun z => Option.bind z e) (qe_M_threadAt krZ a1 a2 h)) (Eq.trans ?_ (Eq.symm (qe_M_threadAt krA a1 a2 h)))
  generalize (400 : Nat) = f9
  refine zseg_e e (zcal_e _ _ ?_) (zorc_e _ _ ?_) hk (fun _ _ => rfl) f9 _ _ _ _
  · exact ⟨rfl, rfl, zca2_e (fun x0 x1 h k t => n_M_fails e (fun _ _ => rfl) x0 x1 h), ⟨rfl, rfl, zca2_e (fun x0 x1 h k t => n_M_noGroup e (fun _ _ => rfl) x0 x1 h), trivial⟩⟩
  · exact trivial
set_option maxRecDepth 100000 in
set_option maxHeartbeats 0 in
theorem n_M_place_54 {ρ : Type} (e : zRes → Option ρ) {krA : Int → zH → Option ρ} {krZ : Int → zH → Option zRes} (hk : ∀ v h, (krZ v h).bind e = krA v h) (t0 : Int) (h : zH) : (M_place_54 krZ t0 h).bind e = M_place_54 krA t0 h := by
  refine Eq.trans (congrArg (fun z => Option.bind z e) (qe_M_place_54 krZ t0 h)) (Eq.trans ?_ (Eq.symm (qe_M_place_54 krA t0 h)))
  generalize (400 : Nat) = f9
  refine zseg_e e (zcal_e _ _ ?_) (zorc_e _ _ ?_) hk (fun _ _ => rfl) f9 _ _ _ _
  · exact trivial
  · exact trivial
set_option maxRecDepth 100000 in
set_option maxHeartbeats 0 in
theorem n_M_place_42 {ρ : Type} (e : zRes → Option ρ) {krA : Int → zH → Option ρ} {krZ : Int → zH → Option zRes} (hk : ∀ v h, (krZ v h).bind e = krA v h) (a3 t0 : Int) (h : zH) : (M_place_42 krZ a3 t0 h).bind e = M_place_42 krA a3 t0 h := by
  refine Eq.trans (congrArg (fun z => Option.bind z e) (qe_M_place_42 krZ a3 t0 h)) (Eq.trans ?_ (Eq.symm (qe_M_place_42 krA a3 t0 h)))
  generalize (400 : Nat) = f9
  refine zseg_e e (zcal_e _ _ ?_) (zorc_e _ _ ?_) hk (fun _ _ => rfl) f9 _ _ _ _
  · exact ⟨rfl, rfl, zca2_e (fun x0 x1 h k t => n_M_fails e (fun _ _ => rfl) x0 x1 h), trivial⟩
  · exact ⟨rfl, rfl, rfl, zap1_e (fun x0 h => n_M_place_54 e hk x0 h), trivial⟩
set_option maxRecDepth 100000 in
set_option maxHeartbeats 0 in
theorem n_M_place {ρ : Type} (e : zRes → Option ρ) {krA : Int → zH → Option ρ} {krZ : Int → zH → Option zRes} (hk : ∀ v h, (krZ v h).bind e = krA v h) (a1 a2 : Int) (h : zH) : (M_place a1 a2 h krZ).bind e = M_place a1 a2 h krA := by
  refine Eq.trans (congrArg (fun z => Option.bind z e) (qe_M_place krZ a1 a2 h)) (Eq.trans ?_ (Eq.symm (qe_M_place krA a1 a2 h)))
  generalize (400 : Nat) = f9
  refine zseg_e e (zcal_e _ _ ?_) (zorc_e _ _ ?_) hk (fun _ _ => rfl) f9 _ _ _ _
  · exact ⟨rfl, rfl, zca2_e (fun x0 x1 h k t => n_M_fails e (fun _ _ => rfl) x0 x1 h), ⟨rfl, rfl, zca1_e (fun x0 h k t => n_M_placeOf e (fun _ _ => rfl) x0 h), ⟨rfl, rfl, zca2_e (fun x0 x1 h k t => n_M_noGroup e (fun _ _ => rfl) x0 x1 h), trivial⟩⟩⟩
  · exact ⟨rfl, rfl, rfl, zap2_e (fun x0 x1 h => n_M_place_42 e hk x0 x1 h), trivial⟩
set_option maxRecDepth 100000 in
set_option maxHeartbeats 0 in
theorem n_M_mask_32 {ρ : Type} (e : zRes → Option ρ) {krA : Int → zH → Option ρ} {krZ : Int → zH → Option zRes} (hk : ∀ v h, (krZ v h).bind e = krA v h) (t0 : Int) (h : zH) : (M_mask_32 krZ t0 h).bind e = M_mask_32 krA t0 h := by
  refine Eq.trans (congrArg (fun z => Option.bind z e) (qe_M_mask_32 krZ t0 h)) (Eq.trans ?_ (Eq.symm (qe_M_mask_32 krA t0 h)))
  generalize (400 : Nat) = f9
  refine zseg_e e (zcal_e _ _ ?_) (zorc_e _ _ ?_) hk (fun _ _ => rfl) f9 _ _ _ _
  · exact trivial
  · exact trivial
set_option maxRecDepth 100000 in
set_option maxHeartbeats 0 in
theorem n_M_mask {ρ : Type} (e : zRes → Option ρ) {krA : Int → zH → Option ρ} {krZ : Int → zH → Option zRes} (hk : ∀ v h, (krZ v h).bind e = krA v h) (a1 a2 : Int) (h : zH) : (M_mask a1 a2 h krZ).bind e = M_mask a1 a2 h krA := by
  refine Eq.trans (congrArg (fun z => Option.bind z e) (qe_M_mask krZ a1 a2 h)) (Eq.trans ?_ (Eq.symm (qe_M_mask krA a1 a2 h)))
  generalize (400 : Nat) = f9
  refine zseg_e e (zcal_e _ _ ?_) (zorc_e _ _ ?_) hk (fun _ _ => rfl) f9 _ _ _ _
  · exact ⟨rfl, rfl, zca2_e (fun x0 x1 h k t => n_M_fails e (fun _ _ => rfl) x0 x1 h), ⟨rfl, rfl, zca1_e (fun x0 h k t => n_M_maskOf e (fun _ _ => rfl) x0 h), ⟨rfl, rfl, zca2_e (fun x0 x1 h k t => n_M_noGroup e (fun _ _ => rfl) x0 x1 h), trivial⟩⟩⟩
  · exact ⟨rfl, rfl, rfl, zap1_e (fun x0 h => n_M_mask_32 e hk x0 h), trivial⟩
set_option maxRecDepth 100000 in
set_option maxHeartbeats 0 in
theorem n_M_places_141 {ρ : Type} (e : zRes → Option ρ) {krA : Int → zH → Option ρ} {krZ : Int → zH → Option zRes} (hk : ∀ v h, (krZ v h).bind e = krA v h) {r33A : Int → Int → Int → zH → Option ρ} {r33Z : Int → Int → Int → zH → Option zRes} (h33 : ∀ (x0 x1 x2 : Int) (h : zH), (r33Z x0 x1 x2 h).bind e = r33A x0 x1 x2 h) {r53A : Int → Int → Int → Int → Int → zH → Option ρ} {r53Z : Int → Int → Int → Int → Int → zH → Option zRes} (h53 : ∀ (x0 x1 x2 x3 x4 : Int) (h : zH), (r53Z x0 x1 x2 x3 x4 h).bind e = r53A x0 x1 x2 x3 x4 h) (a3 a4 a5 a7 t0 : Int) (h : zH) : (M_places_141 krZ r33Z r53Z a3 a4 a5 a7 t0 h).bind e = M_places_141 krA r33A r53A a3 a4 a5 a7 t0 h := by
  refine Eq.trans (congrArg (fun z => Option.bind z e) (qe_M_places_141 krZ r33Z r53Z a3 a4 a5 a7 t0 h)) (Eq.trans ?_ (Eq.symm (qe_M_places_141 krA r33A r53A a3 a4 a5 a7 t0 h)))
  generalize (400 : Nat) = f9
  refine zseg_e e (zcal_e _ _ ?_) (zorc_e _ _ ?_) hk (fun _ _ => rfl) f9 _ _ _ _
  · exact trivial
  · exact ⟨rfl, rfl, rfl, zap5_e h53, trivial⟩
set_option maxRecDepth 100000 in
set_option maxHeartbeats 0 in
theorem n_M_places_136 {ρ : Type} (e : zRes → Option ρ) {krA : Int → zH → Option ρ} {krZ : Int → zH → Option zRes} (hk : ∀ v h, (krZ v h).bind e = krA v h) {r33A : Int → Int → Int → zH → Option ρ} {r33Z : Int → Int → Int → zH → Option zRes} (h33 : ∀ (x0 x1 x2 : Int) (h : zH), (r33Z x0 x1 x2 h).bind e = r33A x0 x1 x2 h) {r53A : Int → Int → Int → Int → Int → zH → Option ρ} {r53Z : Int → Int → Int → Int → Int → zH → Option zRes} (h53 : ∀ (x0 x1 x2 x3 x4 : Int) (h : zH), (r53Z x0 x1 x2 x3 x4 h).bind e = r53A x0 x1 x2 x3 x4 h) (a3 a4 a5 a7 : Int) (h : zH) : (M_places_136 krZ r33Z r53Z a3 a4 a5 a7 h).bind e = M_places_136 krA r33A r53A a3 a4 a5 a7 h := by
  refine Eq.trans (congrArg (fun z => Option.bind z e) (qe_M_places_136 krZ r33Z r53Z a3 a4 a5 a7 h)) (Eq.trans ?_ (Eq.symm (qe_M_places_136 krA r33A r53A a3 a4 a5 a7 h)))
  generalize (400 : Nat) = f9
  refine zseg_e e (zcal_e _ _ ?_) (zorc_e _ _ ?_) hk (fun _ _ => rfl) f9 _ _ _ _
  · exact trivial
  · exact ⟨rfl, rfl, rfl, zap5_e (fun x0 x1 x2 x3 x4 h => n_M_places_141 e hk h33 h53 x0 x1 x2 x3 x4 h), trivial⟩
set_option maxRecDepth 100000 in
set_option maxHeartbeats 0 in
theorem n_M_places_140 {ρ : Type} (e : zRes → Option ρ) {krA : Int → zH → Option ρ} {krZ : Int → zH → Option zRes} (hk : ∀ v h, (krZ v h).bind e = krA v h) {r33A : Int → Int → Int → zH → Option ρ} {r33Z : Int → Int → Int → zH → Option zRes} (h33 : ∀ (x0 x1 x2 : Int) (h : zH), (r33Z x0 x1 x2 h).bind e = r33A x0 x1 x2 h) {r53A : Int → Int → Int → Int → Int → zH → Option ρ} {r53Z : Int → Int → Int → Int → Int → zH → Option zRes} (h53 : ∀ (x0 x1 x2 x3 x4 : Int) (h : zH), (r53Z x0 x1 x2 x3 x4 h).bind e = r53A x0 x1 x2 x3 x4 h) (a3 a4 a5 a7 : Int) (h : zH) : (M_places_140 krZ r33Z r53Z a3 a4 a5 a7 h).bind e = M_places_140 krA r33A r53A a3 a4 a5 a7 h := by
  refine Eq.trans (congrArg (fun z => Option.bind z e) (qe_M_places_140 krZ r33Z r53Z a3 a4 a5 a7 h)) (Eq.trans ?_ (Eq.symm (qe_M_places_140 krA r33A r53A a3 a4 a5 a7 h)))
  generalize (400 : Nat) = f9
  refine zseg_e e (zcal_e _ _ ?_) (zorc_e _ _ ?_) hk (fun _ _ => rfl) f9 _ _ _ _
  · exact trivial
  · exact ⟨rfl, rfl, rfl, zap5_e (fun x0 x1 x2 x3 x4 h => n_M_places_141 e hk h33 h53 x0 x1 x2 x3 x4 h), trivial⟩
set_option maxRecDepth 100000 in
set_option maxHeartbeats 0 in
theorem n_M_places_161 {ρ : Type} (e : zRes → Option ρ) {krA : Int → zH → Option ρ} {krZ : Int → zH → Option zRes} (hk : ∀ v h, (krZ v h).bind e = krA v h) {r33A : Int → Int → Int → zH → Option ρ} {r33Z : Int → Int → Int → zH → Option zRes} (h33 : ∀ (x0 x1 x2 : Int) (h : zH), (r33Z x0 x1 x2 h).bind e = r33A x0 x1 x2 h) (a3 a5 t0 t1 : Int) (h : zH) : (M_places_161 krZ r33Z a3 a5 t0 t1 h).bind e = M_places_161 krA r33A a3 a5 t0 t1 h := by
  refine Eq.trans (congrArg (fun z => Option.bind z e) (qe_M_places_161 krZ r33Z a3 a5 t0 t1 h)) (Eq.trans ?_ (Eq.symm (qe_M_places_161 krA r33A a3 a5 t0 t1 h)))
  generalize (400 : Nat) = f9
  refine zseg_e e (zcal_e _ _ ?_) (zorc_e _ _ ?_) hk (fun _ _ => rfl) f9 _ _ _ _
  · exact trivial
  · exact ⟨rfl, rfl, rfl, zap3_e h33, trivial⟩
set_option maxRecDepth 100000 in
set_option maxHeartbeats 0 in
theorem n_M_places_149 {ρ : Type} (e : zRes → Option ρ) {krA : Int → zH → Option ρ} {krZ : Int → zH → Option zRes} (hk : ∀ v h, (krZ v h).bind e = krA v h) {r33A : Int → Int → Int → zH → Option ρ} {r33Z : Int → Int → Int → zH → Option zRes} (h33 : ∀ (x0 x1 x2 : Int) (h : zH), (r33Z x0 x1 x2 h).bind e = r33A x0 x1 x2 h) (a3 a4 a5 a6 : Int) (h : zH) : (M_places_149 krZ r33Z a3 a4 a5 a6 h).bind e = M_places_149 krA r33A a3 a4 a5 a6 h := by
  refine Eq.trans (congrArg (fun z => Option.bind z e) (qe_M_places_149 krZ r33Z a3 a4 a5 a6 h)) (Eq.trans ?_ (Eq.symm (qe_M_places_149 krA r33A a3 a4 a5 a6 h)))
  generalize (400 : Nat) = f9
  refine zseg_e e (zcal_e _ _ ?_) (zorc_e _ _ ?_) hk (fun _ _ => rfl) f9 _ _ _ _
  · exact trivial
  · exact ⟨rfl, rfl, rfl, zap4_e (fun x0 x1 x2 x3 h => n_M_places_161 e hk h33 x0 x1 x2 x3 h), trivial⟩
set_option maxRecDepth 100000 in
set_option maxHeartbeats 0 in
theorem n_M_places_53b {ρ : Type} (e : zRes → Option ρ) {krA : Int → zH → Option ρ} {krZ : Int → zH → Option zRes} (hk : ∀ v h, (krZ v h).bind e = krA v h) {r33A : Int → Int → Int → zH → Option ρ} {r33Z : Int → Int → Int → zH → Option zRes} (h33 : ∀ (x0 x1 x2 : Int) (h : zH), (r33Z x0 x1 x2 h).bind e = r33A x0 x1 x2 h) {r53A : Int → Int → Int → Int → Int → zH → Option ρ} {r53Z : Int → Int → Int → Int → Int → zH → Option zRes} (h53 : ∀ (x0 x1 x2 x3 x4 : Int) (h : zH), (r53Z x0 x1 x2 x3 x4 h).bind e = r53A x0 x1 x2 x3 x4 h) (a3 a4 a5 a6 a7 : Int) (h : zH) : (M_places_53b krZ r33Z r53Z a3 a4 a5 a6 a7 h).bind e = M_places_53b krA r33A r53A a3 a4 a5 a6 a7 h := by
  refine Eq.trans (congrArg (fun z => Option.bind z e) (qe_M_places_53b krZ r33Z r53Z a3 a4 a5 a6 a7 h)) (Eq.trans ?_ (Eq.symm (qe_M_places_53b krA r33A r53A a3 a4 a5 a6 a7 h)))
  generalize (400 : Nat) = f9
  refine zseg_e e (zcal_e _ _ ?_) (zorc_e _ _ ?_) hk (fun _ _ => rfl) f9 _ _ _ _
  · exact ⟨rfl, rfl, zca2_e (fun x0 x1 h k t => n_M_threadCell e (fun _ _ => rfl) x0 x1 h), trivial⟩
  · exact ⟨rfl, rfl, rfl, zap4_e (fun x0 x1 x2 x3 h => n_M_places_136 e hk h33 h53 x0 x1 x2 x3 h), ⟨rfl, rfl, rfl, zap4_e (fun x0 x1 x2 x3 h => n_M_places_140 e hk h33 h53 x0 x1 x2 x3 h), ⟨rfl, rfl, rfl, zap4_e (fun x0 x1 x2 x3 h => n_M_places_149 e hk h33 x0 x1 x2 x3 h), trivial⟩⟩⟩
theorem n_M_places_53 {ρ : Type} (e : zRes → Option ρ) {krA : Int → zH → Option ρ} {krZ : Int → zH → Option zRes} (hk : ∀ v h, (krZ v h).bind e = krA v h) {r33A : Int → Int → Int → zH → Option ρ} {r33Z : Int → Int → Int → zH → Option zRes} (h33 : ∀ (x0 x1 x2 : Int) (h : zH), (r33Z x0 x1 x2 h).bind e = r33A x0 x1 x2 h) (a3 a4 a5 a6 a7 : Int) (h : zH) : (M_places_53 krZ r33Z a3 a4 a5 a6 a7 h).bind e = M_places_53 krA r33A a3 a4 a5 a6 a7 h := zit5_e (fun rA rZ hh a3 a4 a5 a6 a7 h => n_M_places_53b e hk h33 hh a3 a4 a5 a6 a7 h) zN a3 a4 a5 a6 a7 h
set_option maxRecDepth 100000 in
set_option maxHeartbeats 0 in
theorem n_M_places_33b {ρ : Type} (e : zRes → Option ρ) {krA : Int → zH → Option ρ} {krZ : Int → zH → Option zRes} (hk : ∀ v h, (krZ v h).bind e = krA v h) {r33A : Int → Int → Int → zH → Option ρ} {r33Z : Int → Int → Int → zH → Option zRes} (h33 : ∀ (x0 x1 x2 : Int) (h : zH), (r33Z x0 x1 x2 h).bind e = r33A x0 x1 x2 h) (a3 a4 a5 : Int) (h : zH) : (M_places_33b krZ r33Z a3 a4 a5 h).bind e = M_places_33b krA r33A a3 a4 a5 h := by
  refine Eq.trans (congrArg (fun z => Option.bind z e) (qe_M_places_33b krZ r33Z a3 a4 a5 h)) (Eq.trans ?_ (Eq.symm (qe_M_places_33b krA r33A a3 a4 a5 h)))
  generalize (400 : Nat) = f9
  refine zseg_e e (zcal_e _ _ ?_) (zorc_e _ _ ?_) hk (fun _ _ => rfl) f9 _ _ _ _
  · exact trivial
  · exact ⟨rfl, rfl, rfl, zap5_e (fun x0 x1 x2 x3 x4 h => n_M_places_53 e hk h33 x0 x1 x2 x3 x4 h), trivial⟩
theorem n_M_places_33 {ρ : Type} (e : zRes → Option ρ) {krA : Int → zH → Option ρ} {krZ : Int → zH → Option zRes} (hk : ∀ v h, (krZ v h).bind e = krA v h) (a3 a4 a5 : Int) (h : zH) : (M_places_33 krZ a3 a4 a5 h).bind e = M_places_33 krA a3 a4 a5 h := zit3_e (fun rA rZ hh a3 a4 a5 h => n_M_places_33b e hk hh a3 a4 a5 h) zN a3 a4 a5 h
set_option maxRecDepth 100000 in
set_option maxHeartbeats 0 in
theorem n_M_places {ρ : Type} (e : zRes → Option ρ) {krA : Int → zH → Option ρ} {krZ : Int → zH → Option zRes} (hk : ∀ v h, (krZ v h).bind e = krA v h) (a1 a2 : Int) (h : zH) : (M_places a1 a2 h krZ).bind e = M_places a1 a2 h krA := by
  refine Eq.trans (congrArg (fun z => Option.bind z e) (qe_M_places krZ a1 a2 h)) (Eq.trans ?_ (Eq.symm (qe_M_places krA a1 a2 h)))
  generalize (400 : Nat) = f9
  refine zseg_e e (zcal_e _ _ ?_) (zorc_e _ _ ?_) hk (fun _ _ => rfl) f9 _ _ _ _
  · exact ⟨rfl, rfl, zca2_e (fun x0 x1 h k t => n_M_fails e (fun _ _ => rfl) x0 x1 h), ⟨rfl, rfl, zca2_e (fun x0 x1 h k t => n_M_noGroup e (fun _ _ => rfl) x0 x1 h), trivial⟩⟩
  · exact ⟨rfl, rfl, rfl, zap3_e (fun x0 x1 x2 h => n_M_places_33 e hk x0 x1 x2 h), trivial⟩
set_option maxRecDepth 100000 in
set_option maxHeartbeats 0 in
theorem n_M_reason_51 {ρ : Type} (e : zRes → Option ρ) {krA : Int → zH → Option ρ} {krZ : Int → zH → Option zRes} (hk : ∀ v h, (krZ v h).bind e = krA v h) (t0 : Int) (h : zH) : (M_reason_51 krZ t0 h).bind e = M_reason_51 krA t0 h := by
  refine Eq.trans (congrArg (fun z => Option.bind z e) (qe_M_reason_51 krZ t0 h)) (Eq.trans ?_ (Eq.symm (qe_M_reason_51 krA t0 h)))
  generalize (400 : Nat) = f9
  refine zseg_e e (zcal_e _ _ ?_) (zorc_e _ _ ?_) hk (fun _ _ => rfl) f9 _ _ _ _
  · exact trivial
  · exact trivial
set_option maxRecDepth 100000 in
set_option maxHeartbeats 0 in
theorem n_M_reason_72 {ρ : Type} (e : zRes → Option ρ) {krA : Int → zH → Option ρ} {krZ : Int → zH → Option zRes} (hk : ∀ v h, (krZ v h).bind e = krA v h) (t0 : Int) (h : zH) : (M_reason_72 krZ t0 h).bind e = M_reason_72 krA t0 h := by
  refine Eq.trans (congrArg (fun z => Option.bind z e) (qe_M_reason_72 krZ t0 h)) (Eq.trans ?_ (Eq.symm (qe_M_reason_72 krA t0 h)))
  generalize (400 : Nat) = f9
  refine zseg_e e (zcal_e _ _ ?_) (zorc_e _ _ ?_) hk (fun _ _ => rfl) f9 _ _ _ _
  · exact trivial
  · exact trivial
set_option maxRecDepth 100000 in
set_option maxHeartbeats 0 in
theorem n_M_reason {ρ : Type} (e : zRes → Option ρ) {krA : Int → zH → Option ρ} {krZ : Int → zH → Option zRes} (hk : ∀ v h, (krZ v h).bind e = krA v h) (a1 a2 : Int) (h : zH) : (M_reason a1 a2 h krZ).bind e = M_reason a1 a2 h krA := by
  refine Eq.trans (congrArg (fun z => Option.bind z e) (qe_M_reason krZ a1 a2 h)) (Eq.trans ?_ (Eq.symm (qe_M_reason krA a1 a2 h)))
  generalize (400 : Nat) = f9
  refine zseg_e e (zcal_e _ _ ?_) (zorc_e _ _ ?_) hk (fun _ _ => rfl) f9 _ _ _ _
  · exact ⟨rfl, rfl, zca2_e (fun x0 x1 h k t => n_M_fails e (fun _ _ => rfl) x0 x1 h), ⟨rfl, rfl, zca1_e (fun x0 h k t => n_M_hasEnded e (fun _ _ => rfl) x0 h), ⟨rfl, rfl, zca1_e (fun x0 h k t => n_M_placeOf e (fun _ _ => rfl) x0 h), ⟨rfl, rfl, zca2_e (fun x0 x1 h k t => n_M_noGroup e (fun _ _ => rfl) x0 x1 h), trivial⟩⟩⟩⟩
  · exact ⟨rfl, rfl, rfl, zap1_e (fun x0 h => n_M_reason_51 e hk x0 h), ⟨rfl, rfl, rfl, zap1_e (fun x0 h => n_M_reason_72 e hk x0 h), trivial⟩⟩
set_option maxRecDepth 100000 in
set_option maxHeartbeats 0 in
theorem n_M_register_128 {ρ : Type} (e : zRes → Option ρ) {krA : Int → zH → Option ρ} {krZ : Int → zH → Option zRes} (hk : ∀ v h, (krZ v h).bind e = krA v h) (t0 : Int) (h : zH) : (M_register_128 krZ t0 h).bind e = M_register_128 krA t0 h := by
  refine Eq.trans (congrArg (fun z => Option.bind z e) (qe_M_register_128 krZ t0 h)) (Eq.trans ?_ (Eq.symm (qe_M_register_128 krA t0 h)))
  generalize (400 : Nat) = f9
  refine zseg_e e (zcal_e _ _ ?_) (zorc_e _ _ ?_) hk (fun _ _ => rfl) f9 _ _ _ _
  · exact trivial
  · exact trivial
set_option maxRecDepth 100000 in
set_option maxHeartbeats 0 in
theorem n_M_register_98 {ρ : Type} (e : zRes → Option ρ) {krA : Int → zH → Option ρ} {krZ : Int → zH → Option zRes} (hk : ∀ v h, (krZ v h).bind e = krA v h) (a3 a4 a5 t0 : Int) (h : zH) : (M_register_98 krZ a3 a4 a5 t0 h).bind e = M_register_98 krA a3 a4 a5 t0 h := by
  refine Eq.trans (congrArg (fun z => Option.bind z e) (qe_M_register_98 krZ a3 a4 a5 t0 h)) (Eq.trans ?_ (Eq.symm (qe_M_register_98 krA a3 a4 a5 t0 h)))
  generalize (400 : Nat) = f9
  refine zseg_e e (zcal_e _ _ ?_) (zorc_e _ _ ?_) hk (fun _ _ => rfl) f9 _ _ _ _
  · exact ⟨rfl, rfl, zca2_e (fun x0 x1 h k t => n_M_fails e (fun _ _ => rfl) x0 x1 h), ⟨rfl, rfl, zca3_e (fun x0 x1 x2 h k t => n_M_registerCell e (fun _ _ => rfl) x0 x1 x2 h), trivial⟩⟩
  · exact ⟨rfl, rfl, rfl, zap1_e (fun x0 h => n_M_register_128 e hk x0 h), trivial⟩
set_option maxRecDepth 100000 in
set_option maxHeartbeats 0 in
theorem n_M_register_93 {ρ : Type} (e : zRes → Option ρ) {krA : Int → zH → Option ρ} {krZ : Int → zH → Option zRes} (hk : ∀ v h, (krZ v h).bind e = krA v h) (a3 a4 a5 : Int) (h : zH) : (M_register_93 krZ a3 a4 a5 h).bind e = M_register_93 krA a3 a4 a5 h := by
  refine Eq.trans (congrArg (fun z => Option.bind z e) (qe_M_register_93 krZ a3 a4 a5 h)) (Eq.trans ?_ (Eq.symm (qe_M_register_93 krA a3 a4 a5 h)))
  generalize (400 : Nat) = f9
  refine zseg_e e (zcal_e _ _ ?_) (zorc_e _ _ ?_) hk (fun _ _ => rfl) f9 _ _ _ _
  · exact trivial
  · exact ⟨rfl, rfl, rfl, zap4_e (fun x0 x1 x2 x3 h => n_M_register_98 e hk x0 x1 x2 x3 h), trivial⟩
set_option maxRecDepth 100000 in
set_option maxHeartbeats 0 in
theorem n_M_register {ρ : Type} (e : zRes → Option ρ) {krA : Int → zH → Option ρ} {krZ : Int → zH → Option zRes} (hk : ∀ v h, (krZ v h).bind e = krA v h) (a1 a2 a3 a4 : Int) (h : zH) : (M_register a1 a2 a3 a4 h krZ).bind e = M_register a1 a2 a3 a4 h krA := by
  refine Eq.trans (congrArg (fun z => Option.bind z e) (qe_M_register krZ a1 a2 a3 a4 h)) (Eq.trans ?_ (Eq.symm (qe_M_register krA a1 a2 a3 a4 h)))
  generalize (400 : Nat) = f9
  refine zseg_e e (zcal_e _ _ ?_) (zorc_e _ _ ?_) hk (fun _ _ => rfl) f9 _ _ _ _
  · exact ⟨rfl, rfl, zca3_e (fun x0 x1 x2 h k t => n_M_in e (fun _ _ => rfl) x0 x1 x2 h), ⟨rfl, rfl, zca2_e (fun x0 x1 h k t => n_M_fails e (fun _ _ => rfl) x0 x1 h), ⟨rfl, rfl, zca2_e (fun x0 x1 h k t => n_M_noGroup e (fun _ _ => rfl) x0 x1 h), trivial⟩⟩⟩
  · exact ⟨rfl, rfl, rfl, zap3_e (fun x0 x1 x2 h => n_M_register_93 e hk x0 x1 x2 h), ⟨rfl, rfl, rfl, zap4_e (fun x0 x1 x2 x3 h => n_M_register_98 e hk x0 x1 x2 x3 h), trivial⟩⟩
set_option maxRecDepth 100000 in
set_option maxHeartbeats 0 in
theorem n_M_shared_87 {ρ : Type} (e : zRes → Option ρ) {krA : Int → zH → Option ρ} {krZ : Int → zH → Option zRes} (hk : ∀ v h, (krZ v h).bind e = krA v h) (t0 : Int) (h : zH) : (M_shared_87 krZ t0 h).bind e = M_shared_87 krA t0 h := by
  refine Eq.trans (congrArg (fun z => Option.bind z e) (qe_M_shared_87 krZ t0 h)) (Eq.trans ?_ (Eq.symm (qe_M_shared_87 krA t0 h)))
  generalize (400 : Nat) = f9
  refine zseg_e e (zcal_e _ _ ?_) (zorc_e _ _ ?_) hk (fun _ _ => rfl) f9 _ _ _ _
  · exact trivial
  · exact trivial
set_option maxRecDepth 100000 in
set_option maxHeartbeats 0 in
theorem n_M_shared_64 {ρ : Type} (e : zRes → Option ρ) {krA : Int → zH → Option ρ} {krZ : Int → zH → Option zRes} (hk : ∀ v h, (krZ v h).bind e = krA v h) (a3 a4 t0 : Int) (h : zH) : (M_shared_64 krZ a3 a4 t0 h).bind e = M_shared_64 krA a3 a4 t0 h := by
  refine Eq.trans (congrArg (fun z => Option.bind z e) (qe_M_shared_64 krZ a3 a4 t0 h)) (Eq.trans ?_ (Eq.symm (qe_M_shared_64 krA a3 a4 t0 h)))
  generalize (400 : Nat) = f9
  refine zseg_e e (zcal_e _ _ ?_) (zorc_e _ _ ?_) hk (fun _ _ => rfl) f9 _ _ _ _
  · exact ⟨rfl, rfl, zca2_e (fun x0 x1 h k t => n_M_fails e (fun _ _ => rfl) x0 x1 h), trivial⟩
  · exact ⟨rfl, rfl, rfl, zap1_e (fun x0 h => n_M_shared_87 e hk x0 h), trivial⟩
set_option maxRecDepth 100000 in
set_option maxHeartbeats 0 in
theorem n_M_shared {ρ : Type} (e : zRes → Option ρ) {krA : Int → zH → Option ρ} {krZ : Int → zH → Option zRes} (hk : ∀ v h, (krZ v h).bind e = krA v h) (a1 a2 a3 : Int) (h : zH) : (M_shared a1 a2 a3 h krZ).bind e = M_shared a1 a2 a3 h krA := by
  refine Eq.trans (congrArg (fun z => Option.bind z e) (qe_M_shared krZ a1 a2 a3 h)) (Eq.trans ?_ (Eq.symm (qe_M_shared krA a1 a2 a3 h)))
  generalize (400 : Nat) = f9
  refine zseg_e e (zcal_e _ _ ?_) (zorc_e _ _ ?_) hk (fun _ _ => rfl) f9 _ _ _ _
  · exact ⟨rfl, rfl, zca3_e (fun x0 x1 x2 h k t => n_M_in e (fun _ _ => rfl) x0 x1 x2 h), ⟨rfl, rfl, zca2_e (fun x0 x1 h k t => n_M_fails e (fun _ _ => rfl) x0 x1 h), ⟨rfl, rfl, zca2_e (fun x0 x1 h k t => n_M_noGroup e (fun _ _ => rfl) x0 x1 h), trivial⟩⟩⟩
  · exact ⟨rfl, rfl, rfl, zap3_e (fun x0 x1 x2 h => n_M_shared_64 e hk x0 x1 x2 h), trivial⟩
set_option maxRecDepth 100000 in
set_option maxHeartbeats 0 in
theorem n_M_buffered_33 {ρ : Type} (e : zRes → Option ρ) {krA : Int → zH → Option ρ} {krZ : Int → zH → Option zRes} (hk : ∀ v h, (krZ v h).bind e = krA v h) (t0 : Int) (h : zH) : (M_buffered_33 krZ t0 h).bind e = M_buffered_33 krA t0 h := by
  refine Eq.trans (congrArg (fun z => Option.bind z e) (qe_M_buffered_33 krZ t0 h)) (Eq.trans ?_ (Eq.symm (qe_M_buffered_33 krA t0 h)))
  generalize (400 : Nat) = f9
  refine zseg_e e (zcal_e _ _ ?_) (zorc_e _ _ ?_) hk (fun _ _ => rfl) f9 _ _ _ _
  · exact trivial
  · exact trivial
set_option maxRecDepth 100000 in
set_option maxHeartbeats 0 in
theorem n_M_buffered {ρ : Type} (e : zRes → Option ρ) {krA : Int → zH → Option ρ} {krZ : Int → zH → Option zRes} (hk : ∀ v h, (krZ v h).bind e = krA v h) (a1 a2 : Int) (h : zH) : (M_buffered a1 a2 h krZ).bind e = M_buffered a1 a2 h krA := by
  refine Eq.trans (congrArg (fun z => Option.bind z e) (qe_M_buffered krZ a1 a2 h)) (Eq.trans ?_ (Eq.symm (qe_M_buffered krA a1 a2 h)))
  generalize (400 : Nat) = f9
  refine zseg_e e (zcal_e _ _ ?_) (zorc_e _ _ ?_) hk (fun _ _ => rfl) f9 _ _ _ _
  · exact ⟨rfl, rfl, zca2_e (fun x0 x1 h k t => n_M_fails e (fun _ _ => rfl) x0 x1 h), ⟨rfl, rfl, zca2_e (fun x0 x1 h k t => n_M_noGroup e (fun _ _ => rfl) x0 x1 h), trivial⟩⟩
  · exact ⟨rfl, rfl, rfl, zap1_e (fun x0 h => n_M_buffered_33 e hk x0 h), trivial⟩
set_option maxRecDepth 100000 in
set_option maxHeartbeats 0 in
theorem n_M_fault_52 {ρ : Type} (e : zRes → Option ρ) {krA : Int → zH → Option ρ} {krZ : Int → zH → Option zRes} (hk : ∀ v h, (krZ v h).bind e = krA v h) (t0 : Int) (h : zH) : (M_fault_52 krZ t0 h).bind e = M_fault_52 krA t0 h := by
  refine Eq.trans (congrArg (fun z => Option.bind z e) (qe_M_fault_52 krZ t0 h)) (Eq.trans ?_ (Eq.symm (qe_M_fault_52 krA t0 h)))
  generalize (400 : Nat) = f9
  refine zseg_e e (zcal_e _ _ ?_) (zorc_e _ _ ?_) hk (fun _ _ => rfl) f9 _ _ _ _
  · exact trivial
  · exact trivial
set_option maxRecDepth 100000 in
set_option maxHeartbeats 0 in
theorem n_M_fault_42 {ρ : Type} (e : zRes → Option ρ) {krA : Int → zH → Option ρ} {krZ : Int → zH → Option zRes} (hk : ∀ v h, (krZ v h).bind e = krA v h) (h : zH) : (M_fault_42 krZ h).bind e = M_fault_42 krA h := by
  refine Eq.trans (congrArg (fun z => Option.bind z e) (qe_M_fault_42 krZ h)) (Eq.trans ?_ (Eq.symm (qe_M_fault_42 krA h)))
  generalize (400 : Nat) = f9
  refine zseg_e e (zcal_e _ _ ?_) (zorc_e _ _ ?_) hk (fun _ _ => rfl) f9 _ _ _ _
  · exact trivial
  · exact ⟨rfl, rfl, rfl, zap1_e (fun x0 h => n_M_fault_52 e hk x0 h), trivial⟩
set_option maxRecDepth 100000 in
set_option maxHeartbeats 0 in
theorem n_M_fault_35 {ρ : Type} (e : zRes → Option ρ) {krA : Int → zH → Option ρ} {krZ : Int → zH → Option zRes} (hk : ∀ v h, (krZ v h).bind e = krA v h) (a1 t0 : Int) (h : zH) : (M_fault_35 krZ a1 t0 h).bind e = M_fault_35 krA a1 t0 h := by
  refine Eq.trans (congrArg (fun z => Option.bind z e) (qe_M_fault_35 krZ a1 t0 h)) (Eq.trans ?_ (Eq.symm (qe_M_fault_35 krA a1 t0 h)))
  generalize (400 : Nat) = f9
  refine zseg_e e (zcal_e _ _ ?_) (zorc_e _ _ ?_) hk (fun _ _ => rfl) f9 _ _ _ _
  · exact ⟨rfl, rfl, zca2_e (fun x0 x1 h k t => n_M_fails e (fun _ _ => rfl) x0 x1 h), trivial⟩
  · exact ⟨rfl, rfl, rfl, zap0_e (fun  h => n_M_fault_42 e hk  h), ⟨rfl, rfl, rfl, zap1_e (fun x0 h => n_M_fault_52 e hk x0 h), trivial⟩⟩
set_option maxRecDepth 100000 in
set_option maxHeartbeats 0 in
theorem n_M_fault {ρ : Type} (e : zRes → Option ρ) {krA : Int → zH → Option ρ} {krZ : Int → zH → Option zRes} (hk : ∀ v h, (krZ v h).bind e = krA v h) (a1 : Int) (h : zH) : (M_fault a1 h krZ).bind e = M_fault a1 h krA := by
  refine Eq.trans (congrArg (fun z => Option.bind z e) (qe_M_fault krZ a1 h)) (Eq.trans ?_ (Eq.symm (qe_M_fault krA a1 h)))
  generalize (400 : Nat) = f9
  refine zseg_e e (zcal_e _ _ ?_) (zorc_e _ _ ?_) hk (fun _ _ => rfl) f9 _ _ _ _
  · exact ⟨rfl, rfl, zca2_e (fun x0 x1 h k t => n_M_fails e (fun _ _ => rfl) x0 x1 h), ⟨rfl, rfl, zca1_e (fun x0 h k t => n_M_noLaunch e (fun _ _ => rfl) x0 h), trivial⟩⟩
  · exact ⟨rfl, rfl, rfl, zap2_e (fun x0 x1 h => n_M_fault_35 e hk x0 x1 h), ⟨rfl, rfl, rfl, zap0_e (fun  h => n_M_fault_42 e hk  h), trivial⟩⟩
set_option maxRecDepth 100000 in
set_option maxHeartbeats 0 in
theorem n_M_faultAt_52 {ρ : Type} (e : zRes → Option ρ) {krA : Int → zH → Option ρ} {krZ : Int → zH → Option zRes} (hk : ∀ v h, (krZ v h).bind e = krA v h) (t0 : Int) (h : zH) : (M_faultAt_52 krZ t0 h).bind e = M_faultAt_52 krA t0 h := by
  refine Eq.trans (congrArg (fun z => Option.bind z e) (qe_M_faultAt_52 krZ t0 h)) (Eq.trans ?_ (Eq.symm (qe_M_faultAt_52 krA t0 h)))
  generalize (400 : Nat) = f9
  refine zseg_e e (zcal_e _ _ ?_) (zorc_e _ _ ?_) hk (fun _ _ => rfl) f9 _ _ _ _
  · exact trivial
  · exact trivial
set_option maxRecDepth 100000 in
set_option maxHeartbeats 0 in
theorem n_M_faultAt_42 {ρ : Type} (e : zRes → Option ρ) {krA : Int → zH → Option ρ} {krZ : Int → zH → Option zRes} (hk : ∀ v h, (krZ v h).bind e = krA v h) (h : zH) : (M_faultAt_42 krZ h).bind e = M_faultAt_42 krA h := by
  refine Eq.trans (congrArg (fun z => Option.bind z e) (qe_M_faultAt_42 krZ h)) (Eq.trans ?_ (Eq.symm (qe_M_faultAt_42 krA h)))
  generalize (400 : Nat) = f9
  refine zseg_e e (zcal_e _ _ ?_) (zorc_e _ _ ?_) hk (fun _ _ => rfl) f9 _ _ _ _
  · exact trivial
  · exact ⟨rfl, rfl, rfl, zap1_e (fun x0 h => n_M_faultAt_52 e hk x0 h), trivial⟩
set_option maxRecDepth 100000 in
set_option maxHeartbeats 0 in
theorem n_M_faultAt_35 {ρ : Type} (e : zRes → Option ρ) {krA : Int → zH → Option ρ} {krZ : Int → zH → Option zRes} (hk : ∀ v h, (krZ v h).bind e = krA v h) (a1 t0 : Int) (h : zH) : (M_faultAt_35 krZ a1 t0 h).bind e = M_faultAt_35 krA a1 t0 h := by
  refine Eq.trans (congrArg (fun z => Option.bind z e) (qe_M_faultAt_35 krZ a1 t0 h)) (Eq.trans ?_ (Eq.symm (qe_M_faultAt_35 krA a1 t0 h)))
  generalize (400 : Nat) = f9
  refine zseg_e e (zcal_e _ _ ?_) (zorc_e _ _ ?_) hk (fun _ _ => rfl) f9 _ _ _ _
  · exact ⟨rfl, rfl, zca2_e (fun x0 x1 h k t => n_M_fails e (fun _ _ => rfl) x0 x1 h), trivial⟩
  · exact ⟨rfl, rfl, rfl, zap0_e (fun  h => n_M_faultAt_42 e hk  h), ⟨rfl, rfl, rfl, zap1_e (fun x0 h => n_M_faultAt_52 e hk x0 h), trivial⟩⟩
set_option maxRecDepth 100000 in
set_option maxHeartbeats 0 in
theorem n_M_faultAt {ρ : Type} (e : zRes → Option ρ) {krA : Int → zH → Option ρ} {krZ : Int → zH → Option zRes} (hk : ∀ v h, (krZ v h).bind e = krA v h) (a1 : Int) (h : zH) : (M_faultAt a1 h krZ).bind e = M_faultAt a1 h krA := by
  refine Eq.trans (congrArg (fun z => Option.bind z e) (qe_M_faultAt krZ a1 h)) (Eq.trans ?_ (Eq.symm (qe_M_faultAt krA a1 h)))
  generalize (400 : Nat) = f9
  refine zseg_e e (zcal_e _ _ ?_) (zorc_e _ _ ?_) hk (fun _ _ => rfl) f9 _ _ _ _
  · exact ⟨rfl, rfl, zca2_e (fun x0 x1 h k t => n_M_fails e (fun _ _ => rfl) x0 x1 h), ⟨rfl, rfl, zca1_e (fun x0 h k t => n_M_noLaunch e (fun _ _ => rfl) x0 h), trivial⟩⟩
  · exact ⟨rfl, rfl, rfl, zap2_e (fun x0 x1 h => n_M_faultAt_35 e hk x0 x1 h), ⟨rfl, rfl, rfl, zap0_e (fun  h => n_M_faultAt_42 e hk  h), trivial⟩⟩
set_option maxRecDepth 100000 in
set_option maxHeartbeats 0 in
theorem n_M_isRacing_52 {ρ : Type} (e : zRes → Option ρ) {krA : Int → zH → Option ρ} {krZ : Int → zH → Option zRes} (hk : ∀ v h, (krZ v h).bind e = krA v h) (t0 : Int) (h : zH) : (M_isRacing_52 krZ t0 h).bind e = M_isRacing_52 krA t0 h := by
  refine Eq.trans (congrArg (fun z => Option.bind z e) (qe_M_isRacing_52 krZ t0 h)) (Eq.trans ?_ (Eq.symm (qe_M_isRacing_52 krA t0 h)))
  generalize (400 : Nat) = f9
  refine zseg_e e (zcal_e _ _ ?_) (zorc_e _ _ ?_) hk (fun _ _ => rfl) f9 _ _ _ _
  · exact trivial
  · exact trivial
set_option maxRecDepth 100000 in
set_option maxHeartbeats 0 in
theorem n_M_isRacing_51 {ρ : Type} (e : zRes → Option ρ) {krA : Int → zH → Option ρ} {krZ : Int → zH → Option zRes} (hk : ∀ v h, (krZ v h).bind e = krA v h) (h : zH) : (M_isRacing_51 krZ h).bind e = M_isRacing_51 krA h := by
  refine Eq.trans (congrArg (fun z => Option.bind z e) (qe_M_isRacing_51 krZ h)) (Eq.trans ?_ (Eq.symm (qe_M_isRacing_51 krA h)))
  generalize (400 : Nat) = f9
  refine zseg_e e (zcal_e _ _ ?_) (zorc_e _ _ ?_) hk (fun _ _ => rfl) f9 _ _ _ _
  · exact trivial
  · exact ⟨rfl, rfl, rfl, zap1_e (fun x0 h => n_M_isRacing_52 e hk x0 h), trivial⟩
set_option maxRecDepth 100000 in
set_option maxHeartbeats 0 in
theorem n_M_isRacing_26 {ρ : Type} (e : zRes → Option ρ) {krA : Int → zH → Option ρ} {krZ : Int → zH → Option zRes} (hk : ∀ v h, (krZ v h).bind e = krA v h) (a1 a2 t0 : Int) (h : zH) : (M_isRacing_26 krZ a1 a2 t0 h).bind e = M_isRacing_26 krA a1 a2 t0 h := by
  refine Eq.trans (congrArg (fun z => Option.bind z e) (qe_M_isRacing_26 krZ a1 a2 t0 h)) (Eq.trans ?_ (Eq.symm (qe_M_isRacing_26 krA a1 a2 t0 h)))
  generalize (400 : Nat) = f9
  refine zseg_e e (zcal_e _ _ ?_) (zorc_e _ _ ?_) hk (fun _ _ => rfl) f9 _ _ _ _
  · exact ⟨rfl, rfl, zca2_e (fun x0 x1 h k t => n_M_fails e (fun _ _ => rfl) x0 x1 h), trivial⟩
  · exact ⟨rfl, rfl, rfl, zap0_e (fun  h => n_M_isRacing_51 e hk  h), ⟨rfl, rfl, rfl, zap1_e (fun x0 h => n_M_isRacing_52 e hk x0 h), trivial⟩⟩
set_option maxRecDepth 100000 in
set_option maxHeartbeats 0 in
theorem n_M_isRacing_21 {ρ : Type} (e : zRes → Option ρ) {krA : Int → zH → Option ρ} {krZ : Int → zH → Option zRes} (hk : ∀ v h, (krZ v h).bind e = krA v h) (a1 a2 : Int) (h : zH) : (M_isRacing_21 krZ a1 a2 h).bind e = M_isRacing_21 krA a1 a2 h := by
  refine Eq.trans (congrArg (fun z => Option.bind z e) (qe_M_isRacing_21 krZ a1 a2 h)) (Eq.trans ?_ (Eq.symm (qe_M_isRacing_21 krA a1 a2 h)))
  generalize (400 : Nat) = f9
  refine zseg_e e (zcal_e _ _ ?_) (zorc_e _ _ ?_) hk (fun _ _ => rfl) f9 _ _ _ _
  · exact trivial
  · exact ⟨rfl, rfl, rfl, zap3_e (fun x0 x1 x2 h => n_M_isRacing_26 e hk x0 x1 x2 h), trivial⟩
set_option maxRecDepth 100000 in
set_option maxHeartbeats 0 in
theorem n_M_isRacing {ρ : Type} (e : zRes → Option ρ) {krA : Int → zH → Option ρ} {krZ : Int → zH → Option zRes} (hk : ∀ v h, (krZ v h).bind e = krA v h) (a1 a2 : Int) (h : zH) : (M_isRacing a1 a2 h krZ).bind e = M_isRacing a1 a2 h krA := by
  refine Eq.trans (congrArg (fun z => Option.bind z e) (qe_M_isRacing krZ a1 a2 h)) (Eq.trans ?_ (Eq.symm (qe_M_isRacing krA a1 a2 h)))
  generalize (400 : Nat) = f9
  refine zseg_e e (zcal_e _ _ ?_) (zorc_e _ _ ?_) hk (fun _ _ => rfl) f9 _ _ _ _
  · exact ⟨rfl, rfl, zca1_e (fun x0 h k t => n_M_noLaunch e (fun _ _ => rfl) x0 h), ⟨rfl, rfl, zca1_e (fun x0 h k t => n_M_noCell e (fun _ _ => rfl) x0 h), trivial⟩⟩
  · exact ⟨rfl, rfl, rfl, zap2_e (fun x0 x1 h => n_M_isRacing_21 e hk x0 x1 h), ⟨rfl, rfl, rfl, zap3_e (fun x0 x1 x2 h => n_M_isRacing_26 e hk x0 x1 x2 h), trivial⟩⟩
set_option maxRecDepth 100000 in
set_option maxHeartbeats 0 in
theorem n_M_races_50 {ρ : Type} (e : zRes → Option ρ) {krA : Int → zH → Option ρ} {krZ : Int → zH → Option zRes} (hk : ∀ v h, (krZ v h).bind e = krA v h) {r24A : Int → Int → Int → zH → Option ρ} {r24Z : Int → Int → Int → zH → Option zRes} (h24 : ∀ (x0 x1 x2 : Int) (h : zH), (r24Z x0 x1 x2 h).bind e = r24A x0 x1 x2 h) (a1 a3 t0 t1 : Int) (h : zH) : (M_races_50 krZ r24Z a1 a3 t0 t1 h).bind e = M_races_50 krA r24A a1 a3 t0 t1 h := by
  refine Eq.trans (congrArg (fun z => Option.bind z e) (qe_M_races_50 krZ r24Z a1 a3 t0 t1 h)) (Eq.trans ?_ (Eq.symm (qe_M_races_50 krA r24A a1 a3 t0 t1 h)))
  generalize (400 : Nat) = f9
  refine zseg_e e (zcal_e _ _ ?_) (zorc_e _ _ ?_) hk (fun _ _ => rfl) f9 _ _ _ _
  · exact trivial
  · exact ⟨rfl, rfl, rfl, zap3_e h24, trivial⟩
set_option maxRecDepth 100000 in
set_option maxHeartbeats 0 in
theorem n_M_races_89 {ρ : Type} (e : zRes → Option ρ) {krA : Int → zH → Option ρ} {krZ : Int → zH → Option zRes} (hk : ∀ v h, (krZ v h).bind e = krA v h) {r63A : Int → Int → Int → zH → Option ρ} {r63Z : Int → Int → Int → zH → Option zRes} (h63 : ∀ (x0 x1 x2 : Int) (h : zH), (r63Z x0 x1 x2 h).bind e = r63A x0 x1 x2 h) (a1 a3 t0 t1 : Int) (h : zH) : (M_races_89 krZ r63Z a1 a3 t0 t1 h).bind e = M_races_89 krA r63A a1 a3 t0 t1 h := by
  refine Eq.trans (congrArg (fun z => Option.bind z e) (qe_M_races_89 krZ r63Z a1 a3 t0 t1 h)) (Eq.trans ?_ (Eq.symm (qe_M_races_89 krA r63A a1 a3 t0 t1 h)))
  generalize (400 : Nat) = f9
  refine zseg_e e (zcal_e _ _ ?_) (zorc_e _ _ ?_) hk (fun _ _ => rfl) f9 _ _ _ _
  · exact trivial
  · exact ⟨rfl, rfl, rfl, zap3_e h63, trivial⟩
set_option maxRecDepth 100000 in
set_option maxHeartbeats 0 in
theorem n_M_races_63b {ρ : Type} (e : zRes → Option ρ) {krA : Int → zH → Option ρ} {krZ : Int → zH → Option zRes} (hk : ∀ v h, (krZ v h).bind e = krA v h) {r63A : Int → Int → Int → zH → Option ρ} {r63Z : Int → Int → Int → zH → Option zRes} (h63 : ∀ (x0 x1 x2 : Int) (h : zH), (r63Z x0 x1 x2 h).bind e = r63A x0 x1 x2 h) (a1 a2 a3 : Int) (h : zH) : (M_races_63b krZ r63Z a1 a2 a3 h).bind e = M_races_63b krA r63A a1 a2 a3 h := by
  refine Eq.trans (congrArg (fun z => Option.bind z e) (qe_M_races_63b krZ r63Z a1 a2 a3 h)) (Eq.trans ?_ (Eq.symm (qe_M_races_63b krA r63A a1 a2 a3 h)))
  generalize (400 : Nat) = f9
  refine zseg_e e (zcal_e _ _ ?_) (zorc_e _ _ ?_) hk (fun _ _ => rfl) f9 _ _ _ _
  · exact trivial
  · exact ⟨rfl, rfl, rfl, zap4_e (fun x0 x1 x2 x3 h => n_M_races_89 e hk h63 x0 x1 x2 x3 h), trivial⟩
theorem n_M_races_63 {ρ : Type} (e : zRes → Option ρ) {krA : Int → zH → Option ρ} {krZ : Int → zH → Option zRes} (hk : ∀ v h, (krZ v h).bind e = krA v h) (a1 a2 a3 : Int) (h : zH) : (M_races_63 krZ a1 a2 a3 h).bind e = M_races_63 krA a1 a2 a3 h := zit3_e (fun rA rZ hh a1 a2 a3 h => n_M_races_63b e hk hh a1 a2 a3 h) zN a1 a2 a3 h
set_option maxRecDepth 100000 in
set_option maxHeartbeats 0 in
theorem n_M_races_24b {ρ : Type} (e : zRes → Option ρ) {krA : Int → zH → Option ρ} {krZ : Int → zH → Option zRes} (hk : ∀ v h, (krZ v h).bind e = krA v h) {r24A : Int → Int → Int → zH → Option ρ} {r24Z : Int → Int → Int → zH → Option zRes} (h24 : ∀ (x0 x1 x2 : Int) (h : zH), (r24Z x0 x1 x2 h).bind e = r24A x0 x1 x2 h) (a1 a2 a3 : Int) (h : zH) : (M_races_24b krZ r24Z a1 a2 a3 h).bind e = M_races_24b krA r24A a1 a2 a3 h := by
  refine Eq.trans (congrArg (fun z => Option.bind z e) (qe_M_races_24b krZ r24Z a1 a2 a3 h)) (Eq.trans ?_ (Eq.symm (qe_M_races_24b krA r24A a1 a2 a3 h)))
  generalize (400 : Nat) = f9
  refine zseg_e e (zcal_e _ _ ?_) (zorc_e _ _ ?_) hk (fun _ _ => rfl) f9 _ _ _ _
  · exact trivial
  · exact ⟨rfl, rfl, rfl, zap4_e (fun x0 x1 x2 x3 h => n_M_races_50 e hk h24 x0 x1 x2 x3 h), ⟨rfl, rfl, rfl, zap3_e (fun x0 x1 x2 h => n_M_races_63 e hk x0 x1 x2 h), trivial⟩⟩
theorem n_M_races_24 {ρ : Type} (e : zRes → Option ρ) {krA : Int → zH → Option ρ} {krZ : Int → zH → Option zRes} (hk : ∀ v h, (krZ v h).bind e = krA v h) (a1 a2 a3 : Int) (h : zH) : (M_races_24 krZ a1 a2 a3 h).bind e = M_races_24 krA a1 a2 a3 h := zit3_e (fun rA rZ hh a1 a2 a3 h => n_M_races_24b e hk hh a1 a2 a3 h) zN a1 a2 a3 h
set_option maxRecDepth 100000 in
set_option maxHeartbeats 0 in
theorem n_M_races {ρ : Type} (e : zRes → Option ρ) {krA : Int → zH → Option ρ} {krZ : Int → zH → Option zRes} (hk : ∀ v h, (krZ v h).bind e = krA v h) (a1 : Int) (h : zH) : (M_races a1 h krZ).bind e = M_races a1 h krA := by
  refine Eq.trans (congrArg (fun z => Option.bind z e) (qe_M_races krZ a1 h)) (Eq.trans ?_ (Eq.symm (qe_M_races krA a1 h)))
  generalize (400 : Nat) = f9
  refine zseg_e e (zcal_e _ _ ?_) (zorc_e _ _ ?_) hk (fun _ _ => rfl) f9 _ _ _ _
  · exact ⟨rfl, rfl, zca2_e (fun x0 x1 h k t => n_M_fails e (fun _ _ => rfl) x0 x1 h), ⟨rfl, rfl, zca1_e (fun x0 h k t => n_M_noLaunch e (fun _ _ => rfl) x0 h), trivial⟩⟩
  · exact ⟨rfl, rfl, rfl, zap3_e (fun x0 x1 x2 h => n_M_races_24 e hk x0 x1 x2 h), trivial⟩
set_option maxRecDepth 100000 in
set_option maxHeartbeats 0 in
theorem n_M_runThread_262 {ρ : Type} (e : zRes → Option ρ) {krA : Int → zH → Option ρ} {krZ : Int → zH → Option zRes} (hk : ∀ v h, (krZ v h).bind e = krA v h) (h : zH) : (M_runThread_262 krZ h).bind e = M_runThread_262 krA h := by
  refine Eq.trans (congrArg (fun z => Option.bind z e) (qe_M_runThread_262 krZ h)) (Eq.trans ?_ (Eq.symm (qe_M_runThread_262 krA h)))
  generalize (400 : Nat) = f9
  refine zseg_e e (zcal_e _ _ ?_) (zorc_e _ _ ?_) hk (fun _ _ => rfl) f9 _ _ _ _
  · exact trivial
  · exact trivial
set_option maxRecDepth 100000 in
set_option maxHeartbeats 0 in
theorem n_M_runThread_654 {ρ : Type} (e : zRes → Option ρ) {krA : Int → zH → Option ρ} {krZ : Int → zH → Option zRes} (hk : ∀ v h, (krZ v h).bind e = krA v h) {r0A : Int → Int → Int → zH → Option ρ} {r0Z : Int → Int → Int → zH → Option zRes} (h0 : ∀ (x0 x1 x2 : Int) (h : zH), (r0Z x0 x1 x2 h).bind e = r0A x0 x1 x2 h) (a1 a2 a3 a11 : Int) (h : zH) : (M_runThread_654 krZ r0Z a1 a2 a3 a11 h).bind e = M_runThread_654 krA r0A a1 a2 a3 a11 h := by
  refine Eq.trans (congrArg (fun z => Option.bind z e) (qe_M_runThread_654 krZ r0Z a1 a2 a3 a11 h)) (Eq.trans ?_ (Eq.symm (qe_M_runThread_654 krA r0A a1 a2 a3 a11 h)))
  generalize (400 : Nat) = f9
  refine zseg_e e (zcal_e _ _ ?_) (zorc_e _ _ ?_) hk (fun _ _ => rfl) f9 _ _ _ _
  · exact trivial
  · exact ⟨rfl, rfl, rfl, zap3_e h0, trivial⟩
set_option maxRecDepth 100000 in
set_option maxHeartbeats 0 in
theorem n_M_runThread_364 {ρ : Type} (e : zRes → Option ρ) {krA : Int → zH → Option ρ} {krZ : Int → zH → Option zRes} (hk : ∀ v h, (krZ v h).bind e = krA v h) {r0A : Int → Int → Int → zH → Option ρ} {r0Z : Int → Int → Int → zH → Option zRes} (h0 : ∀ (x0 x1 x2 : Int) (h : zH), (r0Z x0 x1 x2 h).bind e = r0A x0 x1 x2 h) (a1 a2 a3 a11 t0 t1 : Int) (h : zH) : (M_runThread_364 krZ r0Z a1 a2 a3 a11 t0 t1 h).bind e = M_runThread_364 krA r0A a1 a2 a3 a11 t0 t1 h := by
  refine Eq.trans (congrArg (fun z => Option.bind z e) (qe_M_runThread_364 krZ r0Z a1 a2 a3 a11 t0 t1 h)) (Eq.trans ?_ (Eq.symm (qe_M_runThread_364 krA r0A a1 a2 a3 a11 t0 t1 h)))
  generalize (400 : Nat) = f9
  refine zseg_e e (zcal_e _ _ ?_) (zorc_e _ _ ?_) hk (fun _ _ => rfl) f9 _ _ _ _
  · exact trivial
  · exact ⟨rfl, rfl, rfl, zap4_e (fun x0 x1 x2 x3 h => n_M_runThread_654 e hk h0 x0 x1 x2 x3 h), trivial⟩
set_option maxRecDepth 100000 in
set_option maxHeartbeats 0 in
theorem n_M_runThread_326 {ρ : Type} (e : zRes → Option ρ) {krA : Int → zH → Option ρ} {krZ : Int → zH → Option zRes} (hk : ∀ v h, (krZ v h).bind e = krA v h) {r0A : Int → Int → Int → zH → Option ρ} {r0Z : Int → Int → Int → zH → Option zRes} (h0 : ∀ (x0 x1 x2 : Int) (h : zH), (r0Z x0 x1 x2 h).bind e = r0A x0 x1 x2 h) (a1 a2 a3 a4 a5 a6 a10 a11 : Int) (h : zH) : (M_runThread_326 krZ r0Z a1 a2 a3 a4 a5 a6 a10 a11 h).bind e = M_runThread_326 krA r0A a1 a2 a3 a4 a5 a6 a10 a11 h := by
  refine Eq.trans (congrArg (fun z => Option.bind z e) (qe_M_runThread_326 krZ r0Z a1 a2 a3 a4 a5 a6 a10 a11 h)) (Eq.trans ?_ (Eq.symm (qe_M_runThread_326 krA r0A a1 a2 a3 a4 a5 a6 a10 a11 h)))
  generalize (400 : Nat) = f9
  refine zseg_e e (zcal_e _ _ ?_) (zorc_e _ _ ?_) hk (fun _ _ => rfl) f9 _ _ _ _
  · exact trivial
  · exact ⟨rfl, rfl, rfl, zap6_e (fun x0 x1 x2 x3 x4 x5 h => n_M_runThread_364 e hk h0 x0 x1 x2 x3 x4 x5 h), trivial⟩
set_option maxRecDepth 100000 in
set_option maxHeartbeats 0 in
theorem n_M_runThread_414 {ρ : Type} (e : zRes → Option ρ) {krA : Int → zH → Option ρ} {krZ : Int → zH → Option zRes} (hk : ∀ v h, (krZ v h).bind e = krA v h) {r0A : Int → Int → Int → zH → Option ρ} {r0Z : Int → Int → Int → zH → Option zRes} (h0 : ∀ (x0 x1 x2 : Int) (h : zH), (r0Z x0 x1 x2 h).bind e = r0A x0 x1 x2 h) (a1 a2 a3 a4 a6 a11 a12 t0 t1 : Int) (h : zH) : (M_runThread_414 krZ r0Z a1 a2 a3 a4 a6 a11 a12 t0 t1 h).bind e = M_runThread_414 krA r0A a1 a2 a3 a4 a6 a11 a12 t0 t1 h := by
  refine Eq.trans (congrArg (fun z => Option.bind z e) (qe_M_runThread_414 krZ r0Z a1 a2 a3 a4 a6 a11 a12 t0 t1 h)) (Eq.trans ?_ (Eq.symm (qe_M_runThread_414 krA r0A a1 a2 a3 a4 a6 a11 a12 t0 t1 h)))
  generalize (400 : Nat) = f9
  refine zseg_e e (zcal_e _ _ ?_) (zorc_e _ _ ?_) hk (fun _ _ => rfl) f9 _ _ _ _
  · exact trivial
  · exact ⟨rfl, rfl, rfl, zap4_e (fun x0 x1 x2 x3 h => n_M_runThread_654 e hk h0 x0 x1 x2 x3 h), trivial⟩
set_option maxRecDepth 100000 in
set_option maxHeartbeats 0 in
theorem n_M_runThread_382 {ρ : Type} (e : zRes → Option ρ) {krA : Int → zH → Option ρ} {krZ : Int → zH → Option zRes} (hk : ∀ v h, (krZ v h).bind e = krA v h) {r0A : Int → Int → Int → zH → Option ρ} {r0Z : Int → Int → Int → zH → Option zRes} (h0 : ∀ (x0 x1 x2 : Int) (h : zH), (r0Z x0 x1 x2 h).bind e = r0A x0 x1 x2 h) (a1 a2 a3 a4 a5 a6 a8 a10 a11 : Int) (h : zH) : (M_runThread_382 krZ r0Z a1 a2 a3 a4 a5 a6 a8 a10 a11 h).bind e = M_runThread_382 krA r0A a1 a2 a3 a4 a5 a6 a8 a10 a11 h := by
  refine Eq.trans (congrArg (fun z => Option.bind z e) (qe_M_runThread_382 krZ r0Z a1 a2 a3 a4 a5 a6 a8 a10 a11 h)) (Eq.trans ?_ (Eq.symm (qe_M_runThread_382 krA r0A a1 a2 a3 a4 a5 a6 a8 a10 a11 h)))
  generalize (400 : Nat) = f9
  refine zseg_e e (zcal_e _ _ ?_) (zorc_e _ _ ?_) hk (fun _ _ => rfl) f9 _ _ _ _
  · exact trivial
  · exact ⟨rfl, rfl, rfl, zap9_e (fun x0 x1 x2 x3 x4 x5 x6 x7 x8 h => n_M_runThread_414 e hk h0 x0 x1 x2 x3 x4 x5 x6 x7 x8 h), trivial⟩
set_option maxRecDepth 100000 in
set_option maxHeartbeats 0 in
theorem n_M_runThread_527 {ρ : Type} (e : zRes → Option ρ) {krA : Int → zH → Option ρ} {krZ : Int → zH → Option zRes} (hk : ∀ v h, (krZ v h).bind e = krA v h) {r0A : Int → Int → Int → zH → Option ρ} {r0Z : Int → Int → Int → zH → Option zRes} (h0 : ∀ (x0 x1 x2 : Int) (h : zH), (r0Z x0 x1 x2 h).bind e = r0A x0 x1 x2 h) (a1 a2 a3 a11 t0 t1 : Int) (h : zH) : (M_runThread_527 krZ r0Z a1 a2 a3 a11 t0 t1 h).bind e = M_runThread_527 krA r0A a1 a2 a3 a11 t0 t1 h := by
  refine Eq.trans (congrArg (fun z => Option.bind z e) (qe_M_runThread_527 krZ r0Z a1 a2 a3 a11 t0 t1 h)) (Eq.trans ?_ (Eq.symm (qe_M_runThread_527 krA r0A a1 a2 a3 a11 t0 t1 h)))
  generalize (400 : Nat) = f9
  refine zseg_e e (zcal_e _ _ ?_) (zorc_e _ _ ?_) hk (fun _ _ => rfl) f9 _ _ _ _
  · exact trivial
  · exact ⟨rfl, rfl, rfl, zap4_e (fun x0 x1 x2 x3 h => n_M_runThread_654 e hk h0 x0 x1 x2 x3 h), trivial⟩
set_option maxRecDepth 100000 in
set_option maxHeartbeats 0 in
theorem n_M_runThread_488 {ρ : Type} (e : zRes → Option ρ) {krA : Int → zH → Option ρ} {krZ : Int → zH → Option zRes} (hk : ∀ v h, (krZ v h).bind e = krA v h) {r0A : Int → Int → Int → zH → Option ρ} {r0Z : Int → Int → Int → zH → Option zRes} (h0 : ∀ (x0 x1 x2 : Int) (h : zH), (r0Z x0 x1 x2 h).bind e = r0A x0 x1 x2 h) (a1 a2 a3 a4 a5 a6 a11 : Int) (h : zH) : (M_runThread_488 krZ r0Z a1 a2 a3 a4 a5 a6 a11 h).bind e = M_runThread_488 krA r0A a1 a2 a3 a4 a5 a6 a11 h := by
  refine Eq.trans (congrArg (fun z => Option.bind z e) (qe_M_runThread_488 krZ r0Z a1 a2 a3 a4 a5 a6 a11 h)) (Eq.trans ?_ (Eq.symm (qe_M_runThread_488 krA r0A a1 a2 a3 a4 a5 a6 a11 h)))
  generalize (400 : Nat) = f9
  refine zseg_e e (zcal_e _ _ ?_) (zorc_e _ _ ?_) hk (fun _ _ => rfl) f9 _ _ _ _
  · exact trivial
  · exact ⟨rfl, rfl, rfl, zap6_e (fun x0 x1 x2 x3 x4 x5 h => n_M_runThread_527 e hk h0 x0 x1 x2 x3 x4 x5 h), trivial⟩
set_option maxRecDepth 100000 in
set_option maxHeartbeats 0 in
theorem n_M_runThread_555 {ρ : Type} (e : zRes → Option ρ) {krA : Int → zH → Option ρ} {krZ : Int → zH → Option zRes} (hk : ∀ v h, (krZ v h).bind e = krA v h) {r0A : Int → Int → Int → zH → Option ρ} {r0Z : Int → Int → Int → zH → Option zRes} (h0 : ∀ (x0 x1 x2 : Int) (h : zH), (r0Z x0 x1 x2 h).bind e = r0A x0 x1 x2 h) (a1 a2 a3 t0 : Int) (h : zH) : (M_runThread_555 krZ r0Z a1 a2 a3 t0 h).bind e = M_runThread_555 krA r0A a1 a2 a3 t0 h := by
  refine Eq.trans (congrArg (fun z => Option.bind z e) (qe_M_runThread_555 krZ r0Z a1 a2 a3 t0 h)) (Eq.trans ?_ (Eq.symm (qe_M_runThread_555 krA r0A a1 a2 a3 t0 h)))
  generalize (400 : Nat) = f9
  refine zseg_e e (zcal_e _ _ ?_) (zorc_e _ _ ?_) hk (fun _ _ => rfl) f9 _ _ _ _
  · exact trivial
  · exact ⟨rfl, rfl, rfl, zap4_e (fun x0 x1 x2 x3 h => n_M_runThread_654 e hk h0 x0 x1 x2 x3 h), trivial⟩
set_option maxRecDepth 100000 in
set_option maxHeartbeats 0 in
theorem n_M_runThread_264 {ρ : Type} (e : zRes → Option ρ) {krA : Int → zH → Option ρ} {krZ : Int → zH → Option zRes} (hk : ∀ v h, (krZ v h).bind e = krA v h) {r0A : Int → Int → Int → zH → Option ρ} {r0Z : Int → Int → Int → zH → Option zRes} (h0 : ∀ (x0 x1 x2 : Int) (h : zH), (r0Z x0 x1 x2 h).bind e = r0A x0 x1 x2 h) (a1 a2 a3 a4 a5 a6 a7 a8 a9 a10 : Int) (h : zH) : (M_runThread_264 krZ r0Z a1 a2 a3 a4 a5 a6 a7 a8 a9 a10 h).bind e = M_runThread_264 krA r0A a1 a2 a3 a4 a5 a6 a7 a8 a9 a10 h := by
  refine Eq.trans (congrArg (fun z => Option.bind z e) (qe_M_runThread_264 krZ r0Z a1 a2 a3 a4 a5 a6 a7 a8 a9 a10 h)) (Eq.trans ?_ (Eq.symm (qe_M_runThread_264 krA r0A a1 a2 a3 a4 a5 a6 a7 a8 a9 a10 h)))
  generalize (400 : Nat) = f9
  refine zseg_e e (zcal_e _ _ ?_) (zorc_e _ _ ?_) hk (fun _ _ => rfl) f9 _ _ _ _
  · exact ⟨rfl, rfl, zca3_e (fun x0 x1 x2 h k t => n_M_compute e (fun _ _ => rfl) x0 x1 x2 h), trivial⟩
  · exact ⟨rfl, rfl, rfl, zap8_e (fun x0 x1 x2 x3 x4 x5 x6 x7 h => n_M_runThread_326 e hk h0 x0 x1 x2 x3 x4 x5 x6 x7 h), ⟨rfl, rfl, rfl, zap9_e (fun x0 x1 x2 x3 x4 x5 x6 x7 x8 h => n_M_runThread_382 e hk h0 x0 x1 x2 x3 x4 x5 x6 x7 x8 h), ⟨rfl, rfl, rfl, zap7_e (fun x0 x1 x2 x3 x4 x5 x6 h => n_M_runThread_488 e hk h0 x0 x1 x2 x3 x4 x5 x6 h), ⟨rfl, rfl, rfl, zap4_e (fun x0 x1 x2 x3 h => n_M_runThread_555 e hk h0 x0 x1 x2 x3 h), ⟨rfl, rfl, rfl, zap4_e (fun x0 x1 x2 x3 h => n_M_runThread_654 e hk h0 x0 x1 x2 x3 h), trivial⟩⟩⟩⟩⟩
set_option maxRecDepth 100000 in
set_option maxHeartbeats 0 in
theorem n_M_runThread_237 {ρ : Type} (e : zRes → Option ρ) {krA : Int → zH → Option ρ} {krZ : Int → zH → Option zRes} (hk : ∀ v h, (krZ v h).bind e = krA v h) {r0A : Int → Int → Int → zH → Option ρ} {r0Z : Int → Int → Int → zH → Option zRes} (h0 : ∀ (x0 x1 x2 : Int) (h : zH), (r0Z x0 x1 x2 h).bind e = r0A x0 x1 x2 h) (a1 a2 a3 a4 a5 a6 a7 a8 a9 a10 : Int) (h : zH) : (M_runThread_237 krZ r0Z a1 a2 a3 a4 a5 a6 a7 a8 a9 a10 h).bind e = M_runThread_237 krA r0A a1 a2 a3 a4 a5 a6 a7 a8 a9 a10 h := by
  refine Eq.trans (congrArg (fun z => Option.bind z e) (qe_M_runThread_237 krZ r0Z a1 a2 a3 a4 a5 a6 a7 a8 a9 a10 h)) (Eq.trans ?_ (Eq.symm (qe_M_runThread_237 krA r0A a1 a2 a3 a4 a5 a6 a7 a8 a9 a10 h)))
  generalize (400 : Nat) = f9
  refine zseg_e e (zcal_e _ _ ?_) (zorc_e _ _ ?_) hk (fun _ _ => rfl) f9 _ _ _ _
  · exact ⟨rfl, rfl, zca3_e (fun x0 x1 x2 h k t => n_M_in e (fun _ _ => rfl) x0 x1 x2 h), ⟨rfl, rfl, zca1_e (fun x0 h k t => n_M_isShared e (fun _ _ => rfl) x0 h), trivial⟩⟩
  · exact ⟨rfl, rfl, rfl, zap0_e (fun  h => n_M_runThread_262 e hk  h), ⟨rfl, rfl, rfl, zap10_e (fun x0 x1 x2 x3 x4 x5 x6 x7 x8 x9 h => n_M_runThread_264 e hk h0 x0 x1 x2 x3 x4 x5 x6 x7 x8 x9 h), trivial⟩⟩
set_option maxRecDepth 100000 in
set_option maxHeartbeats 0 in
theorem n_M_runThread_207 {ρ : Type} (e : zRes → Option ρ) {krA : Int → zH → Option ρ} {krZ : Int → zH → Option zRes} (hk : ∀ v h, (krZ v h).bind e = krA v h) {r0A : Int → Int → Int → zH → Option ρ} {r0Z : Int → Int → Int → zH → Option zRes} (h0 : ∀ (x0 x1 x2 : Int) (h : zH), (r0Z x0 x1 x2 h).bind e = r0A x0 x1 x2 h) (a1 a2 a3 a4 a5 a6 a7 a8 a9 t0 : Int) (h : zH) : (M_runThread_207 krZ r0Z a1 a2 a3 a4 a5 a6 a7 a8 a9 t0 h).bind e = M_runThread_207 krA r0A a1 a2 a3 a4 a5 a6 a7 a8 a9 t0 h := by
  refine Eq.trans (congrArg (fun z => Option.bind z e) (qe_M_runThread_207 krZ r0Z a1 a2 a3 a4 a5 a6 a7 a8 a9 t0 h)) (Eq.trans ?_ (Eq.symm (qe_M_runThread_207 krA r0A a1 a2 a3 a4 a5 a6 a7 a8 a9 t0 h)))
  generalize (400 : Nat) = f9
  refine zseg_e e (zcal_e _ _ ?_) (zorc_e _ _ ?_) hk (fun _ _ => rfl) f9 _ _ _ _
  · exact ⟨rfl, rfl, zca1_e (fun x0 h k t => n_M_noCell e (fun _ _ => rfl) x0 h), ⟨rfl, rfl, zca1_e (fun x0 h k t => n_M_isGlobal e (fun _ _ => rfl) x0 h), trivial⟩⟩
  · exact ⟨rfl, rfl, rfl, zap10_e (fun x0 x1 x2 x3 x4 x5 x6 x7 x8 x9 h => n_M_runThread_237 e hk h0 x0 x1 x2 x3 x4 x5 x6 x7 x8 x9 h), ⟨rfl, rfl, rfl, zap0_e (fun  h => n_M_runThread_262 e hk  h), trivial⟩⟩
set_option maxRecDepth 100000 in
set_option maxHeartbeats 0 in
theorem n_M_runThread_200 {ρ : Type} (e : zRes → Option ρ) {krA : Int → zH → Option ρ} {krZ : Int → zH → Option zRes} (hk : ∀ v h, (krZ v h).bind e = krA v h) {r0A : Int → Int → Int → zH → Option ρ} {r0Z : Int → Int → Int → zH → Option zRes} (h0 : ∀ (x0 x1 x2 : Int) (h : zH), (r0Z x0 x1 x2 h).bind e = r0A x0 x1 x2 h) (a1 a2 a3 a4 a5 a6 a7 a8 a9 : Int) (h : zH) : (M_runThread_200 krZ r0Z a1 a2 a3 a4 a5 a6 a7 a8 a9 h).bind e = M_runThread_200 krA r0A a1 a2 a3 a4 a5 a6 a7 a8 a9 h := by
  refine Eq.trans (congrArg (fun z => Option.bind z e) (qe_M_runThread_200 krZ r0Z a1 a2 a3 a4 a5 a6 a7 a8 a9 h)) (Eq.trans ?_ (Eq.symm (qe_M_runThread_200 krA r0A a1 a2 a3 a4 a5 a6 a7 a8 a9 h)))
  generalize (400 : Nat) = f9
  refine zseg_e e (zcal_e _ _ ?_) (zorc_e _ _ ?_) hk (fun _ _ => rfl) f9 _ _ _ _
  · exact trivial
  · exact ⟨rfl, rfl, rfl, zap10_e (fun x0 x1 x2 x3 x4 x5 x6 x7 x8 x9 h => n_M_runThread_207 e hk h0 x0 x1 x2 x3 x4 x5 x6 x7 x8 x9 h), trivial⟩
set_option maxRecDepth 100000 in
set_option maxHeartbeats 0 in
theorem n_M_runThread_184 {ρ : Type} (e : zRes → Option ρ) {krA : Int → zH → Option ρ} {krZ : Int → zH → Option zRes} (hk : ∀ v h, (krZ v h).bind e = krA v h) {r0A : Int → Int → Int → zH → Option ρ} {r0Z : Int → Int → Int → zH → Option zRes} (h0 : ∀ (x0 x1 x2 : Int) (h : zH), (r0Z x0 x1 x2 h).bind e = r0A x0 x1 x2 h) (a1 a2 a3 a4 a5 a6 a7 a8 t0 : Int) (h : zH) : (M_runThread_184 krZ r0Z a1 a2 a3 a4 a5 a6 a7 a8 t0 h).bind e = M_runThread_184 krA r0A a1 a2 a3 a4 a5 a6 a7 a8 t0 h := by
  refine Eq.trans (congrArg (fun z => Option.bind z e) (qe_M_runThread_184 krZ r0Z a1 a2 a3 a4 a5 a6 a7 a8 t0 h)) (Eq.trans ?_ (Eq.symm (qe_M_runThread_184 krA r0A a1 a2 a3 a4 a5 a6 a7 a8 t0 h)))
  generalize (400 : Nat) = f9
  refine zseg_e e (zcal_e _ _ ?_) (zorc_e _ _ ?_) hk (fun _ _ => rfl) f9 _ _ _ _
  · exact trivial
  · exact ⟨rfl, rfl, rfl, zap9_e (fun x0 x1 x2 x3 x4 x5 x6 x7 x8 h => n_M_runThread_200 e hk h0 x0 x1 x2 x3 x4 x5 x6 x7 x8 h), ⟨rfl, rfl, rfl, zap10_e (fun x0 x1 x2 x3 x4 x5 x6 x7 x8 x9 h => n_M_runThread_207 e hk h0 x0 x1 x2 x3 x4 x5 x6 x7 x8 x9 h), trivial⟩⟩
set_option maxRecDepth 100000 in
set_option maxHeartbeats 0 in
theorem n_M_runThread_147 {ρ : Type} (e : zRes → Option ρ) {krA : Int → zH → Option ρ} {krZ : Int → zH → Option zRes} (hk : ∀ v h, (krZ v h).bind e = krA v h) {r0A : Int → Int → Int → zH → Option ρ} {r0Z : Int → Int → Int → zH → Option zRes} (h0 : ∀ (x0 x1 x2 : Int) (h : zH), (r0Z x0 x1 x2 h).bind e = r0A x0 x1 x2 h) (a1 a2 a3 a4 a5 a6 a7 t0 : Int) (h : zH) : (M_runThread_147 krZ r0Z a1 a2 a3 a4 a5 a6 a7 t0 h).bind e = M_runThread_147 krA r0A a1 a2 a3 a4 a5 a6 a7 t0 h := by
  refine Eq.trans (congrArg (fun z => Option.bind z e) (qe_M_runThread_147 krZ r0Z a1 a2 a3 a4 a5 a6 a7 t0 h)) (Eq.trans ?_ (Eq.symm (qe_M_runThread_147 krA r0A a1 a2 a3 a4 a5 a6 a7 t0 h)))
  generalize (400 : Nat) = f9
  refine zseg_e e (zcal_e _ _ ?_) (zorc_e _ _ ?_) hk (fun _ _ => rfl) f9 _ _ _ _
  · exact ⟨rfl, rfl, zca3_e (fun x0 x1 x2 h k t => n_M_in e (fun _ _ => rfl) x0 x1 x2 h), trivial⟩
  · exact ⟨rfl, rfl, rfl, zap9_e (fun x0 x1 x2 x3 x4 x5 x6 x7 x8 h => n_M_runThread_184 e hk h0 x0 x1 x2 x3 x4 x5 x6 x7 x8 h), trivial⟩
set_option maxRecDepth 100000 in
set_option maxHeartbeats 0 in
theorem n_M_runThread_110 {ρ : Type} (e : zRes → Option ρ) {krA : Int → zH → Option ρ} {krZ : Int → zH → Option zRes} (hk : ∀ v h, (krZ v h).bind e = krA v h) {r0A : Int → Int → Int → zH → Option ρ} {r0Z : Int → Int → Int → zH → Option zRes} (h0 : ∀ (x0 x1 x2 : Int) (h : zH), (r0Z x0 x1 x2 h).bind e = r0A x0 x1 x2 h) (a1 a2 a3 a4 a5 a6 t0 : Int) (h : zH) : (M_runThread_110 krZ r0Z a1 a2 a3 a4 a5 a6 t0 h).bind e = M_runThread_110 krA r0A a1 a2 a3 a4 a5 a6 t0 h := by
  refine Eq.trans (congrArg (fun z => Option.bind z e) (qe_M_runThread_110 krZ r0Z a1 a2 a3 a4 a5 a6 t0 h)) (Eq.trans ?_ (Eq.symm (qe_M_runThread_110 krA r0A a1 a2 a3 a4 a5 a6 t0 h)))
  generalize (400 : Nat) = f9
  refine zseg_e e (zcal_e _ _ ?_) (zorc_e _ _ ?_) hk (fun _ _ => rfl) f9 _ _ _ _
  · exact ⟨rfl, rfl, zca3_e (fun x0 x1 x2 h k t => n_M_in e (fun _ _ => rfl) x0 x1 x2 h), trivial⟩
  · exact ⟨rfl, rfl, rfl, zap8_e (fun x0 x1 x2 x3 x4 x5 x6 x7 h => n_M_runThread_147 e hk h0 x0 x1 x2 x3 x4 x5 x6 x7 h), trivial⟩
set_option maxRecDepth 100000 in
set_option maxHeartbeats 0 in
theorem n_M_runThread_0b {ρ : Type} (e : zRes → Option ρ) {krA : Int → zH → Option ρ} {krZ : Int → zH → Option zRes} (hk : ∀ v h, (krZ v h).bind e = krA v h) {r0A : Int → Int → Int → zH → Option ρ} {r0Z : Int → Int → Int → zH → Option zRes} (h0 : ∀ (x0 x1 x2 : Int) (h : zH), (r0Z x0 x1 x2 h).bind e = r0A x0 x1 x2 h) (a1 a2 a3 : Int) (h : zH) : (M_runThread_0b krZ r0Z a1 a2 a3 h).bind e = M_runThread_0b krA r0A a1 a2 a3 h := by
  refine Eq.trans (congrArg (fun z => Option.bind z e) (qe_M_runThread_0b krZ r0Z a1 a2 a3 h)) (Eq.trans ?_ (Eq.symm (qe_M_runThread_0b krA r0A a1 a2 a3 h)))
  generalize (400 : Nat) = f9
  refine zseg_e e (zcal_e _ _ ?_) (zorc_e _ _ ?_) hk (fun _ _ => rfl) f9 _ _ _ _
  · exact ⟨rfl, rfl, zca3_e (fun x0 x1 x2 h k t => n_M_in e (fun _ _ => rfl) x0 x1 x2 h), trivial⟩
  · exact ⟨rfl, rfl, rfl, zap3_e h0, ⟨rfl, rfl, rfl, zap7_e (fun x0 x1 x2 x3 x4 x5 x6 h => n_M_runThread_110 e hk h0 x0 x1 x2 x3 x4 x5 x6 h), trivial⟩⟩
theorem n_M_runThread_0 {ρ : Type} (e : zRes → Option ρ) {krA : Int → zH → Option ρ} {krZ : Int → zH → Option zRes} (hk : ∀ v h, (krZ v h).bind e = krA v h) (a1 a2 a3 : Int) (h : zH) : (M_runThread_0 krZ a1 a2 a3 h).bind e = M_runThread_0 krA a1 a2 a3 h := zit3_e (fun rA rZ hh a1 a2 a3 h => n_M_runThread_0b e hk hh a1 a2 a3 h) zN a1 a2 a3 h
set_option maxRecDepth 100000 in
set_option maxHeartbeats 0 in
theorem n_M_runThread {ρ : Type} (e : zRes → Option ρ) {krA : Int → zH → Option ρ} {krZ : Int → zH → Option zRes} (hk : ∀ v h, (krZ v h).bind e = krA v h) (a1 a2 a3 : Int) (h : zH) : (M_runThread a1 a2 a3 h krZ).bind e = M_runThread a1 a2 a3 h krA := n_M_runThread_0 e hk a1 a2 a3 h
