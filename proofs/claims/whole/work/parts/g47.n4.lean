set_option maxRecDepth 100000 in
set_option maxHeartbeats 0 in
theorem n_X_shared {ρ : Type} (e : zRes → Option ρ) {krA : Int → zH → Option ρ} {krZ : Int → zH → Option zRes} (hk : ∀ v h, (krZ v h).bind e = krA v h) {ktA : Nat → zH → Option ρ} {ktZ : Nat → zH → Option zRes} (ht : ∀ n h, (ktZ n h).bind e = ktA n h) (a0 a1 a2 a3 : Int) (h : zH) : (X_shared a0 a1 a2 a3 h ktZ krZ).bind e = X_shared a0 a1 a2 a3 h ktA krA := by
  refine Eq.trans (congrArg (fun z => Option.bind z e) (qe_X_shared krZ ktZ a0 a1 a2 a3 h)) (Eq.trans ?_ (Eq.symm (qe_X_shared krA ktA a0 a1 a2 a3 h)))
  generalize (400 : Nat) = f9
  refine zseg_e e (zcal_e _ _ ?_) (zorc_e _ _ ?_) hk ht f9 _ _ _ _
  · exact ⟨rfl, rfl, zcx3_e (fun x0 x1 x2 h k t => n_X_groupAt e (fun _ _ => rfl) (fun _ _ => rfl) x0 x1 x2 h), ⟨rfl, rfl, zca2_e (fun x0 x1 h k t => n_Bl_hasShared e (fun _ _ => rfl) x0 x1 h), trivial⟩⟩
  · exact trivial
set_option maxRecDepth 100000 in
set_option maxHeartbeats 0 in
theorem n_X_buffered {ρ : Type} (e : zRes → Option ρ) {krA : Int → zH → Option ρ} {krZ : Int → zH → Option zRes} (hk : ∀ v h, (krZ v h).bind e = krA v h) {ktA : Nat → zH → Option ρ} {ktZ : Nat → zH → Option zRes} (ht : ∀ n h, (ktZ n h).bind e = ktA n h) (a0 a1 a2 : Int) (h : zH) : (X_buffered a0 a1 a2 h ktZ krZ).bind e = X_buffered a0 a1 a2 h ktA krA := by
  refine Eq.trans (congrArg (fun z => Option.bind z e) (qe_X_buffered krZ ktZ a0 a1 a2 h)) (Eq.trans ?_ (Eq.symm (qe_X_buffered krA ktA a0 a1 a2 h)))
  generalize (400 : Nat) = f9
  refine zseg_e e (zcal_e _ _ ?_) (zorc_e _ _ ?_) hk ht f9 _ _ _ _
  · exact ⟨rfl, rfl, zcx3_e (fun x0 x1 x2 h k t => n_X_groupAt e (fun _ _ => rfl) (fun _ _ => rfl) x0 x1 x2 h), trivial⟩
  · exact trivial
set_option maxRecDepth 100000 in
set_option maxHeartbeats 0 in
theorem n_X_failedAt {ρ : Type} (e : zRes → Option ρ) {krA : Int → zH → Option ρ} {krZ : Int → zH → Option zRes} (hk : ∀ v h, (krZ v h).bind e = krA v h) {ktA : Nat → zH → Option ρ} {ktZ : Nat → zH → Option zRes} (ht : ∀ n h, (ktZ n h).bind e = ktA n h) (a0 a1 : Int) (h : zH) : (X_failedAt a0 a1 h ktZ krZ).bind e = X_failedAt a0 a1 h ktA krA := by
  refine Eq.trans (congrArg (fun z => Option.bind z e) (qe_X_failedAt krZ ktZ a0 a1 h)) (Eq.trans ?_ (Eq.symm (qe_X_failedAt krA ktA a0 a1 h)))
  generalize (400 : Nat) = f9
  refine zseg_e e (zcal_e _ _ ?_) (zorc_e _ _ ?_) hk ht f9 _ _ _ _
  · exact ⟨rfl, rfl, zcx2_e (fun x0 x1 h k t => n_X_launchAt e (fun _ _ => rfl) (fun _ _ => rfl) x0 x1 h), trivial⟩
  · exact trivial
set_option maxRecDepth 100000 in
set_option maxHeartbeats 0 in
theorem n_X_fault {ρ : Type} (e : zRes → Option ρ) {krA : Int → zH → Option ρ} {krZ : Int → zH → Option zRes} (hk : ∀ v h, (krZ v h).bind e = krA v h) {ktA : Nat → zH → Option ρ} {ktZ : Nat → zH → Option zRes} (ht : ∀ n h, (ktZ n h).bind e = ktA n h) (a0 a1 : Int) (h : zH) : (X_fault a0 a1 h ktZ krZ).bind e = X_fault a0 a1 h ktA krA := by
  refine Eq.trans (congrArg (fun z => Option.bind z e) (qe_X_fault krZ ktZ a0 a1 h)) (Eq.trans ?_ (Eq.symm (qe_X_fault krA ktA a0 a1 h)))
  generalize (400 : Nat) = f9
  refine zseg_e e (zcal_e _ _ ?_) (zorc_e _ _ ?_) hk ht f9 _ _ _ _
  · exact ⟨rfl, rfl, zcx2_e (fun x0 x1 h k t => n_X_failedAt e (fun _ _ => rfl) (fun _ _ => rfl) x0 x1 h), trivial⟩
  · exact trivial
set_option maxRecDepth 100000 in
set_option maxHeartbeats 0 in
theorem n_X_faultAt {ρ : Type} (e : zRes → Option ρ) {krA : Int → zH → Option ρ} {krZ : Int → zH → Option zRes} (hk : ∀ v h, (krZ v h).bind e = krA v h) {ktA : Nat → zH → Option ρ} {ktZ : Nat → zH → Option zRes} (ht : ∀ n h, (ktZ n h).bind e = ktA n h) (a0 a1 : Int) (h : zH) : (X_faultAt a0 a1 h ktZ krZ).bind e = X_faultAt a0 a1 h ktA krA := by
  refine Eq.trans (congrArg (fun z => Option.bind z e) (qe_X_faultAt krZ ktZ a0 a1 h)) (Eq.trans ?_ (Eq.symm (qe_X_faultAt krA ktA a0 a1 h)))
  generalize (400 : Nat) = f9
  refine zseg_e e (zcal_e _ _ ?_) (zorc_e _ _ ?_) hk ht f9 _ _ _ _
  · exact ⟨rfl, rfl, zcx2_e (fun x0 x1 h k t => n_X_failedAt e (fun _ _ => rfl) (fun _ _ => rfl) x0 x1 h), trivial⟩
  · exact trivial
set_option maxRecDepth 100000 in
set_option maxHeartbeats 0 in
theorem n_X_isRacing {ρ : Type} (e : zRes → Option ρ) {krA : Int → zH → Option ρ} {krZ : Int → zH → Option zRes} (hk : ∀ v h, (krZ v h).bind e = krA v h) {ktA : Nat → zH → Option ρ} {ktZ : Nat → zH → Option zRes} (ht : ∀ n h, (ktZ n h).bind e = ktA n h) (a0 a1 a2 : Int) (h : zH) : (X_isRacing a0 a1 a2 h ktZ krZ).bind e = X_isRacing a0 a1 a2 h ktA krA := by
  refine Eq.trans (congrArg (fun z => Option.bind z e) (qe_X_isRacing krZ ktZ a0 a1 a2 h)) (Eq.trans ?_ (Eq.symm (qe_X_isRacing krA ktA a0 a1 a2 h)))
  generalize (400 : Nat) = f9
  refine zseg_e e (zcal_e _ _ ?_) (zorc_e _ _ ?_) hk ht f9 _ _ _ _
  · exact ⟨rfl, rfl, zcx2_e (fun x0 x1 h k t => n_X_launchAt e (fun _ _ => rfl) (fun _ _ => rfl) x0 x1 h), ⟨rfl, rfl, zca1_e (fun x0 h k t => n_X_isCell e (fun _ _ => rfl) x0 h), trivial⟩⟩
  · exact trivial
set_option maxRecDepth 100000 in
set_option maxHeartbeats 0 in
theorem n_X_races {ρ : Type} (e : zRes → Option ρ) {krA : Int → zH → Option ρ} {krZ : Int → zH → Option zRes} (hk : ∀ v h, (krZ v h).bind e = krA v h) {ktA : Nat → zH → Option ρ} {ktZ : Nat → zH → Option zRes} (ht : ∀ n h, (ktZ n h).bind e = ktA n h) (a0 a1 : Int) (h : zH) : (X_races a0 a1 h ktZ krZ).bind e = X_races a0 a1 h ktA krA := by
  refine Eq.trans (congrArg (fun z => Option.bind z e) (qe_X_races krZ ktZ a0 a1 h)) (Eq.trans ?_ (Eq.symm (qe_X_races krA ktA a0 a1 h)))
  generalize (400 : Nat) = f9
  refine zseg_e e (zcal_e _ _ ?_) (zorc_e _ _ ?_) hk ht f9 _ _ _ _
  · exact ⟨rfl, rfl, zcx2_e (fun x0 x1 h k t => n_X_launchAt e (fun _ _ => rfl) (fun _ _ => rfl) x0 x1 h), trivial⟩
  · exact trivial
set_option maxRecDepth 100000 in
set_option maxHeartbeats 0 in
theorem n_Ke_hasLetterOf_2b {ρ : Type} (e : zRes → Option ρ) {krA : Int → zH → Option ρ} {krZ : Int → zH → Option zRes} (hk : ∀ v h, (krZ v h).bind e = krA v h) {r2A : Int → Int → Int → zH → Option ρ} {r2Z : Int → Int → Int → zH → Option zRes} (h2 : ∀ (x0 x1 x2 : Int) (h : zH), (r2Z x0 x1 x2 h).bind e = r2A x0 x1 x2 h) (a0 a1 a2 : Int) (h : zH) : (Ke_hasLetterOf_2b krZ r2Z a0 a1 a2 h).bind e = Ke_hasLetterOf_2b krA r2A a0 a1 a2 h := by
  refine Eq.trans (congrArg (fun z => Option.bind z e) (qe_Ke_hasLetterOf_2b krZ r2Z a0 a1 a2 h)) (Eq.trans ?_ (Eq.symm (qe_Ke_hasLetterOf_2b krA r2A a0 a1 a2 h)))
  generalize (400 : Nat) = f9
  refine zseg_e e (zcal_e _ _ ?_) (zorc_e _ _ ?_) hk (fun _ _ => rfl) f9 _ _ _ _
  · exact ⟨rfl, rfl, zca2_e (fun x0 x1 h k t => n_In_isOneOf e (fun _ _ => rfl) x0 x1 h), trivial⟩
  · exact ⟨rfl, rfl, rfl, zap3_e h2, trivial⟩
theorem n_Ke_hasLetterOf_2 {ρ : Type} (e : zRes → Option ρ) {krA : Int → zH → Option ρ} {krZ : Int → zH → Option zRes} (hk : ∀ v h, (krZ v h).bind e = krA v h) (a0 a1 a2 : Int) (h : zH) : (Ke_hasLetterOf_2 krZ a0 a1 a2 h).bind e = Ke_hasLetterOf_2 krA a0 a1 a2 h := zit3_e (fun rA rZ hh a0 a1 a2 h => n_Ke_hasLetterOf_2b e hk hh a0 a1 a2 h) zN a0 a1 a2 h
set_option maxRecDepth 100000 in
set_option maxHeartbeats 0 in
theorem n_Ke_hasLetterOf {ρ : Type} (e : zRes → Option ρ) {krA : Int → zH → Option ρ} {krZ : Int → zH → Option zRes} (hk : ∀ v h, (krZ v h).bind e = krA v h) (a0 a1 : Int) (h : zH) : (Ke_hasLetterOf a0 a1 h krZ).bind e = Ke_hasLetterOf a0 a1 h krA := by
  refine Eq.trans (congrArg (fun z => Option.bind z e) (qe_Ke_hasLetterOf krZ a0 a1 h)) (Eq.trans ?_ (Eq.symm (qe_Ke_hasLetterOf krA a0 a1 h)))
  generalize (400 : Nat) = f9
  refine zseg_e e (zcal_e _ _ ?_) (zorc_e _ _ ?_) hk (fun _ _ => rfl) f9 _ _ _ _
  · exact trivial
  · exact ⟨rfl, rfl, rfl, zap3_e (fun x0 x1 x2 h => n_Ke_hasLetterOf_2 e hk x0 x1 x2 h), trivial⟩
set_option maxRecDepth 100000 in
set_option maxHeartbeats 0 in
theorem n_Re_begin_56 {ρ : Type} (e : zRes → Option ρ) {krA : Int → zH → Option ρ} {krZ : Int → zH → Option zRes} (hk : ∀ v h, (krZ v h).bind e = krA v h) (h : zH) : (Re_begin_56 krZ h).bind e = Re_begin_56 krA h := by
  refine Eq.trans (congrArg (fun z => Option.bind z e) (qe_Re_begin_56 krZ h)) (Eq.trans ?_ (Eq.symm (qe_Re_begin_56 krA h)))
  generalize (400 : Nat) = f9
  refine zseg_e e (zcal_e _ _ ?_) (zorc_e _ _ ?_) hk (fun _ _ => rfl) f9 _ _ _ _
  · exact trivial
  · exact trivial
set_option maxRecDepth 100000 in
set_option maxHeartbeats 0 in
theorem n_Re_begin_23b {ρ : Type} (e : zRes → Option ρ) {krA : Int → zH → Option ρ} {krZ : Int → zH → Option zRes} (hk : ∀ v h, (krZ v h).bind e = krA v h) {r23A : Int → Int → Int → zH → Option ρ} {r23Z : Int → Int → Int → zH → Option zRes} (h23 : ∀ (x0 x1 x2 : Int) (h : zH), (r23Z x0 x1 x2 h).bind e = r23A x0 x1 x2 h) (a0 a4 a5 : Int) (h : zH) : (Re_begin_23b krZ r23Z a0 a4 a5 h).bind e = Re_begin_23b krA r23A a0 a4 a5 h := by
  refine Eq.trans (congrArg (fun z => Option.bind z e) (qe_Re_begin_23b krZ r23Z a0 a4 a5 h)) (Eq.trans ?_ (Eq.symm (qe_Re_begin_23b krA r23A a0 a4 a5 h)))
  generalize (400 : Nat) = f9
  refine zseg_e e (zcal_e _ _ ?_) (zorc_e _ _ ?_) hk (fun _ _ => rfl) f9 _ _ _ _
  · exact trivial
  · exact ⟨rfl, rfl, rfl, zap3_e h23, ⟨rfl, rfl, rfl, zap0_e (fun  h => n_Re_begin_56 e hk  h), trivial⟩⟩
theorem n_Re_begin_23 {ρ : Type} (e : zRes → Option ρ) {krA : Int → zH → Option ρ} {krZ : Int → zH → Option zRes} (hk : ∀ v h, (krZ v h).bind e = krA v h) (a0 a4 a5 : Int) (h : zH) : (Re_begin_23 krZ a0 a4 a5 h).bind e = Re_begin_23 krA a0 a4 a5 h := zit3_e (fun rA rZ hh a0 a4 a5 h => n_Re_begin_23b e hk hh a0 a4 a5 h) zN a0 a4 a5 h
set_option maxRecDepth 100000 in
set_option maxHeartbeats 0 in
theorem n_Re_begin {ρ : Type} (e : zRes → Option ρ) {krA : Int → zH → Option ρ} {krZ : Int → zH → Option zRes} (hk : ∀ v h, (krZ v h).bind e = krA v h) (a0 a1 a2 a3 a4 : Int) (h : zH) : (Re_begin a0 a1 a2 a3 a4 h krZ).bind e = Re_begin a0 a1 a2 a3 a4 h krA := by
  refine Eq.trans (congrArg (fun z => Option.bind z e) (qe_Re_begin krZ a0 a1 a2 a3 a4 h)) (Eq.trans ?_ (Eq.symm (qe_Re_begin krA a0 a1 a2 a3 a4 h)))
  generalize (400 : Nat) = f9
  refine zseg_e e (zcal_e _ _ ?_) (zorc_e _ _ ?_) hk (fun _ _ => rfl) f9 _ _ _ _
  · exact ⟨rfl, rfl, zca2_e (fun x0 x1 h k t => n_Ma_min e (fun _ _ => rfl) x0 x1 h), trivial⟩
  · exact ⟨rfl, rfl, rfl, zap3_e (fun x0 x1 x2 h => n_Re_begin_23 e hk x0 x1 x2 h), trivial⟩
set_option maxRecDepth 100000 in
set_option maxHeartbeats 0 in
theorem n_Th_lowestOfWaiting_30_32 {ρ : Type} (e : zRes → Option ρ) {krA : Int → zH → Option ρ} {krZ : Int → zH → Option zRes} (hk : ∀ v h, (krZ v h).bind e = krA v h) (h : zH) : (Th_lowestOfWaiting_30_32 krZ h).bind e = Th_lowestOfWaiting_30_32 krA h := by
  refine Eq.trans (congrArg (fun z => Option.bind z e) (qe_Th_lowestOfWaiting_30_32 krZ h)) (Eq.trans ?_ (Eq.symm (qe_Th_lowestOfWaiting_30_32 krA h)))
  generalize (400 : Nat) = f9
  refine zseg_e e (zcal_e _ _ ?_) (zorc_e _ _ ?_) hk (fun _ _ => rfl) f9 _ _ _ _
  · exact trivial
  · exact trivial
set_option maxRecDepth 100000 in
set_option maxHeartbeats 0 in
theorem n_Th_lowestOfWaiting_30_2b {ρ : Type} (e : zRes → Option ρ) {krA : Int → zH → Option ρ} {krZ : Int → zH → Option zRes} (hk : ∀ v h, (krZ v h).bind e = krA v h) {r2A : Int → Int → Int → zH → Option ρ} {r2Z : Int → Int → Int → zH → Option zRes} (h2 : ∀ (x0 x1 x2 : Int) (h : zH), (r2Z x0 x1 x2 h).bind e = r2A x0 x1 x2 h) (a0 a1 a2 : Int) (h : zH) : (Th_lowestOfWaiting_30_2b krZ r2Z a0 a1 a2 h).bind e = Th_lowestOfWaiting_30_2b krA r2A a0 a1 a2 h := by
  refine Eq.trans (congrArg (fun z => Option.bind z e) (qe_Th_lowestOfWaiting_30_2b krZ r2Z a0 a1 a2 h)) (Eq.trans ?_ (Eq.symm (qe_Th_lowestOfWaiting_30_2b krA r2A a0 a1 a2 h)))
  generalize (400 : Nat) = f9
  refine zseg_e e (zcal_e _ _ ?_) (zorc_e _ _ ?_) hk (fun _ _ => rfl) f9 _ _ _ _
  · exact ⟨rfl, rfl, zca1_e (fun x0 h k t => n_Th_isWaiting e (fun _ _ => rfl) x0 h), trivial⟩
  · exact ⟨rfl, rfl, rfl, zap3_e h2, ⟨rfl, rfl, rfl, zap0_e (fun  h => n_Th_lowestOfWaiting_30_32 e hk  h), trivial⟩⟩
theorem n_Th_lowestOfWaiting_30_2 {ρ : Type} (e : zRes → Option ρ) {krA : Int → zH → Option ρ} {krZ : Int → zH → Option zRes} (hk : ∀ v h, (krZ v h).bind e = krA v h) (a0 a1 a2 : Int) (h : zH) : (Th_lowestOfWaiting_30_2 krZ a0 a1 a2 h).bind e = Th_lowestOfWaiting_30_2 krA a0 a1 a2 h := zit3_e (fun rA rZ hh a0 a1 a2 h => n_Th_lowestOfWaiting_30_2b e hk hh a0 a1 a2 h) zN a0 a1 a2 h
set_option maxRecDepth 100000 in
set_option maxHeartbeats 0 in
theorem n_Th_lowestOfWaiting_30 {ρ : Type} (e : zRes → Option ρ) {krA : Int → zH → Option ρ} {krZ : Int → zH → Option zRes} (hk : ∀ v h, (krZ v h).bind e = krA v h) (a0 a1 : Int) (h : zH) : (Th_lowestOfWaiting_30 a0 a1 h krZ).bind e = Th_lowestOfWaiting_30 a0 a1 h krA := by
  refine Eq.trans (congrArg (fun z => Option.bind z e) (qe_Th_lowestOfWaiting_30 krZ a0 a1 h)) (Eq.trans ?_ (Eq.symm (qe_Th_lowestOfWaiting_30 krA a0 a1 h)))
  generalize (400 : Nat) = f9
  refine zseg_e e (zcal_e _ _ ?_) (zorc_e _ _ ?_) hk (fun _ _ => rfl) f9 _ _ _ _
  · exact trivial
  · exact ⟨rfl, rfl, rfl, zap3_e (fun x0 x1 x2 h => n_Th_lowestOfWaiting_30_2 e hk x0 x1 x2 h), trivial⟩
set_option maxRecDepth 100000 in
set_option maxHeartbeats 0 in
theorem n_Th_release_30_39 {ρ : Type} (e : zRes → Option ρ) {krA : Int → zH → Option ρ} {krZ : Int → zH → Option zRes} (hk : ∀ v h, (krZ v h).bind e = krA v h) {r3A : Int → Int → Int → Int → Int → zH → Option ρ} {r3Z : Int → Int → Int → Int → Int → zH → Option zRes} (h3 : ∀ (x0 x1 x2 x3 x4 : Int) (h : zH), (r3Z x0 x1 x2 x3 x4 h).bind e = r3A x0 x1 x2 x3 x4 h) (a0 a1 a2 a3 a4 : Int) (h : zH) : (Th_release_30_39 krZ r3Z a0 a1 a2 a3 a4 h).bind e = Th_release_30_39 krA r3A a0 a1 a2 a3 a4 h := by
  refine Eq.trans (congrArg (fun z => Option.bind z e) (qe_Th_release_30_39 krZ r3Z a0 a1 a2 a3 a4 h)) (Eq.trans ?_ (Eq.symm (qe_Th_release_30_39 krA r3A a0 a1 a2 a3 a4 h)))
  generalize (400 : Nat) = f9
  refine zseg_e e (zcal_e _ _ ?_) (zorc_e _ _ ?_) hk (fun _ _ => rfl) f9 _ _ _ _
  · exact trivial
  · exact ⟨rfl, rfl, rfl, zap5_e h3, trivial⟩
set_option maxRecDepth 100000 in
set_option maxHeartbeats 0 in
theorem n_Th_release_30_91 {ρ : Type} (e : zRes → Option ρ) {krA : Int → zH → Option ρ} {krZ : Int → zH → Option zRes} (hk : ∀ v h, (krZ v h).bind e = krA v h) {r48A : Int → Int → Int → Int → Int → zH → Option ρ} {r48Z : Int → Int → Int → Int → Int → zH → Option zRes} (h48 : ∀ (x0 x1 x2 x3 x4 : Int) (h : zH), (r48Z x0 x1 x2 x3 x4 h).bind e = r48A x0 x1 x2 x3 x4 h) (a0 a1 a2 a3 a4 : Int) (h : zH) : (Th_release_30_91 krZ r48Z a0 a1 a2 a3 a4 h).bind e = Th_release_30_91 krA r48A a0 a1 a2 a3 a4 h := by
  refine Eq.trans (congrArg (fun z => Option.bind z e) (qe_Th_release_30_91 krZ r48Z a0 a1 a2 a3 a4 h)) (Eq.trans ?_ (Eq.symm (qe_Th_release_30_91 krA r48A a0 a1 a2 a3 a4 h)))
  generalize (400 : Nat) = f9
  refine zseg_e e (zcal_e _ _ ?_) (zorc_e _ _ ?_) hk (fun _ _ => rfl) f9 _ _ _ _
  · exact trivial
  · exact ⟨rfl, rfl, rfl, zap5_e h48, trivial⟩
set_option maxRecDepth 100000 in
set_option maxHeartbeats 0 in
theorem n_Th_release_30_97 {ρ : Type} (e : zRes → Option ρ) {krA : Int → zH → Option ρ} {krZ : Int → zH → Option zRes} (hk : ∀ v h, (krZ v h).bind e = krA v h) (h : zH) : (Th_release_30_97 krZ h).bind e = Th_release_30_97 krA h := by
  refine Eq.trans (congrArg (fun z => Option.bind z e) (qe_Th_release_30_97 krZ h)) (Eq.trans ?_ (Eq.symm (qe_Th_release_30_97 krA h)))
  generalize (400 : Nat) = f9
  refine zseg_e e (zcal_e _ _ ?_) (zorc_e _ _ ?_) hk (fun _ _ => rfl) f9 _ _ _ _
  · exact trivial
  · exact trivial
set_option maxRecDepth 100000 in
set_option maxHeartbeats 0 in
theorem n_Th_release_30_48b {ρ : Type} (e : zRes → Option ρ) {krA : Int → zH → Option ρ} {krZ : Int → zH → Option zRes} (hk : ∀ v h, (krZ v h).bind e = krA v h) {r48A : Int → Int → Int → Int → Int → zH → Option ρ} {r48Z : Int → Int → Int → Int → Int → zH → Option zRes} (h48 : ∀ (x0 x1 x2 x3 x4 : Int) (h : zH), (r48Z x0 x1 x2 x3 x4 h).bind e = r48A x0 x1 x2 x3 x4 h) (a0 a1 a2 a3 a4 : Int) (h : zH) : (Th_release_30_48b krZ r48Z a0 a1 a2 a3 a4 h).bind e = Th_release_30_48b krA r48A a0 a1 a2 a3 a4 h := by
  refine Eq.trans (congrArg (fun z => Option.bind z e) (qe_Th_release_30_48b krZ r48Z a0 a1 a2 a3 a4 h)) (Eq.trans ?_ (Eq.symm (qe_Th_release_30_48b krA r48A a0 a1 a2 a3 a4 h)))
  generalize (400 : Nat) = f9
  refine zseg_e e (zcal_e _ _ ?_) (zorc_e _ _ ?_) hk (fun _ _ => rfl) f9 _ _ _ _
  · exact ⟨rfl, rfl, zca1_e (fun x0 h k t => n_Th_isWaiting e (fun _ _ => rfl) x0 h), ⟨rfl, rfl, zca3_e (fun x0 x1 x2 h k t => n_Th_goTo e (fun _ _ => rfl) x0 x1 x2 h), trivial⟩⟩
  · exact ⟨rfl, rfl, rfl, zap5_e (fun x0 x1 x2 x3 x4 h => n_Th_release_30_91 e hk h48 x0 x1 x2 x3 x4 h), ⟨rfl, rfl, rfl, zap0_e (fun  h => n_Th_release_30_97 e hk  h), trivial⟩⟩
theorem n_Th_release_30_48 {ρ : Type} (e : zRes → Option ρ) {krA : Int → zH → Option ρ} {krZ : Int → zH → Option zRes} (hk : ∀ v h, (krZ v h).bind e = krA v h) (a0 a1 a2 a3 a4 : Int) (h : zH) : (Th_release_30_48 krZ a0 a1 a2 a3 a4 h).bind e = Th_release_30_48 krA a0 a1 a2 a3 a4 h := zit5_e (fun rA rZ hh a0 a1 a2 a3 a4 h => n_Th_release_30_48b e hk hh a0 a1 a2 a3 a4 h) zN a0 a1 a2 a3 a4 h
set_option maxRecDepth 100000 in
set_option maxHeartbeats 0 in
theorem n_Th_release_30_45 {ρ : Type} (e : zRes → Option ρ) {krA : Int → zH → Option ρ} {krZ : Int → zH → Option zRes} (hk : ∀ v h, (krZ v h).bind e = krA v h) (a0 a1 a2 a3 : Int) (h : zH) : (Th_release_30_45 krZ a0 a1 a2 a3 h).bind e = Th_release_30_45 krA a0 a1 a2 a3 h := by
  refine Eq.trans (congrArg (fun z => Option.bind z e) (qe_Th_release_30_45 krZ a0 a1 a2 a3 h)) (Eq.trans ?_ (Eq.symm (qe_Th_release_30_45 krA a0 a1 a2 a3 h)))
  generalize (400 : Nat) = f9
  refine zseg_e e (zcal_e _ _ ?_) (zorc_e _ _ ?_) hk (fun _ _ => rfl) f9 _ _ _ _
  · exact trivial
  · exact ⟨rfl, rfl, rfl, zap5_e (fun x0 x1 x2 x3 x4 h => n_Th_release_30_48 e hk x0 x1 x2 x3 x4 h), trivial⟩
set_option maxRecDepth 100000 in
set_option maxHeartbeats 0 in
theorem n_Th_release_30_3b {ρ : Type} (e : zRes → Option ρ) {krA : Int → zH → Option ρ} {krZ : Int → zH → Option zRes} (hk : ∀ v h, (krZ v h).bind e = krA v h) {r3A : Int → Int → Int → Int → Int → zH → Option ρ} {r3Z : Int → Int → Int → Int → Int → zH → Option zRes} (h3 : ∀ (x0 x1 x2 x3 x4 : Int) (h : zH), (r3Z x0 x1 x2 x3 x4 h).bind e = r3A x0 x1 x2 x3 x4 h) (a0 a1 a2 a3 a4 : Int) (h : zH) : (Th_release_30_3b krZ r3Z a0 a1 a2 a3 a4 h).bind e = Th_release_30_3b krA r3A a0 a1 a2 a3 a4 h := by
  refine Eq.trans (congrArg (fun z => Option.bind z e) (qe_Th_release_30_3b krZ r3Z a0 a1 a2 a3 a4 h)) (Eq.trans ?_ (Eq.symm (qe_Th_release_30_3b krA r3A a0 a1 a2 a3 a4 h)))
  generalize (400 : Nat) = f9
  refine zseg_e e (zcal_e _ _ ?_) (zorc_e _ _ ?_) hk (fun _ _ => rfl) f9 _ _ _ _
  · exact ⟨rfl, rfl, zca1_e (fun x0 h k t => n_Th_isWaiting e (fun _ _ => rfl) x0 h), trivial⟩
  · exact ⟨rfl, rfl, rfl, zap5_e (fun x0 x1 x2 x3 x4 h => n_Th_release_30_39 e hk h3 x0 x1 x2 x3 x4 h), ⟨rfl, rfl, rfl, zap4_e (fun x0 x1 x2 x3 h => n_Th_release_30_45 e hk x0 x1 x2 x3 h), trivial⟩⟩
theorem n_Th_release_30_3 {ρ : Type} (e : zRes → Option ρ) {krA : Int → zH → Option ρ} {krZ : Int → zH → Option zRes} (hk : ∀ v h, (krZ v h).bind e = krA v h) (a0 a1 a2 a3 a4 : Int) (h : zH) : (Th_release_30_3 krZ a0 a1 a2 a3 a4 h).bind e = Th_release_30_3 krA a0 a1 a2 a3 a4 h := zit5_e (fun rA rZ hh a0 a1 a2 a3 a4 h => n_Th_release_30_3b e hk hh a0 a1 a2 a3 a4 h) zN a0 a1 a2 a3 a4 h
set_option maxRecDepth 100000 in
set_option maxHeartbeats 0 in
theorem n_Th_release_30 {ρ : Type} (e : zRes → Option ρ) {krA : Int → zH → Option ρ} {krZ : Int → zH → Option zRes} (hk : ∀ v h, (krZ v h).bind e = krA v h) (a0 a1 a2 a3 : Int) (h : zH) : (Th_release_30 a0 a1 a2 a3 h krZ).bind e = Th_release_30 a0 a1 a2 a3 h krA := by
  refine Eq.trans (congrArg (fun z => Option.bind z e) (qe_Th_release_30 krZ a0 a1 a2 a3 h)) (Eq.trans ?_ (Eq.symm (qe_Th_release_30 krA a0 a1 a2 a3 h)))
  generalize (400 : Nat) = f9
  refine zseg_e e (zcal_e _ _ ?_) (zorc_e _ _ ?_) hk (fun _ _ => rfl) f9 _ _ _ _
  · exact trivial
  · exact ⟨rfl, rfl, rfl, zap5_e (fun x0 x1 x2 x3 x4 h => n_Th_release_30_3 e hk x0 x1 x2 x3 x4 h), trivial⟩
set_option maxRecDepth 100000 in
set_option maxHeartbeats 0 in
theorem n_X_exchange_28_36 {ρ : Type} (e : zRes → Option ρ) {krA : Int → zH → Option ρ} {krZ : Int → zH → Option zRes} (hk : ∀ v h, (krZ v h).bind e = krA v h) (a2 a3 a4 t0 t1 t2 : Int) (h : zH) : (X_exchange_28_36 krZ a2 a3 a4 t0 t1 t2 h).bind e = X_exchange_28_36 krA a2 a3 a4 t0 t1 t2 h := by
  refine Eq.trans (congrArg (fun z => Option.bind z e) (qe_X_exchange_28_36 krZ a2 a3 a4 t0 t1 t2 h)) (Eq.trans ?_ (Eq.symm (qe_X_exchange_28_36 krA a2 a3 a4 t0 t1 t2 h)))
  generalize (400 : Nat) = f9
  refine zseg_e e (zcal_e _ _ ?_) (zorc_e _ _ ?_) hk (fun _ _ => rfl) f9 _ _ _ _
  · exact ⟨rfl, rfl, zca3_e (fun x0 x1 x2 h k t => n_Th_set e (fun _ _ => rfl) x0 x1 x2 h), trivial⟩
  · exact trivial
set_option maxRecDepth 100000 in
set_option maxHeartbeats 0 in
theorem n_X_exchange_28 {ρ : Type} (e : zRes → Option ρ) {krA : Int → zH → Option ρ} {krZ : Int → zH → Option zRes} (hk : ∀ v h, (krZ v h).bind e = krA v h) (a0 a1 a2 a3 : Int) (h : zH) : (X_exchange_28 a0 a1 a2 a3 h krZ).bind e = X_exchange_28 a0 a1 a2 a3 h krA := by
  refine Eq.trans (congrArg (fun z => Option.bind z e) (qe_X_exchange_28 krZ a0 a1 a2 a3 h)) (Eq.trans ?_ (Eq.symm (qe_X_exchange_28 krA a0 a1 a2 a3 h)))
  generalize (400 : Nat) = f9
  refine zseg_e e (zcal_e _ _ ?_) (zorc_e _ _ ?_) hk (fun _ _ => rfl) f9 _ _ _ _
  · exact ⟨rfl, rfl, zca2_e (fun x0 x1 h k t => n_Th_at e (fun _ _ => rfl) x0 x1 h), trivial⟩
  · exact ⟨rfl, rfl, rfl, zap6_e (fun x0 x1 x2 x3 x4 x5 h => n_X_exchange_28_36 e hk x0 x1 x2 x3 x4 x5 h), trivial⟩
set_option maxRecDepth 100000 in
set_option maxHeartbeats 0 in
theorem n_Re_carryGlobal_71 {ρ : Type} (e : zRes → Option ρ) {krA : Int → zH → Option ρ} {krZ : Int → zH → Option zRes} (hk : ∀ v h, (krZ v h).bind e = krA v h) (h : zH) : (Re_carryGlobal_71 krZ h).bind e = Re_carryGlobal_71 krA h := by
  refine Eq.trans (congrArg (fun z => Option.bind z e) (qe_Re_carryGlobal_71 krZ h)) (Eq.trans ?_ (Eq.symm (qe_Re_carryGlobal_71 krA h)))
  generalize (400 : Nat) = f9
  refine zseg_e e (zcal_e _ _ ?_) (zorc_e _ _ ?_) hk (fun _ _ => rfl) f9 _ _ _ _
  · exact trivial
  · exact trivial
set_option maxRecDepth 100000 in
set_option maxHeartbeats 0 in
theorem n_Re_carryGlobal {ρ : Type} (e : zRes → Option ρ) {krA : Int → zH → Option ρ} {krZ : Int → zH → Option zRes} (hk : ∀ v h, (krZ v h).bind e = krA v h) (a0 a1 a2 a3 : Int) (h : zH) : (Re_carryGlobal a0 a1 a2 a3 h krZ).bind e = Re_carryGlobal a0 a1 a2 a3 h krA := by
  refine Eq.trans (congrArg (fun z => Option.bind z e) (qe_Re_carryGlobal krZ a0 a1 a2 a3 h)) (Eq.trans ?_ (Eq.symm (qe_Re_carryGlobal krA a0 a1 a2 a3 h)))
  generalize (400 : Nat) = f9
  refine zseg_e e (zcal_e _ _ ?_) (zorc_e _ _ ?_) hk (fun _ _ => rfl) f9 _ _ _ _
  · exact ⟨rfl, rfl, zca1_e (fun x0 h k t => n_X_isCell e (fun _ _ => rfl) x0 h), ⟨rfl, rfl, zca4_e (fun x0 x1 x2 x3 h k t => n_X_exchange_28 e (fun _ _ => rfl) x0 x1 x2 x3 h), ⟨rfl, rfl, zca2_e (fun x0 x1 h k t => n_Th_at e (fun _ _ => rfl) x0 x1 h), ⟨rfl, rfl, zca3_e (fun x0 x1 x2 h k t => n_Th_set e (fun _ _ => rfl) x0 x1 x2 h), trivial⟩⟩⟩⟩
  · exact ⟨rfl, rfl, rfl, zap0_e (fun  h => n_Re_carryGlobal_71 e hk  h), trivial⟩
set_option maxRecDepth 100000 in
set_option maxHeartbeats 0 in
theorem n_Re_carryShared_59 {ρ : Type} (e : zRes → Option ρ) {krA : Int → zH → Option ρ} {krZ : Int → zH → Option zRes} (hk : ∀ v h, (krZ v h).bind e = krA v h) (h : zH) : (Re_carryShared_59 krZ h).bind e = Re_carryShared_59 krA h := by
  refine Eq.trans (congrArg (fun z => Option.bind z e) (qe_Re_carryShared_59 krZ h)) (Eq.trans ?_ (Eq.symm (qe_Re_carryShared_59 krA h)))
  generalize (400 : Nat) = f9
  refine zseg_e e (zcal_e _ _ ?_) (zorc_e _ _ ?_) hk (fun _ _ => rfl) f9 _ _ _ _
  · exact trivial
  · exact trivial
set_option maxRecDepth 100000 in
set_option maxHeartbeats 0 in
theorem n_Re_carryShared {ρ : Type} (e : zRes → Option ρ) {krA : Int → zH → Option ρ} {krZ : Int → zH → Option zRes} (hk : ∀ v h, (krZ v h).bind e = krA v h) (a0 a1 a2 a3 : Int) (h : zH) : (Re_carryShared a0 a1 a2 a3 h krZ).bind e = Re_carryShared a0 a1 a2 a3 h krA := by
  refine Eq.trans (congrArg (fun z => Option.bind z e) (qe_Re_carryShared krZ a0 a1 a2 a3 h)) (Eq.trans ?_ (Eq.symm (qe_Re_carryShared krA a0 a1 a2 a3 h)))
  generalize (400 : Nat) = f9
  refine zseg_e e (zcal_e _ _ ?_) (zorc_e _ _ ?_) hk (fun _ _ => rfl) f9 _ _ _ _
  · exact ⟨rfl, rfl, zca3_e (fun x0 x1 x2 h k t => n_X_isWithin e (fun _ _ => rfl) x0 x1 x2 h), ⟨rfl, rfl, zca2_e (fun x0 x1 h k t => n_Th_at e (fun _ _ => rfl) x0 x1 h), ⟨rfl, rfl, zca3_e (fun x0 x1 x2 h k t => n_Th_set e (fun _ _ => rfl) x0 x1 x2 h), trivial⟩⟩⟩
  · exact ⟨rfl, rfl, rfl, zap0_e (fun  h => n_Re_carryShared_59 e hk  h), trivial⟩
set_option maxRecDepth 100000 in
set_option maxHeartbeats 0 in
theorem n_Re_carry {ρ : Type} (e : zRes → Option ρ) {krA : Int → zH → Option ρ} {krZ : Int → zH → Option zRes} (hk : ∀ v h, (krZ v h).bind e = krA v h) (a0 a1 a2 : Int) (h : zH) : (Re_carry a0 a1 a2 h krZ).bind e = Re_carry a0 a1 a2 h krA := by
  refine Eq.trans (congrArg (fun z => Option.bind z e) (qe_Re_carry krZ a0 a1 a2 h)) (Eq.trans ?_ (Eq.symm (qe_Re_carry krA a0 a1 a2 h)))
  generalize (400 : Nat) = f9
  refine zseg_e e (zcal_e _ _ ?_) (zorc_e _ _ ?_) hk (fun _ _ => rfl) f9 _ _ _ _
  · exact ⟨rfl, rfl, zca2_e (fun x0 x1 h k t => n_In_isOneOf e (fun _ _ => rfl) x0 x1 h), ⟨rfl, rfl, zca1_e (fun x0 h k t => n_In_cellRegister e (fun _ _ => rfl) x0 h), ⟨rfl, rfl, zca2_e (fun x0 x1 h k t => n_Th_at e (fun _ _ => rfl) x0 x1 h), ⟨rfl, rfl, zca2_e (fun x0 x1 h k t => n_Th_reckon e (fun _ _ => rfl) x0 x1 h), ⟨rfl, rfl, zca4_e (fun x0 x1 x2 x3 h k t => n_Re_carryGlobal e (fun _ _ => rfl) x0 x1 x2 x3 h), ⟨rfl, rfl, zca4_e (fun x0 x1 x2 x3 h k t => n_Re_carryShared e (fun _ _ => rfl) x0 x1 x2 x3 h), trivial⟩⟩⟩⟩⟩⟩
  · exact trivial
set_option maxRecDepth 100000 in
set_option maxHeartbeats 0 in
theorem n_Re_runThread_56 {ρ : Type} (e : zRes → Option ρ) {krA : Int → zH → Option ρ} {krZ : Int → zH → Option zRes} (hk : ∀ v h, (krZ v h).bind e = krA v h) (h : zH) : (Re_runThread_56 krZ h).bind e = Re_runThread_56 krA h := by
  refine Eq.trans (congrArg (fun z => Option.bind z e) (qe_Re_runThread_56 krZ h)) (Eq.trans ?_ (Eq.symm (qe_Re_runThread_56 krA h)))
  generalize (400 : Nat) = f9
  refine zseg_e e (zcal_e _ _ ?_) (zorc_e _ _ ?_) hk (fun _ _ => rfl) f9 _ _ _ _
  · exact trivial
  · exact trivial
set_option maxRecDepth 100000 in
set_option maxHeartbeats 0 in
theorem n_Re_runThread_101 {ρ : Type} (e : zRes → Option ρ) {krA : Int → zH → Option ρ} {krZ : Int → zH → Option zRes} (hk : ∀ v h, (krZ v h).bind e = krA v h) (t0 : Int) (h : zH) : (Re_runThread_101 krZ t0 h).bind e = Re_runThread_101 krA t0 h := by
  refine Eq.trans (congrArg (fun z => Option.bind z e) (qe_Re_runThread_101 krZ t0 h)) (Eq.trans ?_ (Eq.symm (qe_Re_runThread_101 krA t0 h)))
  generalize (400 : Nat) = f9
  refine zseg_e e (zcal_e _ _ ?_) (zorc_e _ _ ?_) hk (fun _ _ => rfl) f9 _ _ _ _
  · exact trivial
  · exact trivial
set_option maxRecDepth 100000 in
set_option maxHeartbeats 0 in
theorem n_Re_runThread_89 {ρ : Type} (e : zRes → Option ρ) {krA : Int → zH → Option ρ} {krZ : Int → zH → Option zRes} (hk : ∀ v h, (krZ v h).bind e = krA v h) (a1 : Int) (h : zH) : (Re_runThread_89 krZ a1 h).bind e = Re_runThread_89 krA a1 h := by
  refine Eq.trans (congrArg (fun z => Option.bind z e) (qe_Re_runThread_89 krZ a1 h)) (Eq.trans ?_ (Eq.symm (qe_Re_runThread_89 krA a1 h)))
  generalize (400 : Nat) = f9
  refine zseg_e e (zcal_e _ _ ?_) (zorc_e _ _ ?_) hk (fun _ _ => rfl) f9 _ _ _ _
  · exact ⟨rfl, rfl, zca1_e (fun x0 h k t => n_Th_isRunning e (fun _ _ => rfl) x0 h), trivial⟩
  · exact ⟨rfl, rfl, rfl, zap1_e (fun x0 h => n_Re_runThread_101 e hk x0 h), trivial⟩
set_option maxRecDepth 100000 in
set_option maxHeartbeats 0 in
theorem n_Re_runThread_2b {ρ : Type} (e : zRes → Option ρ) {krA : Int → zH → Option ρ} {krZ : Int → zH → Option zRes} (hk : ∀ v h, (krZ v h).bind e = krA v h) {r2A : Int → Int → Int → zH → Option ρ} {r2Z : Int → Int → Int → zH → Option zRes} (h2 : ∀ (x0 x1 x2 : Int) (h : zH), (r2Z x0 x1 x2 h).bind e = r2A x0 x1 x2 h) (a0 a1 a2 : Int) (h : zH) : (Re_runThread_2b krZ r2Z a0 a1 a2 h).bind e = Re_runThread_2b krA r2A a0 a1 a2 h := by
  refine Eq.trans (congrArg (fun z => Option.bind z e) (qe_Re_runThread_2b krZ r2Z a0 a1 a2 h)) (Eq.trans ?_ (Eq.symm (qe_Re_runThread_2b krA r2A a0 a1 a2 h)))
  generalize (400 : Nat) = f9
  refine zseg_e e (zcal_e _ _ ?_) (zorc_e _ _ ?_) hk (fun _ _ => rfl) f9 _ _ _ _
  · exact ⟨rfl, rfl, zca2_e (fun x0 x1 h k t => n_Ke_instructionAt e (fun _ _ => rfl) x0 x1 h), ⟨rfl, rfl, zca1_e (fun x0 h k t => n_Th_isRunning e (fun _ _ => rfl) x0 h), ⟨rfl, rfl, zca3_e (fun x0 x1 x2 h k t => n_Th_goOn e (fun _ _ => rfl) x0 x1 x2 h), ⟨rfl, rfl, zca3_e (fun x0 x1 x2 h k t => n_Re_carry e (fun _ _ => rfl) x0 x1 x2 h), trivial⟩⟩⟩⟩
  · exact ⟨rfl, rfl, rfl, zap3_e h2, ⟨rfl, rfl, rfl, zap0_e (fun  h => n_Re_runThread_56 e hk  h), ⟨rfl, rfl, rfl, zap1_e (fun x0 h => n_Re_runThread_89 e hk x0 h), trivial⟩⟩⟩
theorem n_Re_runThread_2 {ρ : Type} (e : zRes → Option ρ) {krA : Int → zH → Option ρ} {krZ : Int → zH → Option zRes} (hk : ∀ v h, (krZ v h).bind e = krA v h) (a0 a1 a2 : Int) (h : zH) : (Re_runThread_2 krZ a0 a1 a2 h).bind e = Re_runThread_2 krA a0 a1 a2 h := zit3_e (fun rA rZ hh a0 a1 a2 h => n_Re_runThread_2b e hk hh a0 a1 a2 h) zN a0 a1 a2 h
set_option maxRecDepth 100000 in
set_option maxHeartbeats 0 in
theorem n_Re_runThread {ρ : Type} (e : zRes → Option ρ) {krA : Int → zH → Option ρ} {krZ : Int → zH → Option zRes} (hk : ∀ v h, (krZ v h).bind e = krA v h) (a0 a1 : Int) (h : zH) : (Re_runThread a0 a1 h krZ).bind e = Re_runThread a0 a1 h krA := by
  refine Eq.trans (congrArg (fun z => Option.bind z e) (qe_Re_runThread krZ a0 a1 h)) (Eq.trans ?_ (Eq.symm (qe_Re_runThread krA a0 a1 h)))
  generalize (400 : Nat) = f9
  refine zseg_e e (zcal_e _ _ ?_) (zorc_e _ _ ?_) hk (fun _ _ => rfl) f9 _ _ _ _
  · exact trivial
  · exact ⟨rfl, rfl, rfl, zap3_e (fun x0 x1 x2 h => n_Re_runThread_2 e hk x0 x1 x2 h), trivial⟩
set_option maxRecDepth 100000 in
set_option maxHeartbeats 0 in
theorem n_Re_runBlock_92 {ρ : Type} (e : zRes → Option ρ) {krA : Int → zH → Option ρ} {krZ : Int → zH → Option zRes} (hk : ∀ v h, (krZ v h).bind e = krA v h) {r51A : Int → Int → zH → Option ρ} {r51Z : Int → Int → zH → Option zRes} (h51 : ∀ (x0 x1 : Int) (h : zH), (r51Z x0 x1 h).bind e = r51A x0 x1 h) {r60A : Int → Int → Int → zH → Option ρ} {r60Z : Int → Int → Int → zH → Option zRes} (h60 : ∀ (x0 x1 x2 : Int) (h : zH), (r60Z x0 x1 x2 h).bind e = r60A x0 x1 x2 h) (a0 a2 a3 t0 t1 t2 : Int) (h : zH) : (Re_runBlock_92 krZ r51Z r60Z a0 a2 a3 t0 t1 t2 h).bind e = Re_runBlock_92 krA r51A r60A a0 a2 a3 t0 t1 t2 h := by
  refine Eq.trans (congrArg (fun z => Option.bind z e) (qe_Re_runBlock_92 krZ r51Z r60Z a0 a2 a3 t0 t1 t2 h)) (Eq.trans ?_ (Eq.symm (qe_Re_runBlock_92 krA r51A r60A a0 a2 a3 t0 t1 t2 h)))
  generalize (400 : Nat) = f9
  refine zseg_e e (zcal_e _ _ ?_) (zorc_e _ _ ?_) hk (fun _ _ => rfl) f9 _ _ _ _
  · exact ⟨rfl, rfl, zca2_e (fun x0 x1 h k t => n_Re_runThread e (fun _ _ => rfl) x0 x1 h), trivial⟩
  · exact ⟨rfl, rfl, rfl, zap3_e h60, trivial⟩
set_option maxRecDepth 100000 in
set_option maxHeartbeats 0 in
theorem n_Re_runBlock_60b {ρ : Type} (e : zRes → Option ρ) {krA : Int → zH → Option ρ} {krZ : Int → zH → Option zRes} (hk : ∀ v h, (krZ v h).bind e = krA v h) {r51A : Int → Int → zH → Option ρ} {r51Z : Int → Int → zH → Option zRes} (h51 : ∀ (x0 x1 : Int) (h : zH), (r51Z x0 x1 h).bind e = r51A x0 x1 h) {r60A : Int → Int → Int → zH → Option ρ} {r60Z : Int → Int → Int → zH → Option zRes} (h60 : ∀ (x0 x1 x2 : Int) (h : zH), (r60Z x0 x1 x2 h).bind e = r60A x0 x1 x2 h) (a0 a2 a3 : Int) (h : zH) : (Re_runBlock_60b krZ r51Z r60Z a0 a2 a3 h).bind e = Re_runBlock_60b krA r51A r60A a0 a2 a3 h := by
  refine Eq.trans (congrArg (fun z => Option.bind z e) (qe_Re_runBlock_60b krZ r51Z r60Z a0 a2 a3 h)) (Eq.trans ?_ (Eq.symm (qe_Re_runBlock_60b krA r51A r60A a0 a2 a3 h)))
  generalize (400 : Nat) = f9
  refine zseg_e e (zcal_e _ _ ?_) (zorc_e _ _ ?_) hk (fun _ _ => rfl) f9 _ _ _ _
  · exact ⟨rfl, rfl, zca2_e (fun x0 x1 h k t => n_Th_lowestOfWaiting_30 e (fun _ _ => rfl) x0 x1 h), ⟨rfl, rfl, zca4_e (fun x0 x1 x2 x3 h k t => n_Th_release_30 e (fun _ _ => rfl) x0 x1 x2 x3 h), trivial⟩⟩
  · exact ⟨rfl, rfl, rfl, zap2_e h51, ⟨rfl, rfl, rfl, zap6_e (fun x0 x1 x2 x3 x4 x5 h => n_Re_runBlock_92 e hk h51 h60 x0 x1 x2 x3 x4 x5 h), trivial⟩⟩
theorem n_Re_runBlock_60 {ρ : Type} (e : zRes → Option ρ) {krA : Int → zH → Option ρ} {krZ : Int → zH → Option zRes} (hk : ∀ v h, (krZ v h).bind e = krA v h) {r51A : Int → Int → zH → Option ρ} {r51Z : Int → Int → zH → Option zRes} (h51 : ∀ (x0 x1 : Int) (h : zH), (r51Z x0 x1 h).bind e = r51A x0 x1 h) (a0 a2 a3 : Int) (h : zH) : (Re_runBlock_60 krZ r51Z a0 a2 a3 h).bind e = Re_runBlock_60 krA r51A a0 a2 a3 h := zit3_e (fun rA rZ hh a0 a2 a3 h => n_Re_runBlock_60b e hk h51 hh a0 a2 a3 h) zN a0 a2 a3 h
set_option maxRecDepth 100000 in
set_option maxHeartbeats 0 in
theorem n_Re_runBlock_51b {ρ : Type} (e : zRes → Option ρ) {krA : Int → zH → Option ρ} {krZ : Int → zH → Option zRes} (hk : ∀ v h, (krZ v h).bind e = krA v h) {r51A : Int → Int → zH → Option ρ} {r51Z : Int → Int → zH → Option zRes} (h51 : ∀ (x0 x1 : Int) (h : zH), (r51Z x0 x1 h).bind e = r51A x0 x1 h) (a0 a2 : Int) (h : zH) : (Re_runBlock_51b krZ r51Z a0 a2 h).bind e = Re_runBlock_51b krA r51A a0 a2 h := by
  refine Eq.trans (congrArg (fun z => Option.bind z e) (qe_Re_runBlock_51b krZ r51Z a0 a2 h)) (Eq.trans ?_ (Eq.symm (qe_Re_runBlock_51b krA r51A a0 a2 h)))
  generalize (400 : Nat) = f9
  refine zseg_e e (zcal_e _ _ ?_) (zorc_e _ _ ?_) hk (fun _ _ => rfl) f9 _ _ _ _
  · exact trivial
  · exact ⟨rfl, rfl, rfl, zap3_e (fun x0 x1 x2 h => n_Re_runBlock_60 e hk h51 x0 x1 x2 h), trivial⟩
theorem n_Re_runBlock_51 {ρ : Type} (e : zRes → Option ρ) {krA : Int → zH → Option ρ} {krZ : Int → zH → Option zRes} (hk : ∀ v h, (krZ v h).bind e = krA v h) (a0 a2 : Int) (h : zH) : (Re_runBlock_51 krZ a0 a2 h).bind e = Re_runBlock_51 krA a0 a2 h := zit2_e (fun rA rZ hh a0 a2 h => n_Re_runBlock_51b e hk hh a0 a2 h) zN a0 a2 h
set_option maxRecDepth 100000 in
set_option maxHeartbeats 0 in
theorem n_Re_runBlock_18b {ρ : Type} (e : zRes → Option ρ) {krA : Int → zH → Option ρ} {krZ : Int → zH → Option zRes} (hk : ∀ v h, (krZ v h).bind e = krA v h) {r18A : Int → Int → Int → zH → Option ρ} {r18Z : Int → Int → Int → zH → Option zRes} (h18 : ∀ (x0 x1 x2 : Int) (h : zH), (r18Z x0 x1 x2 h).bind e = r18A x0 x1 x2 h) (a0 a1 a2 : Int) (h : zH) : (Re_runBlock_18b krZ r18Z a0 a1 a2 h).bind e = Re_runBlock_18b krA r18A a0 a1 a2 h := by
  refine Eq.trans (congrArg (fun z => Option.bind z e) (qe_Re_runBlock_18b krZ r18Z a0 a1 a2 h)) (Eq.trans ?_ (Eq.symm (qe_Re_runBlock_18b krA r18A a0 a1 a2 h)))
  generalize (400 : Nat) = f9
  refine zseg_e e (zcal_e _ _ ?_) (zorc_e _ _ ?_) hk (fun _ _ => rfl) f9 _ _ _ _
  · exact ⟨rfl, rfl, zca3_e (fun x0 x1 x2 h k t => n_Th_begin e (fun _ _ => rfl) x0 x1 x2 h), trivial⟩
  · exact ⟨rfl, rfl, rfl, zap3_e h18, ⟨rfl, rfl, rfl, zap2_e (fun x0 x1 h => n_Re_runBlock_51 e hk x0 x1 h), trivial⟩⟩
theorem n_Re_runBlock_18 {ρ : Type} (e : zRes → Option ρ) {krA : Int → zH → Option ρ} {krZ : Int → zH → Option zRes} (hk : ∀ v h, (krZ v h).bind e = krA v h) (a0 a1 a2 : Int) (h : zH) : (Re_runBlock_18 krZ a0 a1 a2 h).bind e = Re_runBlock_18 krA a0 a1 a2 h := zit3_e (fun rA rZ hh a0 a1 a2 h => n_Re_runBlock_18b e hk hh a0 a1 a2 h) zN a0 a1 a2 h
set_option maxRecDepth 100000 in
set_option maxHeartbeats 0 in
theorem n_Re_runBlock {ρ : Type} (e : zRes → Option ρ) {krA : Int → zH → Option ρ} {krZ : Int → zH → Option zRes} (hk : ∀ v h, (krZ v h).bind e = krA v h) (a0 a1 : Int) (h : zH) : (Re_runBlock a0 a1 h krZ).bind e = Re_runBlock a0 a1 h krA := by
  refine Eq.trans (congrArg (fun z => Option.bind z e) (qe_Re_runBlock krZ a0 a1 h)) (Eq.trans ?_ (Eq.symm (qe_Re_runBlock krA a0 a1 h)))
  generalize (400 : Nat) = f9
  refine zseg_e e (zcal_e _ _ ?_) (zorc_e _ _ ?_) hk (fun _ _ => rfl) f9 _ _ _ _
  · exact ⟨rfl, rfl, zca2_e (fun x0 x1 h k t => n_Ar_fill_29 e (fun _ _ => rfl) x0 x1 h), ⟨rfl, rfl, zca2_e (fun x0 x1 h k t => n_Ar_fill_31 e (fun _ _ => rfl) x0 x1 h), trivial⟩⟩
  · exact ⟨rfl, rfl, rfl, zap3_e (fun x0 x1 x2 h => n_Re_runBlock_18 e hk x0 x1 x2 h), trivial⟩
set_option maxRecDepth 100000 in
set_option maxHeartbeats 0 in
theorem n_Re_runBlocks_24 {ρ : Type} (e : zRes → Option ρ) {krA : Int → zH → Option ρ} {krZ : Int → zH → Option zRes} (hk : ∀ v h, (krZ v h).bind e = krA v h) {r2A : Int → Int → Int → zH → Option ρ} {r2Z : Int → Int → Int → zH → Option zRes} (h2 : ∀ (x0 x1 x2 : Int) (h : zH), (r2Z x0 x1 x2 h).bind e = r2A x0 x1 x2 h) (a0 a1 a2 t0 t1 : Int) (h : zH) : (Re_runBlocks_24 krZ r2Z a0 a1 a2 t0 t1 h).bind e = Re_runBlocks_24 krA r2A a0 a1 a2 t0 t1 h := by
  refine Eq.trans (congrArg (fun z => Option.bind z e) (qe_Re_runBlocks_24 krZ r2Z a0 a1 a2 t0 t1 h)) (Eq.trans ?_ (Eq.symm (qe_Re_runBlocks_24 krA r2A a0 a1 a2 t0 t1 h)))
  generalize (400 : Nat) = f9
  refine zseg_e e (zcal_e _ _ ?_) (zorc_e _ _ ?_) hk (fun _ _ => rfl) f9 _ _ _ _
  · exact ⟨rfl, rfl, zca2_e (fun x0 x1 h k t => n_Re_runBlock e (fun _ _ => rfl) x0 x1 h), trivial⟩
  · exact ⟨rfl, rfl, rfl, zap3_e h2, trivial⟩
set_option maxRecDepth 100000 in
set_option maxHeartbeats 0 in
theorem n_Re_runBlocks_2b {ρ : Type} (e : zRes → Option ρ) {krA : Int → zH → Option ρ} {krZ : Int → zH → Option zRes} (hk : ∀ v h, (krZ v h).bind e = krA v h) {r2A : Int → Int → Int → zH → Option ρ} {r2Z : Int → Int → Int → zH → Option zRes} (h2 : ∀ (x0 x1 x2 : Int) (h : zH), (r2Z x0 x1 x2 h).bind e = r2A x0 x1 x2 h) (a0 a1 a2 : Int) (h : zH) : (Re_runBlocks_2b krZ r2Z a0 a1 a2 h).bind e = Re_runBlocks_2b krA r2A a0 a1 a2 h := by
  refine Eq.trans (congrArg (fun z => Option.bind z e) (qe_Re_runBlocks_2b krZ r2Z a0 a1 a2 h)) (Eq.trans ?_ (Eq.symm (qe_Re_runBlocks_2b krA r2A a0 a1 a2 h)))
  generalize (400 : Nat) = f9
  refine zseg_e e (zcal_e _ _ ?_) (zorc_e _ _ ?_) hk (fun _ _ => rfl) f9 _ _ _ _
  · exact trivial
  · exact ⟨rfl, rfl, rfl, zap5_e (fun x0 x1 x2 x3 x4 h => n_Re_runBlocks_24 e hk h2 x0 x1 x2 x3 x4 h), trivial⟩
theorem n_Re_runBlocks_2 {ρ : Type} (e : zRes → Option ρ) {krA : Int → zH → Option ρ} {krZ : Int → zH → Option zRes} (hk : ∀ v h, (krZ v h).bind e = krA v h) (a0 a1 a2 : Int) (h : zH) : (Re_runBlocks_2 krZ a0 a1 a2 h).bind e = Re_runBlocks_2 krA a0 a1 a2 h := zit3_e (fun rA rZ hh a0 a1 a2 h => n_Re_runBlocks_2b e hk hh a0 a1 a2 h) zN a0 a1 a2 h
set_option maxRecDepth 100000 in
set_option maxHeartbeats 0 in
theorem n_Re_runBlocks {ρ : Type} (e : zRes → Option ρ) {krA : Int → zH → Option ρ} {krZ : Int → zH → Option zRes} (hk : ∀ v h, (krZ v h).bind e = krA v h) (a0 a1 : Int) (h : zH) : (Re_runBlocks a0 a1 h krZ).bind e = Re_runBlocks a0 a1 h krA := by
  refine Eq.trans (congrArg (fun z => Option.bind z e) (qe_Re_runBlocks krZ a0 a1 h)) (Eq.trans ?_ (Eq.symm (qe_Re_runBlocks krA a0 a1 h)))
  generalize (400 : Nat) = f9
  refine zseg_e e (zcal_e _ _ ?_) (zorc_e _ _ ?_) hk (fun _ _ => rfl) f9 _ _ _ _
  · exact trivial
  · exact ⟨rfl, rfl, rfl, zap3_e (fun x0 x1 x2 h => n_Re_runBlocks_2 e hk x0 x1 x2 h), trivial⟩
set_option maxRecDepth 100000 in
set_option maxHeartbeats 0 in
theorem n_X_serial_43 {ρ : Type} (e : zRes → Option ρ) {krA : Int → zH → Option ρ} {krZ : Int → zH → Option zRes} (hk : ∀ v h, (krZ v h).bind e = krA v h) {ktA : Nat → zH → Option ρ} {ktZ : Nat → zH → Option zRes} (ht : ∀ n h, (ktZ n h).bind e = ktA n h) (h : zH) : (X_serial_43 krZ ktZ h).bind e = X_serial_43 krA ktA h := by
  refine Eq.trans (congrArg (fun z => Option.bind z e) (qe_X_serial_43 krZ ktZ h)) (Eq.trans ?_ (Eq.symm (qe_X_serial_43 krA ktA h)))
  generalize (400 : Nat) = f9
  refine zseg_e e (zcal_e _ _ ?_) (zorc_e _ _ ?_) hk ht f9 _ _ _ _
  · exact trivial
  · exact trivial
set_option maxRecDepth 100000 in
set_option maxHeartbeats 0 in
theorem n_X_serial {ρ : Type} (e : zRes → Option ρ) {krA : Int → zH → Option ρ} {krZ : Int → zH → Option zRes} (hk : ∀ v h, (krZ v h).bind e = krA v h) {ktA : Nat → zH → Option ρ} {ktZ : Nat → zH → Option zRes} (ht : ∀ n h, (ktZ n h).bind e = ktA n h) (a0 a1 a2 a3 a4 a5 : Int) (h : zH) : (X_serial a0 a1 a2 a3 a4 a5 h ktZ krZ).bind e = X_serial a0 a1 a2 a3 a4 a5 h ktA krA := by
  refine Eq.trans (congrArg (fun z => Option.bind z e) (qe_X_serial krZ ktZ a0 a1 a2 a3 a4 a5 h)) (Eq.trans ?_ (Eq.symm (qe_X_serial krA ktA a0 a1 a2 a3 a4 a5 h)))
  generalize (400 : Nat) = f9
  refine zseg_e e (zcal_e _ _ ?_) (zorc_e _ _ ?_) hk ht f9 _ _ _ _
  · exact ⟨rfl, rfl, zcx2_e (fun x0 x1 h k t => n_X_kernelAt e (fun _ _ => rfl) (fun _ _ => rfl) x0 x1 h), ⟨rfl, rfl, zca3_e (fun x0 x1 x2 h k t => n_X_isWithin e (fun _ _ => rfl) x0 x1 x2 h), ⟨rfl, rfl, zca1_e (fun x0 h k t => n_X_isCell e (fun _ _ => rfl) x0 h), ⟨rfl, rfl, zca2_e (fun x0 x1 h k t => n_Ke_hasLetterOf e (fun _ _ => rfl) x0 x1 h), ⟨rfl, rfl, zca5_e (fun x0 x1 x2 x3 x4 h k t => n_Re_begin e (fun _ _ => rfl) x0 x1 x2 x3 x4 h), ⟨rfl, rfl, zca2_e (fun x0 x1 h k t => n_Re_runBlocks e (fun _ _ => rfl) x0 x1 h), trivial⟩⟩⟩⟩⟩⟩
  · exact ⟨rfl, rfl, rfl, zap0_e (fun  h => n_X_serial_43 e hk ht  h), trivial⟩
set_option maxRecDepth 100000 in
set_option maxHeartbeats 0 in
theorem n_X_lanes {ρ : Type} (e : zRes → Option ρ) {krA : Int → zH → Option ρ} {krZ : Int → zH → Option zRes} (hk : ∀ v h, (krZ v h).bind e = krA v h) (a0 : Int) (h : zH) : (X_lanes a0 h krZ).bind e = X_lanes a0 h krA := by
  refine Eq.trans (congrArg (fun z => Option.bind z e) (qe_X_lanes krZ a0 h)) (Eq.trans ?_ (Eq.symm (qe_X_lanes krA a0 h)))
  generalize (400 : Nat) = f9
  refine zseg_e e (zcal_e _ _ ?_) (zorc_e _ _ ?_) hk (fun _ _ => rfl) f9 _ _ _ _
  · exact trivial
  · exact trivial
set_option maxRecDepth 100000 in
set_option maxHeartbeats 0 in
theorem n_X_misses {ρ : Type} (e : zRes → Option ρ) {krA : Int → zH → Option ρ} {krZ : Int → zH → Option zRes} (hk : ∀ v h, (krZ v h).bind e = krA v h) (a0 : Int) (h : zH) : (X_misses a0 h krZ).bind e = X_misses a0 h krA := by
  refine Eq.trans (congrArg (fun z => Option.bind z e) (qe_X_misses krZ a0 h)) (Eq.trans ?_ (Eq.symm (qe_X_misses krA a0 h)))
  generalize (400 : Nat) = f9
  refine zseg_e e (zcal_e _ _ ?_) (zorc_e _ _ ?_) hk (fun _ _ => rfl) f9 _ _ _ _
  · exact trivial
  · exact trivial
set_option maxRecDepth 100000 in
set_option maxHeartbeats 0 in
theorem n_X_lost {ρ : Type} (e : zRes → Option ρ) {krA : Int → zH → Option ρ} {krZ : Int → zH → Option zRes} (hk : ∀ v h, (krZ v h).bind e = krA v h) (a0 : Int) (h : zH) : (X_lost a0 h krZ).bind e = X_lost a0 h krA := by
  refine Eq.trans (congrArg (fun z => Option.bind z e) (qe_X_lost krZ a0 h)) (Eq.trans ?_ (Eq.symm (qe_X_lost krA a0 h)))
  generalize (400 : Nat) = f9
  refine zseg_e e (zcal_e _ _ ?_) (zorc_e _ _ ?_) hk (fun _ _ => rfl) f9 _ _ _ _
  · exact trivial
  · exact trivial
set_option maxRecDepth 100000 in
set_option maxHeartbeats 0 in
theorem n_X_barriers {ρ : Type} (e : zRes → Option ρ) {krA : Int → zH → Option ρ} {krZ : Int → zH → Option zRes} (hk : ∀ v h, (krZ v h).bind e = krA v h) (a0 : Int) (h : zH) : (X_barriers a0 h krZ).bind e = X_barriers a0 h krA := by
  refine Eq.trans (congrArg (fun z => Option.bind z e) (qe_X_barriers krZ a0 h)) (Eq.trans ?_ (Eq.symm (qe_X_barriers krA a0 h)))
  generalize (400 : Nat) = f9
  refine zseg_e e (zcal_e _ _ ?_) (zorc_e _ _ ?_) hk (fun _ _ => rfl) f9 _ _ _ _
  · exact trivial
  · exact trivial
set_option maxRecDepth 100000 in
set_option maxHeartbeats 0 in
theorem n_X_refused {ρ : Type} (e : zRes → Option ρ) {krA : Int → zH → Option ρ} {krZ : Int → zH → Option zRes} (hk : ∀ v h, (krZ v h).bind e = krA v h) (a0 : Int) (h : zH) : (X_refused a0 h krZ).bind e = X_refused a0 h krA := by
  refine Eq.trans (congrArg (fun z => Option.bind z e) (qe_X_refused krZ a0 h)) (Eq.trans ?_ (Eq.symm (qe_X_refused krA a0 h)))
  generalize (400 : Nat) = f9
  refine zseg_e e (zcal_e _ _ ?_) (zorc_e _ _ ?_) hk (fun _ _ => rfl) f9 _ _ _ _
  · exact trivial
  · exact trivial
set_option maxRecDepth 100000 in
set_option maxHeartbeats 0 in
theorem n_X_usedShare {ρ : Type} (e : zRes → Option ρ) {krA : Int → zH → Option ρ} {krZ : Int → zH → Option zRes} (hk : ∀ v h, (krZ v h).bind e = krA v h) {ktA : Nat → zH → Option ρ} {ktZ : Nat → zH → Option zRes} (ht : ∀ n h, (ktZ n h).bind e = ktA n h) (a0 : Int) (h : zH) : (X_usedShare a0 h ktZ krZ).bind e = X_usedShare a0 h ktA krA := by
  refine Eq.trans (congrArg (fun z => Option.bind z e) (qe_X_usedShare krZ ktZ a0 h)) (Eq.trans ?_ (Eq.symm (qe_X_usedShare krA ktA a0 h)))
  generalize (400 : Nat) = f9
  refine zseg_e e (zcal_e _ _ ?_) (zorc_e _ _ ?_) hk ht f9 _ _ _ _
  · exact trivial
  · exact trivial
set_option maxRecDepth 100000 in
set_option maxHeartbeats 0 in
theorem n_X_meanDelay {ρ : Type} (e : zRes → Option ρ) {krA : Int → zH → Option ρ} {krZ : Int → zH → Option zRes} (hk : ∀ v h, (krZ v h).bind e = krA v h) {ktA : Nat → zH → Option ρ} {ktZ : Nat → zH → Option zRes} (ht : ∀ n h, (ktZ n h).bind e = ktA n h) (a0 : Int) (h : zH) : (X_meanDelay a0 h ktZ krZ).bind e = X_meanDelay a0 h ktA krA := by
  refine Eq.trans (congrArg (fun z => Option.bind z e) (qe_X_meanDelay krZ ktZ a0 h)) (Eq.trans ?_ (Eq.symm (qe_X_meanDelay krA ktA a0 h)))
  generalize (400 : Nat) = f9
  refine zseg_e e (zcal_e _ _ ?_) (zorc_e _ _ ?_) hk ht f9 _ _ _ _
  · exact trivial
  · exact trivial
set_option maxRecDepth 100000 in
set_option maxHeartbeats 0 in
theorem n_Gr_isBufferWithinRoom_13 {ρ : Type} (e : zRes → Option ρ) {krA : Int → zH → Option ρ} {krZ : Int → zH → Option zRes} (hk : ∀ v h, (krZ v h).bind e = krA v h) (t0 : Int) (h : zH) : (Gr_isBufferWithinRoom_13 krZ t0 h).bind e = Gr_isBufferWithinRoom_13 krA t0 h := by
  refine Eq.trans (congrArg (fun z => Option.bind z e) (qe_Gr_isBufferWithinRoom_13 krZ t0 h)) (Eq.trans ?_ (Eq.symm (qe_Gr_isBufferWithinRoom_13 krA t0 h)))
  generalize (400 : Nat) = f9
  refine zseg_e e (zcal_e _ _ ?_) (zorc_e _ _ ?_) hk (fun _ _ => rfl) f9 _ _ _ _
  · exact trivial
  · exact trivial
set_option maxRecDepth 100000 in
set_option maxHeartbeats 0 in
theorem n_Gr_isBufferWithinRoom {ρ : Type} (e : zRes → Option ρ) {krA : Int → zH → Option ρ} {krZ : Int → zH → Option zRes} (hk : ∀ v h, (krZ v h).bind e = krA v h) (a0 : Int) (h : zH) : (Gr_isBufferWithinRoom a0 h krZ).bind e = Gr_isBufferWithinRoom a0 h krA := by
  refine Eq.trans (congrArg (fun z => Option.bind z e) (qe_Gr_isBufferWithinRoom krZ a0 h)) (Eq.trans ?_ (Eq.symm (qe_Gr_isBufferWithinRoom krA a0 h)))
  generalize (400 : Nat) = f9
  refine zseg_e e (zcal_e _ _ ?_) (zorc_e _ _ ?_) hk (fun _ _ => rfl) f9 _ _ _ _
  · exact trivial
  · exact ⟨rfl, rfl, rfl, zap1_e (fun x0 h => n_Gr_isBufferWithinRoom_13 e hk x0 h), trivial⟩
set_option maxRecDepth 100000 in
set_option maxHeartbeats 0 in
theorem n_Un_isInOrder_40 {ρ : Type} (e : zRes → Option ρ) {krA : Int → zH → Option ρ} {krZ : Int → zH → Option zRes} (hk : ∀ v h, (krZ v h).bind e = krA v h) (h : zH) : (Un_isInOrder_40 krZ h).bind e = Un_isInOrder_40 krA h := by
  refine Eq.trans (congrArg (fun z => Option.bind z e) (qe_Un_isInOrder_40 krZ h)) (Eq.trans ?_ (Eq.symm (qe_Un_isInOrder_40 krA h)))
  generalize (400 : Nat) = f9
  refine zseg_e e (zcal_e _ _ ?_) (zorc_e _ _ ?_) hk (fun _ _ => rfl) f9 _ _ _ _
  · exact trivial
  · exact trivial
set_option maxRecDepth 100000 in
set_option maxHeartbeats 0 in
theorem n_Un_isInOrder_79 {ρ : Type} (e : zRes → Option ρ) {krA : Int → zH → Option ρ} {krZ : Int → zH → Option zRes} (hk : ∀ v h, (krZ v h).bind e = krA v h) (t0 : Int) (h : zH) : (Un_isInOrder_79 krZ t0 h).bind e = Un_isInOrder_79 krA t0 h := by
  refine Eq.trans (congrArg (fun z => Option.bind z e) (qe_Un_isInOrder_79 krZ t0 h)) (Eq.trans ?_ (Eq.symm (qe_Un_isInOrder_79 krA t0 h)))
  generalize (400 : Nat) = f9
  refine zseg_e e (zcal_e _ _ ?_) (zorc_e _ _ ?_) hk (fun _ _ => rfl) f9 _ _ _ _
  · exact trivial
  · exact trivial
set_option maxRecDepth 100000 in
set_option maxHeartbeats 0 in
theorem n_Un_isInOrder_78 {ρ : Type} (e : zRes → Option ρ) {krA : Int → zH → Option ρ} {krZ : Int → zH → Option zRes} (hk : ∀ v h, (krZ v h).bind e = krA v h) (h : zH) : (Un_isInOrder_78 krZ h).bind e = Un_isInOrder_78 krA h := by
  refine Eq.trans (congrArg (fun z => Option.bind z e) (qe_Un_isInOrder_78 krZ h)) (Eq.trans ?_ (Eq.symm (qe_Un_isInOrder_78 krA h)))
  generalize (400 : Nat) = f9
  refine zseg_e e (zcal_e _ _ ?_) (zorc_e _ _ ?_) hk (fun _ _ => rfl) f9 _ _ _ _
  · exact trivial
  · exact ⟨rfl, rfl, rfl, zap1_e (fun x0 h => n_Un_isInOrder_79 e hk x0 h), trivial⟩
set_option maxRecDepth 100000 in
set_option maxHeartbeats 0 in
theorem n_Un_isInOrder_2b {ρ : Type} (e : zRes → Option ρ) {krA : Int → zH → Option ρ} {krZ : Int → zH → Option zRes} (hk : ∀ v h, (krZ v h).bind e = krA v h) {r2A : Int → Int → zH → Option ρ} {r2Z : Int → Int → zH → Option zRes} (h2 : ∀ (x0 x1 : Int) (h : zH), (r2Z x0 x1 h).bind e = r2A x0 x1 h) (a0 a1 : Int) (h : zH) : (Un_isInOrder_2b krZ r2Z a0 a1 h).bind e = Un_isInOrder_2b krA r2A a0 a1 h := by
  refine Eq.trans (congrArg (fun z => Option.bind z e) (qe_Un_isInOrder_2b krZ r2Z a0 a1 h)) (Eq.trans ?_ (Eq.symm (qe_Un_isInOrder_2b krA r2A a0 a1 h)))
  generalize (400 : Nat) = f9
  refine zseg_e e (zcal_e _ _ ?_) (zorc_e _ _ ?_) hk (fun _ _ => rfl) f9 _ _ _ _
  · exact ⟨rfl, rfl, zca1_e (fun x0 h k t => n_Gr_isBufferWithinRoom e (fun _ _ => rfl) x0 h), ⟨rfl, rfl, zca1_e (fun x0 h k t => n_La_isOver e (fun _ _ => rfl) x0 h), ⟨rfl, rfl, zca1_e (fun x0 h k t => n_Un_usedRegisters e (fun _ _ => rfl) x0 h), ⟨rfl, rfl, zca1_e (fun x0 h k t => n_Un_usedShared e (fun _ _ => rfl) x0 h), trivial⟩⟩⟩⟩
  · exact ⟨rfl, rfl, rfl, zap2_e h2, ⟨rfl, rfl, rfl, zap0_e (fun  h => n_Un_isInOrder_40 e hk  h), ⟨rfl, rfl, rfl, zap0_e (fun  h => n_Un_isInOrder_78 e hk  h), ⟨rfl, rfl, rfl, zap1_e (fun x0 h => n_Un_isInOrder_79 e hk x0 h), trivial⟩⟩⟩⟩
theorem n_Un_isInOrder_2 {ρ : Type} (e : zRes → Option ρ) {krA : Int → zH → Option ρ} {krZ : Int → zH → Option zRes} (hk : ∀ v h, (krZ v h).bind e = krA v h) (a0 a1 : Int) (h : zH) : (Un_isInOrder_2 krZ a0 a1 h).bind e = Un_isInOrder_2 krA a0 a1 h := zit2_e (fun rA rZ hh a0 a1 h => n_Un_isInOrder_2b e hk hh a0 a1 h) zN a0 a1 h
set_option maxRecDepth 100000 in
set_option maxHeartbeats 0 in
theorem n_Un_isInOrder {ρ : Type} (e : zRes → Option ρ) {krA : Int → zH → Option ρ} {krZ : Int → zH → Option zRes} (hk : ∀ v h, (krZ v h).bind e = krA v h) (a0 : Int) (h : zH) : (Un_isInOrder a0 h krZ).bind e = Un_isInOrder a0 h krA := by
  refine Eq.trans (congrArg (fun z => Option.bind z e) (qe_Un_isInOrder krZ a0 h)) (Eq.trans ?_ (Eq.symm (qe_Un_isInOrder krA a0 h)))
  generalize (400 : Nat) = f9
  refine zseg_e e (zcal_e _ _ ?_) (zorc_e _ _ ?_) hk (fun _ _ => rfl) f9 _ _ _ _
  · exact trivial
  · exact ⟨rfl, rfl, rfl, zap2_e (fun x0 x1 h => n_Un_isInOrder_2 e hk x0 x1 h), trivial⟩
set_option maxRecDepth 100000 in
set_option maxHeartbeats 0 in
theorem n_X_isSound_2b {ρ : Type} (e : zRes → Option ρ) {krA : Int → zH → Option ρ} {krZ : Int → zH → Option zRes} (hk : ∀ v h, (krZ v h).bind e = krA v h) {r2A : Int → Int → zH → Option ρ} {r2Z : Int → Int → zH → Option zRes} (h2 : ∀ (x0 x1 : Int) (h : zH), (r2Z x0 x1 h).bind e = r2A x0 x1 h) (a0 a1 : Int) (h : zH) : (X_isSound_2b krZ r2Z a0 a1 h).bind e = X_isSound_2b krA r2A a0 a1 h := by
  refine Eq.trans (congrArg (fun z => Option.bind z e) (qe_X_isSound_2b krZ r2Z a0 a1 h)) (Eq.trans ?_ (Eq.symm (qe_X_isSound_2b krA r2A a0 a1 h)))
  generalize (400 : Nat) = f9
  refine zseg_e e (zcal_e _ _ ?_) (zorc_e _ _ ?_) hk (fun _ _ => rfl) f9 _ _ _ _
  · exact ⟨rfl, rfl, zca1_e (fun x0 h k t => n_Un_isInOrder e (fun _ _ => rfl) x0 h), trivial⟩
  · exact ⟨rfl, rfl, rfl, zap2_e h2, trivial⟩
theorem n_X_isSound_2 {ρ : Type} (e : zRes → Option ρ) {krA : Int → zH → Option ρ} {krZ : Int → zH → Option zRes} (hk : ∀ v h, (krZ v h).bind e = krA v h) (a0 a1 : Int) (h : zH) : (X_isSound_2 krZ a0 a1 h).bind e = X_isSound_2 krA a0 a1 h := zit2_e (fun rA rZ hh a0 a1 h => n_X_isSound_2b e hk hh a0 a1 h) zN a0 a1 h
set_option maxRecDepth 100000 in
set_option maxHeartbeats 0 in
theorem n_X_isSound {ρ : Type} (e : zRes → Option ρ) {krA : Int → zH → Option ρ} {krZ : Int → zH → Option zRes} (hk : ∀ v h, (krZ v h).bind e = krA v h) (a0 : Int) (h : zH) : (X_isSound a0 h krZ).bind e = X_isSound a0 h krA := by
  refine Eq.trans (congrArg (fun z => Option.bind z e) (qe_X_isSound krZ a0 h)) (Eq.trans ?_ (Eq.symm (qe_X_isSound krA a0 h)))
  generalize (400 : Nat) = f9
  refine zseg_e e (zcal_e _ _ ?_) (zorc_e _ _ ?_) hk (fun _ _ => rfl) f9 _ _ _ _
  · exact trivial
  · exact ⟨rfl, rfl, rfl, zap2_e (fun x0 x1 h => n_X_isSound_2 e hk x0 x1 h), trivial⟩
set_option maxRecDepth 100000 in
set_option maxHeartbeats 0 in
theorem n_M_init_446 {ρ : Type} (e : zRes → Option ρ) {krA : Int → zH → Option ρ} {krZ : Int → zH → Option zRes} (hk : ∀ v h, (krZ v h).bind e = krA v h) (a0 : Int) (h : zH) : (M_init_446 krZ a0 h).bind e = M_init_446 krA a0 h := by
  refine Eq.trans (congrArg (fun z => Option.bind z e) (qe_M_init_446 krZ a0 h)) (Eq.trans ?_ (Eq.symm (qe_M_init_446 krA a0 h)))
  generalize (400 : Nat) = f9
  refine zseg_e e (zcal_e _ _ ?_) (zorc_e _ _ ?_) hk (fun _ _ => rfl) f9 _ _ _ _
  · exact trivial
  · exact trivial
set_option maxRecDepth 100000 in
set_option maxHeartbeats 0 in
theorem n_M_init_363 {ρ : Type} (e : zRes → Option ρ) {krA : Int → zH → Option ρ} {krZ : Int → zH → Option zRes} (hk : ∀ v h, (krZ v h).bind e = krA v h) (a0 : Int) (h : zH) : (M_init_363 krZ a0 h).bind e = M_init_363 krA a0 h := by
  refine Eq.trans (congrArg (fun z => Option.bind z e) (qe_M_init_363 krZ a0 h)) (Eq.trans ?_ (Eq.symm (qe_M_init_363 krA a0 h)))
  generalize (400 : Nat) = f9
  refine zseg_e e (zcal_e _ _ ?_) (zorc_e _ _ ?_) hk (fun _ _ => rfl) f9 _ _ _ _
  · exact trivial
  · exact ⟨rfl, rfl, rfl, zap1_e (fun x0 h => n_M_init_446 e hk x0 h), trivial⟩
set_option maxRecDepth 100000 in
set_option maxHeartbeats 0 in
theorem n_M_init_285 {ρ : Type} (e : zRes → Option ρ) {krA : Int → zH → Option ρ} {krZ : Int → zH → Option zRes} (hk : ∀ v h, (krZ v h).bind e = krA v h) (a0 : Int) (h : zH) : (M_init_285 krZ a0 h).bind e = M_init_285 krA a0 h := by
  refine Eq.trans (congrArg (fun z => Option.bind z e) (qe_M_init_285 krZ a0 h)) (Eq.trans ?_ (Eq.symm (qe_M_init_285 krA a0 h)))
  generalize (400 : Nat) = f9
  refine zseg_e e (zcal_e _ _ ?_) (zorc_e _ _ ?_) hk (fun _ _ => rfl) f9 _ _ _ _
  · exact trivial
  · exact ⟨rfl, rfl, rfl, zap1_e (fun x0 h => n_M_init_363 e hk x0 h), trivial⟩
set_option maxRecDepth 100000 in
set_option maxHeartbeats 0 in
theorem n_M_init_186 {ρ : Type} (e : zRes → Option ρ) {krA : Int → zH → Option ρ} {krZ : Int → zH → Option zRes} (hk : ∀ v h, (krZ v h).bind e = krA v h) (a0 : Int) (h : zH) : (M_init_186 krZ a0 h).bind e = M_init_186 krA a0 h := by
  refine Eq.trans (congrArg (fun z => Option.bind z e) (qe_M_init_186 krZ a0 h)) (Eq.trans ?_ (Eq.symm (qe_M_init_186 krA a0 h)))
  generalize (400 : Nat) = f9
  refine zseg_e e (zcal_e _ _ ?_) (zorc_e _ _ ?_) hk (fun _ _ => rfl) f9 _ _ _ _
  · exact trivial
  · exact ⟨rfl, rfl, rfl, zap1_e (fun x0 h => n_M_init_285 e hk x0 h), trivial⟩
set_option maxRecDepth 100000 in
set_option maxHeartbeats 0 in
theorem n_M_init_90 {ρ : Type} (e : zRes → Option ρ) {krA : Int → zH → Option ρ} {krZ : Int → zH → Option zRes} (hk : ∀ v h, (krZ v h).bind e = krA v h) (a0 : Int) (h : zH) : (M_init_90 krZ a0 h).bind e = M_init_90 krA a0 h := by
  refine Eq.trans (congrArg (fun z => Option.bind z e) (qe_M_init_90 krZ a0 h)) (Eq.trans ?_ (Eq.symm (qe_M_init_90 krA a0 h)))
  generalize (400 : Nat) = f9
  refine zseg_e e (zcal_e _ _ ?_) (zorc_e _ _ ?_) hk (fun _ _ => rfl) f9 _ _ _ _
  · exact trivial
  · exact ⟨rfl, rfl, rfl, zap1_e (fun x0 h => n_M_init_186 e hk x0 h), trivial⟩
set_option maxRecDepth 100000 in
set_option maxHeartbeats 0 in
theorem n_M_init {ρ : Type} (e : zRes → Option ρ) {krA : Int → zH → Option ρ} {krZ : Int → zH → Option zRes} (hk : ∀ v h, (krZ v h).bind e = krA v h) (a0 : Int) (h : zH) : (M_init a0 h krZ).bind e = M_init a0 h krA := by
  refine Eq.trans (congrArg (fun z => Option.bind z e) (qe_M_init krZ a0 h)) (Eq.trans ?_ (Eq.symm (qe_M_init krA a0 h)))
  generalize (400 : Nat) = f9
  refine zseg_e e (zcal_e _ _ ?_) (zorc_e _ _ ?_) hk (fun _ _ => rfl) f9 _ _ _ _
  · exact trivial
  · exact ⟨rfl, rfl, rfl, zap1_e (fun x0 h => n_M_init_90 e hk x0 h), trivial⟩
