set_option maxRecDepth 100000 in
theorem n_It_bitCount {ρ : Type} (e : zRes → Option ρ) {krA : Int → zH → Option ρ} {krZ : Int → zH → Option zRes} (hk : ∀ v h, (krZ v h).bind e = krA v h) (a0 : Int) (h : zH) : (It_bitCount a0 h krZ).bind e = It_bitCount a0 h krA := by
  refine Eq.trans (congrArg (fun z => Option.bind z e) (qe_It_bitCount krZ a0 h)) (Eq.trans ?_ (Eq.symm (qe_It_bitCount krA a0 h)))
  refine zseg_e e (zcal_e _ _ ?_) (zorc_e _ _ ?_) hk (fun _ _ => rfl) 400 _ _ _ _
  · exact trivial
  · exact trivial
set_option maxRecDepth 100000 in
theorem n_Ma_floorMod_18 {ρ : Type} (e : zRes → Option ρ) {krA : Int → zH → Option ρ} {krZ : Int → zH → Option zRes} (hk : ∀ v h, (krZ v h).bind e = krA v h) (a2 : Int) (h : zH) : (Ma_floorMod_18 krZ a2 h).bind e = Ma_floorMod_18 krA a2 h := by
  refine Eq.trans (congrArg (fun z => Option.bind z e) (qe_Ma_floorMod_18 krZ a2 h)) (Eq.trans ?_ (Eq.symm (qe_Ma_floorMod_18 krA a2 h)))
  refine zseg_e e (zcal_e _ _ ?_) (zorc_e _ _ ?_) hk (fun _ _ => rfl) 400 _ _ _ _
  · exact trivial
  · exact trivial
set_option maxRecDepth 100000 in
theorem n_Ma_floorMod {ρ : Type} (e : zRes → Option ρ) {krA : Int → zH → Option ρ} {krZ : Int → zH → Option zRes} (hk : ∀ v h, (krZ v h).bind e = krA v h) (a0 a1 : Int) (h : zH) : (Ma_floorMod a0 a1 h krZ).bind e = Ma_floorMod a0 a1 h krA := by
  refine Eq.trans (congrArg (fun z => Option.bind z e) (qe_Ma_floorMod krZ a0 a1 h)) (Eq.trans ?_ (Eq.symm (qe_Ma_floorMod krA a0 a1 h)))
  refine zseg_e e (zcal_e _ _ ?_) (zorc_e _ _ ?_) hk (fun _ _ => rfl) 400 _ _ _ _
  · exact trivial
  · exact ⟨rfl, rfl, rfl, zap1_e (fun x0 h => n_Ma_floorMod_18 e hk x0 h), trivial⟩
set_option maxRecDepth 100000 in
theorem n_Ma_max_10 {ρ : Type} (e : zRes → Option ρ) {krA : Int → zH → Option ρ} {krZ : Int → zH → Option zRes} (hk : ∀ v h, (krZ v h).bind e = krA v h) (t0 : Int) (h : zH) : (Ma_max_10 krZ t0 h).bind e = Ma_max_10 krA t0 h := by
  refine Eq.trans (congrArg (fun z => Option.bind z e) (qe_Ma_max_10 krZ t0 h)) (Eq.trans ?_ (Eq.symm (qe_Ma_max_10 krA t0 h)))
  refine zseg_e e (zcal_e _ _ ?_) (zorc_e _ _ ?_) hk (fun _ _ => rfl) 400 _ _ _ _
  · exact trivial
  · exact trivial
set_option maxRecDepth 100000 in
theorem n_Ma_max {ρ : Type} (e : zRes → Option ρ) {krA : Int → zH → Option ρ} {krZ : Int → zH → Option zRes} (hk : ∀ v h, (krZ v h).bind e = krA v h) (a0 a1 : Int) (h : zH) : (Ma_max a0 a1 h krZ).bind e = Ma_max a0 a1 h krA := by
  refine Eq.trans (congrArg (fun z => Option.bind z e) (qe_Ma_max krZ a0 a1 h)) (Eq.trans ?_ (Eq.symm (qe_Ma_max krA a0 a1 h)))
  refine zseg_e e (zcal_e _ _ ?_) (zorc_e _ _ ?_) hk (fun _ _ => rfl) 400 _ _ _ _
  · exact trivial
  · exact ⟨rfl, rfl, rfl, zap1_e (fun x0 h => n_Ma_max_10 e hk x0 h), trivial⟩
set_option maxRecDepth 100000 in
theorem n_Ma_min_10 {ρ : Type} (e : zRes → Option ρ) {krA : Int → zH → Option ρ} {krZ : Int → zH → Option zRes} (hk : ∀ v h, (krZ v h).bind e = krA v h) (t0 : Int) (h : zH) : (Ma_min_10 krZ t0 h).bind e = Ma_min_10 krA t0 h := by
  refine Eq.trans (congrArg (fun z => Option.bind z e) (qe_Ma_min_10 krZ t0 h)) (Eq.trans ?_ (Eq.symm (qe_Ma_min_10 krA t0 h)))
  refine zseg_e e (zcal_e _ _ ?_) (zorc_e _ _ ?_) hk (fun _ _ => rfl) 400 _ _ _ _
  · exact trivial
  · exact trivial
set_option maxRecDepth 100000 in
theorem n_Ma_min {ρ : Type} (e : zRes → Option ρ) {krA : Int → zH → Option ρ} {krZ : Int → zH → Option zRes} (hk : ∀ v h, (krZ v h).bind e = krA v h) (a0 a1 : Int) (h : zH) : (Ma_min a0 a1 h krZ).bind e = Ma_min a0 a1 h krA := by
  refine Eq.trans (congrArg (fun z => Option.bind z e) (qe_Ma_min krZ a0 a1 h)) (Eq.trans ?_ (Eq.symm (qe_Ma_min krA a0 a1 h)))
  refine zseg_e e (zcal_e _ _ ?_) (zorc_e _ _ ?_) hk (fun _ _ => rfl) 400 _ _ _ _
  · exact trivial
  · exact ⟨rfl, rfl, rfl, zap1_e (fun x0 h => n_Ma_min_10 e hk x0 h), trivial⟩
set_option maxRecDepth 100000 in
theorem n_Ar_fill_29_5b {ρ : Type} (e : zRes → Option ρ) {krA : Int → zH → Option ρ} {krZ : Int → zH → Option zRes} (hk : ∀ v h, (krZ v h).bind e = krA v h) {r5A : Int → Int → Int → Int → zH → Option ρ} {r5Z : Int → Int → Int → Int → zH → Option zRes} (h5 : ∀ (x0 x1 x2 x3 : Int) (h : zH), (r5Z x0 x1 x2 x3 h).bind e = r5A x0 x1 x2 x3 h) (a0 a1 a2 a3 : Int) (h : zH) : (Ar_fill_29_5b krZ r5Z a0 a1 a2 a3 h).bind e = Ar_fill_29_5b krA r5A a0 a1 a2 a3 h := by
  refine Eq.trans (congrArg (fun z => Option.bind z e) (qe_Ar_fill_29_5b krZ r5Z a0 a1 a2 a3 h)) (Eq.trans ?_ (Eq.symm (qe_Ar_fill_29_5b krA r5A a0 a1 a2 a3 h)))
  refine zseg_e e (zcal_e _ _ ?_) (zorc_e _ _ ?_) hk (fun _ _ => rfl) 400 _ _ _ _
  · exact trivial
  · exact ⟨rfl, rfl, rfl, zap4_e h5, trivial⟩
theorem n_Ar_fill_29_5 {ρ : Type} (e : zRes → Option ρ) {krA : Int → zH → Option ρ} {krZ : Int → zH → Option zRes} (hk : ∀ v h, (krZ v h).bind e = krA v h) (a0 a1 a2 a3 : Int) (h : zH) : (Ar_fill_29_5 krZ a0 a1 a2 a3 h).bind e = Ar_fill_29_5 krA a0 a1 a2 a3 h := zit4_e (fun rA rZ hh a0 a1 a2 a3 h => n_Ar_fill_29_5b e hk hh a0 a1 a2 a3 h) zN a0 a1 a2 a3 h
set_option maxRecDepth 100000 in
theorem n_Ar_fill_29 {ρ : Type} (e : zRes → Option ρ) {krA : Int → zH → Option ρ} {krZ : Int → zH → Option zRes} (hk : ∀ v h, (krZ v h).bind e = krA v h) (a0 a1 : Int) (h : zH) : (Ar_fill_29 a0 a1 h krZ).bind e = Ar_fill_29 a0 a1 h krA := by
  refine Eq.trans (congrArg (fun z => Option.bind z e) (qe_Ar_fill_29 krZ a0 a1 h)) (Eq.trans ?_ (Eq.symm (qe_Ar_fill_29 krA a0 a1 h)))
  refine zseg_e e (zcal_e _ _ ?_) (zorc_e _ _ ?_) hk (fun _ _ => rfl) 400 _ _ _ _
  · exact trivial
  · exact ⟨rfl, rfl, rfl, zap4_e (fun x0 x1 x2 x3 h => n_Ar_fill_29_5 e hk x0 x1 x2 x3 h), trivial⟩
set_option maxRecDepth 100000 in
theorem n_Ar_fill_31_5b {ρ : Type} (e : zRes → Option ρ) {krA : Int → zH → Option ρ} {krZ : Int → zH → Option zRes} (hk : ∀ v h, (krZ v h).bind e = krA v h) {r5A : Int → Int → Int → Int → zH → Option ρ} {r5Z : Int → Int → Int → Int → zH → Option zRes} (h5 : ∀ (x0 x1 x2 x3 : Int) (h : zH), (r5Z x0 x1 x2 x3 h).bind e = r5A x0 x1 x2 x3 h) (a0 a1 a2 a3 : Int) (h : zH) : (Ar_fill_31_5b krZ r5Z a0 a1 a2 a3 h).bind e = Ar_fill_31_5b krA r5A a0 a1 a2 a3 h := by
  refine Eq.trans (congrArg (fun z => Option.bind z e) (qe_Ar_fill_31_5b krZ r5Z a0 a1 a2 a3 h)) (Eq.trans ?_ (Eq.symm (qe_Ar_fill_31_5b krA r5A a0 a1 a2 a3 h)))
  refine zseg_e e (zcal_e _ _ ?_) (zorc_e _ _ ?_) hk (fun _ _ => rfl) 400 _ _ _ _
  · exact trivial
  · exact ⟨rfl, rfl, rfl, zap4_e h5, trivial⟩
theorem n_Ar_fill_31_5 {ρ : Type} (e : zRes → Option ρ) {krA : Int → zH → Option ρ} {krZ : Int → zH → Option zRes} (hk : ∀ v h, (krZ v h).bind e = krA v h) (a0 a1 a2 a3 : Int) (h : zH) : (Ar_fill_31_5 krZ a0 a1 a2 a3 h).bind e = Ar_fill_31_5 krA a0 a1 a2 a3 h := zit4_e (fun rA rZ hh a0 a1 a2 a3 h => n_Ar_fill_31_5b e hk hh a0 a1 a2 a3 h) zN a0 a1 a2 a3 h
set_option maxRecDepth 100000 in
theorem n_Ar_fill_31 {ρ : Type} (e : zRes → Option ρ) {krA : Int → zH → Option ρ} {krZ : Int → zH → Option zRes} (hk : ∀ v h, (krZ v h).bind e = krA v h) (a0 a1 : Int) (h : zH) : (Ar_fill_31 a0 a1 h krZ).bind e = Ar_fill_31 a0 a1 h krA := by
  refine Eq.trans (congrArg (fun z => Option.bind z e) (qe_Ar_fill_31 krZ a0 a1 h)) (Eq.trans ?_ (Eq.symm (qe_Ar_fill_31 krA a0 a1 h)))
  refine zseg_e e (zcal_e _ _ ?_) (zorc_e _ _ ?_) hk (fun _ _ => rfl) 400 _ _ _ _
  · exact trivial
  · exact ⟨rfl, rfl, rfl, zap4_e (fun x0 x1 x2 x3 h => n_Ar_fill_31_5 e hk x0 x1 x2 x3 h), trivial⟩
set_option maxRecDepth 100000 in
theorem n_Ar_fill_32_5b {ρ : Type} (e : zRes → Option ρ) {krA : Int → zH → Option ρ} {krZ : Int → zH → Option zRes} (hk : ∀ v h, (krZ v h).bind e = krA v h) {r5A : Int → Int → Int → Int → zH → Option ρ} {r5Z : Int → Int → Int → Int → zH → Option zRes} (h5 : ∀ (x0 x1 x2 x3 : Int) (h : zH), (r5Z x0 x1 x2 x3 h).bind e = r5A x0 x1 x2 x3 h) (a0 a1 a2 a3 : Int) (h : zH) : (Ar_fill_32_5b krZ r5Z a0 a1 a2 a3 h).bind e = Ar_fill_32_5b krA r5A a0 a1 a2 a3 h := by
  refine Eq.trans (congrArg (fun z => Option.bind z e) (qe_Ar_fill_32_5b krZ r5Z a0 a1 a2 a3 h)) (Eq.trans ?_ (Eq.symm (qe_Ar_fill_32_5b krA r5A a0 a1 a2 a3 h)))
  refine zseg_e e (zcal_e _ _ ?_) (zorc_e _ _ ?_) hk (fun _ _ => rfl) 400 _ _ _ _
  · exact trivial
  · exact ⟨rfl, rfl, rfl, zap4_e h5, trivial⟩
theorem n_Ar_fill_32_5 {ρ : Type} (e : zRes → Option ρ) {krA : Int → zH → Option ρ} {krZ : Int → zH → Option zRes} (hk : ∀ v h, (krZ v h).bind e = krA v h) (a0 a1 a2 a3 : Int) (h : zH) : (Ar_fill_32_5 krZ a0 a1 a2 a3 h).bind e = Ar_fill_32_5 krA a0 a1 a2 a3 h := zit4_e (fun rA rZ hh a0 a1 a2 a3 h => n_Ar_fill_32_5b e hk hh a0 a1 a2 a3 h) zN a0 a1 a2 a3 h
set_option maxRecDepth 100000 in
theorem n_Ar_fill_32 {ρ : Type} (e : zRes → Option ρ) {krA : Int → zH → Option ρ} {krZ : Int → zH → Option zRes} (hk : ∀ v h, (krZ v h).bind e = krA v h) (a0 a1 : Int) (h : zH) : (Ar_fill_32 a0 a1 h krZ).bind e = Ar_fill_32 a0 a1 h krA := by
  refine Eq.trans (congrArg (fun z => Option.bind z e) (qe_Ar_fill_32 krZ a0 a1 h)) (Eq.trans ?_ (Eq.symm (qe_Ar_fill_32 krA a0 a1 h)))
  refine zseg_e e (zcal_e _ _ ?_) (zorc_e _ _ ?_) hk (fun _ _ => rfl) 400 _ _ _ _
  · exact trivial
  · exact ⟨rfl, rfl, rfl, zap4_e (fun x0 x1 x2 x3 h => n_Ar_fill_32_5 e hk x0 x1 x2 x3 h), trivial⟩
set_option maxRecDepth 100000 in
theorem n_Ar_fill_39_5b {ρ : Type} (e : zRes → Option ρ) {krA : Int → zH → Option ρ} {krZ : Int → zH → Option zRes} (hk : ∀ v h, (krZ v h).bind e = krA v h) {r5A : Int → Int → Int → Int → zH → Option ρ} {r5Z : Int → Int → Int → Int → zH → Option zRes} (h5 : ∀ (x0 x1 x2 x3 : Int) (h : zH), (r5Z x0 x1 x2 x3 h).bind e = r5A x0 x1 x2 x3 h) (a0 a1 a2 a3 : Int) (h : zH) : (Ar_fill_39_5b krZ r5Z a0 a1 a2 a3 h).bind e = Ar_fill_39_5b krA r5A a0 a1 a2 a3 h := by
  refine Eq.trans (congrArg (fun z => Option.bind z e) (qe_Ar_fill_39_5b krZ r5Z a0 a1 a2 a3 h)) (Eq.trans ?_ (Eq.symm (qe_Ar_fill_39_5b krA r5A a0 a1 a2 a3 h)))
  refine zseg_e e (zcal_e _ _ ?_) (zorc_e _ _ ?_) hk (fun _ _ => rfl) 400 _ _ _ _
  · exact trivial
  · exact ⟨rfl, rfl, rfl, zap4_e h5, trivial⟩
theorem n_Ar_fill_39_5 {ρ : Type} (e : zRes → Option ρ) {krA : Int → zH → Option ρ} {krZ : Int → zH → Option zRes} (hk : ∀ v h, (krZ v h).bind e = krA v h) (a0 a1 a2 a3 : Int) (h : zH) : (Ar_fill_39_5 krZ a0 a1 a2 a3 h).bind e = Ar_fill_39_5 krA a0 a1 a2 a3 h := zit4_e (fun rA rZ hh a0 a1 a2 a3 h => n_Ar_fill_39_5b e hk hh a0 a1 a2 a3 h) zN a0 a1 a2 a3 h
set_option maxRecDepth 100000 in
theorem n_Ar_fill_39 {ρ : Type} (e : zRes → Option ρ) {krA : Int → zH → Option ρ} {krZ : Int → zH → Option zRes} (hk : ∀ v h, (krZ v h).bind e = krA v h) (a0 a1 : Int) (h : zH) : (Ar_fill_39 a0 a1 h krZ).bind e = Ar_fill_39 a0 a1 h krA := by
  refine Eq.trans (congrArg (fun z => Option.bind z e) (qe_Ar_fill_39 krZ a0 a1 h)) (Eq.trans ?_ (Eq.symm (qe_Ar_fill_39 krA a0 a1 h)))
  refine zseg_e e (zcal_e _ _ ?_) (zorc_e _ _ ?_) hk (fun _ _ => rfl) 400 _ _ _ _
  · exact trivial
  · exact ⟨rfl, rfl, rfl, zap4_e (fun x0 x1 x2 x3 h => n_Ar_fill_39_5 e hk x0 x1 x2 x3 h), trivial⟩
set_option maxRecDepth 100000 in
theorem n_Ar_fill_40_5b {ρ : Type} (e : zRes → Option ρ) {krA : Int → zH → Option ρ} {krZ : Int → zH → Option zRes} (hk : ∀ v h, (krZ v h).bind e = krA v h) {r5A : Int → Int → Int → Int → zH → Option ρ} {r5Z : Int → Int → Int → Int → zH → Option zRes} (h5 : ∀ (x0 x1 x2 x3 : Int) (h : zH), (r5Z x0 x1 x2 x3 h).bind e = r5A x0 x1 x2 x3 h) (a0 a1 a2 a3 : Int) (h : zH) : (Ar_fill_40_5b krZ r5Z a0 a1 a2 a3 h).bind e = Ar_fill_40_5b krA r5A a0 a1 a2 a3 h := by
  refine Eq.trans (congrArg (fun z => Option.bind z e) (qe_Ar_fill_40_5b krZ r5Z a0 a1 a2 a3 h)) (Eq.trans ?_ (Eq.symm (qe_Ar_fill_40_5b krA r5A a0 a1 a2 a3 h)))
  refine zseg_e e (zcal_e _ _ ?_) (zorc_e _ _ ?_) hk (fun _ _ => rfl) 400 _ _ _ _
  · exact trivial
  · exact ⟨rfl, rfl, rfl, zap4_e h5, trivial⟩
theorem n_Ar_fill_40_5 {ρ : Type} (e : zRes → Option ρ) {krA : Int → zH → Option ρ} {krZ : Int → zH → Option zRes} (hk : ∀ v h, (krZ v h).bind e = krA v h) (a0 a1 a2 a3 : Int) (h : zH) : (Ar_fill_40_5 krZ a0 a1 a2 a3 h).bind e = Ar_fill_40_5 krA a0 a1 a2 a3 h := zit4_e (fun rA rZ hh a0 a1 a2 a3 h => n_Ar_fill_40_5b e hk hh a0 a1 a2 a3 h) zN a0 a1 a2 a3 h
set_option maxRecDepth 100000 in
theorem n_Ar_fill_40 {ρ : Type} (e : zRes → Option ρ) {krA : Int → zH → Option ρ} {krZ : Int → zH → Option zRes} (hk : ∀ v h, (krZ v h).bind e = krA v h) (a0 a1 : Int) (h : zH) : (Ar_fill_40 a0 a1 h krZ).bind e = Ar_fill_40 a0 a1 h krA := by
  refine Eq.trans (congrArg (fun z => Option.bind z e) (qe_Ar_fill_40 krZ a0 a1 h)) (Eq.trans ?_ (Eq.symm (qe_Ar_fill_40 krA a0 a1 h)))
  refine zseg_e e (zcal_e _ _ ?_) (zorc_e _ _ ?_) hk (fun _ _ => rfl) 400 _ _ _ _
  · exact trivial
  · exact ⟨rfl, rfl, rfl, zap4_e (fun x0 x1 x2 x3 h => n_Ar_fill_40_5 e hk x0 x1 x2 x3 h), trivial⟩
set_option maxRecDepth 100000 in
theorem n_Fi_init {ρ : Type} (e : zRes → Option ρ) {krA : Int → zH → Option ρ} {krZ : Int → zH → Option zRes} (hk : ∀ v h, (krZ v h).bind e = krA v h) (a0 : Int) (h : zH) : (Fi_init a0 h krZ).bind e = Fi_init a0 h krA := by
  refine Eq.trans (congrArg (fun z => Option.bind z e) (qe_Fi_init krZ a0 h)) (Eq.trans ?_ (Eq.symm (qe_Fi_init krA a0 h)))
  refine zseg_e e (zcal_e _ _ ?_) (zorc_e _ _ ?_) hk (fun _ _ => rfl) 400 _ _ _ _
  · exact trivial
  · exact trivial
set_option maxRecDepth 100000 in
theorem n_Un_init {ρ : Type} (e : zRes → Option ρ) {krA : Int → zH → Option ρ} {krZ : Int → zH → Option zRes} (hk : ∀ v h, (krZ v h).bind e = krA v h) (a0 : Int) (h : zH) : (Un_init a0 h krZ).bind e = Un_init a0 h krA := by
  refine Eq.trans (congrArg (fun z => Option.bind z e) (qe_Un_init krZ a0 h)) (Eq.trans ?_ (Eq.symm (qe_Un_init krA a0 h)))
  refine zseg_e e (zcal_e _ _ ?_) (zorc_e _ _ ?_) hk (fun _ _ => rfl) 400 _ _ _ _
  · exact trivial
  · exact trivial
set_option maxRecDepth 100000 in
theorem n_Co_init {ρ : Type} (e : zRes → Option ρ) {krA : Int → zH → Option ρ} {krZ : Int → zH → Option zRes} (hk : ∀ v h, (krZ v h).bind e = krA v h) (a0 a1 : Int) (h : zH) : (Co_init a0 a1 h krZ).bind e = Co_init a0 a1 h krA := by
  refine Eq.trans (congrArg (fun z => Option.bind z e) (qe_Co_init krZ a0 a1 h)) (Eq.trans ?_ (Eq.symm (qe_Co_init krA a0 a1 h)))
  refine zseg_e e (zcal_e _ _ ?_) (zorc_e _ _ ?_) hk (fun _ _ => rfl) 400 _ _ _ _
  · exact ⟨rfl, rfl, zca1_e (fun x0 h k t => n_Fi_init e (fun _ _ => rfl) x0 h), ⟨rfl, rfl, zca1_e (fun x0 h k t => n_Un_init e (fun _ _ => rfl) x0 h), trivial⟩⟩
  · exact trivial
set_option maxRecDepth 100000 in
theorem n_Le_init {ρ : Type} (e : zRes → Option ρ) {krA : Int → zH → Option ρ} {krZ : Int → zH → Option zRes} (hk : ∀ v h, (krZ v h).bind e = krA v h) (a0 : Int) (h : zH) : (Le_init a0 h krZ).bind e = Le_init a0 h krA := by
  refine Eq.trans (congrArg (fun z => Option.bind z e) (qe_Le_init krZ a0 h)) (Eq.trans ?_ (Eq.symm (qe_Le_init krA a0 h)))
  refine zseg_e e (zcal_e _ _ ?_) (zorc_e _ _ ?_) hk (fun _ _ => rfl) 400 _ _ _ _
  · exact trivial
  · exact trivial
set_option maxRecDepth 100000 in
theorem n_Th_init {ρ : Type} (e : zRes → Option ρ) {krA : Int → zH → Option ρ} {krZ : Int → zH → Option zRes} (hk : ∀ v h, (krZ v h).bind e = krA v h) (a0 a1 a2 : Int) (h : zH) : (Th_init a0 a1 a2 h krZ).bind e = Th_init a0 a1 a2 h krA := by
  refine Eq.trans (congrArg (fun z => Option.bind z e) (qe_Th_init krZ a0 a1 a2 h)) (Eq.trans ?_ (Eq.symm (qe_Th_init krA a0 a1 a2 h)))
  refine zseg_e e (zcal_e _ _ ?_) (zorc_e _ _ ?_) hk (fun _ _ => rfl) 400 _ _ _ _
  · exact ⟨rfl, rfl, zca2_e (fun x0 x1 h k t => n_Ma_max e (fun _ _ => rfl) x0 x1 h), trivial⟩
  · exact trivial
set_option maxRecDepth 100000 in
theorem n_Re_init_39b {ρ : Type} (e : zRes → Option ρ) {krA : Int → zH → Option ρ} {krZ : Int → zH → Option zRes} (hk : ∀ v h, (krZ v h).bind e = krA v h) {r39A : Int → Int → zH → Option ρ} {r39Z : Int → Int → zH → Option zRes} (h39 : ∀ (x0 x1 : Int) (h : zH), (r39Z x0 x1 h).bind e = r39A x0 x1 h) (a0 a1 : Int) (h : zH) : (Re_init_39b krZ r39Z a0 a1 h).bind e = Re_init_39b krA r39A a0 a1 h := by
  refine Eq.trans (congrArg (fun z => Option.bind z e) (qe_Re_init_39b krZ r39Z a0 a1 h)) (Eq.trans ?_ (Eq.symm (qe_Re_init_39b krA r39A a0 a1 h)))
  refine zseg_e e (zcal_e _ _ ?_) (zorc_e _ _ ?_) hk (fun _ _ => rfl) 400 _ _ _ _
  · exact ⟨rfl, rfl, zca3_e (fun x0 x1 x2 h k t => n_Th_init e (fun _ _ => rfl) x0 x1 x2 h), trivial⟩
  · exact ⟨rfl, rfl, rfl, zap2_e h39, trivial⟩
theorem n_Re_init_39 {ρ : Type} (e : zRes → Option ρ) {krA : Int → zH → Option ρ} {krZ : Int → zH → Option zRes} (hk : ∀ v h, (krZ v h).bind e = krA v h) (a0 a1 : Int) (h : zH) : (Re_init_39 krZ a0 a1 h).bind e = Re_init_39 krA a0 a1 h := zit2_e (fun rA rZ hh a0 a1 h => n_Re_init_39b e hk hh a0 a1 h) zN a0 a1 h
set_option maxRecDepth 100000 in
theorem n_Re_init {ρ : Type} (e : zRes → Option ρ) {krA : Int → zH → Option ρ} {krZ : Int → zH → Option zRes} (hk : ∀ v h, (krZ v h).bind e = krA v h) (a0 : Int) (h : zH) : (Re_init a0 h krZ).bind e = Re_init a0 h krA := by
  refine Eq.trans (congrArg (fun z => Option.bind z e) (qe_Re_init krZ a0 h)) (Eq.trans ?_ (Eq.symm (qe_Re_init krA a0 h)))
  refine zseg_e e (zcal_e _ _ ?_) (zorc_e _ _ ?_) hk (fun _ _ => rfl) 400 _ _ _ _
  · exact trivial
  · exact ⟨rfl, rfl, rfl, zap2_e (fun x0 x1 h => n_Re_init_39 e hk x0 x1 h), trivial⟩
set_option maxRecDepth 100000 in
theorem n_X_init {ρ : Type} (e : zRes → Option ρ) {krA : Int → zH → Option ρ} {krZ : Int → zH → Option zRes} (hk : ∀ v h, (krZ v h).bind e = krA v h) (a0 : Int) (h : zH) : (X_init a0 h krZ).bind e = X_init a0 h krA := by
  refine Eq.trans (congrArg (fun z => Option.bind z e) (qe_X_init krZ a0 h)) (Eq.trans ?_ (Eq.symm (qe_X_init krA a0 h)))
  refine zseg_e e (zcal_e _ _ ?_) (zorc_e _ _ ?_) hk (fun _ _ => rfl) 400 _ _ _ _
  · exact ⟨rfl, rfl, zca2_e (fun x0 x1 h k t => n_Co_init e (fun _ _ => rfl) x0 x1 h), ⟨rfl, rfl, zca1_e (fun x0 h k t => n_Le_init e (fun _ _ => rfl) x0 h), ⟨rfl, rfl, zca1_e (fun x0 h k t => n_Re_init e (fun _ _ => rfl) x0 h), trivial⟩⟩⟩
  · exact trivial
set_option maxRecDepth 100000 in
theorem n_X_isWithin_15 {ρ : Type} (e : zRes → Option ρ) {krA : Int → zH → Option ρ} {krZ : Int → zH → Option zRes} (hk : ∀ v h, (krZ v h).bind e = krA v h) (t0 : Int) (h : zH) : (X_isWithin_15 krZ t0 h).bind e = X_isWithin_15 krA t0 h := by
  refine Eq.trans (congrArg (fun z => Option.bind z e) (qe_X_isWithin_15 krZ t0 h)) (Eq.trans ?_ (Eq.symm (qe_X_isWithin_15 krA t0 h)))
  refine zseg_e e (zcal_e _ _ ?_) (zorc_e _ _ ?_) hk (fun _ _ => rfl) 400 _ _ _ _
  · exact trivial
  · exact trivial
set_option maxRecDepth 100000 in
theorem n_X_isWithin_14 {ρ : Type} (e : zRes → Option ρ) {krA : Int → zH → Option ρ} {krZ : Int → zH → Option zRes} (hk : ∀ v h, (krZ v h).bind e = krA v h) (h : zH) : (X_isWithin_14 krZ h).bind e = X_isWithin_14 krA h := by
  refine Eq.trans (congrArg (fun z => Option.bind z e) (qe_X_isWithin_14 krZ h)) (Eq.trans ?_ (Eq.symm (qe_X_isWithin_14 krA h)))
  refine zseg_e e (zcal_e _ _ ?_) (zorc_e _ _ ?_) hk (fun _ _ => rfl) 400 _ _ _ _
  · exact trivial
  · exact ⟨rfl, rfl, rfl, zap1_e (fun x0 h => n_X_isWithin_15 e hk x0 h), trivial⟩
set_option maxRecDepth 100000 in
theorem n_X_isWithin {ρ : Type} (e : zRes → Option ρ) {krA : Int → zH → Option ρ} {krZ : Int → zH → Option zRes} (hk : ∀ v h, (krZ v h).bind e = krA v h) (a0 a1 a2 : Int) (h : zH) : (X_isWithin a0 a1 a2 h krZ).bind e = X_isWithin a0 a1 a2 h krA := by
  refine Eq.trans (congrArg (fun z => Option.bind z e) (qe_X_isWithin krZ a0 a1 a2 h)) (Eq.trans ?_ (Eq.symm (qe_X_isWithin krA a0 a1 a2 h)))
  refine zseg_e e (zcal_e _ _ ?_) (zorc_e _ _ ?_) hk (fun _ _ => rfl) 400 _ _ _ _
  · exact trivial
  · exact ⟨rfl, rfl, rfl, zap0_e (fun  h => n_X_isWithin_14 e hk  h), ⟨rfl, rfl, rfl, zap1_e (fun x0 h => n_X_isWithin_15 e hk x0 h), trivial⟩⟩
set_option maxRecDepth 100000 in
theorem n_Ke_init {ρ : Type} (e : zRes → Option ρ) {krA : Int → zH → Option ρ} {krZ : Int → zH → Option zRes} (hk : ∀ v h, (krZ v h).bind e = krA v h) (a0 a1 a2 : Int) (h : zH) : (Ke_init a0 a1 a2 h krZ).bind e = Ke_init a0 a1 a2 h krA := by
  refine Eq.trans (congrArg (fun z => Option.bind z e) (qe_Ke_init krZ a0 a1 a2 h)) (Eq.trans ?_ (Eq.symm (qe_Ke_init krA a0 a1 a2 h)))
  refine zseg_e e (zcal_e _ _ ?_) (zorc_e _ _ ?_) hk (fun _ _ => rfl) 400 _ _ _ _
  · exact trivial
  · exact trivial
set_option maxRecDepth 100000 in
theorem n_Le_enterKernel_32 {ρ : Type} (e : zRes → Option ρ) {krA : Int → zH → Option ρ} {krZ : Int → zH → Option zRes} (hk : ∀ v h, (krZ v h).bind e = krA v h) (a0 : Int) (h : zH) : (Le_enterKernel_32 krZ a0 h).bind e = Le_enterKernel_32 krA a0 h := by
  refine Eq.trans (congrArg (fun z => Option.bind z e) (qe_Le_enterKernel_32 krZ a0 h)) (Eq.trans ?_ (Eq.symm (qe_Le_enterKernel_32 krA a0 h)))
  refine zseg_e e (zcal_e _ _ ?_) (zorc_e _ _ ?_) hk (fun _ _ => rfl) 400 _ _ _ _
  · exact trivial
  · exact trivial
set_option maxRecDepth 100000 in
theorem n_Le_enterKernel {ρ : Type} (e : zRes → Option ρ) {krA : Int → zH → Option ρ} {krZ : Int → zH → Option zRes} (hk : ∀ v h, (krZ v h).bind e = krA v h) (a0 a1 : Int) (h : zH) : (Le_enterKernel a0 a1 h krZ).bind e = Le_enterKernel a0 a1 h krA := by
  refine Eq.trans (congrArg (fun z => Option.bind z e) (qe_Le_enterKernel krZ a0 a1 h)) (Eq.trans ?_ (Eq.symm (qe_Le_enterKernel krA a0 a1 h)))
  refine zseg_e e (zcal_e _ _ ?_) (zorc_e _ _ ?_) hk (fun _ _ => rfl) 400 _ _ _ _
  · exact trivial
  · exact ⟨rfl, rfl, rfl, zap1_e (fun x0 h => n_Le_enterKernel_32 e hk x0 h), trivial⟩
set_option maxRecDepth 100000 in
theorem n_X_addKernel_20 {ρ : Type} (e : zRes → Option ρ) {krA : Int → zH → Option ρ} {krZ : Int → zH → Option zRes} (hk : ∀ v h, (krZ v h).bind e = krA v h) {ktA : Nat → zH → Option ρ} {ktZ : Nat → zH → Option zRes} (ht : ∀ n h, (ktZ n h).bind e = ktA n h) (h : zH) : (X_addKernel_20 krZ ktZ h).bind e = X_addKernel_20 krA ktA h := by
  refine Eq.trans (congrArg (fun z => Option.bind z e) (qe_X_addKernel_20 krZ ktZ h)) (Eq.trans ?_ (Eq.symm (qe_X_addKernel_20 krA ktA h)))
  refine zseg_e e (zcal_e _ _ ?_) (zorc_e _ _ ?_) hk ht 400 _ _ _ _
  · exact trivial
  · exact trivial
set_option maxRecDepth 100000 in
theorem n_X_addKernel {ρ : Type} (e : zRes → Option ρ) {krA : Int → zH → Option ρ} {krZ : Int → zH → Option zRes} (hk : ∀ v h, (krZ v h).bind e = krA v h) {ktA : Nat → zH → Option ρ} {ktZ : Nat → zH → Option zRes} (ht : ∀ n h, (ktZ n h).bind e = ktA n h) (a0 a1 a2 : Int) (h : zH) : (X_addKernel a0 a1 a2 h ktZ krZ).bind e = X_addKernel a0 a1 a2 h ktA krA := by
  refine Eq.trans (congrArg (fun z => Option.bind z e) (qe_X_addKernel krZ ktZ a0 a1 a2 h)) (Eq.trans ?_ (Eq.symm (qe_X_addKernel krA ktA a0 a1 a2 h)))
  refine zseg_e e (zcal_e _ _ ?_) (zorc_e _ _ ?_) hk ht 400 _ _ _ _
  · exact ⟨rfl, rfl, zca3_e (fun x0 x1 x2 h k t => n_X_isWithin e (fun _ _ => rfl) x0 x1 x2 h), ⟨rfl, rfl, zca3_e (fun x0 x1 x2 h k t => n_Ke_init e (fun _ _ => rfl) x0 x1 x2 h), ⟨rfl, rfl, zca2_e (fun x0 x1 h k t => n_Le_enterKernel e (fun _ _ => rfl) x0 x1 h), trivial⟩⟩⟩
  · exact ⟨rfl, rfl, rfl, zap0_e (fun  h => n_X_addKernel_20 e hk ht  h), trivial⟩
set_option maxRecDepth 100000 in
theorem n_Le_kernelOf_24 {ρ : Type} (e : zRes → Option ρ) {krA : Int → zH → Option ρ} {krZ : Int → zH → Option zRes} (hk : ∀ v h, (krZ v h).bind e = krA v h) (t0 : Int) (h : zH) : (Le_kernelOf_24 krZ t0 h).bind e = Le_kernelOf_24 krA t0 h := by
  refine Eq.trans (congrArg (fun z => Option.bind z e) (qe_Le_kernelOf_24 krZ t0 h)) (Eq.trans ?_ (Eq.symm (qe_Le_kernelOf_24 krA t0 h)))
  refine zseg_e e (zcal_e _ _ ?_) (zorc_e _ _ ?_) hk (fun _ _ => rfl) 400 _ _ _ _
  · exact trivial
  · exact trivial
set_option maxRecDepth 100000 in
theorem n_Le_kernelOf {ρ : Type} (e : zRes → Option ρ) {krA : Int → zH → Option ρ} {krZ : Int → zH → Option zRes} (hk : ∀ v h, (krZ v h).bind e = krA v h) (a0 a1 : Int) (h : zH) : (Le_kernelOf a0 a1 h krZ).bind e = Le_kernelOf a0 a1 h krA := by
  refine Eq.trans (congrArg (fun z => Option.bind z e) (qe_Le_kernelOf krZ a0 a1 h)) (Eq.trans ?_ (Eq.symm (qe_Le_kernelOf krA a0 a1 h)))
  refine zseg_e e (zcal_e _ _ ?_) (zorc_e _ _ ?_) hk (fun _ _ => rfl) 400 _ _ _ _
  · exact ⟨rfl, rfl, zca3_e (fun x0 x1 x2 h k t => n_X_isWithin e (fun _ _ => rfl) x0 x1 x2 h), trivial⟩
  · exact ⟨rfl, rfl, rfl, zap1_e (fun x0 h => n_Le_kernelOf_24 e hk x0 h), trivial⟩
set_option maxRecDepth 100000 in
theorem n_X_kernelAt {ρ : Type} (e : zRes → Option ρ) {krA : Int → zH → Option ρ} {krZ : Int → zH → Option zRes} (hk : ∀ v h, (krZ v h).bind e = krA v h) {ktA : Nat → zH → Option ρ} {ktZ : Nat → zH → Option zRes} (ht : ∀ n h, (ktZ n h).bind e = ktA n h) (a0 a1 : Int) (h : zH) : (X_kernelAt a0 a1 h ktZ krZ).bind e = X_kernelAt a0 a1 h ktA krA := by
  refine Eq.trans (congrArg (fun z => Option.bind z e) (qe_X_kernelAt krZ ktZ a0 a1 h)) (Eq.trans ?_ (Eq.symm (qe_X_kernelAt krA ktA a0 a1 h)))
  refine zseg_e e (zcal_e _ _ ?_) (zorc_e _ _ ?_) hk ht 400 _ _ _ _
  · exact ⟨rfl, rfl, zca2_e (fun x0 x1 h k t => n_Le_kernelOf e (fun _ _ => rfl) x0 x1 h), trivial⟩
  · exact trivial
set_option maxRecDepth 100000 in
theorem n_In_init {ρ : Type} (e : zRes → Option ρ) {krA : Int → zH → Option ρ} {krZ : Int → zH → Option zRes} (hk : ∀ v h, (krZ v h).bind e = krA v h) (a0 a1 a2 a3 a4 : Int) (h : zH) : (In_init a0 a1 a2 a3 a4 h krZ).bind e = In_init a0 a1 a2 a3 a4 h krA := by
  refine Eq.trans (congrArg (fun z => Option.bind z e) (qe_In_init krZ a0 a1 a2 a3 a4 h)) (Eq.trans ?_ (Eq.symm (qe_In_init krA a0 a1 a2 a3 a4 h)))
  refine zseg_e e (zcal_e _ _ ?_) (zorc_e _ _ ?_) hk (fun _ _ => rfl) 400 _ _ _ _
  · exact trivial
  · exact trivial
set_option maxRecDepth 100000 in
theorem n_In_isOneOf_16 {ρ : Type} (e : zRes → Option ρ) {krA : Int → zH → Option ρ} {krZ : Int → zH → Option zRes} (hk : ∀ v h, (krZ v h).bind e = krA v h) (t0 : Int) (h : zH) : (In_isOneOf_16 krZ t0 h).bind e = In_isOneOf_16 krA t0 h := by
  refine Eq.trans (congrArg (fun z => Option.bind z e) (qe_In_isOneOf_16 krZ t0 h)) (Eq.trans ?_ (Eq.symm (qe_In_isOneOf_16 krA t0 h)))
  refine zseg_e e (zcal_e _ _ ?_) (zorc_e _ _ ?_) hk (fun _ _ => rfl) 400 _ _ _ _
  · exact trivial
  · exact trivial
set_option maxRecDepth 100000 in
theorem n_In_isOneOf {ρ : Type} (e : zRes → Option ρ) {krA : Int → zH → Option ρ} {krZ : Int → zH → Option zRes} (hk : ∀ v h, (krZ v h).bind e = krA v h) (a0 a1 : Int) (h : zH) : (In_isOneOf a0 a1 h krZ).bind e = In_isOneOf a0 a1 h krA := by
  refine Eq.trans (congrArg (fun z => Option.bind z e) (qe_In_isOneOf krZ a0 a1 h)) (Eq.trans ?_ (Eq.symm (qe_In_isOneOf krA a0 a1 h)))
  refine zseg_e e (zcal_e _ _ ?_) (zorc_e _ _ ?_) hk (fun _ _ => rfl) 400 _ _ _ _
  · exact trivial
  · exact ⟨rfl, rfl, rfl, zap1_e (fun x0 h => n_In_isOneOf_16 e hk x0 h), trivial⟩
set_option maxRecDepth 100000 in
theorem n_Ke_hasRegister {ρ : Type} (e : zRes → Option ρ) {krA : Int → zH → Option ρ} {krZ : Int → zH → Option zRes} (hk : ∀ v h, (krZ v h).bind e = krA v h) (a0 a1 : Int) (h : zH) : (Ke_hasRegister a0 a1 h krZ).bind e = Ke_hasRegister a0 a1 h krA := by
  refine Eq.trans (congrArg (fun z => Option.bind z e) (qe_Ke_hasRegister krZ a0 a1 h)) (Eq.trans ?_ (Eq.symm (qe_Ke_hasRegister krA a0 a1 h)))
  refine zseg_e e (zcal_e _ _ ?_) (zorc_e _ _ ?_) hk (fun _ _ => rfl) 400 _ _ _ _
  · exact ⟨rfl, rfl, zca3_e (fun x0 x1 x2 h k t => n_X_isWithin e (fun _ _ => rfl) x0 x1 x2 h), trivial⟩
  · exact trivial
set_option maxRecDepth 100000 in
theorem n_In_isAllowed_69 {ρ : Type} (e : zRes → Option ρ) {krA : Int → zH → Option ρ} {krZ : Int → zH → Option zRes} (hk : ∀ v h, (krZ v h).bind e = krA v h) (h : zH) : (In_isAllowed_69 krZ h).bind e = In_isAllowed_69 krA h := by
  refine Eq.trans (congrArg (fun z => Option.bind z e) (qe_In_isAllowed_69 krZ h)) (Eq.trans ?_ (Eq.symm (qe_In_isAllowed_69 krA h)))
  refine zseg_e e (zcal_e _ _ ?_) (zorc_e _ _ ?_) hk (fun _ _ => rfl) 400 _ _ _ _
  · exact trivial
  · exact trivial
set_option maxRecDepth 100000 in
theorem n_In_isAllowed_117 {ρ : Type} (e : zRes → Option ρ) {krA : Int → zH → Option ρ} {krZ : Int → zH → Option zRes} (hk : ∀ v h, (krZ v h).bind e = krA v h) (t0 : Int) (h : zH) : (In_isAllowed_117 krZ t0 h).bind e = In_isAllowed_117 krA t0 h := by
  refine Eq.trans (congrArg (fun z => Option.bind z e) (qe_In_isAllowed_117 krZ t0 h)) (Eq.trans ?_ (Eq.symm (qe_In_isAllowed_117 krA t0 h)))
  refine zseg_e e (zcal_e _ _ ?_) (zorc_e _ _ ?_) hk (fun _ _ => rfl) 400 _ _ _ _
  · exact trivial
  · exact trivial
set_option maxRecDepth 100000 in
theorem n_In_isAllowed_112 {ρ : Type} (e : zRes → Option ρ) {krA : Int → zH → Option ρ} {krZ : Int → zH → Option zRes} (hk : ∀ v h, (krZ v h).bind e = krA v h) (h : zH) : (In_isAllowed_112 krZ h).bind e = In_isAllowed_112 krA h := by
  refine Eq.trans (congrArg (fun z => Option.bind z e) (qe_In_isAllowed_112 krZ h)) (Eq.trans ?_ (Eq.symm (qe_In_isAllowed_112 krA h)))
  refine zseg_e e (zcal_e _ _ ?_) (zorc_e _ _ ?_) hk (fun _ _ => rfl) 400 _ _ _ _
  · exact trivial
  · exact ⟨rfl, rfl, rfl, zap1_e (fun x0 h => n_In_isAllowed_117 e hk x0 h), trivial⟩
set_option maxRecDepth 100000 in
theorem n_In_isAllowed_71 {ρ : Type} (e : zRes → Option ρ) {krA : Int → zH → Option ρ} {krZ : Int → zH → Option zRes} (hk : ∀ v h, (krZ v h).bind e = krA v h) (a0 : Int) (h : zH) : (In_isAllowed_71 krZ a0 h).bind e = In_isAllowed_71 krA a0 h := by
  refine Eq.trans (congrArg (fun z => Option.bind z e) (qe_In_isAllowed_71 krZ a0 h)) (Eq.trans ?_ (Eq.symm (qe_In_isAllowed_71 krA a0 h)))
  refine zseg_e e (zcal_e _ _ ?_) (zorc_e _ _ ?_) hk (fun _ _ => rfl) 400 _ _ _ _
  · exact ⟨rfl, rfl, zca3_e (fun x0 x1 x2 h k t => n_X_isWithin e (fun _ _ => rfl) x0 x1 x2 h), ⟨rfl, rfl, zca2_e (fun x0 x1 h k t => n_In_isOneOf e (fun _ _ => rfl) x0 x1 h), trivial⟩⟩
  · exact ⟨rfl, rfl, rfl, zap0_e (fun  h => n_In_isAllowed_112 e hk  h), ⟨rfl, rfl, rfl, zap1_e (fun x0 h => n_In_isAllowed_117 e hk x0 h), trivial⟩⟩
set_option maxRecDepth 100000 in
theorem n_In_isAllowed_49 {ρ : Type} (e : zRes → Option ρ) {krA : Int → zH → Option ρ} {krZ : Int → zH → Option zRes} (hk : ∀ v h, (krZ v h).bind e = krA v h) (a0 a1 : Int) (h : zH) : (In_isAllowed_49 krZ a0 a1 h).bind e = In_isAllowed_49 krA a0 a1 h := by
  refine Eq.trans (congrArg (fun z => Option.bind z e) (qe_In_isAllowed_49 krZ a0 a1 h)) (Eq.trans ?_ (Eq.symm (qe_In_isAllowed_49 krA a0 a1 h)))
  refine zseg_e e (zcal_e _ _ ?_) (zorc_e _ _ ?_) hk (fun _ _ => rfl) 400 _ _ _ _
  · exact ⟨rfl, rfl, zca2_e (fun x0 x1 h k t => n_In_isOneOf e (fun _ _ => rfl) x0 x1 h), ⟨rfl, rfl, zca2_e (fun x0 x1 h k t => n_Ke_hasRegister e (fun _ _ => rfl) x0 x1 h), trivial⟩⟩
  · exact ⟨rfl, rfl, rfl, zap0_e (fun  h => n_In_isAllowed_69 e hk  h), ⟨rfl, rfl, rfl, zap1_e (fun x0 h => n_In_isAllowed_71 e hk x0 h), trivial⟩⟩
set_option maxRecDepth 100000 in
theorem n_In_isAllowed_29 {ρ : Type} (e : zRes → Option ρ) {krA : Int → zH → Option ρ} {krZ : Int → zH → Option zRes} (hk : ∀ v h, (krZ v h).bind e = krA v h) (a0 a1 : Int) (h : zH) : (In_isAllowed_29 krZ a0 a1 h).bind e = In_isAllowed_29 krA a0 a1 h := by
  refine Eq.trans (congrArg (fun z => Option.bind z e) (qe_In_isAllowed_29 krZ a0 a1 h)) (Eq.trans ?_ (Eq.symm (qe_In_isAllowed_29 krA a0 a1 h)))
  refine zseg_e e (zcal_e _ _ ?_) (zorc_e _ _ ?_) hk (fun _ _ => rfl) 400 _ _ _ _
  · exact ⟨rfl, rfl, zca2_e (fun x0 x1 h k t => n_In_isOneOf e (fun _ _ => rfl) x0 x1 h), ⟨rfl, rfl, zca2_e (fun x0 x1 h k t => n_Ke_hasRegister e (fun _ _ => rfl) x0 x1 h), trivial⟩⟩
  · exact ⟨rfl, rfl, rfl, zap2_e (fun x0 x1 h => n_In_isAllowed_49 e hk x0 x1 h), ⟨rfl, rfl, rfl, zap0_e (fun  h => n_In_isAllowed_69 e hk  h), trivial⟩⟩
set_option maxRecDepth 100000 in
theorem n_In_isAllowed {ρ : Type} (e : zRes → Option ρ) {krA : Int → zH → Option ρ} {krZ : Int → zH → Option zRes} (hk : ∀ v h, (krZ v h).bind e = krA v h) (a0 a1 : Int) (h : zH) : (In_isAllowed a0 a1 h krZ).bind e = In_isAllowed a0 a1 h krA := by
  refine Eq.trans (congrArg (fun z => Option.bind z e) (qe_In_isAllowed krZ a0 a1 h)) (Eq.trans ?_ (Eq.symm (qe_In_isAllowed krA a0 a1 h)))
  refine zseg_e e (zcal_e _ _ ?_) (zorc_e _ _ ?_) hk (fun _ _ => rfl) 400 _ _ _ _
  · exact ⟨rfl, rfl, zca2_e (fun x0 x1 h k t => n_In_isOneOf e (fun _ _ => rfl) x0 x1 h), ⟨rfl, rfl, zca2_e (fun x0 x1 h k t => n_Ke_hasRegister e (fun _ _ => rfl) x0 x1 h), trivial⟩⟩
  · exact ⟨rfl, rfl, rfl, zap2_e (fun x0 x1 h => n_In_isAllowed_29 e hk x0 x1 h), ⟨rfl, rfl, rfl, zap0_e (fun  h => n_In_isAllowed_69 e hk  h), trivial⟩⟩
set_option maxRecDepth 100000 in
theorem n_Ke_append_32 {ρ : Type} (e : zRes → Option ρ) {krA : Int → zH → Option ρ} {krZ : Int → zH → Option zRes} (hk : ∀ v h, (krZ v h).bind e = krA v h) (a0 : Int) (h : zH) : (Ke_append_32 krZ a0 h).bind e = Ke_append_32 krA a0 h := by
  refine Eq.trans (congrArg (fun z => Option.bind z e) (qe_Ke_append_32 krZ a0 h)) (Eq.trans ?_ (Eq.symm (qe_Ke_append_32 krA a0 h)))
  refine zseg_e e (zcal_e _ _ ?_) (zorc_e _ _ ?_) hk (fun _ _ => rfl) 400 _ _ _ _
  · exact trivial
  · exact trivial
set_option maxRecDepth 100000 in
theorem n_Ke_append {ρ : Type} (e : zRes → Option ρ) {krA : Int → zH → Option ρ} {krZ : Int → zH → Option zRes} (hk : ∀ v h, (krZ v h).bind e = krA v h) (a0 a1 : Int) (h : zH) : (Ke_append a0 a1 h krZ).bind e = Ke_append a0 a1 h krA := by
  refine Eq.trans (congrArg (fun z => Option.bind z e) (qe_Ke_append krZ a0 a1 h)) (Eq.trans ?_ (Eq.symm (qe_Ke_append krA a0 a1 h)))
  refine zseg_e e (zcal_e _ _ ?_) (zorc_e _ _ ?_) hk (fun _ _ => rfl) 400 _ _ _ _
  · exact trivial
  · exact ⟨rfl, rfl, rfl, zap1_e (fun x0 h => n_Ke_append_32 e hk x0 h), trivial⟩
set_option maxRecDepth 100000 in
theorem n_X_code_58 {ρ : Type} (e : zRes → Option ρ) {krA : Int → zH → Option ρ} {krZ : Int → zH → Option zRes} (hk : ∀ v h, (krZ v h).bind e = krA v h) {ktA : Nat → zH → Option ρ} {ktZ : Nat → zH → Option zRes} (ht : ∀ n h, (ktZ n h).bind e = ktA n h) (h : zH) : (X_code_58 krZ ktZ h).bind e = X_code_58 krA ktA h := by
  refine Eq.trans (congrArg (fun z => Option.bind z e) (qe_X_code_58 krZ ktZ h)) (Eq.trans ?_ (Eq.symm (qe_X_code_58 krA ktA h)))
  refine zseg_e e (zcal_e _ _ ?_) (zorc_e _ _ ?_) hk ht 400 _ _ _ _
  · exact trivial
  · exact trivial
set_option maxRecDepth 100000 in
theorem n_X_code {ρ : Type} (e : zRes → Option ρ) {krA : Int → zH → Option ρ} {krZ : Int → zH → Option zRes} (hk : ∀ v h, (krZ v h).bind e = krA v h) {ktA : Nat → zH → Option ρ} {ktZ : Nat → zH → Option zRes} (ht : ∀ n h, (ktZ n h).bind e = ktA n h) (a0 a1 a2 a3 a4 a5 : Int) (h : zH) : (X_code a0 a1 a2 a3 a4 a5 h ktZ krZ).bind e = X_code a0 a1 a2 a3 a4 a5 h ktA krA := by
  refine Eq.trans (congrArg (fun z => Option.bind z e) (qe_X_code krZ ktZ a0 a1 a2 a3 a4 a5 h)) (Eq.trans ?_ (Eq.symm (qe_X_code krA ktA a0 a1 a2 a3 a4 a5 h)))
  refine zseg_e e (zcal_e _ _ ?_) (zorc_e _ _ ?_) hk ht 400 _ _ _ _
  · exact ⟨rfl, rfl, zcx2_e (fun x0 x1 h k t => n_X_kernelAt e (fun _ _ => rfl) (fun _ _ => rfl) x0 x1 h), ⟨rfl, rfl, zca5_e (fun x0 x1 x2 x3 x4 h k t => n_In_init e (fun _ _ => rfl) x0 x1 x2 x3 x4 h), ⟨rfl, rfl, zca2_e (fun x0 x1 h k t => n_In_isAllowed e (fun _ _ => rfl) x0 x1 h), ⟨rfl, rfl, zca2_e (fun x0 x1 h k t => n_Ke_append e (fun _ _ => rfl) x0 x1 h), trivial⟩⟩⟩⟩
  · exact ⟨rfl, rfl, rfl, zap0_e (fun  h => n_X_code_58 e hk ht  h), trivial⟩
set_option maxRecDepth 100000 in
theorem n_X_groupsFor {ρ : Type} (e : zRes → Option ρ) {krA : Int → zH → Option ρ} {krZ : Int → zH → Option zRes} (hk : ∀ v h, (krZ v h).bind e = krA v h) (a0 : Int) (h : zH) : (X_groupsFor a0 h krZ).bind e = X_groupsFor a0 h krA := by
  refine Eq.trans (congrArg (fun z => Option.bind z e) (qe_X_groupsFor krZ a0 h)) (Eq.trans ?_ (Eq.symm (qe_X_groupsFor krA a0 h)))
  refine zseg_e e (zcal_e _ _ ?_) (zorc_e _ _ ?_) hk (fun _ _ => rfl) 400 _ _ _ _
  · exact trivial
  · exact trivial
set_option maxRecDepth 100000 in
theorem n_Ke_blocksInUnit_18 {ρ : Type} (e : zRes → Option ρ) {krA : Int → zH → Option ρ} {krZ : Int → zH → Option zRes} (hk : ∀ v h, (krZ v h).bind e = krA v h) (h : zH) : (Ke_blocksInUnit_18 krZ h).bind e = Ke_blocksInUnit_18 krA h := by
  refine Eq.trans (congrArg (fun z => Option.bind z e) (qe_Ke_blocksInUnit_18 krZ h)) (Eq.trans ?_ (Eq.symm (qe_Ke_blocksInUnit_18 krA h)))
  refine zseg_e e (zcal_e _ _ ?_) (zorc_e _ _ ?_) hk (fun _ _ => rfl) 400 _ _ _ _
  · exact trivial
  · exact trivial
set_option maxRecDepth 100000 in
theorem n_Ke_blocksInUnit_62 {ρ : Type} (e : zRes → Option ρ) {krA : Int → zH → Option ρ} {krZ : Int → zH → Option zRes} (hk : ∀ v h, (krZ v h).bind e = krA v h) (t0 : Int) (h : zH) : (Ke_blocksInUnit_62 krZ t0 h).bind e = Ke_blocksInUnit_62 krA t0 h := by
  refine Eq.trans (congrArg (fun z => Option.bind z e) (qe_Ke_blocksInUnit_62 krZ t0 h)) (Eq.trans ?_ (Eq.symm (qe_Ke_blocksInUnit_62 krA t0 h)))
  refine zseg_e e (zcal_e _ _ ?_) (zorc_e _ _ ?_) hk (fun _ _ => rfl) 400 _ _ _ _
  · exact trivial
  · exact trivial
set_option maxRecDepth 100000 in
theorem n_Ke_blocksInUnit {ρ : Type} (e : zRes → Option ρ) {krA : Int → zH → Option ρ} {krZ : Int → zH → Option zRes} (hk : ∀ v h, (krZ v h).bind e = krA v h) (a0 a1 : Int) (h : zH) : (Ke_blocksInUnit a0 a1 h krZ).bind e = Ke_blocksInUnit a0 a1 h krA := by
  refine Eq.trans (congrArg (fun z => Option.bind z e) (qe_Ke_blocksInUnit krZ a0 a1 h)) (Eq.trans ?_ (Eq.symm (qe_Ke_blocksInUnit krA a0 a1 h)))
  refine zseg_e e (zcal_e _ _ ?_) (zorc_e _ _ ?_) hk (fun _ _ => rfl) 400 _ _ _ _
  · exact ⟨rfl, rfl, zca2_e (fun x0 x1 h k t => n_Ma_min e (fun _ _ => rfl) x0 x1 h), ⟨rfl, rfl, zca3_e (fun x0 x1 x2 h k t => n_X_isWithin e (fun _ _ => rfl) x0 x1 x2 h), ⟨rfl, rfl, zca1_e (fun x0 h k t => n_X_groupsFor e (fun _ _ => rfl) x0 h), trivial⟩⟩⟩
  · exact ⟨rfl, rfl, rfl, zap0_e (fun  h => n_Ke_blocksInUnit_18 e hk  h), ⟨rfl, rfl, rfl, zap1_e (fun x0 h => n_Ke_blocksInUnit_62 e hk x0 h), trivial⟩⟩
set_option maxRecDepth 100000 in
theorem n_X_fits {ρ : Type} (e : zRes → Option ρ) {krA : Int → zH → Option ρ} {krZ : Int → zH → Option zRes} (hk : ∀ v h, (krZ v h).bind e = krA v h) {ktA : Nat → zH → Option ρ} {ktZ : Nat → zH → Option zRes} (ht : ∀ n h, (ktZ n h).bind e = ktA n h) (a0 a1 a2 : Int) (h : zH) : (X_fits a0 a1 a2 h ktZ krZ).bind e = X_fits a0 a1 a2 h ktA krA := by
  refine Eq.trans (congrArg (fun z => Option.bind z e) (qe_X_fits krZ ktZ a0 a1 a2 h)) (Eq.trans ?_ (Eq.symm (qe_X_fits krA ktA a0 a1 a2 h)))
  refine zseg_e e (zcal_e _ _ ?_) (zorc_e _ _ ?_) hk ht 400 _ _ _ _
  · exact ⟨rfl, rfl, zcx2_e (fun x0 x1 h k t => n_X_kernelAt e (fun _ _ => rfl) (fun _ _ => rfl) x0 x1 h), ⟨rfl, rfl, zca3_e (fun x0 x1 x2 h k t => n_X_isWithin e (fun _ _ => rfl) x0 x1 x2 h), ⟨rfl, rfl, zca2_e (fun x0 x1 h k t => n_Ke_blocksInUnit e (fun _ _ => rfl) x0 x1 h), trivial⟩⟩⟩
  · exact trivial
set_option maxRecDepth 100000 in
theorem n_X_isCell {ρ : Type} (e : zRes → Option ρ) {krA : Int → zH → Option ρ} {krZ : Int → zH → Option zRes} (hk : ∀ v h, (krZ v h).bind e = krA v h) (a0 : Int) (h : zH) : (X_isCell a0 h krZ).bind e = X_isCell a0 h krA := by
  refine Eq.trans (congrArg (fun z => Option.bind z e) (qe_X_isCell krZ a0 h)) (Eq.trans ?_ (Eq.symm (qe_X_isCell krA a0 h)))
  refine zseg_e e (zcal_e _ _ ?_) (zorc_e _ _ ?_) hk (fun _ _ => rfl) 400 _ _ _ _
  · exact ⟨rfl, rfl, zca3_e (fun x0 x1 x2 h k t => n_X_isWithin e (fun _ _ => rfl) x0 x1 x2 h), trivial⟩
  · exact trivial
set_option maxRecDepth 100000 in
theorem n_X_poke {ρ : Type} (e : zRes → Option ρ) {krA : Int → zH → Option ρ} {krZ : Int → zH → Option zRes} (hk : ∀ v h, (krZ v h).bind e = krA v h) {ktA : Nat → zH → Option ρ} {ktZ : Nat → zH → Option zRes} (ht : ∀ n h, (ktZ n h).bind e = ktA n h) (a0 a1 a2 : Int) (h : zH) : (X_poke a0 a1 a2 h ktZ krZ).bind e = X_poke a0 a1 a2 h ktA krA := by
  refine Eq.trans (congrArg (fun z => Option.bind z e) (qe_X_poke krZ ktZ a0 a1 a2 h)) (Eq.trans ?_ (Eq.symm (qe_X_poke krA ktA a0 a1 a2 h)))
  refine zseg_e e (zcal_e _ _ ?_) (zorc_e _ _ ?_) hk ht 400 _ _ _ _
  · exact ⟨rfl, rfl, zca1_e (fun x0 h k t => n_X_isCell e (fun _ _ => rfl) x0 h), trivial⟩
  · exact trivial
set_option maxRecDepth 100000 in
theorem n_X_peek {ρ : Type} (e : zRes → Option ρ) {krA : Int → zH → Option ρ} {krZ : Int → zH → Option zRes} (hk : ∀ v h, (krZ v h).bind e = krA v h) {ktA : Nat → zH → Option ρ} {ktZ : Nat → zH → Option zRes} (ht : ∀ n h, (ktZ n h).bind e = ktA n h) (a0 a1 : Int) (h : zH) : (X_peek a0 a1 h ktZ krZ).bind e = X_peek a0 a1 h ktA krA := by
  refine Eq.trans (congrArg (fun z => Option.bind z e) (qe_X_peek krZ ktZ a0 a1 h)) (Eq.trans ?_ (Eq.symm (qe_X_peek krA ktA a0 a1 h)))
  refine zseg_e e (zcal_e _ _ ?_) (zorc_e _ _ ?_) hk ht 400 _ _ _ _
  · exact ⟨rfl, rfl, zca1_e (fun x0 h k t => n_X_isCell e (fun _ _ => rfl) x0 h), trivial⟩
  · exact trivial
set_option maxRecDepth 100000 in
theorem n_Le_launchOf_24 {ρ : Type} (e : zRes → Option ρ) {krA : Int → zH → Option ρ} {krZ : Int → zH → Option zRes} (hk : ∀ v h, (krZ v h).bind e = krA v h) (t0 : Int) (h : zH) : (Le_launchOf_24 krZ t0 h).bind e = Le_launchOf_24 krA t0 h := by
  refine Eq.trans (congrArg (fun z => Option.bind z e) (qe_Le_launchOf_24 krZ t0 h)) (Eq.trans ?_ (Eq.symm (qe_Le_launchOf_24 krA t0 h)))
  refine zseg_e e (zcal_e _ _ ?_) (zorc_e _ _ ?_) hk (fun _ _ => rfl) 400 _ _ _ _
  · exact trivial
  · exact trivial
set_option maxRecDepth 100000 in
theorem n_Le_launchOf {ρ : Type} (e : zRes → Option ρ) {krA : Int → zH → Option ρ} {krZ : Int → zH → Option zRes} (hk : ∀ v h, (krZ v h).bind e = krA v h) (a0 a1 : Int) (h : zH) : (Le_launchOf a0 a1 h krZ).bind e = Le_launchOf a0 a1 h krA := by
  refine Eq.trans (congrArg (fun z => Option.bind z e) (qe_Le_launchOf krZ a0 a1 h)) (Eq.trans ?_ (Eq.symm (qe_Le_launchOf krA a0 a1 h)))
  refine zseg_e e (zcal_e _ _ ?_) (zorc_e _ _ ?_) hk (fun _ _ => rfl) 400 _ _ _ _
  · exact ⟨rfl, rfl, zca3_e (fun x0 x1 x2 h k t => n_X_isWithin e (fun _ _ => rfl) x0 x1 x2 h), trivial⟩
  · exact ⟨rfl, rfl, rfl, zap1_e (fun x0 h => n_Le_launchOf_24 e hk x0 h), trivial⟩
set_option maxRecDepth 100000 in
theorem n_X_launchAt {ρ : Type} (e : zRes → Option ρ) {krA : Int → zH → Option ρ} {krZ : Int → zH → Option zRes} (hk : ∀ v h, (krZ v h).bind e = krA v h) {ktA : Nat → zH → Option ρ} {ktZ : Nat → zH → Option zRes} (ht : ∀ n h, (ktZ n h).bind e = ktA n h) (a0 a1 : Int) (h : zH) : (X_launchAt a0 a1 h ktZ krZ).bind e = X_launchAt a0 a1 h ktA krA := by
  refine Eq.trans (congrArg (fun z => Option.bind z e) (qe_X_launchAt krZ ktZ a0 a1 h)) (Eq.trans ?_ (Eq.symm (qe_X_launchAt krA ktA a0 a1 h)))
  refine zseg_e e (zcal_e _ _ ?_) (zorc_e _ _ ?_) hk ht 400 _ _ _ _
  · exact ⟨rfl, rfl, zca2_e (fun x0 x1 h k t => n_Le_launchOf e (fun _ _ => rfl) x0 x1 h), trivial⟩
  · exact trivial
set_option maxRecDepth 100000 in
theorem n_X_checkQueueAndAfter_28 {ρ : Type} (e : zRes → Option ρ) {krA : Int → zH → Option ρ} {krZ : Int → zH → Option zRes} (hk : ∀ v h, (krZ v h).bind e = krA v h) {ktA : Nat → zH → Option ρ} {ktZ : Nat → zH → Option zRes} (ht : ∀ n h, (ktZ n h).bind e = ktA n h) (h : zH) : (X_checkQueueAndAfter_28 krZ ktZ h).bind e = X_checkQueueAndAfter_28 krA ktA h := by
  refine Eq.trans (congrArg (fun z => Option.bind z e) (qe_X_checkQueueAndAfter_28 krZ ktZ h)) (Eq.trans ?_ (Eq.symm (qe_X_checkQueueAndAfter_28 krA ktA h)))
  refine zseg_e e (zcal_e _ _ ?_) (zorc_e _ _ ?_) hk ht 400 _ _ _ _
  · exact trivial
  · exact trivial
set_option maxRecDepth 100000 in
theorem n_X_checkQueueAndAfter {ρ : Type} (e : zRes → Option ρ) {krA : Int → zH → Option ρ} {krZ : Int → zH → Option zRes} (hk : ∀ v h, (krZ v h).bind e = krA v h) {ktA : Nat → zH → Option ρ} {ktZ : Nat → zH → Option zRes} (ht : ∀ n h, (ktZ n h).bind e = ktA n h) (a0 a1 a2 : Int) (h : zH) : (X_checkQueueAndAfter a0 a1 a2 h ktZ krZ).bind e = X_checkQueueAndAfter a0 a1 a2 h ktA krA := by
  refine Eq.trans (congrArg (fun z => Option.bind z e) (qe_X_checkQueueAndAfter krZ ktZ a0 a1 a2 h)) (Eq.trans ?_ (Eq.symm (qe_X_checkQueueAndAfter krA ktA a0 a1 a2 h)))
  refine zseg_e e (zcal_e _ _ ?_) (zorc_e _ _ ?_) hk ht 400 _ _ _ _
  · exact ⟨rfl, rfl, zcx2_e (fun x0 x1 h k t => n_X_launchAt e (fun _ _ => rfl) (fun _ _ => rfl) x0 x1 h), ⟨rfl, rfl, zca3_e (fun x0 x1 x2 h k t => n_X_isWithin e (fun _ _ => rfl) x0 x1 x2 h), trivial⟩⟩
  · exact ⟨rfl, rfl, rfl, zap0_e (fun  h => n_X_checkQueueAndAfter_28 e hk ht  h), trivial⟩
set_option maxRecDepth 100000 in
theorem n_X_checkRoomForLaunch {ρ : Type} (e : zRes → Option ρ) {krA : Int → zH → Option ρ} {krZ : Int → zH → Option zRes} (hk : ∀ v h, (krZ v h).bind e = krA v h) {ktA : Nat → zH → Option ρ} {ktZ : Nat → zH → Option zRes} (ht : ∀ n h, (ktZ n h).bind e = ktA n h) (a0 : Int) (h : zH) : (X_checkRoomForLaunch a0 h ktZ krZ).bind e = X_checkRoomForLaunch a0 h ktA krA := by
  refine Eq.trans (congrArg (fun z => Option.bind z e) (qe_X_checkRoomForLaunch krZ ktZ a0 h)) (Eq.trans ?_ (Eq.symm (qe_X_checkRoomForLaunch krA ktA a0 h)))
  refine zseg_e e (zcal_e _ _ ?_) (zorc_e _ _ ?_) hk ht 400 _ _ _ _
  · exact trivial
  · exact trivial
set_option maxRecDepth 100000 in
theorem n_La_useKernel {ρ : Type} (e : zRes → Option ρ) {krA : Int → zH → Option ρ} {krZ : Int → zH → Option zRes} (hk : ∀ v h, (krZ v h).bind e = krA v h) (a0 a1 a2 a3 : Int) (h : zH) : (La_useKernel a0 a1 a2 a3 h krZ).bind e = La_useKernel a0 a1 a2 a3 h krA := by
  refine Eq.trans (congrArg (fun z => Option.bind z e) (qe_La_useKernel krZ a0 a1 a2 a3 h)) (Eq.trans ?_ (Eq.symm (qe_La_useKernel krA a0 a1 a2 a3 h)))
  refine zseg_e e (zcal_e _ _ ?_) (zorc_e _ _ ?_) hk (fun _ _ => rfl) 400 _ _ _ _
  · exact trivial
  · exact trivial
set_option maxRecDepth 100000 in
theorem n_La_init {ρ : Type} (e : zRes → Option ρ) {krA : Int → zH → Option ρ} {krZ : Int → zH → Option zRes} (hk : ∀ v h, (krZ v h).bind e = krA v h) (a0 a1 a2 a3 a4 a5 : Int) (h : zH) : (La_init a0 a1 a2 a3 a4 a5 h krZ).bind e = La_init a0 a1 a2 a3 a4 a5 h krA := by
  refine Eq.trans (congrArg (fun z => Option.bind z e) (qe_La_init krZ a0 a1 a2 a3 a4 a5 h)) (Eq.trans ?_ (Eq.symm (qe_La_init krA a0 a1 a2 a3 a4 a5 h)))
  refine zseg_e e (zcal_e _ _ ?_) (zorc_e _ _ ?_) hk (fun _ _ => rfl) 400 _ _ _ _
  · exact trivial
  · exact trivial
set_option maxRecDepth 100000 in
theorem n_La_isOver_32 {ρ : Type} (e : zRes → Option ρ) {krA : Int → zH → Option ρ} {krZ : Int → zH → Option zRes} (hk : ∀ v h, (krZ v h).bind e = krA v h) (t0 : Int) (h : zH) : (La_isOver_32 krZ t0 h).bind e = La_isOver_32 krA t0 h := by
  refine Eq.trans (congrArg (fun z => Option.bind z e) (qe_La_isOver_32 krZ t0 h)) (Eq.trans ?_ (Eq.symm (qe_La_isOver_32 krA t0 h)))
  refine zseg_e e (zcal_e _ _ ?_) (zorc_e _ _ ?_) hk (fun _ _ => rfl) 400 _ _ _ _
  · exact trivial
  · exact trivial
set_option maxRecDepth 100000 in
theorem n_La_isOver_27 {ρ : Type} (e : zRes → Option ρ) {krA : Int → zH → Option ρ} {krZ : Int → zH → Option zRes} (hk : ∀ v h, (krZ v h).bind e = krA v h) (h : zH) : (La_isOver_27 krZ h).bind e = La_isOver_27 krA h := by
  refine Eq.trans (congrArg (fun z => Option.bind z e) (qe_La_isOver_27 krZ h)) (Eq.trans ?_ (Eq.symm (qe_La_isOver_27 krA h)))
  refine zseg_e e (zcal_e _ _ ?_) (zorc_e _ _ ?_) hk (fun _ _ => rfl) 400 _ _ _ _
  · exact trivial
  · exact ⟨rfl, rfl, rfl, zap1_e (fun x0 h => n_La_isOver_32 e hk x0 h), trivial⟩
set_option maxRecDepth 100000 in
theorem n_La_isOver {ρ : Type} (e : zRes → Option ρ) {krA : Int → zH → Option ρ} {krZ : Int → zH → Option zRes} (hk : ∀ v h, (krZ v h).bind e = krA v h) (a0 : Int) (h : zH) : (La_isOver a0 h krZ).bind e = La_isOver a0 h krA := by
  refine Eq.trans (congrArg (fun z => Option.bind z e) (qe_La_isOver krZ a0 h)) (Eq.trans ?_ (Eq.symm (qe_La_isOver krA a0 h)))
  refine zseg_e e (zcal_e _ _ ?_) (zorc_e _ _ ?_) hk (fun _ _ => rfl) 400 _ _ _ _
  · exact trivial
  · exact ⟨rfl, rfl, rfl, zap0_e (fun  h => n_La_isOver_27 e hk  h), ⟨rfl, rfl, rfl, zap1_e (fun x0 h => n_La_isOver_32 e hk x0 h), trivial⟩⟩
set_option maxRecDepth 100000 in
theorem n_Le_enter_32 {ρ : Type} (e : zRes → Option ρ) {krA : Int → zH → Option ρ} {krZ : Int → zH → Option zRes} (hk : ∀ v h, (krZ v h).bind e = krA v h) (a1 : Int) (h : zH) : (Le_enter_32 krZ a1 h).bind e = Le_enter_32 krA a1 h := by
  refine Eq.trans (congrArg (fun z => Option.bind z e) (qe_Le_enter_32 krZ a1 h)) (Eq.trans ?_ (Eq.symm (qe_Le_enter_32 krA a1 h)))
  refine zseg_e e (zcal_e _ _ ?_) (zorc_e _ _ ?_) hk (fun _ _ => rfl) 400 _ _ _ _
  · exact trivial
  · exact trivial
set_option maxRecDepth 100000 in
theorem n_Le_enter {ρ : Type} (e : zRes → Option ρ) {krA : Int → zH → Option ρ} {krZ : Int → zH → Option zRes} (hk : ∀ v h, (krZ v h).bind e = krA v h) (a0 a1 : Int) (h : zH) : (Le_enter a0 a1 h krZ).bind e = Le_enter a0 a1 h krA := by
  refine Eq.trans (congrArg (fun z => Option.bind z e) (qe_Le_enter krZ a0 a1 h)) (Eq.trans ?_ (Eq.symm (qe_Le_enter krA a0 a1 h)))
  refine zseg_e e (zcal_e _ _ ?_) (zorc_e _ _ ?_) hk (fun _ _ => rfl) 400 _ _ _ _
  · exact trivial
  · exact ⟨rfl, rfl, rfl, zap1_e (fun x0 h => n_Le_enter_32 e hk x0 h), trivial⟩
set_option maxRecDepth 100000 in
theorem n_Le_lastIn_7b {ρ : Type} (e : zRes → Option ρ) {krA : Int → zH → Option ρ} {krZ : Int → zH → Option zRes} (hk : ∀ v h, (krZ v h).bind e = krA v h) {r7A : Int → Int → Int → zH → Option ρ} {r7Z : Int → Int → Int → zH → Option zRes} (h7 : ∀ (x0 x1 x2 : Int) (h : zH), (r7Z x0 x1 x2 h).bind e = r7A x0 x1 x2 h) (a0 a1 a2 : Int) (h : zH) : (Le_lastIn_7b krZ r7Z a0 a1 a2 h).bind e = Le_lastIn_7b krA r7A a0 a1 a2 h := by
  refine Eq.trans (congrArg (fun z => Option.bind z e) (qe_Le_lastIn_7b krZ r7Z a0 a1 a2 h)) (Eq.trans ?_ (Eq.symm (qe_Le_lastIn_7b krA r7A a0 a1 a2 h)))
  refine zseg_e e (zcal_e _ _ ?_) (zorc_e _ _ ?_) hk (fun _ _ => rfl) 400 _ _ _ _
  · exact trivial
  · exact ⟨rfl, rfl, rfl, zap3_e h7, trivial⟩
theorem n_Le_lastIn_7 {ρ : Type} (e : zRes → Option ρ) {krA : Int → zH → Option ρ} {krZ : Int → zH → Option zRes} (hk : ∀ v h, (krZ v h).bind e = krA v h) (a0 a1 a2 : Int) (h : zH) : (Le_lastIn_7 krZ a0 a1 a2 h).bind e = Le_lastIn_7 krA a0 a1 a2 h := zit3_e (fun rA rZ hh a0 a1 a2 h => n_Le_lastIn_7b e hk hh a0 a1 a2 h) zN a0 a1 a2 h
set_option maxRecDepth 100000 in
theorem n_Le_lastIn {ρ : Type} (e : zRes → Option ρ) {krA : Int → zH → Option ρ} {krZ : Int → zH → Option zRes} (hk : ∀ v h, (krZ v h).bind e = krA v h) (a0 a1 : Int) (h : zH) : (Le_lastIn a0 a1 h krZ).bind e = Le_lastIn a0 a1 h krA := by
  refine Eq.trans (congrArg (fun z => Option.bind z e) (qe_Le_lastIn krZ a0 a1 h)) (Eq.trans ?_ (Eq.symm (qe_Le_lastIn krA a0 a1 h)))
  refine zseg_e e (zcal_e _ _ ?_) (zorc_e _ _ ?_) hk (fun _ _ => rfl) 400 _ _ _ _
  · exact trivial
  · exact ⟨rfl, rfl, rfl, zap3_e (fun x0 x1 x2 h => n_Le_lastIn_7 e hk x0 x1 x2 h), trivial⟩
set_option maxRecDepth 100000 in
theorem n_Le_enterHostLaunch_44 {ρ : Type} (e : zRes → Option ρ) {krA : Int → zH → Option ρ} {krZ : Int → zH → Option zRes} (hk : ∀ v h, (krZ v h).bind e = krA v h) (a0 a2 t0 t1 t2 t3 t4 t5 : Int) (h : zH) : (Le_enterHostLaunch_44 krZ a0 a2 t0 t1 t2 t3 t4 t5 h).bind e = Le_enterHostLaunch_44 krA a0 a2 t0 t1 t2 t3 t4 t5 h := by
  refine Eq.trans (congrArg (fun z => Option.bind z e) (qe_Le_enterHostLaunch_44 krZ a0 a2 t0 t1 t2 t3 t4 t5 h)) (Eq.trans ?_ (Eq.symm (qe_Le_enterHostLaunch_44 krA a0 a2 t0 t1 t2 t3 t4 t5 h)))
  refine zseg_e e (zcal_e _ _ ?_) (zorc_e _ _ ?_) hk (fun _ _ => rfl) 400 _ _ _ _
  · exact ⟨rfl, rfl, zca6_e (fun x0 x1 x2 x3 x4 x5 h k t => n_La_init e (fun _ _ => rfl) x0 x1 x2 x3 x4 x5 h), ⟨rfl, rfl, zca2_e (fun x0 x1 h k t => n_Le_launchOf e (fun _ _ => rfl) x0 x1 h), ⟨rfl, rfl, zca2_e (fun x0 x1 h k t => n_Le_enter e (fun _ _ => rfl) x0 x1 h), trivial⟩⟩⟩
  · exact trivial
set_option maxRecDepth 100000 in
theorem n_Le_enterHostLaunch_22 {ρ : Type} (e : zRes → Option ρ) {krA : Int → zH → Option ρ} {krZ : Int → zH → Option zRes} (hk : ∀ v h, (krZ v h).bind e = krA v h) (a0 a1 a2 a3 t0 : Int) (h : zH) : (Le_enterHostLaunch_22 krZ a0 a1 a2 a3 t0 h).bind e = Le_enterHostLaunch_22 krA a0 a1 a2 a3 t0 h := by
  refine Eq.trans (congrArg (fun z => Option.bind z e) (qe_Le_enterHostLaunch_22 krZ a0 a1 a2 a3 t0 h)) (Eq.trans ?_ (Eq.symm (qe_Le_enterHostLaunch_22 krA a0 a1 a2 a3 t0 h)))
  refine zseg_e e (zcal_e _ _ ?_) (zorc_e _ _ ?_) hk (fun _ _ => rfl) 400 _ _ _ _
  · exact trivial
  · exact ⟨rfl, rfl, rfl, zap8_e (fun x0 x1 x2 x3 x4 x5 x6 x7 h => n_Le_enterHostLaunch_44 e hk x0 x1 x2 x3 x4 x5 x6 x7 h), trivial⟩
set_option maxRecDepth 100000 in
theorem n_Le_enterHostLaunch_17 {ρ : Type} (e : zRes → Option ρ) {krA : Int → zH → Option ρ} {krZ : Int → zH → Option zRes} (hk : ∀ v h, (krZ v h).bind e = krA v h) (a0 a1 a2 a3 : Int) (h : zH) : (Le_enterHostLaunch_17 krZ a0 a1 a2 a3 h).bind e = Le_enterHostLaunch_17 krA a0 a1 a2 a3 h := by
  refine Eq.trans (congrArg (fun z => Option.bind z e) (qe_Le_enterHostLaunch_17 krZ a0 a1 a2 a3 h)) (Eq.trans ?_ (Eq.symm (qe_Le_enterHostLaunch_17 krA a0 a1 a2 a3 h)))
  refine zseg_e e (zcal_e _ _ ?_) (zorc_e _ _ ?_) hk (fun _ _ => rfl) 400 _ _ _ _
  · exact trivial
  · exact ⟨rfl, rfl, rfl, zap5_e (fun x0 x1 x2 x3 x4 h => n_Le_enterHostLaunch_22 e hk x0 x1 x2 x3 x4 h), trivial⟩
set_option maxRecDepth 100000 in
theorem n_Le_enterHostLaunch {ρ : Type} (e : zRes → Option ρ) {krA : Int → zH → Option ρ} {krZ : Int → zH → Option zRes} (hk : ∀ v h, (krZ v h).bind e = krA v h) (a0 a1 a2 : Int) (h : zH) : (Le_enterHostLaunch a0 a1 a2 h krZ).bind e = Le_enterHostLaunch a0 a1 a2 h krA := by
  refine Eq.trans (congrArg (fun z => Option.bind z e) (qe_Le_enterHostLaunch krZ a0 a1 a2 h)) (Eq.trans ?_ (Eq.symm (qe_Le_enterHostLaunch krA a0 a1 a2 h)))
  refine zseg_e e (zcal_e _ _ ?_) (zorc_e _ _ ?_) hk (fun _ _ => rfl) 400 _ _ _ _
  · exact ⟨rfl, rfl, zca1_e (fun x0 h k t => n_La_isOver e (fun _ _ => rfl) x0 h), ⟨rfl, rfl, zca2_e (fun x0 x1 h k t => n_Le_lastIn e (fun _ _ => rfl) x0 x1 h), trivial⟩⟩
  · exact ⟨rfl, rfl, rfl, zap4_e (fun x0 x1 x2 x3 h => n_Le_enterHostLaunch_17 e hk x0 x1 x2 x3 h), ⟨rfl, rfl, rfl, zap5_e (fun x0 x1 x2 x3 x4 h => n_Le_enterHostLaunch_22 e hk x0 x1 x2 x3 x4 h), trivial⟩⟩
set_option maxRecDepth 100000 in
theorem n_X_launch_35 {ρ : Type} (e : zRes → Option ρ) {krA : Int → zH → Option ρ} {krZ : Int → zH → Option zRes} (hk : ∀ v h, (krZ v h).bind e = krA v h) {ktA : Nat → zH → Option ρ} {ktZ : Nat → zH → Option zRes} (ht : ∀ n h, (ktZ n h).bind e = ktA n h) (h : zH) : (X_launch_35 krZ ktZ h).bind e = X_launch_35 krA ktA h := by
  refine Eq.trans (congrArg (fun z => Option.bind z e) (qe_X_launch_35 krZ ktZ h)) (Eq.trans ?_ (Eq.symm (qe_X_launch_35 krA ktA h)))
  refine zseg_e e (zcal_e _ _ ?_) (zorc_e _ _ ?_) hk ht 400 _ _ _ _
  · exact trivial
  · exact trivial
set_option maxRecDepth 100000 in
theorem n_X_launch {ρ : Type} (e : zRes → Option ρ) {krA : Int → zH → Option ρ} {krZ : Int → zH → Option zRes} (hk : ∀ v h, (krZ v h).bind e = krA v h) {ktA : Nat → zH → Option ρ} {ktZ : Nat → zH → Option zRes} (ht : ∀ n h, (ktZ n h).bind e = ktA n h) (a0 a1 a2 a3 a4 a5 : Int) (h : zH) : (X_launch a0 a1 a2 a3 a4 a5 h ktZ krZ).bind e = X_launch a0 a1 a2 a3 a4 a5 h ktA krA := by
  refine Eq.trans (congrArg (fun z => Option.bind z e) (qe_X_launch krZ ktZ a0 a1 a2 a3 a4 a5 h)) (Eq.trans ?_ (Eq.symm (qe_X_launch krA ktA a0 a1 a2 a3 a4 a5 h)))
  refine zseg_e e (zcal_e _ _ ?_) (zorc_e _ _ ?_) hk ht 400 _ _ _ _
  · exact ⟨rfl, rfl, zcx2_e (fun x0 x1 h k t => n_X_kernelAt e (fun _ _ => rfl) (fun _ _ => rfl) x0 x1 h), ⟨rfl, rfl, zcx3_e (fun x0 x1 x2 h k t => n_X_checkQueueAndAfter e (fun _ _ => rfl) (fun _ _ => rfl) x0 x1 x2 h), ⟨rfl, rfl, zcx1_e (fun x0 h k t => n_X_checkRoomForLaunch e (fun _ _ => rfl) (fun _ _ => rfl) x0 h), ⟨rfl, rfl, zca3_e (fun x0 x1 x2 h k t => n_X_isWithin e (fun _ _ => rfl) x0 x1 x2 h), ⟨rfl, rfl, zca2_e (fun x0 x1 h k t => n_Ke_blocksInUnit e (fun _ _ => rfl) x0 x1 h), ⟨rfl, rfl, zca4_e (fun x0 x1 x2 x3 h k t => n_La_useKernel e (fun _ _ => rfl) x0 x1 x2 x3 h), ⟨rfl, rfl, zca3_e (fun x0 x1 x2 h k t => n_Le_enterHostLaunch e (fun _ _ => rfl) x0 x1 x2 h), trivial⟩⟩⟩⟩⟩⟩⟩
  · exact ⟨rfl, rfl, rfl, zap0_e (fun  h => n_X_launch_35 e hk ht  h), trivial⟩
set_option maxRecDepth 100000 in
theorem n_La_useCopy {ρ : Type} (e : zRes → Option ρ) {krA : Int → zH → Option ρ} {krZ : Int → zH → Option zRes} (hk : ∀ v h, (krZ v h).bind e = krA v h) (a0 a1 a2 a3 : Int) (h : zH) : (La_useCopy a0 a1 a2 a3 h krZ).bind e = La_useCopy a0 a1 a2 a3 h krA := by
  refine Eq.trans (congrArg (fun z => Option.bind z e) (qe_La_useCopy krZ a0 a1 a2 a3 h)) (Eq.trans ?_ (Eq.symm (qe_La_useCopy krA a0 a1 a2 a3 h)))
  refine zseg_e e (zcal_e _ _ ?_) (zorc_e _ _ ?_) hk (fun _ _ => rfl) 400 _ _ _ _
  · exact trivial
  · exact trivial
set_option maxRecDepth 100000 in
theorem n_X_copy_44 {ρ : Type} (e : zRes → Option ρ) {krA : Int → zH → Option ρ} {krZ : Int → zH → Option zRes} (hk : ∀ v h, (krZ v h).bind e = krA v h) {ktA : Nat → zH → Option ρ} {ktZ : Nat → zH → Option zRes} (ht : ∀ n h, (ktZ n h).bind e = ktA n h) (h : zH) : (X_copy_44 krZ ktZ h).bind e = X_copy_44 krA ktA h := by
  refine Eq.trans (congrArg (fun z => Option.bind z e) (qe_X_copy_44 krZ ktZ h)) (Eq.trans ?_ (Eq.symm (qe_X_copy_44 krA ktA h)))
  refine zseg_e e (zcal_e _ _ ?_) (zorc_e _ _ ?_) hk ht 400 _ _ _ _
  · exact trivial
  · exact trivial
set_option maxRecDepth 100000 in
theorem n_X_copy {ρ : Type} (e : zRes → Option ρ) {krA : Int → zH → Option ρ} {krZ : Int → zH → Option zRes} (hk : ∀ v h, (krZ v h).bind e = krA v h) {ktA : Nat → zH → Option ρ} {ktZ : Nat → zH → Option zRes} (ht : ∀ n h, (ktZ n h).bind e = ktA n h) (a0 a1 a2 a3 a4 a5 : Int) (h : zH) : (X_copy a0 a1 a2 a3 a4 a5 h ktZ krZ).bind e = X_copy a0 a1 a2 a3 a4 a5 h ktA krA := by
  refine Eq.trans (congrArg (fun z => Option.bind z e) (qe_X_copy krZ ktZ a0 a1 a2 a3 a4 a5 h)) (Eq.trans ?_ (Eq.symm (qe_X_copy krA ktA a0 a1 a2 a3 a4 a5 h)))
  refine zseg_e e (zcal_e _ _ ?_) (zorc_e _ _ ?_) hk ht 400 _ _ _ _
  · exact ⟨rfl, rfl, zcx3_e (fun x0 x1 x2 h k t => n_X_checkQueueAndAfter e (fun _ _ => rfl) (fun _ _ => rfl) x0 x1 x2 h), ⟨rfl, rfl, zcx1_e (fun x0 h k t => n_X_checkRoomForLaunch e (fun _ _ => rfl) (fun _ _ => rfl) x0 h), ⟨rfl, rfl, zca3_e (fun x0 x1 x2 h k t => n_X_isWithin e (fun _ _ => rfl) x0 x1 x2 h), ⟨rfl, rfl, zca4_e (fun x0 x1 x2 x3 h k t => n_La_useCopy e (fun _ _ => rfl) x0 x1 x2 x3 h), ⟨rfl, rfl, zca3_e (fun x0 x1 x2 h k t => n_Le_enterHostLaunch e (fun _ _ => rfl) x0 x1 x2 h), trivial⟩⟩⟩⟩⟩
  · exact ⟨rfl, rfl, rfl, zap0_e (fun  h => n_X_copy_44 e hk ht  h), trivial⟩
set_option maxRecDepth 100000 in
theorem n_X_launches {ρ : Type} (e : zRes → Option ρ) {krA : Int → zH → Option ρ} {krZ : Int → zH → Option zRes} (hk : ∀ v h, (krZ v h).bind e = krA v h) (a0 : Int) (h : zH) : (X_launches a0 h krZ).bind e = X_launches a0 h krA := by
  refine Eq.trans (congrArg (fun z => Option.bind z e) (qe_X_launches krZ a0 h)) (Eq.trans ?_ (Eq.symm (qe_X_launches krA a0 h)))
  refine zseg_e e (zcal_e _ _ ?_) (zorc_e _ _ ?_) hk (fun _ _ => rfl) 400 _ _ _ _
  · exact trivial
  · exact trivial
set_option maxRecDepth 100000 in
theorem n_X_state {ρ : Type} (e : zRes → Option ρ) {krA : Int → zH → Option ρ} {krZ : Int → zH → Option zRes} (hk : ∀ v h, (krZ v h).bind e = krA v h) {ktA : Nat → zH → Option ρ} {ktZ : Nat → zH → Option zRes} (ht : ∀ n h, (ktZ n h).bind e = ktA n h) (a0 a1 : Int) (h : zH) : (X_state a0 a1 h ktZ krZ).bind e = X_state a0 a1 h ktA krA := by
  refine Eq.trans (congrArg (fun z => Option.bind z e) (qe_X_state krZ ktZ a0 a1 h)) (Eq.trans ?_ (Eq.symm (qe_X_state krA ktA a0 a1 h)))
  refine zseg_e e (zcal_e _ _ ?_) (zorc_e _ _ ?_) hk ht 400 _ _ _ _
  · exact ⟨rfl, rfl, zcx2_e (fun x0 x1 h k t => n_X_launchAt e (fun _ _ => rfl) (fun _ _ => rfl) x0 x1 h), trivial⟩
  · exact trivial
set_option maxRecDepth 100000 in
theorem n_X_parent {ρ : Type} (e : zRes → Option ρ) {krA : Int → zH → Option ρ} {krZ : Int → zH → Option zRes} (hk : ∀ v h, (krZ v h).bind e = krA v h) {ktA : Nat → zH → Option ρ} {ktZ : Nat → zH → Option zRes} (ht : ∀ n h, (ktZ n h).bind e = ktA n h) (a0 a1 : Int) (h : zH) : (X_parent a0 a1 h ktZ krZ).bind e = X_parent a0 a1 h ktA krA := by
  refine Eq.trans (congrArg (fun z => Option.bind z e) (qe_X_parent krZ ktZ a0 a1 h)) (Eq.trans ?_ (Eq.symm (qe_X_parent krA ktA a0 a1 h)))
  refine zseg_e e (zcal_e _ _ ?_) (zorc_e _ _ ?_) hk ht 400 _ _ _ _
  · exact ⟨rfl, rfl, zcx2_e (fun x0 x1 h k t => n_X_launchAt e (fun _ _ => rfl) (fun _ _ => rfl) x0 x1 h), trivial⟩
  · exact trivial
