/-! CALLS -/
set_option maxRecDepth 100000 in
theorem ct_M_fail {l : Launch} (hI : ∀ al, zIXc l al) {r : zRes} (a1 a2 a3 a4 a5 : Int) (h : zH) (k : (Int → zH → Option zRes)) (t : (Nat → zH → Option zRes)) (hr : M_fail a1 a2 a3 a4 a5 h k = some r) : zKsp l false zyi r 92 [0, a1, a2, a3, a4, a5] h k t := zct_of false (as := [0, a1, a2, a3, a4, a5]) (cut := zcut zu_M_fail) c_M_fail zyi_T (hI false) (Eq.trans (n_M_fail (krZ := zin) (krA := k) (zel k (fun _ _ => none)) (fun _ _ => rfl) a1 a2 a3 a4 a5 h) hr) (fun r1 e1 GO hS => s_M_fail hS (fun x0 x1 h k t hr => ct_M_blockOf hI x0 x1 h k t hr) (fun x0 h k t hr => ct_M_leave hI x0 h k t hr) a1 a2 a3 a4 a5 h e1)
theorem cy_M_fail {l : Launch} (hI : ∀ al, zIXc l al) {r : zRes} (y : Int) (a1 a2 a3 a4 a5 : Int) (h : zH) (k : (Int → zH → Option zRes)) (t : (Nat → zH → Option zRes)) (hr : zmch h y (M_fail a1 a2 a3 a4 a5 h k) = some r) : zKsp l true zyi r 92 [y, a1, a2, a3, a4, a5] h k t := by
  obtain ⟨rfl, h2, h3⟩ := zmch_some hr
  exact zcm_of h2 c_M_fail (ct_M_fail hI a1 a2 a3 a4 a5 h k t h3)
set_option maxRecDepth 100000 in
theorem ct_M_threadCell {l : Launch} (hI : ∀ al, zIXc l al) {r : zRes} (a1 a2 : Int) (h : zH) (k : (Int → zH → Option zRes)) (t : (Nat → zH → Option zRes)) (hr : M_threadCell a1 a2 h k = some r) : zKsp l false zyi r 93 [0, a1, a2] h k t := zct_of false (as := [0, a1, a2]) (cut := zcut zu_M_threadCell) c_M_threadCell zyi_T (hI false) (Eq.trans (n_M_threadCell (krZ := zin) (krA := k) (zel k (fun _ _ => none)) (fun _ _ => rfl) a1 a2 h) hr) (fun r1 e1 GO hS => s_M_threadCell hS a1 a2 h e1)
theorem cy_M_threadCell {l : Launch} (hI : ∀ al, zIXc l al) {r : zRes} (y : Int) (a1 a2 : Int) (h : zH) (k : (Int → zH → Option zRes)) (t : (Nat → zH → Option zRes)) (hr : zmch h y (M_threadCell a1 a2 h k) = some r) : zKsp l true zyi r 93 [y, a1, a2] h k t := by
  obtain ⟨rfl, h2, h3⟩ := zmch_some hr
  exact zcm_of h2 c_M_threadCell (ct_M_threadCell hI a1 a2 h k t h3)
set_option maxRecDepth 100000 in
theorem ct_M_count {l : Launch} (hI : ∀ al, zIXc l al) {r : zRes} (a1 a2 : Int) (h : zH) (k : (Int → zH → Option zRes)) (t : (Nat → zH → Option zRes)) (hr : M_count a1 a2 h k = some r) : zKsp l false zyi r 94 [0, a1, a2] h k t := zct_of false (as := [0, a1, a2]) (cut := zcut zu_M_count) c_M_count zyi_T (hI false) (Eq.trans (n_M_count (krZ := zin) (krA := k) (zel k (fun _ _ => none)) (fun _ _ => rfl) a1 a2 h) hr) (fun r1 e1 GO hS => s_M_count hS (fun x0 x1 h k t hr => ct_M_threadCell hI x0 x1 h k t hr) a1 a2 h e1)
theorem cy_M_count {l : Launch} (hI : ∀ al, zIXc l al) {r : zRes} (y : Int) (a1 a2 : Int) (h : zH) (k : (Int → zH → Option zRes)) (t : (Nat → zH → Option zRes)) (hr : zmch h y (M_count a1 a2 h k) = some r) : zKsp l true zyi r 94 [y, a1, a2] h k t := by
  obtain ⟨rfl, h2, h3⟩ := zmch_some hr
  exact zcm_of h2 c_M_count (ct_M_count hI a1 a2 h k t h3)
set_option maxRecDepth 100000 in
theorem ct_M_lookAt {l : Launch} (hI : ∀ al, zIXc l al) {r : zRes} (a1 : Int) (h : zH) (k : (Int → zH → Option zRes)) (t : (Nat → zH → Option zRes)) (hr : M_lookAt a1 h k = some r) : zKsp l false zyi r 95 [0, a1] h k t := zct_of false (as := [0, a1]) (cut := zcut zu_M_lookAt) c_M_lookAt zyi_T (hI false) (Eq.trans (n_M_lookAt (krZ := zin) (krA := k) (zel k (fun _ _ => none)) (fun _ _ => rfl) a1 h) hr) (fun r1 e1 GO hS => s_M_lookAt hS (fun x0 h k t hr => ct_M_leave hI x0 h k t hr) (fun x0 x1 x2 x3 x4 h k t hr => ct_M_fail hI x0 x1 x2 x3 x4 h k t hr) (fun x0 x1 h k t hr => ct_M_threadCell hI x0 x1 h k t hr) (fun x0 x1 h k t hr => ct_M_count hI x0 x1 h k t hr) a1 h e1)
theorem cy_M_lookAt {l : Launch} (hI : ∀ al, zIXc l al) {r : zRes} (y : Int) (a1 : Int) (h : zH) (k : (Int → zH → Option zRes)) (t : (Nat → zH → Option zRes)) (hr : zmch h y (M_lookAt a1 h k) = some r) : zKsp l true zyi r 95 [y, a1] h k t := by
  obtain ⟨rfl, h2, h3⟩ := zmch_some hr
  exact zcm_of h2 c_M_lookAt (ct_M_lookAt hI a1 h k t h3)
set_option maxRecDepth 100000 in
theorem ct_M_hasEnded {l : Launch} (hI : ∀ al, zIXc l al) {r : zRes} (a1 : Int) (h : zH) (k : (Int → zH → Option zRes)) (t : (Nat → zH → Option zRes)) (hr : M_hasEnded a1 h k = some r) : zKsp l false zyi r 96 [0, a1] h k t := zct_of false (as := [0, a1]) (cut := zcut zu_M_hasEnded) c_M_hasEnded zyi_T (hI false) (Eq.trans (n_M_hasEnded (krZ := zin) (krA := k) (zel k (fun _ _ => none)) (fun _ _ => rfl) a1 h) hr) (fun r1 e1 GO hS => s_M_hasEnded hS (fun x0 x1 h k t hr => ct_M_threadCell hI x0 x1 h k t hr) a1 h e1)
theorem cy_M_hasEnded {l : Launch} (hI : ∀ al, zIXc l al) {r : zRes} (y : Int) (a1 : Int) (h : zH) (k : (Int → zH → Option zRes)) (t : (Nat → zH → Option zRes)) (hr : zmch h y (M_hasEnded a1 h k) = some r) : zKsp l true zyi r 96 [y, a1] h k t := by
  obtain ⟨rfl, h2, h3⟩ := zmch_some hr
  exact zcm_of h2 c_M_hasEnded (ct_M_hasEnded hI a1 h k t h3)
set_option maxRecDepth 100000 in
theorem ct_M_writeFirst {l : Launch} (hI : ∀ al, zIXc l al) {r : zRes} (a1 : Int) (h : zH) (k : (Int → zH → Option zRes)) (t : (Nat → zH → Option zRes)) (hr : M_writeFirst a1 h k = some r) : zKsp l false zyi r 97 [0, a1] h k t := zct_of false (as := [0, a1]) (cut := zcut zu_M_writeFirst) c_M_writeFirst zyi_T (hI false) (Eq.trans (n_M_writeFirst (krZ := zin) (krA := k) (zel k (fun _ _ => none)) (fun _ _ => rfl) a1 h) hr) (fun r1 e1 GO hS => s_M_writeFirst hS a1 h e1)
theorem cy_M_writeFirst {l : Launch} (hI : ∀ al, zIXc l al) {r : zRes} (y : Int) (a1 : Int) (h : zH) (k : (Int → zH → Option zRes)) (t : (Nat → zH → Option zRes)) (hr : zmch h y (M_writeFirst a1 h k) = some r) : zKsp l true zyi r 97 [y, a1] h k t := by
  obtain ⟨rfl, h2, h3⟩ := zmch_some hr
  exact zcm_of h2 c_M_writeFirst (ct_M_writeFirst hI a1 h k t h3)
set_option maxRecDepth 100000 in
theorem ct_M_writeAll {l : Launch} (hI : ∀ al, zIXc l al) {r : zRes} (a1 : Int) (h : zH) (k : (Int → zH → Option zRes)) (t : (Nat → zH → Option zRes)) (hr : M_writeAll a1 h k = some r) : zKsp l false zyi r 98 [0, a1] h k t := zct_of false (as := [0, a1]) (cut := zcut zu_M_writeAll) c_M_writeAll zyi_T (hI false) (Eq.trans (n_M_writeAll (krZ := zin) (krA := k) (zel k (fun _ _ => none)) (fun _ _ => rfl) a1 h) hr) (fun r1 e1 GO hS => s_M_writeAll hS (fun x0 h k t hr => ct_M_writeFirst hI x0 h k t hr) a1 h e1)
theorem cy_M_writeAll {l : Launch} (hI : ∀ al, zIXc l al) {r : zRes} (y : Int) (a1 : Int) (h : zH) (k : (Int → zH → Option zRes)) (t : (Nat → zH → Option zRes)) (hr : zmch h y (M_writeAll a1 h k) = some r) : zKsp l true zyi r 98 [y, a1] h k t := by
  obtain ⟨rfl, h2, h3⟩ := zmch_some hr
  exact zcm_of h2 c_M_writeAll (ct_M_writeAll hI a1 h k t h3)
set_option maxRecDepth 100000 in
theorem ct_M_writeEnded {l : Launch} (hI : ∀ al, zIXc l al) {r : zRes} (a1 : Int) (h : zH) (k : (Int → zH → Option zRes)) (t : (Nat → zH → Option zRes)) (hr : M_writeEnded a1 h k = some r) : zKsp l false zyi r 99 [0, a1] h k t := zct_of false (as := [0, a1]) (cut := zcut zu_M_writeEnded) c_M_writeEnded zyi_T (hI false) (Eq.trans (n_M_writeEnded (krZ := zin) (krA := k) (zel k (fun _ _ => none)) (fun _ _ => rfl) a1 h) hr) (fun r1 e1 GO hS => s_M_writeEnded hS (fun x0 h k t hr => ct_M_hasEnded hI x0 h k t hr) (fun x0 h k t hr => ct_M_writeAll hI x0 h k t hr) a1 h e1)
theorem cy_M_writeEnded {l : Launch} (hI : ∀ al, zIXc l al) {r : zRes} (y : Int) (a1 : Int) (h : zH) (k : (Int → zH → Option zRes)) (t : (Nat → zH → Option zRes)) (hr : zmch h y (M_writeEnded a1 h k) = some r) : zKsp l true zyi r 99 [y, a1] h k t := by
  obtain ⟨rfl, h2, h3⟩ := zmch_some hr
  exact zcm_of h2 c_M_writeEnded (ct_M_writeEnded hI a1 h k t h3)
set_option maxRecDepth 100000 in
theorem ct_M_settle {l : Launch} (hI : ∀ al, zIXc l al) {r : zRes} (a1 : Int) (h : zH) (k : (Int → zH → Option zRes)) (t : (Nat → zH → Option zRes)) (hr : M_settle a1 h k = some r) : zKsp l false zyi r 100 [0, a1] h k t := zct_of false (as := [0, a1]) (cut := zcut zu_M_settle) c_M_settle zyi_T (hI false) (Eq.trans (n_M_settle (krZ := zin) (krA := k) (zel k (fun _ _ => none)) (fun _ _ => rfl) a1 h) hr) (fun r1 e1 GO hS => s_M_settle hS (fun x0 h k t hr => ct_M_lookAt hI x0 h k t hr) (fun x0 h k t hr => ct_M_writeEnded hI x0 h k t hr) a1 h e1)
theorem cy_M_settle {l : Launch} (hI : ∀ al, zIXc l al) {r : zRes} (y : Int) (a1 : Int) (h : zH) (k : (Int → zH → Option zRes)) (t : (Nat → zH → Option zRes)) (hr : zmch h y (M_settle a1 h k) = some r) : zKsp l true zyi r 100 [y, a1] h k t := by
  obtain ⟨rfl, h2, h3⟩ := zmch_some hr
  exact zcm_of h2 c_M_settle (ct_M_settle hI a1 h k t h3)
set_option maxRecDepth 100000 in
theorem ct_M_access {l : Launch} (hI : ∀ al, zIXc l al) {r : zRes} (a1 a2 a3 a4 : Int) (h : zH) (k : (Int → zH → Option zRes)) (t : (Nat → zH → Option zRes)) (hr : M_access a1 a2 a3 a4 h k = some r) : zKsp l false zyi r 101 [0, a1, a2, a3, a4] h k t := zct_of false (as := [0, a1, a2, a3, a4]) (cut := zcut zu_M_access) c_M_access zyi_T (hI false) (Eq.trans (n_M_access (krZ := zin) (krA := k) (zel k (fun _ _ => none)) (fun _ _ => rfl) a1 a2 a3 a4 h) hr) (fun r1 e1 GO hS => s_M_access hS a1 a2 a3 a4 h e1)
theorem cy_M_access {l : Launch} (hI : ∀ al, zIXc l al) {r : zRes} (y : Int) (a1 a2 a3 a4 : Int) (h : zH) (k : (Int → zH → Option zRes)) (t : (Nat → zH → Option zRes)) (hr : zmch h y (M_access a1 a2 a3 a4 h k) = some r) : zKsp l true zyi r 101 [y, a1, a2, a3, a4] h k t := by
  obtain ⟨rfl, h2, h3⟩ := zmch_some hr
  exact zcm_of h2 c_M_access (ct_M_access hI a1 a2 a3 a4 h k t h3)
set_option maxRecDepth 100000 in
theorem ct_M_accessShared {l : Launch} (hI : ∀ al, zIXc l al) {r : zRes} (a1 a2 a3 a4 : Int) (h : zH) (k : (Int → zH → Option zRes)) (t : (Nat → zH → Option zRes)) (hr : M_accessShared a1 a2 a3 a4 h k = some r) : zKsp l false zyi r 102 [0, a1, a2, a3, a4] h k t := zct_of false (as := [0, a1, a2, a3, a4]) (cut := zcut zu_M_accessShared) c_M_accessShared zyi_T (hI false) (Eq.trans (n_M_accessShared (krZ := zin) (krA := k) (zel k (fun _ _ => none)) (fun _ _ => rfl) a1 a2 a3 a4 h) hr) (fun r1 e1 GO hS => s_M_accessShared hS a1 a2 a3 a4 h e1)
theorem cy_M_accessShared {l : Launch} (hI : ∀ al, zIXc l al) {r : zRes} (y : Int) (a1 a2 a3 a4 : Int) (h : zH) (k : (Int → zH → Option zRes)) (t : (Nat → zH → Option zRes)) (hr : zmch h y (M_accessShared a1 a2 a3 a4 h k) = some r) : zKsp l true zyi r 102 [y, a1, a2, a3, a4] h k t := by
  obtain ⟨rfl, h2, h3⟩ := zmch_some hr
  exact zcm_of h2 c_M_accessShared (ct_M_accessShared hI a1 a2 a3 a4 h k t h3)
set_option maxRecDepth 100000 in
theorem ct_M_placeOf {l : Launch} (hI : ∀ al, zIXc l al) {r : zRes} (a1 : Int) (h : zH) (k : (Int → zH → Option zRes)) (t : (Nat → zH → Option zRes)) (hr : M_placeOf a1 h k = some r) : zKsp l false zyi r 103 [0, a1] h k t := zct_of false (as := [0, a1]) (cut := zcut zu_M_placeOf) c_M_placeOf zyi_T (hI false) (Eq.trans (n_M_placeOf (krZ := zin) (krA := k) (zel k (fun _ _ => none)) (fun _ _ => rfl) a1 h) hr) (fun r1 e1 GO hS => s_M_placeOf hS (fun x0 x1 h k t hr => ct_M_threadCell hI x0 x1 h k t hr) a1 h e1)
theorem cy_M_placeOf {l : Launch} (hI : ∀ al, zIXc l al) {r : zRes} (y : Int) (a1 : Int) (h : zH) (k : (Int → zH → Option zRes)) (t : (Nat → zH → Option zRes)) (hr : zmch h y (M_placeOf a1 h k) = some r) : zKsp l true zyi r 103 [y, a1] h k t := by
  obtain ⟨rfl, h2, h3⟩ := zmch_some hr
  exact zcm_of h2 c_M_placeOf (ct_M_placeOf hI a1 h k t h3)
set_option maxRecDepth 100000 in
theorem ct_M_maskOf {l : Launch} (hI : ∀ al, zIXc l al) {r : zRes} (a1 : Int) (h : zH) (k : (Int → zH → Option zRes)) (t : (Nat → zH → Option zRes)) (hr : M_maskOf a1 h k = some r) : zKsp l false zyi r 104 [0, a1] h k t := zct_of false (as := [0, a1]) (cut := zcut zu_M_maskOf) c_M_maskOf zyi_T (hI false) (Eq.trans (n_M_maskOf (krZ := zin) (krA := k) (zel k (fun _ _ => none)) (fun _ _ => rfl) a1 h) hr) (fun r1 e1 GO hS => s_M_maskOf hS (fun x0 x1 h k t hr => ct_M_threadCell hI x0 x1 h k t hr) (fun x0 h k t hr => ct_M_placeOf hI x0 h k t hr) a1 h e1)
theorem cy_M_maskOf {l : Launch} (hI : ∀ al, zIXc l al) {r : zRes} (y : Int) (a1 : Int) (h : zH) (k : (Int → zH → Option zRes)) (t : (Nat → zH → Option zRes)) (hr : zmch h y (M_maskOf a1 h k) = some r) : zKsp l true zyi r 104 [y, a1] h k t := by
  obtain ⟨rfl, h2, h3⟩ := zmch_some hr
  exact zcm_of h2 c_M_maskOf (ct_M_maskOf hI a1 h k t h3)
set_option maxRecDepth 100000 in
theorem ct_M_registerCell {l : Launch} (hI : ∀ al, zIXc l al) {r : zRes} (a1 a2 a3 : Int) (h : zH) (k : (Int → zH → Option zRes)) (t : (Nat → zH → Option zRes)) (hr : M_registerCell a1 a2 a3 h k = some r) : zKsp l false zyi r 105 [0, a1, a2, a3] h k t := zct_of false (as := [0, a1, a2, a3]) (cut := zcut zu_M_registerCell) c_M_registerCell zyi_T (hI false) (Eq.trans (n_M_registerCell (krZ := zin) (krA := k) (zel k (fun _ _ => none)) (fun _ _ => rfl) a1 a2 a3 h) hr) (fun r1 e1 GO hS => s_M_registerCell hS (fun x0 x1 h k t hr => ct_M_threadCell hI x0 x1 h k t hr) a1 a2 a3 h e1)
theorem cy_M_registerCell {l : Launch} (hI : ∀ al, zIXc l al) {r : zRes} (y : Int) (a1 a2 a3 : Int) (h : zH) (k : (Int → zH → Option zRes)) (t : (Nat → zH → Option zRes)) (hr : zmch h y (M_registerCell a1 a2 a3 h k) = some r) : zKsp l true zyi r 105 [y, a1, a2, a3] h k t := by
  obtain ⟨rfl, h2, h3⟩ := zmch_some hr
  exact zcm_of h2 c_M_registerCell (ct_M_registerCell hI a1 a2 a3 h k t h3)
set_option maxRecDepth 100000 in
theorem ct_M_lane {l : Launch} (hI : ∀ al, zIXc l al) {r : zRes} (a1 a2 : Int) (h : zH) (k : (Int → zH → Option zRes)) (t : (Nat → zH → Option zRes)) (hr : M_lane a1 a2 h k = some r) : zKsp l false zyi r 106 [0, a1, a2] h k t := zct_of false (as := [0, a1, a2]) (cut := zcut zu_M_lane) c_M_lane zyi_T (hI false) (Eq.trans (n_M_lane (krZ := zin) (krA := k) (zel k (fun _ _ => none)) (fun _ _ => rfl) a1 a2 h) hr) (fun r1 e1 GO hS => s_M_lane hS a1 a2 h e1)
theorem cy_M_lane {l : Launch} (hI : ∀ al, zIXc l al) {r : zRes} (y : Int) (a1 a2 : Int) (h : zH) (k : (Int → zH → Option zRes)) (t : (Nat → zH → Option zRes)) (hr : zmch h y (M_lane a1 a2 h k) = some r) : zKsp l true zyi r 106 [y, a1, a2] h k t := by
  obtain ⟨rfl, h2, h3⟩ := zmch_some hr
  exact zcm_of h2 c_M_lane (ct_M_lane hI a1 a2 h k t h3)
set_option maxRecDepth 100000 in
theorem ct_M_set {l : Launch} (hI : ∀ al, zIXc l al) {r : zRes} (a1 a2 a3 a4 : Int) (h : zH) (k : (Int → zH → Option zRes)) (t : (Nat → zH → Option zRes)) (hr : M_set a1 a2 a3 a4 h k = some r) : zKsp l false zyi r 107 [0, a1, a2, a3, a4] h k t := zct_of false (as := [0, a1, a2, a3, a4]) (cut := zcut zu_M_set) c_M_set zyi_T (hI false) (Eq.trans (n_M_set (krZ := zin) (krA := k) (zel k (fun _ _ => none)) (fun _ _ => rfl) a1 a2 a3 a4 h) hr) (fun r1 e1 GO hS => s_M_set hS (fun x0 x1 x2 h k t hr => ct_M_registerCell hI x0 x1 x2 h k t hr) a1 a2 a3 a4 h e1)
theorem cy_M_set {l : Launch} (hI : ∀ al, zIXc l al) {r : zRes} (y : Int) (a1 a2 a3 a4 : Int) (h : zH) (k : (Int → zH → Option zRes)) (t : (Nat → zH → Option zRes)) (hr : zmch h y (M_set a1 a2 a3 a4 h k) = some r) : zKsp l true zyi r 107 [y, a1, a2, a3, a4] h k t := by
  obtain ⟨rfl, h2, h3⟩ := zmch_some hr
  exact zcm_of h2 c_M_set (ct_M_set hI a1 a2 a3 a4 h k t h3)
set_option maxRecDepth 100000 in
theorem ct_M_isUnder {l : Launch} (hI : ∀ al, zIXc l al) {r : zRes} (a1 : Int) (h : zH) (k : (Int → zH → Option zRes)) (t : (Nat → zH → Option zRes)) (hr : M_isUnder a1 h k = some r) : zKsp l false zyi r 108 [0, a1] h k t := zct_of false (as := [0, a1]) (cut := zcut zu_M_isUnder) c_M_isUnder zyi_T (hI false) (Eq.trans (n_M_isUnder (krZ := zin) (krA := k) (zel k (fun _ _ => none)) (fun _ _ => rfl) a1 h) hr) (fun r1 e1 GO hS => s_M_isUnder hS a1 h e1)
theorem cy_M_isUnder {l : Launch} (hI : ∀ al, zIXc l al) {r : zRes} (y : Int) (a1 : Int) (h : zH) (k : (Int → zH → Option zRes)) (t : (Nat → zH → Option zRes)) (hr : zmch h y (M_isUnder a1 h k) = some r) : zKsp l true zyi r 108 [y, a1] h k t := by
  obtain ⟨rfl, h2, h3⟩ := zmch_some hr
  exact zcm_of h2 c_M_isUnder (ct_M_isUnder hI a1 h k t h3)
set_option maxRecDepth 100000 in
theorem ct_M_modulo {l : Launch} (hI : ∀ al, zIXc l al) {r : zRes} (a0 : Int) (h : zH) (k : (Int → zH → Option zRes)) (t : (Nat → zH → Option zRes)) (hr : M_modulo a0 h k = some r) : zKsp l false zyi r 109 [a0] h k t := zct_of false (as := [a0]) (cut := zcut zu_M_modulo) c_M_modulo zyi_T (hI false) (Eq.trans (n_M_modulo (krZ := zin) (krA := k) (zel k (fun _ _ => none)) (fun _ _ => rfl) a0 h) hr) (fun r1 e1 GO hS => s_M_modulo hS a0 h e1)
set_option maxRecDepth 100000 in
theorem ct_M_vote {l : Launch} (hI : ∀ al, zIXc l al) {r : zRes} (a1 : Int) (h : zH) (k : (Int → zH → Option zRes)) (t : (Nat → zH → Option zRes)) (hr : M_vote a1 h k = some r) : zKsp l false zyi r 110 [0, a1] h k t := zct_of false (as := [0, a1]) (cut := zcut zu_M_vote) c_M_vote zyi_T (hI false) (Eq.trans (n_M_vote (krZ := zin) (krA := k) (zel k (fun _ _ => none)) (fun _ _ => rfl) a1 h) hr) (fun r1 e1 GO hS => s_M_vote hS (fun x0 x1 h k t hr => ct_M_lane hI x0 x1 h k t hr) (fun x0 h k t hr => ct_M_isUnder hI x0 h k t hr) a1 h e1)
theorem cy_M_vote {l : Launch} (hI : ∀ al, zIXc l al) {r : zRes} (y : Int) (a1 : Int) (h : zH) (k : (Int → zH → Option zRes)) (t : (Nat → zH → Option zRes)) (hr : zmch h y (M_vote a1 h k) = some r) : zKsp l true zyi r 110 [y, a1] h k t := by
  obtain ⟨rfl, h2, h3⟩ := zmch_some hr
  exact zcm_of h2 c_M_vote (ct_M_vote hI a1 h k t h3)
set_option maxRecDepth 100000 in
theorem ct_M_seen {l : Launch} (hI : ∀ al, zIXc l al) {r : zRes} (a1 a2 : Int) (h : zH) (k : (Int → zH → Option zRes)) (t : (Nat → zH → Option zRes)) (hr : M_seen a1 a2 h k = some r) : zKsp l false zyi r 111 [0, a1, a2] h k t := zct_of false (as := [0, a1, a2]) (cut := zcut zu_M_seen) c_M_seen zyi_T (hI false) (Eq.trans (n_M_seen (krZ := zin) (krA := k) (zel k (fun _ _ => none)) (fun _ _ => rfl) a1 a2 h) hr) (fun r1 e1 GO hS => s_M_seen hS a1 a2 h e1)
theorem cy_M_seen {l : Launch} (hI : ∀ al, zIXc l al) {r : zRes} (y : Int) (a1 a2 : Int) (h : zH) (k : (Int → zH → Option zRes)) (t : (Nat → zH → Option zRes)) (hr : zmch h y (M_seen a1 a2 h k) = some r) : zKsp l true zyi r 111 [y, a1, a2] h k t := by
  obtain ⟨rfl, h2, h3⟩ := zmch_some hr
  exact zcm_of h2 c_M_seen (ct_M_seen hI a1 a2 h k t h3)
set_option maxRecDepth 100000 in
theorem ct_M_cellOf {l : Launch} (hI : ∀ al, zIXc l al) {r : zRes} (a1 a2 a3 : Int) (h : zH) (k : (Int → zH → Option zRes)) (t : (Nat → zH → Option zRes)) (hr : M_cellOf a1 a2 a3 h k = some r) : zKsp l false zyi r 112 [0, a1, a2, a3] h k t := zct_of false (as := [0, a1, a2, a3]) (cut := zcut zu_M_cellOf) c_M_cellOf zyi_T (hI false) (Eq.trans (n_M_cellOf (krZ := zin) (krA := k) (zel k (fun _ _ => none)) (fun _ _ => rfl) a1 a2 a3 h) hr) (fun r1 e1 GO hS => s_M_cellOf hS (fun x0 x1 h k t hr => ct_M_lane hI x0 x1 h k t hr) a1 a2 a3 h e1)
theorem cy_M_cellOf {l : Launch} (hI : ∀ al, zIXc l al) {r : zRes} (y : Int) (a1 a2 a3 : Int) (h : zH) (k : (Int → zH → Option zRes)) (t : (Nat → zH → Option zRes)) (hr : zmch h y (M_cellOf a1 a2 a3 h k) = some r) : zKsp l true zyi r 112 [y, a1, a2, a3] h k t := by
  obtain ⟨rfl, h2, h3⟩ := zmch_some hr
  exact zcm_of h2 c_M_cellOf (ct_M_cellOf hI a1 a2 a3 h k t h3)
set_option maxRecDepth 100000 in
theorem ct_M_isGlobal {l : Launch} (hI : ∀ al, zIXc l al) {r : zRes} (a0 : Int) (h : zH) (k : (Int → zH → Option zRes)) (t : (Nat → zH → Option zRes)) (hr : M_isGlobal a0 h k = some r) : zKsp l false zyi r 113 [a0] h k t := zct_of false (as := [a0]) (cut := zcut zu_M_isGlobal) c_M_isGlobal zyi_T (hI false) (Eq.trans (n_M_isGlobal (krZ := zin) (krA := k) (zel k (fun _ _ => none)) (fun _ _ => rfl) a0 h) hr) (fun r1 e1 GO hS => s_M_isGlobal hS a0 h e1)
set_option maxRecDepth 100000 in
theorem ct_M_isShared {l : Launch} (hI : ∀ al, zIXc l al) {r : zRes} (a0 : Int) (h : zH) (k : (Int → zH → Option zRes)) (t : (Nat → zH → Option zRes)) (hr : M_isShared a0 h k = some r) : zKsp l false zyi r 114 [a0] h k t := zct_of false (as := [a0]) (cut := zcut zu_M_isShared) c_M_isShared zyi_T (hI false) (Eq.trans (n_M_isShared (krZ := zin) (krA := k) (zel k (fun _ _ => none)) (fun _ _ => rfl) a0 h) hr) (fun r1 e1 GO hS => s_M_isShared hS a0 h e1)
set_option maxRecDepth 100000 in
theorem ct_M_compute {l : Launch} (hI : ∀ al, zIXc l al) {r : zRes} (a0 a1 a2 : Int) (h : zH) (k : (Int → zH → Option zRes)) (t : (Nat → zH → Option zRes)) (hr : M_compute a0 a1 a2 h k = some r) : zKsp l false zyi r 115 [a0, a1, a2] h k t := zct_of false (as := [a0, a1, a2]) (cut := zcut zu_M_compute) c_M_compute zyi_T (hI false) (Eq.trans (n_M_compute (krZ := zin) (krA := k) (zel k (fun _ _ => none)) (fun _ _ => rfl) a0 a1 a2 h) hr) (fun r1 e1 GO hS => s_M_compute hS a0 a1 a2 h e1)
set_option maxRecDepth 100000 in
theorem ct_M_doCell {l : Launch} (hI : ∀ al, zIXc l al) {r : zRes} (a1 a2 a3 a4 : Int) (h : zH) (k : (Int → zH → Option zRes)) (t : (Nat → zH → Option zRes)) (hr : M_doCell a1 a2 a3 a4 h k = some r) : zKsp l false zyi r 116 [0, a1, a2, a3, a4] h k t := zct_of false (as := [0, a1, a2, a3, a4]) (cut := zcut zu_M_doCell) c_M_doCell zyi_T (hI false) (Eq.trans (n_M_doCell (krZ := zin) (krA := k) (zel k (fun _ _ => none)) (fun _ _ => rfl) a1 a2 a3 a4 h) hr) (fun r1 e1 GO hS => s_M_doCell hS (fun x0 h k t hr => ct_M_writeFirst hI x0 h k t hr) (fun x0 x1 x2 x3 h k t hr => ct_M_access hI x0 x1 x2 x3 h k t hr) (fun x0 x1 x2 x3 h k t hr => ct_M_accessShared hI x0 x1 x2 x3 h k t hr) (fun x0 x1 h k t hr => ct_M_lane hI x0 x1 h k t hr) (fun x0 x1 x2 x3 h k t hr => ct_M_set hI x0 x1 x2 x3 h k t hr) (fun x0 x1 h k t hr => ct_M_seen hI x0 x1 h k t hr) (fun x0 x1 x2 h k t hr => ct_M_cellOf hI x0 x1 x2 h k t hr) (fun x0 h k t hr => ct_M_isShared hI x0 h k t hr) a1 a2 a3 a4 h e1)
theorem cy_M_doCell {l : Launch} (hI : ∀ al, zIXc l al) {r : zRes} (y : Int) (a1 a2 a3 a4 : Int) (h : zH) (k : (Int → zH → Option zRes)) (t : (Nat → zH → Option zRes)) (hr : zmch h y (M_doCell a1 a2 a3 a4 h k) = some r) : zKsp l true zyi r 116 [y, a1, a2, a3, a4] h k t := by
  obtain ⟨rfl, h2, h3⟩ := zmch_some hr
  exact zcm_of h2 c_M_doCell (ct_M_doCell hI a1 a2 a3 a4 h k t h3)
set_option maxRecDepth 100000 in
theorem ct_M_doLane {l : Launch} (hI : ∀ al, zIXc l al) {r : zRes} (a1 a2 a3 a4 : Int) (h : zH) (k : (Int → zH → Option zRes)) (t : (Nat → zH → Option zRes)) (hr : M_doLane a1 a2 a3 a4 h k = some r) : zKsp l false zyi r 117 [0, a1, a2, a3, a4] h k t := zct_of false (as := [0, a1, a2, a3, a4]) (cut := zcut zu_M_doLane) c_M_doLane zyi_T (hI false) (Eq.trans (n_M_doLane (krZ := zin) (krA := k) (zel k (fun _ _ => none)) (fun _ _ => rfl) a1 a2 a3 a4 h) hr) (fun r1 e1 GO hS => s_M_doLane hS (fun x0 x1 x2 h k t hr => ct_M_launchChild hI x0 x1 x2 h k t hr) (fun x0 x1 h k t hr => ct_M_threadCell hI x0 x1 h k t hr) (fun x0 x1 h k t hr => ct_M_lane hI x0 x1 h k t hr) (fun x0 x1 x2 x3 h k t hr => ct_M_set hI x0 x1 x2 x3 h k t hr) (fun x0 h k t hr => ct_M_isUnder hI x0 h k t hr) (fun x0 h k t hr => ct_M_modulo hI x0 h k t hr) (fun x0 h k t hr => ct_M_vote hI x0 h k t hr) (fun x0 x1 x2 h k t hr => ct_M_compute hI x0 x1 x2 h k t hr) a1 a2 a3 a4 h e1)
theorem cy_M_doLane {l : Launch} (hI : ∀ al, zIXc l al) {r : zRes} (y : Int) (a1 a2 a3 a4 : Int) (h : zH) (k : (Int → zH → Option zRes)) (t : (Nat → zH → Option zRes)) (hr : zmch h y (M_doLane a1 a2 a3 a4 h k) = some r) : zKsp l true zyi r 117 [y, a1, a2, a3, a4] h k t := by
  obtain ⟨rfl, h2, h3⟩ := zmch_some hr
  exact zcm_of h2 c_M_doLane (ct_M_doLane hI a1 a2 a3 a4 h k t h3)
set_option maxRecDepth 100000 in
theorem ct_M_isNew {l : Launch} (hI : ∀ al, zIXc l al) {r : zRes} (a1 a2 a3 : Int) (h : zH) (k : (Int → zH → Option zRes)) (t : (Nat → zH → Option zRes)) (hr : M_isNew a1 a2 a3 h k = some r) : zKsp l false zyi r 119 [0, a1, a2, a3] h k t := zct_of false (as := [0, a1, a2, a3]) (cut := zcut zu_M_isNew) c_M_isNew zyi_T (hI false) (Eq.trans (n_M_isNew (krZ := zin) (krA := k) (zel k (fun _ _ => none)) (fun _ _ => rfl) a1 a2 a3 h) hr) (fun r1 e1 GO hS => s_M_isNew hS (fun x0 h k t hr => ct_M_isUnder hI x0 h k t hr) (fun x0 x1 x2 h k t hr => ct_M_cellOf hI x0 x1 x2 h k t hr) a1 a2 a3 h e1)
theorem cy_M_isNew {l : Launch} (hI : ∀ al, zIXc l al) {r : zRes} (y : Int) (a1 a2 a3 : Int) (h : zH) (k : (Int → zH → Option zRes)) (t : (Nat → zH → Option zRes)) (hr : zmch h y (M_isNew a1 a2 a3 h k) = some r) : zKsp l true zyi r 119 [y, a1, a2, a3] h k t := by
  obtain ⟨rfl, h2, h3⟩ := zmch_some hr
  exact zcm_of h2 c_M_isNew (ct_M_isNew hI a1 a2 a3 h k t h3)
set_option maxRecDepth 100000 in
theorem ct_M_banks {l : Launch} (hI : ∀ al, zIXc l al) {r : zRes} (a1 a2 : Int) (h : zH) (k : (Int → zH → Option zRes)) (t : (Nat → zH → Option zRes)) (hr : M_banks a1 a2 h k = some r) : zKsp l false zyi r 120 [0, a1, a2] h k t := zct_of false (as := [0, a1, a2]) (cut := zcut zu_M_banks) c_M_banks zyi_T (hI false) (Eq.trans (n_M_banks (krZ := zin) (krA := k) (zel k (fun _ _ => none)) (fun _ _ => rfl) a1 a2 h) hr) (fun r1 e1 GO hS => s_M_banks hS (fun x0 x1 x2 h k t hr => ct_M_cellOf hI x0 x1 x2 h k t hr) (fun x0 x1 x2 h k t hr => ct_M_isNew hI x0 x1 x2 h k t hr) a1 a2 h e1)
theorem cy_M_banks {l : Launch} (hI : ∀ al, zIXc l al) {r : zRes} (y : Int) (a1 a2 : Int) (h : zH) (k : (Int → zH → Option zRes)) (t : (Nat → zH → Option zRes)) (hr : zmch h y (M_banks a1 a2 h k) = some r) : zKsp l true zyi r 120 [y, a1, a2] h k t := by
  obtain ⟨rfl, h2, h3⟩ := zmch_some hr
  exact zcm_of h2 c_M_banks (ct_M_banks hI a1 a2 h k t h3)
set_option maxRecDepth 100000 in
theorem ct_M_lines {l : Launch} (hI : ∀ al, zIXc l al) {r : zRes} (a1 a2 : Int) (h : zH) (k : (Int → zH → Option zRes)) (t : (Nat → zH → Option zRes)) (hr : M_lines a1 a2 h k = some r) : zKsp l false zyi r 121 [0, a1, a2] h k t := zct_of false (as := [0, a1, a2]) (cut := zcut zu_M_lines) c_M_lines zyi_T (hI false) (Eq.trans (n_M_lines (krZ := zin) (krA := k) (zel k (fun _ _ => none)) (fun _ _ => rfl) a1 a2 h) hr) (fun r1 e1 GO hS => s_M_lines hS (fun x0 x1 h k t hr => ct_M_lane hI x0 x1 h k t hr) (fun x0 h k t hr => ct_M_isUnder hI x0 h k t hr) a1 a2 h e1)
theorem cy_M_lines {l : Launch} (hI : ∀ al, zIXc l al) {r : zRes} (y : Int) (a1 a2 : Int) (h : zH) (k : (Int → zH → Option zRes)) (t : (Nat → zH → Option zRes)) (hr : zmch h y (M_lines a1 a2 h k) = some r) : zKsp l true zyi r 121 [y, a1, a2] h k t := by
  obtain ⟨rfl, h2, h3⟩ := zmch_some hr
  exact zcm_of h2 c_M_lines (ct_M_lines hI a1 a2 h k t h3)
set_option maxRecDepth 100000 in
theorem ct_M_delayOf {l : Launch} (hI : ∀ al, zIXc l al) {r : zRes} (a1 a2 a3 : Int) (h : zH) (k : (Int → zH → Option zRes)) (t : (Nat → zH → Option zRes)) (hr : M_delayOf a1 a2 a3 h k = some r) : zKsp l false zyi r 118 [0, a1, a2, a3] h k t := zct_of false (as := [0, a1, a2, a3]) (cut := zcut zu_M_delayOf) c_M_delayOf zyi_T (hI false) (Eq.trans (n_M_delayOf (krZ := zin) (krA := k) (zel k (fun _ _ => none)) (fun _ _ => rfl) a1 a2 a3 h) hr) (fun r1 e1 GO hS => s_M_delayOf hS (fun x0 h k t hr => ct_M_isShared hI x0 h k t hr) (fun x0 x1 h k t hr => ct_M_banks hI x0 x1 h k t hr) (fun x0 x1 h k t hr => ct_M_lines hI x0 x1 h k t hr) a1 a2 a3 h e1)
theorem cy_M_delayOf {l : Launch} (hI : ∀ al, zIXc l al) {r : zRes} (y : Int) (a1 a2 a3 : Int) (h : zH) (k : (Int → zH → Option zRes)) (t : (Nat → zH → Option zRes)) (hr : zmch h y (M_delayOf a1 a2 a3 h k) = some r) : zKsp l true zyi r 118 [y, a1, a2, a3] h k t := by
  obtain ⟨rfl, h2, h3⟩ := zmch_some hr
  exact zcm_of h2 c_M_delayOf (ct_M_delayOf hI a1 a2 a3 h k t h3)
set_option maxRecDepth 100000 in
theorem ct_M_doLanes {l : Launch} (hI : ∀ al, zIXc l al) {r : zRes} (a1 a2 a3 : Int) (h : zH) (k : (Int → zH → Option zRes)) (t : (Nat → zH → Option zRes)) (hr : M_doLanes a1 a2 a3 h k = some r) : zKsp l false zyi r 122 [0, a1, a2, a3] h k t := zct_of false (as := [0, a1, a2, a3]) (cut := zcut zu_M_doLanes) c_M_doLanes zyi_T (hI false) (Eq.trans (n_M_doLanes (krZ := zin) (krA := k) (zel k (fun _ _ => none)) (fun _ _ => rfl) a1 a2 a3 h) hr) (fun r1 e1 GO hS => s_M_doLanes hS (fun x0 x1 x2 h k t hr => ct_M_in hI x0 x1 x2 h k t hr) (fun x0 h k t hr => ct_M_noCell hI x0 h k t hr) (fun x0 h k t hr => ct_M_isUnder hI x0 h k t hr) (fun x0 x1 x2 h k t hr => ct_M_cellOf hI x0 x1 x2 h k t hr) (fun x0 h k t hr => ct_M_isGlobal hI x0 h k t hr) (fun x0 h k t hr => ct_M_isShared hI x0 h k t hr) (fun x0 x1 x2 x3 h k t hr => ct_M_doCell hI x0 x1 x2 x3 h k t hr) (fun x0 x1 x2 x3 h k t hr => ct_M_doLane hI x0 x1 x2 x3 h k t hr) a1 a2 a3 h e1)
theorem cy_M_doLanes {l : Launch} (hI : ∀ al, zIXc l al) {r : zRes} (y : Int) (a1 a2 a3 : Int) (h : zH) (k : (Int → zH → Option zRes)) (t : (Nat → zH → Option zRes)) (hr : zmch h y (M_doLanes a1 a2 a3 h k) = some r) : zKsp l true zyi r 122 [y, a1, a2, a3] h k t := by
  obtain ⟨rfl, h2, h3⟩ := zmch_some hr
  exact zcm_of h2 c_M_doLanes (ct_M_doLanes hI a1 a2 a3 h k t h3)
set_option maxRecDepth 100000 in
theorem ct_M_carryOut {l : Launch} (hI : ∀ al, zIXc l al) {r : zRes} (a1 a2 : Int) (h : zH) (k : (Int → zH → Option zRes)) (t : (Nat → zH → Option zRes)) (hr : M_carryOut a1 a2 h k = some r) : zKsp l false zyi r 123 [0, a1, a2] h k t := zct_of false (as := [0, a1, a2]) (cut := zcut zu_M_carryOut) c_M_carryOut zyi_T (hI false) (Eq.trans (n_M_carryOut (krZ := zin) (krA := k) (zel k (fun _ _ => none)) (fun _ _ => rfl) a1 a2 h) hr) (fun r1 e1 GO hS => s_M_carryOut hS (fun x0 x1 x2 x3 x4 h k t hr => ct_M_fail hI x0 x1 x2 x3 x4 h k t hr) (fun x0 h k t hr => ct_M_writeAll hI x0 h k t hr) (fun x0 h k t hr => ct_M_settle hI x0 h k t hr) (fun x0 h k t hr => ct_M_placeOf hI x0 h k t hr) (fun x0 h k t hr => ct_M_maskOf hI x0 h k t hr) (fun x0 x1 x2 h k t hr => ct_M_registerCell hI x0 x1 x2 h k t hr) (fun x0 h k t hr => ct_M_isShared hI x0 h k t hr) (fun x0 x1 x2 h k t hr => ct_M_delayOf hI x0 x1 x2 h k t hr) (fun x0 x1 x2 h k t hr => ct_M_doLanes hI x0 x1 x2 h k t hr) a1 a2 h e1)
theorem cy_M_carryOut {l : Launch} (hI : ∀ al, zIXc l al) {r : zRes} (y : Int) (a1 a2 : Int) (h : zH) (k : (Int → zH → Option zRes)) (t : (Nat → zH → Option zRes)) (hr : zmch h y (M_carryOut a1 a2 h k) = some r) : zKsp l true zyi r 123 [y, a1, a2] h k t := by
  obtain ⟨rfl, h2, h3⟩ := zmch_some hr
  exact zcm_of h2 c_M_carryOut (ct_M_carryOut hI a1 a2 h k t h3)
set_option maxRecDepth 100000 in
theorem ct_M_beginLaunch {l : Launch} (hI : ∀ al, zIXc l al) {r : zRes} (a1 : Int) (h : zH) (k : (Int → zH → Option zRes)) (t : (Nat → zH → Option zRes)) (hr : M_beginLaunch a1 h k = some r) : zKsp l false zyi r 124 [0, a1] h k t := zct_of false (as := [0, a1]) (cut := zcut zu_M_beginLaunch) c_M_beginLaunch zyi_T (hI false) (Eq.trans (n_M_beginLaunch (krZ := zin) (krA := k) (zel k (fun _ _ => none)) (fun _ _ => rfl) a1 h) hr) (fun r1 e1 GO hS => s_M_beginLaunch hS a1 h e1)
theorem cy_M_beginLaunch {l : Launch} (hI : ∀ al, zIXc l al) {r : zRes} (y : Int) (a1 : Int) (h : zH) (k : (Int → zH → Option zRes)) (t : (Nat → zH → Option zRes)) (hr : zmch h y (M_beginLaunch a1 h k) = some r) : zKsp l true zyi r 124 [y, a1] h k t := by
  obtain ⟨rfl, h2, h3⟩ := zmch_some hr
  exact zcm_of h2 c_M_beginLaunch (ct_M_beginLaunch hI a1 h k t h3)
set_option maxRecDepth 100000 in
theorem ct_M_firstOf {l : Launch} (hI : ∀ al, zIXc l al) {r : zRes} (a1 : Int) (h : zH) (k : (Int → zH → Option zRes)) (t : (Nat → zH → Option zRes)) (hr : M_firstOf a1 h k = some r) : zKsp l false zyi r 125 [0, a1] h k t := zct_of false (as := [0, a1]) (cut := zcut zu_M_firstOf) c_M_firstOf zyi_T (hI false) (Eq.trans (n_M_firstOf (krZ := zin) (krA := k) (zel k (fun _ _ => none)) (fun _ _ => rfl) a1 h) hr) (fun r1 e1 GO hS => s_M_firstOf hS (fun x0 h k t hr => ct_M_isOver hI x0 h k t hr) a1 h e1)
theorem cy_M_firstOf {l : Launch} (hI : ∀ al, zIXc l al) {r : zRes} (y : Int) (a1 : Int) (h : zH) (k : (Int → zH → Option zRes)) (t : (Nat → zH → Option zRes)) (hr : zmch h y (M_firstOf a1 h k) = some r) : zKsp l true zyi r 125 [y, a1] h k t := by
  obtain ⟨rfl, h2, h3⟩ := zmch_some hr
  exact zcm_of h2 c_M_firstOf (ct_M_firstOf hI a1 h k t h3)
set_option maxRecDepth 100000 in
theorem ct_M_isBroken {l : Launch} (hI : ∀ al, zIXc l al) {r : zRes} (a1 : Int) (h : zH) (k : (Int → zH → Option zRes)) (t : (Nat → zH → Option zRes)) (hr : M_isBroken a1 h k = some r) : zKsp l false zyi r 126 [0, a1] h k t := zct_of false (as := [0, a1]) (cut := zcut zu_M_isBroken) c_M_isBroken zyi_T (hI false) (Eq.trans (n_M_isBroken (krZ := zin) (krA := k) (zel k (fun _ _ => none)) (fun _ _ => rfl) a1 h) hr) (fun r1 e1 GO hS => s_M_isBroken hS a1 h e1)
theorem cy_M_isBroken {l : Launch} (hI : ∀ al, zIXc l al) {r : zRes} (y : Int) (a1 : Int) (h : zH) (k : (Int → zH → Option zRes)) (t : (Nat → zH → Option zRes)) (hr : zmch h y (M_isBroken a1 h k) = some r) : zKsp l true zyi r 126 [y, a1] h k t := by
  obtain ⟨rfl, h2, h3⟩ := zmch_some hr
  exact zcm_of h2 c_M_isBroken (ct_M_isBroken hI a1 h k t h3)
set_option maxRecDepth 100000 in
theorem ct_M_goThrough {l : Launch} (hI : ∀ al, zIXc l al) {r : zRes} (a1 : Int) (h : zH) (k : (Int → zH → Option zRes)) (t : (Nat → zH → Option zRes)) (hr : M_goThrough a1 h k = some r) : zKsp l false zyi r 127 [0, a1] h k t := zct_of false (as := [0, a1]) (cut := zcut zu_M_goThrough) c_M_goThrough zyi_T (hI false) (Eq.trans (n_M_goThrough (krZ := zin) (krA := k) (zel k (fun _ _ => none)) (fun _ _ => rfl) a1 h) hr) (fun r1 e1 GO hS => s_M_goThrough hS (fun x0 h k t hr => ct_M_isOver hI x0 h k t hr) (fun x0 h k t hr => ct_M_beginLaunch hI x0 h k t hr) (fun x0 h k t hr => ct_M_firstOf hI x0 h k t hr) (fun x0 h k t hr => ct_M_isBroken hI x0 h k t hr) a1 h e1)
theorem cy_M_goThrough {l : Launch} (hI : ∀ al, zIXc l al) {r : zRes} (y : Int) (a1 : Int) (h : zH) (k : (Int → zH → Option zRes)) (t : (Nat → zH → Option zRes)) (hr : zmch h y (M_goThrough a1 h k) = some r) : zKsp l true zyi r 127 [y, a1] h k t := by
  obtain ⟨rfl, h2, h3⟩ := zmch_some hr
  exact zcm_of h2 c_M_goThrough (ct_M_goThrough hI a1 h k t h3)
set_option maxRecDepth 100000 in
theorem ct_M_copyOne {l : Launch} (hI : ∀ al, zIXc l al) {r : zRes} (a1 : Int) (h : zH) (k : (Int → zH → Option zRes)) (t : (Nat → zH → Option zRes)) (hr : M_copyOne a1 h k = some r) : zKsp l false zyi r 128 [0, a1] h k t := zct_of false (as := [0, a1]) (cut := zcut zu_M_copyOne) c_M_copyOne zyi_T (hI false) (Eq.trans (n_M_copyOne (krZ := zin) (krA := k) (zel k (fun _ _ => none)) (fun _ _ => rfl) a1 h) hr) (fun r1 e1 GO hS => s_M_copyOne hS a1 h e1)
theorem cy_M_copyOne {l : Launch} (hI : ∀ al, zIXc l al) {r : zRes} (y : Int) (a1 : Int) (h : zH) (k : (Int → zH → Option zRes)) (t : (Nat → zH → Option zRes)) (hr : zmch h y (M_copyOne a1 h k) = some r) : zKsp l true zyi r 128 [y, a1] h k t := by
  obtain ⟨rfl, h2, h3⟩ := zmch_some hr
  exact zcm_of h2 c_M_copyOne (ct_M_copyOne hI a1 h k t h3)
set_option maxRecDepth 100000 in
theorem ct_M_usedRegisters {l : Launch} (hI : ∀ al, zIXc l al) {r : zRes} (a1 : Int) (h : zH) (k : (Int → zH → Option zRes)) (t : (Nat → zH → Option zRes)) (hr : M_usedRegisters a1 h k = some r) : zKsp l false zyi r 129 [0, a1] h k t := zct_of false (as := [0, a1]) (cut := zcut zu_M_usedRegisters) c_M_usedRegisters zyi_T (hI false) (Eq.trans (n_M_usedRegisters (krZ := zin) (krA := k) (zel k (fun _ _ => none)) (fun _ _ => rfl) a1 h) hr) (fun r1 e1 GO hS => s_M_usedRegisters hS a1 h e1)
theorem cy_M_usedRegisters {l : Launch} (hI : ∀ al, zIXc l al) {r : zRes} (y : Int) (a1 : Int) (h : zH) (k : (Int → zH → Option zRes)) (t : (Nat → zH → Option zRes)) (hr : zmch h y (M_usedRegisters a1 h k) = some r) : zKsp l true zyi r 129 [y, a1] h k t := by
  obtain ⟨rfl, h2, h3⟩ := zmch_some hr
  exact zcm_of h2 c_M_usedRegisters (ct_M_usedRegisters hI a1 h k t h3)
set_option maxRecDepth 100000 in
theorem ct_M_usedShared {l : Launch} (hI : ∀ al, zIXc l al) {r : zRes} (a1 : Int) (h : zH) (k : (Int → zH → Option zRes)) (t : (Nat → zH → Option zRes)) (hr : M_usedShared a1 h k = some r) : zKsp l false zyi r 130 [0, a1] h k t := zct_of false (as := [0, a1]) (cut := zcut zu_M_usedShared) c_M_usedShared zyi_T (hI false) (Eq.trans (n_M_usedShared (krZ := zin) (krA := k) (zel k (fun _ _ => none)) (fun _ _ => rfl) a1 h) hr) (fun r1 e1 GO hS => s_M_usedShared hS a1 h e1)
theorem cy_M_usedShared {l : Launch} (hI : ∀ al, zIXc l al) {r : zRes} (y : Int) (a1 : Int) (h : zH) (k : (Int → zH → Option zRes)) (t : (Nat → zH → Option zRes)) (hr : zmch h y (M_usedShared a1 h k) = some r) : zKsp l true zyi r 130 [y, a1] h k t := by
  obtain ⟨rfl, h2, h3⟩ := zmch_some hr
  exact zcm_of h2 c_M_usedShared (ct_M_usedShared hI a1 h k t h3)
set_option maxRecDepth 100000 in
theorem ct_M_hasRoom {l : Launch} (hI : ∀ al, zIXc l al) {r : zRes} (a1 a2 : Int) (h : zH) (k : (Int → zH → Option zRes)) (t : (Nat → zH → Option zRes)) (hr : M_hasRoom a1 a2 h k = some r) : zKsp l false zyi r 131 [0, a1, a2] h k t := zct_of false (as := [0, a1, a2]) (cut := zcut zu_M_hasRoom) c_M_hasRoom zyi_T (hI false) (Eq.trans (n_M_hasRoom (krZ := zin) (krA := k) (zel k (fun _ _ => none)) (fun _ _ => rfl) a1 a2 h) hr) (fun r1 e1 GO hS => s_M_hasRoom hS (fun x0 h k t hr => ct_M_groupsOf hI x0 h k t hr) (fun x0 h k t hr => ct_M_usedRegisters hI x0 h k t hr) (fun x0 h k t hr => ct_M_usedShared hI x0 h k t hr) a1 a2 h e1)
theorem cy_M_hasRoom {l : Launch} (hI : ∀ al, zIXc l al) {r : zRes} (y : Int) (a1 a2 : Int) (h : zH) (k : (Int → zH → Option zRes)) (t : (Nat → zH → Option zRes)) (hr : zmch h y (M_hasRoom a1 a2 h k) = some r) : zKsp l true zyi r 131 [y, a1, a2] h k t := by
  obtain ⟨rfl, h2, h3⟩ := zmch_some hr
  exact zcm_of h2 c_M_hasRoom (ct_M_hasRoom hI a1 a2 h k t h3)
set_option maxRecDepth 100000 in
theorem ct_M_unitFor {l : Launch} (hI : ∀ al, zIXc l al) {r : zRes} (a1 : Int) (h : zH) (k : (Int → zH → Option zRes)) (t : (Nat → zH → Option zRes)) (hr : M_unitFor a1 h k = some r) : zKsp l false zyi r 132 [0, a1] h k t := zct_of false (as := [0, a1]) (cut := zcut zu_M_unitFor) c_M_unitFor zyi_T (hI false) (Eq.trans (n_M_unitFor (krZ := zin) (krA := k) (zel k (fun _ _ => none)) (fun _ _ => rfl) a1 h) hr) (fun r1 e1 GO hS => s_M_unitFor hS (fun x0 x1 h k t hr => ct_M_hasRoom hI x0 x1 h k t hr) a1 h e1)
theorem cy_M_unitFor {l : Launch} (hI : ∀ al, zIXc l al) {r : zRes} (y : Int) (a1 : Int) (h : zH) (k : (Int → zH → Option zRes)) (t : (Nat → zH → Option zRes)) (hr : zmch h y (M_unitFor a1 h k) = some r) : zKsp l true zyi r 132 [y, a1] h k t := by
  obtain ⟨rfl, h2, h3⟩ := zmch_some hr
  exact zcm_of h2 c_M_unitFor (ct_M_unitFor hI a1 h k t h3)
set_option maxRecDepth 100000 in
theorem ct_M_give {l : Launch} (hI : ∀ al, zIXc l al) {r : zRes} (a1 a2 : Int) (h : zH) (k : (Int → zH → Option zRes)) (t : (Nat → zH → Option zRes)) (hr : M_give a1 a2 h k = some r) : zKsp l false zyi r 133 [0, a1, a2] h k t := zct_of false (as := [0, a1, a2]) (cut := zcut zu_M_give) c_M_give zyi_T (hI false) (Eq.trans (n_M_give (krZ := zin) (krA := k) (zel k (fun _ _ => none)) (fun _ _ => rfl) a1 a2 h) hr) (fun r1 e1 GO hS => s_M_give hS (fun x0 x1 h k t hr => ct_M_blockOf hI x0 x1 h k t hr) (fun x0 h k t hr => ct_M_groupsOf hI x0 h k t hr) (fun x0 x1 h k t hr => ct_M_threadCell hI x0 x1 h k t hr) (fun x0 h k t hr => ct_M_settle hI x0 h k t hr) a1 a2 h e1)
theorem cy_M_give {l : Launch} (hI : ∀ al, zIXc l al) {r : zRes} (y : Int) (a1 a2 : Int) (h : zH) (k : (Int → zH → Option zRes)) (t : (Nat → zH → Option zRes)) (hr : zmch h y (M_give a1 a2 h k) = some r) : zKsp l true zyi r 133 [y, a1, a2] h k t := by
  obtain ⟨rfl, h2, h3⟩ := zmch_some hr
  exact zcm_of h2 c_M_give (ct_M_give hI a1 a2 h k t h3)
set_option maxRecDepth 100000 in
theorem ct_M_canGo {l : Launch} (hI : ∀ al, zIXc l al) {r : zRes} (a1 : Int) (h : zH) (k : (Int → zH → Option zRes)) (t : (Nat → zH → Option zRes)) (hr : M_canGo a1 h k = some r) : zKsp l false zyi r 134 [0, a1] h k t := zct_of false (as := [0, a1]) (cut := zcut zu_M_canGo) c_M_canGo zyi_T (hI false) (Eq.trans (n_M_canGo (krZ := zin) (krA := k) (zel k (fun _ _ => none)) (fun _ _ => rfl) a1 h) hr) (fun r1 e1 GO hS => s_M_canGo hS (fun x0 h k t hr => ct_M_placeOf hI x0 h k t hr) a1 h e1)
theorem cy_M_canGo {l : Launch} (hI : ∀ al, zIXc l al) {r : zRes} (y : Int) (a1 : Int) (h : zH) (k : (Int → zH → Option zRes)) (t : (Nat → zH → Option zRes)) (hr : zmch h y (M_canGo a1 h k) = some r) : zKsp l true zyi r 134 [y, a1] h k t := by
  obtain ⟨rfl, h2, h3⟩ := zmch_some hr
  exact zcm_of h2 c_M_canGo (ct_M_canGo hI a1 h k t h3)
set_option maxRecDepth 100000 in
theorem ct_M_choose {l : Launch} (hI : ∀ al, zIXc l al) {r : zRes} (a1 : Int) (h : zH) (k : (Int → zH → Option zRes)) (t : (Nat → zH → Option zRes)) (hr : M_choose a1 h k = some r) : zKsp l false zyi r 135 [0, a1] h k t := zct_of false (as := [0, a1]) (cut := zcut zu_M_choose) c_M_choose zyi_T (hI false) (Eq.trans (n_M_choose (krZ := zin) (krA := k) (zel k (fun _ _ => none)) (fun _ _ => rfl) a1 h) hr) (fun r1 e1 GO hS => s_M_choose hS (fun x0 h k t hr => ct_M_canGo hI x0 h k t hr) a1 h e1)
theorem cy_M_choose {l : Launch} (hI : ∀ al, zIXc l al) {r : zRes} (y : Int) (a1 : Int) (h : zH) (k : (Int → zH → Option zRes)) (t : (Nat → zH → Option zRes)) (hr : zmch h y (M_choose a1 h k) = some r) : zKsp l true zyi r 135 [y, a1] h k t := by
  obtain ⟨rfl, h2, h3⟩ := zmch_some hr
  exact zcm_of h2 c_M_choose (ct_M_choose hI a1 h k t h3)
set_option maxRecDepth 100000 in
theorem ct_M_comeOne {l : Launch} (hI : ∀ al, zIXc l al) {r : zRes} (h : zH) (k : (Int → zH → Option zRes)) (t : (Nat → zH → Option zRes)) (hr : M_comeOne h k = some r) : zKsp l false zyi r 136 [0] h k t := zct_of false (as := [0]) (cut := zcut zu_M_comeOne) c_M_comeOne zyi_T (hI false) (Eq.trans (n_M_comeOne (krZ := zin) (krA := k) (zel k (fun _ _ => none)) (fun _ _ => rfl) h) hr) (fun r1 e1 GO hS => s_M_comeOne hS (fun  h k t hr => ct_M_finish hI  h k t hr) (fun x0 h k t hr => ct_M_writeFirst hI x0 h k t hr) (fun x0 x1 h k t hr => ct_M_carryOut hI x0 x1 h k t hr) (fun x0 h k t hr => ct_M_beginLaunch hI x0 h k t hr) (fun x0 h k t hr => ct_M_goThrough hI x0 h k t hr) (fun x0 h k t hr => ct_M_copyOne hI x0 h k t hr) (fun x0 h k t hr => ct_M_unitFor hI x0 h k t hr) (fun x0 x1 h k t hr => ct_M_give hI x0 x1 h k t hr) (fun x0 h k t hr => ct_M_choose hI x0 h k t hr) h e1)
theorem cy_M_comeOne {l : Launch} (hI : ∀ al, zIXc l al) {r : zRes} (y : Int) (h : zH) (k : (Int → zH → Option zRes)) (t : (Nat → zH → Option zRes)) (hr : zmch h y (M_comeOne h k) = some r) : zKsp l true zyi r 136 [y] h k t := by
  obtain ⟨rfl, h2, h3⟩ := zmch_some hr
  exact zcm_of h2 c_M_comeOne (ct_M_comeOne hI h k t h3)
set_option maxRecDepth 100000 in
theorem ct_M_step {l : Launch} (hI : ∀ al, zIXc l al) {r : zRes} (a1 : Int) (h : zH) (k : (Int → zH → Option zRes)) (t : (Nat → zH → Option zRes)) (hr : M_step a1 h k = some r) : zKsp l false zyi r 137 [0, a1] h k t := zct_of false (as := [0, a1]) (cut := zcut zu_M_step) c_M_step zyi_T (hI false) (Eq.trans (n_M_step (krZ := zin) (krA := k) (zel k (fun _ _ => none)) (fun _ _ => rfl) a1 h) hr) (fun r1 e1 GO hS => s_M_step hS (fun x0 x1 x2 h k t hr => ct_M_in hI x0 x1 x2 h k t hr) (fun x0 x1 h k t hr => ct_M_fails hI x0 x1 h k t hr) (fun  h k t hr => ct_M_comeOne hI  h k t hr) a1 h e1)
theorem cy_M_step {l : Launch} (hI : ∀ al, zIXc l al) {r : zRes} (y : Int) (a1 : Int) (h : zH) (k : (Int → zH → Option zRes)) (t : (Nat → zH → Option zRes)) (hr : zmch h y (M_step a1 h k) = some r) : zKsp l true zyi r 137 [y, a1] h k t := by
  obtain ⟨rfl, h2, h3⟩ := zmch_some hr
  exact zcm_of h2 c_M_step (ct_M_step hI a1 h k t h3)
set_option maxRecDepth 100000 in
theorem ct_M_areOver {l : Launch} (hI : ∀ al, zIXc l al) {r : zRes} (h : zH) (k : (Int → zH → Option zRes)) (t : (Nat → zH → Option zRes)) (hr : M_areOver h k = some r) : zKsp l false zyi r 138 [0] h k t := zct_of false (as := [0]) (cut := zcut zu_M_areOver) c_M_areOver zyi_T (hI false) (Eq.trans (n_M_areOver (krZ := zin) (krA := k) (zel k (fun _ _ => none)) (fun _ _ => rfl) h) hr) (fun r1 e1 GO hS => s_M_areOver hS (fun x0 h k t hr => ct_M_isOver hI x0 h k t hr) h e1)
theorem cy_M_areOver {l : Launch} (hI : ∀ al, zIXc l al) {r : zRes} (y : Int) (h : zH) (k : (Int → zH → Option zRes)) (t : (Nat → zH → Option zRes)) (hr : zmch h y (M_areOver h k) = some r) : zKsp l true zyi r 138 [y] h k t := by
  obtain ⟨rfl, h2, h3⟩ := zmch_some hr
  exact zcm_of h2 c_M_areOver (ct_M_areOver hI h k t h3)
set_option maxRecDepth 100000 in
theorem ct_M_run {l : Launch} (hI : ∀ al, zIXc l al) {r : zRes} (a1 : Int) (h : zH) (k : (Int → zH → Option zRes)) (t : (Nat → zH → Option zRes)) (hr : M_run a1 h k = some r) : zKsp l false zyi r 139 [0, a1] h k t := zct_of false (as := [0, a1]) (cut := zcut zu_M_run) c_M_run zyi_T (hI false) (Eq.trans (n_M_run (krZ := zin) (krA := k) (zel k (fun _ _ => none)) (fun _ _ => rfl) a1 h) hr) (fun r1 e1 GO hS => s_M_run hS (fun x0 x1 x2 h k t hr => ct_M_in hI x0 x1 x2 h k t hr) (fun x0 x1 h k t hr => ct_M_fails hI x0 x1 h k t hr) (fun  h k t hr => ct_M_comeOne hI  h k t hr) (fun  h k t hr => ct_M_areOver hI  h k t hr) a1 h e1)
theorem cy_M_run {l : Launch} (hI : ∀ al, zIXc l al) {r : zRes} (y : Int) (a1 : Int) (h : zH) (k : (Int → zH → Option zRes)) (t : (Nat → zH → Option zRes)) (hr : zmch h y (M_run a1 h k) = some r) : zKsp l true zyi r 139 [y, a1] h k t := by
  obtain ⟨rfl, h2, h3⟩ := zmch_some hr
  exact zcm_of h2 c_M_run (ct_M_run hI a1 h k t h3)
set_option maxRecDepth 100000 in
theorem ct_M_setOrder {l : Launch} (hI : ∀ al, zIXc l al) {r : zRes} (a1 : Int) (h : zH) (k : (Int → zH → Option zRes)) (t : (Nat → zH → Option zRes)) (hr : M_setOrder a1 h k = some r) : zKsp l false zyi r 140 [0, a1] h k t := zct_of false (as := [0, a1]) (cut := zcut zu_M_setOrder) c_M_setOrder zyi_T (hI false) (Eq.trans (n_M_setOrder (krZ := zin) (krA := k) (zel k (fun _ _ => none)) (fun _ _ => rfl) a1 h) hr) (fun r1 e1 GO hS => s_M_setOrder hS (fun x0 x1 h k t hr => ct_M_fails hI x0 x1 h k t hr) a1 h e1)
theorem cy_M_setOrder {l : Launch} (hI : ∀ al, zIXc l al) {r : zRes} (y : Int) (a1 : Int) (h : zH) (k : (Int → zH → Option zRes)) (t : (Nat → zH → Option zRes)) (hr : zmch h y (M_setOrder a1 h k) = some r) : zKsp l true zyi r 140 [y, a1] h k t := by
  obtain ⟨rfl, h2, h3⟩ := zmch_some hr
  exact zcm_of h2 c_M_setOrder (ct_M_setOrder hI a1 h k t h3)
set_option maxRecDepth 100000 in
theorem ct_M_cycle {l : Launch} (hI : ∀ al, zIXc l al) {r : zRes} (h : zH) (k : (Int → zH → Option zRes)) (t : (Nat → zH → Option zRes)) (hr : M_cycle h k = some r) : zKsp l false zyi r 141 [0] h k t := zct_of false (as := [0]) (cut := zcut zu_M_cycle) c_M_cycle zyi_T (hI false) (Eq.trans (n_M_cycle (krZ := zin) (krA := k) (zel k (fun _ _ => none)) (fun _ _ => rfl) h) hr) (fun r1 e1 GO hS => s_M_cycle hS h e1)
theorem cy_M_cycle {l : Launch} (hI : ∀ al, zIXc l al) {r : zRes} (y : Int) (h : zH) (k : (Int → zH → Option zRes)) (t : (Nat → zH → Option zRes)) (hr : zmch h y (M_cycle h k) = some r) : zKsp l true zyi r 141 [y] h k t := by
  obtain ⟨rfl, h2, h3⟩ := zmch_some hr
  exact zcm_of h2 c_M_cycle (ct_M_cycle hI h k t h3)
set_option maxRecDepth 100000 in
theorem ct_M_noUnit {l : Launch} (hI : ∀ al, zIXc l al) {r : zRes} (a0 : Int) (h : zH) (k : (Int → zH → Option zRes)) (t : (Nat → zH → Option zRes)) (hr : M_noUnit a0 h k = some r) : zKsp l false zyi r 142 [a0] h k t := zct_of false (as := [a0]) (cut := zcut zu_M_noUnit) c_M_noUnit zyi_T (hI false) (Eq.trans (n_M_noUnit (krZ := zin) (krA := k) (zel k (fun _ _ => none)) (fun _ _ => rfl) a0 h) hr) (fun r1 e1 GO hS => s_M_noUnit hS (fun x0 x1 x2 h k t hr => ct_M_in hI x0 x1 x2 h k t hr) a0 h e1)
set_option maxRecDepth 100000 in
theorem ct_M_noGroup {l : Launch} (hI : ∀ al, zIXc l al) {r : zRes} (a1 a2 : Int) (h : zH) (k : (Int → zH → Option zRes)) (t : (Nat → zH → Option zRes)) (hr : M_noGroup a1 a2 h k = some r) : zKsp l false zyi r 143 [0, a1, a2] h k t := zct_of false (as := [0, a1, a2]) (cut := zcut zu_M_noGroup) c_M_noGroup zyi_T (hI false) (Eq.trans (n_M_noGroup (krZ := zin) (krA := k) (zel k (fun _ _ => none)) (fun _ _ => rfl) a1 a2 h) hr) (fun r1 e1 GO hS => s_M_noGroup hS (fun x0 x1 x2 h k t hr => ct_M_in hI x0 x1 x2 h k t hr) (fun x0 h k t hr => ct_M_noUnit hI x0 h k t hr) a1 a2 h e1)
theorem cy_M_noGroup {l : Launch} (hI : ∀ al, zIXc l al) {r : zRes} (y : Int) (a1 a2 : Int) (h : zH) (k : (Int → zH → Option zRes)) (t : (Nat → zH → Option zRes)) (hr : zmch h y (M_noGroup a1 a2 h k) = some r) : zKsp l true zyi r 143 [y, a1, a2] h k t := by
  obtain ⟨rfl, h2, h3⟩ := zmch_some hr
  exact zcm_of h2 c_M_noGroup (ct_M_noGroup hI a1 a2 h k t h3)
set_option maxRecDepth 100000 in
theorem ct_M_groups {l : Launch} (hI : ∀ al, zIXc l al) {r : zRes} (a1 : Int) (h : zH) (k : (Int → zH → Option zRes)) (t : (Nat → zH → Option zRes)) (hr : M_groups a1 h k = some r) : zKsp l false zyi r 144 [0, a1] h k t := zct_of false (as := [0, a1]) (cut := zcut zu_M_groups) c_M_groups zyi_T (hI false) (Eq.trans (n_M_groups (krZ := zin) (krA := k) (zel k (fun _ _ => none)) (fun _ _ => rfl) a1 h) hr) (fun r1 e1 GO hS => s_M_groups hS (fun x0 x1 h k t hr => ct_M_fails hI x0 x1 h k t hr) (fun x0 h k t hr => ct_M_noUnit hI x0 h k t hr) a1 h e1)
theorem cy_M_groups {l : Launch} (hI : ∀ al, zIXc l al) {r : zRes} (y : Int) (a1 : Int) (h : zH) (k : (Int → zH → Option zRes)) (t : (Nat → zH → Option zRes)) (hr : zmch h y (M_groups a1 h k) = some r) : zKsp l true zyi r 144 [y, a1] h k t := by
  obtain ⟨rfl, h2, h3⟩ := zmch_some hr
  exact zcm_of h2 c_M_groups (ct_M_groups hI a1 h k t h3)
