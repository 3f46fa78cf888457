/-! SOUNDNESS OF A STRETCH; arities of calls -/
theorem zca0_s {SP : List Int → zH → (Int → zH → Option zRes) → (Nat → zH → Option zRes) → Prop} {r : zRes} {f : zH → (Int → zH → Option zRes) → Option zRes} (hf : ∀ (h : zH) (k : Int → zH → Option zRes) (t : Nat → zH → Option zRes), f h k = some r → SP [] h k t) : ∀ xs h k t, zca0 f xs h k t = some r → SP xs h k t
  | [], h, k, t, hr => hf h k t hr
  | _ :: _, _, _, _, hr => by cases hr
theorem zca0_e {ρ : Type} {e : zRes → Option ρ} {f : zH → (Int → zH → Option ρ) → Option ρ} {g : zH → (Int → zH → Option zRes) → Option zRes} (hf : ∀ (h : zH) (k : Int → zH → Option zRes) (t : Nat → zH → Option zRes), (g h k).bind e = f h (fun v h => (k v h).bind e)) : ∀ xs h k t, (zca0 g xs h k t).bind e = zca0 f xs h (fun v h => (k v h).bind e) (fun n h => (t n h).bind e)
  | [], h, k, t => hf h k t
  | _ :: _, _, _, _ => rfl
theorem zcx0_s {SP : List Int → zH → (Int → zH → Option zRes) → (Nat → zH → Option zRes) → Prop} {r : zRes} {f : zH → (Nat → zH → Option zRes) → (Int → zH → Option zRes) → Option zRes} (hf : ∀ (h : zH) (k : Int → zH → Option zRes) (t : Nat → zH → Option zRes), f h t k = some r → SP [] h k t) : ∀ xs h k t, zcx0 f xs h k t = some r → SP xs h k t
  | [], h, k, t, hr => hf h k t hr
  | _ :: _, _, _, _, hr => by cases hr
theorem zcx0_e {ρ : Type} {e : zRes → Option ρ} {f : zH → (Nat → zH → Option ρ) → (Int → zH → Option ρ) → Option ρ} {g : zH → (Nat → zH → Option zRes) → (Int → zH → Option zRes) → Option zRes} (hf : ∀ (h : zH) (k : Int → zH → Option zRes) (t : Nat → zH → Option zRes), (g h t k).bind e = f h (fun n h => (t n h).bind e) (fun v h => (k v h).bind e)) : ∀ xs h k t, (zcx0 g xs h k t).bind e = zcx0 f xs h (fun v h => (k v h).bind e) (fun n h => (t n h).bind e)
  | [], h, k, t => hf h k t
  | _ :: _, _, _, _ => rfl
theorem zcm0_s {SP : List Int → zH → (Int → zH → Option zRes) → (Nat → zH → Option zRes) → Prop} {r : zRes} {f : zH → (Int → zH → Option zRes) → Option zRes} (hf : ∀ (y : Int) (h : zH) (k : Int → zH → Option zRes) (t : Nat → zH → Option zRes), zmch h y (f h k) = some r → SP [y] h k t) : ∀ xs h k t, zcm0 f xs h k t = some r → SP xs h k t
  | [y], h, k, t, hr => hf y h k t hr
  | [], _, _, _, hr => by cases hr
  | _ :: _ :: _, _, _, _, hr => by cases hr
theorem zcm0_e {ρ : Type} {e : zRes → Option ρ} {f : zH → (Int → zH → Option ρ) → Option ρ} {g : zH → (Int → zH → Option zRes) → Option zRes} (hf : ∀ (h : zH) (k : Int → zH → Option zRes) (t : Nat → zH → Option zRes), (g h k).bind e = f h (fun v h => (k v h).bind e)) : ∀ xs h k t, (zcm0 g xs h k t).bind e = zcm0 f xs h (fun v h => (k v h).bind e) (fun n h => (t n h).bind e)
  | [y], h, k, t => (zb_mch h y _ e).trans (congrArg (zmch h y) (hf h k t))
  | [], _, _, _ => rfl
  | _ :: _ :: _, _, _, _ => rfl
theorem zca1_s {SP : List Int → zH → (Int → zH → Option zRes) → (Nat → zH → Option zRes) → Prop} {r : zRes} {f : Int → zH → (Int → zH → Option zRes) → Option zRes} (hf : ∀ (x0 : Int) (h : zH) (k : Int → zH → Option zRes) (t : Nat → zH → Option zRes), f x0 h k = some r → SP [x0] h k t) : ∀ xs h k t, zca1 f xs h k t = some r → SP xs h k t
  | [x0], h, k, t, hr => hf x0 h k t hr
  | [], _, _, _, hr => by cases hr
  | _ :: _ :: _, _, _, _, hr => by cases hr
theorem zca1_e {ρ : Type} {e : zRes → Option ρ} {f : Int → zH → (Int → zH → Option ρ) → Option ρ} {g : Int → zH → (Int → zH → Option zRes) → Option zRes} (hf : ∀ (x0 : Int) (h : zH) (k : Int → zH → Option zRes) (t : Nat → zH → Option zRes), (g x0 h k).bind e = f x0 h (fun v h => (k v h).bind e)) : ∀ xs h k t, (zca1 g xs h k t).bind e = zca1 f xs h (fun v h => (k v h).bind e) (fun n h => (t n h).bind e)
  | [x0], h, k, t => hf x0 h k t
  | [], _, _, _ => rfl
  | _ :: _ :: _, _, _, _ => rfl
theorem zcx1_s {SP : List Int → zH → (Int → zH → Option zRes) → (Nat → zH → Option zRes) → Prop} {r : zRes} {f : Int → zH → (Nat → zH → Option zRes) → (Int → zH → Option zRes) → Option zRes} (hf : ∀ (x0 : Int) (h : zH) (k : Int → zH → Option zRes) (t : Nat → zH → Option zRes), f x0 h t k = some r → SP [x0] h k t) : ∀ xs h k t, zcx1 f xs h k t = some r → SP xs h k t
  | [x0], h, k, t, hr => hf x0 h k t hr
  | [], _, _, _, hr => by cases hr
  | _ :: _ :: _, _, _, _, hr => by cases hr
theorem zcx1_e {ρ : Type} {e : zRes → Option ρ} {f : Int → zH → (Nat → zH → Option ρ) → (Int → zH → Option ρ) → Option ρ} {g : Int → zH → (Nat → zH → Option zRes) → (Int → zH → Option zRes) → Option zRes} (hf : ∀ (x0 : Int) (h : zH) (k : Int → zH → Option zRes) (t : Nat → zH → Option zRes), (g x0 h t k).bind e = f x0 h (fun n h => (t n h).bind e) (fun v h => (k v h).bind e)) : ∀ xs h k t, (zcx1 g xs h k t).bind e = zcx1 f xs h (fun v h => (k v h).bind e) (fun n h => (t n h).bind e)
  | [x0], h, k, t => hf x0 h k t
  | [], _, _, _ => rfl
  | _ :: _ :: _, _, _, _ => rfl
theorem zcm1_s {SP : List Int → zH → (Int → zH → Option zRes) → (Nat → zH → Option zRes) → Prop} {r : zRes} {f : Int → zH → (Int → zH → Option zRes) → Option zRes} (hf : ∀ (y x0 : Int) (h : zH) (k : Int → zH → Option zRes) (t : Nat → zH → Option zRes), zmch h y (f x0 h k) = some r → SP [y, x0] h k t) : ∀ xs h k t, zcm1 f xs h k t = some r → SP xs h k t
  | [y, x0], h, k, t, hr => hf y x0 h k t hr
  | [], _, _, _, hr => by cases hr
  | [_], _, _, _, hr => by cases hr
  | _ :: _ :: _ :: _, _, _, _, hr => by cases hr
theorem zcm1_e {ρ : Type} {e : zRes → Option ρ} {f : Int → zH → (Int → zH → Option ρ) → Option ρ} {g : Int → zH → (Int → zH → Option zRes) → Option zRes} (hf : ∀ (x0 : Int) (h : zH) (k : Int → zH → Option zRes) (t : Nat → zH → Option zRes), (g x0 h k).bind e = f x0 h (fun v h => (k v h).bind e)) : ∀ xs h k t, (zcm1 g xs h k t).bind e = zcm1 f xs h (fun v h => (k v h).bind e) (fun n h => (t n h).bind e)
  | [y, x0], h, k, t => (zb_mch h y _ e).trans (congrArg (zmch h y) (hf x0 h k t))
  | [], _, _, _ => rfl
  | [_], _, _, _ => rfl
  | _ :: _ :: _ :: _, _, _, _ => rfl
theorem zca2_s {SP : List Int → zH → (Int → zH → Option zRes) → (Nat → zH → Option zRes) → Prop} {r : zRes} {f : Int → Int → zH → (Int → zH → Option zRes) → Option zRes} (hf : ∀ (x0 x1 : Int) (h : zH) (k : Int → zH → Option zRes) (t : Nat → zH → Option zRes), f x0 x1 h k = some r → SP [x0, x1] h k t) : ∀ xs h k t, zca2 f xs h k t = some r → SP xs h k t
  | [x0, x1], h, k, t, hr => hf x0 x1 h k t hr
  | [], _, _, _, hr => by cases hr
  | [_], _, _, _, hr => by cases hr
  | _ :: _ :: _ :: _, _, _, _, hr => by cases hr
theorem zca2_e {ρ : Type} {e : zRes → Option ρ} {f : Int → Int → zH → (Int → zH → Option ρ) → Option ρ} {g : Int → Int → zH → (Int → zH → Option zRes) → Option zRes} (hf : ∀ (x0 x1 : Int) (h : zH) (k : Int → zH → Option zRes) (t : Nat → zH → Option zRes), (g x0 x1 h k).bind e = f x0 x1 h (fun v h => (k v h).bind e)) : ∀ xs h k t, (zca2 g xs h k t).bind e = zca2 f xs h (fun v h => (k v h).bind e) (fun n h => (t n h).bind e)
  | [x0, x1], h, k, t => hf x0 x1 h k t
  | [], _, _, _ => rfl
  | [_], _, _, _ => rfl
  | _ :: _ :: _ :: _, _, _, _ => rfl
theorem zcx2_s {SP : List Int → zH → (Int → zH → Option zRes) → (Nat → zH → Option zRes) → Prop} {r : zRes} {f : Int → Int → zH → (Nat → zH → Option zRes) → (Int → zH → Option zRes) → Option zRes} (hf : ∀ (x0 x1 : Int) (h : zH) (k : Int → zH → Option zRes) (t : Nat → zH → Option zRes), f x0 x1 h t k = some r → SP [x0, x1] h k t) : ∀ xs h k t, zcx2 f xs h k t = some r → SP xs h k t
  | [x0, x1], h, k, t, hr => hf x0 x1 h k t hr
  | [], _, _, _, hr => by cases hr
  | [_], _, _, _, hr => by cases hr
  | _ :: _ :: _ :: _, _, _, _, hr => by cases hr
theorem zcx2_e {ρ : Type} {e : zRes → Option ρ} {f : Int → Int → zH → (Nat → zH → Option ρ) → (Int → zH → Option ρ) → Option ρ} {g : Int → Int → zH → (Nat → zH → Option zRes) → (Int → zH → Option zRes) → Option zRes} (hf : ∀ (x0 x1 : Int) (h : zH) (k : Int → zH → Option zRes) (t : Nat → zH → Option zRes), (g x0 x1 h t k).bind e = f x0 x1 h (fun n h => (t n h).bind e) (fun v h => (k v h).bind e)) : ∀ xs h k t, (zcx2 g xs h k t).bind e = zcx2 f xs h (fun v h => (k v h).bind e) (fun n h => (t n h).bind e)
  | [x0, x1], h, k, t => hf x0 x1 h k t
  | [], _, _, _ => rfl
  | [_], _, _, _ => rfl
  | _ :: _ :: _ :: _, _, _, _ => rfl
theorem zcm2_s {SP : List Int → zH → (Int → zH → Option zRes) → (Nat → zH → Option zRes) → Prop} {r : zRes} {f : Int → Int → zH → (Int → zH → Option zRes) → Option zRes} (hf : ∀ (y x0 x1 : Int) (h : zH) (k : Int → zH → Option zRes) (t : Nat → zH → Option zRes), zmch h y (f x0 x1 h k) = some r → SP [y, x0, x1] h k t) : ∀ xs h k t, zcm2 f xs h k t = some r → SP xs h k t
  | [y, x0, x1], h, k, t, hr => hf y x0 x1 h k t hr
  | [], _, _, _, hr => by cases hr
  | [_], _, _, _, hr => by cases hr
  | [_, _], _, _, _, hr => by cases hr
  | _ :: _ :: _ :: _ :: _, _, _, _, hr => by cases hr
theorem zcm2_e {ρ : Type} {e : zRes → Option ρ} {f : Int → Int → zH → (Int → zH → Option ρ) → Option ρ} {g : Int → Int → zH → (Int → zH → Option zRes) → Option zRes} (hf : ∀ (x0 x1 : Int) (h : zH) (k : Int → zH → Option zRes) (t : Nat → zH → Option zRes), (g x0 x1 h k).bind e = f x0 x1 h (fun v h => (k v h).bind e)) : ∀ xs h k t, (zcm2 g xs h k t).bind e = zcm2 f xs h (fun v h => (k v h).bind e) (fun n h => (t n h).bind e)
  | [y, x0, x1], h, k, t => (zb_mch h y _ e).trans (congrArg (zmch h y) (hf x0 x1 h k t))
  | [], _, _, _ => rfl
  | [_], _, _, _ => rfl
  | [_, _], _, _, _ => rfl
  | _ :: _ :: _ :: _ :: _, _, _, _ => rfl
theorem zca3_s {SP : List Int → zH → (Int → zH → Option zRes) → (Nat → zH → Option zRes) → Prop} {r : zRes} {f : Int → Int → Int → zH → (Int → zH → Option zRes) → Option zRes} (hf : ∀ (x0 x1 x2 : Int) (h : zH) (k : Int → zH → Option zRes) (t : Nat → zH → Option zRes), f x0 x1 x2 h k = some r → SP [x0, x1, x2] h k t) : ∀ xs h k t, zca3 f xs h k t = some r → SP xs h k t
  | [x0, x1, x2], h, k, t, hr => hf x0 x1 x2 h k t hr
  | [], _, _, _, hr => by cases hr
  | [_], _, _, _, hr => by cases hr
  | [_, _], _, _, _, hr => by cases hr
  | _ :: _ :: _ :: _ :: _, _, _, _, hr => by cases hr
theorem zca3_e {ρ : Type} {e : zRes → Option ρ} {f : Int → Int → Int → zH → (Int → zH → Option ρ) → Option ρ} {g : Int → Int → Int → zH → (Int → zH → Option zRes) → Option zRes} (hf : ∀ (x0 x1 x2 : Int) (h : zH) (k : Int → zH → Option zRes) (t : Nat → zH → Option zRes), (g x0 x1 x2 h k).bind e = f x0 x1 x2 h (fun v h => (k v h).bind e)) : ∀ xs h k t, (zca3 g xs h k t).bind e = zca3 f xs h (fun v h => (k v h).bind e) (fun n h => (t n h).bind e)
  | [x0, x1, x2], h, k, t => hf x0 x1 x2 h k t
  | [], _, _, _ => rfl
  | [_], _, _, _ => rfl
  | [_, _], _, _, _ => rfl
  | _ :: _ :: _ :: _ :: _, _, _, _ => rfl
theorem zcx3_s {SP : List Int → zH → (Int → zH → Option zRes) → (Nat → zH → Option zRes) → Prop} {r : zRes} {f : Int → Int → Int → zH → (Nat → zH → Option zRes) → (Int → zH → Option zRes) → Option zRes} (hf : ∀ (x0 x1 x2 : Int) (h : zH) (k : Int → zH → Option zRes) (t : Nat → zH → Option zRes), f x0 x1 x2 h t k = some r → SP [x0, x1, x2] h k t) : ∀ xs h k t, zcx3 f xs h k t = some r → SP xs h k t
  | [x0, x1, x2], h, k, t, hr => hf x0 x1 x2 h k t hr
  | [], _, _, _, hr => by cases hr
  | [_], _, _, _, hr => by cases hr
  | [_, _], _, _, _, hr => by cases hr
  | _ :: _ :: _ :: _ :: _, _, _, _, hr => by cases hr
theorem zcx3_e {ρ : Type} {e : zRes → Option ρ} {f : Int → Int → Int → zH → (Nat → zH → Option ρ) → (Int → zH → Option ρ) → Option ρ} {g : Int → Int → Int → zH → (Nat → zH → Option zRes) → (Int → zH → Option zRes) → Option zRes} (hf : ∀ (x0 x1 x2 : Int) (h : zH) (k : Int → zH → Option zRes) (t : Nat → zH → Option zRes), (g x0 x1 x2 h t k).bind e = f x0 x1 x2 h (fun n h => (t n h).bind e) (fun v h => (k v h).bind e)) : ∀ xs h k t, (zcx3 g xs h k t).bind e = zcx3 f xs h (fun v h => (k v h).bind e) (fun n h => (t n h).bind e)
  | [x0, x1, x2], h, k, t => hf x0 x1 x2 h k t
  | [], _, _, _ => rfl
  | [_], _, _, _ => rfl
  | [_, _], _, _, _ => rfl
  | _ :: _ :: _ :: _ :: _, _, _, _ => rfl
theorem zcm3_s {SP : List Int → zH → (Int → zH → Option zRes) → (Nat → zH → Option zRes) → Prop} {r : zRes} {f : Int → Int → Int → zH → (Int → zH → Option zRes) → Option zRes} (hf : ∀ (y x0 x1 x2 : Int) (h : zH) (k : Int → zH → Option zRes) (t : Nat → zH → Option zRes), zmch h y (f x0 x1 x2 h k) = some r → SP [y, x0, x1, x2] h k t) : ∀ xs h k t, zcm3 f xs h k t = some r → SP xs h k t
  | [y, x0, x1, x2], h, k, t, hr => hf y x0 x1 x2 h k t hr
  | [], _, _, _, hr => by cases hr
  | [_], _, _, _, hr => by cases hr
  | [_, _], _, _, _, hr => by cases hr
  | [_, _, _], _, _, _, hr => by cases hr
  | _ :: _ :: _ :: _ :: _ :: _, _, _, _, hr => by cases hr
theorem zcm3_e {ρ : Type} {e : zRes → Option ρ} {f : Int → Int → Int → zH → (Int → zH → Option ρ) → Option ρ} {g : Int → Int → Int → zH → (Int → zH → Option zRes) → Option zRes} (hf : ∀ (x0 x1 x2 : Int) (h : zH) (k : Int → zH → Option zRes) (t : Nat → zH → Option zRes), (g x0 x1 x2 h k).bind e = f x0 x1 x2 h (fun v h => (k v h).bind e)) : ∀ xs h k t, (zcm3 g xs h k t).bind e = zcm3 f xs h (fun v h => (k v h).bind e) (fun n h => (t n h).bind e)
  | [y, x0, x1, x2], h, k, t => (zb_mch h y _ e).trans (congrArg (zmch h y) (hf x0 x1 x2 h k t))
  | [], _, _, _ => rfl
  | [_], _, _, _ => rfl
  | [_, _], _, _, _ => rfl
  | [_, _, _], _, _, _ => rfl
  | _ :: _ :: _ :: _ :: _ :: _, _, _, _ => rfl
theorem zca4_s {SP : List Int → zH → (Int → zH → Option zRes) → (Nat → zH → Option zRes) → Prop} {r : zRes} {f : Int → Int → Int → Int → zH → (Int → zH → Option zRes) → Option zRes} (hf : ∀ (x0 x1 x2 x3 : Int) (h : zH) (k : Int → zH → Option zRes) (t : Nat → zH → Option zRes), f x0 x1 x2 x3 h k = some r → SP [x0, x1, x2, x3] h k t) : ∀ xs h k t, zca4 f xs h k t = some r → SP xs h k t
  | [x0, x1, x2, x3], h, k, t, hr => hf x0 x1 x2 x3 h k t hr
  | [], _, _, _, hr => by cases hr
  | [_], _, _, _, hr => by cases hr
  | [_, _], _, _, _, hr => by cases hr
  | [_, _, _], _, _, _, hr => by cases hr
  | _ :: _ :: _ :: _ :: _ :: _, _, _, _, hr => by cases hr
theorem zca4_e {ρ : Type} {e : zRes → Option ρ} {f : Int → Int → Int → Int → zH → (Int → zH → Option ρ) → Option ρ} {g : Int → Int → Int → Int → zH → (Int → zH → Option zRes) → Option zRes} (hf : ∀ (x0 x1 x2 x3 : Int) (h : zH) (k : Int → zH → Option zRes) (t : Nat → zH → Option zRes), (g x0 x1 x2 x3 h k).bind e = f x0 x1 x2 x3 h (fun v h => (k v h).bind e)) : ∀ xs h k t, (zca4 g xs h k t).bind e = zca4 f xs h (fun v h => (k v h).bind e) (fun n h => (t n h).bind e)
  | [x0, x1, x2, x3], h, k, t => hf x0 x1 x2 x3 h k t
  | [], _, _, _ => rfl
  | [_], _, _, _ => rfl
  | [_, _], _, _, _ => rfl
  | [_, _, _], _, _, _ => rfl
  | _ :: _ :: _ :: _ :: _ :: _, _, _, _ => rfl
theorem zcx4_s {SP : List Int → zH → (Int → zH → Option zRes) → (Nat → zH → Option zRes) → Prop} {r : zRes} {f : Int → Int → Int → Int → zH → (Nat → zH → Option zRes) → (Int → zH → Option zRes) → Option zRes} (hf : ∀ (x0 x1 x2 x3 : Int) (h : zH) (k : Int → zH → Option zRes) (t : Nat → zH → Option zRes), f x0 x1 x2 x3 h t k = some r → SP [x0, x1, x2, x3] h k t) : ∀ xs h k t, zcx4 f xs h k t = some r → SP xs h k t
  | [x0, x1, x2, x3], h, k, t, hr => hf x0 x1 x2 x3 h k t hr
  | [], _, _, _, hr => by cases hr
  | [_], _, _, _, hr => by cases hr
  | [_, _], _, _, _, hr => by cases hr
  | [_, _, _], _, _, _, hr => by cases hr
  | _ :: _ :: _ :: _ :: _ :: _, _, _, _, hr => by cases hr
theorem zcx4_e {ρ : Type} {e : zRes → Option ρ} {f : Int → Int → Int → Int → zH → (Nat → zH → Option ρ) → (Int → zH → Option ρ) → Option ρ} {g : Int → Int → Int → Int → zH → (Nat → zH → Option zRes) → (Int → zH → Option zRes) → Option zRes} (hf : ∀ (x0 x1 x2 x3 : Int) (h : zH) (k : Int → zH → Option zRes) (t : Nat → zH → Option zRes), (g x0 x1 x2 x3 h t k).bind e = f x0 x1 x2 x3 h (fun n h => (t n h).bind e) (fun v h => (k v h).bind e)) : ∀ xs h k t, (zcx4 g xs h k t).bind e = zcx4 f xs h (fun v h => (k v h).bind e) (fun n h => (t n h).bind e)
  | [x0, x1, x2, x3], h, k, t => hf x0 x1 x2 x3 h k t
  | [], _, _, _ => rfl
  | [_], _, _, _ => rfl
  | [_, _], _, _, _ => rfl
  | [_, _, _], _, _, _ => rfl
  | _ :: _ :: _ :: _ :: _ :: _, _, _, _ => rfl
theorem zcm4_s {SP : List Int → zH → (Int → zH → Option zRes) → (Nat → zH → Option zRes) → Prop} {r : zRes} {f : Int → Int → Int → Int → zH → (Int → zH → Option zRes) → Option zRes} (hf : ∀ (y x0 x1 x2 x3 : Int) (h : zH) (k : Int → zH → Option zRes) (t : Nat → zH → Option zRes), zmch h y (f x0 x1 x2 x3 h k) = some r → SP [y, x0, x1, x2, x3] h k t) : ∀ xs h k t, zcm4 f xs h k t = some r → SP xs h k t
  | [y, x0, x1, x2, x3], h, k, t, hr => hf y x0 x1 x2 x3 h k t hr
  | [], _, _, _, hr => by cases hr
  | [_], _, _, _, hr => by cases hr
  | [_, _], _, _, _, hr => by cases hr
  | [_, _, _], _, _, _, hr => by cases hr
  | [_, _, _, _], _, _, _, hr => by cases hr
  | _ :: _ :: _ :: _ :: _ :: _ :: _, _, _, _, hr => by cases hr
theorem zcm4_e {ρ : Type} {e : zRes → Option ρ} {f : Int → Int → Int → Int → zH → (Int → zH → Option ρ) → Option ρ} {g : Int → Int → Int → Int → zH → (Int → zH → Option zRes) → Option zRes} (hf : ∀ (x0 x1 x2 x3 : Int) (h : zH) (k : Int → zH → Option zRes) (t : Nat → zH → Option zRes), (g x0 x1 x2 x3 h k).bind e = f x0 x1 x2 x3 h (fun v h => (k v h).bind e)) : ∀ xs h k t, (zcm4 g xs h k t).bind e = zcm4 f xs h (fun v h => (k v h).bind e) (fun n h => (t n h).bind e)
  | [y, x0, x1, x2, x3], h, k, t => (zb_mch h y _ e).trans (congrArg (zmch h y) (hf x0 x1 x2 x3 h k t))
  | [], _, _, _ => rfl
  | [_], _, _, _ => rfl
  | [_, _], _, _, _ => rfl
  | [_, _, _], _, _, _ => rfl
  | [_, _, _, _], _, _, _ => rfl
  | _ :: _ :: _ :: _ :: _ :: _ :: _, _, _, _ => rfl
theorem zca5_s {SP : List Int → zH → (Int → zH → Option zRes) → (Nat → zH → Option zRes) → Prop} {r : zRes} {f : Int → Int → Int → Int → Int → zH → (Int → zH → Option zRes) → Option zRes} (hf : ∀ (x0 x1 x2 x3 x4 : Int) (h : zH) (k : Int → zH → Option zRes) (t : Nat → zH → Option zRes), f x0 x1 x2 x3 x4 h k = some r → SP [x0, x1, x2, x3, x4] h k t) : ∀ xs h k t, zca5 f xs h k t = some r → SP xs h k t
  | [x0, x1, x2, x3, x4], h, k, t, hr => hf x0 x1 x2 x3 x4 h k t hr
  | [], _, _, _, hr => by cases hr
  | [_], _, _, _, hr => by cases hr
  | [_, _], _, _, _, hr => by cases hr
  | [_, _, _], _, _, _, hr => by cases hr
  | [_, _, _, _], _, _, _, hr => by cases hr
  | _ :: _ :: _ :: _ :: _ :: _ :: _, _, _, _, hr => by cases hr
theorem zca5_e {ρ : Type} {e : zRes → Option ρ} {f : Int → Int → Int → Int → Int → zH → (Int → zH → Option ρ) → Option ρ} {g : Int → Int → Int → Int → Int → zH → (Int → zH → Option zRes) → Option zRes} (hf : ∀ (x0 x1 x2 x3 x4 : Int) (h : zH) (k : Int → zH → Option zRes) (t : Nat → zH → Option zRes), (g x0 x1 x2 x3 x4 h k).bind e = f x0 x1 x2 x3 x4 h (fun v h => (k v h).bind e)) : ∀ xs h k t, (zca5 g xs h k t).bind e = zca5 f xs h (fun v h => (k v h).bind e) (fun n h => (t n h).bind e)
  | [x0, x1, x2, x3, x4], h, k, t => hf x0 x1 x2 x3 x4 h k t
  | [], _, _, _ => rfl
  | [_], _, _, _ => rfl
  | [_, _], _, _, _ => rfl
  | [_, _, _], _, _, _ => rfl
  | [_, _, _, _], _, _, _ => rfl
  | _ :: _ :: _ :: _ :: _ :: _ :: _, _, _, _ => rfl
theorem zcx5_s {SP : List Int → zH → (Int → zH → Option zRes) → (Nat → zH → Option zRes) → Prop} {r : zRes} {f : Int → Int → Int → Int → Int → zH → (Nat → zH → Option zRes) → (Int → zH → Option zRes) → Option zRes} (hf : ∀ (x0 x1 x2 x3 x4 : Int) (h : zH) (k : Int → zH → Option zRes) (t : Nat → zH → Option zRes), f x0 x1 x2 x3 x4 h t k = some r → SP [x0, x1, x2, x3, x4] h k t) : ∀ xs h k t, zcx5 f xs h k t = some r → SP xs h k t
  | [x0, x1, x2, x3, x4], h, k, t, hr => hf x0 x1 x2 x3 x4 h k t hr
  | [], _, _, _, hr => by cases hr
  | [_], _, _, _, hr => by cases hr
  | [_, _], _, _, _, hr => by cases hr
  | [_, _, _], _, _, _, hr => by cases hr
  | [_, _, _, _], _, _, _, hr => by cases hr
  | _ :: _ :: _ :: _ :: _ :: _ :: _, _, _, _, hr => by cases hr
theorem zcx5_e {ρ : Type} {e : zRes → Option ρ} {f : Int → Int → Int → Int → Int → zH → (Nat → zH → Option ρ) → (Int → zH → Option ρ) → Option ρ} {g : Int → Int → Int → Int → Int → zH → (Nat → zH → Option zRes) → (Int → zH → Option zRes) → Option zRes} (hf : ∀ (x0 x1 x2 x3 x4 : Int) (h : zH) (k : Int → zH → Option zRes) (t : Nat → zH → Option zRes), (g x0 x1 x2 x3 x4 h t k).bind e = f x0 x1 x2 x3 x4 h (fun n h => (t n h).bind e) (fun v h => (k v h).bind e)) : ∀ xs h k t, (zcx5 g xs h k t).bind e = zcx5 f xs h (fun v h => (k v h).bind e) (fun n h => (t n h).bind e)
  | [x0, x1, x2, x3, x4], h, k, t => hf x0 x1 x2 x3 x4 h k t
  | [], _, _, _ => rfl
  | [_], _, _, _ => rfl
  | [_, _], _, _, _ => rfl
  | [_, _, _], _, _, _ => rfl
  | [_, _, _, _], _, _, _ => rfl
  | _ :: _ :: _ :: _ :: _ :: _ :: _, _, _, _ => rfl
theorem zcm5_s {SP : List Int → zH → (Int → zH → Option zRes) → (Nat → zH → Option zRes) → Prop} {r : zRes} {f : Int → Int → Int → Int → Int → zH → (Int → zH → Option zRes) → Option zRes} (hf : ∀ (y x0 x1 x2 x3 x4 : Int) (h : zH) (k : Int → zH → Option zRes) (t : Nat → zH → Option zRes), zmch h y (f x0 x1 x2 x3 x4 h k) = some r → SP [y, x0, x1, x2, x3, x4] h k t) : ∀ xs h k t, zcm5 f xs h k t = some r → SP xs h k t
  | [y, x0, x1, x2, x3, x4], h, k, t, hr => hf y x0 x1 x2 x3 x4 h k t hr
  | [], _, _, _, hr => by cases hr
  | [_], _, _, _, hr => by cases hr
  | [_, _], _, _, _, hr => by cases hr
  | [_, _, _], _, _, _, hr => by cases hr
  | [_, _, _, _], _, _, _, hr => by cases hr
  | [_, _, _, _, _], _, _, _, hr => by cases hr
  | _ :: _ :: _ :: _ :: _ :: _ :: _ :: _, _, _, _, hr => by cases hr
theorem zcm5_e {ρ : Type} {e : zRes → Option ρ} {f : Int → Int → Int → Int → Int → zH → (Int → zH → Option ρ) → Option ρ} {g : Int → Int → Int → Int → Int → zH → (Int → zH → Option zRes) → Option zRes} (hf : ∀ (x0 x1 x2 x3 x4 : Int) (h : zH) (k : Int → zH → Option zRes) (t : Nat → zH → Option zRes), (g x0 x1 x2 x3 x4 h k).bind e = f x0 x1 x2 x3 x4 h (fun v h => (k v h).bind e)) : ∀ xs h k t, (zcm5 g xs h k t).bind e = zcm5 f xs h (fun v h => (k v h).bind e) (fun n h => (t n h).bind e)
  | [y, x0, x1, x2, x3, x4], h, k, t => (zb_mch h y _ e).trans (congrArg (zmch h y) (hf x0 x1 x2 x3 x4 h k t))
  | [], _, _, _ => rfl
  | [_], _, _, _ => rfl
  | [_, _], _, _, _ => rfl
  | [_, _, _], _, _, _ => rfl
  | [_, _, _, _], _, _, _ => rfl
  | [_, _, _, _, _], _, _, _ => rfl
  | _ :: _ :: _ :: _ :: _ :: _ :: _ :: _, _, _, _ => rfl
theorem zca6_s {SP : List Int → zH → (Int → zH → Option zRes) → (Nat → zH → Option zRes) → Prop} {r : zRes} {f : Int → Int → Int → Int → Int → Int → zH → (Int → zH → Option zRes) → Option zRes} (hf : ∀ (x0 x1 x2 x3 x4 x5 : Int) (h : zH) (k : Int → zH → Option zRes) (t : Nat → zH → Option zRes), f x0 x1 x2 x3 x4 x5 h k = some r → SP [x0, x1, x2, x3, x4, x5] h k t) : ∀ xs h k t, zca6 f xs h k t = some r → SP xs h k t
  | [x0, x1, x2, x3, x4, x5], h, k, t, hr => hf x0 x1 x2 x3 x4 x5 h k t hr
  | [], _, _, _, hr => by cases hr
  | [_], _, _, _, hr => by cases hr
  | [_, _], _, _, _, hr => by cases hr
  | [_, _, _], _, _, _, hr => by cases hr
  | [_, _, _, _], _, _, _, hr => by cases hr
  | [_, _, _, _, _], _, _, _, hr => by cases hr
  | _ :: _ :: _ :: _ :: _ :: _ :: _ :: _, _, _, _, hr => by cases hr
theorem zca6_e {ρ : Type} {e : zRes → Option ρ} {f : Int → Int → Int → Int → Int → Int → zH → (Int → zH → Option ρ) → Option ρ} {g : Int → Int → Int → Int → Int → Int → zH → (Int → zH → Option zRes) → Option zRes} (hf : ∀ (x0 x1 x2 x3 x4 x5 : Int) (h : zH) (k : Int → zH → Option zRes) (t : Nat → zH → Option zRes), (g x0 x1 x2 x3 x4 x5 h k).bind e = f x0 x1 x2 x3 x4 x5 h (fun v h => (k v h).bind e)) : ∀ xs h k t, (zca6 g xs h k t).bind e = zca6 f xs h (fun v h => (k v h).bind e) (fun n h => (t n h).bind e)
  | [x0, x1, x2, x3, x4, x5], h, k, t => hf x0 x1 x2 x3 x4 x5 h k t
  | [], _, _, _ => rfl
  | [_], _, _, _ => rfl
  | [_, _], _, _, _ => rfl
  | [_, _, _], _, _, _ => rfl
  | [_, _, _, _], _, _, _ => rfl
  | [_, _, _, _, _], _, _, _ => rfl
  | _ :: _ :: _ :: _ :: _ :: _ :: _ :: _, _, _, _ => rfl
theorem zcx6_s {SP : List Int → zH → (Int → zH → Option zRes) → (Nat → zH → Option zRes) → Prop} {r : zRes} {f : Int → Int → Int → Int → Int → Int → zH → (Nat → zH → Option zRes) → (Int → zH → Option zRes) → Option zRes} (hf : ∀ (x0 x1 x2 x3 x4 x5 : Int) (h : zH) (k : Int → zH → Option zRes) (t : Nat → zH → Option zRes), f x0 x1 x2 x3 x4 x5 h t k = some r → SP [x0, x1, x2, x3, x4, x5] h k t) : ∀ xs h k t, zcx6 f xs h k t = some r → SP xs h k t
  | [x0, x1, x2, x3, x4, x5], h, k, t, hr => hf x0 x1 x2 x3 x4 x5 h k t hr
  | [], _, _, _, hr => by cases hr
  | [_], _, _, _, hr => by cases hr
  | [_, _], _, _, _, hr => by cases hr
  | [_, _, _], _, _, _, hr => by cases hr
  | [_, _, _, _], _, _, _, hr => by cases hr
  | [_, _, _, _, _], _, _, _, hr => by cases hr
  | _ :: _ :: _ :: _ :: _ :: _ :: _ :: _, _, _, _, hr => by cases hr
theorem zcx6_e {ρ : Type} {e : zRes → Option ρ} {f : Int → Int → Int → Int → Int → Int → zH → (Nat → zH → Option ρ) → (Int → zH → Option ρ) → Option ρ} {g : Int → Int → Int → Int → Int → Int → zH → (Nat → zH → Option zRes) → (Int → zH → Option zRes) → Option zRes} (hf : ∀ (x0 x1 x2 x3 x4 x5 : Int) (h : zH) (k : Int → zH → Option zRes) (t : Nat → zH → Option zRes), (g x0 x1 x2 x3 x4 x5 h t k).bind e = f x0 x1 x2 x3 x4 x5 h (fun n h => (t n h).bind e) (fun v h => (k v h).bind e)) : ∀ xs h k t, (zcx6 g xs h k t).bind e = zcx6 f xs h (fun v h => (k v h).bind e) (fun n h => (t n h).bind e)
  | [x0, x1, x2, x3, x4, x5], h, k, t => hf x0 x1 x2 x3 x4 x5 h k t
  | [], _, _, _ => rfl
  | [_], _, _, _ => rfl
  | [_, _], _, _, _ => rfl
  | [_, _, _], _, _, _ => rfl
  | [_, _, _, _], _, _, _ => rfl
  | [_, _, _, _, _], _, _, _ => rfl
  | _ :: _ :: _ :: _ :: _ :: _ :: _ :: _, _, _, _ => rfl
theorem zcm6_s {SP : List Int → zH → (Int → zH → Option zRes) → (Nat → zH → Option zRes) → Prop} {r : zRes} {f : Int → Int → Int → Int → Int → Int → zH → (Int → zH → Option zRes) → Option zRes} (hf : ∀ (y x0 x1 x2 x3 x4 x5 : Int) (h : zH) (k : Int → zH → Option zRes) (t : Nat → zH → Option zRes), zmch h y (f x0 x1 x2 x3 x4 x5 h k) = some r → SP [y, x0, x1, x2, x3, x4, x5] h k t) : ∀ xs h k t, zcm6 f xs h k t = some r → SP xs h k t
  | [y, x0, x1, x2, x3, x4, x5], h, k, t, hr => hf y x0 x1 x2 x3 x4 x5 h k t hr
  | [], _, _, _, hr => by cases hr
  | [_], _, _, _, hr => by cases hr
  | [_, _], _, _, _, hr => by cases hr
  | [_, _, _], _, _, _, hr => by cases hr
  | [_, _, _, _], _, _, _, hr => by cases hr
  | [_, _, _, _, _], _, _, _, hr => by cases hr
  | [_, _, _, _, _, _], _, _, _, hr => by cases hr
  | _ :: _ :: _ :: _ :: _ :: _ :: _ :: _ :: _, _, _, _, hr => by cases hr
theorem zcm6_e {ρ : Type} {e : zRes → Option ρ} {f : Int → Int → Int → Int → Int → Int → zH → (Int → zH → Option ρ) → Option ρ} {g : Int → Int → Int → Int → Int → Int → zH → (Int → zH → Option zRes) → Option zRes} (hf : ∀ (x0 x1 x2 x3 x4 x5 : Int) (h : zH) (k : Int → zH → Option zRes) (t : Nat → zH → Option zRes), (g x0 x1 x2 x3 x4 x5 h k).bind e = f x0 x1 x2 x3 x4 x5 h (fun v h => (k v h).bind e)) : ∀ xs h k t, (zcm6 g xs h k t).bind e = zcm6 f xs h (fun v h => (k v h).bind e) (fun n h => (t n h).bind e)
  | [y, x0, x1, x2, x3, x4, x5], h, k, t => (zb_mch h y _ e).trans (congrArg (zmch h y) (hf x0 x1 x2 x3 x4 x5 h k t))
  | [], _, _, _ => rfl
  | [_], _, _, _ => rfl
  | [_, _], _, _, _ => rfl
  | [_, _, _], _, _, _ => rfl
  | [_, _, _, _], _, _, _ => rfl
  | [_, _, _, _, _], _, _, _ => rfl
  | [_, _, _, _, _, _], _, _, _ => rfl
  | _ :: _ :: _ :: _ :: _ :: _ :: _ :: _ :: _, _, _, _ => rfl
theorem zca7_s {SP : List Int → zH → (Int → zH → Option zRes) → (Nat → zH → Option zRes) → Prop} {r : zRes} {f : Int → Int → Int → Int → Int → Int → Int → zH → (Int → zH → Option zRes) → Option zRes} (hf : ∀ (x0 x1 x2 x3 x4 x5 x6 : Int) (h : zH) (k : Int → zH → Option zRes) (t : Nat → zH → Option zRes), f x0 x1 x2 x3 x4 x5 x6 h k = some r → SP [x0, x1, x2, x3, x4, x5, x6] h k t) : ∀ xs h k t, zca7 f xs h k t = some r → SP xs h k t
  | [x0, x1, x2, x3, x4, x5, x6], h, k, t, hr => hf x0 x1 x2 x3 x4 x5 x6 h k t hr
  | [], _, _, _, hr => by cases hr
  | [_], _, _, _, hr => by cases hr
  | [_, _], _, _, _, hr => by cases hr
  | [_, _, _], _, _, _, hr => by cases hr
  | [_, _, _, _], _, _, _, hr => by cases hr
  | [_, _, _, _, _], _, _, _, hr => by cases hr
  | [_, _, _, _, _, _], _, _, _, hr => by cases hr
  | _ :: _ :: _ :: _ :: _ :: _ :: _ :: _ :: _, _, _, _, hr => by cases hr
theorem zca7_e {ρ : Type} {e : zRes → Option ρ} {f : Int → Int → Int → Int → Int → Int → Int → zH → (Int → zH → Option ρ) → Option ρ} {g : Int → Int → Int → Int → Int → Int → Int → zH → (Int → zH → Option zRes) → Option zRes} (hf : ∀ (x0 x1 x2 x3 x4 x5 x6 : Int) (h : zH) (k : Int → zH → Option zRes) (t : Nat → zH → Option zRes), (g x0 x1 x2 x3 x4 x5 x6 h k).bind e = f x0 x1 x2 x3 x4 x5 x6 h (fun v h => (k v h).bind e)) : ∀ xs h k t, (zca7 g xs h k t).bind e = zca7 f xs h (fun v h => (k v h).bind e) (fun n h => (t n h).bind e)
  | [x0, x1, x2, x3, x4, x5, x6], h, k, t => hf x0 x1 x2 x3 x4 x5 x6 h k t
  | [], _, _, _ => rfl
  | [_], _, _, _ => rfl
  | [_, _], _, _, _ => rfl
  | [_, _, _], _, _, _ => rfl
  | [_, _, _, _], _, _, _ => rfl
  | [_, _, _, _, _], _, _, _ => rfl
  | [_, _, _, _, _, _], _, _, _ => rfl
  | _ :: _ :: _ :: _ :: _ :: _ :: _ :: _ :: _, _, _, _ => rfl
theorem zcx7_s {SP : List Int → zH → (Int → zH → Option zRes) → (Nat → zH → Option zRes) → Prop} {r : zRes} {f : Int → Int → Int → Int → Int → Int → Int → zH → (Nat → zH → Option zRes) → (Int → zH → Option zRes) → Option zRes} (hf : ∀ (x0 x1 x2 x3 x4 x5 x6 : Int) (h : zH) (k : Int → zH → Option zRes) (t : Nat → zH → Option zRes), f x0 x1 x2 x3 x4 x5 x6 h t k = some r → SP [x0, x1, x2, x3, x4, x5, x6] h k t) : ∀ xs h k t, zcx7 f xs h k t = some r → SP xs h k t
  | [x0, x1, x2, x3, x4, x5, x6], h, k, t, hr => hf x0 x1 x2 x3 x4 x5 x6 h k t hr
  | [], _, _, _, hr => by cases hr
  | [_], _, _, _, hr => by cases hr
  | [_, _], _, _, _, hr => by cases hr
  | [_, _, _], _, _, _, hr => by cases hr
  | [_, _, _, _], _, _, _, hr => by cases hr
  | [_, _, _, _, _], _, _, _, hr => by cases hr
  | [_, _, _, _, _, _], _, _, _, hr => by cases hr
  | _ :: _ :: _ :: _ :: _ :: _ :: _ :: _ :: _, _, _, _, hr => by cases hr
theorem zcx7_e {ρ : Type} {e : zRes → Option ρ} {f : Int → Int → Int → Int → Int → Int → Int → zH → (Nat → zH → Option ρ) → (Int → zH → Option ρ) → Option ρ} {g : Int → Int → Int → Int → Int → Int → Int → zH → (Nat → zH → Option zRes) → (Int → zH → Option zRes) → Option zRes} (hf : ∀ (x0 x1 x2 x3 x4 x5 x6 : Int) (h : zH) (k : Int → zH → Option zRes) (t : Nat → zH → Option zRes), (g x0 x1 x2 x3 x4 x5 x6 h t k).bind e = f x0 x1 x2 x3 x4 x5 x6 h (fun n h => (t n h).bind e) (fun v h => (k v h).bind e)) : ∀ xs h k t, (zcx7 g xs h k t).bind e = zcx7 f xs h (fun v h => (k v h).bind e) (fun n h => (t n h).bind e)
  | [x0, x1, x2, x3, x4, x5, x6], h, k, t => hf x0 x1 x2 x3 x4 x5 x6 h k t
  | [], _, _, _ => rfl
  | [_], _, _, _ => rfl
  | [_, _], _, _, _ => rfl
  | [_, _, _], _, _, _ => rfl
  | [_, _, _, _], _, _, _ => rfl
  | [_, _, _, _, _], _, _, _ => rfl
  | [_, _, _, _, _, _], _, _, _ => rfl
  | _ :: _ :: _ :: _ :: _ :: _ :: _ :: _ :: _, _, _, _ => rfl
theorem zcm7_s {SP : List Int → zH → (Int → zH → Option zRes) → (Nat → zH → Option zRes) → Prop} {r : zRes} {f : Int → Int → Int → Int → Int → Int → Int → zH → (Int → zH → Option zRes) → Option zRes} (hf : ∀ (y x0 x1 x2 x3 x4 x5 x6 : Int) (h : zH) (k : Int → zH → Option zRes) (t : Nat → zH → Option zRes), zmch h y (f x0 x1 x2 x3 x4 x5 x6 h k) = some r → SP [y, x0, x1, x2, x3, x4, x5, x6] h k t) : ∀ xs h k t, zcm7 f xs h k t = some r → SP xs h k t
  | [y, x0, x1, x2, x3, x4, x5, x6], h, k, t, hr => hf y x0 x1 x2 x3 x4 x5 x6 h k t hr
  | [], _, _, _, hr => by cases hr
  | [_], _, _, _, hr => by cases hr
  | [_, _], _, _, _, hr => by cases hr
  | [_, _, _], _, _, _, hr => by cases hr
  | [_, _, _, _], _, _, _, hr => by cases hr
  | [_, _, _, _, _], _, _, _, hr => by cases hr
  | [_, _, _, _, _, _], _, _, _, hr => by cases hr
  | [_, _, _, _, _, _, _], _, _, _, hr => by cases hr
  | _ :: _ :: _ :: _ :: _ :: _ :: _ :: _ :: _ :: _, _, _, _, hr => by cases hr
theorem zcm7_e {ρ : Type} {e : zRes → Option ρ} {f : Int → Int → Int → Int → Int → Int → Int → zH → (Int → zH → Option ρ) → Option ρ} {g : Int → Int → Int → Int → Int → Int → Int → zH → (Int → zH → Option zRes) → Option zRes} (hf : ∀ (x0 x1 x2 x3 x4 x5 x6 : Int) (h : zH) (k : Int → zH → Option zRes) (t : Nat → zH → Option zRes), (g x0 x1 x2 x3 x4 x5 x6 h k).bind e = f x0 x1 x2 x3 x4 x5 x6 h (fun v h => (k v h).bind e)) : ∀ xs h k t, (zcm7 g xs h k t).bind e = zcm7 f xs h (fun v h => (k v h).bind e) (fun n h => (t n h).bind e)
  | [y, x0, x1, x2, x3, x4, x5, x6], h, k, t => (zb_mch h y _ e).trans (congrArg (zmch h y) (hf x0 x1 x2 x3 x4 x5 x6 h k t))
  | [], _, _, _ => rfl
  | [_], _, _, _ => rfl
  | [_, _], _, _, _ => rfl
  | [_, _, _], _, _, _ => rfl
  | [_, _, _, _], _, _, _ => rfl
  | [_, _, _, _, _], _, _, _ => rfl
  | [_, _, _, _, _, _], _, _, _ => rfl
  | [_, _, _, _, _, _, _], _, _, _ => rfl
  | _ :: _ :: _ :: _ :: _ :: _ :: _ :: _ :: _ :: _, _, _, _ => rfl
/-- what a stretch of a method gives, whatever its places and callees, if they are sound -/
def zSg (l : Launch) (al : Bool) (zi : Nat → zinfo) (code : Nat → zI) (cut : Nat → Option (List Bool)) (kret : Int → zH → Option zRes) (kthr : Nat → zH → Option zRes) (r : zRes) (GO : Nat → List (Option zV) → List zV → zH → Prop) : Prop :=
  ∀ (CALL : Nat → List Int → zH → (Int → zH → Option zRes) → (Nat → zH → Option zRes) → Option zRes) (O : Nat → List (Option zV) → List zV → zH → Option zRes), zKall l al zi CALL r → (∀ pc ls st h, O pc ls st h = some r → GO pc ls st h) → ∀ f pc ls st h, zseg zPP al CALL code cut O kret kthr f pc ls st h = some r → GO pc ls st h
/-- places that a method leaves at, and those that are none -/
def zexi (o : Nat) : Bool := match o with
  | 105 => true
  | 106 => true
  | 130 => true
  | 131 => true
  | 160 => true
  | 161 => true
  | 132 => true
  | 133 => true
  | 134 => true
  | 999 => true
  | _ => false
section
variable {p : Program} {l : Launch} {e : Env} {R : Room} {s : State} {m : MethodId} {args : Array Value} {below : List Frame} {meth : Method} {c : Code} {Q : State → Prop} {A : Nat → Prop} {H0 : Heap} {σ : Nat → Nat} {cA : Nat → ClassId} {D : va_G} {b L : Nat} {xs : Nat → Int32} {al : Bool} {C0 S0 : Nat} {μ0 : Nat → Nat → Nat} {N0 : Nat → Nat} {nL : Nat}
variable {r : zRes} {kont : Nat → List (Option zV) → List zV → zH → Option zRes} {kret : Int → zH → Option zRes} {kthr : Nat → zH → Option zRes} {call : Nat → List Int → zH → (Int → zH → Option zRes) → (Nat → zH → Option zRes) → Option zRes} {cc : ByteArray} {own : String} 
theorem zGo.mask {pc : Nat} {ls : List (Option zV)} {st : List zV} {h : zH} (bm : List Bool) (hg : zGo p l e R s m args below meth c Q A H0 σ cA D b L xs al C0 S0 μ0 N0 nL r pc (zmask bm ls) st h) : zGo p l e R s m args below meth c Q A H0 σ cA D b L xs al C0 S0 μ0 N0 nL r pc ls st h := ⟨hg.1, fun ws μ pos H locs lsJ stJ hat hl hs => hg.2 ws μ pos H locs lsJ stJ hat (hl.mask bm) hs⟩
theorem zseg_sound {fr lo : Nat} (hx : p.tables.exec = Jvm.exec) (hb : c.code = cc) (hml : c.maxLocals = nL) (hown : s.vm.findClass own = some m.cls) (hts : ∀ w ∈ zT, w.before args s = true) (hK : va_K D zcl (ztys cA) s) (hA : ∀ q, H0.size ≤ q → A q) (hEnv : zEnv σ A s H0) (hRc : zhC (zrh r) - C0 ≤ R.cells) (hRs : zhS (zrh r) - S0 ≤ R.slots) (hH0 : H0 = s.heap) (hRf : R.frames = fr) (hRl : R.locals = lo) (hthr : ∀ pc n h, kthr n h = some r → zGoX p l e R s m args below meth c Q A H0 σ cA D b L xs al C0 S0 μ0 N0 nL r pc n h) {zi : Nat → zinfo} (hcwz : ∀ j, zicw (zi j) ∈ zT) {tb : List ExceptionTableEntry} (htab : c.exceptionTable.toList = tb) {isI : Bool} (hini : isI = true → meth.name = "<init>") (hIX : ∀ (t x : Int) (h : zH), zMet l al zixi.1 (zicw zixi) zixi.2.1 zixi.2.2.1 [3, 0] 0 [t, x] h (zfind (zget [] zstrs t.toNat) x 0) h) {code : Nat → zI} {cut : Nat → Option (List Bool)} {wi : Nat → List Nat}
    (hchk : ∀ pc, zexi (code pc).1 = true ∨ zchk cc own isI fr lo tb pc (code pc) (wi pc) zi = true)
    (hex : ∀ pc, zexi (code pc).1 = true → ∀ (CALL : Nat → List Int → zH → (Int → zH → Option zRes) → (Nat → zH → Option zRes) → Option zRes) (kont : Nat → List (Option zV) → List zV → zH → Option zRes), (∀ pc ls st h, kont pc ls st h = some r → zGo p l e R s m args below meth c Q A H0 σ cA D b L xs al C0 S0 μ0 N0 nL r pc ls st h) → ∀ ls st h, zstp zPP al CALL (code pc) kont kret kthr pc ls st h = some r → zGo p l e R s m args below meth c Q A H0 σ cA D b L xs al C0 S0 μ0 N0 nL r pc ls st h) :
    zSg l al zi code cut kret kthr r (zGo p l e R s m args below meth c Q A H0 σ cA D b L xs al C0 S0 μ0 N0 nL r) := by
  intro CALL O hcall hO f
  induction f with
  | zero => intro pc ls st h hr; cases hr
  | succ f ih =>
    intro pc ls st h hr
    have hr2 : zstp zPP al CALL (code pc) (fun pc ls st h => match cut pc with
      | none => zseg zPP al CALL code cut O kret kthr f pc ls st h
      | some bm => O pc (zmask bm ls) st h) kret kthr pc ls st h = some r := hr
    have hk : ∀ pc ls st h, (match cut pc with
      | none => zseg zPP al CALL code cut O kret kthr f pc ls st h
      | some bm => O pc (zmask bm ls) st h) = some r → zGo p l e R s m args below meth c Q A H0 σ cA D b L xs al C0 S0 μ0 N0 nL r pc ls st h := fun pc ls st h hr => by
      cases hcp : cut pc with
      | none => rw [hcp] at hr; exact ih pc ls st h hr
      | some bm => rw [hcp] at hr; exact zGo.mask bm (hO pc _ st h hr)
    rcases hchk pc with h9 | h9
    · exact hex pc h9 CALL _ hk ls st h hr2
    · exact zdisp hx hb hml hown hts hK hA hEnv hRc hRs hH0 hRf hRl hk hthr hcall hcwz htab hini hIX h9 hr2
end
