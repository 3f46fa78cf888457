/-! STRETCHES: templates of locals and stacks, oracles, soundness of a stretch -/
def zfl : List (Option (Nat × Option Int)) → List Int → List (Option zV) × List Int
  | [], xs => ([], xs)
  | none :: tl, xs => (none :: (zfl tl xs).1, (zfl tl xs).2)
  | some (t, some c) :: tl, xs => (some (t, c) :: (zfl tl xs).1, (zfl tl xs).2)
  | some (t, none) :: tl, x :: xs => (some (t, x) :: (zfl tl xs).1, (zfl tl xs).2)
  | some (_, none) :: _, [] => ([], [])
def zfs : List (Nat × Option Int) → List Int → List zV
  | [], _ => []
  | (t, some c) :: ts, xs => (t, c) :: zfs ts xs
  | (t, none) :: ts, x :: xs => (t, x) :: zfs ts xs
  | (_, none) :: _, [] => []
def zfc : List (Option Int) → List Int → List Int
  | [], _ => []
  | some c :: ts, xs => c :: zfc ts xs
  | none :: ts, x :: xs => x :: zfc ts xs
  | none :: _, [] => []
theorem zmt_sp {α : Type} {k : List Int → Option α} {y : α} : ∀ (tl : List (Option (Nat × Option Int))) (ls : List (Option zV)) (acc : List Int), zmt tl ls acc k = some y → ∃ xs, k (acc ++ xs) = some y ∧ ∀ zs, zfl tl (xs ++ zs) = (ls, zs)
  | [], [], acc, h => ⟨[], by rw [List.append_nil]; exact h, fun _ => rfl⟩
  | none :: tl, none :: ls, acc, h => by
    obtain ⟨xs, h1, h2⟩ := zmt_sp tl ls acc h
    exact ⟨xs, h1, fun zs => by rw [zfl, h2 zs]⟩
  | some (t, none) :: tl, some (t', x) :: ls, acc, h => by
    have hs1 : (if t' = t then zmt tl ls (acc ++ [x]) k else none) = some y := h
    split at hs1
    · rename_i he
      subst he
      obtain ⟨xs, h1, h2⟩ := zmt_sp tl ls (acc ++ [x]) hs1
      exact ⟨x :: xs, by rw [← h1, List.append_assoc]; rfl, fun zs => by rw [List.cons_append, zfl, h2 zs]⟩
    · cases hs1
  | some (t, some c) :: tl, some (t', x) :: ls, acc, h => by
    have hs1 : (if t' = t ∧ x = c then zmt tl ls acc k else none) = some y := h
    split at hs1
    · rename_i he
      obtain ⟨rfl, rfl⟩ := he
      obtain ⟨xs, h1, h2⟩ := zmt_sp tl ls acc hs1
      exact ⟨xs, h1, fun zs => by rw [zfl, h2 zs]⟩
    · cases hs1
  | [], none :: _, _, h => by cases h
  | [], some _ :: _, _, h => by cases h
  | none :: _, [], _, h => by cases h
  | none :: _, some _ :: _, _, h => by cases h
  | some (_, none) :: _, [], _, h => by cases h
  | some (_, some _) :: _, [], _, h => by cases h
  | some (_, none) :: _, none :: _, _, h => by cases h
  | some (_, some _) :: _, none :: _, _, h => by cases h
theorem zms_sp {α : Type} {k : List Int → Option α} {y : α} : ∀ (ts : List (Nat × Option Int)) (st : List zV) (acc : List Int), zms ts st acc k = some y → ∃ xs, k (acc ++ xs) = some y ∧ zfs ts xs = st
  | [], [], acc, h => ⟨[], by rw [List.append_nil]; exact h, rfl⟩
  | (t, none) :: ts, (t', x) :: st, acc, h => by
    have hs1 : (if t' = t then zms ts st (acc ++ [x]) k else none) = some y := h
    split at hs1
    · rename_i he
      subst he
      obtain ⟨xs, h1, h2⟩ := zms_sp ts st (acc ++ [x]) hs1
      exact ⟨x :: xs, by rw [← h1, List.append_assoc]; rfl, by rw [zfs, h2]⟩
    · cases hs1
  | (t, some c) :: ts, (t', x) :: st, acc, h => by
    have hs1 : (if t' = t ∧ x = c then zms ts st acc k else none) = some y := h
    split at hs1
    · rename_i he
      obtain ⟨rfl, rfl⟩ := he
      obtain ⟨xs, h1, h2⟩ := zms_sp ts st acc hs1
      exact ⟨xs, h1, by rw [zfs, h2]⟩
    · cases hs1
  | [], _ :: _, _, h => by cases h
  | (_, none) :: _, [], _, h => by cases h
  | (_, some _) :: _, [], _, h => by cases h
theorem zmc_sp {α : Type} {k : List Int → Option α} {y : α} : ∀ (cs : List (Option Int)) (as : List Int) (acc : List Int), zmc cs as acc k = some y → ∃ xs, k (acc ++ xs) = some y ∧ zfc cs xs = as
  | [], [], acc, h => ⟨[], by rw [List.append_nil]; exact h, rfl⟩
  | none :: cs, x :: as, acc, h => by
    obtain ⟨xs, h1, h2⟩ := zmc_sp cs as (acc ++ [x]) h
    exact ⟨x :: xs, by rw [← h1, List.append_assoc]; rfl, by rw [zfc, h2]⟩
  | some c :: cs, x :: as, acc, h => by
    have hs1 : (if x = c then zmc cs as acc k else none) = some y := h
    split at hs1
    · rename_i he
      subst he
      obtain ⟨xs, h1, h2⟩ := zmc_sp cs as acc hs1
      exact ⟨xs, h1, by rw [zfc, h2]⟩
    · cases hs1
  | [], _ :: _, _, h => by cases h
  | none :: _, [], _, h => by cases h
  | some _ :: _, [], _, h => by cases h
/-- every place that a stretch runs into is sound -/
def zOS (GO : Nat → List (Option zV) → List zV → zH → Prop) (r : zRes) : List (zE zRes) → Prop
  | [] => True
  | (p, tl, ts, f) :: E => (∀ xs h, f xs h = some r → GO p (zfl tl xs).1 (zfs ts (zfl tl xs).2) h) ∧ zOS GO r E
theorem zorc_s {GO : Nat → List (Option zV) → List zV → zH → Prop} {r : zRes} : ∀ E : List (zE zRes), zOS GO r E → ∀ pc ls st h, zorc E pc ls st h = some r → GO pc ls st h
  | [], _, _, _, _, _, hr => by cases hr
  | (p, tl, ts, f) :: E, hE, pc, ls, st, h, hr => by
    have hs1 : (if p = pc then zmt tl ls [] (fun xs => zms ts st xs (fun xs => f xs h)) else zorc E pc ls st h) = some r := hr
    split at hs1
    · rename_i he
      subst he
      obtain ⟨xs, h1, h2⟩ := zmt_sp tl ls [] hs1
      obtain ⟨zs, h3, h4⟩ := zms_sp ts st _ h1
      have h5 := hE.1 (xs ++ zs) h (by rw [← h3]; rfl)
      rw [h2 zs] at h5
      dsimp only at h5
      rw [h4] at h5
      exact h5
    · exact zorc_s E hE.2 pc ls st h hs1
/-- every method that a stretch calls is sound -/
def zCS (SP : Nat → List Int → zH → (Int → zH → Option zRes) → (Nat → zH → Option zRes) → Prop) (r : zRes) : List (zC zRes) → Prop
  | [] => True
  | (j, cs, f) :: E => (∀ xs h k t, f xs h k t = some r → SP j (zfc cs xs) h k t) ∧ zCS SP r E
theorem zcal_s {SP : Nat → List Int → zH → (Int → zH → Option zRes) → (Nat → zH → Option zRes) → Prop} {r : zRes} : ∀ E : List (zC zRes), zCS SP r E → ∀ j as h k t, zcal E j as h k t = some r → SP j as h k t
  | [], _, _, _, _, _, _, hr => by cases hr
  | (j', cs, f) :: E, hE, j, as, h, k, t, hr => by
    have hs1 : (if j' = j then zmc cs as [] (fun xs => f xs h k t) else zcal E j as h k t) = some r := hr
    split at hs1
    · rename_i he
      subst he
      obtain ⟨xs, h1, h2⟩ := zmc_sp cs as [] hs1
      have h5 := hE.1 xs h k t h1
      rw [h2] at h5
      exact h5
    · exact zcal_s E hE.2 j as h k t hs1
/-- .. and the same stretches seen by e -/
def zOL {ρ : Type} (e : zRes → Option ρ) : List (zE ρ) → List (zE zRes) → Prop
  | [], [] => True
  | (p, tl, ts, f) :: r, (p', tl', ts', g) :: s => p = p' ∧ tl = tl' ∧ ts = ts' ∧ (∀ xs h, (g xs h).bind e = f xs h) ∧ zOL e r s
  | _, _ => False
theorem zmt_e {ρ : Type} {e : zRes → Option ρ} {kA : List Int → Option ρ} {kZ : List Int → Option zRes} (hk : ∀ xs, (kZ xs).bind e = kA xs) : ∀ (tl : List (Option (Nat × Option Int))) (ls : List (Option zV)) (acc : List Int), (zmt tl ls acc kZ).bind e = zmt tl ls acc kA
  | [], [], acc => hk acc
  | none :: tl, none :: ls, acc => zmt_e hk tl ls acc
  | some (t, none) :: tl, some (t', x) :: ls, acc => by
    show (if t' = t then zmt tl ls (acc ++ [x]) kZ else none).bind e = if t' = t then zmt tl ls (acc ++ [x]) kA else none
    split
    · exact zmt_e hk tl ls _
    · rfl
  | some (t, some c) :: tl, some (t', x) :: ls, acc => by
    show (if t' = t ∧ x = c then zmt tl ls acc kZ else none).bind e = if t' = t ∧ x = c then zmt tl ls acc kA else none
    split
    · exact zmt_e hk tl ls _
    · rfl
  | [], none :: _, _ => rfl
  | [], some _ :: _, _ => rfl
  | none :: _, [], _ => rfl
  | none :: _, some _ :: _, _ => rfl
  | some (_, none) :: _, [], _ => rfl
  | some (_, some _) :: _, [], _ => rfl
  | some (_, none) :: _, none :: _, _ => rfl
  | some (_, some _) :: _, none :: _, _ => rfl
theorem zms_e {ρ : Type} {e : zRes → Option ρ} {kA : List Int → Option ρ} {kZ : List Int → Option zRes} (hk : ∀ xs, (kZ xs).bind e = kA xs) : ∀ (ts : List (Nat × Option Int)) (st : List zV) (acc : List Int), (zms ts st acc kZ).bind e = zms ts st acc kA
  | [], [], acc => hk acc
  | (t, none) :: ts, (t', x) :: st, acc => by
    show (if t' = t then zms ts st (acc ++ [x]) kZ else none).bind e = if t' = t then zms ts st (acc ++ [x]) kA else none
    split
    · exact zms_e hk ts st _
    · rfl
  | (t, some c) :: ts, (t', x) :: st, acc => by
    show (if t' = t ∧ x = c then zms ts st acc kZ else none).bind e = if t' = t ∧ x = c then zms ts st acc kA else none
    split
    · exact zms_e hk ts st _
    · rfl
  | [], _ :: _, _ => rfl
  | (_, none) :: _, [], _ => rfl
  | (_, some _) :: _, [], _ => rfl
theorem zmc_e {ρ : Type} {e : zRes → Option ρ} {kA : List Int → Option ρ} {kZ : List Int → Option zRes} (hk : ∀ xs, (kZ xs).bind e = kA xs) : ∀ (cs : List (Option Int)) (as acc : List Int), (zmc cs as acc kZ).bind e = zmc cs as acc kA
  | [], [], acc => hk acc
  | none :: cs, x :: as, acc => zmc_e hk cs as _
  | some c :: cs, x :: as, acc => by
    show (if x = c then zmc cs as acc kZ else none).bind e = if x = c then zmc cs as acc kA else none
    split
    · exact zmc_e hk cs as _
    · rfl
  | [], _ :: _, _ => rfl
  | none :: _, [], _ => rfl
  | some _ :: _, [], _ => rfl
theorem zorc_e {ρ : Type} {e : zRes → Option ρ} : ∀ (EA : List (zE ρ)) (EZ : List (zE zRes)), zOL e EA EZ → ∀ pc ls st h, (zorc EZ pc ls st h).bind e = zorc EA pc ls st h
  | [], [], _, _, _, _, _ => rfl
  | (p, tl, ts, f) :: EA, (p', tl', ts', g) :: EZ, hE, pc, ls, st, h => by
    obtain ⟨rfl, rfl, rfl, h1, h2⟩ := hE
    show (if p = pc then zmt tl ls [] (fun xs => zms ts st xs (fun xs => g xs h)) else zorc EZ pc ls st h).bind e = if p = pc then zmt tl ls [] (fun xs => zms ts st xs (fun xs => f xs h)) else zorc EA pc ls st h
    split
    · exact zmt_e (fun xs => zms_e (fun xs => h1 xs h) ts st xs) tl ls []
    · exact zorc_e EA EZ h2 pc ls st h
  | [], _ :: _, hE, _, _, _, _ => hE.elim
  | _ :: _, [], hE, _, _, _, _ => hE.elim
def zCL {ρ : Type} (e : zRes → Option ρ) : List (zC ρ) → List (zC zRes) → Prop
  | [], [] => True
  | (j, cs, f) :: r, (j', cs', g) :: s => j = j' ∧ cs = cs' ∧ (∀ xs h k t, (g xs h k t).bind e = f xs h (fun v h => (k v h).bind e) (fun n h => (t n h).bind e)) ∧ zCL e r s
  | _, _ => False
theorem zcal_e {ρ : Type} {e : zRes → Option ρ} : ∀ (EA : List (zC ρ)) (EZ : List (zC zRes)), zCL e EA EZ → ∀ j as h k t, (zcal EZ j as h k t).bind e = zcal EA j as h (fun v h => (k v h).bind e) (fun n h => (t n h).bind e)
  | [], [], _, _, _, _, _, _ => rfl
  | (j, cs, f) :: EA, (j', cs', g) :: EZ, hE, i, as, h, k, t => by
    obtain ⟨rfl, rfl, h1, h2⟩ := hE
    show (if j = i then zmc cs as [] (fun xs => g xs h k t) else zcal EZ i as h k t).bind e = if j = i then zmc cs as [] (fun xs => f xs h (fun v h => (k v h).bind e) (fun n h => (t n h).bind e)) else zcal EA i as h (fun v h => (k v h).bind e) (fun n h => (t n h).bind e)
    split
    · exact zmc_e (fun xs => h1 xs h k t) cs as []
    · exact zcal_e EA EZ h2 i as h k t
  | [], _ :: _, hE, _, _, _, _, _ => hE.elim
  | _ :: _, [], hE, _, _, _, _, _ => hE.elim
theorem zap0_s {P : List Int → zH → Prop} {r : zRes} {f : zH → Option zRes} (hf : ∀ (h : zH), f h = some r → P [] h) : ∀ xs h, zap0 f xs h = some r → P xs h
  | [], h, hr => hf h hr
  | _ :: _, _, hr => by cases hr
theorem zap0_e {ρ : Type} {e : zRes → Option ρ} {f : zH → Option ρ} {g : zH → Option zRes} (hf : ∀ (h : zH), (g h).bind e = f h) : ∀ xs h, (zap0 g xs h).bind e = zap0 f xs h
  | [], h => hf h
  | _ :: _, _ => rfl
theorem zap1_s {P : List Int → zH → Prop} {r : zRes} {f : Int → zH → Option zRes} (hf : ∀ (x0 : Int) (h : zH), f x0 h = some r → P [x0] h) : ∀ xs h, zap1 f xs h = some r → P xs h
  | [x0], h, hr => hf x0 h hr
  | [], _, hr => by cases hr
  | _ :: _ :: _, _, hr => by cases hr
theorem zap1_e {ρ : Type} {e : zRes → Option ρ} {f : Int → zH → Option ρ} {g : Int → zH → Option zRes} (hf : ∀ (x0 : Int) (h : zH), (g x0 h).bind e = f x0 h) : ∀ xs h, (zap1 g xs h).bind e = zap1 f xs h
  | [x0], h => hf x0 h
  | [], _ => rfl
  | _ :: _ :: _, _ => rfl
theorem zap2_s {P : List Int → zH → Prop} {r : zRes} {f : Int → Int → zH → Option zRes} (hf : ∀ (x0 x1 : Int) (h : zH), f x0 x1 h = some r → P [x0, x1] h) : ∀ xs h, zap2 f xs h = some r → P xs h
  | [x0, x1], h, hr => hf x0 x1 h hr
  | [], _, hr => by cases hr
  | [_], _, hr => by cases hr
  | _ :: _ :: _ :: _, _, hr => by cases hr
theorem zap2_e {ρ : Type} {e : zRes → Option ρ} {f : Int → Int → zH → Option ρ} {g : Int → Int → zH → Option zRes} (hf : ∀ (x0 x1 : Int) (h : zH), (g x0 x1 h).bind e = f x0 x1 h) : ∀ xs h, (zap2 g xs h).bind e = zap2 f xs h
  | [x0, x1], h => hf x0 x1 h
  | [], _ => rfl
  | [_], _ => rfl
  | _ :: _ :: _ :: _, _ => rfl
theorem zap3_s {P : List Int → zH → Prop} {r : zRes} {f : Int → Int → Int → zH → Option zRes} (hf : ∀ (x0 x1 x2 : Int) (h : zH), f x0 x1 x2 h = some r → P [x0, x1, x2] h) : ∀ xs h, zap3 f xs h = some r → P xs h
  | [x0, x1, x2], h, hr => hf x0 x1 x2 h hr
  | [], _, hr => by cases hr
  | [_], _, hr => by cases hr
  | [_, _], _, hr => by cases hr
  | _ :: _ :: _ :: _ :: _, _, hr => by cases hr
theorem zap3_e {ρ : Type} {e : zRes → Option ρ} {f : Int → Int → Int → zH → Option ρ} {g : Int → Int → Int → zH → Option zRes} (hf : ∀ (x0 x1 x2 : Int) (h : zH), (g x0 x1 x2 h).bind e = f x0 x1 x2 h) : ∀ xs h, (zap3 g xs h).bind e = zap3 f xs h
  | [x0, x1, x2], h => hf x0 x1 x2 h
  | [], _ => rfl
  | [_], _ => rfl
  | [_, _], _ => rfl
  | _ :: _ :: _ :: _ :: _, _ => rfl
theorem zap4_s {P : List Int → zH → Prop} {r : zRes} {f : Int → Int → Int → Int → zH → Option zRes} (hf : ∀ (x0 x1 x2 x3 : Int) (h : zH), f x0 x1 x2 x3 h = some r → P [x0, x1, x2, x3] h) : ∀ xs h, zap4 f xs h = some r → P xs h
  | [x0, x1, x2, x3], h, hr => hf x0 x1 x2 x3 h hr
  | [], _, hr => by cases hr
  | [_], _, hr => by cases hr
  | [_, _], _, hr => by cases hr
  | [_, _, _], _, hr => by cases hr
  | _ :: _ :: _ :: _ :: _ :: _, _, hr => by cases hr
theorem zap4_e {ρ : Type} {e : zRes → Option ρ} {f : Int → Int → Int → Int → zH → Option ρ} {g : Int → Int → Int → Int → zH → Option zRes} (hf : ∀ (x0 x1 x2 x3 : Int) (h : zH), (g x0 x1 x2 x3 h).bind e = f x0 x1 x2 x3 h) : ∀ xs h, (zap4 g xs h).bind e = zap4 f xs h
  | [x0, x1, x2, x3], h => hf x0 x1 x2 x3 h
  | [], _ => rfl
  | [_], _ => rfl
  | [_, _], _ => rfl
  | [_, _, _], _ => rfl
  | _ :: _ :: _ :: _ :: _ :: _, _ => rfl
theorem zap5_s {P : List Int → zH → Prop} {r : zRes} {f : Int → Int → Int → Int → Int → zH → Option zRes} (hf : ∀ (x0 x1 x2 x3 x4 : Int) (h : zH), f x0 x1 x2 x3 x4 h = some r → P [x0, x1, x2, x3, x4] h) : ∀ xs h, zap5 f xs h = some r → P xs h
  | [x0, x1, x2, x3, x4], h, hr => hf x0 x1 x2 x3 x4 h hr
  | [], _, hr => by cases hr
  | [_], _, hr => by cases hr
  | [_, _], _, hr => by cases hr
  | [_, _, _], _, hr => by cases hr
  | [_, _, _, _], _, hr => by cases hr
  | _ :: _ :: _ :: _ :: _ :: _ :: _, _, hr => by cases hr
theorem zap5_e {ρ : Type} {e : zRes → Option ρ} {f : Int → Int → Int → Int → Int → zH → Option ρ} {g : Int → Int → Int → Int → Int → zH → Option zRes} (hf : ∀ (x0 x1 x2 x3 x4 : Int) (h : zH), (g x0 x1 x2 x3 x4 h).bind e = f x0 x1 x2 x3 x4 h) : ∀ xs h, (zap5 g xs h).bind e = zap5 f xs h
  | [x0, x1, x2, x3, x4], h => hf x0 x1 x2 x3 x4 h
  | [], _ => rfl
  | [_], _ => rfl
  | [_, _], _ => rfl
  | [_, _, _], _ => rfl
  | [_, _, _, _], _ => rfl
  | _ :: _ :: _ :: _ :: _ :: _ :: _, _ => rfl
theorem zap6_s {P : List Int → zH → Prop} {r : zRes} {f : Int → Int → Int → Int → Int → Int → zH → Option zRes} (hf : ∀ (x0 x1 x2 x3 x4 x5 : Int) (h : zH), f x0 x1 x2 x3 x4 x5 h = some r → P [x0, x1, x2, x3, x4, x5] h) : ∀ xs h, zap6 f xs h = some r → P xs h
  | [x0, x1, x2, x3, x4, x5], h, hr => hf x0 x1 x2 x3 x4 x5 h hr
  | [], _, hr => by cases hr
  | [_], _, hr => by cases hr
  | [_, _], _, hr => by cases hr
  | [_, _, _], _, hr => by cases hr
  | [_, _, _, _], _, hr => by cases hr
  | [_, _, _, _, _], _, hr => by cases hr
  | _ :: _ :: _ :: _ :: _ :: _ :: _ :: _, _, hr => by cases hr
theorem zap6_e {ρ : Type} {e : zRes → Option ρ} {f : Int → Int → Int → Int → Int → Int → zH → Option ρ} {g : Int → Int → Int → Int → Int → Int → zH → Option zRes} (hf : ∀ (x0 x1 x2 x3 x4 x5 : Int) (h : zH), (g x0 x1 x2 x3 x4 x5 h).bind e = f x0 x1 x2 x3 x4 x5 h) : ∀ xs h, (zap6 g xs h).bind e = zap6 f xs h
  | [x0, x1, x2, x3, x4, x5], h => hf x0 x1 x2 x3 x4 x5 h
  | [], _ => rfl
  | [_], _ => rfl
  | [_, _], _ => rfl
  | [_, _, _], _ => rfl
  | [_, _, _, _], _ => rfl
  | [_, _, _, _, _], _ => rfl
  | _ :: _ :: _ :: _ :: _ :: _ :: _ :: _, _ => rfl
theorem zap7_s {P : List Int → zH → Prop} {r : zRes} {f : Int → Int → Int → Int → Int → Int → Int → zH → Option zRes} (hf : ∀ (x0 x1 x2 x3 x4 x5 x6 : Int) (h : zH), f x0 x1 x2 x3 x4 x5 x6 h = some r → P [x0, x1, x2, x3, x4, x5, x6] h) : ∀ xs h, zap7 f xs h = some r → P xs h
  | [x0, x1, x2, x3, x4, x5, x6], h, hr => hf x0 x1 x2 x3 x4 x5 x6 h hr
  | [], _, hr => by cases hr
  | [_], _, hr => by cases hr
  | [_, _], _, hr => by cases hr
  | [_, _, _], _, hr => by cases hr
  | [_, _, _, _], _, hr => by cases hr
  | [_, _, _, _, _], _, hr => by cases hr
  | [_, _, _, _, _, _], _, hr => by cases hr
  | _ :: _ :: _ :: _ :: _ :: _ :: _ :: _ :: _, _, hr => by cases hr
theorem zap7_e {ρ : Type} {e : zRes → Option ρ} {f : Int → Int → Int → Int → Int → Int → Int → zH → Option ρ} {g : Int → Int → Int → Int → Int → Int → Int → zH → Option zRes} (hf : ∀ (x0 x1 x2 x3 x4 x5 x6 : Int) (h : zH), (g x0 x1 x2 x3 x4 x5 x6 h).bind e = f x0 x1 x2 x3 x4 x5 x6 h) : ∀ xs h, (zap7 g xs h).bind e = zap7 f xs h
  | [x0, x1, x2, x3, x4, x5, x6], h => hf x0 x1 x2 x3 x4 x5 x6 h
  | [], _ => rfl
  | [_], _ => rfl
  | [_, _], _ => rfl
  | [_, _, _], _ => rfl
  | [_, _, _, _], _ => rfl
  | [_, _, _, _, _], _ => rfl
  | [_, _, _, _, _, _], _ => rfl
  | _ :: _ :: _ :: _ :: _ :: _ :: _ :: _ :: _, _ => rfl
theorem zap8_s {P : List Int → zH → Prop} {r : zRes} {f : Int → Int → Int → Int → Int → Int → Int → Int → zH → Option zRes} (hf : ∀ (x0 x1 x2 x3 x4 x5 x6 x7 : Int) (h : zH), f x0 x1 x2 x3 x4 x5 x6 x7 h = some r → P [x0, x1, x2, x3, x4, x5, x6, x7] h) : ∀ xs h, zap8 f xs h = some r → P xs h
  | [x0, x1, x2, x3, x4, x5, x6, x7], h, hr => hf x0 x1 x2 x3 x4 x5 x6 x7 h hr
  | [], _, hr => by cases hr
  | [_], _, hr => by cases hr
  | [_, _], _, hr => by cases hr
  | [_, _, _], _, hr => by cases hr
  | [_, _, _, _], _, hr => by cases hr
  | [_, _, _, _, _], _, hr => by cases hr
  | [_, _, _, _, _, _], _, hr => by cases hr
  | [_, _, _, _, _, _, _], _, hr => by cases hr
  | _ :: _ :: _ :: _ :: _ :: _ :: _ :: _ :: _ :: _, _, hr => by cases hr
theorem zap8_e {ρ : Type} {e : zRes → Option ρ} {f : Int → Int → Int → Int → Int → Int → Int → Int → zH → Option ρ} {g : Int → Int → Int → Int → Int → Int → Int → Int → zH → Option zRes} (hf : ∀ (x0 x1 x2 x3 x4 x5 x6 x7 : Int) (h : zH), (g x0 x1 x2 x3 x4 x5 x6 x7 h).bind e = f x0 x1 x2 x3 x4 x5 x6 x7 h) : ∀ xs h, (zap8 g xs h).bind e = zap8 f xs h
  | [x0, x1, x2, x3, x4, x5, x6, x7], h => hf x0 x1 x2 x3 x4 x5 x6 x7 h
  | [], _ => rfl
  | [_], _ => rfl
  | [_, _], _ => rfl
  | [_, _, _], _ => rfl
  | [_, _, _, _], _ => rfl
  | [_, _, _, _, _], _ => rfl
  | [_, _, _, _, _, _], _ => rfl
  | [_, _, _, _, _, _, _], _ => rfl
  | _ :: _ :: _ :: _ :: _ :: _ :: _ :: _ :: _ :: _, _ => rfl
theorem zap9_s {P : List Int → zH → Prop} {r : zRes} {f : Int → Int → Int → Int → Int → Int → Int → Int → Int → zH → Option zRes} (hf : ∀ (x0 x1 x2 x3 x4 x5 x6 x7 x8 : Int) (h : zH), f x0 x1 x2 x3 x4 x5 x6 x7 x8 h = some r → P [x0, x1, x2, x3, x4, x5, x6, x7, x8] h) : ∀ xs h, zap9 f xs h = some r → P xs h
  | [x0, x1, x2, x3, x4, x5, x6, x7, x8], h, hr => hf x0 x1 x2 x3 x4 x5 x6 x7 x8 h hr
  | [], _, hr => by cases hr
  | [_], _, hr => by cases hr
  | [_, _], _, hr => by cases hr
  | [_, _, _], _, hr => by cases hr
  | [_, _, _, _], _, hr => by cases hr
  | [_, _, _, _, _], _, hr => by cases hr
  | [_, _, _, _, _, _], _, hr => by cases hr
  | [_, _, _, _, _, _, _], _, hr => by cases hr
  | [_, _, _, _, _, _, _, _], _, hr => by cases hr
  | _ :: _ :: _ :: _ :: _ :: _ :: _ :: _ :: _ :: _ :: _, _, hr => by cases hr
theorem zap9_e {ρ : Type} {e : zRes → Option ρ} {f : Int → Int → Int → Int → Int → Int → Int → Int → Int → zH → Option ρ} {g : Int → Int → Int → Int → Int → Int → Int → Int → Int → zH → Option zRes} (hf : ∀ (x0 x1 x2 x3 x4 x5 x6 x7 x8 : Int) (h : zH), (g x0 x1 x2 x3 x4 x5 x6 x7 x8 h).bind e = f x0 x1 x2 x3 x4 x5 x6 x7 x8 h) : ∀ xs h, (zap9 g xs h).bind e = zap9 f xs h
  | [x0, x1, x2, x3, x4, x5, x6, x7, x8], h => hf x0 x1 x2 x3 x4 x5 x6 x7 x8 h
  | [], _ => rfl
  | [_], _ => rfl
  | [_, _], _ => rfl
  | [_, _, _], _ => rfl
  | [_, _, _, _], _ => rfl
  | [_, _, _, _, _], _ => rfl
  | [_, _, _, _, _, _], _ => rfl
  | [_, _, _, _, _, _, _], _ => rfl
  | [_, _, _, _, _, _, _, _], _ => rfl
  | _ :: _ :: _ :: _ :: _ :: _ :: _ :: _ :: _ :: _ :: _, _ => rfl
theorem zap10_s {P : List Int → zH → Prop} {r : zRes} {f : Int → Int → Int → Int → Int → Int → Int → Int → Int → Int → zH → Option zRes} (hf : ∀ (x0 x1 x2 x3 x4 x5 x6 x7 x8 x9 : Int) (h : zH), f x0 x1 x2 x3 x4 x5 x6 x7 x8 x9 h = some r → P [x0, x1, x2, x3, x4, x5, x6, x7, x8, x9] h) : ∀ xs h, zap10 f xs h = some r → P xs h
  | [x0, x1, x2, x3, x4, x5, x6, x7, x8, x9], h, hr => hf x0 x1 x2 x3 x4 x5 x6 x7 x8 x9 h hr
  | [], _, hr => by cases hr
  | [_], _, hr => by cases hr
  | [_, _], _, hr => by cases hr
  | [_, _, _], _, hr => by cases hr
  | [_, _, _, _], _, hr => by cases hr
  | [_, _, _, _, _], _, hr => by cases hr
  | [_, _, _, _, _, _], _, hr => by cases hr
  | [_, _, _, _, _, _, _], _, hr => by cases hr
  | [_, _, _, _, _, _, _, _], _, hr => by cases hr
  | [_, _, _, _, _, _, _, _, _], _, hr => by cases hr
  | _ :: _ :: _ :: _ :: _ :: _ :: _ :: _ :: _ :: _ :: _ :: _, _, hr => by cases hr
theorem zap10_e {ρ : Type} {e : zRes → Option ρ} {f : Int → Int → Int → Int → Int → Int → Int → Int → Int → Int → zH → Option ρ} {g : Int → Int → Int → Int → Int → Int → Int → Int → Int → Int → zH → Option zRes} (hf : ∀ (x0 x1 x2 x3 x4 x5 x6 x7 x8 x9 : Int) (h : zH), (g x0 x1 x2 x3 x4 x5 x6 x7 x8 x9 h).bind e = f x0 x1 x2 x3 x4 x5 x6 x7 x8 x9 h) : ∀ xs h, (zap10 g xs h).bind e = zap10 f xs h
  | [x0, x1, x2, x3, x4, x5, x6, x7, x8, x9], h => hf x0 x1 x2 x3 x4 x5 x6 x7 x8 x9 h
  | [], _ => rfl
  | [_], _ => rfl
  | [_, _], _ => rfl
  | [_, _, _], _ => rfl
  | [_, _, _, _], _ => rfl
  | [_, _, _, _, _], _ => rfl
  | [_, _, _, _, _, _], _ => rfl
  | [_, _, _, _, _, _, _], _ => rfl
  | [_, _, _, _, _, _, _, _], _ => rfl
  | [_, _, _, _, _, _, _, _, _], _ => rfl
  | _ :: _ :: _ :: _ :: _ :: _ :: _ :: _ :: _ :: _ :: _ :: _, _ => rfl
theorem zap11_s {P : List Int → zH → Prop} {r : zRes} {f : Int → Int → Int → Int → Int → Int → Int → Int → Int → Int → Int → zH → Option zRes} (hf : ∀ (x0 x1 x2 x3 x4 x5 x6 x7 x8 x9 x10 : Int) (h : zH), f x0 x1 x2 x3 x4 x5 x6 x7 x8 x9 x10 h = some r → P [x0, x1, x2, x3, x4, x5, x6, x7, x8, x9, x10] h) : ∀ xs h, zap11 f xs h = some r → P xs h
  | [x0, x1, x2, x3, x4, x5, x6, x7, x8, x9, x10], h, hr => hf x0 x1 x2 x3 x4 x5 x6 x7 x8 x9 x10 h hr
  | [], _, hr => by cases hr
  | [_], _, hr => by cases hr
  | [_, _], _, hr => by cases hr
  | [_, _, _], _, hr => by cases hr
  | [_, _, _, _], _, hr => by cases hr
  | [_, _, _, _, _], _, hr => by cases hr
  | [_, _, _, _, _, _], _, hr => by cases hr
  | [_, _, _, _, _, _, _], _, hr => by cases hr
  | [_, _, _, _, _, _, _, _], _, hr => by cases hr
  | [_, _, _, _, _, _, _, _, _], _, hr => by cases hr
  | [_, _, _, _, _, _, _, _, _, _], _, hr => by cases hr
  | _ :: _ :: _ :: _ :: _ :: _ :: _ :: _ :: _ :: _ :: _ :: _ :: _, _, hr => by cases hr
theorem zap11_e {ρ : Type} {e : zRes → Option ρ} {f : Int → Int → Int → Int → Int → Int → Int → Int → Int → Int → Int → zH → Option ρ} {g : Int → Int → Int → Int → Int → Int → Int → Int → Int → Int → Int → zH → Option zRes} (hf : ∀ (x0 x1 x2 x3 x4 x5 x6 x7 x8 x9 x10 : Int) (h : zH), (g x0 x1 x2 x3 x4 x5 x6 x7 x8 x9 x10 h).bind e = f x0 x1 x2 x3 x4 x5 x6 x7 x8 x9 x10 h) : ∀ xs h, (zap11 g xs h).bind e = zap11 f xs h
  | [x0, x1, x2, x3, x4, x5, x6, x7, x8, x9, x10], h => hf x0 x1 x2 x3 x4 x5 x6 x7 x8 x9 x10 h
  | [], _ => rfl
  | [_], _ => rfl
  | [_, _], _ => rfl
  | [_, _, _], _ => rfl
  | [_, _, _, _], _ => rfl
  | [_, _, _, _, _], _ => rfl
  | [_, _, _, _, _, _], _ => rfl
  | [_, _, _, _, _, _, _], _ => rfl
  | [_, _, _, _, _, _, _, _], _ => rfl
  | [_, _, _, _, _, _, _, _, _], _ => rfl
  | [_, _, _, _, _, _, _, _, _, _], _ => rfl
  | _ :: _ :: _ :: _ :: _ :: _ :: _ :: _ :: _ :: _ :: _ :: _ :: _, _ => rfl
theorem zap12_s {P : List Int → zH → Prop} {r : zRes} {f : Int → Int → Int → Int → Int → Int → Int → Int → Int → Int → Int → Int → zH → Option zRes} (hf : ∀ (x0 x1 x2 x3 x4 x5 x6 x7 x8 x9 x10 x11 : Int) (h : zH), f x0 x1 x2 x3 x4 x5 x6 x7 x8 x9 x10 x11 h = some r → P [x0, x1, x2, x3, x4, x5, x6, x7, x8, x9, x10, x11] h) : ∀ xs h, zap12 f xs h = some r → P xs h
  | [x0, x1, x2, x3, x4, x5, x6, x7, x8, x9, x10, x11], h, hr => hf x0 x1 x2 x3 x4 x5 x6 x7 x8 x9 x10 x11 h hr
  | [], _, hr => by cases hr
  | [_], _, hr => by cases hr
  | [_, _], _, hr => by cases hr
  | [_, _, _], _, hr => by cases hr
  | [_, _, _, _], _, hr => by cases hr
  | [_, _, _, _, _], _, hr => by cases hr
  | [_, _, _, _, _, _], _, hr => by cases hr
  | [_, _, _, _, _, _, _], _, hr => by cases hr
  | [_, _, _, _, _, _, _, _], _, hr => by cases hr
  | [_, _, _, _, _, _, _, _, _], _, hr => by cases hr
  | [_, _, _, _, _, _, _, _, _, _], _, hr => by cases hr
  | [_, _, _, _, _, _, _, _, _, _, _], _, hr => by cases hr
  | _ :: _ :: _ :: _ :: _ :: _ :: _ :: _ :: _ :: _ :: _ :: _ :: _ :: _, _, hr => by cases hr
theorem zap12_e {ρ : Type} {e : zRes → Option ρ} {f : Int → Int → Int → Int → Int → Int → Int → Int → Int → Int → Int → Int → zH → Option ρ} {g : Int → Int → Int → Int → Int → Int → Int → Int → Int → Int → Int → Int → zH → Option zRes} (hf : ∀ (x0 x1 x2 x3 x4 x5 x6 x7 x8 x9 x10 x11 : Int) (h : zH), (g x0 x1 x2 x3 x4 x5 x6 x7 x8 x9 x10 x11 h).bind e = f x0 x1 x2 x3 x4 x5 x6 x7 x8 x9 x10 x11 h) : ∀ xs h, (zap12 g xs h).bind e = zap12 f xs h
  | [x0, x1, x2, x3, x4, x5, x6, x7, x8, x9, x10, x11], h => hf x0 x1 x2 x3 x4 x5 x6 x7 x8 x9 x10 x11 h
  | [], _ => rfl
  | [_], _ => rfl
  | [_, _], _ => rfl
  | [_, _, _], _ => rfl
  | [_, _, _, _], _ => rfl
  | [_, _, _, _, _], _ => rfl
  | [_, _, _, _, _, _], _ => rfl
  | [_, _, _, _, _, _, _], _ => rfl
  | [_, _, _, _, _, _, _, _], _ => rfl
  | [_, _, _, _, _, _, _, _, _], _ => rfl
  | [_, _, _, _, _, _, _, _, _, _], _ => rfl
  | [_, _, _, _, _, _, _, _, _, _, _], _ => rfl
  | _ :: _ :: _ :: _ :: _ :: _ :: _ :: _ :: _ :: _ :: _ :: _ :: _ :: _, _ => rfl
