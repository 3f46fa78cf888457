/-! CELLS ONLY GROW -/
def zM (r : zRes) (h : zH) : Prop := zhC h ≤ zhC (zrh r) ∧ zhS h ≤ zhS (zrh r)
def zG (r : zRes) (x : Option zRes) (h : zH) : Prop := x = some r → zM r h
section
variable {r : zRes} {h : zH}
theorem zg_none : zG r none h := fun e => by cases e
theorem zg_if {b : Bool} {x : Option zRes} (k : zG r x h) : zG r (zif b x) h := fun e => by
  cases b with
  | true => exact k e
  | false => cases e
theorem zg_ite {c : Prop} [Decidable c] {x y : Option zRes} (k1 : zG r x h) (k2 : zG r y h) : zG r (if c then x else y) h := fun e => by
  split at e
  · exact k1 e
  · exact k2 e
theorem zg_let {α : Type} {x : α} {k : α → Option zRes} (hk : zG r (k x) h) : zG r (zlet x k) h := hk
theorem zg_ob {c : Nat} {a : Int} {k : Nat → Option zRes} (hk : ∀ p, zG r (k p) h) : zG r (zob h c a k) h := zg_ite (hk _) zg_none
theorem zg_ix {n : Nat} {a : Int} {k : Nat → Option zRes} (hk : ∀ p, zG r (k p) h) : zG r (zix n a k) h := zg_ite (hk _) zg_none
theorem zg_obm {al : Bool} {c : Nat} {a : Int} {k : Nat → Option zRes} (hk : ∀ p, zG r (k p) h) : zG r (zobm al h c a k) h := by
  unfold zobm
  cases al
  · dsimp only
    split
    · split
      · exact hk _
      · exact zg_none
    · exact zg_none
  · exact zg_ob hk
theorem zg_nar {t : Nat} {x : Int} {k : Int → Option zRes} (hk : ∀ p, zG r (k p) h) : zG r (znar t x k) h := by
  unfold znar
  split
  · exact zg_ite (hk _) zg_none
  · exact zg_ite (hk _) zg_none
  · exact hk _
theorem zg_swt {k : Nat → Option zRes} (hk : ∀ p, zG r (k p) h) (d : Nat) (x : Int) : ∀ l : List (Int × Nat), zG r (zswt l d x k) h
  | [] => hk d
  | (a, t) :: l => by
    unfold zswt
    exact zg_ite (hk _) (zg_swt hk d x l)
theorem zg_pop {k : List Int → List zV → Option zRes} (hk : ∀ p q, zG r (k p q) h) : ∀ (ts : List Nat) (st : List zV) (acc : List Int), zG r (zpop ts st acc k) h
  | [], st, acc => hk acc st
  | t :: ts, [], acc => zg_none
  | t :: ts, (t', x) :: st, acc => by
    unfold zpop
    exact zg_ite (zg_pop hk ts st (x :: acc)) zg_none
theorem zg_local {t : Nat} {ls : List (Option zV)} {u : Nat} {k : Int → Option zRes} (hk : ∀ p, zG r (k p) h) : zG r (zlocal t ls u k) h := by
  unfold zlocal
  split
  · exact zg_ite (hk _) zg_none
  · exact zg_none
theorem zg_store {ls : List (Option zV)} {u : Nat} {v : zV} {k : List (Option zV) → Option zRes} (hk : ∀ p, zG r (k p) h) : zG r (zstore ls u v k) h := by
  unfold zstore
  split
  · exact hk _
  · exact zg_none
theorem zg_store2 {ls : List (Option zV)} {u : Nat} {v : zV} {k : List (Option zV) → Option zRes} (hk : ∀ p, zG r (k p) h) : zG r (zstore2 ls u v k) h := by
  unfold zstore2
  split
  · exact hk _
  · exact zg_none
theorem zg_n32 {x : UInt32} {k : Int → Option zRes} (hk : ∀ p, zG r (k p) h) : zG r (zn32 x k) h := zg_ite (hk _) zg_none
theorem zg_n64 {x : UInt64} {k : Int → Option zRes} (hk : ∀ p, zG r (k p) h) : zG r (zn64 x k) h := zg_ite (hk _) zg_none
theorem zg_copy {c : Nat} {a i b j n : Int} {k : zH → Option zRes} (hk : ∀ f, zG r (k (h.1, h.2.1, f, h.2.2.2)) h) : zG r (zcopy c h a i b j n k) h := by
  unfold zcopy
  exact zg_ite (zg_ob fun p => zg_ite (hk _) zg_none) zg_none
theorem zg_stix {t x : Int} {k : Int → Option zRes} (hk : ∀ p, zG r (k p) h) : zG r (zstix t x k) h := hk _
theorem zg_hnd {n : Nat} {k : Nat → Option zRes} (hk : ∀ p, zG r (k p) h) : ∀ l : List (Nat × Nat), zG r (zhnd l n k) h
  | [] => zg_none
  | (a, t) :: l => by
    unfold zhnd
    exact zg_ite (hk _) (zg_hnd hk l)
theorem zg_ret {t : Nat} {v : Int} {st : List zV} {k : List zV → Option zRes} (hk : ∀ p, zG r (k p) h) : zG r (zret t v st k) h := by
  unfold zret
  split
  · exact hk _
  · exact hk _
theorem zg_orn {c : Nat} {a : Int} {k : Option zRes} (hk : zG r k h) : zG r (zorn h c a k) h := zg_ite hk zg_none
theorem zg_set {c p j : Nat} {v : Int} {x : Option zRes} (hk : zG r x (zset h c p j v)) : zG r x h := hk
theorem zg_cp {f : Nat → Nat → Nat → Int} {x : Option zRes} (hk : zG r x (h.1, h.2.1, f, h.2.2.2)) : zG r x h := hk
theorem zg_new {c len n : Nat} {f : Nat → Int} {x : Option zRes} (hk : zG r x (znew h c len n f)) : zG r x h := fun e => ⟨Nat.le_trans (Nat.le_succ _) (hk e).1, Nat.le_trans (Nat.le_add_right _ _) (hk e).2⟩
theorem zg_thr {x : Option zRes} (hk : zG r x (zthrown h)) : zG r x h := fun e => ⟨Nat.le_trans (Nat.le_succ _) (hk e).1, Nat.le_trans (Nat.le_add_right _ _) (hk e).2⟩
end
def zMP (oZ : zO zRes) : Prop := ∀ (r : zRes) (P : zP) (al : Bool) (call : Nat → List Int → zH → (Int → zH → Option zRes) → (Nat → zH → Option zRes) → Option zRes) (I : zI) (kont : Nat → List (Option zV) → List zV → zH → Option zRes) (kr : Int → zH → Option zRes) (kt : Nat → zH → Option zRes),
  (∀ j as h k t, (∀ v h1, zG r (k v h1) h1) → (∀ n h1, zG r (t n h1) h1) → zG r (call j as h k t) h) → (∀ pc ls st h, zG r (kont pc ls st h) h) → (∀ v h, zG r (kr v h) h) → (∀ n h, zG r (kt n h) h) → ∀ pc ls st h, zG r (oZ P al call I kont kr kt pc ls st h) h
theorem zm_zopush (t n : Nat) : zMP (zopush t n) := by
  intro r P al call I kont kr kt hc hk hr ht pc ls st h
  (unfold zopush; (try dsimp only); repeat' with_reducible first | exact zg_none | exact hk _ _ _ _ | exact zg_set (hk _ _ _ _) | exact zg_cp (hk _ _ _ _) | exact zg_new (hk _ _ _ _) | exact hr _ _ | exact zg_thr (ht _ _) | refine zg_if ?_ | refine zg_let ?_ | refine zg_obm fun _ => ?_ | refine zg_ob fun _ => ?_ | refine zg_ix fun _ => ?_ | refine zg_nar fun _ => ?_ | refine zg_swt (fun _ => ?_) _ _ _ | refine zg_local fun _ => ?_ | refine zg_store fun _ => ?_ | refine zg_store2 fun _ => ?_ | refine zg_n32 fun _ => ?_ | refine zg_n64 fun _ => ?_ | refine zg_copy fun _ => ?_ | refine zg_stix fun _ => ?_ | refine zg_orn ?_ | refine zg_ite ?_ ?_)
theorem zm_zonull : zMP (zonull ) := by
  intro r P al call I kont kr kt hc hk hr ht pc ls st h
  (unfold zonull; (try dsimp only); repeat' with_reducible first | exact zg_none | exact hk _ _ _ _ | exact zg_set (hk _ _ _ _) | exact zg_cp (hk _ _ _ _) | exact zg_new (hk _ _ _ _) | exact hr _ _ | exact zg_thr (ht _ _) | refine zg_if ?_ | refine zg_let ?_ | refine zg_obm fun _ => ?_ | refine zg_ob fun _ => ?_ | refine zg_ix fun _ => ?_ | refine zg_nar fun _ => ?_ | refine zg_swt (fun _ => ?_) _ _ _ | refine zg_local fun _ => ?_ | refine zg_store fun _ => ?_ | refine zg_store2 fun _ => ?_ | refine zg_n32 fun _ => ?_ | refine zg_n64 fun _ => ?_ | refine zg_copy fun _ => ?_ | refine zg_stix fun _ => ?_ | refine zg_orn ?_ | refine zg_ite ?_ ?_)
theorem zm_zoload (t n : Nat) : zMP (zoload t n) := by
  intro r P al call I kont kr kt hc hk hr ht pc ls st h
  (unfold zoload; (try dsimp only); repeat' with_reducible first | exact zg_none | exact hk _ _ _ _ | exact zg_set (hk _ _ _ _) | exact zg_cp (hk _ _ _ _) | exact zg_new (hk _ _ _ _) | exact hr _ _ | exact zg_thr (ht _ _) | refine zg_if ?_ | refine zg_let ?_ | refine zg_obm fun _ => ?_ | refine zg_ob fun _ => ?_ | refine zg_ix fun _ => ?_ | refine zg_nar fun _ => ?_ | refine zg_swt (fun _ => ?_) _ _ _ | refine zg_local fun _ => ?_ | refine zg_store fun _ => ?_ | refine zg_store2 fun _ => ?_ | refine zg_n32 fun _ => ?_ | refine zg_n64 fun _ => ?_ | refine zg_copy fun _ => ?_ | refine zg_stix fun _ => ?_ | refine zg_orn ?_ | refine zg_ite ?_ ?_)
theorem zm_zoaload (n : Nat) : zMP (zoaload n) := by
  intro r P al call I kont kr kt hc hk hr ht pc ls st h
  (unfold zoaload; (try dsimp only); repeat' with_reducible first | exact zg_none | exact hk _ _ _ _ | exact zg_set (hk _ _ _ _) | exact zg_cp (hk _ _ _ _) | exact zg_new (hk _ _ _ _) | exact hr _ _ | exact zg_thr (ht _ _) | refine zg_if ?_ | refine zg_let ?_ | refine zg_obm fun _ => ?_ | refine zg_ob fun _ => ?_ | refine zg_ix fun _ => ?_ | refine zg_nar fun _ => ?_ | refine zg_swt (fun _ => ?_) _ _ _ | refine zg_local fun _ => ?_ | refine zg_store fun _ => ?_ | refine zg_store2 fun _ => ?_ | refine zg_n32 fun _ => ?_ | refine zg_n64 fun _ => ?_ | refine zg_copy fun _ => ?_ | refine zg_stix fun _ => ?_ | refine zg_orn ?_ | refine zg_ite ?_ ?_)
theorem zm_zosto (t n : Nat) : zMP (zosto t n) := by
  intro r P al call I kont kr kt hc hk hr ht pc ls st h
  rcases st with _ | ⟨⟨t1, x1⟩, st⟩ <;>
    (unfold zosto; (try dsimp only); repeat' with_reducible first | exact zg_none | exact hk _ _ _ _ | exact zg_set (hk _ _ _ _) | exact zg_cp (hk _ _ _ _) | exact zg_new (hk _ _ _ _) | exact hr _ _ | exact zg_thr (ht _ _) | refine zg_if ?_ | refine zg_let ?_ | refine zg_obm fun _ => ?_ | refine zg_ob fun _ => ?_ | refine zg_ix fun _ => ?_ | refine zg_nar fun _ => ?_ | refine zg_swt (fun _ => ?_) _ _ _ | refine zg_local fun _ => ?_ | refine zg_store fun _ => ?_ | refine zg_store2 fun _ => ?_ | refine zg_n32 fun _ => ?_ | refine zg_n64 fun _ => ?_ | refine zg_copy fun _ => ?_ | refine zg_stix fun _ => ?_ | refine zg_orn ?_ | refine zg_ite ?_ ?_)
theorem zm_zosto2 (t n : Nat) : zMP (zosto2 t n) := by
  intro r P al call I kont kr kt hc hk hr ht pc ls st h
  rcases st with _ | ⟨⟨t1, x1⟩, st⟩ <;>
    (unfold zosto2; (try dsimp only); repeat' with_reducible first | exact zg_none | exact hk _ _ _ _ | exact zg_set (hk _ _ _ _) | exact zg_cp (hk _ _ _ _) | exact zg_new (hk _ _ _ _) | exact hr _ _ | exact zg_thr (ht _ _) | refine zg_if ?_ | refine zg_let ?_ | refine zg_obm fun _ => ?_ | refine zg_ob fun _ => ?_ | refine zg_ix fun _ => ?_ | refine zg_nar fun _ => ?_ | refine zg_swt (fun _ => ?_) _ _ _ | refine zg_local fun _ => ?_ | refine zg_store fun _ => ?_ | refine zg_store2 fun _ => ?_ | refine zg_n32 fun _ => ?_ | refine zg_n64 fun _ => ?_ | refine zg_copy fun _ => ?_ | refine zg_stix fun _ => ?_ | refine zg_orn ?_ | refine zg_ite ?_ ?_)
theorem zm_zoasto (n : Nat) : zMP (zoasto n) := by
  intro r P al call I kont kr kt hc hk hr ht pc ls st h
  rcases st with _ | ⟨⟨t1, x1⟩, st⟩ <;>
    (unfold zoasto; (try dsimp only); repeat' with_reducible first | exact zg_none | exact hk _ _ _ _ | exact zg_set (hk _ _ _ _) | exact zg_cp (hk _ _ _ _) | exact zg_new (hk _ _ _ _) | exact hr _ _ | exact zg_thr (ht _ _) | refine zg_if ?_ | refine zg_let ?_ | refine zg_obm fun _ => ?_ | refine zg_ob fun _ => ?_ | refine zg_ix fun _ => ?_ | refine zg_nar fun _ => ?_ | refine zg_swt (fun _ => ?_) _ _ _ | refine zg_local fun _ => ?_ | refine zg_store fun _ => ?_ | refine zg_store2 fun _ => ?_ | refine zg_n32 fun _ => ?_ | refine zg_n64 fun _ => ?_ | refine zg_copy fun _ => ?_ | refine zg_stix fun _ => ?_ | refine zg_orn ?_ | refine zg_ite ?_ ?_)
theorem zm_zoinc : zMP (zoinc ) := by
  intro r P al call I kont kr kt hc hk hr ht pc ls st h
  (unfold zoinc; (try dsimp only); repeat' with_reducible first | exact zg_none | exact hk _ _ _ _ | exact zg_set (hk _ _ _ _) | exact zg_cp (hk _ _ _ _) | exact zg_new (hk _ _ _ _) | exact hr _ _ | exact zg_thr (ht _ _) | refine zg_if ?_ | refine zg_let ?_ | refine zg_obm fun _ => ?_ | refine zg_ob fun _ => ?_ | refine zg_ix fun _ => ?_ | refine zg_nar fun _ => ?_ | refine zg_swt (fun _ => ?_) _ _ _ | refine zg_local fun _ => ?_ | refine zg_store fun _ => ?_ | refine zg_store2 fun _ => ?_ | refine zg_n32 fun _ => ?_ | refine zg_n64 fun _ => ?_ | refine zg_copy fun _ => ?_ | refine zg_stix fun _ => ?_ | refine zg_orn ?_ | refine zg_ite ?_ ?_)
theorem zm_zobin (t r : Nat) (f : Int → Int → Int) : zMP (zobin t r f) := by
  intro r P al call I kont kr kt hc hk hr ht pc ls st h
  rcases st with _ | ⟨⟨t2, x2⟩, _ | ⟨⟨t1, x1⟩, st⟩⟩ <;>
    (unfold zobin; (try dsimp only); repeat' with_reducible first | exact zg_none | exact hk _ _ _ _ | exact zg_set (hk _ _ _ _) | exact zg_cp (hk _ _ _ _) | exact zg_new (hk _ _ _ _) | exact hr _ _ | exact zg_thr (ht _ _) | refine zg_if ?_ | refine zg_let ?_ | refine zg_obm fun _ => ?_ | refine zg_ob fun _ => ?_ | refine zg_ix fun _ => ?_ | refine zg_nar fun _ => ?_ | refine zg_swt (fun _ => ?_) _ _ _ | refine zg_local fun _ => ?_ | refine zg_store fun _ => ?_ | refine zg_store2 fun _ => ?_ | refine zg_n32 fun _ => ?_ | refine zg_n64 fun _ => ?_ | refine zg_copy fun _ => ?_ | refine zg_stix fun _ => ?_ | refine zg_orn ?_ | refine zg_ite ?_ ?_)
theorem zm_zodiv (f : Int → Int → Int) : zMP (zodiv f) := by
  intro r P al call I kont kr kt hc hk hr ht pc ls st h
  rcases st with _ | ⟨⟨t2, x2⟩, _ | ⟨⟨t1, x1⟩, st⟩⟩ <;>
    (unfold zodiv; (try dsimp only); repeat' with_reducible first | exact zg_none | exact hk _ _ _ _ | exact zg_set (hk _ _ _ _) | exact zg_cp (hk _ _ _ _) | exact zg_new (hk _ _ _ _) | exact hr _ _ | exact zg_thr (ht _ _) | refine zg_if ?_ | refine zg_let ?_ | refine zg_obm fun _ => ?_ | refine zg_ob fun _ => ?_ | refine zg_ix fun _ => ?_ | refine zg_nar fun _ => ?_ | refine zg_swt (fun _ => ?_) _ _ _ | refine zg_local fun _ => ?_ | refine zg_store fun _ => ?_ | refine zg_store2 fun _ => ?_ | refine zg_n32 fun _ => ?_ | refine zg_n64 fun _ => ?_ | refine zg_copy fun _ => ?_ | refine zg_stix fun _ => ?_ | refine zg_orn ?_ | refine zg_ite ?_ ?_)
theorem zm_zoun (t r : Nat) (f : Int → Int) : zMP (zoun t r f) := by
  intro r P al call I kont kr kt hc hk hr ht pc ls st h
  rcases st with _ | ⟨⟨t1, x1⟩, st⟩ <;>
    (unfold zoun; (try dsimp only); repeat' with_reducible first | exact zg_none | exact hk _ _ _ _ | exact zg_set (hk _ _ _ _) | exact zg_cp (hk _ _ _ _) | exact zg_new (hk _ _ _ _) | exact hr _ _ | exact zg_thr (ht _ _) | refine zg_if ?_ | refine zg_let ?_ | refine zg_obm fun _ => ?_ | refine zg_ob fun _ => ?_ | refine zg_ix fun _ => ?_ | refine zg_nar fun _ => ?_ | refine zg_swt (fun _ => ?_) _ _ _ | refine zg_local fun _ => ?_ | refine zg_store fun _ => ?_ | refine zg_store2 fun _ => ?_ | refine zg_n32 fun _ => ?_ | refine zg_n64 fun _ => ?_ | refine zg_copy fun _ => ?_ | refine zg_stix fun _ => ?_ | refine zg_orn ?_ | refine zg_ite ?_ ?_)
theorem zm_zodup : zMP (zodup ) := by
  intro r P al call I kont kr kt hc hk hr ht pc ls st h
  rcases st with _ | ⟨⟨t1, x1⟩, st⟩ <;>
    (unfold zodup; (try dsimp only); repeat' with_reducible first | exact zg_none | exact hk _ _ _ _ | exact zg_set (hk _ _ _ _) | exact zg_cp (hk _ _ _ _) | exact zg_new (hk _ _ _ _) | exact hr _ _ | exact zg_thr (ht _ _) | refine zg_if ?_ | refine zg_let ?_ | refine zg_obm fun _ => ?_ | refine zg_ob fun _ => ?_ | refine zg_ix fun _ => ?_ | refine zg_nar fun _ => ?_ | refine zg_swt (fun _ => ?_) _ _ _ | refine zg_local fun _ => ?_ | refine zg_store fun _ => ?_ | refine zg_store2 fun _ => ?_ | refine zg_n32 fun _ => ?_ | refine zg_n64 fun _ => ?_ | refine zg_copy fun _ => ?_ | refine zg_stix fun _ => ?_ | refine zg_orn ?_ | refine zg_ite ?_ ?_)
theorem zm_zodup2 : zMP (zodup2 ) := by
  intro r P al call I kont kr kt hc hk hr ht pc ls st h
  rcases st with _ | ⟨⟨t2, x2⟩, _ | ⟨⟨t1, x1⟩, st⟩⟩ <;>
    (unfold zodup2; (try dsimp only); repeat' with_reducible first | exact zg_none | exact hk _ _ _ _ | exact zg_set (hk _ _ _ _) | exact zg_cp (hk _ _ _ _) | exact zg_new (hk _ _ _ _) | exact hr _ _ | exact zg_thr (ht _ _) | refine zg_if ?_ | refine zg_let ?_ | refine zg_obm fun _ => ?_ | refine zg_ob fun _ => ?_ | refine zg_ix fun _ => ?_ | refine zg_nar fun _ => ?_ | refine zg_swt (fun _ => ?_) _ _ _ | refine zg_local fun _ => ?_ | refine zg_store fun _ => ?_ | refine zg_store2 fun _ => ?_ | refine zg_n32 fun _ => ?_ | refine zg_n64 fun _ => ?_ | refine zg_copy fun _ => ?_ | refine zg_stix fun _ => ?_ | refine zg_orn ?_ | refine zg_ite ?_ ?_)
theorem zm_zopop : zMP (zopop ) := by
  intro r P al call I kont kr kt hc hk hr ht pc ls st h
  rcases st with _ | ⟨⟨t1, x1⟩, st⟩ <;>
    (unfold zopop; (try dsimp only); repeat' with_reducible first | exact zg_none | exact hk _ _ _ _ | exact zg_set (hk _ _ _ _) | exact zg_cp (hk _ _ _ _) | exact zg_new (hk _ _ _ _) | exact hr _ _ | exact zg_thr (ht _ _) | refine zg_if ?_ | refine zg_let ?_ | refine zg_obm fun _ => ?_ | refine zg_ob fun _ => ?_ | refine zg_ix fun _ => ?_ | refine zg_nar fun _ => ?_ | refine zg_swt (fun _ => ?_) _ _ _ | refine zg_local fun _ => ?_ | refine zg_store fun _ => ?_ | refine zg_store2 fun _ => ?_ | refine zg_n32 fun _ => ?_ | refine zg_n64 fun _ => ?_ | refine zg_copy fun _ => ?_ | refine zg_stix fun _ => ?_ | refine zg_orn ?_ | refine zg_ite ?_ ?_)
theorem zm_zoif (k : Nat) (s : Bool) : zMP (zoif k s) := by
  intro r P al call I kont kr kt hc hk hr ht pc ls st h
  rcases st with _ | ⟨⟨t1, x1⟩, st⟩ <;>
    (unfold zoif; (try dsimp only); (try (refine zg_if ?_)); (try split); repeat' with_reducible first | exact zg_none | exact hk _ _ _ _ | exact zg_set (hk _ _ _ _) | exact zg_cp (hk _ _ _ _) | exact zg_new (hk _ _ _ _) | exact hr _ _ | exact zg_thr (ht _ _) | refine zg_if ?_ | refine zg_let ?_ | refine zg_obm fun _ => ?_ | refine zg_ob fun _ => ?_ | refine zg_ix fun _ => ?_ | refine zg_nar fun _ => ?_ | refine zg_swt (fun _ => ?_) _ _ _ | refine zg_local fun _ => ?_ | refine zg_store fun _ => ?_ | refine zg_store2 fun _ => ?_ | refine zg_n32 fun _ => ?_ | refine zg_n64 fun _ => ?_ | refine zg_copy fun _ => ?_ | refine zg_stix fun _ => ?_ | refine zg_orn ?_ | refine zg_ite ?_ ?_)
theorem zm_zoicmp (k : Nat) (s : Bool) : zMP (zoicmp k s) := by
  intro r P al call I kont kr kt hc hk hr ht pc ls st h
  rcases st with _ | ⟨⟨t2, x2⟩, _ | ⟨⟨t1, x1⟩, st⟩⟩ <;>
    (unfold zoicmp; (try dsimp only); (try (refine zg_if ?_)); (try split); repeat' with_reducible first | exact zg_none | exact hk _ _ _ _ | exact zg_set (hk _ _ _ _) | exact zg_cp (hk _ _ _ _) | exact zg_new (hk _ _ _ _) | exact hr _ _ | exact zg_thr (ht _ _) | refine zg_if ?_ | refine zg_let ?_ | refine zg_obm fun _ => ?_ | refine zg_ob fun _ => ?_ | refine zg_ix fun _ => ?_ | refine zg_nar fun _ => ?_ | refine zg_swt (fun _ => ?_) _ _ _ | refine zg_local fun _ => ?_ | refine zg_store fun _ => ?_ | refine zg_store2 fun _ => ?_ | refine zg_n32 fun _ => ?_ | refine zg_n64 fun _ => ?_ | refine zg_copy fun _ => ?_ | refine zg_stix fun _ => ?_ | refine zg_orn ?_ | refine zg_ite ?_ ?_)
theorem zm_zogoto : zMP (zogoto ) := by
  intro r P al call I kont kr kt hc hk hr ht pc ls st h
  (unfold zogoto; (try dsimp only); repeat' with_reducible first | exact zg_none | exact hk _ _ _ _ | exact zg_set (hk _ _ _ _) | exact zg_cp (hk _ _ _ _) | exact zg_new (hk _ _ _ _) | exact hr _ _ | exact zg_thr (ht _ _) | refine zg_if ?_ | refine zg_let ?_ | refine zg_obm fun _ => ?_ | refine zg_ob fun _ => ?_ | refine zg_ix fun _ => ?_ | refine zg_nar fun _ => ?_ | refine zg_swt (fun _ => ?_) _ _ _ | refine zg_local fun _ => ?_ | refine zg_store fun _ => ?_ | refine zg_store2 fun _ => ?_ | refine zg_n32 fun _ => ?_ | refine zg_n64 fun _ => ?_ | refine zg_copy fun _ => ?_ | refine zg_stix fun _ => ?_ | refine zg_orn ?_ | refine zg_ite ?_ ?_)
theorem zm_zoifnull (s : Bool) : zMP (zoifnull s) := by
  intro r P al call I kont kr kt hc hk hr ht pc ls st h
  rcases st with _ | ⟨⟨t1, x1⟩, st⟩ <;>
    (cases s <;> (unfold zoifnull; (try dsimp only); repeat' with_reducible first | exact zg_none | exact hk _ _ _ _ | exact zg_set (hk _ _ _ _) | exact zg_cp (hk _ _ _ _) | exact zg_new (hk _ _ _ _) | exact hr _ _ | exact zg_thr (ht _ _) | refine zg_if ?_ | refine zg_let ?_ | refine zg_obm fun _ => ?_ | refine zg_ob fun _ => ?_ | refine zg_ix fun _ => ?_ | refine zg_nar fun _ => ?_ | refine zg_swt (fun _ => ?_) _ _ _ | refine zg_local fun _ => ?_ | refine zg_store fun _ => ?_ | refine zg_store2 fun _ => ?_ | refine zg_n32 fun _ => ?_ | refine zg_n64 fun _ => ?_ | refine zg_copy fun _ => ?_ | refine zg_stix fun _ => ?_ | refine zg_orn ?_ | refine zg_ite ?_ ?_))
theorem zm_zoacmp (s : Bool) : zMP (zoacmp s) := by
  intro r P al call I kont kr kt hc hk hr ht pc ls st h
  rcases st with _ | ⟨⟨t2, x2⟩, _ | ⟨⟨t1, x1⟩, st⟩⟩ <;>
    (cases s <;> (unfold zoacmp; (try dsimp only); repeat' with_reducible first | exact zg_none | exact hk _ _ _ _ | exact zg_set (hk _ _ _ _) | exact zg_cp (hk _ _ _ _) | exact zg_new (hk _ _ _ _) | exact hr _ _ | exact zg_thr (ht _ _) | refine zg_if ?_ | refine zg_let ?_ | refine zg_obm fun _ => ?_ | refine zg_ob fun _ => ?_ | refine zg_ix fun _ => ?_ | refine zg_nar fun _ => ?_ | refine zg_swt (fun _ => ?_) _ _ _ | refine zg_local fun _ => ?_ | refine zg_store fun _ => ?_ | refine zg_store2 fun _ => ?_ | refine zg_n32 fun _ => ?_ | refine zg_n64 fun _ => ?_ | refine zg_copy fun _ => ?_ | refine zg_stix fun _ => ?_ | refine zg_orn ?_ | refine zg_ite ?_ ?_))
theorem zm_zoswt : zMP (zoswt ) := by
  intro r P al call I kont kr kt hc hk hr ht pc ls st h
  rcases st with _ | ⟨⟨t1, x1⟩, st⟩ <;>
    (unfold zoswt; (try dsimp only); repeat' with_reducible first | exact zg_none | exact hk _ _ _ _ | exact zg_set (hk _ _ _ _) | exact zg_cp (hk _ _ _ _) | exact zg_new (hk _ _ _ _) | exact hr _ _ | exact zg_thr (ht _ _) | refine zg_if ?_ | refine zg_let ?_ | refine zg_obm fun _ => ?_ | refine zg_ob fun _ => ?_ | refine zg_ix fun _ => ?_ | refine zg_nar fun _ => ?_ | refine zg_swt (fun _ => ?_) _ _ _ | refine zg_local fun _ => ?_ | refine zg_store fun _ => ?_ | refine zg_store2 fun _ => ?_ | refine zg_n32 fun _ => ?_ | refine zg_n64 fun _ => ?_ | refine zg_copy fun _ => ?_ | refine zg_stix fun _ => ?_ | refine zg_orn ?_ | refine zg_ite ?_ ?_)
theorem zm_zogetf : zMP (zogetf ) := by
  intro r P al call I kont kr kt hc hk hr ht pc ls st h
  rcases st with _ | ⟨⟨t1, x1⟩, st⟩ <;>
    (unfold zogetf; (try dsimp only); repeat' with_reducible first | exact zg_none | exact hk _ _ _ _ | exact zg_set (hk _ _ _ _) | exact zg_cp (hk _ _ _ _) | exact zg_new (hk _ _ _ _) | exact hr _ _ | exact zg_thr (ht _ _) | refine zg_if ?_ | refine zg_let ?_ | refine zg_obm fun _ => ?_ | refine zg_ob fun _ => ?_ | refine zg_ix fun _ => ?_ | refine zg_nar fun _ => ?_ | refine zg_swt (fun _ => ?_) _ _ _ | refine zg_local fun _ => ?_ | refine zg_store fun _ => ?_ | refine zg_store2 fun _ => ?_ | refine zg_n32 fun _ => ?_ | refine zg_n64 fun _ => ?_ | refine zg_copy fun _ => ?_ | refine zg_stix fun _ => ?_ | refine zg_orn ?_ | refine zg_ite ?_ ?_)
theorem zm_zoputf : zMP (zoputf ) := by
  intro r P al call I kont kr kt hc hk hr ht pc ls st h
  rcases st with _ | ⟨⟨t2, x2⟩, _ | ⟨⟨t1, x1⟩, st⟩⟩ <;>
    (unfold zoputf; (try dsimp only); repeat' with_reducible first | exact zg_none | exact hk _ _ _ _ | exact zg_set (hk _ _ _ _) | exact zg_cp (hk _ _ _ _) | exact zg_new (hk _ _ _ _) | exact hr _ _ | exact zg_thr (ht _ _) | refine zg_if ?_ | refine zg_let ?_ | refine zg_obm fun _ => ?_ | refine zg_ob fun _ => ?_ | refine zg_ix fun _ => ?_ | refine zg_nar fun _ => ?_ | refine zg_swt (fun _ => ?_) _ _ _ | refine zg_local fun _ => ?_ | refine zg_store fun _ => ?_ | refine zg_store2 fun _ => ?_ | refine zg_n32 fun _ => ?_ | refine zg_n64 fun _ => ?_ | refine zg_copy fun _ => ?_ | refine zg_stix fun _ => ?_ | refine zg_orn ?_ | refine zg_ite ?_ ?_)
theorem zm_zoald (e r : Nat) : zMP (zoald e r) := by
  intro r P al call I kont kr kt hc hk hr ht pc ls st h
  rcases st with _ | ⟨⟨t2, x2⟩, _ | ⟨⟨t1, x1⟩, st⟩⟩ <;>
    (unfold zoald; (try dsimp only); repeat' with_reducible first | exact zg_none | exact hk _ _ _ _ | exact zg_set (hk _ _ _ _) | exact zg_cp (hk _ _ _ _) | exact zg_new (hk _ _ _ _) | exact hr _ _ | exact zg_thr (ht _ _) | refine zg_if ?_ | refine zg_let ?_ | refine zg_obm fun _ => ?_ | refine zg_ob fun _ => ?_ | refine zg_ix fun _ => ?_ | refine zg_nar fun _ => ?_ | refine zg_swt (fun _ => ?_) _ _ _ | refine zg_local fun _ => ?_ | refine zg_store fun _ => ?_ | refine zg_store2 fun _ => ?_ | refine zg_n32 fun _ => ?_ | refine zg_n64 fun _ => ?_ | refine zg_copy fun _ => ?_ | refine zg_stix fun _ => ?_ | refine zg_orn ?_ | refine zg_ite ?_ ?_)
theorem zm_zoaald : zMP (zoaald ) := by
  intro r P al call I kont kr kt hc hk hr ht pc ls st h
  rcases st with _ | ⟨⟨t2, x2⟩, _ | ⟨⟨t1, x1⟩, st⟩⟩ <;>
    (unfold zoaald; (try dsimp only); repeat' with_reducible first | exact zg_none | exact hk _ _ _ _ | exact zg_set (hk _ _ _ _) | exact zg_cp (hk _ _ _ _) | exact zg_new (hk _ _ _ _) | exact hr _ _ | exact zg_thr (ht _ _) | refine zg_if ?_ | refine zg_let ?_ | refine zg_obm fun _ => ?_ | refine zg_ob fun _ => ?_ | refine zg_ix fun _ => ?_ | refine zg_nar fun _ => ?_ | refine zg_swt (fun _ => ?_) _ _ _ | refine zg_local fun _ => ?_ | refine zg_store fun _ => ?_ | refine zg_store2 fun _ => ?_ | refine zg_n32 fun _ => ?_ | refine zg_n64 fun _ => ?_ | refine zg_copy fun _ => ?_ | refine zg_stix fun _ => ?_ | refine zg_orn ?_ | refine zg_ite ?_ ?_)
theorem zm_zosld : zMP (zosld ) := by
  intro r P al call I kont kr kt hc hk hr ht pc ls st h
  rcases st with _ | ⟨⟨t2, x2⟩, _ | ⟨⟨t1, x1⟩, st⟩⟩ <;>
    (unfold zosld; (try dsimp only); repeat' with_reducible first | exact zg_none | exact hk _ _ _ _ | exact zg_set (hk _ _ _ _) | exact zg_cp (hk _ _ _ _) | exact zg_new (hk _ _ _ _) | exact hr _ _ | exact zg_thr (ht _ _) | refine zg_if ?_ | refine zg_let ?_ | refine zg_obm fun _ => ?_ | refine zg_ob fun _ => ?_ | refine zg_ix fun _ => ?_ | refine zg_nar fun _ => ?_ | refine zg_swt (fun _ => ?_) _ _ _ | refine zg_local fun _ => ?_ | refine zg_store fun _ => ?_ | refine zg_store2 fun _ => ?_ | refine zg_n32 fun _ => ?_ | refine zg_n64 fun _ => ?_ | refine zg_copy fun _ => ?_ | refine zg_stix fun _ => ?_ | refine zg_orn ?_ | refine zg_ite ?_ ?_)
theorem zm_zoslen : zMP (zoslen ) := by
  intro r P al call I kont kr kt hc hk hr ht pc ls st h
  rcases st with _ | ⟨⟨t1, x1⟩, st⟩ <;>
    (unfold zoslen; (try dsimp only); repeat' with_reducible first | exact zg_none | exact hk _ _ _ _ | exact zg_set (hk _ _ _ _) | exact zg_cp (hk _ _ _ _) | exact zg_new (hk _ _ _ _) | exact hr _ _ | exact zg_thr (ht _ _) | refine zg_if ?_ | refine zg_let ?_ | refine zg_obm fun _ => ?_ | refine zg_ob fun _ => ?_ | refine zg_ix fun _ => ?_ | refine zg_nar fun _ => ?_ | refine zg_swt (fun _ => ?_) _ _ _ | refine zg_local fun _ => ?_ | refine zg_store fun _ => ?_ | refine zg_store2 fun _ => ?_ | refine zg_n32 fun _ => ?_ | refine zg_n64 fun _ => ?_ | refine zg_copy fun _ => ?_ | refine zg_stix fun _ => ?_ | refine zg_orn ?_ | refine zg_ite ?_ ?_)
theorem zm_zoast (e r : Nat) : zMP (zoast e r) := by
  intro r P al call I kont kr kt hc hk hr ht pc ls st h
  rcases st with _ | ⟨⟨t3, x3⟩, _ | ⟨⟨t2, x2⟩, _ | ⟨⟨t1, x1⟩, st⟩⟩⟩ <;>
    (unfold zoast; (try dsimp only); repeat' with_reducible first | exact zg_none | exact hk _ _ _ _ | exact zg_set (hk _ _ _ _) | exact zg_cp (hk _ _ _ _) | exact zg_new (hk _ _ _ _) | exact hr _ _ | exact zg_thr (ht _ _) | refine zg_if ?_ | refine zg_let ?_ | refine zg_obm fun _ => ?_ | refine zg_ob fun _ => ?_ | refine zg_ix fun _ => ?_ | refine zg_nar fun _ => ?_ | refine zg_swt (fun _ => ?_) _ _ _ | refine zg_local fun _ => ?_ | refine zg_store fun _ => ?_ | refine zg_store2 fun _ => ?_ | refine zg_n32 fun _ => ?_ | refine zg_n64 fun _ => ?_ | refine zg_copy fun _ => ?_ | refine zg_stix fun _ => ?_ | refine zg_orn ?_ | refine zg_ite ?_ ?_)
theorem zm_zoaast : zMP (zoaast ) := by
  intro r P al call I kont kr kt hc hk hr ht pc ls st h
  rcases st with _ | ⟨⟨t3, x3⟩, _ | ⟨⟨t2, x2⟩, _ | ⟨⟨t1, x1⟩, st⟩⟩⟩ <;>
    (unfold zoaast; (try dsimp only); repeat' with_reducible first | exact zg_none | exact hk _ _ _ _ | exact zg_set (hk _ _ _ _) | exact zg_cp (hk _ _ _ _) | exact zg_new (hk _ _ _ _) | exact hr _ _ | exact zg_thr (ht _ _) | refine zg_if ?_ | refine zg_let ?_ | refine zg_obm fun _ => ?_ | refine zg_ob fun _ => ?_ | refine zg_ix fun _ => ?_ | refine zg_nar fun _ => ?_ | refine zg_swt (fun _ => ?_) _ _ _ | refine zg_local fun _ => ?_ | refine zg_store fun _ => ?_ | refine zg_store2 fun _ => ?_ | refine zg_n32 fun _ => ?_ | refine zg_n64 fun _ => ?_ | refine zg_copy fun _ => ?_ | refine zg_stix fun _ => ?_ | refine zg_orn ?_ | refine zg_ite ?_ ?_)
theorem zm_zoalen : zMP (zoalen ) := by
  intro r P al call I kont kr kt hc hk hr ht pc ls st h
  rcases st with _ | ⟨⟨t1, x1⟩, st⟩ <;>
    (unfold zoalen; (try dsimp only); repeat' with_reducible first | exact zg_none | exact hk _ _ _ _ | exact zg_set (hk _ _ _ _) | exact zg_cp (hk _ _ _ _) | exact zg_new (hk _ _ _ _) | exact hr _ _ | exact zg_thr (ht _ _) | refine zg_if ?_ | refine zg_let ?_ | refine zg_obm fun _ => ?_ | refine zg_ob fun _ => ?_ | refine zg_ix fun _ => ?_ | refine zg_nar fun _ => ?_ | refine zg_swt (fun _ => ?_) _ _ _ | refine zg_local fun _ => ?_ | refine zg_store fun _ => ?_ | refine zg_store2 fun _ => ?_ | refine zg_n32 fun _ => ?_ | refine zg_n64 fun _ => ?_ | refine zg_copy fun _ => ?_ | refine zg_stix fun _ => ?_ | refine zg_orn ?_ | refine zg_ite ?_ ?_)
theorem zm_zonewa : zMP (zonewa ) := by
  intro r P al call I kont kr kt hc hk hr ht pc ls st h
  rcases st with _ | ⟨⟨t1, x1⟩, st⟩ <;>
    (unfold zonewa; (try dsimp only); repeat' with_reducible first | exact zg_none | exact hk _ _ _ _ | exact zg_set (hk _ _ _ _) | exact zg_cp (hk _ _ _ _) | exact zg_new (hk _ _ _ _) | exact hr _ _ | exact zg_thr (ht _ _) | refine zg_if ?_ | refine zg_let ?_ | refine zg_obm fun _ => ?_ | refine zg_ob fun _ => ?_ | refine zg_ix fun _ => ?_ | refine zg_nar fun _ => ?_ | refine zg_swt (fun _ => ?_) _ _ _ | refine zg_local fun _ => ?_ | refine zg_store fun _ => ?_ | refine zg_store2 fun _ => ?_ | refine zg_n32 fun _ => ?_ | refine zg_n64 fun _ => ?_ | refine zg_copy fun _ => ?_ | refine zg_stix fun _ => ?_ | refine zg_orn ?_ | refine zg_ite ?_ ?_)
theorem zm_zoanew : zMP (zoanew ) := by
  intro r P al call I kont kr kt hc hk hr ht pc ls st h
  rcases st with _ | ⟨⟨t1, x1⟩, st⟩ <;>
    (unfold zoanew; (try dsimp only); repeat' with_reducible first | exact zg_none | exact hk _ _ _ _ | exact zg_set (hk _ _ _ _) | exact zg_cp (hk _ _ _ _) | exact zg_new (hk _ _ _ _) | exact hr _ _ | exact zg_thr (ht _ _) | refine zg_if ?_ | refine zg_let ?_ | refine zg_obm fun _ => ?_ | refine zg_ob fun _ => ?_ | refine zg_ix fun _ => ?_ | refine zg_nar fun _ => ?_ | refine zg_swt (fun _ => ?_) _ _ _ | refine zg_local fun _ => ?_ | refine zg_store fun _ => ?_ | refine zg_store2 fun _ => ?_ | refine zg_n32 fun _ => ?_ | refine zg_n64 fun _ => ?_ | refine zg_copy fun _ => ?_ | refine zg_stix fun _ => ?_ | refine zg_orn ?_ | refine zg_ite ?_ ?_)
theorem zm_zonew : zMP (zonew ) := by
  intro r P al call I kont kr kt hc hk hr ht pc ls st h
  (unfold zonew; (try dsimp only); repeat' with_reducible first | exact zg_none | exact hk _ _ _ _ | exact zg_set (hk _ _ _ _) | exact zg_cp (hk _ _ _ _) | exact zg_new (hk _ _ _ _) | exact hr _ _ | exact zg_thr (ht _ _) | refine zg_if ?_ | refine zg_let ?_ | refine zg_obm fun _ => ?_ | refine zg_ob fun _ => ?_ | refine zg_ix fun _ => ?_ | refine zg_nar fun _ => ?_ | refine zg_swt (fun _ => ?_) _ _ _ | refine zg_local fun _ => ?_ | refine zg_store fun _ => ?_ | refine zg_store2 fun _ => ?_ | refine zg_n32 fun _ => ?_ | refine zg_n64 fun _ => ?_ | refine zg_copy fun _ => ?_ | refine zg_stix fun _ => ?_ | refine zg_orn ?_ | refine zg_ite ?_ ?_)
theorem zm_zocallv : zMP (zocallv ) := by
  intro r P al call I kont kr kt hc hk hr ht pc ls st h
  refine zg_pop (fun as st => zg_if ?_) _ _ _
  cases as with
  | nil => exact zg_none
  | cons a as => exact zg_obm fun _ => hc _ _ _ _ _ (fun v h1 => zg_ret fun st => hk _ _ _ _) (fun n h1 => ht n h1)
theorem zm_zocallh : zMP (zocallh ) := by
  intro r P al call I kont kr kt hc hk hr ht pc ls st h
  refine zg_pop (fun as st => zg_if ?_) _ _ _
  cases as with
  | nil => exact zg_none
  | cons a as => exact zg_obm fun _ => hc _ _ _ _ _ (fun v h1 => zg_ret fun st => hk _ _ _ _) (fun n h1 => zg_hnd (fun t => hk _ _ _ _) _)
theorem zm_zocalls : zMP (zocalls ) := by
  intro r P al call I kont kr kt hc hk hr ht pc ls st h
  exact zg_pop (fun as st => zg_if (hc _ _ _ _ _ (fun v h1 => zg_ret fun st => hk _ _ _ _) (fun n h1 => ht n h1))) _ _ _
theorem zm_zocalli : zMP (zocalli ) := by
  intro r P al call I kont kr kt hc hk hr ht pc ls st h
  refine zg_pop (fun as st => zg_if ?_) _ _ _
  cases as with
  | nil => exact zg_none
  | cons a as => exact zg_obm fun _ => hc _ _ _ _ _ (fun v h1 => hk _ _ _ _) (fun n h1 => ht n h1)
theorem zm_zoobj : zMP (zoobj ) := by
  intro r P al call I kont kr kt hc hk hr ht pc ls st h
  rcases st with _ | ⟨⟨t1, x1⟩, st⟩ <;>
    (unfold zoobj; (try dsimp only); repeat' with_reducible first | exact zg_none | exact hk _ _ _ _ | exact zg_set (hk _ _ _ _) | exact zg_cp (hk _ _ _ _) | exact zg_new (hk _ _ _ _) | exact hr _ _ | exact zg_thr (ht _ _) | refine zg_if ?_ | refine zg_let ?_ | refine zg_obm fun _ => ?_ | refine zg_ob fun _ => ?_ | refine zg_ix fun _ => ?_ | refine zg_nar fun _ => ?_ | refine zg_swt (fun _ => ?_) _ _ _ | refine zg_local fun _ => ?_ | refine zg_store fun _ => ?_ | refine zg_store2 fun _ => ?_ | refine zg_n32 fun _ => ?_ | refine zg_n64 fun _ => ?_ | refine zg_copy fun _ => ?_ | refine zg_stix fun _ => ?_ | refine zg_orn ?_ | refine zg_ite ?_ ?_)
theorem zm_zocopy : zMP (zocopy ) := by
  intro r P al call I kont kr kt hc hk hr ht pc ls st h
  rcases st with _ | ⟨⟨t5, x5⟩, _ | ⟨⟨t4, x4⟩, _ | ⟨⟨t3, x3⟩, _ | ⟨⟨t2, x2⟩, _ | ⟨⟨t1, x1⟩, st⟩⟩⟩⟩⟩ <;>
    (unfold zocopy; (try dsimp only); repeat' with_reducible first | exact zg_none | exact hk _ _ _ _ | exact zg_set (hk _ _ _ _) | exact zg_cp (hk _ _ _ _) | exact zg_new (hk _ _ _ _) | exact hr _ _ | exact zg_thr (ht _ _) | refine zg_if ?_ | refine zg_let ?_ | refine zg_obm fun _ => ?_ | refine zg_ob fun _ => ?_ | refine zg_ix fun _ => ?_ | refine zg_nar fun _ => ?_ | refine zg_swt (fun _ => ?_) _ _ _ | refine zg_local fun _ => ?_ | refine zg_store fun _ => ?_ | refine zg_store2 fun _ => ?_ | refine zg_n32 fun _ => ?_ | refine zg_n64 fun _ => ?_ | refine zg_copy fun _ => ?_ | refine zg_stix fun _ => ?_ | refine zg_orn ?_ | refine zg_ite ?_ ?_)
theorem zm_zostix : zMP (zostix ) := by
  intro r P al call I kont kr kt hc hk hr ht pc ls st h
  rcases st with _ | ⟨⟨t2, x2⟩, _ | ⟨⟨t1, x1⟩, st⟩⟩ <;>
    (unfold zostix; (try dsimp only); repeat' with_reducible first | exact zg_none | exact hk _ _ _ _ | exact zg_set (hk _ _ _ _) | exact zg_cp (hk _ _ _ _) | exact zg_new (hk _ _ _ _) | exact hr _ _ | exact zg_thr (ht _ _) | refine zg_if ?_ | refine zg_let ?_ | refine zg_obm fun _ => ?_ | refine zg_ob fun _ => ?_ | refine zg_ix fun _ => ?_ | refine zg_nar fun _ => ?_ | refine zg_swt (fun _ => ?_) _ _ _ | refine zg_local fun _ => ?_ | refine zg_store fun _ => ?_ | refine zg_store2 fun _ => ?_ | refine zg_n32 fun _ => ?_ | refine zg_n64 fun _ => ?_ | refine zg_copy fun _ => ?_ | refine zg_stix fun _ => ?_ | refine zg_orn ?_ | refine zg_ite ?_ ?_)
theorem zm_zoret (t : Nat) : zMP (zoret t) := by
  intro r P al call I kont kr kt hc hk hr ht pc ls st h
  rcases st with _ | ⟨⟨t2, x2⟩, _ | ⟨⟨t1, x1⟩, st⟩⟩ <;>
    (unfold zoret; (try dsimp only); repeat' with_reducible first | exact zg_none | exact hk _ _ _ _ | exact zg_set (hk _ _ _ _) | exact zg_cp (hk _ _ _ _) | exact zg_new (hk _ _ _ _) | exact hr _ _ | exact zg_thr (ht _ _) | refine zg_if ?_ | refine zg_let ?_ | refine zg_obm fun _ => ?_ | refine zg_ob fun _ => ?_ | refine zg_ix fun _ => ?_ | refine zg_nar fun _ => ?_ | refine zg_swt (fun _ => ?_) _ _ _ | refine zg_local fun _ => ?_ | refine zg_store fun _ => ?_ | refine zg_store2 fun _ => ?_ | refine zg_n32 fun _ => ?_ | refine zg_n64 fun _ => ?_ | refine zg_copy fun _ => ?_ | refine zg_stix fun _ => ?_ | refine zg_orn ?_ | refine zg_ite ?_ ?_)
theorem zm_zoaret : zMP (zoaret ) := by
  intro r P al call I kont kr kt hc hk hr ht pc ls st h
  rcases st with _ | ⟨⟨t2, x2⟩, _ | ⟨⟨t1, x1⟩, st⟩⟩ <;>
    (unfold zoaret; (try dsimp only); repeat' with_reducible first | exact zg_none | exact hk _ _ _ _ | exact zg_set (hk _ _ _ _) | exact zg_cp (hk _ _ _ _) | exact zg_new (hk _ _ _ _) | exact hr _ _ | exact zg_thr (ht _ _) | refine zg_if ?_ | refine zg_let ?_ | refine zg_obm fun _ => ?_ | refine zg_ob fun _ => ?_ | refine zg_ix fun _ => ?_ | refine zg_nar fun _ => ?_ | refine zg_swt (fun _ => ?_) _ _ _ | refine zg_local fun _ => ?_ | refine zg_store fun _ => ?_ | refine zg_store2 fun _ => ?_ | refine zg_n32 fun _ => ?_ | refine zg_n64 fun _ => ?_ | refine zg_copy fun _ => ?_ | refine zg_stix fun _ => ?_ | refine zg_orn ?_ | refine zg_ite ?_ ?_)
theorem zm_zovret : zMP (zovret ) := by
  intro r P al call I kont kr kt hc hk hr ht pc ls st h
  rcases st with _ | ⟨⟨t1, x1⟩, st⟩ <;>
    (unfold zovret; (try dsimp only); repeat' with_reducible first | exact zg_none | exact hk _ _ _ _ | exact zg_set (hk _ _ _ _) | exact zg_cp (hk _ _ _ _) | exact zg_new (hk _ _ _ _) | exact hr _ _ | exact zg_thr (ht _ _) | refine zg_if ?_ | refine zg_let ?_ | refine zg_obm fun _ => ?_ | refine zg_ob fun _ => ?_ | refine zg_ix fun _ => ?_ | refine zg_nar fun _ => ?_ | refine zg_swt (fun _ => ?_) _ _ _ | refine zg_local fun _ => ?_ | refine zg_store fun _ => ?_ | refine zg_store2 fun _ => ?_ | refine zg_n32 fun _ => ?_ | refine zg_n64 fun _ => ?_ | refine zg_copy fun _ => ?_ | refine zg_stix fun _ => ?_ | refine zg_orn ?_ | refine zg_ite ?_ ?_)
theorem zm_zothr : zMP (zothr ) := by
  intro r P al call I kont kr kt hc hk hr ht pc ls st h
  rcases st with _ | ⟨⟨t1, x1⟩, st⟩ <;>
    (unfold zothr; (try dsimp only); repeat' with_reducible first | exact zg_none | exact hk _ _ _ _ | exact zg_set (hk _ _ _ _) | exact zg_cp (hk _ _ _ _) | exact zg_new (hk _ _ _ _) | exact hr _ _ | exact zg_thr (ht _ _) | refine zg_if ?_ | refine zg_let ?_ | refine zg_obm fun _ => ?_ | refine zg_ob fun _ => ?_ | refine zg_ix fun _ => ?_ | refine zg_nar fun _ => ?_ | refine zg_swt (fun _ => ?_) _ _ _ | refine zg_local fun _ => ?_ | refine zg_store fun _ => ?_ | refine zg_store2 fun _ => ?_ | refine zg_n32 fun _ => ?_ | refine zg_n64 fun _ => ?_ | refine zg_copy fun _ => ?_ | refine zg_stix fun _ => ?_ | refine zg_orn ?_ | refine zg_ite ?_ ?_)
theorem zm_zofdiv : zMP (zofdiv ) := by
  intro r P al call I kont kr kt hc hk hr ht pc ls st h
  rcases st with _ | ⟨⟨t2, x2⟩, _ | ⟨⟨t1, x1⟩, st⟩⟩ <;>
    (unfold zofdiv; (try dsimp only); repeat' with_reducible first | exact zg_none | exact hk _ _ _ _ | exact zg_set (hk _ _ _ _) | exact zg_cp (hk _ _ _ _) | exact zg_new (hk _ _ _ _) | exact hr _ _ | exact zg_thr (ht _ _) | refine zg_if ?_ | refine zg_let ?_ | refine zg_obm fun _ => ?_ | refine zg_ob fun _ => ?_ | refine zg_ix fun _ => ?_ | refine zg_nar fun _ => ?_ | refine zg_swt (fun _ => ?_) _ _ _ | refine zg_local fun _ => ?_ | refine zg_store fun _ => ?_ | refine zg_store2 fun _ => ?_ | refine zg_n32 fun _ => ?_ | refine zg_n64 fun _ => ?_ | refine zg_copy fun _ => ?_ | refine zg_stix fun _ => ?_ | refine zg_orn ?_ | refine zg_ite ?_ ?_)
theorem zm_zoddiv : zMP (zoddiv ) := by
  intro r P al call I kont kr kt hc hk hr ht pc ls st h
  rcases st with _ | ⟨⟨t2, x2⟩, _ | ⟨⟨t1, x1⟩, st⟩⟩ <;>
    (unfold zoddiv; (try dsimp only); repeat' with_reducible first | exact zg_none | exact hk _ _ _ _ | exact zg_set (hk _ _ _ _) | exact zg_cp (hk _ _ _ _) | exact zg_new (hk _ _ _ _) | exact hr _ _ | exact zg_thr (ht _ _) | refine zg_if ?_ | refine zg_let ?_ | refine zg_obm fun _ => ?_ | refine zg_ob fun _ => ?_ | refine zg_ix fun _ => ?_ | refine zg_nar fun _ => ?_ | refine zg_swt (fun _ => ?_) _ _ _ | refine zg_local fun _ => ?_ | refine zg_store fun _ => ?_ | refine zg_store2 fun _ => ?_ | refine zg_n32 fun _ => ?_ | refine zg_n64 fun _ => ?_ | refine zg_copy fun _ => ?_ | refine zg_stix fun _ => ?_ | refine zg_orn ?_ | refine zg_ite ?_ ?_)
theorem zm_zof2d : zMP (zof2d ) := by
  intro r P al call I kont kr kt hc hk hr ht pc ls st h
  rcases st with _ | ⟨⟨t1, x1⟩, st⟩ <;>
    (unfold zof2d; (try dsimp only); repeat' with_reducible first | exact zg_none | exact hk _ _ _ _ | exact zg_set (hk _ _ _ _) | exact zg_cp (hk _ _ _ _) | exact zg_new (hk _ _ _ _) | exact hr _ _ | exact zg_thr (ht _ _) | refine zg_if ?_ | refine zg_let ?_ | refine zg_obm fun _ => ?_ | refine zg_ob fun _ => ?_ | refine zg_ix fun _ => ?_ | refine zg_nar fun _ => ?_ | refine zg_swt (fun _ => ?_) _ _ _ | refine zg_local fun _ => ?_ | refine zg_store fun _ => ?_ | refine zg_store2 fun _ => ?_ | refine zg_n32 fun _ => ?_ | refine zg_n64 fun _ => ?_ | refine zg_copy fun _ => ?_ | refine zg_stix fun _ => ?_ | refine zg_orn ?_ | refine zg_ite ?_ ?_)
theorem zm_zono : zMP zono := fun _ _ _ _ _ _ _ _ _ _ _ _ _ _ _ _ => zg_none
def zML : List (Nat × zO zRes) → Prop
  | [] => True
  | (_, f) :: r => zMP f ∧ zML r
theorem zML_lk (o : Nat) : ∀ r : List (Nat × zO zRes), zML r → zMP (zlk zono r o)
  | [], _ => zm_zono
  | (a, f) :: r, hh => by
    unfold zlk
    cases Nat.beq a o
    · exact zML_lk o r hh.2
    · exact hh.1
theorem zm_zops : zML zops := ⟨zm_zopush _ _, ⟨zm_zopush _ _, ⟨zm_zopush _ _, ⟨zm_zopush _ _, ⟨zm_zopush _ _, ⟨zm_zopush _ _, ⟨zm_zopush _ _, ⟨zm_zonull, ⟨zm_zopush _ _, ⟨zm_zoload _ _, ⟨zm_zoload _ _, ⟨zm_zoload _ _, ⟨zm_zoload _ _, ⟨zm_zoaload _, ⟨zm_zoaload _, ⟨zm_zosto _ _, ⟨zm_zosto _ _, ⟨zm_zosto2 _ _, ⟨zm_zosto2 _ _, ⟨zm_zoasto _, ⟨zm_zoasto _, ⟨zm_zoinc, ⟨zm_zobin _ _ _, ⟨zm_zobin _ _ _, ⟨zm_zobin _ _ _, ⟨zm_zodiv _, ⟨zm_zodiv _, ⟨zm_zobin _ _ _, ⟨zm_zobin _ _ _, ⟨zm_zobin _ _ _, ⟨zm_zobin _ _ _, ⟨zm_zobin _ _ _, ⟨zm_zobin _ _ _, ⟨zm_zoun _ _ _, ⟨zm_zoun _ _ _, ⟨zm_zoun _ _ _, ⟨zm_zobin _ _ _, ⟨zm_zobin _ _ _, ⟨zm_zobin _ _ _, ⟨zm_zobin _ _ _, ⟨zm_zodup, ⟨zm_zodup2, ⟨zm_zopop, ⟨zm_zoif _ _, ⟨zm_zoif _ _, ⟨zm_zoif _ _, ⟨zm_zoif _ _, ⟨zm_zoif _ _, ⟨zm_zoif _ _, ⟨zm_zoicmp _ _, ⟨zm_zoicmp _ _, ⟨zm_zoicmp _ _, ⟨zm_zoicmp _ _, ⟨zm_zoicmp _ _, ⟨zm_zoicmp _ _, ⟨zm_zogoto, ⟨zm_zoifnull _, ⟨zm_zoifnull _, ⟨zm_zoacmp _, ⟨zm_zoacmp _, ⟨zm_zoswt, ⟨zm_zoswt, ⟨zm_zogetf, ⟨zm_zogetf, ⟨zm_zoputf, ⟨zm_zoputf, ⟨zm_zoald _ _, ⟨zm_zoald _ _, ⟨zm_zoald _ _, ⟨zm_zoald _ _, ⟨zm_zoald _ _, ⟨zm_zoaald, ⟨zm_zosld, ⟨zm_zoslen, ⟨zm_zoast _ _, ⟨zm_zoast _ _, ⟨zm_zoast _ _, ⟨zm_zoast _ _, ⟨zm_zoast _ _, ⟨zm_zoaast, ⟨zm_zoalen, ⟨zm_zonewa, ⟨zm_zoanew, ⟨zm_zonew, ⟨zm_zocallv, ⟨zm_zocallv, ⟨zm_zocallh, ⟨zm_zocalls, ⟨zm_zocalls, ⟨zm_zocalli, ⟨zm_zocalli, ⟨zm_zoobj, ⟨zm_zocopy, ⟨zm_zostix, ⟨zm_zoret _, ⟨zm_zoret _, ⟨zm_zoret _, ⟨zm_zoret _, ⟨zm_zoaret, ⟨zm_zovret, ⟨zm_zothr, ⟨zm_zopush _ _, ⟨zm_zopush _ _, ⟨zm_zoun _ _ _, ⟨zm_zoun _ _ _, ⟨zm_zofdiv, ⟨zm_zoun _ _ _, ⟨zm_zoun _ _ _, ⟨zm_zoddiv, ⟨zm_zof2d, ⟨zm_zobin _ _ _, ⟨zm_zobin _ _ _, ⟨zm_zoload _ _, ⟨zm_zoload _ _, ⟨zm_zosto _ _, ⟨zm_zosto _ _, ⟨zm_zoload _ _, ⟨zm_zoload _ _, ⟨zm_zosto2 _ _, ⟨zm_zosto2 _ _, trivial⟩⟩⟩⟩⟩⟩⟩⟩⟩⟩⟩⟩⟩⟩⟩⟩⟩⟩⟩⟩⟩⟩⟩⟩⟩⟩⟩⟩⟩⟩⟩⟩⟩⟩⟩⟩⟩⟩⟩⟩⟩⟩⟩⟩⟩⟩⟩⟩⟩⟩⟩⟩⟩⟩⟩⟩⟩⟩⟩⟩⟩⟩⟩⟩⟩⟩⟩⟩⟩⟩⟩⟩⟩⟩⟩⟩⟩⟩⟩⟩⟩⟩⟩⟩⟩⟩⟩⟩⟩⟩⟩⟩⟩⟩⟩⟩⟩⟩⟩⟩⟩⟩⟩⟩⟩⟩⟩⟩⟩⟩⟩⟩⟩⟩⟩⟩⟩⟩⟩⟩
theorem zm_stp : zMP zstp := by
  intro r P al call I kont kr kt hc hk hr ht pc ls st h
  obtain ⟨o, x, u, v⟩ := I
  show zG r (zsel o P al call (o, x, u, v) kont kr kt pc ls st h) h
  rw [zsel_eq]
  exact zML_lk o _ zm_zops r P al call (o, x, u, v) kont kr kt hc hk hr ht pc ls st h
theorem zSg_mono {l : Launch} {al : Bool} {zi : Nat → zinfo} {code : Nat → zI} {cut : Nat → Option (List Bool)} {kr : Int → zH → Option zRes} {kt : Nat → zH → Option zRes} {r : zRes} (hr : ∀ v h, zG r (kr v h) h) (ht : ∀ n h, zG r (kt n h) h) : zSg l al zi code cut kr kt r (fun _ _ _ h => zM r h) := by
  intro CALL O hcall hO f
  have hc : ∀ j as h k t, (∀ v h1, zG r (k v h1) h1) → (∀ n h1, zG r (t n h1) h1) → zG r (CALL j as h k t) h := fun j as h k t h1 h2 hr9 => by
    obtain ⟨k1, k2⟩ := hcall j as h k t hr9
    cases hth : (zi j).2.2.2.2.2.1 with
    | false =>
      obtain ⟨v, h3, g1, g2, -⟩ := k1 hth
      have g3 := h1 v h3 g1
      exact ⟨Nat.le_trans g2.1 g3.1, Nat.le_trans g2.2 g3.2⟩
    | true =>
      obtain ⟨r1, g1, g2, -⟩ := k2 hth
      cases r1 with
      | inl z => have g3 := h1 z.1 z.2 g1; exact ⟨Nat.le_trans g2.1 g3.1, Nat.le_trans g2.2 g3.2⟩
      | inr z => have g3 := h2 z.1 z.2 g1; exact ⟨Nat.le_trans g2.1 g3.1, Nat.le_trans g2.2 g3.2⟩
  induction f with
  | zero => intro pc ls st h e; cases e
  | succ f ih =>
    intro pc ls st h e
    have hk : ∀ pc ls st h, zG r (match cut pc with
      | none => zseg zPP al CALL code cut O kr kt f pc ls st h
      | some bm => O pc (zmask bm ls) st h) h := fun pc ls st h e => by
      cases hcp : cut pc with
      | none => rw [hcp] at e; exact ih pc ls st h e
      | some bm => rw [hcp] at e; exact hO pc _ st h e
    exact zm_stp r zPP al CALL (code pc) _ kr kt hc hk hr ht pc ls st h e
