def zops {ρ : Type} : List (Nat × zO ρ) := [(0, zopush 0 1), (1, zopush 0 2), (2, zopush 0 3), (3, zopush 0 2), (4, zopush 0 3), (5, zopush 1 1), (6, zopush 1 3), (7, zonull), (8, zopush 3 2),
  (10, zoload 0 1), (11, zoload 0 2), (12, zoload 1 1), (13, zoload 1 2), (14, zoaload 1), (15, zoaload 2), (16, zosto 0 1), (17, zosto 0 2), (18, zosto2 1 1), (19, zosto2 1 2), (20, zoasto 1), (21, zoasto 2), (22, zoinc),
  (30, zobin 0 0 (fun x y => wr (x + y))), (31, zobin 0 0 (fun x y => wr (x - y))), (32, zobin 0 0 (fun x y => wr (x * y))), (33, zodiv (fun x y => wr (Int.tdiv x y))), (34, zodiv Int.tmod), (36, zobin 0 0 zand), (37, zobin 0 0 zor), (38, zobin 0 0 zxor), (39, zobin 0 0 zshl), (40, zobin 0 0 zshr), (41, zobin 0 0 zushr),
  (42, zoun 0 1 (fun x => x)), (43, zoun 1 0 wr), (44, zoun 0 0 (fun x => x % 65536)), (45, zobin 1 1 (fun x y => wrl (x + y))), (46, zobin 1 1 (fun x y => wrl (x - y))), (47, zobin 1 1 (fun x y => wrl (x * y))), (48, zobin 1 0 zlcmp),
  (50, zodup), (51, zodup2), (52, zopop), (60, zoif 0 false), (61, zoif 0 true), (62, zoif 1 false), (63, zoif 1 true), (64, zoif 2 false), (65, zoif 2 true), (66, zoicmp 0 false), (67, zoicmp 0 true), (68, zoicmp 1 false), (69, zoicmp 1 true), (70, zoicmp 2 false), (71, zoicmp 2 true),
  (72, zogoto), (73, zoifnull false), (74, zoifnull true), (75, zoacmp false), (76, zoacmp true), (77, zoswt), (78, zoswt), (80, zogetf), (81, zogetf), (82, zoputf), (84, zoputf),
  (90, zoald 0 0), (91, zoald 1 0), (92, zoald 2 0), (93, zoald 3 1), (158, zoald 6 6), (94, zoaald), (105, zosld), (106, zoslen), (95, zoast 0 0), (96, zoast 1 0), (97, zoast 2 0), (98, zoast 3 1), (159, zoast 6 6), (99, zoaast), (100, zoalen), (101, zonewa), (102, zoanew), (103, zonew),
  (110, zocallv), (111, zocallv), (118, zocallh), (113, zocalls), (114, zocalls), (115, zocalli), (116, zocalli), (117, zoobj), (119, zocopy), (120, zostix), (130, zoret 0), (131, zoret 1), (160, zoret 5), (161, zoret 6), (132, zoaret), (133, zovret), (134, zothr),
  (140, zopush 5 1), (141, zopush 6 1), (142, zoun 1 5 zl2f), (143, zoun 0 5 zi2f), (144, zofdiv), (145, zoun 1 6 zl2d), (146, zoun 0 6 zi2d), (147, zoddiv), (148, zof2d), (149, zobin 6 0 zdcmp), (139, zobin 5 0 zfcmp), (150, zoload 5 1), (151, zoload 5 2), (152, zosto 5 1), (153, zosto 5 2), (154, zoload 6 1), (155, zoload 6 2), (156, zosto2 6 1), (157, zosto2 6 2)]
def zlk {α : Type} (d : α) : List (Nat × α) → Nat → α
  | [], _ => d
  | (o', f) :: r, o => bif Nat.beq o' o then f else zlk d r o
def zono {ρ : Type} : zO ρ := fun _ _ _ _ _ _ _ _ _ _ _ => none
theorem zlk_out {α : Type} {d : α} {o : Nat} : ∀ l : List (Nat × α), (∀ q ∈ l, ¬ o = q.1) → zlk d l o = d
  | [], _ => rfl
  | (a, f) :: r, h => by
    unfold zlk
    have h1 : Nat.beq a o = false := by
      cases hb : Nat.beq a o with
      | false => rfl
      | true => exact absurd (Nat.eq_of_beq_eq_true hb).symm (h (a, f) List.mem_cons_self)
    rw [h1]
    exact zlk_out r fun q hq => h q (List.mem_cons_of_mem _ hq)
theorem zsel_eq {ρ : Type} (o : Nat) : zsel (ρ := ρ) o = zlk zono zops o := by
  unfold zsel
  split
  all_goals first | rfl | skip
  refine (zlk_out _ ?_).symm
  unfold zops
  repeat (first | exact fun _ h => absurd h List.not_mem_nil | refine List.forall_mem_cons.mpr ⟨by assumption, ?_⟩)
abbrev zRes : Type := (Int × zH) ⊕ (Nat × zH)
def zin (v : Int) (h : zH) : Option zRes := some (.inl (v, h))
def zth (n : Nat) (h : zH) : Option zRes := some (.inr (n, h))
def zno (_ : Nat) (_ : zH) : Option zRes := none
def zel {ρ : Type} (kr : Int → zH → Option ρ) (kt : Nat → zH → Option ρ) : zRes → Option ρ := fun r => match r with
  | .inl q => kr q.1 q.2
  | .inr q => kt q.1 q.2
theorem zb_some {α ρ : Type} (x : α) (e : α → Option ρ) : (some x).bind e = e x := rfl
theorem zb_none {α ρ : Type} (e : α → Option ρ) : (none : Option α).bind e = none := rfl
theorem zb_cond {α ρ : Type} (b : Bool) (x y : Option α) (e : α → Option ρ) : (bif b then x else y).bind e = bif b then x.bind e else y.bind e := by cases b <;> rfl
theorem zb_ite {α ρ : Type} (c : Prop) [Decidable c] (x y : Option α) (e : α → Option ρ) : (if c then x else y).bind e = if c then x.bind e else y.bind e := by split <;> rfl
theorem zb_if {α ρ : Type} (b : Bool) (x : Option α) (e : α → Option ρ) : (zif b x).bind e = zif b (x.bind e) := by cases b <;> rfl
theorem zb_let {α β ρ : Type} (x : β) (k : β → Option α) (e : α → Option ρ) : (zlet x k).bind e = zlet x (fun y => (k y).bind e) := rfl
theorem zb_ob {α ρ : Type} (h : zH) (c : Nat) (a : Int) (k : Nat → Option α) (e : α → Option ρ) : (zob h c a k).bind e = zob h c a (fun p => (k p).bind e) := by unfold zob; exact zb_ite ..
theorem zb_ix {α ρ : Type} (n : Nat) (a : Int) (k : Nat → Option α) (e : α → Option ρ) : (zix n a k).bind e = zix n a (fun p => (k p).bind e) := by unfold zix; exact zb_ite ..
theorem zb_obm {α ρ : Type} (al : Bool) (h : zH) (c : Nat) (a : Int) (k : Nat → Option α) (e : α → Option ρ) : (zobm al h c a k).bind e = zobm al h c a (fun p => (k p).bind e) := by
  unfold zobm
  cases al
  · dsimp only
    split
    · split <;> rfl
    · rfl
  · exact zb_ob ..
theorem zb_nar {α ρ : Type} (t : Nat) (x : Int) (k : Int → Option α) (e : α → Option ρ) : (znar t x k).bind e = znar t x (fun p => (k p).bind e) := by
  unfold znar
  split
  · exact zb_ite ..
  · exact zb_ite ..
  · rfl
theorem zb_swt {α ρ : Type} (k : Nat → Option α) (e : α → Option ρ) (d : Nat) (x : Int) : ∀ l : List (Int × Nat), (zswt l d x k).bind e = zswt l d x (fun p => (k p).bind e)
  | [] => rfl
  | (a, t) :: r => by unfold zswt; rw [zb_ite, zb_swt k e d x r]
theorem zb_pop {α ρ : Type} (k : List Int → List zV → Option α) (e : α → Option ρ) : ∀ (ts : List Nat) (st : List zV) (acc : List Int), (zpop ts st acc k).bind e = zpop ts st acc (fun as st => (k as st).bind e)
  | [], _, _ => rfl
  | t :: ts, [], _ => rfl
  | t :: ts, (t', x) :: st, acc => by unfold zpop; rw [zb_ite, zb_pop k e ts st (x :: acc)]; rfl
theorem zb_local {α ρ : Type} (t : Nat) (ls : List (Option zV)) (u : Nat) (k : Int → Option α) (e : α → Option ρ) : (zlocal t ls u k).bind e = zlocal t ls u (fun p => (k p).bind e) := by
  unfold zlocal
  split
  · exact zb_ite ..
  · rfl
theorem zb_store {α ρ : Type} (ls : List (Option zV)) (u : Nat) (v : zV) (k : List (Option zV) → Option α) (e : α → Option ρ) : (zstore ls u v k).bind e = zstore ls u v (fun p => (k p).bind e) := by
  unfold zstore
  split <;> rfl
theorem zb_store2 {α ρ : Type} (ls : List (Option zV)) (u : Nat) (v : zV) (k : List (Option zV) → Option α) (e : α → Option ρ) : (zstore2 ls u v k).bind e = zstore2 ls u v (fun p => (k p).bind e) := by
  unfold zstore2
  split <;> rfl
theorem zb_n32 {α ρ : Type} (r : UInt32) (k : Int → Option α) (e : α → Option ρ) : (zn32 r k).bind e = zn32 r (fun p => (k p).bind e) := by unfold zn32; exact zb_ite ..
theorem zb_n64 {α ρ : Type} (r : UInt64) (k : Int → Option α) (e : α → Option ρ) : (zn64 r k).bind e = zn64 r (fun p => (k p).bind e) := by unfold zn64; exact zb_ite ..
theorem zb_copy {α ρ : Type} (c : Nat) (h : zH) (a i b j n : Int) (k : zH → Option α) (e : α → Option ρ) : (zcopy c h a i b j n k).bind e = zcopy c h a i b j n (fun h => (k h).bind e) := by
  unfold zcopy
  rw [zb_ite, zb_ob]
  congr 1
  congr 1
  funext p
  rw [zb_ite]
  rfl
theorem zb_stix {α ρ : Type} (t x : Int) (k : Int → Option α) (e : α → Option ρ) : (zstix t x k).bind e = zstix t x (fun p => (k p).bind e) := rfl
theorem zb_hnd {α ρ : Type} (n : Nat) (k : Nat → Option α) (e : α → Option ρ) : ∀ l : List (Nat × Nat), (zhnd l n k).bind e = zhnd l n (fun p => (k p).bind e)
  | [] => rfl
  | (a, t) :: r => by unfold zhnd; rw [zb_ite, zb_hnd n k e r]
theorem zb_ret {α ρ : Type} (r : Nat) (v : Int) (st : List zV) (k : List zV → Option α) (e : α → Option ρ) : (zret r v st k).bind e = zret r v st (fun p => (k p).bind e) := by
  unfold zret
  split <;> rfl
theorem zb_orn {α ρ : Type} (h : zH) (c : Nat) (a : Int) (k : Option α) (e : α → Option ρ) : (zorn h c a k).bind e = zorn h c a (k.bind e) := by unfold zorn; exact zb_ite ..
theorem zb_mch {α ρ : Type} (h : zH) (a : Int) (k : Option α) (e : α → Option ρ) : (zmch h a k).bind e = zmch h a (k.bind e) := by unfold zmch; exact zb_ite ..
/-- one reading of an instruction is another's, seen by e -/
def zNP {ρ : Type} (oA : zO ρ) (oZ : zO zRes) : Prop := ∀ (e : zRes → Option ρ) (P : zP) (al : Bool) (callA : Nat → List Int → zH → (Int → zH → Option ρ) → (Nat → zH → Option ρ) → Option ρ) (callZ : Nat → List Int → zH → (Int → zH → Option zRes) → (Nat → zH → Option zRes) → Option zRes) (I : zI) (kontA : Nat → List (Option zV) → List zV → zH → Option ρ) (kontZ : Nat → List (Option zV) → List zV → zH → Option zRes) (krA : Int → zH → Option ρ) (krZ : Int → zH → Option zRes) (ktA : Nat → zH → Option ρ) (ktZ : Nat → zH → Option zRes),
  (∀ j as h k t, (callZ j as h k t).bind e = callA j as h (fun v h => (k v h).bind e) (fun n h => (t n h).bind e)) →
  (∀ pc ls st h, (kontZ pc ls st h).bind e = kontA pc ls st h) → (∀ v h, (krZ v h).bind e = krA v h) → (∀ n h, (ktZ n h).bind e = ktA n h) →
  ∀ pc ls st h, (oZ P al callZ I kontZ krZ ktZ pc ls st h).bind e = oA P al callA I kontA krA ktA pc ls st h
theorem nz_zopush {ρ : Type} (t n : Nat) : zNP (ρ := ρ) (zopush t n) (zopush t n) := by
  intro e P al callA callZ I kontA kontZ krA krZ ktA ktZ hc hk hr ht pc ls st h
  simp only [zopush, zb_some, zb_orn, zb_none, zb_if, zb_ite, zb_let, zb_ob, zb_ix, zb_obm, zb_nar, zb_swt, zb_pop, zb_local, zb_store, zb_store2, zb_n32, zb_n64, zb_copy, zb_stix, zb_hnd, zb_ret, hc, hk, hr, ht]
theorem nz_zonull {ρ : Type} : zNP (ρ := ρ) (zonull ) (zonull ) := by
  intro e P al callA callZ I kontA kontZ krA krZ ktA ktZ hc hk hr ht pc ls st h
  simp only [zonull, zb_some, zb_orn, zb_none, zb_if, zb_ite, zb_let, zb_ob, zb_ix, zb_obm, zb_nar, zb_swt, zb_pop, zb_local, zb_store, zb_store2, zb_n32, zb_n64, zb_copy, zb_stix, zb_hnd, zb_ret, hc, hk, hr, ht]
theorem nz_zoload {ρ : Type} (t n : Nat) : zNP (ρ := ρ) (zoload t n) (zoload t n) := by
  intro e P al callA callZ I kontA kontZ krA krZ ktA ktZ hc hk hr ht pc ls st h
  simp only [zoload, zb_some, zb_orn, zb_none, zb_if, zb_ite, zb_let, zb_ob, zb_ix, zb_obm, zb_nar, zb_swt, zb_pop, zb_local, zb_store, zb_store2, zb_n32, zb_n64, zb_copy, zb_stix, zb_hnd, zb_ret, hc, hk, hr, ht]
theorem nz_zoaload {ρ : Type} (n : Nat) : zNP (ρ := ρ) (zoaload n) (zoaload n) := by
  intro e P al callA callZ I kontA kontZ krA krZ ktA ktZ hc hk hr ht pc ls st h
  simp only [zoaload, zb_some, zb_orn, zb_none, zb_if, zb_ite, zb_let, zb_ob, zb_ix, zb_obm, zb_nar, zb_swt, zb_pop, zb_local, zb_store, zb_store2, zb_n32, zb_n64, zb_copy, zb_stix, zb_hnd, zb_ret, hc, hk, hr, ht]
theorem nz_zosto {ρ : Type} (t n : Nat) : zNP (ρ := ρ) (zosto t n) (zosto t n) := by
  intro e P al callA callZ I kontA kontZ krA krZ ktA ktZ hc hk hr ht pc ls st h
  rcases st with _ | ⟨⟨t1, x1⟩, st⟩ <;>
    simp only [zosto, zb_some, zb_orn, zb_none, zb_if, zb_ite, zb_let, zb_ob, zb_ix, zb_obm, zb_nar, zb_swt, zb_pop, zb_local, zb_store, zb_store2, zb_n32, zb_n64, zb_copy, zb_stix, zb_hnd, zb_ret, hc, hk, hr, ht]
theorem nz_zosto2 {ρ : Type} (t n : Nat) : zNP (ρ := ρ) (zosto2 t n) (zosto2 t n) := by
  intro e P al callA callZ I kontA kontZ krA krZ ktA ktZ hc hk hr ht pc ls st h
  rcases st with _ | ⟨⟨t1, x1⟩, st⟩ <;>
    simp only [zosto2, zb_some, zb_orn, zb_none, zb_if, zb_ite, zb_let, zb_ob, zb_ix, zb_obm, zb_nar, zb_swt, zb_pop, zb_local, zb_store, zb_store2, zb_n32, zb_n64, zb_copy, zb_stix, zb_hnd, zb_ret, hc, hk, hr, ht]
theorem nz_zoasto {ρ : Type} (n : Nat) : zNP (ρ := ρ) (zoasto n) (zoasto n) := by
  intro e P al callA callZ I kontA kontZ krA krZ ktA ktZ hc hk hr ht pc ls st h
  rcases st with _ | ⟨⟨t1, x1⟩, st⟩ <;>
    simp only [zoasto, zb_some, zb_orn, zb_none, zb_if, zb_ite, zb_let, zb_ob, zb_ix, zb_obm, zb_nar, zb_swt, zb_pop, zb_local, zb_store, zb_store2, zb_n32, zb_n64, zb_copy, zb_stix, zb_hnd, zb_ret, hc, hk, hr, ht]
theorem nz_zoinc {ρ : Type} : zNP (ρ := ρ) (zoinc ) (zoinc ) := by
  intro e P al callA callZ I kontA kontZ krA krZ ktA ktZ hc hk hr ht pc ls st h
  simp only [zoinc, zb_some, zb_orn, zb_none, zb_if, zb_ite, zb_let, zb_ob, zb_ix, zb_obm, zb_nar, zb_swt, zb_pop, zb_local, zb_store, zb_store2, zb_n32, zb_n64, zb_copy, zb_stix, zb_hnd, zb_ret, hc, hk, hr, ht]
theorem nz_zobin {ρ : Type} (t r : Nat) (f : Int → Int → Int) : zNP (ρ := ρ) (zobin t r f) (zobin t r f) := by
  intro e P al callA callZ I kontA kontZ krA krZ ktA ktZ hc hk hr ht pc ls st h
  rcases st with _ | ⟨⟨t2, x2⟩, _ | ⟨⟨t1, x1⟩, st⟩⟩ <;>
    simp only [zobin, zb_some, zb_orn, zb_none, zb_if, zb_ite, zb_let, zb_ob, zb_ix, zb_obm, zb_nar, zb_swt, zb_pop, zb_local, zb_store, zb_store2, zb_n32, zb_n64, zb_copy, zb_stix, zb_hnd, zb_ret, hc, hk, hr, ht]
theorem nz_zodiv {ρ : Type} (f : Int → Int → Int) : zNP (ρ := ρ) (zodiv f) (zodiv f) := by
  intro e P al callA callZ I kontA kontZ krA krZ ktA ktZ hc hk hr ht pc ls st h
  rcases st with _ | ⟨⟨t2, x2⟩, _ | ⟨⟨t1, x1⟩, st⟩⟩ <;>
    simp only [zodiv, zb_some, zb_orn, zb_none, zb_if, zb_ite, zb_let, zb_ob, zb_ix, zb_obm, zb_nar, zb_swt, zb_pop, zb_local, zb_store, zb_store2, zb_n32, zb_n64, zb_copy, zb_stix, zb_hnd, zb_ret, hc, hk, hr, ht]
theorem nz_zoun {ρ : Type} (t r : Nat) (f : Int → Int) : zNP (ρ := ρ) (zoun t r f) (zoun t r f) := by
  intro e P al callA callZ I kontA kontZ krA krZ ktA ktZ hc hk hr ht pc ls st h
  rcases st with _ | ⟨⟨t1, x1⟩, st⟩ <;>
    simp only [zoun, zb_some, zb_orn, zb_none, zb_if, zb_ite, zb_let, zb_ob, zb_ix, zb_obm, zb_nar, zb_swt, zb_pop, zb_local, zb_store, zb_store2, zb_n32, zb_n64, zb_copy, zb_stix, zb_hnd, zb_ret, hc, hk, hr, ht]
theorem nz_zodup {ρ : Type} : zNP (ρ := ρ) (zodup ) (zodup ) := by
  intro e P al callA callZ I kontA kontZ krA krZ ktA ktZ hc hk hr ht pc ls st h
  rcases st with _ | ⟨⟨t1, x1⟩, st⟩ <;>
    simp only [zodup, zb_some, zb_orn, zb_none, zb_if, zb_ite, zb_let, zb_ob, zb_ix, zb_obm, zb_nar, zb_swt, zb_pop, zb_local, zb_store, zb_store2, zb_n32, zb_n64, zb_copy, zb_stix, zb_hnd, zb_ret, hc, hk, hr, ht]
theorem nz_zodup2 {ρ : Type} : zNP (ρ := ρ) (zodup2 ) (zodup2 ) := by
  intro e P al callA callZ I kontA kontZ krA krZ ktA ktZ hc hk hr ht pc ls st h
  rcases st with _ | ⟨⟨t2, x2⟩, _ | ⟨⟨t1, x1⟩, st⟩⟩ <;>
    simp only [zodup2, zb_some, zb_orn, zb_none, zb_if, zb_ite, zb_let, zb_ob, zb_ix, zb_obm, zb_nar, zb_swt, zb_pop, zb_local, zb_store, zb_store2, zb_n32, zb_n64, zb_copy, zb_stix, zb_hnd, zb_ret, hc, hk, hr, ht]
theorem nz_zopop {ρ : Type} : zNP (ρ := ρ) (zopop ) (zopop ) := by
  intro e P al callA callZ I kontA kontZ krA krZ ktA ktZ hc hk hr ht pc ls st h
  rcases st with _ | ⟨⟨t1, x1⟩, st⟩ <;>
    simp only [zopop, zb_some, zb_orn, zb_none, zb_if, zb_ite, zb_let, zb_ob, zb_ix, zb_obm, zb_nar, zb_swt, zb_pop, zb_local, zb_store, zb_store2, zb_n32, zb_n64, zb_copy, zb_stix, zb_hnd, zb_ret, hc, hk, hr, ht]
theorem nz_zoif {ρ : Type} (k : Nat) (s : Bool) : zNP (ρ := ρ) (zoif k s) (zoif k s) := by
  intro e P al callA callZ I kontA kontZ krA krZ ktA ktZ hc hk hr ht pc ls st h
  rcases st with _ | ⟨⟨t1, x1⟩, st⟩ <;>
    (simp only [zoif, zb_some, zb_orn, zb_none, zb_if, zb_ite, zb_let, zb_ob, zb_ix, zb_obm, zb_nar, zb_swt, zb_pop, zb_local, zb_store, zb_store2, zb_n32, zb_n64, zb_copy, zb_stix, zb_hnd, zb_ret, hc, hk, hr, ht] <;> (try split) <;> simp only [zb_some, zb_orn, zb_none, zb_if, zb_ite, zb_let, zb_ob, zb_ix, zb_obm, zb_nar, zb_swt, zb_pop, zb_local, zb_store, zb_store2, zb_n32, zb_n64, zb_copy, zb_stix, zb_hnd, zb_ret, hc, hk, hr, ht])
theorem nz_zoicmp {ρ : Type} (k : Nat) (s : Bool) : zNP (ρ := ρ) (zoicmp k s) (zoicmp k s) := by
  intro e P al callA callZ I kontA kontZ krA krZ ktA ktZ hc hk hr ht pc ls st h
  rcases st with _ | ⟨⟨t2, x2⟩, _ | ⟨⟨t1, x1⟩, st⟩⟩ <;>
    (simp only [zoicmp, zb_some, zb_orn, zb_none, zb_if, zb_ite, zb_let, zb_ob, zb_ix, zb_obm, zb_nar, zb_swt, zb_pop, zb_local, zb_store, zb_store2, zb_n32, zb_n64, zb_copy, zb_stix, zb_hnd, zb_ret, hc, hk, hr, ht] <;> (try split) <;> simp only [zb_some, zb_orn, zb_none, zb_if, zb_ite, zb_let, zb_ob, zb_ix, zb_obm, zb_nar, zb_swt, zb_pop, zb_local, zb_store, zb_store2, zb_n32, zb_n64, zb_copy, zb_stix, zb_hnd, zb_ret, hc, hk, hr, ht])
theorem nz_zogoto {ρ : Type} : zNP (ρ := ρ) (zogoto ) (zogoto ) := by
  intro e P al callA callZ I kontA kontZ krA krZ ktA ktZ hc hk hr ht pc ls st h
  simp only [zogoto, zb_some, zb_orn, zb_none, zb_if, zb_ite, zb_let, zb_ob, zb_ix, zb_obm, zb_nar, zb_swt, zb_pop, zb_local, zb_store, zb_store2, zb_n32, zb_n64, zb_copy, zb_stix, zb_hnd, zb_ret, hc, hk, hr, ht]
theorem nz_zoifnull {ρ : Type} (s : Bool) : zNP (ρ := ρ) (zoifnull s) (zoifnull s) := by
  intro e P al callA callZ I kontA kontZ krA krZ ktA ktZ hc hk hr ht pc ls st h
  rcases st with _ | ⟨⟨t1, x1⟩, st⟩ <;>
    (cases s <;> simp only [zoifnull, zb_some, zb_orn, zb_none, zb_if, zb_ite, zb_let, zb_ob, zb_ix, zb_obm, zb_nar, zb_swt, zb_pop, zb_local, zb_store, zb_store2, zb_n32, zb_n64, zb_copy, zb_stix, zb_hnd, zb_ret, hc, hk, hr, ht])
theorem nz_zoacmp {ρ : Type} (s : Bool) : zNP (ρ := ρ) (zoacmp s) (zoacmp s) := by
  intro e P al callA callZ I kontA kontZ krA krZ ktA ktZ hc hk hr ht pc ls st h
  rcases st with _ | ⟨⟨t2, x2⟩, _ | ⟨⟨t1, x1⟩, st⟩⟩ <;>
    (cases s <;> simp only [zoacmp, zb_some, zb_orn, zb_none, zb_if, zb_ite, zb_let, zb_ob, zb_ix, zb_obm, zb_nar, zb_swt, zb_pop, zb_local, zb_store, zb_store2, zb_n32, zb_n64, zb_copy, zb_stix, zb_hnd, zb_ret, hc, hk, hr, ht])
theorem nz_zoswt {ρ : Type} : zNP (ρ := ρ) (zoswt ) (zoswt ) := by
  intro e P al callA callZ I kontA kontZ krA krZ ktA ktZ hc hk hr ht pc ls st h
  rcases st with _ | ⟨⟨t1, x1⟩, st⟩ <;>
    simp only [zoswt, zb_some, zb_orn, zb_none, zb_if, zb_ite, zb_let, zb_ob, zb_ix, zb_obm, zb_nar, zb_swt, zb_pop, zb_local, zb_store, zb_store2, zb_n32, zb_n64, zb_copy, zb_stix, zb_hnd, zb_ret, hc, hk, hr, ht]
theorem nz_zogetf {ρ : Type} : zNP (ρ := ρ) (zogetf ) (zogetf ) := by
  intro e P al callA callZ I kontA kontZ krA krZ ktA ktZ hc hk hr ht pc ls st h
  rcases st with _ | ⟨⟨t1, x1⟩, st⟩ <;>
    simp only [zogetf, zb_some, zb_orn, zb_none, zb_if, zb_ite, zb_let, zb_ob, zb_ix, zb_obm, zb_nar, zb_swt, zb_pop, zb_local, zb_store, zb_store2, zb_n32, zb_n64, zb_copy, zb_stix, zb_hnd, zb_ret, hc, hk, hr, ht]
theorem nz_zoputf {ρ : Type} : zNP (ρ := ρ) (zoputf ) (zoputf ) := by
  intro e P al callA callZ I kontA kontZ krA krZ ktA ktZ hc hk hr ht pc ls st h
  rcases st with _ | ⟨⟨t2, x2⟩, _ | ⟨⟨t1, x1⟩, st⟩⟩ <;>
    simp only [zoputf, zb_some, zb_orn, zb_none, zb_if, zb_ite, zb_let, zb_ob, zb_ix, zb_obm, zb_nar, zb_swt, zb_pop, zb_local, zb_store, zb_store2, zb_n32, zb_n64, zb_copy, zb_stix, zb_hnd, zb_ret, hc, hk, hr, ht]
theorem nz_zoald {ρ : Type} (e r : Nat) : zNP (ρ := ρ) (zoald e r) (zoald e r) := by
  intro e P al callA callZ I kontA kontZ krA krZ ktA ktZ hc hk hr ht pc ls st h
  rcases st with _ | ⟨⟨t2, x2⟩, _ | ⟨⟨t1, x1⟩, st⟩⟩ <;>
    simp only [zoald, zb_some, zb_orn, zb_none, zb_if, zb_ite, zb_let, zb_ob, zb_ix, zb_obm, zb_nar, zb_swt, zb_pop, zb_local, zb_store, zb_store2, zb_n32, zb_n64, zb_copy, zb_stix, zb_hnd, zb_ret, hc, hk, hr, ht]
theorem nz_zoaald {ρ : Type} : zNP (ρ := ρ) (zoaald ) (zoaald ) := by
  intro e P al callA callZ I kontA kontZ krA krZ ktA ktZ hc hk hr ht pc ls st h
  rcases st with _ | ⟨⟨t2, x2⟩, _ | ⟨⟨t1, x1⟩, st⟩⟩ <;>
    simp only [zoaald, zb_some, zb_orn, zb_none, zb_if, zb_ite, zb_let, zb_ob, zb_ix, zb_obm, zb_nar, zb_swt, zb_pop, zb_local, zb_store, zb_store2, zb_n32, zb_n64, zb_copy, zb_stix, zb_hnd, zb_ret, hc, hk, hr, ht]
theorem nz_zosld {ρ : Type} : zNP (ρ := ρ) (zosld ) (zosld ) := by
  intro e P al callA callZ I kontA kontZ krA krZ ktA ktZ hc hk hr ht pc ls st h
  rcases st with _ | ⟨⟨t2, x2⟩, _ | ⟨⟨t1, x1⟩, st⟩⟩ <;>
    simp only [zosld, zb_some, zb_orn, zb_none, zb_if, zb_ite, zb_let, zb_ob, zb_ix, zb_obm, zb_nar, zb_swt, zb_pop, zb_local, zb_store, zb_store2, zb_n32, zb_n64, zb_copy, zb_stix, zb_hnd, zb_ret, hc, hk, hr, ht]
theorem nz_zoslen {ρ : Type} : zNP (ρ := ρ) (zoslen ) (zoslen ) := by
  intro e P al callA callZ I kontA kontZ krA krZ ktA ktZ hc hk hr ht pc ls st h
  rcases st with _ | ⟨⟨t1, x1⟩, st⟩ <;>
    simp only [zoslen, zb_some, zb_orn, zb_none, zb_if, zb_ite, zb_let, zb_ob, zb_ix, zb_obm, zb_nar, zb_swt, zb_pop, zb_local, zb_store, zb_store2, zb_n32, zb_n64, zb_copy, zb_stix, zb_hnd, zb_ret, hc, hk, hr, ht]
theorem nz_zoast {ρ : Type} (e r : Nat) : zNP (ρ := ρ) (zoast e r) (zoast e r) := by
  intro e P al callA callZ I kontA kontZ krA krZ ktA ktZ hc hk hr ht pc ls st h
  rcases st with _ | ⟨⟨t3, x3⟩, _ | ⟨⟨t2, x2⟩, _ | ⟨⟨t1, x1⟩, st⟩⟩⟩ <;>
    simp only [zoast, zb_some, zb_orn, zb_none, zb_if, zb_ite, zb_let, zb_ob, zb_ix, zb_obm, zb_nar, zb_swt, zb_pop, zb_local, zb_store, zb_store2, zb_n32, zb_n64, zb_copy, zb_stix, zb_hnd, zb_ret, hc, hk, hr, ht]
theorem nz_zoaast {ρ : Type} : zNP (ρ := ρ) (zoaast ) (zoaast ) := by
  intro e P al callA callZ I kontA kontZ krA krZ ktA ktZ hc hk hr ht pc ls st h
  rcases st with _ | ⟨⟨t3, x3⟩, _ | ⟨⟨t2, x2⟩, _ | ⟨⟨t1, x1⟩, st⟩⟩⟩ <;>
    simp only [zoaast, zb_some, zb_orn, zb_none, zb_if, zb_ite, zb_let, zb_ob, zb_ix, zb_obm, zb_nar, zb_swt, zb_pop, zb_local, zb_store, zb_store2, zb_n32, zb_n64, zb_copy, zb_stix, zb_hnd, zb_ret, hc, hk, hr, ht]
theorem nz_zoalen {ρ : Type} : zNP (ρ := ρ) (zoalen ) (zoalen ) := by
  intro e P al callA callZ I kontA kontZ krA krZ ktA ktZ hc hk hr ht pc ls st h
  rcases st with _ | ⟨⟨t1, x1⟩, st⟩ <;>
    simp only [zoalen, zb_some, zb_orn, zb_none, zb_if, zb_ite, zb_let, zb_ob, zb_ix, zb_obm, zb_nar, zb_swt, zb_pop, zb_local, zb_store, zb_store2, zb_n32, zb_n64, zb_copy, zb_stix, zb_hnd, zb_ret, hc, hk, hr, ht]
theorem nz_zonewa {ρ : Type} : zNP (ρ := ρ) (zonewa ) (zonewa ) := by
  intro e P al callA callZ I kontA kontZ krA krZ ktA ktZ hc hk hr ht pc ls st h
  rcases st with _ | ⟨⟨t1, x1⟩, st⟩ <;>
    simp only [zonewa, zb_some, zb_orn, zb_none, zb_if, zb_ite, zb_let, zb_ob, zb_ix, zb_obm, zb_nar, zb_swt, zb_pop, zb_local, zb_store, zb_store2, zb_n32, zb_n64, zb_copy, zb_stix, zb_hnd, zb_ret, hc, hk, hr, ht]
theorem nz_zoanew {ρ : Type} : zNP (ρ := ρ) (zoanew ) (zoanew ) := by
  intro e P al callA callZ I kontA kontZ krA krZ ktA ktZ hc hk hr ht pc ls st h
  rcases st with _ | ⟨⟨t1, x1⟩, st⟩ <;>
    simp only [zoanew, zb_some, zb_orn, zb_none, zb_if, zb_ite, zb_let, zb_ob, zb_ix, zb_obm, zb_nar, zb_swt, zb_pop, zb_local, zb_store, zb_store2, zb_n32, zb_n64, zb_copy, zb_stix, zb_hnd, zb_ret, hc, hk, hr, ht]
theorem nz_zonew {ρ : Type} : zNP (ρ := ρ) (zonew ) (zonew ) := by
  intro e P al callA callZ I kontA kontZ krA krZ ktA ktZ hc hk hr ht pc ls st h
  simp only [zonew, zb_some, zb_orn, zb_none, zb_if, zb_ite, zb_let, zb_ob, zb_ix, zb_obm, zb_nar, zb_swt, zb_pop, zb_local, zb_store, zb_store2, zb_n32, zb_n64, zb_copy, zb_stix, zb_hnd, zb_ret, hc, hk, hr, ht]
theorem nz_zocallv {ρ : Type} : zNP (ρ := ρ) (zocallv ) (zocallv ) := by
  intro e P al callA callZ I kontA kontZ krA krZ ktA ktZ hc hk hr ht pc ls st h
  simp only [zocallv, zb_pop]
  congr 1
  funext as st
  rw [zb_if]
  cases as <;> simp only [zb_some, zb_orn, zb_none, zb_if, zb_ite, zb_let, zb_ob, zb_ix, zb_obm, zb_nar, zb_swt, zb_pop, zb_local, zb_store, zb_store2, zb_n32, zb_n64, zb_copy, zb_stix, zb_hnd, zb_ret, hc, hk, hr, ht]
theorem nz_zocallh {ρ : Type} : zNP (ρ := ρ) (zocallh ) (zocallh ) := by
  intro e P al callA callZ I kontA kontZ krA krZ ktA ktZ hc hk hr ht pc ls st h
  simp only [zocallh, zb_pop]
  congr 1
  funext as st
  rw [zb_if]
  cases as <;> simp only [zb_some, zb_orn, zb_none, zb_if, zb_ite, zb_let, zb_ob, zb_ix, zb_obm, zb_nar, zb_swt, zb_pop, zb_local, zb_store, zb_store2, zb_n32, zb_n64, zb_copy, zb_stix, zb_hnd, zb_ret, hc, hk, hr, ht]
theorem nz_zocalls {ρ : Type} : zNP (ρ := ρ) (zocalls ) (zocalls ) := by
  intro e P al callA callZ I kontA kontZ krA krZ ktA ktZ hc hk hr ht pc ls st h
  simp only [zocalls, zb_some, zb_orn, zb_none, zb_if, zb_ite, zb_let, zb_ob, zb_ix, zb_obm, zb_nar, zb_swt, zb_pop, zb_local, zb_store, zb_store2, zb_n32, zb_n64, zb_copy, zb_stix, zb_hnd, zb_ret, hc, hk, hr, ht]
theorem nz_zocalli {ρ : Type} : zNP (ρ := ρ) (zocalli ) (zocalli ) := by
  intro e P al callA callZ I kontA kontZ krA krZ ktA ktZ hc hk hr ht pc ls st h
  simp only [zocalli, zb_pop]
  congr 1
  funext as st
  rw [zb_if]
  cases as <;> simp only [zb_some, zb_orn, zb_none, zb_if, zb_ite, zb_let, zb_ob, zb_ix, zb_obm, zb_nar, zb_swt, zb_pop, zb_local, zb_store, zb_store2, zb_n32, zb_n64, zb_copy, zb_stix, zb_hnd, zb_ret, hc, hk, hr, ht]
theorem nz_zoobj {ρ : Type} : zNP (ρ := ρ) (zoobj ) (zoobj ) := by
  intro e P al callA callZ I kontA kontZ krA krZ ktA ktZ hc hk hr ht pc ls st h
  rcases st with _ | ⟨⟨t1, x1⟩, st⟩ <;>
    simp only [zoobj, zb_some, zb_orn, zb_none, zb_if, zb_ite, zb_let, zb_ob, zb_ix, zb_obm, zb_nar, zb_swt, zb_pop, zb_local, zb_store, zb_store2, zb_n32, zb_n64, zb_copy, zb_stix, zb_hnd, zb_ret, hc, hk, hr, ht]
theorem nz_zocopy {ρ : Type} : zNP (ρ := ρ) (zocopy ) (zocopy ) := by
  intro e P al callA callZ I kontA kontZ krA krZ ktA ktZ hc hk hr ht pc ls st h
  rcases st with _ | ⟨⟨t5, x5⟩, _ | ⟨⟨t4, x4⟩, _ | ⟨⟨t3, x3⟩, _ | ⟨⟨t2, x2⟩, _ | ⟨⟨t1, x1⟩, st⟩⟩⟩⟩⟩ <;>
    simp only [zocopy, zb_some, zb_orn, zb_none, zb_if, zb_ite, zb_let, zb_ob, zb_ix, zb_obm, zb_nar, zb_swt, zb_pop, zb_local, zb_store, zb_store2, zb_n32, zb_n64, zb_copy, zb_stix, zb_hnd, zb_ret, hc, hk, hr, ht]
theorem nz_zostix {ρ : Type} : zNP (ρ := ρ) (zostix ) (zostix ) := by
  intro e P al callA callZ I kontA kontZ krA krZ ktA ktZ hc hk hr ht pc ls st h
  rcases st with _ | ⟨⟨t2, x2⟩, _ | ⟨⟨t1, x1⟩, st⟩⟩ <;>
    simp only [zostix, zb_some, zb_orn, zb_none, zb_if, zb_ite, zb_let, zb_ob, zb_ix, zb_obm, zb_nar, zb_swt, zb_pop, zb_local, zb_store, zb_store2, zb_n32, zb_n64, zb_copy, zb_stix, zb_hnd, zb_ret, hc, hk, hr, ht]
theorem nz_zoret {ρ : Type} (t : Nat) : zNP (ρ := ρ) (zoret t) (zoret t) := by
  intro e P al callA callZ I kontA kontZ krA krZ ktA ktZ hc hk hr ht pc ls st h
  rcases st with _ | ⟨⟨t2, x2⟩, _ | ⟨⟨t1, x1⟩, st⟩⟩ <;>
    simp only [zoret, zb_some, zb_orn, zb_none, zb_if, zb_ite, zb_let, zb_ob, zb_ix, zb_obm, zb_nar, zb_swt, zb_pop, zb_local, zb_store, zb_store2, zb_n32, zb_n64, zb_copy, zb_stix, zb_hnd, zb_ret, hc, hk, hr, ht]
theorem nz_zoaret {ρ : Type} : zNP (ρ := ρ) (zoaret ) (zoaret ) := by
  intro e P al callA callZ I kontA kontZ krA krZ ktA ktZ hc hk hr ht pc ls st h
  rcases st with _ | ⟨⟨t2, x2⟩, _ | ⟨⟨t1, x1⟩, st⟩⟩ <;>
    simp only [zoaret, zb_some, zb_orn, zb_none, zb_if, zb_ite, zb_let, zb_ob, zb_ix, zb_obm, zb_nar, zb_swt, zb_pop, zb_local, zb_store, zb_store2, zb_n32, zb_n64, zb_copy, zb_stix, zb_hnd, zb_ret, hc, hk, hr, ht]
theorem nz_zovret {ρ : Type} : zNP (ρ := ρ) (zovret ) (zovret ) := by
  intro e P al callA callZ I kontA kontZ krA krZ ktA ktZ hc hk hr ht pc ls st h
  rcases st with _ | ⟨⟨t1, x1⟩, st⟩ <;>
    simp only [zovret, zb_some, zb_orn, zb_none, zb_if, zb_ite, zb_let, zb_ob, zb_ix, zb_obm, zb_nar, zb_swt, zb_pop, zb_local, zb_store, zb_store2, zb_n32, zb_n64, zb_copy, zb_stix, zb_hnd, zb_ret, hc, hk, hr, ht]
theorem nz_zothr {ρ : Type} : zNP (ρ := ρ) (zothr ) (zothr ) := by
  intro e P al callA callZ I kontA kontZ krA krZ ktA ktZ hc hk hr ht pc ls st h
  rcases st with _ | ⟨⟨t1, x1⟩, st⟩ <;>
    simp only [zothr, zb_some, zb_orn, zb_none, zb_if, zb_ite, zb_let, zb_ob, zb_ix, zb_obm, zb_nar, zb_swt, zb_pop, zb_local, zb_store, zb_store2, zb_n32, zb_n64, zb_copy, zb_stix, zb_hnd, zb_ret, hc, hk, hr, ht]
theorem nz_zofdiv {ρ : Type} : zNP (ρ := ρ) (zofdiv ) (zofdiv ) := by
  intro e P al callA callZ I kontA kontZ krA krZ ktA ktZ hc hk hr ht pc ls st h
  rcases st with _ | ⟨⟨t2, x2⟩, _ | ⟨⟨t1, x1⟩, st⟩⟩ <;>
    simp only [zofdiv, zb_some, zb_orn, zb_none, zb_if, zb_ite, zb_let, zb_ob, zb_ix, zb_obm, zb_nar, zb_swt, zb_pop, zb_local, zb_store, zb_store2, zb_n32, zb_n64, zb_copy, zb_stix, zb_hnd, zb_ret, hc, hk, hr, ht]
theorem nz_zoddiv {ρ : Type} : zNP (ρ := ρ) (zoddiv ) (zoddiv ) := by
  intro e P al callA callZ I kontA kontZ krA krZ ktA ktZ hc hk hr ht pc ls st h
  rcases st with _ | ⟨⟨t2, x2⟩, _ | ⟨⟨t1, x1⟩, st⟩⟩ <;>
    simp only [zoddiv, zb_some, zb_orn, zb_none, zb_if, zb_ite, zb_let, zb_ob, zb_ix, zb_obm, zb_nar, zb_swt, zb_pop, zb_local, zb_store, zb_store2, zb_n32, zb_n64, zb_copy, zb_stix, zb_hnd, zb_ret, hc, hk, hr, ht]
theorem nz_zof2d {ρ : Type} : zNP (ρ := ρ) (zof2d ) (zof2d ) := by
  intro e P al callA callZ I kontA kontZ krA krZ ktA ktZ hc hk hr ht pc ls st h
  rcases st with _ | ⟨⟨t1, x1⟩, st⟩ <;>
    simp only [zof2d, zb_some, zb_orn, zb_none, zb_if, zb_ite, zb_let, zb_ob, zb_ix, zb_obm, zb_nar, zb_swt, zb_pop, zb_local, zb_store, zb_store2, zb_n32, zb_n64, zb_copy, zb_stix, zb_hnd, zb_ret, hc, hk, hr, ht]
theorem nz_zono {ρ : Type} : zNP (ρ := ρ) zono zono := fun _ _ _ _ _ _ _ _ _ _ _ _ _ _ _ _ _ _ _ _ => rfl
def zNL {ρ : Type} : List (Nat × zO ρ) → List (Nat × zO zRes) → Prop
  | [], [] => True
  | (a, f) :: r, (b, g) :: s => a = b ∧ zNP f g ∧ zNL r s
  | _, _ => False
theorem zNL_lk {ρ : Type} (o : Nat) : ∀ (r : List (Nat × zO ρ)) (s : List (Nat × zO zRes)), zNL r s → zNP (zlk zono r o) (zlk zono s o)
  | [], [], _ => nz_zono
  | (a, f) :: r, (b, g) :: s, hh => by
    obtain ⟨rfl, h2, h3⟩ := hh
    unfold zlk
    cases Nat.beq a o
    · exact zNL_lk o r s h3
    · exact h2
  | [], _ :: _, hh => hh.elim
  | _ :: _, [], hh => hh.elim
theorem nz_zops {ρ : Type} : zNL (ρ := ρ) zops zops := ⟨rfl, nz_zopush _ _, ⟨rfl, nz_zopush _ _, ⟨rfl, nz_zopush _ _, ⟨rfl, nz_zopush _ _, ⟨rfl, nz_zopush _ _, ⟨rfl, nz_zopush _ _, ⟨rfl, nz_zopush _ _, ⟨rfl, nz_zonull, ⟨rfl, nz_zopush _ _, ⟨rfl, nz_zoload _ _, ⟨rfl, nz_zoload _ _, ⟨rfl, nz_zoload _ _, ⟨rfl, nz_zoload _ _, ⟨rfl, nz_zoaload _, ⟨rfl, nz_zoaload _, ⟨rfl, nz_zosto _ _, ⟨rfl, nz_zosto _ _, ⟨rfl, nz_zosto2 _ _, ⟨rfl, nz_zosto2 _ _, ⟨rfl, nz_zoasto _, ⟨rfl, nz_zoasto _, ⟨rfl, nz_zoinc, ⟨rfl, nz_zobin _ _ _, ⟨rfl, nz_zobin _ _ _, ⟨rfl, nz_zobin _ _ _, ⟨rfl, nz_zodiv _, ⟨rfl, nz_zodiv _, ⟨rfl, nz_zobin _ _ _, ⟨rfl, nz_zobin _ _ _, ⟨rfl, nz_zobin _ _ _, ⟨rfl, nz_zobin _ _ _, ⟨rfl, nz_zobin _ _ _, ⟨rfl, nz_zobin _ _ _, ⟨rfl, nz_zoun _ _ _, ⟨rfl, nz_zoun _ _ _, ⟨rfl, nz_zoun _ _ _, ⟨rfl, nz_zobin _ _ _, ⟨rfl, nz_zobin _ _ _, ⟨rfl, nz_zobin _ _ _, ⟨rfl, nz_zobin _ _ _, ⟨rfl, nz_zodup, ⟨rfl, nz_zodup2, ⟨rfl, nz_zopop, ⟨rfl, nz_zoif _ _, ⟨rfl, nz_zoif _ _, ⟨rfl, nz_zoif _ _, ⟨rfl, nz_zoif _ _, ⟨rfl, nz_zoif _ _, ⟨rfl, nz_zoif _ _, ⟨rfl, nz_zoicmp _ _, ⟨rfl, nz_zoicmp _ _, ⟨rfl, nz_zoicmp _ _, ⟨rfl, nz_zoicmp _ _, ⟨rfl, nz_zoicmp _ _, ⟨rfl, nz_zoicmp _ _, ⟨rfl, nz_zogoto, ⟨rfl, nz_zoifnull _, ⟨rfl, nz_zoifnull _, ⟨rfl, nz_zoacmp _, ⟨rfl, nz_zoacmp _, ⟨rfl, nz_zoswt, ⟨rfl, nz_zoswt, ⟨rfl, nz_zogetf, ⟨rfl, nz_zogetf, ⟨rfl, nz_zoputf, ⟨rfl, nz_zoputf, ⟨rfl, nz_zoald _ _, ⟨rfl, nz_zoald _ _, ⟨rfl, nz_zoald _ _, ⟨rfl, nz_zoald _ _, ⟨rfl, nz_zoald _ _, ⟨rfl, nz_zoaald, ⟨rfl, nz_zosld, ⟨rfl, nz_zoslen, ⟨rfl, nz_zoast _ _, ⟨rfl, nz_zoast _ _, ⟨rfl, nz_zoast _ _, ⟨rfl, nz_zoast _ _, ⟨rfl, nz_zoast _ _, ⟨rfl, nz_zoaast, ⟨rfl, nz_zoalen, ⟨rfl, nz_zonewa, ⟨rfl, nz_zoanew, ⟨rfl, nz_zonew, ⟨rfl, nz_zocallv, ⟨rfl, nz_zocallv, ⟨rfl, nz_zocallh, ⟨rfl, nz_zocalls, ⟨rfl, nz_zocalls, ⟨rfl, nz_zocalli, ⟨rfl, nz_zocalli, ⟨rfl, nz_zoobj, ⟨rfl, nz_zocopy, ⟨rfl, nz_zostix, ⟨rfl, nz_zoret _, ⟨rfl, nz_zoret _, ⟨rfl, nz_zoret _, ⟨rfl, nz_zoret _, ⟨rfl, nz_zoaret, ⟨rfl, nz_zovret, ⟨rfl, nz_zothr, ⟨rfl, nz_zopush _ _, ⟨rfl, nz_zopush _ _, ⟨rfl, nz_zoun _ _ _, ⟨rfl, nz_zoun _ _ _, ⟨rfl, nz_zofdiv, ⟨rfl, nz_zoun _ _ _, ⟨rfl, nz_zoun _ _ _, ⟨rfl, nz_zoddiv, ⟨rfl, nz_zof2d, ⟨rfl, nz_zobin _ _ _, ⟨rfl, nz_zobin _ _ _, ⟨rfl, nz_zoload _ _, ⟨rfl, nz_zoload _ _, ⟨rfl, nz_zosto _ _, ⟨rfl, nz_zosto _ _, ⟨rfl, nz_zoload _ _, ⟨rfl, nz_zoload _ _, ⟨rfl, nz_zosto2 _ _, ⟨rfl, nz_zosto2 _ _, trivial⟩⟩⟩⟩⟩⟩⟩⟩⟩⟩⟩⟩⟩⟩⟩⟩⟩⟩⟩⟩⟩⟩⟩⟩⟩⟩⟩⟩⟩⟩⟩⟩⟩⟩⟩⟩⟩⟩⟩⟩⟩⟩⟩⟩⟩⟩⟩⟩⟩⟩⟩⟩⟩⟩⟩⟩⟩⟩⟩⟩⟩⟩⟩⟩⟩⟩⟩⟩⟩⟩⟩⟩⟩⟩⟩⟩⟩⟩⟩⟩⟩⟩⟩⟩⟩⟩⟩⟩⟩⟩⟩⟩⟩⟩⟩⟩⟩⟩⟩⟩⟩⟩⟩⟩⟩⟩⟩⟩⟩⟩⟩⟩⟩⟩⟩⟩⟩⟩⟩⟩
theorem nz_stp {ρ : Type} : zNP (ρ := ρ) zstp zstp := by
  intro e P al callA callZ I kontA kontZ krA krZ ktA ktZ hc hk hr ht pc ls st h
  obtain ⟨o, x, u, v⟩ := I
  unfold zstp
  dsimp only
  rw [zsel_eq, zsel_eq]
  exact zNL_lk o _ _ nz_zops e P al callA callZ (o, x, u, v) kontA kontZ krA krZ ktA ktZ hc hk hr ht pc ls st h
/-- a stretch of a method, seen by e -/
theorem zseg_e {ρ : Type} (e : zRes → Option ρ) {P : zP} {al : Bool} {callA : Nat → List Int → zH → (Int → zH → Option ρ) → (Nat → zH → Option ρ) → Option ρ} {callZ : Nat → List Int → zH → (Int → zH → Option zRes) → (Nat → zH → Option zRes) → Option zRes} {code : Nat → zI} {cut : Nat → Option (List Bool)} {OA : Nat → List (Option zV) → List zV → zH → Option ρ} {OZ : Nat → List (Option zV) → List zV → zH → Option zRes} {krA : Int → zH → Option ρ} {krZ : Int → zH → Option zRes} {ktA : Nat → zH → Option ρ} {ktZ : Nat → zH → Option zRes}
    (hc : ∀ j as h k t, (callZ j as h k t).bind e = callA j as h (fun v h => (k v h).bind e) (fun n h => (t n h).bind e))
    (hO : ∀ pc ls st h, (OZ pc ls st h).bind e = OA pc ls st h) (hr : ∀ v h, (krZ v h).bind e = krA v h) (ht : ∀ n h, (ktZ n h).bind e = ktA n h) :
    ∀ f pc ls st h, (zseg P al callZ code cut OZ krZ ktZ f pc ls st h).bind e = zseg P al callA code cut OA krA ktA f pc ls st h
  | 0, _, _, _, _ => rfl
  | f + 1, pc, ls, st, h => by
    unfold zseg
    refine nz_stp e P al callA callZ (code pc) _ _ krA krZ ktA ktZ hc (fun pc ls st h => ?_) hr ht pc ls st h
    cases cut pc with
    | none => exact zseg_e e hc hO hr ht f pc ls st h
    | some bm => exact hO pc (zmask bm ls) st h
