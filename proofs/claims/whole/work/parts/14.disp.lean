/-! EVERY INSTRUCTION: what is to be checked of it, and that it is sound -/
def zsub (t : Nat) : List Cond := match t with
  | 0 => k2_sels lw_privs_1
  | 1 => k2_sels lw_privs_2
  | 2 => k2_sels lw_privs_3
  | 3 => k2_sels lw_privs_4
  | 4 => k2_sels lw_privs_5
  | 5 => k2_sels lw_privs_6
  | 6 => k2_sels lw_privs_7
  | 7 => tables_1_1
  | 8 => tables_1_2
  | 9 => tables_1_3
  | 10 => tables_1_4
  | 11 => tables_1_5
  | 12 => tables_1_6
  | 13 => tables_1_7
  | 14 => tables_1_8
  | 15 => tables_1_9
  | 16 => tables_1_10
  | _ => []
/-- a word of the tables: table and place -/
def zat (n : Nat) : Option Cond := (zsub (n / 1000))[n % 1000]?
theorem zsels_in {a b : List (MethodName × Nat)} {w : Cond} (h : w ∈ k2_sels a) (hab : ∀ x ∈ a, x ∈ b) : w ∈ k2_sels b := by
  unfold k2_sels at h ⊢
  obtain ⟨x, hx, rfl⟩ := List.mem_map.mp h
  exact List.mem_map.mpr ⟨x, hab x hx, rfl⟩
theorem zat_in {n : Nat} {w : Cond} (h : zat n = some w) : w ∈ lw_tbl := by
  unfold zat at h
  have h := List.mem_of_getElem? h
  unfold lw_tbl
  generalize n / 1000 = t at h
  unfold zsub at h
  split at h
  · exact List.mem_append.mpr (Or.inl (zsels_in h (fun x hx => by unfold lw_privs; exact List.mem_append.mpr (Or.inl hx))))
  · exact List.mem_append.mpr (Or.inl (zsels_in h (fun x hx => by unfold lw_privs; exact List.mem_append.mpr (Or.inr (List.mem_append.mpr (Or.inl hx))))))
  · exact List.mem_append.mpr (Or.inl (zsels_in h (fun x hx => by unfold lw_privs; exact List.mem_append.mpr (Or.inr (List.mem_append.mpr (Or.inr (List.mem_append.mpr (Or.inl hx))))))))
  · exact List.mem_append.mpr (Or.inl (zsels_in h (fun x hx => by unfold lw_privs; exact List.mem_append.mpr (Or.inr (List.mem_append.mpr (Or.inr (List.mem_append.mpr (Or.inr (List.mem_append.mpr (Or.inl hx))))))))))
  · exact List.mem_append.mpr (Or.inl (zsels_in h (fun x hx => by unfold lw_privs; exact List.mem_append.mpr (Or.inr (List.mem_append.mpr (Or.inr (List.mem_append.mpr (Or.inr (List.mem_append.mpr (Or.inr (List.mem_append.mpr (Or.inl hx))))))))))))
  · exact List.mem_append.mpr (Or.inl (zsels_in h (fun x hx => by unfold lw_privs; exact List.mem_append.mpr (Or.inr (List.mem_append.mpr (Or.inr (List.mem_append.mpr (Or.inr (List.mem_append.mpr (Or.inr (List.mem_append.mpr (Or.inr (List.mem_append.mpr (Or.inl hx))))))))))))))
  · exact List.mem_append.mpr (Or.inl (zsels_in h (fun x hx => by unfold lw_privs; exact List.mem_append.mpr (Or.inr (List.mem_append.mpr (Or.inr (List.mem_append.mpr (Or.inr (List.mem_append.mpr (Or.inr (List.mem_append.mpr (Or.inr (List.mem_append.mpr (Or.inr hx))))))))))))))
  · exact List.mem_append.mpr (Or.inr (by unfold tables_1; exact List.mem_append.mpr (Or.inl h)))
  · exact List.mem_append.mpr (Or.inr (by unfold tables_1; exact List.mem_append.mpr (Or.inr (List.mem_append.mpr (Or.inl h)))))
  · exact List.mem_append.mpr (Or.inr (by unfold tables_1; exact List.mem_append.mpr (Or.inr (List.mem_append.mpr (Or.inr (List.mem_append.mpr (Or.inl h)))))))
  · exact List.mem_append.mpr (Or.inr (by unfold tables_1; exact List.mem_append.mpr (Or.inr (List.mem_append.mpr (Or.inr (List.mem_append.mpr (Or.inr (List.mem_append.mpr (Or.inl h)))))))))
  · exact List.mem_append.mpr (Or.inr (by unfold tables_1; exact List.mem_append.mpr (Or.inr (List.mem_append.mpr (Or.inr (List.mem_append.mpr (Or.inr (List.mem_append.mpr (Or.inr (List.mem_append.mpr (Or.inl h)))))))))))
  · exact List.mem_append.mpr (Or.inr (by unfold tables_1; exact List.mem_append.mpr (Or.inr (List.mem_append.mpr (Or.inr (List.mem_append.mpr (Or.inr (List.mem_append.mpr (Or.inr (List.mem_append.mpr (Or.inr (List.mem_append.mpr (Or.inl h)))))))))))))
  · exact List.mem_append.mpr (Or.inr (by unfold tables_1; exact List.mem_append.mpr (Or.inr (List.mem_append.mpr (Or.inr (List.mem_append.mpr (Or.inr (List.mem_append.mpr (Or.inr (List.mem_append.mpr (Or.inr (List.mem_append.mpr (Or.inr (List.mem_append.mpr (Or.inl h)))))))))))))))
  · exact List.mem_append.mpr (Or.inr (by unfold tables_1; exact List.mem_append.mpr (Or.inr (List.mem_append.mpr (Or.inr (List.mem_append.mpr (Or.inr (List.mem_append.mpr (Or.inr (List.mem_append.mpr (Or.inr (List.mem_append.mpr (Or.inr (List.mem_append.mpr (Or.inr (List.mem_append.mpr (Or.inl h)))))))))))))))))
  · exact List.mem_append.mpr (Or.inr (by unfold tables_1; exact List.mem_append.mpr (Or.inr (List.mem_append.mpr (Or.inr (List.mem_append.mpr (Or.inr (List.mem_append.mpr (Or.inr (List.mem_append.mpr (Or.inr (List.mem_append.mpr (Or.inr (List.mem_append.mpr (Or.inr (List.mem_append.mpr (Or.inr (List.mem_append.mpr (Or.inl h)))))))))))))))))))
  · exact List.mem_append.mpr (Or.inr (by unfold tables_1; exact List.mem_append.mpr (Or.inr (List.mem_append.mpr (Or.inr (List.mem_append.mpr (Or.inr (List.mem_append.mpr (Or.inr (List.mem_append.mpr (Or.inr (List.mem_append.mpr (Or.inr (List.mem_append.mpr (Or.inr (List.mem_append.mpr (Or.inr (List.mem_append.mpr (Or.inr (h))))))))))))))))))))
  · cases h
def zw (wi : List Nat) (k : Nat) (w : Cond) : Bool := decide (zat (zget 0 wi k) = some w) && goodWord w
theorem zw_in {wi : List Nat} {k : Nat} {w : Cond} (h : zw wi k w = true) : w ∈ zT := List.mem_filter.mpr ⟨zat_in (of_decide_eq_true (zand_t h).1), (zand_t h).2⟩
def zok (cc : ByteArray) (pc : Nat) (i : Instr) (n : Nat) : Bool := decide (decode cc pc = .ok (i, n))
theorem zok_d {cc : ByteArray} {pc : Nat} {i : Instr} {n : Nat} (h : zok cc pc i n = true) : decode cc pc = .ok (i, n) := of_decide_eq_true h
/-- callees: name, frames, locals' words, most locals, parameters, may throw, way of reading -/
abbrev zinfo : Type := MethodName × Nat × Nat × Nat × Nat × Bool × ByteArray × Option FieldType × Option (List (Nat × Nat × Nat × Nat))
def zicw (f : zinfo) : Cond := match f.2.2.2.2.2.2.2.2 with
  | none => .code f.1 f.2.2.2.2.2.2.1 f.2.2.2.1 f.2.2.2.2.2.2.2.1
  | some hh => .codeWith f.1 f.2.2.2.2.2.2.1 f.2.2.2.1 f.2.2.2.2.2.2.2.1 hh
/-- a method's facts out of its word -/
def zinf (i fr lo np : Nat) (th : Bool) : zinfo := match zat i with
  | some (.code y b n r) => (y, fr, lo, n, np, th, b, r, none)
  | some (.codeWith y b n r hh) => (y, fr, lo, n, np, th, b, r, some hh)
  | _ => (Lib.objectInit, fr, lo, 1, np, th, ⟨#[]⟩, none, none)
def zixi : zinfo := zinf 9061 5 120 1 false
def zf4 (u : Nat) : Fin 4 := Fin.ofNat 4 u
def zswl (cc : ByteArray) (pc : Nat) (u : Nat) : Bool := match decode cc pc with
  | .ok (.lookupswitch dd ps, _) => (ps.toList.zip (ps.toList.drop 1)).all (fun (a, next) => a.1 < next.1) && decide ((pc : Int) + dd = ((zget ([], 0) zPP.2.2.1 u).2 : Int)) && decide ((zget ([], 0) zPP.2.2.1 u).1.length = ps.toList.length) && ((zget ([], 0) zPP.2.2.1 u).1.zip ps.toList).all (fun q => decide (q.1.1 = q.2.1) && decide ((pc : Int) + q.2.2 = (q.1.2 : Int)))
  | _ => false
def zswt2 (cc : ByteArray) (pc : Nat) (u : Nat) : Bool := match decode cc pc with
  | .ok (.tableswitch dd lo hi os, _) => decide ((pc : Int) + dd = ((zget ([], 0) zPP.2.2.1 u).2 : Int)) && decide (hi = lo + os.toList.length - 1) && decide ((zget ([], 0) zPP.2.2.1 u).1.length = os.toList.length) && ((zget ([], 0) zPP.2.2.1 u).1.zip os.toList).all (fun q => decide ((pc : Int) + q.2 = (q.1.2 : Int))) && ((zget ([], 0) zPP.2.2.1 u).1.zip (List.range (zget ([], 0) zPP.2.2.1 u).1.length)).all (fun q => decide (q.1.1 = lo + (q.2 : Int)))
  | _ => false
/-- the static facts of a callee, its descriptor among them -/
def zcbb (wi : List Nat) (k : Nat) (fr lo : Nat) (f : zinfo) : Bool := Nat.ble (f.2.1 + 1) fr && Nat.ble (8 + (f.2.2.2.1 + 11) + f.2.2.1) lo && zw wi k (.initialized f.1.cls) && decide (f.1.cls ≠ "java/lang/invoke/MethodHandle") && decide (f.1.cls ≠ "java/lang/invoke/VarHandle") && decide ((parseMethodDescriptor f.1.desc).map (fun d => d.parameters.length) = some f.2.2.2.2.1)
def zrvb (j : Nat) (f : zinfo) : Bool := Nat.blt (zsig zPP j).2.2.2 13 && decide ((zsig zPP j).2.1.reverse = (100 + (zsig zPP j).2.2.2) :: (zsig zPP j).2.1.reverse.tail) && decide (zCn (zsig zPP j).2.2.2 = f.1.cls) && decide ((zsig zPP j).2.1.reverse.tail.length = f.2.2.2.2.1)
def zhokb (own : String) (pc : Nat) (wi : List Nat) (tb : List ExceptionTableEntry) (hl : List (Nat × Nat)) : Bool := decide (tb.length = hl.length) && ((tb.zip hl).zip (List.range hl.length)).all (fun z => covers z.1.1 pc && decide (z.1.1.handlerPc = z.1.2.2) && decide (z.1.1.catchType ≠ 0) && zw wi (4 + z.2) (.classLink own z.1.1.catchType (zexc z.1.2.1)) && decide ((zexc z.1.2.1, zexc z.1.2.1) ∈ zLC)) && (List.range hl.length).all (fun j => (List.range j).all fun i => decide ((zexc (zget (0, 0) hl j).1, zexc (zget (0, 0) hl i).1) ∈ zNC))
def zlmb (own : String) (ix : Nat) (y : MethodName) : Bool := zLM.any fun q => decide (q.1 = own) && decide (q.2.1 = ix) && decide (q.2.2.1 = y)
theorem zlm_go {own : String} {ix : Nat} {y : MethodName} (h : zlmb own ix y = true) : ∃ host, (own, ix, y, host) ∈ zLM := by
  obtain ⟨⟨a, b, c, d⟩, hq, hp⟩ := List.any_eq_true.mp h
  obtain ⟨hp, h3⟩ := zand_t hp
  obtain ⟨h1, h2⟩ := zand_t hp
  cases of_decide_eq_true h1
  cases of_decide_eq_true h2
  cases of_decide_eq_true h3
  exact ⟨d, hq⟩
theorem zicw_n {f : zinfo} (h : f.2.2.2.2.2.2.2.2.isNone = true) : zicw f = .code f.1 f.2.2.2.2.2.2.1 f.2.2.2.1 f.2.2.2.2.2.2.2.1 := by
  unfold zicw
  cases hf : f.2.2.2.2.2.2.2.2 with
  | none => rfl
  | some _ => rw [hf] at h; cases h
theorem zicw_v {f : zinfo} (h : f.2.2.2.2.2.2.2.2.isNone = true) (h1 : f.2.2.2.2.2.2.2.1.isNone = true) : zicw f = .code f.1 f.2.2.2.2.2.2.1 f.2.2.2.1 none := by
  rw [zicw_n h]
  cases hf : f.2.2.2.2.2.2.2.1 with
  | none => rfl
  | some _ => rw [hf] at h1; cases h1
theorem zicw_s {f : zinfo} {hh : List (Nat × Nat × Nat × Nat)} (h : f.2.2.2.2.2.2.2.2 = some hh) : zicw f = .codeWith f.1 f.2.2.2.2.2.2.1 f.2.2.2.1 f.2.2.2.2.2.2.2.1 hh := by
  unfold zicw
  rw [h]
theorem zcbb_go {own : String} {ix : Nat} {R : Room} {wi : List Nat} {k fr lo : Nat} {f : zinfo} (h : zcbb wi k fr lo f = true) (hw : zicw f ∈ zT) (hRf : R.frames = fr) (hRl : R.locals = lo) : zcb own R ix f.1 (zicw f) f.2.1 f.2.2.1 f.2.2.2.1 f.2.2.2.2.1 := by
  obtain ⟨h, h6⟩ := zand_t h
  obtain ⟨h, h5⟩ := zand_t h
  obtain ⟨h, h4⟩ := zand_t h
  obtain ⟨h, h3⟩ := zand_t h
  obtain ⟨h1, h2⟩ := zand_t h
  exact ⟨hw, hRf ▸ Nat.le_of_ble_eq_true h1, hRl ▸ Nat.le_of_ble_eq_true h2, zw_in h3, ⟨of_decide_eq_true h4, of_decide_eq_true h5⟩, of_decide_eq_true h6⟩
theorem zrvb_go {j : Nat} {f : zinfo} (h : zrvb j f = true) : (zsig zPP j).2.2.2 < 13 ∧ (zsig zPP j).2.1.reverse = (100 + (zsig zPP j).2.2.2) :: (zsig zPP j).2.1.reverse.tail ∧ zCn (zsig zPP j).2.2.2 = f.1.cls ∧ (zsig zPP j).2.1.reverse.tail.length = f.2.2.2.2.1 := by
  obtain ⟨h, h4⟩ := zand_t h
  obtain ⟨h, h3⟩ := zand_t h
  obtain ⟨h1, h2⟩ := zand_t h
  exact ⟨Nat.le_of_ble_eq_true h1, of_decide_eq_true h2, of_decide_eq_true h3, of_decide_eq_true h4⟩
theorem zget_eq {α : Type} {d x : α} : ∀ {l : List α} {i : Nat}, l[i]? = some x → zget d l i = x
  | [], _, h => by cases h
  | _ :: _, 0, h => Option.some.inj h
  | _ :: l, i + 1, h => zget_eq (l := l) (i := i) h
theorem zhokb_go {own : String} {pc : Nat} {wi : List Nat} {tb : List ExceptionTableEntry} {hl : List (Nat × Nat)} (h : zhokb own pc wi tb hl = true) : zhok own pc tb hl := by
  obtain ⟨h, h3⟩ := zand_t h
  obtain ⟨h1, h2⟩ := zand_t h
  have h1 := of_decide_eq_true h1
  refine ⟨h1, fun z hz => ?_, fun i j hij q q' hq hq' => ?_⟩
  · obtain ⟨i, hi⟩ := List.mem_iff_getElem?.mp hz
    have hil : i < hl.length := by
      have := (List.getElem?_eq_some_iff.mp hi).1
      rw [List.length_zip] at this
      omega
    have hm : (z, i) ∈ (tb.zip hl).zip (List.range hl.length) := List.mem_of_getElem? (i := i) (by rw [List.getElem?_zip_eq_some]; exact ⟨hi, by rw [List.getElem?_range hil]⟩)
    have g := List.all_eq_true.mp h2 _ hm
    obtain ⟨g, g5⟩ := zand_t g
    obtain ⟨g, g4⟩ := zand_t g
    obtain ⟨g, g3⟩ := zand_t g
    obtain ⟨g1, g2⟩ := zand_t g
    exact ⟨g1, of_decide_eq_true g2, of_decide_eq_true g3, zw_in g4, of_decide_eq_true g5⟩
  · have hj : j < hl.length := (List.getElem?_eq_some_iff.mp hq').1
    have g := of_decide_eq_true (List.all_eq_true.mp (List.all_eq_true.mp h3 j (List.mem_range.mpr hj)) i (List.mem_range.mpr hij))
    rw [zget_eq hq', zget_eq hq] at g
    exact g
def zLAY : List (List Nat) := [[340, 342, 344], [158, 160, 162, 164], [254, 256, 258, 260, 262, 264, 266, 268, 270, 272, 274], [189, 191, 193, 195], [221, 223, 225, 227, 229, 231, 233, 235], [322, 324, 326, 328, 330, 332, 334], [303, 305, 307, 309, 311], [517, 519, 521, 523, 525], [620, 622, 624, 626], [867, 869, 871, 873, 875, 877, 879, 881, 883, 885, 887, 889, 891, 893, 895, 897, 899, 901, 903], [1067, 1069, 1071, 1073, 1075, 1077, 1079, 1081], [1104, 1106, 1108, 1110, 1112, 1114, 1116], [1720, 1722, 1724, 1726, 1728, 1730, 1732, 1734, 1736, 1738, 1740, 1742, 1744, 1746, 1748, 1750, 1752, 1754, 1756, 1758, 1760, 1762, 1764, 1766, 1768, 1770, 1772, 1774, 1776, 1778, 1780, 1782, 1784, 1786, 1788, 1790, 1792, 1794, 1796, 1798, 1800, 1802, 1804, 1806, 1808, 1810, 1812, 1814, 1816, 1818, 1820, 1822, 1824, 1826, 1828, 1830, 1832, 1834, 1836, 1838, 1840, 1842, 1844, 1846, 1848, 1850, 1852, 1854, 1856, 1858, 1860, 1862, 1864, 1866]]
set_option maxRecDepth 100000 in
set_option maxHeartbeats 0 in
theorem zC_wk : ((List.range 13).all fun c => (List.range (zCk c)).all fun k => decide (lw_tbl[zget 0 (zget [] zLAY c) k]? = some (u_lay (zCn c) (zCf c) k)) && goodWord (u_lay (zCn c) (zCf c) k)) = true := by decide +kernel
theorem zC_w : ∀ c, c < 13 → ∀ w ∈ u_ws (zCn c) (zCf c) (zCk c), w ∈ zT := fun c hc w hw => by
  obtain ⟨k, hk, rfl⟩ := List.mem_map.mp hw
  exact zT_of (List.all_eq_true.mp (List.all_eq_true.mp zC_wk c (List.mem_range.mpr hc)) k hk)
def zckn (cc : ByteArray) (pc : Nat) (I : zI) (wi : List Nat) : Bool := (decide (zft zPP I.2.2.2 0 = 0) && zok cc pc (.newarray .int) 2 && zw wi 0 (.arrayClass (newarray.typeOf .int))) || (decide (zft zPP I.2.2.2 0 = 1) && zok cc pc (.newarray .boolean) 2 && zw wi 0 (.arrayClass (newarray.typeOf .boolean))) || (decide (zft zPP I.2.2.2 0 = 2) && zok cc pc (.newarray .char) 2 && zw wi 0 (.arrayClass (newarray.typeOf .char))) || (decide (zft zPP I.2.2.2 0 = 3) && zok cc pc (.newarray .long) 2 && zw wi 0 (.arrayClass (newarray.typeOf .long))) || (decide (zft zPP I.2.2.2 0 = 6) && zok cc pc (.newarray .double) 2 && zw wi 0 (.arrayClass (newarray.typeOf .double)))
section
variable {p : Program} {l : Launch} {e : Env} {R : Room} {s : State} {m : MethodId} {args : Array Value} {below : List Frame} {meth : Method} {c : Code} {Q : State → Prop} {A : Nat → Prop} {H0 : Heap} {σ : Nat → Nat} {cA : Nat → ClassId} {D : va_G} {b L : Nat} {xs : Nat → Int32} {al : Bool} {C0 S0 : Nat} {μ0 : Nat → Nat → Nat} {N0 : Nat → Nat} {nL : Nat}
variable {r : zRes} {kont : Nat → List (Option zV) → List zV → zH → Option zRes} {kret : Int → zH → Option zRes} {kthr : Nat → zH → Option zRes} {call : Nat → List Int → zH → (Int → zH → Option zRes) → (Nat → zH → Option zRes) → Option zRes} {cc : ByteArray} {own : String} {pc : Nat}
theorem zs_getfN2 (hx : p.tables.exec = Jvm.exec) (hb : c.code = cc) (hk : ∀ pc ls st h, kont pc ls st h = some r → zGo p l e R s m args below meth c Q A H0 σ cA D b L xs al C0 S0 μ0 N0 nL r pc ls st h) (hts : ∀ w ∈ zT, w.before args s = true) (hcw : ∀ c, c < 13 → ∀ w ∈ u_ws (zCn c) (zCf c) (zCk c), w ∈ zT) (hown : s.vm.findClass own = some m.cls) (hK : va_K D zcl (ztys cA) s) {I : zI} {host : String} (hdg : decode cc pc = .ok (.getfield I.2.2.1, 3)) (hw : (Cond.fieldLinkNest own I.2.2.1 (zCn I.2.1.toNat) (zCf I.2.1.toNat I.2.2.2).2.1 (zCf I.2.1.toNat I.2.2.2).2.2.1 host).before args s = true) {ls : List (Option zV)} {st : List zV} {h : zH} (hr : zogetf zPP al call I kont kret kthr pc ls st h = some r) : zGo p l e R s m args below meth c Q A H0 σ cA D b L xs al C0 S0 μ0 N0 nL r pc ls st h := by
  rcases st with _ | ⟨⟨t1, x1⟩, st⟩
  · cases hr
  · simp only [zogetf] at hr
    obtain ⟨hc, hr⟩ := zif_some hr
    obtain ⟨hc, hk3⟩ := zand_t hc
    obtain ⟨hc1, hc2⟩ := zand_t hc
    have hc13 : I.2.1.toNat < 13 := Nat.lt_succ_of_le (Nat.le_of_ble_eq_true hc2)
    have hk3 : I.2.2.2 < znf zPP I.2.1.toNat := Nat.le_of_ble_eq_true hk3
    obtain ⟨q, hq, hr, hp⟩ := zobm_some hr
    obtain ⟨hm, hg⟩ := hk _ _ _ _ hr
    refine ⟨hm, fun ws μ pos H locs lsJ stJ hat hl hs => ?_⟩
    obtain ⟨v1, sJ1, rfl, hv1, hs1⟩ := hs.cons
    rw [Nat.eq_of_beq_eq_true hc1] at hv1
    cases zref_at hq hv1
    have hp' := zat_N hat hp
    obtain ⟨fs, f1, f2, f3⟩ := hat.1.obj hc13 hp'
    obtain ⟨v, f4, f5⟩ := f3 _ hk3
    rw [zat_D hat hc13 hk3 hp] at hg
    refine va_getN hx hb hts (hcw _ hc13) hown hK hat.2.1 (pos I.2.1.toNat q) f1 (zcl_at hc13) I.2.2.2 (by rw [(zC_ok _ hc13).1]; exact hk3) hw (fun x h9 => by rw [zC_own _ hc13 _ (by rw [(zC_ok _ hc13).1]; exact hk3)] at h9; exact h9) f4 hdg ?_
    exact hg ws μ pos H locs lsJ _ hat hl ⟨f5, hs1⟩
theorem zckn_go (hx : p.tables.exec = Jvm.exec) (hb : c.code = cc) (hk : ∀ pc ls st h, kont pc ls st h = some r → zGo p l e R s m args below meth c Q A H0 σ cA D b L xs al C0 S0 μ0 N0 nL r pc ls st h) (hA : ∀ q, H0.size ≤ q → A q) (hRc : zhC (zrh r) - C0 ≤ R.cells) (hRs : zhS (zrh r) - S0 ≤ R.slots) (hts : ∀ w ∈ zT, w.before args s = true) (hK : va_K D zcl (ztys cA) s) {I : zI} {wi : List Nat} (hck : zckn cc pc I wi = true) {ls : List (Option zV)} {st : List zV} {h : zH} (hr : zonewa zPP al call I kont kret kthr pc ls st h = some r) : zGo p l e R s m args below meth c Q A H0 σ cA D b L xs al C0 S0 μ0 N0 nL r pc ls st h := by
  unfold zckn at hck
  rcases Bool.or_eq_true_iff.mp hck with hck | hck
  rotate_left
  · obtain ⟨hck, h3⟩ := zand_t hck
    obtain ⟨h1, h2⟩ := zand_t hck
    exact zs_newa_d hx hb hk hA hRc hRs hts hK (of_decide_eq_true h1) (zok_d h2) (zw_in h3) hr
  rcases Bool.or_eq_true_iff.mp hck with hck | hck
  rotate_left
  · obtain ⟨hck, h3⟩ := zand_t hck
    obtain ⟨h1, h2⟩ := zand_t hck
    exact zs_newa_l hx hb hk hA hRc hRs hts hK (of_decide_eq_true h1) (zok_d h2) (zw_in h3) hr
  rcases Bool.or_eq_true_iff.mp hck with hck | hck
  rotate_left
  · obtain ⟨hck, h3⟩ := zand_t hck
    obtain ⟨h1, h2⟩ := zand_t hck
    exact zs_newa_c hx hb hk hA hRc hRs hts hK (of_decide_eq_true h1) (zok_d h2) (zw_in h3) hr
  rcases Bool.or_eq_true_iff.mp hck with hck | hck
  rotate_left
  · obtain ⟨hck, h3⟩ := zand_t hck
    obtain ⟨h1, h2⟩ := zand_t hck
    exact zs_newa_z hx hb hk hA hRc hRs hts hK (of_decide_eq_true h1) (zok_d h2) (zw_in h3) hr
  obtain ⟨hck, h3⟩ := zand_t hck
  obtain ⟨h1, h2⟩ := zand_t hck
  exact zs_newa_i hx hb hk hA hRc hRs hts hK (of_decide_eq_true h1) (zok_d h2) (zw_in h3) hr
theorem zswl_go (hx : p.tables.exec = Jvm.exec) (hb : c.code = cc) (hk : ∀ pc ls st h, kont pc ls st h = some r → zGo p l e R s m args below meth c Q A H0 σ cA D b L xs al C0 S0 μ0 N0 nL r pc ls st h) {I : zI} (hck : zswl cc pc I.2.2.1 = true) {ls : List (Option zV)} {st : List zV} {h : zH} (hr : zoswt zPP al call I kont kret kthr pc ls st h = some r) : zGo p l e R s m args below meth c Q A H0 σ cA D b L xs al C0 S0 μ0 N0 nL r pc ls st h := by
  unfold zswl at hck
  split at hck
  · rename_i hd
    obtain ⟨hck, h4⟩ := zand_t hck
    obtain ⟨hck, h3⟩ := zand_t hck
    obtain ⟨h1, h2⟩ := zand_t hck
    exact zs_lookup hx hb hk hd h1 (of_decide_eq_true h2) (of_decide_eq_true h3) h4 hr
  · cases hck
theorem zswt2_go (hx : p.tables.exec = Jvm.exec) (hb : c.code = cc) (hk : ∀ pc ls st h, kont pc ls st h = some r → zGo p l e R s m args below meth c Q A H0 σ cA D b L xs al C0 S0 μ0 N0 nL r pc ls st h) {I : zI} (hck : zswt2 cc pc I.2.2.1 = true) {ls : List (Option zV)} {st : List zV} {h : zH} (hr : zoswt zPP al call I kont kret kthr pc ls st h = some r) : zGo p l e R s m args below meth c Q A H0 σ cA D b L xs al C0 S0 μ0 N0 nL r pc ls st h := by
  unfold zswt2 at hck
  split at hck
  · rename_i hd
    obtain ⟨hck, h5⟩ := zand_t hck
    obtain ⟨hck, h4⟩ := zand_t hck
    obtain ⟨hck, h3⟩ := zand_t hck
    obtain ⟨h1, h2⟩ := zand_t hck
    exact zs_table hx hb hk hd (of_decide_eq_true h1) (of_decide_eq_true h2) (of_decide_eq_true h3) h4 h5 hr
  · cases hck
/-- what the callees' oracle gives -/
def zKall (l : Launch) (al : Bool) (zi : Nat → zinfo) (call : Nat → List Int → zH → (Int → zH → Option zRes) → (Nat → zH → Option zRes) → Option zRes) (r : zRes) : Prop := ∀ j as h k t, call j as h k t = some r →
  ((zi j).2.2.2.2.2.1 = false → ∃ (v : Int) (h1 : zH), k v h1 = some r ∧ (zhC h ≤ zhC h1 ∧ zhS h ≤ zhS h1) ∧ zMet l al (zi j).1 (zicw (zi j)) (zi j).2.1 (zi j).2.2.1 (zsig zPP j).2.1.reverse (zsig zPP j).2.2.1 as h v h1) ∧
  ((zi j).2.2.2.2.2.1 = true → ∃ r1 : zRes, zel k t r1 = some r ∧ (zhC h ≤ zhC (zrh r1) ∧ zhS h ≤ zhS (zrh r1)) ∧ zMetX l al (zi j).1 (zicw (zi j)) (zi j).2.1 (zi j).2.2.1 (zsig zPP j).2.1.reverse (zsig zPP j).2.2.1 as h r1)
abbrev zCk0 : Type := ByteArray → String → Bool → Nat → Nat → List ExceptionTableEntry → Nat → zI → List Nat → (Nat → zinfo) → Bool
def zckno : zCk0 := fun _ _ _ _ _ _ _ _ _ _ => false
def zPL (P : zCk0 → zO zRes → Prop) : List (Nat × zCk0) → List (Nat × zO zRes) → Prop
  | [], [] => True
  | (a, f) :: r, (b, g) :: s => a = b ∧ P f g ∧ zPL P r s
  | _, _ => False
theorem zPL_lk {P : zCk0 → zO zRes → Prop} (h0 : P zckno zono) (o : Nat) : ∀ (r : List (Nat × zCk0)) (s : List (Nat × zO zRes)), zPL P r s → P (zlk zckno r o) (zlk zono s o)
  | [], [], _ => h0
  | (a, f) :: r, (b, g) :: s, hh => by
    obtain ⟨rfl, h2, h3⟩ := hh
    unfold zlk
    cases Nat.beq a o
    · exact zPL_lk h0 o r s h3
    · exact h2
  | [], _ :: _, hh => hh.elim
  | _ :: _, [], hh => hh.elim
def zck_0 : zCk0 := fun cc own isI fr lo tb pc I wi zi => zok cc pc (.iconst I.2.1) 1 && decide ((Int32.ofInt I.2.1).toInt = I.2.1)
def zck_1 : zCk0 := fun cc own isI fr lo tb pc I wi zi => zok cc pc (.bipush I.2.1) 2 && decide ((Int8.ofInt I.2.1).toInt32.toInt = I.2.1)
def zck_2 : zCk0 := fun cc own isI fr lo tb pc I wi zi => zok cc pc (.sipush I.2.1) 3 && decide ((Int16.ofInt I.2.1).toInt32.toInt = I.2.1)
def zck_3 : zCk0 := fun cc own isI fr lo tb pc I wi zi => zok cc pc (.ldc I.2.2.1) 2 && zw wi 0 (.constant own I.2.2.1 (Int32.ofInt I.2.1)) && decide ((Int32.ofInt I.2.1).toInt = I.2.1)
def zck_4 : zCk0 := fun cc own isI fr lo tb pc I wi zi => zok cc pc (.ldc_w I.2.2.1) 3 && zw wi 0 (.constant own I.2.2.1 (Int32.ofInt I.2.1)) && decide ((Int32.ofInt I.2.1).toInt = I.2.1)
def zck_5 : zCk0 := fun cc own isI fr lo tb pc I wi zi => zok cc pc (.lconst (Fin.ofNat 2 I.2.2.1)) 1 && decide ((Int64.ofNat ((Fin.ofNat 2 I.2.2.1 : Fin 2) : Nat)).toInt = I.2.1)
def zck_6 : zCk0 := fun cc own isI fr lo tb pc I wi zi => zok cc pc (.ldc2_w I.2.2.1) 3 && zw wi 0 (.constantLong own I.2.2.1 (Int64.ofInt I.2.1)) && decide ((Int64.ofInt I.2.1).toInt = I.2.1)
def zck_7 : zCk0 := fun cc own isI fr lo tb pc I wi zi => zok cc pc (.aconst_null) 1
def zck_8 : zCk0 := fun cc own isI fr lo tb pc I wi zi => zok cc pc (.ldc I.2.2.1) 2 && decide (I.2.1 = (I.2.1.toNat : Int)) && decide (I.2.1.toNat < 10) && decide ((own, I.2.2.1, I.2.1.toNat) ∈ zSRs)
def zck_10 : zCk0 := fun cc own isI fr lo tb pc I wi zi => zok cc pc (.iload_n (zf4 I.2.2.1)) 1 && decide (((zf4 I.2.2.1 : Fin 4) : Nat) = I.2.2.1)
def zck_11 : zCk0 := fun cc own isI fr lo tb pc I wi zi => zok cc pc (.iload I.2.2.1) 2
def zck_12 : zCk0 := fun cc own isI fr lo tb pc I wi zi => zok cc pc (.lload_n (zf4 I.2.2.1)) 1 && decide (((zf4 I.2.2.1 : Fin 4) : Nat) = I.2.2.1)
def zck_13 : zCk0 := fun cc own isI fr lo tb pc I wi zi => zok cc pc (.lload I.2.2.1) 2
def zck_14 : zCk0 := fun cc own isI fr lo tb pc I wi zi => zok cc pc (.aload_n (zf4 I.2.2.1)) 1 && decide (((zf4 I.2.2.1 : Fin 4) : Nat) = I.2.2.1)
def zck_15 : zCk0 := fun cc own isI fr lo tb pc I wi zi => zok cc pc (.aload I.2.2.1) 2
def zck_16 : zCk0 := fun cc own isI fr lo tb pc I wi zi => zok cc pc (.istore_n (zf4 I.2.2.1)) 1 && decide (((zf4 I.2.2.1 : Fin 4) : Nat) = I.2.2.1)
def zck_17 : zCk0 := fun cc own isI fr lo tb pc I wi zi => zok cc pc (.istore I.2.2.1) 2
def zck_18 : zCk0 := fun cc own isI fr lo tb pc I wi zi => zok cc pc (.lstore_n (zf4 I.2.2.1)) 1 && decide (((zf4 I.2.2.1 : Fin 4) : Nat) = I.2.2.1)
def zck_19 : zCk0 := fun cc own isI fr lo tb pc I wi zi => zok cc pc (.lstore I.2.2.1) 2
def zck_20 : zCk0 := fun cc own isI fr lo tb pc I wi zi => zok cc pc (.astore_n (zf4 I.2.2.1)) 1 && decide (((zf4 I.2.2.1 : Fin 4) : Nat) = I.2.2.1)
def zck_21 : zCk0 := fun cc own isI fr lo tb pc I wi zi => zok cc pc (.astore I.2.2.1) 2
def zck_22 : zCk0 := fun cc own isI fr lo tb pc I wi zi => zok cc pc (.iinc I.2.2.1 I.2.1) 3 && decide ((Int32.ofInt I.2.1).toInt = I.2.1)
def zck_30 : zCk0 := fun cc own isI fr lo tb pc I wi zi => zok cc pc (.iadd) 1
def zck_31 : zCk0 := fun cc own isI fr lo tb pc I wi zi => zok cc pc (.isub) 1
def zck_32 : zCk0 := fun cc own isI fr lo tb pc I wi zi => zok cc pc (.imul) 1
def zck_33 : zCk0 := fun cc own isI fr lo tb pc I wi zi => zok cc pc (.idiv) 1
def zck_34 : zCk0 := fun cc own isI fr lo tb pc I wi zi => zok cc pc (.irem) 1
def zck_36 : zCk0 := fun cc own isI fr lo tb pc I wi zi => zok cc pc (.iand) 1
def zck_37 : zCk0 := fun cc own isI fr lo tb pc I wi zi => zok cc pc (.ior) 1
def zck_38 : zCk0 := fun cc own isI fr lo tb pc I wi zi => zok cc pc (.ixor) 1
def zck_39 : zCk0 := fun cc own isI fr lo tb pc I wi zi => zok cc pc (.ishl) 1
def zck_40 : zCk0 := fun cc own isI fr lo tb pc I wi zi => zok cc pc (.ishr) 1
def zck_41 : zCk0 := fun cc own isI fr lo tb pc I wi zi => zok cc pc (.iushr) 1
def zck_42 : zCk0 := fun cc own isI fr lo tb pc I wi zi => zok cc pc (.i2l) 1
def zck_43 : zCk0 := fun cc own isI fr lo tb pc I wi zi => zok cc pc (.l2i) 1
def zck_44 : zCk0 := fun cc own isI fr lo tb pc I wi zi => zok cc pc (.i2c) 1
def zck_45 : zCk0 := fun cc own isI fr lo tb pc I wi zi => zok cc pc (.ladd) 1
def zck_46 : zCk0 := fun cc own isI fr lo tb pc I wi zi => zok cc pc (.lsub) 1
def zck_47 : zCk0 := fun cc own isI fr lo tb pc I wi zi => zok cc pc (.lmul) 1
def zck_48 : zCk0 := fun cc own isI fr lo tb pc I wi zi => zok cc pc (.lcmp) 1
def zck_50 : zCk0 := fun cc own isI fr lo tb pc I wi zi => zok cc pc (.dup) 1
def zck_51 : zCk0 := fun cc own isI fr lo tb pc I wi zi => zok cc pc (.dup2) 1
def zck_52 : zCk0 := fun cc own isI fr lo tb pc I wi zi => zok cc pc (.pop) 1
def zck_60 : zCk0 := fun cc own isI fr lo tb pc I wi zi => zok cc pc (.ifCond .eq I.2.1) 3 && decide ((pc : Int) + I.2.1 = (I.2.2.1 : Int))
def zck_61 : zCk0 := fun cc own isI fr lo tb pc I wi zi => zok cc pc (.ifCond .ne I.2.1) 3 && decide ((pc : Int) + I.2.1 = (I.2.2.1 : Int))
def zck_62 : zCk0 := fun cc own isI fr lo tb pc I wi zi => zok cc pc (.ifCond .lt I.2.1) 3 && decide ((pc : Int) + I.2.1 = (I.2.2.1 : Int))
def zck_63 : zCk0 := fun cc own isI fr lo tb pc I wi zi => zok cc pc (.ifCond .ge I.2.1) 3 && decide ((pc : Int) + I.2.1 = (I.2.2.1 : Int))
def zck_64 : zCk0 := fun cc own isI fr lo tb pc I wi zi => zok cc pc (.ifCond .gt I.2.1) 3 && decide ((pc : Int) + I.2.1 = (I.2.2.1 : Int))
def zck_65 : zCk0 := fun cc own isI fr lo tb pc I wi zi => zok cc pc (.ifCond .le I.2.1) 3 && decide ((pc : Int) + I.2.1 = (I.2.2.1 : Int))
def zck_66 : zCk0 := fun cc own isI fr lo tb pc I wi zi => zok cc pc (.if_icmp .eq I.2.1) 3 && decide ((pc : Int) + I.2.1 = (I.2.2.1 : Int))
def zck_67 : zCk0 := fun cc own isI fr lo tb pc I wi zi => zok cc pc (.if_icmp .ne I.2.1) 3 && decide ((pc : Int) + I.2.1 = (I.2.2.1 : Int))
def zck_68 : zCk0 := fun cc own isI fr lo tb pc I wi zi => zok cc pc (.if_icmp .lt I.2.1) 3 && decide ((pc : Int) + I.2.1 = (I.2.2.1 : Int))
def zck_69 : zCk0 := fun cc own isI fr lo tb pc I wi zi => zok cc pc (.if_icmp .ge I.2.1) 3 && decide ((pc : Int) + I.2.1 = (I.2.2.1 : Int))
def zck_70 : zCk0 := fun cc own isI fr lo tb pc I wi zi => zok cc pc (.if_icmp .gt I.2.1) 3 && decide ((pc : Int) + I.2.1 = (I.2.2.1 : Int))
def zck_71 : zCk0 := fun cc own isI fr lo tb pc I wi zi => zok cc pc (.if_icmp .le I.2.1) 3 && decide ((pc : Int) + I.2.1 = (I.2.2.1 : Int))
def zck_72 : zCk0 := fun cc own isI fr lo tb pc I wi zi => zok cc pc (.goto I.2.1) 3 && decide ((pc : Int) + I.2.1 = (I.2.2.1 : Int))
def zck_73 : zCk0 := fun cc own isI fr lo tb pc I wi zi => zok cc pc (.ifnull I.2.1) 3 && decide ((pc : Int) + I.2.1 = (I.2.2.1 : Int))
def zck_74 : zCk0 := fun cc own isI fr lo tb pc I wi zi => zok cc pc (.ifnonnull I.2.1) 3 && decide ((pc : Int) + I.2.1 = (I.2.2.1 : Int))
def zck_75 : zCk0 := fun cc own isI fr lo tb pc I wi zi => zok cc pc (.if_acmp .eq I.2.1) 3 && decide ((pc : Int) + I.2.1 = (I.2.2.1 : Int))
def zck_76 : zCk0 := fun cc own isI fr lo tb pc I wi zi => zok cc pc (.if_acmp .ne I.2.1) 3 && decide ((pc : Int) + I.2.1 = (I.2.2.1 : Int))
def zck_77 : zCk0 := fun cc own isI fr lo tb pc I wi zi => zswl cc pc I.2.2.1
def zck_78 : zCk0 := fun cc own isI fr lo tb pc I wi zi => zswt2 cc pc I.2.2.1
def zck_80 : zCk0 := fun cc own isI fr lo tb pc I wi zi => zok cc pc (.getfield I.2.2.1) 3 && zw wi 0 (.fieldLink own I.2.2.1 (zCn I.2.1.toNat) (zCf I.2.1.toNat I.2.2.2).2.1 (zCf I.2.1.toNat I.2.2.2).2.2.1)
def zck_81 : zCk0 := fun cc own isI fr lo tb pc I wi zi => zok cc pc (.getfield I.2.2.1) 3 && decide ((own, I.2.2.1, zCn I.2.1.toNat, (zCf I.2.1.toNat I.2.2.2).2.1, (zCf I.2.1.toNat I.2.2.2).2.2.1, "LaneMill") ∈ zLF)
def zck_82 : zCk0 := fun cc own isI fr lo tb pc I wi zi => zok cc pc (.putfield I.2.2.1) 3 && zw wi 0 (.fieldLink own I.2.2.1 (zCn I.2.1.toNat) (zCf I.2.1.toNat I.2.2.2).2.1 (zCf I.2.1.toNat I.2.2.2).2.2.1) && !(zCf I.2.1.toNat I.2.2.2).2.2.2
def zck_84 : zCk0 := fun cc own isI fr lo tb pc I wi zi => zok cc pc (.putfield I.2.2.1) 3 && zw wi 0 (.fieldLink own I.2.2.1 (zCn I.2.1.toNat) (zCf I.2.1.toNat I.2.2.2).2.1 (zCf I.2.1.toNat I.2.2.2).2.2.1) && (zCf I.2.1.toNat I.2.2.2).2.2.2 && isI && decide (zCn I.2.1.toNat = own)
def zck_90 : zCk0 := fun cc own isI fr lo tb pc I wi zi => zok cc pc (.iaload) 1
def zck_91 : zCk0 := fun cc own isI fr lo tb pc I wi zi => zok cc pc (.baload) 1
def zck_92 : zCk0 := fun cc own isI fr lo tb pc I wi zi => zok cc pc (.caload) 1
def zck_93 : zCk0 := fun cc own isI fr lo tb pc I wi zi => zok cc pc (.laload) 1
def zck_158 : zCk0 := fun cc own isI fr lo tb pc I wi zi => zok cc pc (.daload) 1
def zck_94 : zCk0 := fun cc own isI fr lo tb pc I wi zi => zok cc pc (.aaload) 1
def zck_105 : zCk0 := fun cc own isI fr lo tb pc I wi zi => false
def zck_106 : zCk0 := fun cc own isI fr lo tb pc I wi zi => false
def zck_95 : zCk0 := fun cc own isI fr lo tb pc I wi zi => zok cc pc (.iastore) 1
def zck_96 : zCk0 := fun cc own isI fr lo tb pc I wi zi => zok cc pc (.bastore) 1
def zck_97 : zCk0 := fun cc own isI fr lo tb pc I wi zi => zok cc pc (.castore) 1
def zck_98 : zCk0 := fun cc own isI fr lo tb pc I wi zi => zok cc pc (.lastore) 1
def zck_159 : zCk0 := fun cc own isI fr lo tb pc I wi zi => zok cc pc (.dastore) 1
def zck_99 : zCk0 := fun cc own isI fr lo tb pc I wi zi => zok cc pc (.aastore) 1
def zck_100 : zCk0 := fun cc own isI fr lo tb pc I wi zi => zok cc pc (.arraylength) 1 && decide (zft zPP I.2.2.2 0 ∈ zes)
def zck_101 : zCk0 := fun cc own isI fr lo tb pc I wi zi => zckn cc pc I wi
def zck_102 : zCk0 := fun cc own isI fr lo tb pc I wi zi => zok cc pc (.anewarray I.2.2.1) 3 && zw wi 0 (.classLink own I.2.2.1 (zCn (zft zPP I.2.2.2 0 - 100))) && decide (zCn (zft zPP I.2.2.2 0 - 100) ∈ zAOs)
def zck_103 : zCk0 := fun cc own isI fr lo tb pc I wi zi => zok cc pc (.new I.2.2.1) 3 && zw wi 0 (.classLink own I.2.2.1 (zCn I.2.2.2)) && zw wi 1 (.instantiable (zCn I.2.2.2) (zCk I.2.2.2)) && zw wi 2 (.initialized (zCn I.2.2.2))
def zck_110 : zCk0 := fun cc own isI fr lo tb pc I wi zi => zok cc pc (.invokevirtual I.2.2.1) 3 && zcbb wi 0 fr lo (zi I.2.2.2) && zw wi 1 (.methodLink own I.2.2.1 (zi I.2.2.2).1) && zw wi 2 (.instanceMethod (zi I.2.2.2).1) && zw wi 3 (.selects (zi I.2.2.2).1.cls (zi I.2.2.2).1 (zi I.2.2.2).1) && zrvb I.2.2.2 (zi I.2.2.2) && (zi I.2.2.2).2.2.2.2.2.2.2.2.isNone
def zck_111 : zCk0 := fun cc own isI fr lo tb pc I wi zi => zok cc pc (.invokevirtual I.2.2.1) 3 && zcbb wi 0 fr lo (zi I.2.2.2) && zlmb own I.2.2.1 (zi I.2.2.2).1 && zw wi 2 (.instanceMethod (zi I.2.2.2).1) && zw wi 3 (.selects (zi I.2.2.2).1.cls (zi I.2.2.2).1 (zi I.2.2.2).1) && zrvb I.2.2.2 (zi I.2.2.2) && (zi I.2.2.2).2.2.2.2.2.2.2.2.isNone && !(zi I.2.2.2).2.2.2.2.2.1
def zck_118 : zCk0 := fun cc own isI fr lo tb pc I wi zi => zok cc pc (.invokevirtual I.2.2.1) 3 && zcbb wi 0 fr lo (zi I.2.2.2) && zw wi 1 (.methodLink own I.2.2.1 (zi I.2.2.2).1) && zw wi 2 (.instanceMethod (zi I.2.2.2).1) && zw wi 3 (.selects (zi I.2.2.2).1.cls (zi I.2.2.2).1 (zi I.2.2.2).1) && zrvb I.2.2.2 (zi I.2.2.2) && (zi I.2.2.2).2.2.2.2.2.2.2.2.isNone && (zi I.2.2.2).2.2.2.2.2.1 && zhokb own pc wi tb (zget [] zPP.2.2.2 I.2.1.toNat)
def zck_113 : zCk0 := fun cc own isI fr lo tb pc I wi zi => zok cc pc (.invokestatic I.2.2.1) 3 && zcbb wi 0 fr lo (zi I.2.2.2) && zw wi 1 (.methodLink own I.2.2.1 (zi I.2.2.2).1) && zw wi 2 (.static (zi I.2.2.2).1) && decide ((zsig zPP I.2.2.2).2.1.reverse.length = (zi I.2.2.2).2.2.2.2.1) && !(zi I.2.2.2).2.2.2.2.2.1
def zck_114 : zCk0 := fun cc own isI fr lo tb pc I wi zi => zok cc pc (.invokestatic I.2.2.1) 3 && zcbb wi 0 fr lo (zi I.2.2.2) && zlmb own I.2.2.1 (zi I.2.2.2).1 && zw wi 2 (.static (zi I.2.2.2).1) && decide ((zsig zPP I.2.2.2).2.1.reverse.length = (zi I.2.2.2).2.2.2.2.1) && !(zi I.2.2.2).2.2.2.2.2.1 && (zi I.2.2.2).2.2.2.2.2.2.2.2.isNone
def zck_115 : zCk0 := fun cc own isI fr lo tb pc I wi zi => zok cc pc (.invokespecial I.2.2.1) 3 && zcbb wi 0 fr lo (zi I.2.2.2) && zw wi 1 (.methodLink own I.2.2.1 (zi I.2.2.2).1) && zw wi 2 (.instanceMethod (zi I.2.2.2).1) && decide ((zi I.2.2.2).1.name = "<init>") && decide ((zsig zPP I.2.2.2).2.2.1 = 9) && zrvb I.2.2.2 (zi I.2.2.2) && !(zi I.2.2.2).2.2.2.2.2.1 && (zi I.2.2.2).2.2.2.2.2.2.2.2.isNone && (zi I.2.2.2).2.2.2.2.2.2.2.1.isNone
def zck_116 : zCk0 := fun cc own isI fr lo tb pc I wi zi => zok cc pc (.invokespecial I.2.2.1) 3 && zcbb wi 0 fr lo (zi I.2.2.2) && zlmb own I.2.2.1 (zi I.2.2.2).1 && zw wi 2 (.instanceMethod (zi I.2.2.2).1) && decide ((zi I.2.2.2).1.name = "<init>") && decide ((zsig zPP I.2.2.2).2.2.1 = 9) && zrvb I.2.2.2 (zi I.2.2.2) && !(zi I.2.2.2).2.2.2.2.2.1 && (zi I.2.2.2).2.2.2.2.2.2.2.2.isNone && (zi I.2.2.2).2.2.2.2.2.2.2.1.isNone
def zck_117 : zCk0 := fun cc own isI fr lo tb pc I wi zi => zok cc pc (.invokespecial I.2.2.1) 3 && zw wi 0 (.methodLink own I.2.2.1 Lib.objectInit) && zw wi 1 (.instanceMethod Lib.objectInit) && zw wi 2 (.code Lib.objectInit ⟨#[0xb1]⟩ 1 none) && Nat.ble 1 fr && Nat.ble 20 lo
def zck_119 : zCk0 := fun cc own isI fr lo tb pc I wi zi => zok cc pc (.invokestatic I.2.2.1) 3 && zw wi 0 (.methodLink own I.2.2.1 arraycopyName) && zw wi 1 (.native arraycopyName) && zw wi 2 (.static arraycopyName) && zw wi 3 (.initialized "java/lang/System") && Nat.ble 1 fr && Nat.ble (8 + (nativeFrameWords "java/lang/System" "arraycopy" 5 + 11)) lo
def zck_120 : zCk0 := fun cc own isI fr lo tb pc I wi zi => zok cc pc (.invokevirtual I.2.2.1) 3 && zcbb wi 0 fr lo zixi && zw wi 1 (.methodLink own I.2.2.1 zixi.1) && zw wi 2 (.instanceMethod zixi.1) && zw wi 3 (.selects "java/lang/String" zixi.1 zixi.1) && zw wi 4 (zicw zixi) && decide (zixi.1.cls = "java/lang/String") && zixi.2.2.2.2.2.2.2.2.isNone && decide (zixi.2.2.2.2.1 = 1)
def zck_130 : zCk0 := fun cc own isI fr lo tb pc I wi zi => false
def zck_131 : zCk0 := fun cc own isI fr lo tb pc I wi zi => false
def zck_160 : zCk0 := fun cc own isI fr lo tb pc I wi zi => false
def zck_161 : zCk0 := fun cc own isI fr lo tb pc I wi zi => false
def zck_132 : zCk0 := fun cc own isI fr lo tb pc I wi zi => false
def zck_133 : zCk0 := fun cc own isI fr lo tb pc I wi zi => false
def zck_134 : zCk0 := fun cc own isI fr lo tb pc I wi zi => false
def zck_140 : zCk0 := fun cc own isI fr lo tb pc I wi zi => zok cc pc (.fconst 0) 1 && decide (I.2.1 = 0)
def zck_141 : zCk0 := fun cc own isI fr lo tb pc I wi zi => zok cc pc (.dconst 0) 1 && decide (I.2.1 = 0)
def zck_142 : zCk0 := fun cc own isI fr lo tb pc I wi zi => zok cc pc (.l2f) 1
def zck_143 : zCk0 := fun cc own isI fr lo tb pc I wi zi => zok cc pc (.i2f) 1
def zck_144 : zCk0 := fun cc own isI fr lo tb pc I wi zi => zok cc pc (.fdiv) 1
def zck_145 : zCk0 := fun cc own isI fr lo tb pc I wi zi => zok cc pc (.l2d) 1
def zck_146 : zCk0 := fun cc own isI fr lo tb pc I wi zi => zok cc pc (.i2d) 1
def zck_147 : zCk0 := fun cc own isI fr lo tb pc I wi zi => zok cc pc (.ddiv) 1
def zck_148 : zCk0 := fun cc own isI fr lo tb pc I wi zi => zok cc pc (.f2d) 1
def zck_149 : zCk0 := fun cc own isI fr lo tb pc I wi zi => zok cc pc (.dcmp .l) 1
def zck_139 : zCk0 := fun cc own isI fr lo tb pc I wi zi => zok cc pc (.fcmp .l) 1
def zck_150 : zCk0 := fun cc own isI fr lo tb pc I wi zi => zok cc pc (.fload_n (zf4 I.2.2.1)) 1 && decide (((zf4 I.2.2.1 : Fin 4) : Nat) = I.2.2.1)
def zck_151 : zCk0 := fun cc own isI fr lo tb pc I wi zi => zok cc pc (.fload I.2.2.1) 2
def zck_152 : zCk0 := fun cc own isI fr lo tb pc I wi zi => zok cc pc (.fstore_n (zf4 I.2.2.1)) 1 && decide (((zf4 I.2.2.1 : Fin 4) : Nat) = I.2.2.1)
def zck_153 : zCk0 := fun cc own isI fr lo tb pc I wi zi => zok cc pc (.fstore I.2.2.1) 2
def zck_154 : zCk0 := fun cc own isI fr lo tb pc I wi zi => zok cc pc (.dload_n (zf4 I.2.2.1)) 1 && decide (((zf4 I.2.2.1 : Fin 4) : Nat) = I.2.2.1)
def zck_155 : zCk0 := fun cc own isI fr lo tb pc I wi zi => zok cc pc (.dload I.2.2.1) 2
def zck_156 : zCk0 := fun cc own isI fr lo tb pc I wi zi => zok cc pc (.dstore_n (zf4 I.2.2.1)) 1 && decide (((zf4 I.2.2.1 : Fin 4) : Nat) = I.2.2.1)
def zck_157 : zCk0 := fun cc own isI fr lo tb pc I wi zi => zok cc pc (.dstore I.2.2.1) 2
def zcks : List (Nat × zCk0) := [(0, zck_0), (1, zck_1), (2, zck_2), (3, zck_3), (4, zck_4), (5, zck_5), (6, zck_6), (7, zck_7), (8, zck_8), (10, zck_10), (11, zck_11), (12, zck_12), (13, zck_13), (14, zck_14), (15, zck_15), (16, zck_16), (17, zck_17), (18, zck_18), (19, zck_19), (20, zck_20), (21, zck_21), (22, zck_22), (30, zck_30), (31, zck_31), (32, zck_32), (33, zck_33), (34, zck_34), (36, zck_36), (37, zck_37), (38, zck_38), (39, zck_39), (40, zck_40), (41, zck_41), (42, zck_42), (43, zck_43), (44, zck_44), (45, zck_45), (46, zck_46), (47, zck_47), (48, zck_48), (50, zck_50), (51, zck_51), (52, zck_52), (60, zck_60), (61, zck_61), (62, zck_62), (63, zck_63), (64, zck_64), (65, zck_65), (66, zck_66), (67, zck_67), (68, zck_68), (69, zck_69), (70, zck_70), (71, zck_71), (72, zck_72), (73, zck_73), (74, zck_74), (75, zck_75), (76, zck_76), (77, zck_77), (78, zck_78), (80, zck_80), (81, zck_81), (82, zck_82), (84, zck_84), (90, zck_90), (91, zck_91), (92, zck_92), (93, zck_93), (158, zck_158), (94, zck_94), (105, zck_105), (106, zck_106), (95, zck_95), (96, zck_96), (97, zck_97), (98, zck_98), (159, zck_159), (99, zck_99), (100, zck_100), (101, zck_101), (102, zck_102), (103, zck_103), (110, zck_110), (111, zck_111), (118, zck_118), (113, zck_113), (114, zck_114), (115, zck_115), (116, zck_116), (117, zck_117), (119, zck_119), (120, zck_120), (130, zck_130), (131, zck_131), (160, zck_160), (161, zck_161), (132, zck_132), (133, zck_133), (134, zck_134), (140, zck_140), (141, zck_141), (142, zck_142), (143, zck_143), (144, zck_144), (145, zck_145), (146, zck_146), (147, zck_147), (148, zck_148), (149, zck_149), (139, zck_139), (150, zck_150), (151, zck_151), (152, zck_152), (153, zck_153), (154, zck_154), (155, zck_155), (156, zck_156), (157, zck_157)]
def zchk : zCk0 := fun cc own isI fr lo tb pc I wi zi => zlk zckno zcks I.1 cc own isI fr lo tb pc I wi zi
set_option maxRecDepth 100000 in
set_option maxHeartbeats 0 in
theorem zdisp {fr lo : Nat} (hx : p.tables.exec = Jvm.exec) (hb : c.code = cc) (hml : c.maxLocals = nL) (hown : s.vm.findClass own = some m.cls) (hts : ∀ w ∈ zT, w.before args s = true) (hK : va_K D zcl (ztys cA) s) (hA : ∀ q, H0.size ≤ q → A q) (hEnv : zEnv σ A s H0) (hRc : zhC (zrh r) - C0 ≤ R.cells) (hRs : zhS (zrh r) - S0 ≤ R.slots) (hH0 : H0 = s.heap) (hRf : R.frames = fr) (hRl : R.locals = lo) (hk : ∀ pc ls st h, kont pc ls st h = some r → zGo p l e R s m args below meth c Q A H0 σ cA D b L xs al C0 S0 μ0 N0 nL r pc ls st h) (hthr : ∀ pc n h, kthr n h = some r → zGoX p l e R s m args below meth c Q A H0 σ cA D b L xs al C0 S0 μ0 N0 nL r pc n h) {zi : Nat → zinfo} (hcall : zKall l al zi call r) (hcwz : ∀ j, zicw (zi j) ∈ zT) {tb : List ExceptionTableEntry} (htab : c.exceptionTable.toList = tb) {isI : Bool} (hini : isI = true → meth.name = "<init>") (hIX : ∀ (t x : Int) (h : zH), zMet l al zixi.1 (zicw zixi) zixi.2.1 zixi.2.2.1 [3, 0] 0 [t, x] h (zfind (zget [] zstrs t.toNat) x 0) h) {I : zI} {wi : List Nat} (hck : zchk cc own isI fr lo tb pc I wi zi = true) {ls : List (Option zV)} {st : List zV} {h : zH} (hr : zstp zPP al call I kont kret kthr pc ls st h = some r) : zGo p l e R s m args below meth c Q A H0 σ cA D b L xs al C0 S0 μ0 N0 nL r pc ls st h := by
  have key : ∀ o, (fun (ck : zCk0) (f : zO zRes) => ck cc own isI fr lo tb pc I wi zi = true → ∀ ls st h, f zPP al call I kont kret kthr pc ls st h = some r → zGo p l e R s m args below meth c Q A H0 σ cA D b L xs al C0 S0 μ0 N0 nL r pc ls st h) (zlk zckno zcks o) (zlk zono zops o) := fun o => by
    refine zPL_lk (P := (fun (ck : zCk0) (f : zO zRes) => ck cc own isI fr lo tb pc I wi zi = true → ∀ ls st h, f zPP al call I kont kret kthr pc ls st h = some r → zGo p l e R s m args below meth c Q A H0 σ cA D b L xs al C0 S0 μ0 N0 nL r pc ls st h)) (fun h => Bool.noConfusion (show false = true from h)) o zcks zops ⟨rfl, fun hck ls st h hr => ?_, ⟨rfl, fun hck ls st h hr => ?_, ⟨rfl, fun hck ls st h hr => ?_, ⟨rfl, fun hck ls st h hr => ?_, ⟨rfl, fun hck ls st h hr => ?_, ⟨rfl, fun hck ls st h hr => ?_, ⟨rfl, fun hck ls st h hr => ?_, ⟨rfl, fun hck ls st h hr => ?_, ⟨rfl, fun hck ls st h hr => ?_, ⟨rfl, fun hck ls st h hr => ?_, ⟨rfl, fun hck ls st h hr => ?_, ⟨rfl, fun hck ls st h hr => ?_, ⟨rfl, fun hck ls st h hr => ?_, ⟨rfl, fun hck ls st h hr => ?_, ⟨rfl, fun hck ls st h hr => ?_, ⟨rfl, fun hck ls st h hr => ?_, ⟨rfl, fun hck ls st h hr => ?_, ⟨rfl, fun hck ls st h hr => ?_, ⟨rfl, fun hck ls st h hr => ?_, ⟨rfl, fun hck ls st h hr => ?_, ⟨rfl, fun hck ls st h hr => ?_, ⟨rfl, fun hck ls st h hr => ?_, ⟨rfl, fun hck ls st h hr => ?_, ⟨rfl, fun hck ls st h hr => ?_, ⟨rfl, fun hck ls st h hr => ?_, ⟨rfl, fun hck ls st h hr => ?_, ⟨rfl, fun hck ls st h hr => ?_, ⟨rfl, fun hck ls st h hr => ?_, ⟨rfl, fun hck ls st h hr => ?_, ⟨rfl, fun hck ls st h hr => ?_, ⟨rfl, fun hck ls st h hr => ?_, ⟨rfl, fun hck ls st h hr => ?_, ⟨rfl, fun hck ls st h hr => ?_, ⟨rfl, fun hck ls st h hr => ?_, ⟨rfl, fun hck ls st h hr => ?_, ⟨rfl, fun hck ls st h hr => ?_, ⟨rfl, fun hck ls st h hr => ?_, ⟨rfl, fun hck ls st h hr => ?_, ⟨rfl, fun hck ls st h hr => ?_, ⟨rfl, fun hck ls st h hr => ?_, ⟨rfl, fun hck ls st h hr => ?_, ⟨rfl, fun hck ls st h hr => ?_, ⟨rfl, fun hck ls st h hr => ?_, ⟨rfl, fun hck ls st h hr => ?_, ⟨rfl, fun hck ls st h hr => ?_, ⟨rfl, fun hck ls st h hr => ?_, ⟨rfl, fun hck ls st h hr => ?_, ⟨rfl, fun hck ls st h hr => ?_, ⟨rfl, fun hck ls st h hr => ?_, ⟨rfl, fun hck ls st h hr => ?_, ⟨rfl, fun hck ls st h hr => ?_, ⟨rfl, fun hck ls st h hr => ?_, ⟨rfl, fun hck ls st h hr => ?_, ⟨rfl, fun hck ls st h hr => ?_, ⟨rfl, fun hck ls st h hr => ?_, ⟨rfl, fun hck ls st h hr => ?_, ⟨rfl, fun hck ls st h hr => ?_, ⟨rfl, fun hck ls st h hr => ?_, ⟨rfl, fun hck ls st h hr => ?_, ⟨rfl, fun hck ls st h hr => ?_, ⟨rfl, fun hck ls st h hr => ?_, ⟨rfl, fun hck ls st h hr => ?_, ⟨rfl, fun hck ls st h hr => ?_, ⟨rfl, fun hck ls st h hr => ?_, ⟨rfl, fun hck ls st h hr => ?_, ⟨rfl, fun hck ls st h hr => ?_, ⟨rfl, fun hck ls st h hr => ?_, ⟨rfl, fun hck ls st h hr => ?_, ⟨rfl, fun hck ls st h hr => ?_, ⟨rfl, fun hck ls st h hr => ?_, ⟨rfl, fun hck ls st h hr => ?_, ⟨rfl, fun hck ls st h hr => ?_, ⟨rfl, fun hck ls st h hr => ?_, ⟨rfl, fun hck ls st h hr => ?_, ⟨rfl, fun hck ls st h hr => ?_, ⟨rfl, fun hck ls st h hr => ?_, ⟨rfl, fun hck ls st h hr => ?_, ⟨rfl, fun hck ls st h hr => ?_, ⟨rfl, fun hck ls st h hr => ?_, ⟨rfl, fun hck ls st h hr => ?_, ⟨rfl, fun hck ls st h hr => ?_, ⟨rfl, fun hck ls st h hr => ?_, ⟨rfl, fun hck ls st h hr => ?_, ⟨rfl, fun hck ls st h hr => ?_, ⟨rfl, fun hck ls st h hr => ?_, ⟨rfl, fun hck ls st h hr => ?_, ⟨rfl, fun hck ls st h hr => ?_, ⟨rfl, fun hck ls st h hr => ?_, ⟨rfl, fun hck ls st h hr => ?_, ⟨rfl, fun hck ls st h hr => ?_, ⟨rfl, fun hck ls st h hr => ?_, ⟨rfl, fun hck ls st h hr => ?_, ⟨rfl, fun hck ls st h hr => ?_, ⟨rfl, fun hck ls st h hr => ?_, ⟨rfl, fun hck ls st h hr => ?_, ⟨rfl, fun hck ls st h hr => ?_, ⟨rfl, fun hck ls st h hr => ?_, ⟨rfl, fun hck ls st h hr => ?_, ⟨rfl, fun hck ls st h hr => ?_, ⟨rfl, fun hck ls st h hr => ?_, ⟨rfl, fun hck ls st h hr => ?_, ⟨rfl, fun hck ls st h hr => ?_, ⟨rfl, fun hck ls st h hr => ?_, ⟨rfl, fun hck ls st h hr => ?_, ⟨rfl, fun hck ls st h hr => ?_, ⟨rfl, fun hck ls st h hr => ?_, ⟨rfl, fun hck ls st h hr => ?_, ⟨rfl, fun hck ls st h hr => ?_, ⟨rfl, fun hck ls st h hr => ?_, ⟨rfl, fun hck ls st h hr => ?_, ⟨rfl, fun hck ls st h hr => ?_, ⟨rfl, fun hck ls st h hr => ?_, ⟨rfl, fun hck ls st h hr => ?_, ⟨rfl, fun hck ls st h hr => ?_, ⟨rfl, fun hck ls st h hr => ?_, ⟨rfl, fun hck ls st h hr => ?_, ⟨rfl, fun hck ls st h hr => ?_, ⟨rfl, fun hck ls st h hr => ?_, ⟨rfl, fun hck ls st h hr => ?_, ⟨rfl, fun hck ls st h hr => ?_, trivial⟩⟩⟩⟩⟩⟩⟩⟩⟩⟩⟩⟩⟩⟩⟩⟩⟩⟩⟩⟩⟩⟩⟩⟩⟩⟩⟩⟩⟩⟩⟩⟩⟩⟩⟩⟩⟩⟩⟩⟩⟩⟩⟩⟩⟩⟩⟩⟩⟩⟩⟩⟩⟩⟩⟩⟩⟩⟩⟩⟩⟩⟩⟩⟩⟩⟩⟩⟩⟩⟩⟩⟩⟩⟩⟩⟩⟩⟩⟩⟩⟩⟩⟩⟩⟩⟩⟩⟩⟩⟩⟩⟩⟩⟩⟩⟩⟩⟩⟩⟩⟩⟩⟩⟩⟩⟩⟩⟩⟩⟩⟩⟩⟩⟩⟩⟩⟩⟩⟩⟩ 
    · have hck : (zok cc pc (.iconst I.2.1) 1 && decide ((Int32.ofInt I.2.1).toInt = I.2.1)) = true := hck
      obtain ⟨h1, h2⟩ := zand_t hck
      exact zs_push (v := .int (Int32.ofInt I.2.1)) hk (fun μ N => zvr.i' (of_decide_eq_true h2)) (fun kk => lv_iconst hx hb (zok_d h1) rfl kk) hr
    · have hck : (zok cc pc (.bipush I.2.1) 2 && decide ((Int8.ofInt I.2.1).toInt32.toInt = I.2.1)) = true := hck
      obtain ⟨h1, h2⟩ := zand_t hck
      exact zs_push (v := .int (Int8.ofInt I.2.1).toInt32) hk (fun μ N => zvr.i' (of_decide_eq_true h2)) (fun kk => lv_bipush hx hb (zok_d h1) rfl kk) hr
    · have hck : (zok cc pc (.sipush I.2.1) 3 && decide ((Int16.ofInt I.2.1).toInt32.toInt = I.2.1)) = true := hck
      obtain ⟨h1, h2⟩ := zand_t hck
      exact zs_push (v := .int (Int16.ofInt I.2.1).toInt32) hk (fun μ N => zvr.i' (of_decide_eq_true h2)) (fun kk => lv_sipush hx hb (zok_d h1) rfl kk) hr
    · have hck : (zok cc pc (.ldc I.2.2.1) 2 && zw wi 0 (.constant own I.2.2.1 (Int32.ofInt I.2.1)) && decide ((Int32.ofInt I.2.1).toInt = I.2.1)) = true := hck
      obtain ⟨hck, h3⟩ := zand_t hck
      obtain ⟨h1, h2⟩ := zand_t hck
      exact zs_push (v := .int (Int32.ofInt I.2.1)) hk (fun μ N => zvr.i' (of_decide_eq_true h3)) (fun kk => lv_ldc hx hb hown (hts _ (zw_in h2)) (zok_d h1) kk) hr
    · have hck : (zok cc pc (.ldc_w I.2.2.1) 3 && zw wi 0 (.constant own I.2.2.1 (Int32.ofInt I.2.1)) && decide ((Int32.ofInt I.2.1).toInt = I.2.1)) = true := hck
      obtain ⟨hck, h3⟩ := zand_t hck
      obtain ⟨h1, h2⟩ := zand_t hck
      exact zs_push (v := .int (Int32.ofInt I.2.1)) hk (fun μ N => zvr.i' (of_decide_eq_true h3)) (fun kk => lv_ldcw hx hb hown (hts _ (zw_in h2)) (zok_d h1) kk) hr
    · have hck : (zok cc pc (.lconst (Fin.ofNat 2 I.2.2.1)) 1 && decide ((Int64.ofNat ((Fin.ofNat 2 I.2.2.1 : Fin 2) : Nat)).toInt = I.2.1)) = true := hck
      obtain ⟨h1, h2⟩ := zand_t hck
      exact zs_push (v := .long (Int64.ofNat ((Fin.ofNat 2 I.2.2.1 : Fin 2) : Nat))) hk (fun μ N => zvr.l' (of_decide_eq_true h2)) (fun kk => lv_lconst hx hb (zok_d h1) rfl kk) hr
    · have hck : (zok cc pc (.ldc2_w I.2.2.1) 3 && zw wi 0 (.constantLong own I.2.2.1 (Int64.ofInt I.2.1)) && decide ((Int64.ofInt I.2.1).toInt = I.2.1)) = true := hck
      obtain ⟨hck, h3⟩ := zand_t hck
      obtain ⟨h1, h2⟩ := zand_t hck
      exact zs_push (v := .long (Int64.ofInt I.2.1)) hk (fun μ N => zvr.l' (of_decide_eq_true h3)) (fun kk => lv_ldc2 hx hb hown (hts _ (zw_in h2)) (zok_d h1) kk) hr
    · have hck : (zok cc pc (.aconst_null) 1) = true := hck
      have h1 := hck
      exact zs_null hx hb hk (zok_d h1) hr
    · have hck : (zok cc pc (.ldc I.2.2.1) 2 && decide (I.2.1 = (I.2.1.toNat : Int)) && decide (I.2.1.toNat < 10) && decide ((own, I.2.2.1, I.2.1.toNat) ∈ zSRs)) = true := hck
      obtain ⟨hck, h4⟩ := zand_t hck
      obtain ⟨hck, h3⟩ := zand_t hck
      obtain ⟨h1, h2⟩ := zand_t hck
      exact zs_ldcS hx hb hk hown hEnv (of_decide_eq_true h2) (of_decide_eq_true h3) (of_decide_eq_true h4) (zok_d h1) hr
    · have hck : (zok cc pc (.iload_n (zf4 I.2.2.1)) 1 && decide (((zf4 I.2.2.1 : Fin 4) : Nat) = I.2.2.1)) = true := hck
      obtain ⟨h1, h2⟩ := zand_t hck
      exact zs_iload1 hx hb hk (zok_d h1) (of_decide_eq_true h2) hr
    · have hck : (zok cc pc (.iload I.2.2.1) 2) = true := hck
      have h1 := hck
      exact zs_iload2 hx hb hk (zok_d h1) hr
    · have hck : (zok cc pc (.lload_n (zf4 I.2.2.1)) 1 && decide (((zf4 I.2.2.1 : Fin 4) : Nat) = I.2.2.1)) = true := hck
      obtain ⟨h1, h2⟩ := zand_t hck
      exact zs_lload1 hx hb hk (zok_d h1) (of_decide_eq_true h2) hr
    · have hck : (zok cc pc (.lload I.2.2.1) 2) = true := hck
      have h1 := hck
      exact zs_lload2 hx hb hk (zok_d h1) hr
    · have hck : (zok cc pc (.aload_n (zf4 I.2.2.1)) 1 && decide (((zf4 I.2.2.1 : Fin 4) : Nat) = I.2.2.1)) = true := hck
      obtain ⟨h1, h2⟩ := zand_t hck
      exact zs_aload1 hx hb hk (zok_d h1) (of_decide_eq_true h2) hr
    · have hck : (zok cc pc (.aload I.2.2.1) 2) = true := hck
      have h1 := hck
      exact zs_aload2 hx hb hk (zok_d h1) hr
    · have hck : (zok cc pc (.istore_n (zf4 I.2.2.1)) 1 && decide (((zf4 I.2.2.1 : Fin 4) : Nat) = I.2.2.1)) = true := hck
      obtain ⟨h1, h2⟩ := zand_t hck
      exact zs_istore1 hx hb hk (zok_d h1) (of_decide_eq_true h2) hr
    · have hck : (zok cc pc (.istore I.2.2.1) 2) = true := hck
      have h1 := hck
      exact zs_istore2 hx hb hk (zok_d h1) hr
    · have hck : (zok cc pc (.lstore_n (zf4 I.2.2.1)) 1 && decide (((zf4 I.2.2.1 : Fin 4) : Nat) = I.2.2.1)) = true := hck
      obtain ⟨h1, h2⟩ := zand_t hck
      exact zs_lstore1 hx hb hk (zok_d h1) (of_decide_eq_true h2) hr
    · have hck : (zok cc pc (.lstore I.2.2.1) 2) = true := hck
      have h1 := hck
      exact zs_lstore2 hx hb hk (zok_d h1) hr
    · have hck : (zok cc pc (.astore_n (zf4 I.2.2.1)) 1 && decide (((zf4 I.2.2.1 : Fin 4) : Nat) = I.2.2.1)) = true := hck
      obtain ⟨h1, h2⟩ := zand_t hck
      exact zs_astore1 hx hb hk (zok_d h1) (of_decide_eq_true h2) hr
    · have hck : (zok cc pc (.astore I.2.2.1) 2) = true := hck
      have h1 := hck
      exact zs_astore2 hx hb hk (zok_d h1) hr
    · have hck : (zok cc pc (.iinc I.2.2.1 I.2.1) 3 && decide ((Int32.ofInt I.2.1).toInt = I.2.1)) = true := hck
      obtain ⟨h1, h2⟩ := zand_t hck
      exact zs_iinc (x := I.2.1) (u := I.2.2.1) (v := I.2.2.2) (o := I.1) hx hb hk (zok_d h1) (of_decide_eq_true h2) hr
    · have hck : (zok cc pc (.iadd) 1) = true := hck
      have h1 := hck
      exact zs_iadd hx hb hk (zok_d h1) hr
    · have hck : (zok cc pc (.isub) 1) = true := hck
      have h1 := hck
      exact zs_isub hx hb hk (zok_d h1) hr
    · have hck : (zok cc pc (.imul) 1) = true := hck
      have h1 := hck
      exact zs_imul hx hb hk (zok_d h1) hr
    · have hck : (zok cc pc (.idiv) 1) = true := hck
      have h1 := hck
      exact zs_idiv hx hb hk (zok_d h1) hr
    · have hck : (zok cc pc (.irem) 1) = true := hck
      have h1 := hck
      exact zs_irem hx hb hk (zok_d h1) hr
    · have hck : (zok cc pc (.iand) 1) = true := hck
      have h1 := hck
      exact zs_iand hx hb hk (zok_d h1) hr
    · have hck : (zok cc pc (.ior) 1) = true := hck
      have h1 := hck
      exact zs_ior hx hb hk (zok_d h1) hr
    · have hck : (zok cc pc (.ixor) 1) = true := hck
      have h1 := hck
      exact zs_ixor hx hb hk (zok_d h1) hr
    · have hck : (zok cc pc (.ishl) 1) = true := hck
      have h1 := hck
      exact zs_ishl hx hb hk (zok_d h1) hr
    · have hck : (zok cc pc (.ishr) 1) = true := hck
      have h1 := hck
      exact zs_ishr hx hb hk (zok_d h1) hr
    · have hck : (zok cc pc (.iushr) 1) = true := hck
      have h1 := hck
      exact zs_iushr hx hb hk (zok_d h1) hr
    · have hck : (zok cc pc (.i2l) 1) = true := hck
      have h1 := hck
      exact zs_i2l hx hb hk (zok_d h1) hr
    · have hck : (zok cc pc (.l2i) 1) = true := hck
      have h1 := hck
      exact zs_l2i hx hb hk (zok_d h1) hr
    · have hck : (zok cc pc (.i2c) 1) = true := hck
      have h1 := hck
      exact zs_i2c hx hb hk (zok_d h1) hr
    · have hck : (zok cc pc (.ladd) 1) = true := hck
      have h1 := hck
      exact zs_ladd hx hb hk (zok_d h1) hr
    · have hck : (zok cc pc (.lsub) 1) = true := hck
      have h1 := hck
      exact zs_lsub hx hb hk (zok_d h1) hr
    · have hck : (zok cc pc (.lmul) 1) = true := hck
      have h1 := hck
      exact zs_lmul hx hb hk (zok_d h1) hr
    · have hck : (zok cc pc (.lcmp) 1) = true := hck
      have h1 := hck
      exact zs_lcmp hx hb hk (zok_d h1) hr
    · have hck : (zok cc pc (.dup) 1) = true := hck
      have h1 := hck
      exact zs_dup hx hb hk (zok_d h1) hr
    · have hck : (zok cc pc (.dup2) 1) = true := hck
      have h1 := hck
      exact zs_dup2 hx hb hk (zok_d h1) hr
    · have hck : (zok cc pc (.pop) 1) = true := hck
      have h1 := hck
      exact zs_pop hx hb hk (zok_d h1) hr
    · have hck : (zok cc pc (.ifCond .eq I.2.1) 3 && decide ((pc : Int) + I.2.1 = (I.2.2.1 : Int))) = true := hck
      obtain ⟨h1, h2⟩ := zand_t hck
      exact zs_if_eq (x := I.2.1) (u := I.2.2.1) (v := I.2.2.2) (o := I.1) hx hb hk (zok_d h1) (of_decide_eq_true h2) hr
    · have hck : (zok cc pc (.ifCond .ne I.2.1) 3 && decide ((pc : Int) + I.2.1 = (I.2.2.1 : Int))) = true := hck
      obtain ⟨h1, h2⟩ := zand_t hck
      exact zs_if_ne (x := I.2.1) (u := I.2.2.1) (v := I.2.2.2) (o := I.1) hx hb hk (zok_d h1) (of_decide_eq_true h2) hr
    · have hck : (zok cc pc (.ifCond .lt I.2.1) 3 && decide ((pc : Int) + I.2.1 = (I.2.2.1 : Int))) = true := hck
      obtain ⟨h1, h2⟩ := zand_t hck
      exact zs_if_lt (x := I.2.1) (u := I.2.2.1) (v := I.2.2.2) (o := I.1) hx hb hk (zok_d h1) (of_decide_eq_true h2) hr
    · have hck : (zok cc pc (.ifCond .ge I.2.1) 3 && decide ((pc : Int) + I.2.1 = (I.2.2.1 : Int))) = true := hck
      obtain ⟨h1, h2⟩ := zand_t hck
      exact zs_if_ge (x := I.2.1) (u := I.2.2.1) (v := I.2.2.2) (o := I.1) hx hb hk (zok_d h1) (of_decide_eq_true h2) hr
    · have hck : (zok cc pc (.ifCond .gt I.2.1) 3 && decide ((pc : Int) + I.2.1 = (I.2.2.1 : Int))) = true := hck
      obtain ⟨h1, h2⟩ := zand_t hck
      exact zs_if_gt (x := I.2.1) (u := I.2.2.1) (v := I.2.2.2) (o := I.1) hx hb hk (zok_d h1) (of_decide_eq_true h2) hr
    · have hck : (zok cc pc (.ifCond .le I.2.1) 3 && decide ((pc : Int) + I.2.1 = (I.2.2.1 : Int))) = true := hck
      obtain ⟨h1, h2⟩ := zand_t hck
      exact zs_if_le (x := I.2.1) (u := I.2.2.1) (v := I.2.2.2) (o := I.1) hx hb hk (zok_d h1) (of_decide_eq_true h2) hr
    · have hck : (zok cc pc (.if_icmp .eq I.2.1) 3 && decide ((pc : Int) + I.2.1 = (I.2.2.1 : Int))) = true := hck
      obtain ⟨h1, h2⟩ := zand_t hck
      exact zs_icmp_eq (x := I.2.1) (u := I.2.2.1) (v := I.2.2.2) (o := I.1) hx hb hk (zok_d h1) (of_decide_eq_true h2) hr
    · have hck : (zok cc pc (.if_icmp .ne I.2.1) 3 && decide ((pc : Int) + I.2.1 = (I.2.2.1 : Int))) = true := hck
      obtain ⟨h1, h2⟩ := zand_t hck
      exact zs_icmp_ne (x := I.2.1) (u := I.2.2.1) (v := I.2.2.2) (o := I.1) hx hb hk (zok_d h1) (of_decide_eq_true h2) hr
    · have hck : (zok cc pc (.if_icmp .lt I.2.1) 3 && decide ((pc : Int) + I.2.1 = (I.2.2.1 : Int))) = true := hck
      obtain ⟨h1, h2⟩ := zand_t hck
      exact zs_icmp_lt (x := I.2.1) (u := I.2.2.1) (v := I.2.2.2) (o := I.1) hx hb hk (zok_d h1) (of_decide_eq_true h2) hr
    · have hck : (zok cc pc (.if_icmp .ge I.2.1) 3 && decide ((pc : Int) + I.2.1 = (I.2.2.1 : Int))) = true := hck
      obtain ⟨h1, h2⟩ := zand_t hck
      exact zs_icmp_ge (x := I.2.1) (u := I.2.2.1) (v := I.2.2.2) (o := I.1) hx hb hk (zok_d h1) (of_decide_eq_true h2) hr
    · have hck : (zok cc pc (.if_icmp .gt I.2.1) 3 && decide ((pc : Int) + I.2.1 = (I.2.2.1 : Int))) = true := hck
      obtain ⟨h1, h2⟩ := zand_t hck
      exact zs_icmp_gt (x := I.2.1) (u := I.2.2.1) (v := I.2.2.2) (o := I.1) hx hb hk (zok_d h1) (of_decide_eq_true h2) hr
    · have hck : (zok cc pc (.if_icmp .le I.2.1) 3 && decide ((pc : Int) + I.2.1 = (I.2.2.1 : Int))) = true := hck
      obtain ⟨h1, h2⟩ := zand_t hck
      exact zs_icmp_le (x := I.2.1) (u := I.2.2.1) (v := I.2.2.2) (o := I.1) hx hb hk (zok_d h1) (of_decide_eq_true h2) hr
    · have hck : (zok cc pc (.goto I.2.1) 3 && decide ((pc : Int) + I.2.1 = (I.2.2.1 : Int))) = true := hck
      obtain ⟨h1, h2⟩ := zand_t hck
      exact zs_goto (x := I.2.1) (u := I.2.2.1) (v := I.2.2.2) (o := I.1) hx hb hk (zok_d h1) (of_decide_eq_true h2) hr
    · have hck : (zok cc pc (.ifnull I.2.1) 3 && decide ((pc : Int) + I.2.1 = (I.2.2.1 : Int))) = true := hck
      obtain ⟨h1, h2⟩ := zand_t hck
      exact zs_ifnull (x := I.2.1) (u := I.2.2.1) (v := I.2.2.2) (o := I.1) hx hb hk (zok_d h1) (of_decide_eq_true h2) hr
    · have hck : (zok cc pc (.ifnonnull I.2.1) 3 && decide ((pc : Int) + I.2.1 = (I.2.2.1 : Int))) = true := hck
      obtain ⟨h1, h2⟩ := zand_t hck
      exact zs_ifnonnull (x := I.2.1) (u := I.2.2.1) (v := I.2.2.2) (o := I.1) hx hb hk (zok_d h1) (of_decide_eq_true h2) hr
    · have hck : (zok cc pc (.if_acmp .eq I.2.1) 3 && decide ((pc : Int) + I.2.1 = (I.2.2.1 : Int))) = true := hck
      obtain ⟨h1, h2⟩ := zand_t hck
      exact zs_acmp_eq (x := I.2.1) (u := I.2.2.1) (v := I.2.2.2) (o := I.1) hx hb hk (zok_d h1) (of_decide_eq_true h2) hr
    · have hck : (zok cc pc (.if_acmp .ne I.2.1) 3 && decide ((pc : Int) + I.2.1 = (I.2.2.1 : Int))) = true := hck
      obtain ⟨h1, h2⟩ := zand_t hck
      exact zs_acmp_ne (x := I.2.1) (u := I.2.2.1) (v := I.2.2.2) (o := I.1) hx hb hk (zok_d h1) (of_decide_eq_true h2) hr
    · have hck : (zswl cc pc I.2.2.1) = true := hck
      have h1 := hck
      exact zswl_go hx hb hk h1 hr
    · have hck : (zswt2 cc pc I.2.2.1) = true := hck
      have h1 := hck
      exact zswt2_go hx hb hk h1 hr
    · have hck : (zok cc pc (.getfield I.2.2.1) 3 && zw wi 0 (.fieldLink own I.2.2.1 (zCn I.2.1.toNat) (zCf I.2.1.toNat I.2.2.2).2.1 (zCf I.2.1.toNat I.2.2.2).2.2.1)) = true := hck
      obtain ⟨h1, h2⟩ := zand_t hck
      exact zs_getf hx hb hk hts zC_w hown hK (zok_d h1) (zw_in h2) hr
    · have hck : (zok cc pc (.getfield I.2.2.1) 3 && decide ((own, I.2.2.1, zCn I.2.1.toNat, (zCf I.2.1.toNat I.2.2.2).2.1, (zCf I.2.1.toNat I.2.2.2).2.2.1, "LaneMill") ∈ zLF)) = true := hck
      obtain ⟨h1, h2⟩ := zand_t hck
      exact zs_getfN2 hx hb hk hts zC_w hown hK (zok_d h1) (va_Nw.use rfl (hEnv.2.2.2.2.2.2.1 _ (of_decide_eq_true h2))) hr
    · have hck : (zok cc pc (.putfield I.2.2.1) 3 && zw wi 0 (.fieldLink own I.2.2.1 (zCn I.2.1.toNat) (zCf I.2.1.toNat I.2.2.2).2.1 (zCf I.2.1.toNat I.2.2.2).2.2.1) && !(zCf I.2.1.toNat I.2.2.2).2.2.2) = true := hck
      obtain ⟨hck, h3⟩ := zand_t hck
      obtain ⟨h1, h2⟩ := zand_t hck
      exact zs_putf hx hb hk hts zC_w hown hK (zok_d h1) (zw_in h2) (znot_t h3) hr
    · have hck : (zok cc pc (.putfield I.2.2.1) 3 && zw wi 0 (.fieldLink own I.2.2.1 (zCn I.2.1.toNat) (zCf I.2.1.toNat I.2.2.2).2.1 (zCf I.2.1.toNat I.2.2.2).2.2.1) && (zCf I.2.1.toNat I.2.2.2).2.2.2 && isI && decide (zCn I.2.1.toNat = own)) = true := hck
      obtain ⟨hck, h5⟩ := zand_t hck
      obtain ⟨hck, h4⟩ := zand_t hck
      obtain ⟨hck, h3⟩ := zand_t hck
      obtain ⟨h1, h2⟩ := zand_t hck
      exact zs_putfF hx hb hk hts zC_w hown hK (zok_d h1) (zw_in h2) h3 (hini h4) (of_decide_eq_true h5) hr
    · have hck : (zok cc pc (.iaload) 1) = true := hck
      have h1 := hck
      exact zs_iald hx hb hk hK (zok_d h1) hr
    · have hck : (zok cc pc (.baload) 1) = true := hck
      have h1 := hck
      exact zs_zald hx hb hk hK (zok_d h1) hr
    · have hck : (zok cc pc (.caload) 1) = true := hck
      have h1 := hck
      exact zs_cald hx hb hk hK (zok_d h1) hr
    · have hck : (zok cc pc (.laload) 1) = true := hck
      have h1 := hck
      exact zs_lald hx hb hk hK (zok_d h1) hr
    · have hck : (zok cc pc (.daload) 1) = true := hck
      have h1 := hck
      exact zs_dald hx hb hk hK (zok_d h1) hr
    · have hck : (zok cc pc (.aaload) 1) = true := hck
      have h1 := hck
      exact zs_aald hx hb hk hK (zok_d h1) hr
    · cases hck
    · cases hck
    · have hck : (zok cc pc (.iastore) 1) = true := hck
      have h1 := hck
      exact zs_iast hx hb hk hK (zok_d h1) hr
    · have hck : (zok cc pc (.bastore) 1) = true := hck
      have h1 := hck
      exact zs_zast hx hb hk hK (zok_d h1) hr
    · have hck : (zok cc pc (.castore) 1) = true := hck
      have h1 := hck
      exact zs_cast hx hb hk hK (zok_d h1) hr
    · have hck : (zok cc pc (.lastore) 1) = true := hck
      have h1 := hck
      exact zs_last hx hb hk hK (zok_d h1) hr
    · have hck : (zok cc pc (.dastore) 1) = true := hck
      have h1 := hck
      exact zs_dast hx hb hk hK (zok_d h1) hr
    · have hck : (zok cc pc (.aastore) 1) = true := hck
      have h1 := hck
      exact zs_aast hx hb hk hK (zok_d h1) hr
    · have hck : (zok cc pc (.arraylength) 1 && decide (zft zPP I.2.2.2 0 ∈ zes)) = true := hck
      obtain ⟨h1, h2⟩ := zand_t hck
      exact zs_alen hx hb hk hK (zok_d h1) (of_decide_eq_true h2) hr
    · have hck : (zckn cc pc I wi) = true := hck
      have h1 := hck
      exact zckn_go hx hb hk hA hRc hRs hts hK h1 hr
    · have hck : (zok cc pc (.anewarray I.2.2.1) 3 && zw wi 0 (.classLink own I.2.2.1 (zCn (zft zPP I.2.2.2 0 - 100))) && decide (zCn (zft zPP I.2.2.2 0 - 100) ∈ zAOs)) = true := hck
      obtain ⟨hck, h3⟩ := zand_t hck
      obtain ⟨h1, h2⟩ := zand_t hck
      exact zs_anew hx hb hk hA hRc hRs hts hown hK (zok_d h1) (zw_in h2) (hEnv.2.2.2.2.2.2.2.2.2 _ (of_decide_eq_true h3)) hr
    · have hck : (zok cc pc (.new I.2.2.1) 3 && zw wi 0 (.classLink own I.2.2.1 (zCn I.2.2.2)) && zw wi 1 (.instantiable (zCn I.2.2.2) (zCk I.2.2.2)) && zw wi 2 (.initialized (zCn I.2.2.2))) = true := hck
      obtain ⟨hck, h4⟩ := zand_t hck
      obtain ⟨hck, h3⟩ := zand_t hck
      obtain ⟨h1, h2⟩ := zand_t hck
      exact zs_new hx hb hk hts zC_w hown hK hA hRc hRs (zok_d h1) (zw_in h2) (zw_in h3) (zw_in h4) hr
    · have hck : (zok cc pc (.invokevirtual I.2.2.1) 3 && zcbb wi 0 fr lo (zi I.2.2.2) && zw wi 1 (.methodLink own I.2.2.1 (zi I.2.2.2).1) && zw wi 2 (.instanceMethod (zi I.2.2.2).1) && zw wi 3 (.selects (zi I.2.2.2).1.cls (zi I.2.2.2).1 (zi I.2.2.2).1) && zrvb I.2.2.2 (zi I.2.2.2) && (zi I.2.2.2).2.2.2.2.2.2.2.2.isNone) = true := hck
      obtain ⟨hck, h7⟩ := zand_t hck
      obtain ⟨hck, h6⟩ := zand_t hck
      obtain ⟨hck, h5⟩ := zand_t hck
      obtain ⟨hck, h4⟩ := zand_t hck
      obtain ⟨hck, h3⟩ := zand_t hck
      obtain ⟨h1, h2⟩ := zand_t hck
      have hcb := zcbb_go (own := own) (ix := I.2.2.1) h2 (hcwz I.2.2.2) hRf hRl
      obtain ⟨r1, r2, r3, r4⟩ := zrvb_go h6
      cases hth : (zi I.2.2.2).2.2.2.2.2.1 with
      | false => exact zs_callv hx hb hml hown hts hK hA hEnv hRc hRs hk (fun z => z) hcb (zw_in h3) (zw_in h4) (zw_in h5) r1 rfl r2 r3 r4 (fun z => z) (fun as h k t hc => (hcall I.2.2.2 as h k t hc).1 hth) (zok_d h1) (zicw_n h7) hr
      | true => exact zs_callvx hx hb hml hown hts hK hA hEnv hRc hRs hk hthr (fun z => z) hcb (zw_in h3) (zw_in h4) (zw_in h5) r1 rfl r2 r3 r4 (fun z => z) (fun as h k t hc => (hcall I.2.2.2 as h k t hc).2 hth) (zok_d h1) (zicw_n h7) hr
    · have hck : (zok cc pc (.invokevirtual I.2.2.1) 3 && zcbb wi 0 fr lo (zi I.2.2.2) && zlmb own I.2.2.1 (zi I.2.2.2).1 && zw wi 2 (.instanceMethod (zi I.2.2.2).1) && zw wi 3 (.selects (zi I.2.2.2).1.cls (zi I.2.2.2).1 (zi I.2.2.2).1) && zrvb I.2.2.2 (zi I.2.2.2) && (zi I.2.2.2).2.2.2.2.2.2.2.2.isNone && !(zi I.2.2.2).2.2.2.2.2.1) = true := hck
      obtain ⟨hck, h8⟩ := zand_t hck
      obtain ⟨hck, h7⟩ := zand_t hck
      obtain ⟨hck, h6⟩ := zand_t hck
      obtain ⟨hck, h5⟩ := zand_t hck
      obtain ⟨hck, h4⟩ := zand_t hck
      obtain ⟨hck, h3⟩ := zand_t hck
      obtain ⟨h1, h2⟩ := zand_t hck
      obtain ⟨host, h3⟩ := zlm_go h3
      have hcb := zcbb_go (own := own) (ix := I.2.2.1) h2 (hcwz I.2.2.2) hRf hRl
      obtain ⟨r1, r2, r3, r4⟩ := zrvb_go h6
      exact zs_callvN hx hb hml hown hts hK hA hEnv hRc hRs hk (fun z => z) hcb h3 (zw_in h4) (zw_in h5) r1 rfl r2 r3 r4 (fun z => z) (fun as h k t hc => (hcall I.2.2.2 as h k t hc).1 (znot_t h8)) (zok_d h1) (zicw_n h7) hr
    · have hck : (zok cc pc (.invokevirtual I.2.2.1) 3 && zcbb wi 0 fr lo (zi I.2.2.2) && zw wi 1 (.methodLink own I.2.2.1 (zi I.2.2.2).1) && zw wi 2 (.instanceMethod (zi I.2.2.2).1) && zw wi 3 (.selects (zi I.2.2.2).1.cls (zi I.2.2.2).1 (zi I.2.2.2).1) && zrvb I.2.2.2 (zi I.2.2.2) && (zi I.2.2.2).2.2.2.2.2.2.2.2.isNone && (zi I.2.2.2).2.2.2.2.2.1 && zhokb own pc wi tb (zget [] zPP.2.2.2 I.2.1.toNat)) = true := hck
      obtain ⟨hck, h9⟩ := zand_t hck
      obtain ⟨hck, h8⟩ := zand_t hck
      obtain ⟨hck, h7⟩ := zand_t hck
      obtain ⟨hck, h6⟩ := zand_t hck
      obtain ⟨hck, h5⟩ := zand_t hck
      obtain ⟨hck, h4⟩ := zand_t hck
      obtain ⟨hck, h3⟩ := zand_t hck
      obtain ⟨h1, h2⟩ := zand_t hck
      have hcb := zcbb_go (own := own) (ix := I.2.2.1) h2 (hcwz I.2.2.2) hRf hRl
      obtain ⟨r1, r2, r3, r4⟩ := zrvb_go h6
      exact zs_callh hx hb hml hown hts hK hA hEnv hRc hRs hk (fun z => z) hcb (zw_in h3) (zw_in h4) (zw_in h5) htab (zhokb_go h9) r1 rfl r2 r3 r4 (fun z => z) (fun as h k t hc => (hcall I.2.2.2 as h k t hc).2 h8) (zok_d h1) (zicw_n h7) hr
    · have hck : (zok cc pc (.invokestatic I.2.2.1) 3 && zcbb wi 0 fr lo (zi I.2.2.2) && zw wi 1 (.methodLink own I.2.2.1 (zi I.2.2.2).1) && zw wi 2 (.static (zi I.2.2.2).1) && decide ((zsig zPP I.2.2.2).2.1.reverse.length = (zi I.2.2.2).2.2.2.2.1) && !(zi I.2.2.2).2.2.2.2.2.1) = true := hck
      obtain ⟨hck, h6⟩ := zand_t hck
      obtain ⟨hck, h5⟩ := zand_t hck
      obtain ⟨hck, h4⟩ := zand_t hck
      obtain ⟨hck, h3⟩ := zand_t hck
      obtain ⟨h1, h2⟩ := zand_t hck
      have hcb := zcbb_go (own := own) (ix := I.2.2.1) h2 (hcwz I.2.2.2) hRf hRl
      cases hh : (zi I.2.2.2).2.2.2.2.2.2.2.2 with
      | none => exact zs_calls hx hb hml hown hts hK hA hEnv hRc hRs hk (fun z => z) hcb (zw_in h3) (zw_in h4) (of_decide_eq_true h5) (fun z => z) (fun as h k t hc => (hcall I.2.2.2 as h k t hc).1 (znot_t h6)) (zok_d h1) (zicw_n (by rw [hh]; rfl)) hr
      | some hh9 => exact zs_callsW hx hb hml hown hts hK hA hEnv hRc hRs hk (fun z => z) hcb (zw_in h3) (zw_in h4) (of_decide_eq_true h5) (fun z => z) (fun as h k t hc => (hcall I.2.2.2 as h k t hc).1 (znot_t h6)) (zok_d h1) (zicw_s hh) hr
    · have hck : (zok cc pc (.invokestatic I.2.2.1) 3 && zcbb wi 0 fr lo (zi I.2.2.2) && zlmb own I.2.2.1 (zi I.2.2.2).1 && zw wi 2 (.static (zi I.2.2.2).1) && decide ((zsig zPP I.2.2.2).2.1.reverse.length = (zi I.2.2.2).2.2.2.2.1) && !(zi I.2.2.2).2.2.2.2.2.1 && (zi I.2.2.2).2.2.2.2.2.2.2.2.isNone) = true := hck
      obtain ⟨hck, h7⟩ := zand_t hck
      obtain ⟨hck, h6⟩ := zand_t hck
      obtain ⟨hck, h5⟩ := zand_t hck
      obtain ⟨hck, h4⟩ := zand_t hck
      obtain ⟨hck, h3⟩ := zand_t hck
      obtain ⟨h1, h2⟩ := zand_t hck
      obtain ⟨host, h3⟩ := zlm_go h3
      have hcb := zcbb_go (own := own) (ix := I.2.2.1) h2 (hcwz I.2.2.2) hRf hRl
      exact zs_callsN hx hb hml hown hts hK hA hEnv hRc hRs hk (fun z => z) hcb h3 (zw_in h4) (of_decide_eq_true h5) (fun z => z) (fun as h k t hc => (hcall I.2.2.2 as h k t hc).1 (znot_t h6)) (zok_d h1) (zicw_n h7) hr
    · have hck : (zok cc pc (.invokespecial I.2.2.1) 3 && zcbb wi 0 fr lo (zi I.2.2.2) && zw wi 1 (.methodLink own I.2.2.1 (zi I.2.2.2).1) && zw wi 2 (.instanceMethod (zi I.2.2.2).1) && decide ((zi I.2.2.2).1.name = "<init>") && decide ((zsig zPP I.2.2.2).2.2.1 = 9) && zrvb I.2.2.2 (zi I.2.2.2) && !(zi I.2.2.2).2.2.2.2.2.1 && (zi I.2.2.2).2.2.2.2.2.2.2.2.isNone && (zi I.2.2.2).2.2.2.2.2.2.2.1.isNone) = true := hck
      obtain ⟨hck, h10⟩ := zand_t hck
      obtain ⟨hck, h9⟩ := zand_t hck
      obtain ⟨hck, h8⟩ := zand_t hck
      obtain ⟨hck, h7⟩ := zand_t hck
      obtain ⟨hck, h6⟩ := zand_t hck
      obtain ⟨hck, h5⟩ := zand_t hck
      obtain ⟨hck, h4⟩ := zand_t hck
      obtain ⟨hck, h3⟩ := zand_t hck
      obtain ⟨h1, h2⟩ := zand_t hck
      have hcb := zcbb_go (own := own) (ix := I.2.2.1) h2 (hcwz I.2.2.2) hRf hRl
      obtain ⟨r1, r2, r3, r4⟩ := zrvb_go h7
      exact zs_calli (ret := none) hx hb hml hown hts hK hA hEnv hRc hRs hk (fun z => z) hcb (zw_in h3) (zw_in h4) (of_decide_eq_true h5) (of_decide_eq_true h6) r1 rfl r2 r3 r4 (fun z => z) (fun as h k t hc => (hcall I.2.2.2 as h k t hc).1 (znot_t h8)) (zok_d h1) (zicw_v h9 h10) hr
    · have hck : (zok cc pc (.invokespecial I.2.2.1) 3 && zcbb wi 0 fr lo (zi I.2.2.2) && zlmb own I.2.2.1 (zi I.2.2.2).1 && zw wi 2 (.instanceMethod (zi I.2.2.2).1) && decide ((zi I.2.2.2).1.name = "<init>") && decide ((zsig zPP I.2.2.2).2.2.1 = 9) && zrvb I.2.2.2 (zi I.2.2.2) && !(zi I.2.2.2).2.2.2.2.2.1 && (zi I.2.2.2).2.2.2.2.2.2.2.2.isNone && (zi I.2.2.2).2.2.2.2.2.2.2.1.isNone) = true := hck
      obtain ⟨hck, h10⟩ := zand_t hck
      obtain ⟨hck, h9⟩ := zand_t hck
      obtain ⟨hck, h8⟩ := zand_t hck
      obtain ⟨hck, h7⟩ := zand_t hck
      obtain ⟨hck, h6⟩ := zand_t hck
      obtain ⟨hck, h5⟩ := zand_t hck
      obtain ⟨hck, h4⟩ := zand_t hck
      obtain ⟨hck, h3⟩ := zand_t hck
      obtain ⟨h1, h2⟩ := zand_t hck
      obtain ⟨host, h3⟩ := zlm_go h3
      have hcb := zcbb_go (own := own) (ix := I.2.2.1) h2 (hcwz I.2.2.2) hRf hRl
      obtain ⟨r1, r2, r3, r4⟩ := zrvb_go h7
      exact zs_calliN (ret := none) hx hb hml hown hts hK hA hEnv hRc hRs hk (fun z => z) hcb h3 (zw_in h4) (of_decide_eq_true h5) (of_decide_eq_true h6) r1 rfl r2 r3 r4 (fun z => z) (fun as h k t hc => (hcall I.2.2.2 as h k t hc).1 (znot_t h8)) (zok_d h1) (zicw_v h9 h10) hr
    · have hck : (zok cc pc (.invokespecial I.2.2.1) 3 && zw wi 0 (.methodLink own I.2.2.1 Lib.objectInit) && zw wi 1 (.instanceMethod Lib.objectInit) && zw wi 2 (.code Lib.objectInit ⟨#[0xb1]⟩ 1 none) && Nat.ble 1 fr && Nat.ble 20 lo) = true := hck
      obtain ⟨hck, h6⟩ := zand_t hck
      obtain ⟨hck, h5⟩ := zand_t hck
      obtain ⟨hck, h4⟩ := zand_t hck
      obtain ⟨hck, h3⟩ := zand_t hck
      obtain ⟨h1, h2⟩ := zand_t hck
      exact zs_obj hx hb hk hml hts hown (zok_d h1) (zw_in h2) (zw_in h3) (zw_in h4) (hRf ▸ Nat.le_of_ble_eq_true h5) (hRl ▸ Nat.le_of_ble_eq_true h6) hr
    · have hck : (zok cc pc (.invokestatic I.2.2.1) 3 && zw wi 0 (.methodLink own I.2.2.1 arraycopyName) && zw wi 1 (.native arraycopyName) && zw wi 2 (.static arraycopyName) && zw wi 3 (.initialized "java/lang/System") && Nat.ble 1 fr && Nat.ble (8 + (nativeFrameWords "java/lang/System" "arraycopy" 5 + 11)) lo) = true := hck
      obtain ⟨hck, h7⟩ := zand_t hck
      obtain ⟨hck, h6⟩ := zand_t hck
      obtain ⟨hck, h5⟩ := zand_t hck
      obtain ⟨hck, h4⟩ := zand_t hck
      obtain ⟨hck, h3⟩ := zand_t hck
      obtain ⟨h1, h2⟩ := zand_t hck
      exact zs_copy hx hb hk hml hts hown hK (zok_d h1) (zw_in h2) (zw_in h3) (zw_in h4) (zw_in h5) (hRf ▸ Nat.le_of_ble_eq_true h6) (hRl ▸ Nat.le_of_ble_eq_true h7) hr
    · have hck : (zok cc pc (.invokevirtual I.2.2.1) 3 && zcbb wi 0 fr lo zixi && zw wi 1 (.methodLink own I.2.2.1 zixi.1) && zw wi 2 (.instanceMethod zixi.1) && zw wi 3 (.selects "java/lang/String" zixi.1 zixi.1) && zw wi 4 (zicw zixi) && decide (zixi.1.cls = "java/lang/String") && zixi.2.2.2.2.2.2.2.2.isNone && decide (zixi.2.2.2.2.1 = 1)) = true := hck
      obtain ⟨hck, h9⟩ := zand_t hck
      obtain ⟨hck, h8⟩ := zand_t hck
      obtain ⟨hck, h7⟩ := zand_t hck
      obtain ⟨hck, h6⟩ := zand_t hck
      obtain ⟨hck, h5⟩ := zand_t hck
      obtain ⟨hck, h4⟩ := zand_t hck
      obtain ⟨hck, h3⟩ := zand_t hck
      obtain ⟨h1, h2⟩ := zand_t hck
      have hcb := zcbb_go (own := own) (ix := I.2.2.1) h2 (zw_in h6) hRf hRl
      rw [of_decide_eq_true h9] at hcb
      exact zs_stix hx hb hml hown hts hK hA hEnv hRc hRs hH0 hk hcb (of_decide_eq_true h7) (zw_in h3) (zw_in h4) (zw_in h5) (zicw_n h8) hIX (zok_d h1) hr
    · cases hck
    · cases hck
    · cases hck
    · cases hck
    · cases hck
    · cases hck
    · cases hck
    · have hck : (zok cc pc (.fconst 0) 1 && decide (I.2.1 = 0)) = true := hck
      obtain ⟨h1, h2⟩ := zand_t hck
      exact zs_push (v := .float FP.fconst0) hk (fun μ N => zvr.f' (by rw [of_decide_eq_true h2]; rfl)) (fun kk => lv_fconst0 hx hb (zok_d h1) kk) hr
    · have hck : (zok cc pc (.dconst 0) 1 && decide (I.2.1 = 0)) = true := hck
      obtain ⟨h1, h2⟩ := zand_t hck
      exact zs_push (v := .double FP.dconst0) hk (fun μ N => zvr.d' (by rw [of_decide_eq_true h2]; rfl)) (fun kk => lv_dconst0 hx hb (zok_d h1) kk) hr
    · have hck : (zok cc pc (.l2f) 1) = true := hck
      have h1 := hck
      exact zs_l2f hx hb hk (zok_d h1) hr
    · have hck : (zok cc pc (.i2f) 1) = true := hck
      have h1 := hck
      exact zs_i2f hx hb hk (zok_d h1) hr
    · have hck : (zok cc pc (.fdiv) 1) = true := hck
      have h1 := hck
      exact zs_fdiv hx hb hk (zok_d h1) hr
    · have hck : (zok cc pc (.l2d) 1) = true := hck
      have h1 := hck
      exact zs_l2d hx hb hk (zok_d h1) hr
    · have hck : (zok cc pc (.i2d) 1) = true := hck
      have h1 := hck
      exact zs_i2d hx hb hk (zok_d h1) hr
    · have hck : (zok cc pc (.ddiv) 1) = true := hck
      have h1 := hck
      exact zs_ddiv hx hb hk (zok_d h1) hr
    · have hck : (zok cc pc (.f2d) 1) = true := hck
      have h1 := hck
      exact zs_f2d hx hb hk (zok_d h1) hr
    · have hck : (zok cc pc (.dcmp .l) 1) = true := hck
      have h1 := hck
      exact zs_dcmpl hx hb hk (zok_d h1) hr
    · have hck : (zok cc pc (.fcmp .l) 1) = true := hck
      have h1 := hck
      exact zs_fcmpl hx hb hk (zok_d h1) hr
    · have hck : (zok cc pc (.fload_n (zf4 I.2.2.1)) 1 && decide (((zf4 I.2.2.1 : Fin 4) : Nat) = I.2.2.1)) = true := hck
      obtain ⟨h1, h2⟩ := zand_t hck
      exact zs_fload1 hx hb hk (zok_d h1) (of_decide_eq_true h2) hr
    · have hck : (zok cc pc (.fload I.2.2.1) 2) = true := hck
      have h1 := hck
      exact zs_fload2 hx hb hk (zok_d h1) hr
    · have hck : (zok cc pc (.fstore_n (zf4 I.2.2.1)) 1 && decide (((zf4 I.2.2.1 : Fin 4) : Nat) = I.2.2.1)) = true := hck
      obtain ⟨h1, h2⟩ := zand_t hck
      exact zs_fstore1 hx hb hk (zok_d h1) (of_decide_eq_true h2) hr
    · have hck : (zok cc pc (.fstore I.2.2.1) 2) = true := hck
      have h1 := hck
      exact zs_fstore2 hx hb hk (zok_d h1) hr
    · have hck : (zok cc pc (.dload_n (zf4 I.2.2.1)) 1 && decide (((zf4 I.2.2.1 : Fin 4) : Nat) = I.2.2.1)) = true := hck
      obtain ⟨h1, h2⟩ := zand_t hck
      exact zs_dload1 hx hb hk (zok_d h1) (of_decide_eq_true h2) hr
    · have hck : (zok cc pc (.dload I.2.2.1) 2) = true := hck
      have h1 := hck
      exact zs_dload2 hx hb hk (zok_d h1) hr
    · have hck : (zok cc pc (.dstore_n (zf4 I.2.2.1)) 1 && decide (((zf4 I.2.2.1 : Fin 4) : Nat) = I.2.2.1)) = true := hck
      obtain ⟨h1, h2⟩ := zand_t hck
      exact zs_dstore1 hx hb hk (zok_d h1) (of_decide_eq_true h2) hr
    · have hck : (zok cc pc (.dstore I.2.2.1) 2) = true := hck
      have h1 := hck
      exact zs_dstore2 hx hb hk (zok_d h1) hr
  have hr2 : zsel I.1 zPP al call I kont kret kthr pc ls st h = some r := hr
  rw [zsel_eq] at hr2
  exact key I.1 hck ls st h hr2
end
