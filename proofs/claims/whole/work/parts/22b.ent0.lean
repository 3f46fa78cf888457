/-! THE LAW'S ENTRY -/
def zsp : List (String × Nat) := [("LaneMill", 247), ("LaneMill$Core", 221), ("LaneMill$Core", 234), ("LaneMill$Core", 239), ("LaneMill$Instruction", 31), ("LaneMill$Instruction", 37), ("LaneMill$Instruction", 45), ("LaneMill$Instruction", 47), ("LaneMill$Instruction", 49), ("LaneMill$Instruction", 55)]
def ztm (i : Nat) : Term := .string (zget ("", 0) zsp i).1 (zget ("", 0) zsp i).2
def zFl : List Cond := flatC (Jvm.Cond.and given_1 narrow_1)
def zq1 (i : Nat) : Bool := decide (Cond.exactly (ztm i) "java/lang/String" ∈ zFl) && decide (Cond.eq (.field (ztm i) "java/lang/String" "coder" "B") (.int 0) ∈ zFl) && decide (Cond.arrayOf (.field (ztm i) "java/lang/String" "value" "[B") .byte ∈ zFl) && decide (Cond.eq (.length (.field (ztm i) "java/lang/String" "value" "[B")) (.int (Int32.ofNat (zlen.getD i 0))) ∈ zFl) && Nat.blt (zlen.getD i 0) 1000
def zq2 (i j : Nat) : Bool := decide (Cond.eq (.elem (.field (ztm i) "java/lang/String" "value" "[B") (.int (Int32.ofNat j))) (.int ((zbyt.getD i []).getD j 0)) ∈ zFl)
def zq3 (i j : Nat) : Bool := decide (i = j) || decide (Cond.not (Cond.eq (ztm i) (ztm j)) ∈ zFl) || decide (Cond.not (Cond.eq (ztm j) (ztm i)) ∈ zFl)
set_option maxRecDepth 1000000 in
set_option maxHeartbeats 0 in
theorem zq1_ok : (List.range 10).all zq1 = true := by decide +kernel
set_option maxRecDepth 1000000 in
set_option maxHeartbeats 0 in
theorem zq2_ok : ((List.range 10).all fun i => (List.range (zlen.getD i 0)).all (zq2 i)) = true := by decide +kernel
set_option maxRecDepth 1000000 in
set_option maxHeartbeats 0 in
theorem zq3_ok : ((List.range 10).all fun i => (List.range 10).all (zq3 i)) = true := by decide +kernel
set_option maxRecDepth 1000000 in
set_option maxHeartbeats 0 in
theorem zq4_ok : (zSRs.all fun q => lw_tbl.any (fun w => decide (w = .stringRef q.1 q.2.1 (zget "" zTXT q.2.2))) && Nat.blt q.2.2 10 && (decide ((q.1, q.2.1) = zget ("", 0) zsp q.2.2) || decide (Cond.eq (ztm q.2.2) (.string q.1 q.2.1) ∈ zFl))) = true := by decide +kernel
set_option maxRecDepth 1000000 in
set_option maxHeartbeats 0 in
theorem zq5_ok : (zLM.all (fun q => lw_tbl.any (fun w => decide (w = .methodLinkNest q.1 q.2.1 q.2.2.1 q.2.2.2))) && zLF.all (fun q => lw_tbl.any (fun w => decide (w = .fieldLinkNest q.1 q.2.1 q.2.2.1 q.2.2.2.1 q.2.2.2.2.1 q.2.2.2.2.2))) && zLC.all (fun q => lw_tbl.any (fun w => decide (w = .castable q.1 q.2))) && zDL.all (fun q => lw_tbl.any (fun w => decide (w = .declares q))) && zAOs.all (fun q => lw_tbl.any (fun w => decide (w = .arrayOver (.object q))))) = true := by decide +kernel
set_option maxRecDepth 1000000 in
set_option maxHeartbeats 0 in
theorem zq6_ok : (zNC.all fun q => decide (Cond.not (.castable q.1 q.2) ∈ zFl)) = true := by decide +kernel
set_option maxRecDepth 1000000 in
set_option maxHeartbeats 0 in
theorem zq7_ok : ((List.range 13).all fun c => lw_tbl.any (fun w => decide (w = .instantiable (zCn c) (zCk c)))) = true := by decide +kernel
set_option maxRecDepth 1000000 in
set_option maxHeartbeats 0 in
theorem zq8_ok : (zes.all fun e => lw_tbl.any (fun w => decide (w = if e < 100 then .arrayClass (zty e) else .arrayOver (.object (zCn (e - 100)))))) = true := by decide +kernel
theorem zany_in {w : Cond} (h : lw_tbl.any (fun x => decide (x = w)) = true) : w ∈ lw_tbl := by
  obtain ⟨x, hx, h⟩ := List.any_eq_true.mp h
  exact of_decide_eq_true h ▸ hx
section
variable {p : Program} {s : State} {m : MethodId} {meth : Method} {c : Code} {b L : Nat} {xs : Nat → Int32}
theorem zK0 (C0 : lw_At p s m meth c b L xs) : ∃ (cA : Nat → ClassId) (D : va_G), va_K D zcl (ztys cA) s := by
  obtain ⟨hx, hb, hr, hml, hown, hts, hX, hbl, hlocks, hgv⟩ := C0
  have h1 : ∀ k : Nat, ∃ q : ClassId × (Nat → Nat), k < 13 → u_Kn s (zCn k) (zCf k) (zCk k) q.1 q.2 := fun k => by
    by_cases hk : k < 13
    · have hw := zany_in (List.all_eq_true.mp zq7_ok k (List.mem_range.mpr hk))
      obtain ⟨cC, iS, hh⟩ := u_known (ws := zT) (C := zCn k) (T := zCf k) (N := zCk k) (n := zCk k) (fun w hw => hts w (List.mem_of_mem_filter hw)) (zC_w k hk) (hts _ hw)
      exact ⟨(cC, iS), fun _ => hh⟩
    · exact ⟨(0, fun _ => 0), fun h => absurd h hk⟩
  have h2 : ∀ e : Nat, ∃ cA : ClassId, e ∈ zes → ArrOfT s cA (zty e) ∧ va_RA s cA (zty e) := fun e => by
    by_cases he : e ∈ zes
    · have hw := zany_in (List.all_eq_true.mp zq8_ok e he)
      by_cases h100 : e < 100
      · rw [if_pos h100] at hw
        obtain ⟨cA, kA, comp, k1, k2, k3⟩ := Cond.arrayClass_spec (hts _ hw)
        refine ⟨cA, fun _ => ⟨?_, ?_⟩⟩
        · intro N z
          refine ⟨(fun k h => ?_), kA, k2, comp, k3⟩
          revert h k3 k1
          simp only [zes, List.mem_cons, List.mem_nil_iff, or_false] at he
          rcases he with rfl | rfl | rfl | rfl | rfl | rfl | rfl | rfl | rfl | rfl | rfl <;> first | (intro k1 k3 h; cases h) | (exfalso; omega)
        · revert k1
          simp only [zes, List.mem_cons, List.mem_nil_iff, or_false] at he
          rcases he with rfl | rfl | rfl | rfl | rfl | rfl | rfl | rfl | rfl | rfl | rfl <;> first | exact fun k1 => k1 | (exfalso; omega)
      · rw [if_neg h100] at hw
        obtain ⟨comp, cA, kA, k1, k2, k3, k4, k5⟩ := Cond.arrayOver_spec (hts _ hw)
        have e9 : zty e = .object (zCn (e - 100)) := by
          simp only [zes, List.mem_cons, List.mem_nil_iff, or_false] at he
          rcases he with rfl | rfl | rfl | rfl | rfl | rfl | rfl | rfl | rfl | rfl | rfl <;> first | rfl | (exfalso; omega)
        rw [e9]
        exact ⟨cA, fun _ => ⟨fun N z => ⟨(fun k h => by cases h), kA, k3, comp, k4⟩, kA, comp, k3, k4, k1, k5⟩⟩
    · exact ⟨0, fun h => absurd h he⟩
  obtain ⟨dd, hdd⟩ := Classical.axiomOfChoice h1
  obtain ⟨cA, hcA⟩ := Classical.axiomOfChoice h2
  refine ⟨cA, (fun k => (dd k).1, fun k => (dd k).2), fun k q hq => ?_, fun k q hq => ?_⟩
  · have hk : k < 13 := by
      have := (List.getElem?_eq_some_iff.mp hq).1
      unfold zcl at this
      rw [List.length_map, List.length_range] at this
      exact this
    rw [zcl_at hk] at hq
    cases hq
    exact hdd k hk
  · unfold ztys at hq
    rw [List.getElem?_map] at hq
    obtain ⟨e, he, rfl⟩ := Option.map_eq_some_iff.mp hq
    exact hcA e (List.mem_of_getElem? he)
theorem zE0 (C0 : lw_At p s m meth c b L xs) : ∃ σ : Nat → Nat, zEnv σ (va_A [] s.heap.size) s s.heap := by
  obtain ⟨hx, hb, hr, hml, hown, hts, hX, hbl, hlocks, hgv⟩ := C0
  have hs : ∀ w ∈ zFl, w.before #[Value.ref b] s = true := flat_of_before _ hgv
  have hA : ∀ a : Nat, a < s.heap.size → ¬ va_A [] s.heap.size a := fun a ha h => by
    rcases h with ⟨k, e, h⟩ | h
    · cases h
    · omega
  have q1 : ∀ i, i < 10 → zq1 i = true := fun i hi => List.all_eq_true.mp zq1_ok i (List.mem_range.mpr hi)
  obtain ⟨σ, adV, hS, hE⟩ := vk_Sof (args := #[Value.ref b]) (s := s) (N := 10) (tm := ztm) (len := zlen) (byt := zbyt) (A := va_A [] s.heap.size)
    (fun i hi => by
      have h := q1 i hi
      unfold zq1 at h
      obtain ⟨h, h5⟩ := zand_t h
      have : zlen.getD i 0 < 1000 := Nat.le_of_ble_eq_true h5
      omega)
    (fun i hi => by
      have h := q1 i hi
      unfold zq1 at h
      obtain ⟨h, h5⟩ := zand_t h
      obtain ⟨h, h4⟩ := zand_t h
      obtain ⟨h, h3⟩ := zand_t h
      obtain ⟨h1, h2⟩ := zand_t h
      exact hs _ (of_decide_eq_true h1))
    (fun i hi => by
      have h := q1 i hi
      unfold zq1 at h
      obtain ⟨h, h5⟩ := zand_t h
      obtain ⟨h, h4⟩ := zand_t h
      obtain ⟨h, h3⟩ := zand_t h
      obtain ⟨h1, h2⟩ := zand_t h
      exact hs _ (of_decide_eq_true h2))
    (fun i hi => by
      have h := q1 i hi
      unfold zq1 at h
      obtain ⟨h, h5⟩ := zand_t h
      obtain ⟨h, h4⟩ := zand_t h
      obtain ⟨h, h3⟩ := zand_t h
      obtain ⟨h1, h2⟩ := zand_t h
      exact hs _ (of_decide_eq_true h3))
    (fun i hi => by
      have h := q1 i hi
      unfold zq1 at h
      obtain ⟨h, h5⟩ := zand_t h
      obtain ⟨h, h4⟩ := zand_t h
      obtain ⟨h, h3⟩ := zand_t h
      obtain ⟨h1, h2⟩ := zand_t h
      exact hs _ (of_decide_eq_true h4))
    (fun i hi j hj => hs _ (of_decide_eq_true (List.all_eq_true.mp (List.all_eq_true.mp zq2_ok i (List.mem_range.mpr hi)) j (List.mem_range.mpr hj))))
    (fun i j hi hj hij => by
      have h := List.all_eq_true.mp (List.all_eq_true.mp zq3_ok i (List.mem_range.mpr hi)) j (List.mem_range.mpr hj)
      unfold zq3 at h
      rcases Bool.or_eq_true_iff.mp h with h | h
      · rcases Bool.or_eq_true_iff.mp h with h | h
        · exact absurd (of_decide_eq_true h) hij
        · exact Or.inl (hs _ (of_decide_eq_true h))
      · exact Or.inr (hs _ (of_decide_eq_true h)))
    hA
  obtain ⟨h5, hAO⟩ := zand_t zq5_ok
  obtain ⟨h5, hDL⟩ := zand_t h5
  obtain ⟨h5, hLC⟩ := zand_t h5
  obtain ⟨hLM, hLF⟩ := zand_t h5
  have hin : ∀ w, lw_tbl.any (fun x => decide (x = w)) = true → w.before #[Value.ref b] s = true := fun w h => hts w (zany_in h)
  refine ⟨σ, vx_Zqof (hts _ (by decide +kernel)) (hts _ (by decide +kernel)) (hs _ (by decide +kernel)) hA, vx_Zqof (hts _ (by decide +kernel)) (hts _ (by decide +kernel)) (hs _ (by decide +kernel)) hA, ⟨adV, hS⟩, ⟨?_, fun x hx => va_Nw.of rfl (hin _ (List.all_eq_true.mp hDL x hx))⟩, fun q hq => ?_, fun q hq => va_Nw.of rfl (hin _ (List.all_eq_true.mp hLM q hq)), fun q hq => va_Nw.of rfl (hin _ (List.all_eq_true.mp hLF q hq)), fun q hq => va_Nw.of rfl (hin _ (List.all_eq_true.mp hLC q hq)), fun q hq => va_Nc.of (hs _ (of_decide_eq_true (List.all_eq_true.mp zq6_ok q hq))), fun q hq => va_AO.of (hin _ (List.all_eq_true.mp hAO q hq))⟩
  · exact va_Zof (hts _ (by decide +kernel)) (hts _ (by decide +kernel)) (va_eqt (hs (Cond.eq (.static "java/lang/String" "COMPACT_STRINGS" "Z") (.int 1)) (by decide +kernel))) hA
  · have h := List.all_eq_true.mp zq4_ok q hq
    obtain ⟨h, h3⟩ := zand_t h
    obtain ⟨h1, h2⟩ := zand_t h
    have hlt : q.2.2 < 10 := Nat.le_of_ble_eq_true h2
    have hev := hE q.2.2 hlt
    refine vk_R.of (hin _ h1) ?_
    rcases Bool.or_eq_true_iff.mp h3 with h3 | h3
    · have e9 := of_decide_eq_true h3
      unfold ztm at hev
      rw [← e9] at hev
      exact hev
    · obtain ⟨w, k1, k2⟩ := Cond.eq_one (hs _ (of_decide_eq_true h3))
      rw [hev] at k1
      cases k1
      exact k2
end
theorem zcks_tb : ∀ q ∈ zcks, q.1 = 118 ∨ ∀ cc own isI fr lo tb pc I wi zi, q.2 cc own isI fr lo tb pc I wi zi = q.2 cc own isI fr lo [] pc I wi zi := List.forall_mem_cons.mpr ⟨Or.inr fun _ _ _ _ _ _ _ _ _ _ => rfl, List.forall_mem_cons.mpr ⟨Or.inr fun _ _ _ _ _ _ _ _ _ _ => rfl, List.forall_mem_cons.mpr ⟨Or.inr fun _ _ _ _ _ _ _ _ _ _ => rfl, List.forall_mem_cons.mpr ⟨Or.inr fun _ _ _ _ _ _ _ _ _ _ => rfl, List.forall_mem_cons.mpr ⟨Or.inr fun _ _ _ _ _ _ _ _ _ _ => rfl, List.forall_mem_cons.mpr ⟨Or.inr fun _ _ _ _ _ _ _ _ _ _ => rfl, List.forall_mem_cons.mpr ⟨Or.inr fun _ _ _ _ _ _ _ _ _ _ => rfl, List.forall_mem_cons.mpr ⟨Or.inr fun _ _ _ _ _ _ _ _ _ _ => rfl, List.forall_mem_cons.mpr ⟨Or.inr fun _ _ _ _ _ _ _ _ _ _ => rfl, List.forall_mem_cons.mpr ⟨Or.inr fun _ _ _ _ _ _ _ _ _ _ => rfl, List.forall_mem_cons.mpr ⟨Or.inr fun _ _ _ _ _ _ _ _ _ _ => rfl, List.forall_mem_cons.mpr ⟨Or.inr fun _ _ _ _ _ _ _ _ _ _ => rfl, List.forall_mem_cons.mpr ⟨Or.inr fun _ _ _ _ _ _ _ _ _ _ => rfl, List.forall_mem_cons.mpr ⟨Or.inr fun _ _ _ _ _ _ _ _ _ _ => rfl, List.forall_mem_cons.mpr ⟨Or.inr fun _ _ _ _ _ _ _ _ _ _ => rfl, List.forall_mem_cons.mpr ⟨Or.inr fun _ _ _ _ _ _ _ _ _ _ => rfl, List.forall_mem_cons.mpr ⟨Or.inr fun _ _ _ _ _ _ _ _ _ _ => rfl, List.forall_mem_cons.mpr ⟨Or.inr fun _ _ _ _ _ _ _ _ _ _ => rfl, List.forall_mem_cons.mpr ⟨Or.inr fun _ _ _ _ _ _ _ _ _ _ => rfl, List.forall_mem_cons.mpr ⟨Or.inr fun _ _ _ _ _ _ _ _ _ _ => rfl, List.forall_mem_cons.mpr ⟨Or.inr fun _ _ _ _ _ _ _ _ _ _ => rfl, List.forall_mem_cons.mpr ⟨Or.inr fun _ _ _ _ _ _ _ _ _ _ => rfl, List.forall_mem_cons.mpr ⟨Or.inr fun _ _ _ _ _ _ _ _ _ _ => rfl, List.forall_mem_cons.mpr ⟨Or.inr fun _ _ _ _ _ _ _ _ _ _ => rfl, List.forall_mem_cons.mpr ⟨Or.inr fun _ _ _ _ _ _ _ _ _ _ => rfl, List.forall_mem_cons.mpr ⟨Or.inr fun _ _ _ _ _ _ _ _ _ _ => rfl, List.forall_mem_cons.mpr ⟨Or.inr fun _ _ _ _ _ _ _ _ _ _ => rfl, List.forall_mem_cons.mpr ⟨Or.inr fun _ _ _ _ _ _ _ _ _ _ => rfl, List.forall_mem_cons.mpr ⟨Or.inr fun _ _ _ _ _ _ _ _ _ _ => rfl, List.forall_mem_cons.mpr ⟨Or.inr fun _ _ _ _ _ _ _ _ _ _ => rfl, List.forall_mem_cons.mpr ⟨Or.inr fun _ _ _ _ _ _ _ _ _ _ => rfl, List.forall_mem_cons.mpr ⟨Or.inr fun _ _ _ _ _ _ _ _ _ _ => rfl, List.forall_mem_cons.mpr ⟨Or.inr fun _ _ _ _ _ _ _ _ _ _ => rfl, List.forall_mem_cons.mpr ⟨Or.inr fun _ _ _ _ _ _ _ _ _ _ => rfl, List.forall_mem_cons.mpr ⟨Or.inr fun _ _ _ _ _ _ _ _ _ _ => rfl, List.forall_mem_cons.mpr ⟨Or.inr fun _ _ _ _ _ _ _ _ _ _ => rfl, List.forall_mem_cons.mpr ⟨Or.inr fun _ _ _ _ _ _ _ _ _ _ => rfl, List.forall_mem_cons.mpr ⟨Or.inr fun _ _ _ _ _ _ _ _ _ _ => rfl, List.forall_mem_cons.mpr ⟨Or.inr fun _ _ _ _ _ _ _ _ _ _ => rfl, List.forall_mem_cons.mpr ⟨Or.inr fun _ _ _ _ _ _ _ _ _ _ => rfl, List.forall_mem_cons.mpr ⟨Or.inr fun _ _ _ _ _ _ _ _ _ _ => rfl, List.forall_mem_cons.mpr ⟨Or.inr fun _ _ _ _ _ _ _ _ _ _ => rfl, List.forall_mem_cons.mpr ⟨Or.inr fun _ _ _ _ _ _ _ _ _ _ => rfl, List.forall_mem_cons.mpr ⟨Or.inr fun _ _ _ _ _ _ _ _ _ _ => rfl, List.forall_mem_cons.mpr ⟨Or.inr fun _ _ _ _ _ _ _ _ _ _ => rfl, List.forall_mem_cons.mpr ⟨Or.inr fun _ _ _ _ _ _ _ _ _ _ => rfl, List.forall_mem_cons.mpr ⟨Or.inr fun _ _ _ _ _ _ _ _ _ _ => rfl, List.forall_mem_cons.mpr ⟨Or.inr fun _ _ _ _ _ _ _ _ _ _ => rfl, List.forall_mem_cons.mpr ⟨Or.inr fun _ _ _ _ _ _ _ _ _ _ => rfl, List.forall_mem_cons.mpr ⟨Or.inr fun _ _ _ _ _ _ _ _ _ _ => rfl, List.forall_mem_cons.mpr ⟨Or.inr fun _ _ _ _ _ _ _ _ _ _ => rfl, List.forall_mem_cons.mpr ⟨Or.inr fun _ _ _ _ _ _ _ _ _ _ => rfl, List.forall_mem_cons.mpr ⟨Or.inr fun _ _ _ _ _ _ _ _ _ _ => rfl, List.forall_mem_cons.mpr ⟨Or.inr fun _ _ _ _ _ _ _ _ _ _ => rfl, List.forall_mem_cons.mpr ⟨Or.inr fun _ _ _ _ _ _ _ _ _ _ => rfl, List.forall_mem_cons.mpr ⟨Or.inr fun _ _ _ _ _ _ _ _ _ _ => rfl, List.forall_mem_cons.mpr ⟨Or.inr fun _ _ _ _ _ _ _ _ _ _ => rfl, List.forall_mem_cons.mpr ⟨Or.inr fun _ _ _ _ _ _ _ _ _ _ => rfl, List.forall_mem_cons.mpr ⟨Or.inr fun _ _ _ _ _ _ _ _ _ _ => rfl, List.forall_mem_cons.mpr ⟨Or.inr fun _ _ _ _ _ _ _ _ _ _ => rfl, List.forall_mem_cons.mpr ⟨Or.inr fun _ _ _ _ _ _ _ _ _ _ => rfl, List.forall_mem_cons.mpr ⟨Or.inr fun _ _ _ _ _ _ _ _ _ _ => rfl, List.forall_mem_cons.mpr ⟨Or.inr fun _ _ _ _ _ _ _ _ _ _ => rfl, List.forall_mem_cons.mpr ⟨Or.inr fun _ _ _ _ _ _ _ _ _ _ => rfl, List.forall_mem_cons.mpr ⟨Or.inr fun _ _ _ _ _ _ _ _ _ _ => rfl, List.forall_mem_cons.mpr ⟨Or.inr fun _ _ _ _ _ _ _ _ _ _ => rfl, List.forall_mem_cons.mpr ⟨Or.inr fun _ _ _ _ _ _ _ _ _ _ => rfl, List.forall_mem_cons.mpr ⟨Or.inr fun _ _ _ _ _ _ _ _ _ _ => rfl, List.forall_mem_cons.mpr ⟨Or.inr fun _ _ _ _ _ _ _ _ _ _ => rfl, List.forall_mem_cons.mpr ⟨Or.inr fun _ _ _ _ _ _ _ _ _ _ => rfl, List.forall_mem_cons.mpr ⟨Or.inr fun _ _ _ _ _ _ _ _ _ _ => rfl, List.forall_mem_cons.mpr ⟨Or.inr fun _ _ _ _ _ _ _ _ _ _ => rfl, List.forall_mem_cons.mpr ⟨Or.inr fun _ _ _ _ _ _ _ _ _ _ => rfl, List.forall_mem_cons.mpr ⟨Or.inr fun _ _ _ _ _ _ _ _ _ _ => rfl, List.forall_mem_cons.mpr ⟨Or.inr fun _ _ _ _ _ _ _ _ _ _ => rfl, List.forall_mem_cons.mpr ⟨Or.inr fun _ _ _ _ _ _ _ _ _ _ => rfl, List.forall_mem_cons.mpr ⟨Or.inr fun _ _ _ _ _ _ _ _ _ _ => rfl, List.forall_mem_cons.mpr ⟨Or.inr fun _ _ _ _ _ _ _ _ _ _ => rfl, List.forall_mem_cons.mpr ⟨Or.inr fun _ _ _ _ _ _ _ _ _ _ => rfl, List.forall_mem_cons.mpr ⟨Or.inr fun _ _ _ _ _ _ _ _ _ _ => rfl, List.forall_mem_cons.mpr ⟨Or.inr fun _ _ _ _ _ _ _ _ _ _ => rfl, List.forall_mem_cons.mpr ⟨Or.inr fun _ _ _ _ _ _ _ _ _ _ => rfl, List.forall_mem_cons.mpr ⟨Or.inr fun _ _ _ _ _ _ _ _ _ _ => rfl, List.forall_mem_cons.mpr ⟨Or.inr fun _ _ _ _ _ _ _ _ _ _ => rfl, List.forall_mem_cons.mpr ⟨Or.inr fun _ _ _ _ _ _ _ _ _ _ => rfl, List.forall_mem_cons.mpr ⟨Or.inr fun _ _ _ _ _ _ _ _ _ _ => rfl, List.forall_mem_cons.mpr ⟨Or.inl rfl, List.forall_mem_cons.mpr ⟨Or.inr fun _ _ _ _ _ _ _ _ _ _ => rfl, List.forall_mem_cons.mpr ⟨Or.inr fun _ _ _ _ _ _ _ _ _ _ => rfl, List.forall_mem_cons.mpr ⟨Or.inr fun _ _ _ _ _ _ _ _ _ _ => rfl, List.forall_mem_cons.mpr ⟨Or.inr fun _ _ _ _ _ _ _ _ _ _ => rfl, List.forall_mem_cons.mpr ⟨Or.inr fun _ _ _ _ _ _ _ _ _ _ => rfl, List.forall_mem_cons.mpr ⟨Or.inr fun _ _ _ _ _ _ _ _ _ _ => rfl, List.forall_mem_cons.mpr ⟨Or.inr fun _ _ _ _ _ _ _ _ _ _ => rfl, List.forall_mem_cons.mpr ⟨Or.inr fun _ _ _ _ _ _ _ _ _ _ => rfl, List.forall_mem_cons.mpr ⟨Or.inr fun _ _ _ _ _ _ _ _ _ _ => rfl, List.forall_mem_cons.mpr ⟨Or.inr fun _ _ _ _ _ _ _ _ _ _ => rfl, List.forall_mem_cons.mpr ⟨Or.inr fun _ _ _ _ _ _ _ _ _ _ => rfl, List.forall_mem_cons.mpr ⟨Or.inr fun _ _ _ _ _ _ _ _ _ _ => rfl, List.forall_mem_cons.mpr ⟨Or.inr fun _ _ _ _ _ _ _ _ _ _ => rfl, List.forall_mem_cons.mpr ⟨Or.inr fun _ _ _ _ _ _ _ _ _ _ => rfl, List.forall_mem_cons.mpr ⟨Or.inr fun _ _ _ _ _ _ _ _ _ _ => rfl, List.forall_mem_cons.mpr ⟨Or.inr fun _ _ _ _ _ _ _ _ _ _ => rfl, List.forall_mem_cons.mpr ⟨Or.inr fun _ _ _ _ _ _ _ _ _ _ => rfl, List.forall_mem_cons.mpr ⟨Or.inr fun _ _ _ _ _ _ _ _ _ _ => rfl, List.forall_mem_cons.mpr ⟨Or.inr fun _ _ _ _ _ _ _ _ _ _ => rfl, List.forall_mem_cons.mpr ⟨Or.inr fun _ _ _ _ _ _ _ _ _ _ => rfl, List.forall_mem_cons.mpr ⟨Or.inr fun _ _ _ _ _ _ _ _ _ _ => rfl, List.forall_mem_cons.mpr ⟨Or.inr fun _ _ _ _ _ _ _ _ _ _ => rfl, List.forall_mem_cons.mpr ⟨Or.inr fun _ _ _ _ _ _ _ _ _ _ => rfl, List.forall_mem_cons.mpr ⟨Or.inr fun _ _ _ _ _ _ _ _ _ _ => rfl, List.forall_mem_cons.mpr ⟨Or.inr fun _ _ _ _ _ _ _ _ _ _ => rfl, List.forall_mem_cons.mpr ⟨Or.inr fun _ _ _ _ _ _ _ _ _ _ => rfl, List.forall_mem_cons.mpr ⟨Or.inr fun _ _ _ _ _ _ _ _ _ _ => rfl, List.forall_mem_cons.mpr ⟨Or.inr fun _ _ _ _ _ _ _ _ _ _ => rfl, List.forall_mem_cons.mpr ⟨Or.inr fun _ _ _ _ _ _ _ _ _ _ => rfl, List.forall_mem_cons.mpr ⟨Or.inr fun _ _ _ _ _ _ _ _ _ _ => rfl, List.forall_mem_cons.mpr ⟨Or.inr fun _ _ _ _ _ _ _ _ _ _ => rfl, List.forall_mem_cons.mpr ⟨Or.inr fun _ _ _ _ _ _ _ _ _ _ => rfl, List.forall_mem_cons.mpr ⟨Or.inr fun _ _ _ _ _ _ _ _ _ _ => rfl, fun _ h => absurd h List.not_mem_nil⟩⟩⟩⟩⟩⟩⟩⟩⟩⟩⟩⟩⟩⟩⟩⟩⟩⟩⟩⟩⟩⟩⟩⟩⟩⟩⟩⟩⟩⟩⟩⟩⟩⟩⟩⟩⟩⟩⟩⟩⟩⟩⟩⟩⟩⟩⟩⟩⟩⟩⟩⟩⟩⟩⟩⟩⟩⟩⟩⟩⟩⟩⟩⟩⟩⟩⟩⟩⟩⟩⟩⟩⟩⟩⟩⟩⟩⟩⟩⟩⟩⟩⟩⟩⟩⟩⟩⟩⟩⟩⟩⟩⟩⟩⟩⟩⟩⟩⟩⟩⟩⟩⟩⟩⟩⟩⟩⟩⟩⟩⟩⟩⟩⟩⟩⟩⟩⟩⟩⟩
theorem zlk_in {α : Type} (d : α) (o : Nat) : ∀ l : List (Nat × α), zlk d l o = d ∨ ∃ q ∈ l, q.1 = o ∧ zlk d l o = q.2
  | [] => Or.inl rfl
  | (a, f) :: l => by
    unfold zlk
    cases h : Nat.beq a o with
    | true => exact Or.inr ⟨(a, f), List.mem_cons_self, Nat.eq_of_beq_eq_true h, rfl⟩
    | false =>
      rcases zlk_in d o l with k | ⟨q, k1, k2, k3⟩
      · exact Or.inl k
      · exact Or.inr ⟨q, List.mem_cons_of_mem _ k1, k2, k3⟩
theorem zchk_tb {cc : ByteArray} {own : String} {isI : Bool} {fr lo pc : Nat} {tb : List ExceptionTableEntry} {I : zI} {wi : List Nat} {zi : Nat → zinfo} (h1 : I.1 ≠ 118) (h : zchk cc own isI fr lo [] pc I wi zi = true) : zchk cc own isI fr lo tb pc I wi zi = true := by
  unfold zchk at h ⊢
  rcases zlk_in zckno I.1 zcks with k | ⟨q, k1, k2, k3⟩
  · rw [k] at h
    cases h
  · rw [k3] at h ⊢
    rcases zcks_tb q k1 with k | k
    · exact absurd (k2 ▸ k) h1
    · rw [k]
      exact h
def zlx (pc : Nat) (I : zI) : Bool := match I with
  | (130, _, _, _) => zok code pc .ireturn 1
  | (105, _, _, _) => zok code pc .iaload 1
  | (106, _, _, _) => zok code pc .arraylength 1
  | (999, _, _, _) => true
  | _ => false
def zcl9 (pc : Nat) (I : zI) (wi : List Nat) : Bool := !(Nat.beq I.1 118) && (bif zexi I.1 then zlx pc I else zchk code R_law false 25 11088 [] pc I wi zyi)
def zwL : List (List Nat) := [[133, 134, 101], [], [], [], [101, 135, 136], [], [], [], [1639, 1640, 109], [], [], [], [109, 1641, 1642], [], [], [], [], [2283], [], [], [], [2284], [], [], [], [], [], [], [], [], [], [], [], [], [], [], [], [], [], [], [], [], [], [], [], [], [], [], [], [], [], [], [], [], [], [], [], [], [], [], [], [], [], [], [], [], [], [], [], [], [], [], [], [], [], [], [], [], [], [], [], [], [], [], [], [], [], [], [], [], [], [], [], [], [], [], [], [], [], [], [], [], [], [], [], [], [], [], [], [], [], [], [], [], [], [], [], [], [], [], [], [], [], [], [], [], [], [], [], [], [], [], [], [], [], [], [], [], [], [], [], [], [], [], [], [], [], [], [], [], [], [], [], [], [], [], [], [], [], [], [], [], [], [], [], [], [], [], [], [], [], [], [], [], [], [], [], [], [], [], [], [], [], [], [], [], [], [], [], [], [], [], [], [], [], [], [], [], [], [], [], [], [], [], [], [], [], [], [], [], [], [], [], [], [], [], [], [], [], [], [], [], [100, 399, 400], [], [], [], [], [], [], [], [], [], [], [], [], [], [], [], [], [], [109, 1874, 1875, 1876], [], [], [], [], [], [109, 1870, 1871, 1872], [], [], [], [], [], [], [], [], [], [], [], [], [], [], [], [], [], [], [], [], [], [], [], [], [], [], [], [], [], [], [], [], [], [], [], [], [], [], [], [], [], [], [], [], [], [], [], [], [], [], [], [], [], [], [], [], [], [], [], [], [], [], [100, 532, 533], [], [], [], [], [], [], [], [], [], [], [], [], [], [], [], [], [], [], [], [], [], [], [], [], [], [], [], [], [], [], [], [], [], [], [], [], [109, 1885, 1886, 1887], [], [], [], [], [], [109, 1870, 1871, 1872], [], [], [], [], [], [], [], [], [], [], [], [], [], [], [], [], [], [], [], [], [], [], [], [], [], [], [], [], [], [], [], [], [], [], [], [], [], [], [], [], [], [], [], [100, 736, 737], [], [], [], [], [], [], [], [], [], [], [], [], [], [], [], [], [], [109, 1896, 1897, 1898], [], [], [], [], [], [109, 1870, 1871, 1872], [], [], [], [], [], [], [], [], [], [], [], [], [], [], [], [], [], [], [], [], [], [], [], [], [], [], [], [], [], [], [], [], [], [], [], [], [], [], [], [], [], [], [], [100, 751, 752], [], [], [], [], [], [], [], [], [], [], [], [], [], [], [], [], [], [109, 1910, 1911, 1912], [], [], [], [], [], [109, 1870, 1871, 1872], [], [], [], [], [], [], [], [], [], [], [], [], [], [], [], [], [], [], [], [], [], [], [], [], [], [], [], [], [], [], [], [], [], [], [], [], [], [100, 761, 762], [], [], [], [], [], [], [], [], [], [], [], [109, 1917, 1918, 1919], [], [], [], [], [], [109, 1870, 1871, 1872], [], [], [], [], [], [], [], [], [], [], [], [], [], [], [], [], [], [], [], [], [], [], [], [], [], [], [], [], [], [], [], [], [], [], [], [], [], [], [], [], [], [], [], [], [], [], [], [], [], [], [], [], [], [], [], [], [], [], [], [], [], [100, 768, 769], [], [], [], [], [], [], [], [], [], [], [], [], [], [], [], [], [], [], [], [], [], [], [], [], [], [], [], [], [], [], [], [], [], [], [], [109, 1921, 1922, 1923], [], [], [], [], [], [109, 1870, 1871, 1872], [], [], [], [], [], [], [], [], [], [], [], [], [], [], [], [], [], [], [], [], [], [], [], [], [], [], [], [], [], [], [], [], [], [], [], [], [], [], [], [], [], [], [], [], [], [], [], [], [], [], [], [], [], [], [], [], [], [], [], [], [], [100, 915, 916], [], [], [], [], [], [], [], [], [], [], [], [], [], [], [], [], [], [], [], [], [], [], [], [], [], [], [], [], [], [], [], [], [], [], [], [109, 1937, 1938, 1939], [], [], [], [], [], [109, 1870, 1871, 1872], [], [], [], [], [], [], [], [], [], [], [], [], [], [], [], [], [], [], [], [], [], [], [], [], [], [], [], [], [], [], [101, 347, 348, 349], [], [], [], [109, 1941, 1942, 1943], [], [], [], [], [], [], [], [], [], [], [], [], [], [], [], [100, 926, 927], [], [], [], [], [], [], [], [], [], [], [], [109, 1945, 1946, 1947], [], [], [], [], [], [109, 1870, 1871, 1872], [], [], [], [], [], [], [], [], [], [], [], [], [], [], [], [], [], [], [], [], [], [], [], [], [], [], [], [], [], [], [], [], [], [], [], [], [], [100, 933, 934], [], [], [], [], [], [], [], [], [], [], [], [109, 1949, 1950, 1951], [], [], [], [], [], [109, 1870, 1871, 1872], [], [], [], [], [], [], [], [], [], [], [], [], [], [], [], [], [], [], [], [], [], [], [], [], [], [], [], [], [], [], [], [], [], [], [], [], [], [100, 956, 957], [], [], [], [], [], [], [], [], [], [], [], [109, 1953, 1954, 1955], [], [], [], [], [], [109, 1870, 1871, 1872], [], [], [], [], [], [], [], [], [], [], [], [], [], [], [], [], [], [], [], [], [], [], [], [], [], [], [], [], [], [], [], [], [], [], [], [], [], [100, 963, 964], [], [], [], [], [], [], [], [], [], [], [], [109, 1957, 1958, 1959], [], [], [], [], [], [109, 1870, 1871, 1872], [], [], [], [], [], [], [], [], [], [], [], [], [], [], [], [], [], [], [], [], [], [], [], [], [], [], [], [], [], [], [], [], [], [], [], [], [], [100, 1402, 1403], [], [], [], [], [], [], [], [], [], [], [], [109, 2160, 2161, 2162], [], [], [], [], [], [109, 1870, 1871, 1872], [], [], [], [], [], [], [], [], [], [], [], [], [], [], [], [], [], [], [], [], [], [], [], [], [], [], [], [], [], [], [], [], [], [], [], [], [], [], [100, 1413, 1414], [], [], [], [], [], [], [], [], [], [], [], [], [109, 2168, 2169, 2170], [], [], [], [], [], [109, 1870, 1871, 1872], [], [], [], [], [], [], [], [], [], [], [], [], [], [], [], [], [], [], [], [], [], [], [], [], [], [], [], [], [], [], [101, 351, 352, 353], [], [], [], [109, 2172, 2173, 2174], [], [], [], [], [], [], [], [], [], [], [], [], [], [], [], [100, 1420, 1421], [], [], [], [], [], [], [], [], [], [], [], [109, 2176, 2177, 2178], [], [], [], [], [], [109, 1870, 1871, 1872], [], [], [], [], [], [], [], [], [], [], [], [], [], [], [], [], [], [], [], [], [], [], [], [], [], [], [], [], [], [], [], [], [], [], [], [], [], [], [], [], [], [], [], [100, 1431, 1432], [], [], [], [], [], [], [], [], [], [], [], [], [], [], [], [], [], [109, 2183, 2184, 2185], [], [], [], [], [], [109, 1870, 1871, 1872], [], [], [], [], [], [], [], [], [], [], [], [], [], [], [], [], [], [], [], [], [], [], [], [], [], [], [], [], [], [], [], [], [], [], [], [], [], [], [], [], [], [], [], [100, 1447, 1448], [], [], [], [], [], [], [], [], [], [], [], [], [], [], [], [], [], [109, 2191, 2192, 2193], [], [], [], [], [], [109, 1870, 1871, 1872], [], [], [], [], [], [], [], [], [], [], [], [], [], [], [], [], [], [], [], [], [], [], [], [], [], [], [], [], [], [], [], [], [], [], [], [], [], [], [], [], [], [], [], [100, 1455, 1456], [], [], [], [], [], [], [], [], [], [], [], [], [], [], [], [], [], [109, 2195, 2196, 2197], [], [], [], [], [], [109, 1870, 1871, 1872], [], [], [], [], [], [], [], [], [], [], [], [], [], [], [], [], [], [], [], [], [], [], [], [], [], [], [], [], [], [], [], [], [], [], [], [], [], [], [], [], [], [], [], [100, 1463, 1464], [], [], [], [], [], [], [], [], [], [], [], [], [], [], [], [], [], [109, 2199, 2200, 2201], [], [], [], [], [], [109, 1870, 1871, 1872], [], [], [], [], [], [], [], [], [], [], [], [], [], [], [], [], [], [], [], [], [], [], [], [], [], [], [], [], [], [], [], [], [], [], [], [], [], [], [], [], [], [], [], [100, 1478, 1479], [], [], [], [], [], [], [], [], [], [], [], [], [], [], [], [], [], [109, 2203, 2204, 2205], [], [], [], [], [], [109, 1870, 1871, 1872], [], [], [], [], [], [], [], [], [], [], [], [], [], [], [], [], [], [], [], [], [], [], [], [], [], [], [], [], [], [], [], [], [], [], [], [], [], [], [], [], [], [], [], [], [], [], [], [], [], [], [], [], [], [], [], [100, 1490, 1491], [], [], [], [], [], [], [], [], [], [], [], [], [], [], [], [], [], [], [], [], [], [], [], [], [], [], [], [], [], [109, 2207, 2208, 2209], [], [], [], [], [], [109, 1870, 1871, 1872], [], [], [], [], [], [], [], [], [], [], [], [], [], [], [], [], [], [], [], [], [], [], [], [], [], [], [], [], [], [], [], [], [], [], [], [], [], [], [], [], [], [], [], [], [], [], [], [], [], [100, 1499, 1500], [], [], [], [], [], [], [], [], [], [], [], [], [], [], [], [], [], [], [], [], [], [], [], [109, 2211, 2212, 2213], [], [], [], [], [], [109, 1870, 1871, 1872], [], [], [], [], [], [], [], [], [], [], [], [], [], [], [], [], [], [], [], [], [], [], [], [], [], [], [], [], [], [], [], [], [], [], [], [], [], [], [], [], [], [], [], [100, 1507, 1508], [], [], [], [], [], [], [], [], [], [], [], [], [], [], [], [], [], [109, 2215, 2216, 2217], [], [], [], [], [], [109, 1870, 1871, 1872], [], [], [], [], [], [], [], [], [], [], [], [], [], [], [], [], [], [], [], [], [], [], [], [], [], [], [], [], [], [], [], [], [], [], [], [], [], [100, 1514, 1515], [], [], [], [], [], [], [], [], [], [], [], [109, 2219, 2220, 2221], [], [], [], [], [], [109, 1870, 1871, 1872], [], [], [], [], [], [], [], [], [], [], [], [], [], [], [], [], [], [], [], [], [], [], [], [], [], [], [], [], [], [], [], [], [], [], [], [], [], [100, 1525, 1526], [], [], [], [], [], [], [], [], [], [], [], [109, 2223, 2224, 2225], [], [], [], [], [], [109, 1870, 1871, 1872], [], [], [], [], [], [], [], [], [], [], [], [], [], [], [], [], [], [], [], [], [], [], [], [], [], [], [], [], [], [], [], [], [], [], [], [], [], [], [], [], [], [], [], [100, 1532, 1533], [], [], [], [], [], [], [], [], [], [], [], [], [], [], [], [], [], [109, 2227, 2228, 2229], [], [], [], [], [], [109, 1870, 1871, 1872], [], [], [], [], [], [], [], [], [], [], [], [], [], [], [], [], [], [], [], [], [], [], [], [], [], [], [], [], [], [], [], [], [], [], [], [], [], [], [], [], [], [], [], [], [100, 1539, 1540], [], [], [], [], [], [], [], [], [], [], [], [109, 2231, 2232, 2233], [], [], [], [], [], [109, 1870, 1871, 1872], [], [], [], [], [], [], [], [], [], [], [], [], [], [], [], [], [], [], [], [], [], [], [], [], [], [], [], [], [], [], [], [], [], [], [], [], [], [], [], [], [], [], [], [], [], [], [], [], [], [], [], [], [], [], [], [], [], [], [], [], [], [], [], [], [], [], [], [], [], [100, 1546, 1547], [], [], [], [], [], [], [], [], [], [], [], [], [], [], [], [], [], [], [], [], [], [], [], [], [], [], [], [], [], [], [], [], [], [], [], [], [], [], [], [], [], [], [], [109, 2235, 2236, 2237], [], [], [], [], [], [109, 1870, 1871, 1872], [], [], [], [], [], [], [], [], [], [], [], [], [], [], [], [], [], [], [], [], [], [], [], [], [], [], [], [], [], [], [101, 355, 356, 357], [], [], [], [109, 2251, 2252, 2253], [], [], [], [], [], [], [], [], [], [101, 359, 360, 361], [], [], [], [109, 2255, 2256, 2257], [], [], [], [], [], [], [], [], [101, 363, 364, 365], [], [], [], [109, 2259, 2260, 2261], [], [], [], [], [], [], [], [], [101, 367, 368, 369], [], [], [], [109, 2263, 2264, 2265], [], [], [], [], [], [], [], [], [101, 371, 372, 373], [], [], [], [109, 2267, 2268, 2269], [], [], [], [], [], [], [], [], [], [], [100, 1605, 1606], [], [], [], [], [], [109, 2271, 2272, 2273], [], [], [], [], [], [109, 1870, 1871, 1872], [], [], [], [], [], [], [], [], [], [], [], [], [], [], [], [], [], [], [], [], [], [], [], [], [], [], [], [], [], [], [], [], [], [], [], [], [], [], [], [], [], [], [], [], [], [], [], [], [], [], [], [], [], [100, 1632, 1633], [], [], [], [], [], [109, 2275, 2276, 2277], [], [], [], [], [], [109, 1870, 1871, 1872], [], [], [], [], [], [], [], [], [], [], [], [], [], [], [], [], [], [], [], [], [], [], [], [], [], [], [], [], [], [], [], [], [], [], [], [], [], [], [], [], [], [], [], [], [], [], [], [], [], [], [101, 375, 376, 377], [], [], [], [109, 2279, 2280, 2281], [], [], [], [], [], [], [], [], [], [], [], [], [], [], []]
set_option maxRecDepth 1000000 in
set_option maxHeartbeats 0 in
theorem c_Lw_law : zca zcl9 0 zc_Lw_law zwL = true := by decide +kernel
