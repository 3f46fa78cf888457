/-! THE LAW'S ENTRY -/
def zsp : List (String × Nat) := [("LaneMill", 247), ("LaneMill$Core", 221), ("LaneMill$Core", 234), ("LaneMill$Core", 239), ("LaneMill$Instruction", 31), ("LaneMill$Instruction", 37), ("LaneMill$Instruction", 45), ("LaneMill$Instruction", 47), ("LaneMill$Instruction", 49), ("LaneMill$Instruction", 55)]
def ztm (i : Nat) : Term := .string (zget ("", 0) zsp i).1 (zget ("", 0) zsp i).2
def zFl : List Cond := flatC (Jvm.Cond.and given_1 narrow_1)
def zfa (i : Nat) (w : Cond) : Bool := decide (zFl[i]? = some w)
theorem zfa_in {i : Nat} {w : Cond} (h : zfa i w = true) : w ∈ zFl := List.mem_of_getElem? (of_decide_eq_true h)
def zta (i : Nat) (w : Cond) : Bool := decide (zat i = some w)
theorem zta_in {i : Nat} {w : Cond} (h : zta i w = true) : w ∈ lw_tbl := zat_in (of_decide_eq_true h)
def zalp {α : Type} (f : α → Nat → Bool) : List α → List Nat → Bool
  | a :: r, i :: s => f a i && zalp f r s
  | [], _ => true
  | _ :: _, [] => false
theorem zal_go {α : Type} {f : α → Nat → Bool} {x : α} : ∀ (r : List α) (s : List Nat), zalp f r s = true → x ∈ r → ∃ i, f x i = true
  | [], _, _, h => by cases h
  | a :: r, i :: s, hh, h => by
    obtain ⟨h1, h2⟩ := zand_t hh
    rcases List.mem_cons.mp h with rfl | h
    · exact ⟨i, h1⟩
    · exact zal_go r s h2 h
  | _ :: _, [], hh, _ => by cases hh
def zl1 : List (Nat × Nat × Nat × Nat) := [(400, 401, 402, 403), (357, 358, 359, 360), (371, 372, 373, 374), (386, 387, 388, 389), (250, 251, 252, 253), (277, 278, 279, 280), (301, 302, 303, 304), (320, 321, 322, 323), (336, 337, 338, 339), (346, 347, 348, 349)]
def zl2 : List (List Nat) := [[404, 405, 406], [361, 362, 363, 364], [375, 376, 377, 378], [390, 391], [254, 255, 256, 257, 258, 259, 260, 261, 262, 263, 264, 265, 266, 267, 268, 269, 270, 271, 272, 273, 274, 275, 276], [281, 282, 283, 284, 285, 286, 287, 288, 289, 290, 291, 292, 293, 294, 295, 296, 297, 298, 299], [305, 306, 307, 308, 309, 310, 311, 312, 313, 314, 315, 316, 317], [324, 325, 326, 327, 328, 329, 330, 331, 332], [340, 341], [350, 351]]
def zl3 : List (List Nat) := [[0, 1413, 1414, 1415, 1407, 1408, 1409, 1410, 1411, 1412], [413, 0, 385, 398, 1365, 1366, 1367, 1368, 1369, 1370], [414, 1385, 0, 399, 1379, 1380, 1381, 1382, 1383, 1384], [415, 1398, 1399, 0, 1392, 1393, 1394, 1395, 1396, 1397], [407, 365, 379, 392, 0, 300, 318, 333, 342, 352], [408, 366, 380, 393, 1300, 0, 319, 334, 343, 353], [409, 367, 381, 394, 1318, 1319, 0, 335, 344, 354], [410, 368, 382, 395, 1333, 1334, 1335, 0, 345, 355], [411, 369, 383, 396, 1342, 1343, 1344, 1345, 0, 356], [412, 370, 384, 397, 1352, 1353, 1354, 1355, 1356, 0]]
def zq1 (i : Nat) : Bool := zfa (zget (0, 0, 0, 0) zl1 i).1 (Cond.exactly (ztm i) "java/lang/String") && zfa (zget (0, 0, 0, 0) zl1 i).2.1 (Cond.eq (.field (ztm i) "java/lang/String" "coder" "B") (.int 0)) && zfa (zget (0, 0, 0, 0) zl1 i).2.2.1 (Cond.arrayOf (.field (ztm i) "java/lang/String" "value" "[B") .byte) && zfa (zget (0, 0, 0, 0) zl1 i).2.2.2 (Cond.eq (.length (.field (ztm i) "java/lang/String" "value" "[B")) (.int (Int32.ofNat (zlen.getD i 0)))) && Nat.blt (zlen.getD i 0) 1000
def zq2 (i j : Nat) : Bool := zfa (zget 0 (zget [] zl2 i) j) (Cond.eq (.elem (.field (ztm i) "java/lang/String" "value" "[B") (.int (Int32.ofNat j))) (.int ((zbyt.getD i []).getD j 0)))
def zq3 (i j : Nat) : Bool := Nat.beq i j || zfa (zget 0 (zget [] zl3 i) j) (Cond.not (Cond.eq (ztm i) (ztm j))) || zfa (zget 0 (zget [] zl3 i) j - 1000) (Cond.not (Cond.eq (ztm j) (ztm i)))
set_option maxRecDepth 1000000 in
set_option maxHeartbeats 0 in
theorem zq1_ok : (List.range 10).all zq1 = true := by decide +kernel
set_option maxRecDepth 1000000 in
set_option maxHeartbeats 0 in
theorem zq2_ok : ((List.range 10).all fun i => (List.range (zlen.getD i 0)).all (zq2 i)) = true := by decide +kernel
set_option maxRecDepth 1000000 in
set_option maxHeartbeats 0 in
theorem zq3_ok : ((List.range 10).all fun i => (List.range 10).all (zq3 i)) = true := by decide +kernel
def zf4q (q : String × Nat × Nat) (i : Nat) : Bool := zta (i / 1000) (.stringRef q.1 q.2.1 (zget "" zTXT q.2.2)) && Nat.blt q.2.2 10 && (decide ((q.1, q.2.1) = zget ("", 0) zsp q.2.2) || zfa (i % 1000) (Cond.eq (ztm q.2.2) (.string q.1 q.2.1)))
set_option maxRecDepth 1000000 in
set_option maxHeartbeats 0 in
theorem zq4_ok : zalp (zf4q) zSRs [9053000, 9142000, 9148000, 9149000, 9150000, 11152000, 11160000, 11170000, 11220000, 13013000, 13046431, 13055448] = true := by decide +kernel
set_option maxRecDepth 1000000 in
set_option maxHeartbeats 0 in
theorem zq5_LM : zalp (fun q i => zta i (.methodLinkNest q.1 q.2.1 q.2.2.1 q.2.2.2)) zLM [7043, 7076, 7101, 9000, 9147, 9151, 9167, 10182, 10199, 10226, 11157, 11175, 11180, 11188, 11215, 11228, 12146, 13052, 13054, 13060] = true := by decide +kernel
set_option maxRecDepth 1000000 in
set_option maxHeartbeats 0 in
theorem zq5_LF : zalp (fun q i => zta i (.fieldLinkNest q.1 q.2.1 q.2.2.1 q.2.2.2.1 q.2.2.2.2.1 q.2.2.2.2.2)) zLF [7083] = true := by decide +kernel
set_option maxRecDepth 1000000 in
set_option maxHeartbeats 0 in
theorem zq5_LC : zalp (fun q i => zta i (.castable q.1 q.2)) zLC [8073, 8141, 9003, 9210, 10123, 13080] = true := by decide +kernel
set_option maxRecDepth 1000000 in
set_option maxHeartbeats 0 in
theorem zq5_DL : zalp (fun q i => zta i (.declares q)) zDL [8074, 8076, 8078] = true := by decide +kernel
set_option maxRecDepth 1000000 in
set_option maxHeartbeats 0 in
theorem zq5_AO : zalp (fun q i => zta i (.arrayOver (.object q))) zAOs [7074, 7184, 7048, 8161, 7050, 7081] = true := by decide +kernel
set_option maxRecDepth 1000000 in
set_option maxHeartbeats 0 in
theorem zq6_ok : zalp (fun q i => zfa i (Cond.not (.castable q.1 q.2))) zNC [57, 19, 58, 76, 24, 61, 63] = true := by decide +kernel
set_option maxRecDepth 1000000 in
set_option maxHeartbeats 0 in
theorem zq7_ok : zalp (fun c i => zta i (.instantiable (zCn c) (zCk c))) (List.range 13) [7034, 7042, 7068, 7075, 7100, 7178, 7185, 8155, 9017, 9236, 10208, 11024, 13100] = true := by decide +kernel
set_option maxRecDepth 1000000 in
set_option maxHeartbeats 0 in
theorem zq8_ok : zalp (fun e i => zta i (if e < 100 then .arrayClass (zty e) else .arrayOver (.object (zCn (e - 100))))) zes [7098, 10086, 14089, 16023, 16024, 7074, 7184, 7048, 8161, 7050, 7081] = true := by decide +kernel
theorem zq9_U : (zta 8098 (.laysStatic Bundle.tN "UNASSIGNED_STACK" "[Ljava/lang/StackTraceElement;") && zta 7010 (.initialized Bundle.tN) && zfa 4 (Cond.isRef (.static Bundle.tN "UNASSIGNED_STACK" "[Ljava/lang/StackTraceElement;"))) = true := by decide +kernel
theorem zq9_S : (zta 8100 (.laysStatic Bundle.tN "SUPPRESSED_SENTINEL" "Ljava/util/List;") && zta 7010 (.initialized Bundle.tN) && zfa 5 (Cond.isRef (.static Bundle.tN "SUPPRESSED_SENTINEL" "Ljava/util/List;"))) = true := by decide +kernel
theorem zq9_C : (zta 9071 (.laysStatic "java/lang/String" "COMPACT_STRINGS" "Z") && zta 7018 (.initialized "java/lang/String") && zfa 6 (Cond.eq (.static "java/lang/String" "COMPACT_STRINGS" "Z") (.int 1))) = true := by decide +kernel
section
variable {p : Program} {s : State} {m : MethodId} {meth : Method} {c : Code} {b L : Nat} {xs : Nat → Int32}
theorem zK0 (C0 : lw_At p s m meth c b L xs) : ∃ (cA : Nat → ClassId) (D : va_G), va_K D zcl (ztys cA) s := by
  obtain ⟨hx, hb, hr, hml, hown, hts, hX, hbl, hlocks, hgv⟩ := C0
  have h1 : ∀ k : Nat, ∃ q : ClassId × (Nat → Nat), k < 13 → u_Kn s (zCn k) (zCf k) (zCk k) q.1 q.2 := fun k => by
    by_cases hk : k < 13
    · obtain ⟨i9, hw⟩ := zal_go _ _ zq7_ok (List.mem_range.mpr hk)
      have hw := zta_in hw
      obtain ⟨cC, iS, hh⟩ := u_known (ws := zT) (C := zCn k) (T := zCf k) (N := zCk k) (n := zCk k) (fun w hw => hts w (List.mem_filter.mp hw).1) (zC_w k hk) (hts _ hw)
      exact ⟨(cC, iS), fun _ => hh⟩
    · exact ⟨(0, fun _ => 0), fun h => absurd h hk⟩
  have h2 : ∀ e : Nat, ∃ cA : ClassId, e ∈ zes → ArrOfT s cA (zty e) ∧ va_RA s cA (zty e) := fun e => by
    by_cases he : e ∈ zes
    · obtain ⟨i9, hw⟩ := zal_go _ _ zq8_ok he
      have hw := zta_in hw
      by_cases h100 : e < 100
      · rw [if_pos h100] at hw
        obtain ⟨cA, kA, comp, k1, k2, k3⟩ := Cond.arrayClass_spec (hts _ hw)
        refine ⟨cA, fun _ => ⟨?_, ?_⟩⟩
        · intro N z
          refine ⟨(fun k h => ?_), kA, k2, comp, k3⟩
          revert h k3 k1
          simp only [zes, List.mem_cons, List.mem_nil_iff, or_false] at he
          rcases he with rfl | rfl | rfl | rfl | rfl | rfl | rfl | rfl | rfl | rfl | rfl <;> first | (intro k1 k3 h; cases h) | (exfalso; omega)
        · revert k1
          simp only [zes, List.mem_cons, List.mem_nil_iff, or_false] at he
          rcases he with rfl | rfl | rfl | rfl | rfl | rfl | rfl | rfl | rfl | rfl | rfl <;> first | exact fun k1 => k1 | (exfalso; omega)
      · rw [if_neg h100] at hw
        obtain ⟨comp, cA, kA, k1, k2, k3, k4, k5⟩ := Cond.arrayOver_spec (hts _ hw)
        have e9 : zty e = .object (zCn (e - 100)) := by
          simp only [zes, List.mem_cons, List.mem_nil_iff, or_false] at he
          rcases he with rfl | rfl | rfl | rfl | rfl | rfl | rfl | rfl | rfl | rfl | rfl <;> first | rfl | (exfalso; omega)
        rw [e9]
        exact ⟨cA, fun _ => ⟨fun N z => ⟨(fun k h => by cases h), kA, k3, comp, k4⟩, kA, comp, k3, k4, k1, k5⟩⟩
    · exact ⟨0, fun h => absurd h he⟩
  obtain ⟨dd, hdd⟩ := Classical.axiomOfChoice h1
  obtain ⟨cA, hcA⟩ := Classical.axiomOfChoice h2
  refine ⟨cA, (fun k => (dd k).1, fun k => (dd k).2), fun k q hq => ?_, fun k q hq => ?_⟩
  · have hk : k < 13 := by
      have := (List.getElem?_eq_some_iff.mp hq).1
      unfold zcl at this
      rw [List.length_map, List.length_range] at this
      exact this
    rw [zcl_at hk] at hq
    cases hq
    exact hdd k hk
  · unfold ztys at hq
    rw [List.getElem?_map] at hq
    obtain ⟨e, he, rfl⟩ := Option.map_eq_some_iff.mp hq
    exact hcA e (List.mem_of_getElem? he)
theorem zE0 (C0 : lw_At p s m meth c b L xs) : ∃ σ : Nat → Nat, zEnv σ (va_A [] s.heap.size) s s.heap := by
  obtain ⟨hx, hb, hr, hml, hown, hts, hX, hbl, hlocks, hgv⟩ := C0
  have hs : ∀ w ∈ zFl, w.before #[Value.ref b] s = true := flat_of_before _ hgv
  have hA : ∀ a : Nat, a < s.heap.size → ¬ va_A [] s.heap.size a := fun a ha h => by
    rcases h with ⟨k, e, h⟩ | h
    · cases h
    · omega
  have q1 : ∀ i, i < 10 → zq1 i = true := fun i hi => List.all_eq_true.mp zq1_ok i (List.mem_range.mpr hi)
  obtain ⟨σ, adV, hS, hE⟩ := vk_Sof (args := #[Value.ref b]) (s := s) (N := 10) (tm := ztm) (len := zlen) (byt := zbyt) (A := va_A [] s.heap.size)
    (fun i hi => by
      have h := q1 i hi
      unfold zq1 at h
      obtain ⟨h, h5⟩ := zand_t h
      have : zlen.getD i 0 < 1000 := Nat.le_of_ble_eq_true h5
      omega)
    (fun i hi => by
      have h := q1 i hi
      unfold zq1 at h
      obtain ⟨h, h5⟩ := zand_t h
      obtain ⟨h, h4⟩ := zand_t h
      obtain ⟨h, h3⟩ := zand_t h
      obtain ⟨h1, h2⟩ := zand_t h
      exact hs _ (zfa_in h1))
    (fun i hi => by
      have h := q1 i hi
      unfold zq1 at h
      obtain ⟨h, h5⟩ := zand_t h
      obtain ⟨h, h4⟩ := zand_t h
      obtain ⟨h, h3⟩ := zand_t h
      obtain ⟨h1, h2⟩ := zand_t h
      exact hs _ (zfa_in h2))
    (fun i hi => by
      have h := q1 i hi
      unfold zq1 at h
      obtain ⟨h, h5⟩ := zand_t h
      obtain ⟨h, h4⟩ := zand_t h
      obtain ⟨h, h3⟩ := zand_t h
      obtain ⟨h1, h2⟩ := zand_t h
      exact hs _ (zfa_in h3))
    (fun i hi => by
      have h := q1 i hi
      unfold zq1 at h
      obtain ⟨h, h5⟩ := zand_t h
      obtain ⟨h, h4⟩ := zand_t h
      obtain ⟨h, h3⟩ := zand_t h
      obtain ⟨h1, h2⟩ := zand_t h
      exact hs _ (zfa_in h4))
    (fun i hi j hj => hs _ (zfa_in (List.all_eq_true.mp (List.all_eq_true.mp zq2_ok i (List.mem_range.mpr hi)) j (List.mem_range.mpr hj))))
    (fun i j hi hj hij => by
      have h := List.all_eq_true.mp (List.all_eq_true.mp zq3_ok i (List.mem_range.mpr hi)) j (List.mem_range.mpr hj)
      unfold zq3 at h
      rcases Bool.or_eq_true_iff.mp h with h | h
      · rcases Bool.or_eq_true_iff.mp h with h | h
        · exact absurd (Nat.eq_of_beq_eq_true h) hij
        · exact Or.inl (hs _ (zfa_in h))
      · exact Or.inr (hs _ (zfa_in h)))
    hA
  have hT : ∀ {i : Nat} {w : Cond}, zta i w = true → w.before #[Value.ref b] s = true := fun h => hts _ (zta_in h)
  have hu := zq9_U
  obtain ⟨hu, u3⟩ := zand_t hu
  obtain ⟨u1, u2⟩ := zand_t hu
  have hv := zq9_S
  obtain ⟨hv, v3⟩ := zand_t hv
  obtain ⟨v1, v2⟩ := zand_t hv
  have hc := zq9_C
  obtain ⟨hc, c3⟩ := zand_t hc
  obtain ⟨c1, c2⟩ := zand_t hc
  refine ⟨σ, vx_Zqof (hT u1) (hT u2) (hs _ (zfa_in u3)) hA, vx_Zqof (hT v1) (hT v2) (hs _ (zfa_in v3)) hA, ⟨adV, hS⟩, ⟨?_, fun x hx => va_Nw.of rfl ((zal_go _ _ zq5_DL hx).elim fun i h => hT h)⟩, fun q hq => ?_, fun q hq => va_Nw.of rfl ((zal_go _ _ zq5_LM hq).elim fun i h => hT h), fun q hq => va_Nw.of rfl ((zal_go _ _ zq5_LF hq).elim fun i h => hT h), fun q hq => va_Nw.of rfl ((zal_go _ _ zq5_LC hq).elim fun i h => hT h), fun q hq => va_Nc.of ((zal_go _ _ zq6_ok hq).elim fun i h => hs _ (zfa_in h)), fun q hq => va_AO.of ((zal_go _ _ zq5_AO hq).elim fun i h => hT h)⟩
  · exact va_Zof (hT c1) (hT c2) (va_eqt (hs _ (zfa_in c3))) hA
  · obtain ⟨i9, h⟩ := zal_go _ _ zq4_ok hq
    unfold zf4q at h
    obtain ⟨h, h3⟩ := zand_t h
    obtain ⟨h1, h2⟩ := zand_t h
    have hlt : q.2.2 < 10 := Nat.le_of_ble_eq_true h2
    have hev := hE q.2.2 hlt
    refine vk_R.of (hT h1) ?_
    rcases Bool.or_eq_true_iff.mp h3 with h3 | h3
    · have e9 := of_decide_eq_true h3
      unfold ztm at hev
      rw [← e9] at hev
      exact hev
    · obtain ⟨w, k1, k2⟩ := Cond.eq_one (hs _ (zfa_in h3))
      rw [hev] at k1
      cases k1
      exact k2
end
