/-! WHAT THE SMALL MACHINE'S THINGS ARE IN THE MACHINE -/
/-- the classes: name, fields (declaring class, name, descriptor, final), their types -/
def zCT : List (String × List (String × String × String × Bool) × List FieldType) := [("LaneMill", [("LaneMill", "ledger", "LLaneMill$Ledger;", true),
 ("LaneMill", "core", "LLaneMill$Core;", true),
 ("LaneMill", "replay", "LLaneMill$Replay;", true)], [.object "LaneMill$Ledger", .object "LaneMill$Core", .object "LaneMill$Replay"]),
 ("LaneMill$Ledger", [("LaneMill$Ledger", "kernels", "[LLaneMill$Kernel;", true),
 ("LaneMill$Ledger", "launches", "[LLaneMill$Launch;", true),
 ("LaneMill$Ledger", "kernelCount", "I", false),
 ("LaneMill$Ledger", "launchCount", "I", false)], [.array (.object "LaneMill$Kernel"), .array (.object "LaneMill$Launch"), .int, .int]),
 ("LaneMill$Core", [("LaneMill$Core", "ledger", "LLaneMill$Ledger;", true),
 ("LaneMill$Core", "memory", "[I", true),
 ("LaneMill$Core", "units", "[LLaneMill$Unit;", true),
 ("LaneMill$Core", "figures", "LLaneMill$Figures;", true),
 ("LaneMill$Core", "cycle", "I", false),
 ("LaneMill$Core", "order", "C", false),
 ("LaneMill$Core", "named", "[I", true),
 ("LaneMill$Core", "taken", "[I", true),
 ("LaneMill$Core", "mask", "I", false),
 ("LaneMill$Core", "votes", "I", false),
 ("LaneMill$Core", "written", "I", false)], [.object "LaneMill$Ledger", .array .int, .array (.object "LaneMill$Unit"), .object "LaneMill$Figures", .int, .char, .array .int, .array .int, .int, .int, .int]),
 ("LaneMill$Unit", [("LaneMill$Unit", "groups", "[LLaneMill$Group;", true),
 ("LaneMill$Unit", "lines", "[I", true),
 ("LaneMill$Unit", "count", "I", false),
 ("LaneMill$Unit", "last", "LLaneMill$Group;", false)], [.array (.object "LaneMill$Group"), .array .int, .int, .object "LaneMill$Group"]),
 ("LaneMill$Figures", [("LaneMill$Figures", "instructions", "J", false),
 ("LaneMill$Figures", "laneInstructions", "J", false),
 ("LaneMill$Figures", "delaySum", "J", false),
 ("LaneMill$Figures", "delays", "J", false),
 ("LaneMill$Figures", "missedLines", "I", false),
 ("LaneMill$Figures", "lostCycles", "I", false),
 ("LaneMill$Figures", "passedBarriers", "I", false),
 ("LaneMill$Figures", "refusedChildren", "I", false)], [.long, .long, .long, .long, .int, .int, .int, .int]),
 ("LaneMill$Replay", [("LaneMill$Replay", "memory", "[I", true),
 ("LaneMill$Replay", "sharedCells", "[I", true),
 ("LaneMill$Replay", "threads", "[LLaneMill$MillThread;", true),
 ("LaneMill$Replay", "carried", "[I", true),
 ("LaneMill$Replay", "kernel", "LLaneMill$Kernel;", false),
 ("LaneMill$Replay", "size", "I", false),
 ("LaneMill$Replay", "isFalling", "Z", false)], [.array .int, .array .int, .array (.object "LaneMill$MillThread"), .array .int, .object "LaneMill$Kernel", .int, .boolean]),
 ("LaneMill$MillThread", [("LaneMill$MillThread", "number", "I", true),
 ("LaneMill$MillThread", "registers", "[I", true),
 ("LaneMill$MillThread", "block", "I", false),
 ("LaneMill$MillThread", "place", "I", false),
 ("LaneMill$MillThread", "condition", "C", false)], [.int, .array .int, .int, .int, .char]),
 ("LaneMill$Kernel", [("LaneMill$Kernel", "registers", "I", true),
 ("LaneMill$Kernel", "sharedCells", "I", true),
 ("LaneMill$Kernel", "instructions", "[LLaneMill$Instruction;", true),
 ("LaneMill$Kernel", "length", "I", false),
 ("LaneMill$Kernel", "wasLaunched", "Z", false)], [.int, .int, .array (.object "LaneMill$Instruction"), .int, .boolean]),
 ("LaneMill$Instruction", [("LaneMill$Instruction", "letter", "C", true),
 ("LaneMill$Instruction", "a", "I", true),
 ("LaneMill$Instruction", "b", "I", true),
 ("LaneMill$Instruction", "c", "I", true)], [.char, .int, .int, .int]),
 ("LaneMill$Launch", [("LaneMill$Launch", "number", "I", true),
 ("LaneMill$Launch", "queue", "I", true),
 ("LaneMill$Launch", "ahead", "LLaneMill$Launch;", true),
 ("LaneMill$Launch", "after", "LLaneMill$Launch;", true),
 ("LaneMill$Launch", "parent", "LLaneMill$Launch;", true),
 ("LaneMill$Launch", "kernel", "LLaneMill$Kernel;", false),
 ("LaneMill$Launch", "blocks", "I", false),
 ("LaneMill$Launch", "threads", "I", false),
 ("LaneMill$Launch", "given", "I", false),
 ("LaneMill$Launch", "endedBlocks", "I", false),
 ("LaneMill$Launch", "state", "C", false),
 ("LaneMill$Launch", "fault", "C", false),
 ("LaneMill$Launch", "faultPosition", "I", false),
 ("LaneMill$Launch", "from", "I", false),
 ("LaneMill$Launch", "to", "I", false),
 ("LaneMill$Launch", "cellsLeft", "I", false),
 ("LaneMill$Launch", "touches", "[I", true),
 ("LaneMill$Launch", "racing", "[Z", true),
 ("LaneMill$Launch", "raceCount", "I", false)], [.int, .int, .object "LaneMill$Launch", .object "LaneMill$Launch", .object "LaneMill$Launch", .object "LaneMill$Kernel", .int, .int, .int, .int, .char, .char, .int, .int, .int, .int, .array .int, .array .boolean, .int]),
 ("LaneMill$Block", [("LaneMill$Block", "launch", "LLaneMill$Launch;", true),
 ("LaneMill$Block", "number", "I", true),
 ("LaneMill$Block", "threads", "[LLaneMill$MillThread;", true),
 ("LaneMill$Block", "groups", "[LLaneMill$Group;", true),
 ("LaneMill$Block", "sharedCells", "[I", true),
 ("LaneMill$Block", "touches", "[I", true),
 ("LaneMill$Block", "sharedTouches", "[I", true),
 ("LaneMill$Block", "sharedRacing", "[Z", true)], [.object "LaneMill$Launch", .int, .array (.object "LaneMill$MillThread"), .array (.object "LaneMill$Group"), .array .int, .array .int, .array .int, .array .boolean]),
 ("LaneMill$Group", [("LaneMill$Group", "block", "LLaneMill$Block;", true),
 ("LaneMill$Group", "first", "I", true),
 ("LaneMill$Group", "threads", "[LLaneMill$MillThread;", true),
 ("LaneMill$Group", "cells", "[I", true),
 ("LaneMill$Group", "values", "[I", true),
 ("LaneMill$Group", "writes", "I", false),
 ("LaneMill$Group", "readyAt", "I", false)], [.object "LaneMill$Block", .int, .array (.object "LaneMill$MillThread"), .array .int, .array .int, .int, .int]),
 ("LaneMillModel", [("LaneMillModel", "thrown", "I", false),
 ("LaneMillModel", "cycle", "I", false),
 ("LaneMillModel", "choice", "C", false),
 ("LaneMillModel", "memory", "[I", true),
 ("LaneMillModel", "kernels", "I", false),
 ("LaneMillModel", "registers", "[I", true),
 ("LaneMillModel", "sharedCells", "[I", true),
 ("LaneMillModel", "size", "[I", true),
 ("LaneMillModel", "wasLaunched", "[Z", true),
 ("LaneMillModel", "letter", "[C", true),
 ("LaneMillModel", "a", "[I", true),
 ("LaneMillModel", "b", "[I", true),
 ("LaneMillModel", "c", "[I", true),
 ("LaneMillModel", "launches", "I", false),
 ("LaneMillModel", "status", "[C", true),
 ("LaneMillModel", "kernel", "[I", true),
 ("LaneMillModel", "queue", "[I", true),
 ("LaneMillModel", "blocks", "[I", true),
 ("LaneMillModel", "threads", "[I", true),
 ("LaneMillModel", "after", "[I", true),
 ("LaneMillModel", "ahead", "[I", true),
 ("LaneMillModel", "parent", "[I", true),
 ("LaneMillModel", "depth", "[I", true),
 ("LaneMillModel", "given", "[I", true),
 ("LaneMillModel", "endedBlocks", "[I", true),
 ("LaneMillModel", "from", "[I", true),
 ("LaneMillModel", "to", "[I", true),
 ("LaneMillModel", "cells", "[I", true),
 ("LaneMillModel", "moved", "[I", true),
 ("LaneMillModel", "fault", "[C", true),
 ("LaneMillModel", "faultAt", "[I", true),
 ("LaneMillModel", "passed", "[I", true),
 ("LaneMillModel", "isIn", "[Z", true),
 ("LaneMillModel", "unitOf", "[I", true),
 ("LaneMillModel", "life", "[C", true),
 ("LaneMillModel", "place", "[I", true),
 ("LaneMillModel", "register", "[I", true),
 ("LaneMillModel", "shared", "[I", true),
 ("LaneMillModel", "many", "[I", true),
 ("LaneMillModel", "groupBlock", "[I", true),
 ("LaneMillModel", "groupIndex", "[I", true),
 ("LaneMillModel", "readyAt", "[I", true),
 ("LaneMillModel", "buffered", "[I", true),
 ("LaneMillModel", "bufferCell", "[I", true),
 ("LaneMillModel", "bufferValue", "[I", true),
 ("LaneMillModel", "lastBlock", "[I", true),
 ("LaneMillModel", "lastIndex", "[I", true),
 ("LaneMillModel", "line", "[I", true),
 ("LaneMillModel", "accessed", "[I", true),
 ("LaneMillModel", "wrote", "[I", true),
 ("LaneMillModel", "isRacing", "[Z", true),
 ("LaneMillModel", "accessedShared", "[I", true),
 ("LaneMillModel", "wroteShared", "[I", true),
 ("LaneMillModel", "isRacingShared", "[Z", true),
 ("LaneMillModel", "lanes", "J", false),
 ("LaneMillModel", "instructions", "I", false),
 ("LaneMillModel", "plainOnes", "I", false),
 ("LaneMillModel", "delays", "I", false),
 ("LaneMillModel", "misses", "I", false),
 ("LaneMillModel", "lost", "I", false),
 ("LaneMillModel", "barriers", "I", false),
 ("LaneMillModel", "refused", "I", false),
 ("LaneMillModel", "was", "[I", true),
 ("LaneMillModel", "mask", "I", false),
 ("LaneMillModel", "done", "I", false),
 ("LaneMillModel", "delay", "I", false),
 ("LaneMillModel", "failed", "C", false),
 ("LaneMillModel", "failedLane", "I", false),
 ("LaneMillModel", "runMemory", "[I", true),
 ("LaneMillModel", "runShared", "[I", true),
 ("LaneMillModel", "runRegister", "[I", true),
 ("LaneMillModel", "runPlace", "[I", true),
 ("LaneMillModel", "runLife", "[C", true),
 ("LaneMillModel", "runCount", "[I", true)], [.int, .int, .char, .array .int, .int, .array .int, .array .int, .array .int, .array .boolean, .array .char, .array .int, .array .int, .array .int, .int, .array .char, .array .int, .array .int, .array .int, .array .int, .array .int, .array .int, .array .int, .array .int, .array .int, .array .int, .array .int, .array .int, .array .int, .array .int, .array .char, .array .int, .array .int, .array .boolean, .array .int, .array .char, .array .int, .array .int, .array .int, .array .int, .array .int, .array .int, .array .int, .array .int, .array .int, .array .int, .array .int, .array .int, .array .int, .array .int, .array .int, .array .boolean, .array .int, .array .int, .array .boolean, .long, .int, .int, .int, .int, .int, .int, .int, .array .int, .int, .int, .int, .char, .int, .array .int, .array .int, .array .int, .array .int, .array .char, .array .int])]
def zCn (c : Nat) : String := (zget ("", [], []) zCT c).1
def zCf (c : Nat) : u_T := fun k => zget ("", "", "", false) (zget ("", [], []) zCT c).2.1 k
def zCk (c : Nat) : Nat := (zget ("", [], []) zCT c).2.1.length
def zCt (c k : Nat) : FieldType := zget .int (zget ("", [], []) zCT c).2.2 k
def zcl : List vw_C := (List.range 13).map fun c => (zCn c, zCf c, zCk c)
theorem zcl_at {c : Nat} (hc : c < 13) : zcl[c]? = some (zCn c, zCf c, zCk c) := by
  unfold zcl
  rw [List.getElem?_map, List.getElem?_range hc]
  rfl
theorem zget_out {α : Type} (l : List (List α)) (v : Nat) (h : l.length ≤ v) : zget [] l v = [] := by
  induction l generalizing v with
  | nil => rfl
  | cons a l ih =>
    cases v with
    | zero => exact absurd h (by simp)
    | succ v => exact ih v (by simpa using h)
/-- the type codes that rows are made of -/
def zes : List Nat := [0, 1, 2, 3, 6, 103, 106, 107, 108, 109, 111]
def zty (e : Nat) : FieldType := match e with
  | 0 => .int
  | 1 => .boolean
  | 2 => .char
  | 3 => .long
  | 6 => .double
  | e => .object (zCn (e - 100))
def ztys (cA : Nat → ClassId) : List (ClassId × FieldType) := zes.map fun e => (cA e, zty e)
theorem ztys_at (cA : Nat → ClassId) {e : Nat} (he : e ∈ zes) : ∃ q : Nat, (ztys cA)[q]? = some (cA e, zty e) := by
  obtain ⟨q, hq⟩ := List.mem_iff_getElem?.mp he
  exact ⟨q, by unfold ztys; rw [List.getElem?_map, hq]; rfl⟩
theorem zes_of {v : Nat} (h : 100 ≤ zft zPP v 0) (hv : 13 ≤ v) : zft zPP v 0 ∈ zes ∧ zft zPP v 0 - 100 < 13 := by
  have key : ∀ v, v < 116 → 13 ≤ v → 100 ≤ zft zPP v 0 → zft zPP v 0 ∈ zes ∧ zft zPP v 0 - 100 < 13 := by decide +kernel
  rcases Nat.lt_or_ge v 116 with q | q
  · exact key v q hv h
  · have : zget ([] : List Nat) zPP.1 v = [] := zget_out zPP.1 v q
    unfold zft at h
    rw [this] at h
    exact absurd h (by decide)
/-- fields: their types are what the codes say -/
def ztr (e : Nat) (ty : FieldType) : Bool := match e, ty with
  | 0, .int => true
  | 1, .boolean => true
  | 2, .char => true
  | 3, .long => true
  | e, .object _ => Nat.ble 100 e
  | e, .array _ => Nat.ble 100 e
  | _, _ => false
theorem zC_ok : ∀ c, c < 13 → zCk c = znf zPP c ∧ ∀ k, k < zCk c → ztr (zft zPP c k) (zCt c k) = true ∧ parseFieldDescriptor (zCf c k).2.2.1 = some (zCt c k) := by decide +kernel
theorem zC_nm : ∀ c, c < 13 → ∀ a, a < zCk c → ∀ b, b < zCk c → a ≠ b → (zCf c a).2.1 ≠ (zCf c b).2.1 := by decide +kernel
theorem zC_own : ∀ c, c < 13 → ∀ k, k < zCk c → (zCf c k).1 = zCn c := by decide +kernel
/-- a value and its number -/
def zvr (σ : Nat → Nat) (μ : Nat → Nat → Nat) (N : Nat → Nat) (t : Nat) (x : Int) (v : Value) : Prop :=
  (t = 0 ∧ ∃ i : Int32, v = .int i ∧ i.toInt = x) ∨ (t = 1 ∧ ∃ i : Int64, v = .long i ∧ i.toInt = x) ∨ (t = 3 ∧ 0 ≤ x ∧ x < 10 ∧ v = .ref (σ x.toNat)) ∨ (t = 4 ∧ ∃ a, v = .ref a) ∨ (t = 5 ∧ ∃ b : UInt32, v = .float b ∧ (b.toNat : Int) = x) ∨ (t = 6 ∧ ∃ b : UInt64, v = .double b ∧ (b.toNat : Int) = x) ∨ (100 ≤ t ∧ ((x = -1 ∧ v = .null) ∨ (0 ≤ x ∧ x < (N (t - 100) : Int) ∧ v = .ref (μ (t - 100) x.toNat))))
section
variable {σ : Nat → Nat} {μ : Nat → Nat → Nat} {N : Nat → Nat}
theorem zvr.int {x : Int} {v : Value} (h : zvr σ μ N 0 x v) : ∃ i : Int32, v = .int i ∧ i.toInt = x := by
  rcases h with ⟨_, h⟩ | ⟨h, _⟩ | ⟨h, _⟩ | ⟨h, _⟩ | ⟨h, _⟩ | ⟨h, _⟩ | ⟨h, _⟩
  · exact h
  all_goals omega
theorem zvr.long {x : Int} {v : Value} (h : zvr σ μ N 1 x v) : ∃ i : Int64, v = .long i ∧ i.toInt = x := by
  rcases h with ⟨h, _⟩ | ⟨_, h⟩ | ⟨h, _⟩ | ⟨h, _⟩ | ⟨h, _⟩ | ⟨h, _⟩ | ⟨h, _⟩
  · omega
  · exact h
  all_goals omega
theorem zvr.str {x : Int} {v : Value} (h : zvr σ μ N 3 x v) : 0 ≤ x ∧ x < 10 ∧ v = .ref (σ x.toNat) := by
  rcases h with ⟨h, _⟩ | ⟨h, _⟩ | ⟨_, h⟩ | ⟨h, _⟩ | ⟨h, _⟩ | ⟨h, _⟩ | ⟨h, _⟩
  · omega
  · omega
  · exact h
  all_goals omega
theorem zvr.flt {x : Int} {v : Value} (h : zvr σ μ N 5 x v) : ∃ b : UInt32, v = .float b ∧ (b.toNat : Int) = x := by
  rcases h with ⟨h, _⟩ | ⟨h, _⟩ | ⟨h, _⟩ | ⟨h, _⟩ | ⟨_, h⟩ | ⟨h, _⟩ | ⟨h, _⟩
  · omega
  · omega
  · omega
  · omega
  · exact h
  all_goals omega
theorem zvr.dbl {x : Int} {v : Value} (h : zvr σ μ N 6 x v) : ∃ b : UInt64, v = .double b ∧ (b.toNat : Int) = x := by
  rcases h with ⟨h, _⟩ | ⟨h, _⟩ | ⟨h, _⟩ | ⟨h, _⟩ | ⟨h, _⟩ | ⟨_, h⟩ | ⟨h, _⟩
  · omega
  · omega
  · omega
  · omega
  · omega
  · exact h
  · omega
theorem zvr.ref {t : Nat} {x : Int} {v : Value} (ht : 100 ≤ t) (h : zvr σ μ N t x v) : (x = -1 ∧ v = .null) ∨ (0 ≤ x ∧ x < (N (t - 100) : Int) ∧ v = .ref (μ (t - 100) x.toNat)) := by
  rcases h with ⟨h, _⟩ | ⟨h, _⟩ | ⟨h, _⟩ | ⟨h, _⟩ | ⟨h, _⟩ | ⟨h, _⟩ | ⟨_, h⟩
  · omega
  · omega
  · omega
  · omega
  · omega
  · omega
  · exact h
theorem zvr.i (i : Int32) : zvr σ μ N 0 i.toInt (.int i) := Or.inl ⟨rfl, i, rfl, rfl⟩
theorem zvr.i' {i : Int32} {x : Int} (h : i.toInt = x) : zvr σ μ N 0 x (.int i) := Or.inl ⟨rfl, i, rfl, h⟩
theorem zvr.l' {i : Int64} {x : Int} (h : i.toInt = x) : zvr σ μ N 1 x (.long i) := Or.inr (Or.inl ⟨rfl, i, rfl, h⟩)
theorem zvr.f' {b : UInt32} {x : Int} (h : (b.toNat : Int) = x) : zvr σ μ N 5 x (.float b) := Or.inr (Or.inr (Or.inr (Or.inr (Or.inl ⟨rfl, b, rfl, h⟩))))
theorem zvr.d' {b : UInt64} {x : Int} (h : (b.toNat : Int) = x) : zvr σ μ N 6 x (.double b) := Or.inr (Or.inr (Or.inr (Or.inr (Or.inr (Or.inl ⟨rfl, b, rfl, h⟩)))))
theorem zvr.r' {t : Nat} (ht : 100 ≤ t) {x : Int} (h0 : 0 ≤ x) (h1 : x < (N (t - 100) : Int)) : zvr σ μ N t x (.ref (μ (t - 100) x.toNat)) := Or.inr (Or.inr (Or.inr (Or.inr (Or.inr (Or.inr ⟨ht, Or.inr ⟨h0, h1, rfl⟩⟩)))))
theorem zvr.n' {t : Nat} (ht : 100 ≤ t) : zvr σ μ N t (-1) .null := Or.inr (Or.inr (Or.inr (Or.inr (Or.inr (Or.inr ⟨ht, Or.inl ⟨rfl, rfl⟩⟩)))))
theorem zvr.cat {t : Nat} {x : Int} {v : Value} (h : zvr σ μ N t x v) : v.category = bif zwide t then 2 else 1 := by
  rcases h with ⟨rfl, i, rfl, _⟩ | ⟨rfl, i, rfl, _⟩ | ⟨rfl, _, _, rfl⟩ | ⟨rfl, a, rfl⟩ | ⟨rfl, b, rfl, _⟩ | ⟨rfl, b, rfl, _⟩ | ⟨h, ⟨_, rfl⟩ | ⟨_, _, rfl⟩⟩
  · rfl
  · rfl
  · rfl
  · rfl
  · rfl
  · rfl
  all_goals
    unfold zwide
    split
    · omega
    · omega
    · rfl
/-- more cells, the old ones where they were -/
theorem zvr.mono {μ' : Nat → Nat → Nat} {N' : Nat → Nat} (hN : ∀ c i, i < N c → i < N' c ∧ μ' c i = μ c i) {t : Nat} {x : Int} {v : Value} (h : zvr σ μ N t x v) : zvr σ μ' N' t x v := by
  rcases h with h | h | h | h | h | h | ⟨h, h1 | ⟨h0, h1, h2⟩⟩
  · exact Or.inl h
  · exact Or.inr (Or.inl h)
  · exact Or.inr (Or.inr (Or.inl h))
  · exact Or.inr (Or.inr (Or.inr (Or.inl h)))
  · exact Or.inr (Or.inr (Or.inr (Or.inr (Or.inl h))))
  · exact Or.inr (Or.inr (Or.inr (Or.inr (Or.inr (Or.inl h)))))
  · exact Or.inr (Or.inr (Or.inr (Or.inr (Or.inr (Or.inr ⟨h, Or.inl h1⟩)))))
  · obtain ⟨k1, k2⟩ := hN (t - 100) x.toNat (by omega)
    exact Or.inr (Or.inr (Or.inr (Or.inr (Or.inr (Or.inr ⟨h, Or.inr ⟨h0, by omega, by rw [k2]; exact h2⟩⟩)))))
/-- a stack -/
def zSR (σ : Nat → Nat) (μ : Nat → Nat → Nat) (N : Nat → Nat) : List zV → List Value → Prop
  | [], [] => True
  | (t, x) :: st, v :: vs => zvr σ μ N t x v ∧ zSR σ μ N st vs
  | _, _ => False
theorem zSR.cons {t : Nat} {x : Int} {st : List zV} {vs : List Value} (h : zSR σ μ N ((t, x) :: st) vs) : ∃ v ws, vs = v :: ws ∧ zvr σ μ N t x v ∧ zSR σ μ N st ws := by
  cases vs with
  | nil => exact h.elim
  | cons v ws => exact ⟨v, ws, rfl, h.1, h.2⟩
theorem zSR.nil {vs : List Value} (h : zSR σ μ N [] vs) : vs = [] := by
  cases vs with
  | nil => rfl
  | cons v ws => exact h.elim
theorem zSR.mono {μ' : Nat → Nat → Nat} {N' : Nat → Nat} (hN : ∀ c i, i < N c → i < N' c ∧ μ' c i = μ c i) : ∀ {st : List zV} {vs : List Value}, zSR σ μ N st vs → zSR σ μ' N' st vs
  | [], [], _ => trivial
  | (_, _) :: _, _ :: _, h => ⟨h.1.mono hN, zSR.mono hN h.2⟩
  | [], _ :: _, h => h.elim
  | (_, _) :: _, [], h => h.elim
theorem zSR.cat : ∀ {st : List zV} {vs : List Value}, zSR σ μ N st vs → (vs.map fun v => v.category).sum = zcat st
  | [], [], _ => rfl
  | (t, x) :: st, v :: vs, h => by
    rw [List.map_cons, List.sum_cons, zSR.cat h.2, h.1.cat]
    rfl
  | [], _ :: _, h => h.elim
  | (_, _) :: _, [], h => h.elim
/-- the locals -/
def zLR (σ : Nat → Nat) (μ : Nat → Nat → Nat) (N : Nat → Nat) (nL : Nat) (ls : List (Option zV)) (lsJ : Array Slot) : Prop :=
  ls.length = nL ∧ ∃ lv : List (Nat × Value), lv_has lsJ nL lv ∧ ∀ i t x, zlv ls i = some (t, x) → ∃ v, (i, v) ∈ lv ∧ zvr σ μ N t x v
theorem zLR.mono {μ' : Nat → Nat → Nat} {N' : Nat → Nat} (hN : ∀ c i, i < N c → i < N' c ∧ μ' c i = μ c i) {nL : Nat} {ls : List (Option zV)} {lsJ : Array Slot} (h : zLR σ μ N nL ls lsJ) : zLR σ μ' N' nL ls lsJ := by
  obtain ⟨h0, lv, h1, h2⟩ := h
  refine ⟨h0, lv, h1, fun i t x hi => ?_⟩
  obtain ⟨v, h3, h4⟩ := h2 i t x hi
  exact ⟨v, h3, h4.mono hN⟩
theorem zLR.at {nL : Nat} {ls : List (Option zV)} {lsJ : Array Slot} (h : zLR σ μ N nL ls lsJ) {i t : Nat} {x : Int} (hi : zlv ls i = some (t, x)) : ∃ v, lsJ[i]? = some (.val v) ∧ zvr σ μ N t x v := by
  obtain ⟨_, lv, h1, h2⟩ := h
  obtain ⟨v, h3, h4⟩ := h2 i t x hi
  exact ⟨v, h1.2.2 _ h3, h4⟩
theorem zmask_at {i : Nat} {q : zV} : ∀ (bm : List Bool) (ls : List (Option zV)), zlv (zmask bm ls) i = some q → zlv ls i = some q := by
  induction i with
  | zero =>
    intro bm ls h
    cases ls with
    | nil => cases bm with
      | nil => exact h
      | cons b bs => cases b <;> exact h
    | cons a l =>
      cases bm with
      | nil => exact h
      | cons b bs => cases b with
        | true => exact h
        | false => exact absurd h (by simp [zmask, zlv])
  | succ i ih =>
    intro bm ls h
    cases ls with
    | nil => cases bm with
      | nil => exact h
      | cons b bs => cases b <;> exact h
    | cons a l =>
      cases bm with
      | nil => exact h
      | cons b bs => cases b <;> exact ih bs l h
theorem zmask_len : ∀ (bm : List Bool) (ls : List (Option zV)), (zmask bm ls).length = ls.length
  | true :: bs, a :: l => congrArg (· + 1) (zmask_len bs l)
  | false :: bs, a :: l => congrArg (· + 1) (zmask_len bs l)
  | [], [] => rfl
  | [], _ :: _ => rfl
  | true :: _, [] => rfl
  | false :: _, [] => rfl
theorem zLR.mask {nL : Nat} {ls : List (Option zV)} {lsJ : Array Slot} (bm : List Bool) (h : zLR σ μ N nL ls lsJ) : zLR σ μ N nL (zmask bm ls) lsJ := by
  obtain ⟨h0, lv, h1, h2⟩ := h
  exact ⟨(zmask_len bm ls).trans h0, lv, h1, fun i t x hi => h2 i t x (zmask_at bm ls hi)⟩
theorem zsto_len : ∀ (ls : List (Option zV)) (i : Nat) (q : zV) (l' : List (Option zV)), zsto ls i q = some l' → l'.length = ls.length
  | [], _, _, _, h => by simp [zsto] at h
  | _ :: l, 0, v, l', h => by simp [zsto] at h; rw [← h]; rfl
  | a :: l, 1, v, l', h => by
    unfold zsto at h
    split at h
    · rename_i l1 h1
      cases h
      exact congrArg (· + 1) (zsto_len l 0 v l1 h1)
    · cases h
  | a :: l, n + 2, v, l', h => by
    unfold zsto at h
    split at h
    · rename_i l1 h1
      cases h
      exact congrArg (· + 1) (zsto_len l (n + 1) v l1 h1)
    · cases h
theorem zsto_lt : ∀ (ls : List (Option zV)) (i : Nat) (q : zV) (l' : List (Option zV)), zsto ls i q = some l' → i < ls.length
  | [], _, _, _, h => by simp [zsto] at h
  | _ :: l, 0, v, l', h => by simp
  | a :: l, 1, v, l', h => by
    unfold zsto at h
    split at h
    · rename_i l1 h1
      have := zsto_lt l 0 v l1 h1
      simp only [List.length_cons]; omega
    · cases h
  | a :: l, n + 2, v, l', h => by
    unfold zsto at h
    split at h
    · rename_i l1 h1
      have := zsto_lt l (n + 1) v l1 h1
      simp only [List.length_cons]; omega
    · cases h
theorem zsto_at {j : Nat} {q : zV} : ∀ (ls : List (Option zV)) (i : Nat) (v : zV) (l' : List (Option zV)), zsto ls i v = some l' → zlv l' j = some q → (j = i ∧ q = v) ∨ (j ≠ i ∧ zlv ls j = some q ∧ (j + 1 = i → zwide q.1 = false)) := by
  induction j with
  | zero =>
    intro ls i v l' h h2
    cases ls with
    | nil => simp [zsto] at h
    | cons a l =>
      match i with
      | 0 =>
        simp [zsto] at h
        subst h
        exact Or.inl ⟨rfl, (Option.some.inj h2).symm⟩
      | 1 =>
        unfold zsto at h
        split at h
        · rename_i l1 h1
          cases h
          refine Or.inr ⟨by omega, ?_, fun _ => ?_⟩
          · cases a with
            | none => exact absurd h2 (by simp [zlv, zkill])
            | some p => obtain ⟨t, x⟩ := p; cases hw : zwide t <;> simp [zlv, zkill, hw] at h2 ⊢; exact h2
          · cases a with
            | none => exact absurd h2 (by simp [zlv, zkill])
            | some p => obtain ⟨t, x⟩ := p; cases hw : zwide t <;> simp [zlv, zkill, hw] at h2; rw [← h2]; exact hw
        · cases h
      | i + 2 =>
        unfold zsto at h
        split at h
        · rename_i l1 h1
          cases h
          exact Or.inr ⟨by omega, h2, fun h => by omega⟩
        · cases h
  | succ j ih =>
    intro ls i v l' h h2
    cases ls with
    | nil => simp [zsto] at h
    | cons a l =>
      match i with
      | 0 =>
        simp [zsto] at h
        subst h
        exact Or.inr ⟨by omega, h2, fun h => by omega⟩
      | 1 =>
        unfold zsto at h
        split at h
        · rename_i l1 h1
          cases h
          rcases ih l 0 v l1 h1 h2 with ⟨e, q⟩ | ⟨e, q, k⟩
          · exact Or.inl ⟨by omega, q⟩
          · exact Or.inr ⟨by omega, q, fun h => k (by omega)⟩
        · cases h
      | i + 2 =>
        unfold zsto at h
        split at h
        · rename_i l1 h1
          cases h
          rcases ih l (i + 1) v l1 h1 h2 with ⟨e, q⟩ | ⟨e, q, k⟩
          · exact Or.inl ⟨by omega, q⟩
          · exact Or.inr ⟨by omega, q, fun h => k (by omega)⟩
        · cases h
theorem zsto2_len : ∀ (ls : List (Option zV)) (i : Nat) (q : zV) (l' : List (Option zV)), zsto2 ls i q = some l' → l'.length = ls.length ∧ i + 1 < ls.length
  | [], _, _, _, h => by simp [zsto2] at h
  | [_], _, _, _, h => by simp [zsto2] at h
  | _ :: _ :: l, 0, v, l', h => by simp [zsto2] at h; rw [← h]; exact ⟨rfl, by simp⟩
  | a :: b :: l, 1, v, l', h => by
    unfold zsto2 at h
    split at h
    · rename_i l1 h1
      cases h
      obtain ⟨q1, q2⟩ := zsto2_len (b :: l) 0 v l1 h1
      exact ⟨congrArg (· + 1) q1, by simp only [List.length_cons] at q2 ⊢; omega⟩
    · cases h
  | a :: b :: l, n + 2, v, l', h => by
    unfold zsto2 at h
    split at h
    · rename_i l1 h1
      cases h
      obtain ⟨q1, q2⟩ := zsto2_len (b :: l) (n + 1) v l1 h1
      exact ⟨congrArg (· + 1) q1, by simp only [List.length_cons] at q2 ⊢; omega⟩
    · cases h
theorem zsto2_at {j : Nat} {q : zV} : ∀ (ls : List (Option zV)) (i : Nat) (v : zV) (l' : List (Option zV)), zsto2 ls i v = some l' → zlv l' j = some q → (j = i ∧ q = v) ∨ (j ≠ i ∧ j ≠ i + 1 ∧ zlv ls j = some q ∧ (j + 1 = i → zwide q.1 = false)) := by
  induction j with
  | zero =>
    intro ls i v l' h h2
    match ls, i with
    | [], _ => simp [zsto2] at h
    | [_], _ => simp [zsto2] at h
    | a :: b :: l, 0 =>
      simp [zsto2] at h
      subst h
      exact Or.inl ⟨rfl, (Option.some.inj h2).symm⟩
    | a :: b :: l, 1 =>
      unfold zsto2 at h
      split at h
      · rename_i l1 h1
        cases h
        refine Or.inr ⟨by omega, by omega, ?_, fun _ => ?_⟩
        · cases a with
          | none => exact absurd h2 (by simp [zlv, zkill])
          | some p => obtain ⟨t, x⟩ := p; cases hw : zwide t <;> simp [zlv, zkill, hw] at h2 ⊢; exact h2
        · cases a with
          | none => exact absurd h2 (by simp [zlv, zkill])
          | some p => obtain ⟨t, x⟩ := p; cases hw : zwide t <;> simp [zlv, zkill, hw] at h2; rw [← h2]; exact hw
      · cases h
    | a :: b :: l, i + 2 =>
      unfold zsto2 at h
      split at h
      · rename_i l1 h1
        cases h
        exact Or.inr ⟨by omega, by omega, h2, fun h => by omega⟩
      · cases h
  | succ j ih =>
    intro ls i v l' h h2
    match ls, i with
    | [], _ => simp [zsto2] at h
    | [_], _ => simp [zsto2] at h
    | a :: b :: l, 0 =>
      simp [zsto2] at h
      subst h
      cases j with
      | zero => exact absurd h2 (by simp [zlv])
      | succ j => exact Or.inr ⟨by omega, by omega, h2, fun h => by omega⟩
    | a :: b :: l, 1 =>
      unfold zsto2 at h
      split at h
      · rename_i l1 h1
        cases h
        rcases ih (b :: l) 0 v l1 h1 h2 with ⟨e, q⟩ | ⟨e, e2, q, k⟩
        · exact Or.inl ⟨by omega, q⟩
        · exact Or.inr ⟨by omega, by omega, q, fun h => k (by omega)⟩
      · cases h
    | a :: b :: l, i + 2 =>
      unfold zsto2 at h
      split at h
      · rename_i l1 h1
        cases h
        rcases ih (b :: l) (i + 1) v l1 h1 h2 with ⟨e, q⟩ | ⟨e, e2, q, k⟩
        · exact Or.inl ⟨by omega, q⟩
        · exact Or.inr ⟨by omega, by omega, q, fun h => k (by omega)⟩
      · cases h
/-- behind a store of one slot: what the rows lv_istore .. say of the locals is what the small machine says -/
theorem zLR.sto {nL : Nat} {ls l' : List (Option zV)} {lv : List (Nat × Value)} {lsJ : Array Slot} {i t : Nat} {x : Int} {w : Value} (hlen : ls.length = nL) (h2 : ∀ i t x, zlv ls i = some (t, x) → ∃ v, (i, v) ∈ lv ∧ zvr σ μ N t x v) (hs : zsto ls i (t, x) = some l') (hw : zvr σ μ N t x w)
    (hn : lv_has lsJ nL ((i, w) :: lv.filter (fun q => !(q.1 == i) && !(q.1 + 1 == i && q.2.category == 2)))) : zLR σ μ N nL l' lsJ := by
  refine ⟨(zsto_len _ _ _ _ hs).trans hlen, _, hn, fun j t' x' hj => ?_⟩
  rcases zsto_at _ _ _ _ hs hj with ⟨rfl, e⟩ | ⟨e, h3, h4⟩
  · cases e
    exact ⟨w, List.mem_cons_self, hw⟩
  · obtain ⟨v, h5, h6⟩ := h2 j t' x' h3
    refine ⟨v, List.mem_cons_of_mem _ (List.mem_filter.mpr ⟨h5, ?_⟩), h6⟩
    have hc := h6.cat
    by_cases hji : j + 1 = i
    · rw [h4 hji] at hc
      simp [e, hc]
    · simp [e, hji]
theorem zLR.sto2 {nL : Nat} {ls l' : List (Option zV)} {lv : List (Nat × Value)} {lsJ : Array Slot} {i t : Nat} {x : Int} {w : Value} (hlen : ls.length = nL) (h2 : ∀ i t x, zlv ls i = some (t, x) → ∃ v, (i, v) ∈ lv ∧ zvr σ μ N t x v) (hs : zsto2 ls i (t, x) = some l') (hw : zvr σ μ N t x w)
    (hn : lv_has lsJ nL ((i, w) :: lv.filter (fun q => !(q.1 == i) && (!(q.1 == i + 1) && !(q.1 + 1 == i && q.2.category == 2))))) : zLR σ μ N nL l' lsJ := by
  refine ⟨(zsto2_len _ _ _ _ hs).1.trans hlen, _, hn, fun j t' x' hj => ?_⟩
  rcases zsto2_at _ _ _ _ hs hj with ⟨rfl, e⟩ | ⟨e, e2, h3, h4⟩
  · cases e
    exact ⟨w, List.mem_cons_self, hw⟩
  · obtain ⟨v, h5, h6⟩ := h2 j t' x' h3
    refine ⟨v, List.mem_cons_of_mem _ (List.mem_filter.mpr ⟨h5, ?_⟩), h6⟩
    have hc := h6.cat
    by_cases hji : j + 1 = i
    · rw [h4 hji] at hc
      simp [e, e2, hc]
    · simp [e, e2, hji]
end
