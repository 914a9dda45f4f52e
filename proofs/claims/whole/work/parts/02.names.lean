/-! NAMES: classes, fields, array types, words by program -/
def RFP : String := "ForkPool"
def FFP : u_T := fun k => match k with
  | 0 => ("ForkPool", "rows", "[LForkPool$Row;", true)
  | 1 => ("ForkPool", "workers", "[LForkPool$Worker;", true)
  | 2 => ("ForkPool", "jobs", "[LForkPool$Job;", true)
  | 3 => ("ForkPool", "jobsBegun", "I", false)
  | 4 => ("ForkPool", "stepsMade", "I", false)
  | 5 => ("ForkPool", "nextWorker", "I", false)
  | _ => ("ForkPool", "grain", "I", false)
def tFP : Nat → FieldType := fun k => match k with
  | 0 => (.array (.object "ForkPool$Row"))
  | 1 => (.array (.object "ForkPool$Worker"))
  | 2 => (.array (.object "ForkPool$Job"))
  | 3 => .int
  | 4 => .int
  | 5 => .int
  | _ => .int
def RRow : String := "ForkPool$Row"
def FRow : u_T := fun k => match k with
  | 0 => ("ForkPool$Row", "elements", "[J", true)
  | 1 => ("ForkPool$Row", "type", "I", false)
  | _ => ("ForkPool$Row", "length", "I", false)
def tRow : Nat → FieldType := fun k => match k with
  | 0 => (.array .long)
  | 1 => .int
  | _ => .int
def RJob : String := "ForkPool$Job"
def FJob : u_T := fun k => match k with
  | 0 => ("ForkPool$Job", "number", "I", true)
  | 1 => ("ForkPool$Job", "kind", "I", true)
  | 2 => ("ForkPool$Job", "row", "LForkPool$Row;", true)
  | 3 => ("ForkPool$Job", "c", "I", true)
  | 4 => ("ForkPool$Job", "d", "I", true)
  | 5 => ("ForkPool$Job", "state", "I", false)
  | 6 => ("ForkPool$Job", "failedAt", "I", false)
  | 7 => ("ForkPool$Job", "tasksDone", "I", false)
  | 8 => ("ForkPool$Job", "inSecondRound", "Z", false)
  | _ => ("ForkPool$Job", "result", "J", false)
def tJob : Nat → FieldType := fun k => match k with
  | 0 => .int
  | 1 => .int
  | 2 => (.object "ForkPool$Row")
  | 3 => .int
  | 4 => .int
  | 5 => .int
  | 6 => .int
  | 7 => .int
  | 8 => .boolean
  | _ => .long
def RTask : String := "ForkPool$Task"
def FTask : u_T := fun k => match k with
  | 0 => ("ForkPool$Task", "job", "LForkPool$Job;", true)
  | 1 => ("ForkPool$Task", "parent", "LForkPool$Task;", true)
  | 2 => ("ForkPool$Task", "from", "I", true)
  | 3 => ("ForkPool$Task", "to", "I", true)
  | 4 => ("ForkPool$Task", "first", "LForkPool$Task;", false)
  | 5 => ("ForkPool$Task", "second", "LForkPool$Task;", false)
  | 6 => ("ForkPool$Task", "openParts", "I", false)
  | 7 => ("ForkPool$Task", "result", "J", false)
  | _ => ("ForkPool$Task", "base", "J", false)
def tTask : Nat → FieldType := fun k => match k with
  | 0 => (.object "ForkPool$Job")
  | 1 => (.object "ForkPool$Task")
  | 2 => .int
  | 3 => .int
  | 4 => (.object "ForkPool$Task")
  | 5 => (.object "ForkPool$Task")
  | 6 => .int
  | 7 => .long
  | _ => .long
def RWk : String := "ForkPool$Worker"
def FWk : u_T := fun k => match k with
  | 0 => ("ForkPool$Worker", "queue", "Ljava/util/ArrayList;", true)
  | 1 => ("ForkPool$Worker", "tasksDone", "I", false)
  | 2 => ("ForkPool$Worker", "tasksStolen", "I", false)
  | 3 => ("ForkPool$Worker", "idleSteps", "I", false)
  | _ => ("ForkPool$Worker", "victim", "I", false)
def tWk : Nat → FieldType := fun k => match k with
  | 0 => (.object "java/util/ArrayList")
  | 1 => .int
  | 2 => .int
  | 3 => .int
  | _ => .int
def RAL : String := "java/util/ArrayList"
def FAL : u_T := fun k => match k with
  | 0 => ("java/util/ArrayList", "elementData", "[Ljava/lang/Object;", false)
  | 1 => ("java/util/ArrayList", "size", "I", false)
  | _ => ("java/util/AbstractList", "modCount", "I", false)
def tAL : Nat → FieldType := fun k => match k with
  | 0 => (.array (.object "java/lang/Object"))
  | 1 => .int
  | _ => .int
def RMo : String := "ForkPoolModel"
def FMo : u_T := fun k => match k with
  | 0 => ("ForkPoolModel", "thrown", "I", false)
  | 1 => ("ForkPoolModel", "workers", "I", true)
  | 2 => ("ForkPoolModel", "type", "[I", true)
  | 3 => ("ForkPoolModel", "length", "[I", true)
  | 4 => ("ForkPoolModel", "data", "[J", true)
  | 5 => ("ForkPoolModel", "kind", "[I", true)
  | 6 => ("ForkPoolModel", "on", "[I", true)
  | 7 => ("ForkPoolModel", "c", "[I", true)
  | 8 => ("ForkPoolModel", "d", "[I", true)
  | 9 => ("ForkPoolModel", "state", "[I", true)
  | 10 => ("ForkPoolModel", "failedAt", "[I", true)
  | 11 => ("ForkPoolModel", "did", "[I", true)
  | 12 => ("ForkPoolModel", "root", "[I", true)
  | 13 => ("ForkPoolModel", "round", "[I", true)
  | 14 => ("ForkPoolModel", "jobs", "I", false)
  | 15 => ("ForkPoolModel", "of", "[I", true)
  | 16 => ("ForkPoolModel", "from", "[I", true)
  | 17 => ("ForkPoolModel", "to", "[I", true)
  | 18 => ("ForkPoolModel", "parent", "[I", true)
  | 19 => ("ForkPoolModel", "child", "[I", true)
  | 20 => ("ForkPoolModel", "over", "[I", true)
  | 21 => ("ForkPoolModel", "result", "[J", true)
  | 22 => ("ForkPoolModel", "base", "[J", true)
  | 23 => ("ForkPoolModel", "tasks", "I", false)
  | 24 => ("ForkPoolModel", "queue", "[I", true)
  | 25 => ("ForkPoolModel", "queued", "[I", true)
  | 26 => ("ForkPoolModel", "done", "[I", true)
  | 27 => ("ForkPoolModel", "stolen", "[I", true)
  | 28 => ("ForkPoolModel", "idle", "[I", true)
  | 29 => ("ForkPoolModel", "victim", "[I", true)
  | 30 => ("ForkPoolModel", "grain", "I", false)
  | 31 => ("ForkPoolModel", "steps", "I", false)
  | _ => ("ForkPoolModel", "turn", "I", false)
def tMo : Nat → FieldType := fun k => match k with
  | 0 => .int
  | 1 => .int
  | 2 => (.array .int)
  | 3 => (.array .int)
  | 4 => (.array .long)
  | 5 => (.array .int)
  | 6 => (.array .int)
  | 7 => (.array .int)
  | 8 => (.array .int)
  | 9 => (.array .int)
  | 10 => (.array .int)
  | 11 => (.array .int)
  | 12 => (.array .int)
  | 13 => (.array .int)
  | 14 => .int
  | 15 => (.array .int)
  | 16 => (.array .int)
  | 17 => (.array .int)
  | 18 => (.array .int)
  | 19 => (.array .int)
  | 20 => (.array .int)
  | 21 => (.array .long)
  | 22 => (.array .long)
  | 23 => .int
  | 24 => (.array .int)
  | 25 => (.array .int)
  | 26 => (.array .int)
  | 27 => (.array .int)
  | 28 => (.array .int)
  | 29 => (.array .int)
  | 30 => .int
  | 31 => .int
  | _ => .int
def REIA : String := "java/lang/IllegalArgumentException"
def FEIA : u_T := fun k => match k with
  | _ => ("", "", "", false)
def tEIA : Nat → FieldType := fun k => match k with
  | _ => .int
def REIS : String := "java/lang/IllegalStateException"
def FEIS : u_T := fun k => match k with
  | _ => ("", "", "", false)
def tEIS : Nat → FieldType := fun k => match k with
  | _ => .int
def RENS : String := "java/util/NoSuchElementException"
def FENS : u_T := fun k => match k with
  | _ => ("", "", "", false)
def tENS : Nat → FieldType := fun k => match k with
  | _ => .int
def REAr : String := "java/lang/ArithmeticException"
def FEAr : u_T := fun k => match k with
  | _ => ("", "", "", false)
def tEAr : Nat → FieldType := fun k => match k with
  | _ => .int
def REUn : String := "java/lang/UnsupportedOperationException"
def FEUn : u_T := fun k => match k with
  | _ => ("", "", "", false)
def tEUn : Nat → FieldType := fun k => match k with
  | _ => .int
def fxCl : List vw_C := [(RFP, FFP, 7), (RRow, FRow, 3), (RJob, FJob, 10), (RTask, FTask, 9), (RWk, FWk, 5), (RAL, FAL, 3), (RMo, FMo, 33), (REIA, FEIA, 0), (REIS, FEIS, 0), (RENS, FENS, 0), (REAr, FEAr, 0), (REUn, FEUn, 0)]
def fxAr : List FieldType := [.long, .int, .object "java/lang/Object", .object "ForkPool$Row", .object "ForkPool$Worker", .object "ForkPool$Job"]
def fxok : Cond → Bool
  | .fieldLinkNest .. | .methodLinkNest .. | .castable .. | .declares .. => true
  | .arrayOver (.object _) => true
  | w => goodWord w
def fxTW : List Cond := lw_tbl.filter fxok
theorem fxTW_in {w : Cond} (i : Nat) (h : lw_tbl[i]? = some w) (hk : fxok w = true) : w ∈ fxTW := List.mem_filter.mpr ⟨List.mem_of_getElem? h, hk⟩
theorem fxok_good {w : Cond} (h : goodWord w = true) {args a' : Array Value} {s U : State} (hW : s.WarmedH U.vm) (hb : w.before args s = true) : w.before a' U = true := word_at hW (good_of_word h) hb
theorem fxTW_at {w : Cond} (h : w ∈ fxTW) {args a' : Array Value} {s U : State} (hW : s.WarmedH U.vm) (hb : w.before args s = true) : w.before a' U = true := by
  have hk := (List.mem_filter.mp h).2
  cases w with
  | fieldLinkNest a i b n d h => exact va_Nw.use rfl (va_Nw.warmF hW (va_Nw.of rfl hb))
  | methodLinkNest a i x h => exact va_Nw.use rfl (va_Nw.warmM hW (va_Nw.of rfl hb))
  | castable a b => exact va_Nw.use rfl (va_Nw.warmC hW (va_Nw.of rfl hb))
  | declares x => exact va_Nw.use rfl (va_Nw.warmD hW (va_Nw.of rfl hb))
  | arrayOver ty =>
    cases ty with
    | object C => exact va_AO.use (va_AO.moved hW.alike (va_AO.of hb))
    | _ => (refine fxok_good ?_ hW hb; exact hk)
  | _ => (refine fxok_good ?_ hW hb; exact hk)
theorem inFP : ∀ w ∈ u_ws RFP FFP 7, w ∈ fxTW := by decide +kernel
theorem tyFP : ∀ k, k < 7 → parseFieldDescriptor (FFP k).2.2.1 = some (tFP k) := by decide +kernel
theorem nmFP : ∀ a, a < 7 → ∀ b, b < 7 → a ≠ b → (FFP a).2.1 ≠ (FFP b).2.1 := by decide +kernel
theorem inRow : ∀ w ∈ u_ws RRow FRow 3, w ∈ fxTW := by decide +kernel
theorem tyRow : ∀ k, k < 3 → parseFieldDescriptor (FRow k).2.2.1 = some (tRow k) := by decide +kernel
theorem nmRow : ∀ a, a < 3 → ∀ b, b < 3 → a ≠ b → (FRow a).2.1 ≠ (FRow b).2.1 := by decide +kernel
theorem inJob : ∀ w ∈ u_ws RJob FJob 10, w ∈ fxTW := by decide +kernel
theorem tyJob : ∀ k, k < 10 → parseFieldDescriptor (FJob k).2.2.1 = some (tJob k) := by decide +kernel
theorem nmJob : ∀ a, a < 10 → ∀ b, b < 10 → a ≠ b → (FJob a).2.1 ≠ (FJob b).2.1 := by decide +kernel
theorem inTask : ∀ w ∈ u_ws RTask FTask 9, w ∈ fxTW := by decide +kernel
theorem tyTask : ∀ k, k < 9 → parseFieldDescriptor (FTask k).2.2.1 = some (tTask k) := by decide +kernel
theorem nmTask : ∀ a, a < 9 → ∀ b, b < 9 → a ≠ b → (FTask a).2.1 ≠ (FTask b).2.1 := by decide +kernel
theorem inWk : ∀ w ∈ u_ws RWk FWk 5, w ∈ fxTW := by decide +kernel
theorem tyWk : ∀ k, k < 5 → parseFieldDescriptor (FWk k).2.2.1 = some (tWk k) := by decide +kernel
theorem nmWk : ∀ a, a < 5 → ∀ b, b < 5 → a ≠ b → (FWk a).2.1 ≠ (FWk b).2.1 := by decide +kernel
theorem inAL : ∀ w ∈ u_ws RAL FAL 3, w ∈ fxTW := by decide +kernel
theorem tyAL : ∀ k, k < 3 → parseFieldDescriptor (FAL k).2.2.1 = some (tAL k) := by decide +kernel
theorem nmAL : ∀ a, a < 3 → ∀ b, b < 3 → a ≠ b → (FAL a).2.1 ≠ (FAL b).2.1 := by decide +kernel
theorem inMo : ∀ w ∈ u_ws RMo FMo 33, w ∈ fxTW := by decide +kernel
theorem tyMo : ∀ k, k < 33 → parseFieldDescriptor (FMo k).2.2.1 = some (tMo k) := by decide +kernel
theorem nmMo : ∀ a, a < 33 → ∀ b, b < 33 → a ≠ b → (FMo a).2.1 ≠ (FMo b).2.1 := by decide +kernel
def fxStr : List (String × Nat × String) := [("ForkPool", 50, "array, type or length out of range"), ("ForkPool", 219, "a job on the array is running"), ("ForkPool", 211, "no such array"), ("ForkPool", 213, "no such element"), ("ForkPool", 79, "kind or worker out of range"), ("ForkPool", 81, "c or d out of range"), ("ForkPool", 88, "all jobs were begun"), ("ForkPool", 109, "number of steps out of range"), ("ForkPool", 221, "no such job"), ("ForkPool", 125, "the job has failed"), ("ForkPool", 133, "a job of this kind has no result"), ("ForkPool", 136, "the job is not done"), ("ForkPool", 142, "the job has ended"), ("ForkPool", 158, "no such fact of a job"), ("ForkPool", 223, "no such worker"), ("ForkPool", 170, "no such task"), ("ForkPool", 187, "no such fact of a task"), ("ForkPool", 199, "no such fact of a worker"), ("ForkPool", 201, "grain out of range"), ("ForkPool", 209, "no such count")]
/-- a static reference that nobody writes, with all that the tables say of it -/
def fxZ (C n d : String) (b : Nat) (U : State) (Hb : Heap) : Prop := ∃ (c : ClassId) (k : Class) (i : Nat) (f : Field) (a : Nat) (cell : Cell) (v : Value), U.vm.findClass C = some c ∧ U.fieldFound? C n d = some (c, k, i, f) ∧ f.isStatic = true ∧ k.statics = some a ∧ Hb[a]? = some cell ∧ cell.vm.isStatics = true ∧ cell.cls = c ∧ f.slot < cell.slots.size ∧ k.staticTypes[f.slot]? = some f.type ∧ cell.slots[f.slot]? = some v ∧ v.isRef = true ∧ a < b
theorem fxZ.moved {C n d : String} {b : Nat} {u U : State} {Hb : Heap} (hvm : u.vm.Alike U.vm) (h : fxZ C n d b u Hb) : fxZ C n d b U Hb := by
  obtain ⟨c, k, i, f, a, cell, v, h1, h2, h3, h4, h5, h6, h7, h8, h9, h10⟩ := h
  obtain ⟨k', hi', he⟩ := State.fieldFound?_setVm hvm h2
  exact ⟨c, k', i, f, a, cell, v, by rw [hvm.findClass]; exact h1, hi', h3, by rw [he]; exact h4, h5, h6, h7, h8, by rw [he]; exact h9, h10⟩
/-- the arrays that were there: ArrayList's empty one, the script -/
def fxBs (ad : Nat → Nat) : List (Nat × FieldType) := [(ad 0, .object "java/lang/Object"), (ad 2, .int)]
/-- exceptions that are none of another kind -/
def fxNc : List (String × String) := [("java/lang/IllegalStateException", "java/lang/IllegalArgumentException"), ("java/lang/IllegalStateException", "java/util/NoSuchElementException"), ("java/lang/IllegalArgumentException", "java/util/NoSuchElementException"), ("java/lang/ArithmeticException", "java/util/NoSuchElementException"), ("java/lang/UnsupportedOperationException", "java/util/NoSuchElementException"), ("java/lang/IllegalStateException", "java/lang/UnsupportedOperationException")]
/-- what stays of the start: ArrayList's empty array, the texts, the statics of Throwable, the mirror of Object[], the flags, what is no kind of what -/
def fxO (l : Launch) (b : Nat) (Hb : Heap) (ad : Nat → Nat) (U : State) : Prop :=
  va_Z "java/util/ArrayList" "DEFAULTCAPACITY_EMPTY_ELEMENTDATA" "[Ljava/lang/Object;" (.ref (ad 0)) (fun q => b ≤ q) U Hb ∧ (∀ q ∈ fxStr, ∃ a, vk_R q.1 q.2.1 q.2.2 a U) ∧
  fxZ "java/lang/Throwable" "UNASSIGNED_STACK" "[Ljava/lang/StackTraceElement;" b U Hb ∧ fxZ "java/lang/Throwable" "SUPPRESSED_SENTINEL" "Ljava/util/List;" b U Hb ∧ va_Mi "[Ljava/lang/Object;" (ad 1) U ∧ l.flags = pinnedFlags ++ [noTraceFlag] ∧ (∀ q ∈ fxNc, va_Nc q.1 q.2 U) ∧ ∀ q ∈ fxBs ad, ∃ cell : Cell, Hb[q.1]? = some cell ∧ U.isArrayOf cell q.2 ∧ cell.vm ≠ .unknown
theorem fxO_moved {l : Launch} {b : Nat} {Hb : Heap} {ad : Nat → Nat} {u U : State} (hW : u.WarmedH U.vm) (h : fxO l b Hb ad u) : fxO l b Hb ad U :=
  ⟨va_Z.moved hW.alike h.1, fun q hq => by obtain ⟨a, ha⟩ := h.2.1 q hq; exact ⟨a, vk_R.warm hW ha⟩, h.2.2.1.moved hW.alike, h.2.2.2.1.moved hW.alike, va_Mi.moved hW.alike h.2.2.2.2.1, h.2.2.2.2.2.1, fun q hq => va_Nc.moved hW.alike (h.2.2.2.2.2.2.1 q hq), fun q hq => by obtain ⟨cell, g1, g2, g3⟩ := h.2.2.2.2.2.2.2 q hq; exact ⟨cell, g1, State.isArrayOf_alike hW.alike g2, g3⟩⟩
