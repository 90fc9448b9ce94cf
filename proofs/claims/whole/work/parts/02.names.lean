/-! Names: classes, fields, methods, words, decode rows. Written by wip/gen/names.py. -/
def GW : List Cond := lw_tbl.filter goodWord
theorem gw_at {w : Cond} (i : Nat) (h : tables_1[i]? = some w) (hg : goodWord w = true) : w ∈ GW := List.mem_filter.mpr ⟨List.mem_append_right _ (List.mem_of_getElem? h), hg⟩
theorem gw_sel {y : MethodName} {n : Nat} (i : Nat) (h : lw_privs[i]? = some (y, n)) (hg : goodWord (Cond.selects y.cls y y) = true) : Cond.selects y.cls y y ∈ GW := List.mem_filter.mpr ⟨List.mem_append_left _ (List.mem_map.mpr ⟨(y, n), List.mem_of_getElem? h, rfl⟩), hg⟩
theorem gw_good {w : Cond} (h : w ∈ GW) : goodWord w = true := (List.mem_filter.mp h).2
theorem gw_in {c d : Cond} (h : d ∈ GW) : GoodIn (c :: GW) (d :: GW) := fun w hw => by
  rcases List.mem_cons.mp hw with rfl | hw
  · exact ⟨List.mem_cons_of_mem _ h, good_of_word (gw_good h)⟩
  · exact ⟨List.mem_cons_of_mem _ hw, good_of_word (gw_good hw)⟩
def RF : String := "LiquidChecker$Function"
def TF : u_T := fun k => match k with
  | 0 => ("LiquidChecker$Function", "demands", "LLiquidChecker$Relations;", true)
  | 1 => ("LiquidChecker$Function", "promises", "LLiquidChecker$Relations;", true)
  | 2 => ("LiquidChecker$Function", "statements", "[LLiquidChecker$Statement;", true)
  | 3 => ("LiquidChecker$Function", "openPlaces", "[I", true)
  | 4 => ("LiquidChecker$Function", "size", "I", false)
  | 5 => ("LiquidChecker$Function", "openIfs", "I", false)
  | 6 => ("LiquidChecker$Function", "ifs", "I", false)
  | _ => ("LiquidChecker$Function", "given", "I", false)
def tyF : Nat → FieldType := fun k => match k with
  | 0 => .object "LiquidChecker$Relations"
  | 1 => .object "LiquidChecker$Relations"
  | 2 => .array (.object "LiquidChecker$Statement")
  | 3 => .array .int
  | 4 => .int
  | 5 => .int
  | 6 => .int
  | _ => .int
theorem nmF : ∀ a, a < 8 → ∀ b, b < 8 → a ≠ b → (TF a).2.1 ≠ (TF b).2.1 := by decide +kernel
theorem tyF_ok : ∀ k, k < 8 → parseFieldDescriptor (TF k).2.2.1 = some (tyF k) := by decide +kernel
def RK : String := "LiquidChecker$Known"
def TK : u_T := fun k => match k with
  | 0 => ("LiquidChecker$Known", "bounds", "[I", true)
  | _ => ("LiquidChecker$Known", "possible", "Z", false)
def tyK : Nat → FieldType := fun k => match k with
  | 0 => .array .int
  | _ => .boolean
theorem nmK : ∀ a, a < 2 → ∀ b, b < 2 → a ≠ b → (TK a).2.1 ≠ (TK b).2.1 := by decide +kernel
theorem tyK_ok : ∀ k, k < 2 → parseFieldDescriptor (TK k).2.2.1 = some (tyK k) := by decide +kernel
def RR : String := "LiquidChecker$Relations"
def TR : u_T := fun k => match k with
  | 0 => ("LiquidChecker$Relations", "a", "[I", true)
  | 1 => ("LiquidChecker$Relations", "b", "[I", true)
  | 2 => ("LiquidChecker$Relations", "k", "[I", true)
  | _ => ("LiquidChecker$Relations", "size", "I", false)
def tyR : Nat → FieldType := fun k => match k with
  | 0 => .array .int
  | 1 => .array .int
  | 2 => .array .int
  | _ => .int
theorem nmR : ∀ a, a < 4 → ∀ b, b < 4 → a ≠ b → (TR a).2.1 ≠ (TR b).2.1 := by decide +kernel
theorem tyR_ok : ∀ k, k < 4 → parseFieldDescriptor (TR k).2.2.1 = some (tyR k) := by decide +kernel
def RS : String := "LiquidChecker$Statement"
def TS : u_T := fun k => match k with
  | 0 => ("LiquidChecker$Statement", "kind", "I", false)
  | 1 => ("LiquidChecker$Statement", "a", "I", false)
  | 2 => ("LiquidChecker$Statement", "b", "I", false)
  | 3 => ("LiquidChecker$Statement", "c", "I", false)
  | 4 => ("LiquidChecker$Statement", "k", "I", false)
  | _ => ("LiquidChecker$Statement", "leadsTo", "I", false)
def tyS : Nat → FieldType := fun k => match k with
  | 0 => .int
  | 1 => .int
  | 2 => .int
  | 3 => .int
  | 4 => .int
  | _ => .int
theorem nmS : ∀ a, a < 6 → ∀ b, b < 6 → a ≠ b → (TS a).2.1 ≠ (TS b).2.1 := by decide +kernel
theorem tyS_ok : ∀ k, k < 6 → parseFieldDescriptor (TS k).2.2.1 = some (tyS k) := by decide +kernel
def RW : String := "LiquidChecker$Walk"
def TW : u_T := fun k => match k with
  | 0 => ("LiquidChecker$Walk", "known", "LLiquidChecker$Known;", true)
  | 1 => ("LiquidChecker$Walk", "waiting", "[LLiquidChecker$Known;", true)
  | 2 => ("LiquidChecker$Walk", "waitingPlaces", "[I", true)
  | 3 => ("LiquidChecker$Walk", "waitingSides", "I", false)
  | 4 => ("LiquidChecker$Walk", "askedPlace", "I", false)
  | 5 => ("LiquidChecker$Walk", "askedA", "I", false)
  | 6 => ("LiquidChecker$Walk", "askedB", "I", false)
  | 7 => ("LiquidChecker$Walk", "greatest", "I", false)
  | 8 => ("LiquidChecker$Walk", "placesCome", "I", false)
  | 9 => ("LiquidChecker$Walk", "leastUnshown", "I", false)
  | _ => ("LiquidChecker$Walk", "ended", "I", false)
def tyW : Nat → FieldType := fun k => match k with
  | 0 => .object "LiquidChecker$Known"
  | 1 => .array (.object "LiquidChecker$Known")
  | 2 => .array .int
  | 3 => .int
  | 4 => .int
  | 5 => .int
  | 6 => .int
  | 7 => .int
  | 8 => .int
  | 9 => .int
  | _ => .int
theorem nmW : ∀ a, a < 11 → ∀ b, b < 11 → a ≠ b → (TW a).2.1 ≠ (TW b).2.1 := by decide +kernel
theorem tyW_ok : ∀ k, k < 11 → parseFieldDescriptor (TW k).2.2.1 = some (tyW k) := by decide +kernel
def RC : String := "LiquidChecker"
def TC : u_T := fun k => match k with
  | 0 => ("LiquidChecker", "functions", "[LLiquidChecker$Function;", true)
  | 1 => ("LiquidChecker", "walk", "LLiquidChecker$Walk;", true)
  | _ => ("LiquidChecker", "known", "LLiquidChecker$Known;", true)
def tyC : Nat → FieldType := fun k => match k with
  | 0 => .array (.object "LiquidChecker$Function")
  | 1 => .object "LiquidChecker$Walk"
  | _ => .object "LiquidChecker$Known"
theorem nmC : ∀ a, a < 3 → ∀ b, b < 3 → a ≠ b → (TC a).2.1 ≠ (TC b).2.1 := by decide +kernel
theorem tyC_ok : ∀ k, k < 3 → parseFieldDescriptor (TC k).2.2.1 = some (tyC k) := by decide +kernel
def RM : String := "LiquidCheckerModel"
def TM : u_T := fun k => match k with
  | 0 => ("LiquidCheckerModel", "thrown", "I", false)
  | 1 => ("LiquidCheckerModel", "rA", "[I", true)
  | 2 => ("LiquidCheckerModel", "rB", "[I", true)
  | 3 => ("LiquidCheckerModel", "rK", "[I", true)
  | 4 => ("LiquidCheckerModel", "relations", "[I", true)
  | 5 => ("LiquidCheckerModel", "sKind", "[I", true)
  | 6 => ("LiquidCheckerModel", "sA", "[I", true)
  | 7 => ("LiquidCheckerModel", "sB", "[I", true)
  | 8 => ("LiquidCheckerModel", "sC", "[I", true)
  | 9 => ("LiquidCheckerModel", "sK", "[I", true)
  | 10 => ("LiquidCheckerModel", "size", "[I", true)
  | 11 => ("LiquidCheckerModel", "ifNumber", "[I", true)
  | 12 => ("LiquidCheckerModel", "elseAt", "[I", true)
  | 13 => ("LiquidCheckerModel", "endAt", "[I", true)
  | 14 => ("LiquidCheckerModel", "ifs", "[I", true)
  | 15 => ("LiquidCheckerModel", "open", "[I", true)
  | 16 => ("LiquidCheckerModel", "opened", "[I", true)
  | 17 => ("LiquidCheckerModel", "apart", "[J", true)
  | 18 => ("LiquidCheckerModel", "feasible", "Z", false)
  | 19 => ("LiquidCheckerModel", "met", "I", false)
  | 20 => ("LiquidCheckerModel", "function", "I", false)
  | 21 => ("LiquidCheckerModel", "least", "I", false)
  | 22 => ("LiquidCheckerModel", "ends", "I", false)
  | 23 => ("LiquidCheckerModel", "came", "[Z", true)
  | 24 => ("LiquidCheckerModel", "seekPlace", "I", false)
  | 25 => ("LiquidCheckerModel", "seekA", "I", false)
  | 26 => ("LiquidCheckerModel", "seekB", "I", false)
  | 27 => ("LiquidCheckerModel", "most", "J", false)
  | _ => ("LiquidCheckerModel", "seen", "Z", false)
def tyM : Nat → FieldType := fun k => match k with
  | 0 => .int
  | 1 => .array .int
  | 2 => .array .int
  | 3 => .array .int
  | 4 => .array .int
  | 5 => .array .int
  | 6 => .array .int
  | 7 => .array .int
  | 8 => .array .int
  | 9 => .array .int
  | 10 => .array .int
  | 11 => .array .int
  | 12 => .array .int
  | 13 => .array .int
  | 14 => .array .int
  | 15 => .array .int
  | 16 => .array .int
  | 17 => .array .long
  | 18 => .boolean
  | 19 => .int
  | 20 => .int
  | 21 => .int
  | 22 => .int
  | 23 => .array .boolean
  | 24 => .int
  | 25 => .int
  | 26 => .int
  | 27 => .long
  | _ => .boolean
theorem nmM : ∀ a, a < 29 → ∀ b, b < 29 → a ≠ b → (TM a).2.1 ≠ (TM b).2.1 := by decide +kernel
theorem tyM_ok : ∀ k, k < 29 → parseFieldDescriptor (TM k).2.2.1 = some (tyM k) := by decide +kernel
def RL : String := "LiquidCheckerLaw"
abbrev zCl : List vw_C := [(RF, TF, 8), (RK, TK, 2), (RR, TR, 4), (RS, TS, 6), (RW, TW, 11), (RC, TC, 3), (RM, TM, 29)]
