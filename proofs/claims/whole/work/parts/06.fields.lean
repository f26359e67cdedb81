/-! printed by a program of mine (wip/whole/mk06.py): the classes and their fields; which words of the tables they rest on -/
def pm_cn : List String := ["CardWorkshop$Game", "CardWorkshop$Machine", "CardWorkshop$Reader", "CardWorkshop$Solver", "CardWorkshop$Table", "CardWorkshop", "CardWorkshopModel"]
def pm_f0 : List (String × String × String × Bool) := [("CardWorkshop$Game", "operations", "[I", true), ("CardWorkshop$Game", "arguments", "[I", true), ("CardWorkshop$Game", "length", "I", false), ("CardWorkshop$Game", "cards", "I", false), ("CardWorkshop$Game", "ranks", "I", false), ("CardWorkshop$Game", "rules", "I", false), ("CardWorkshop$Game", "kinds", "[I", true), ("CardWorkshop$Game", "guards", "[I", true), ("CardWorkshop$Game", "effects", "[I", true), ("CardWorkshop$Game", "ending", "I", false)]
def pm_f1 : List (String × String × String × Bool) := [("CardWorkshop$Machine", "game", "LCardWorkshop$Game;", true), ("CardWorkshop$Machine", "stack", "[I", true), ("CardWorkshop$Machine", "height", "I", false)]
def pm_f2 : List (String × String × String × Bool) := [("CardWorkshop$Reader", "text", "[C", true), ("CardWorkshop$Reader", "length", "I", false), ("CardWorkshop$Reader", "draft", "LCardWorkshop$Game;", true), ("CardWorkshop$Reader", "position", "I", false), ("CardWorkshop$Reader", "choosing", "Z", false)]
def pm_f3 : List (String × String × String × Bool) := [("CardWorkshop$Solver", "tables", "[LCardWorkshop$Table;", true), ("CardWorkshop$Solver", "rows", "[[I", true), ("CardWorkshop$Solver", "left", "I", false), ("CardWorkshop$Solver", "firstBest", "I", false)]
def pm_f4 : List (String × String × String × Bool) := [("CardWorkshop$Table", "places", "[I", true), ("CardWorkshop$Table", "below", "[I", true), ("CardWorkshop$Table", "tops", "[I", true), ("CardWorkshop$Table", "sizes", "[I", true), ("CardWorkshop$Table", "counters", "[I", true), ("CardWorkshop$Table", "scores", "[I", true), ("CardWorkshop$Table", "turn", "I", false)]
def pm_f5 : List (String × String × String × Bool) := [("CardWorkshop", "reader", "LCardWorkshop$Reader;", true), ("CardWorkshop", "machine", "LCardWorkshop$Machine;", true), ("CardWorkshop", "solver", "LCardWorkshop$Solver;", true), ("CardWorkshop", "table", "LCardWorkshop$Table;", true), ("CardWorkshop", "history", "[LCardWorkshop$Table;", true), ("CardWorkshop", "made", "I", false), ("CardWorkshop", "dealt", "Z", false), ("CardWorkshop", "deck", "[I", true), ("CardWorkshop", "listed", "[I", true), ("CardWorkshop", "bestMove", "I", false)]
def pm_f6 : List (String × String × String × Bool) := [("CardWorkshopModel", "thrown", "I", false), ("CardWorkshopModel", "size", "I", false), ("CardWorkshopModel", "text", "[I", true), ("CardWorkshopModel", "at", "I", false), ("CardWorkshopModel", "wrong", "Z", false), ("CardWorkshopModel", "made", "I", false), ("CardWorkshopModel", "op", "[I", true), ("CardWorkshopModel", "argument", "[I", true), ("CardWorkshopModel", "waiting", "I", false), ("CardWorkshopModel", "wait", "[I", true), ("CardWorkshopModel", "newRules", "I", false), ("CardWorkshopModel", "newM", "[Z", true), ("CardWorkshopModel", "newAt", "[I", true), ("CardWorkshopModel", "newEnd", "I", false), ("CardWorkshopModel", "is", "Z", false), ("CardWorkshopModel", "suits", "I", false), ("CardWorkshopModel", "ranks", "I", false), ("CardWorkshopModel", "rules", "I", false), ("CardWorkshopModel", "isM", "[Z", true), ("CardWorkshopModel", "ruleAt", "[I", true), ("CardWorkshopModel", "endAt", "I", false), ("CardWorkshopModel", "length", "I", false), ("CardWorkshopModel", "code", "[I", true), ("CardWorkshopModel", "with", "[I", true), ("CardWorkshopModel", "dealt", "Z", false), ("CardWorkshopModel", "now", "[I", true), ("CardWorkshopModel", "acts", "I", false), ("CardWorkshopModel", "was", "[I", true), ("CardWorkshopModel", "stack", "[I", true), ("CardWorkshopModel", "passes", "Z", false), ("CardWorkshopModel", "many", "[I", true), ("CardWorkshopModel", "byRule", "[I", true), ("CardWorkshopModel", "byCard", "[I", true), ("CardWorkshopModel", "tried", "[I", true), ("CardWorkshopModel", "value", "[I", true), ("CardWorkshopModel", "first", "[I", true), ("CardWorkshopModel", "deep", "[I", true), ("CardWorkshopModel", "best", "I", false)]
def pm_fl (c : Nat) : List (String × String × String × Bool) := match c with
  | 0 => pm_f0
  | 1 => pm_f1
  | 2 => pm_f2
  | 3 => pm_f3
  | 4 => pm_f4
  | 5 => pm_f5
  | _ => pm_f6
def pm_t0 : List FieldType := [.array .int, .array .int, .int, .int, .int, .int, .array .int, .array .int, .array .int, .int]
def pm_t1 : List FieldType := [.object "CardWorkshop$Game", .array .int, .int]
def pm_t2 : List FieldType := [.array .char, .int, .object "CardWorkshop$Game", .int, .boolean]
def pm_t3 : List FieldType := [.array (.object "CardWorkshop$Table"), .array (.array .int), .int, .int]
def pm_t4 : List FieldType := [.array .int, .array .int, .array .int, .array .int, .array .int, .array .int, .int]
def pm_t5 : List FieldType := [.object "CardWorkshop$Reader", .object "CardWorkshop$Machine", .object "CardWorkshop$Solver", .object "CardWorkshop$Table", .array (.object "CardWorkshop$Table"), .int, .boolean, .array .int, .array .int, .int]
def pm_t6 : List FieldType := [.int, .int, .array .int, .int, .boolean, .int, .array .int, .array .int, .int, .array .int, .int, .array .boolean, .array .int, .int, .boolean, .int, .int, .int, .array .boolean, .array .int, .int, .int, .array .int, .array .int, .boolean, .array .int, .int, .array .int, .array .int, .boolean, .array .int, .array .int, .array .int, .array .int, .array .int, .array .int, .array .int, .int]
def pm_ftl (c : Nat) : List FieldType := match c with
  | 0 => pm_t0
  | 1 => pm_t1
  | 2 => pm_t2
  | 3 => pm_t3
  | 4 => pm_t4
  | 5 => pm_t5
  | _ => pm_t6
def pm_nf (c : Nat) : Nat := (pm_fl c).length
def pm_T (c : Nat) : u_T := fun k => (pm_fl c).getD k ("", "", "", false)
def pm_ft (c k : Nat) : FieldType := (pm_ftl c).getD k .int
def pm_cnm (c : Nat) : String := pm_cn.getD c ""
def pm_vw : List vw_C := (List.range 7).map fun c => (pm_cnm c, pm_T c, pm_nf c)
theorem pm_vw_at {c : Nat} (h : c < 7) : pm_vw[c]? = some (pm_cnm c, pm_T c, pm_nf c) := by
  simp [pm_vw, List.getElem?_range h]
/-- is the field a reference? -/
def pm_isr (c k : Nat) : Bool := match pm_ft c k with
  | .object _ => true
  | .array _ => true
  | _ => false
theorem pm_nm0 : ∀ c, c < 7 → ∀ a, a < pm_nf c → ∀ b, b < pm_nf c → a ≠ b → (pm_T c a).2.1 ≠ (pm_T c b).2.1 := by decide +kernel
theorem pm_ty0 : ∀ c, c < 7 → ∀ k, k < pm_nf c → parseFieldDescriptor (pm_T c k).2.2.1 = some (pm_ft c k) := by decide +kernel
theorem pm_dc0 : ∀ c, c < 7 → ∀ k, k < pm_nf c → (pm_T c k).1 = pm_cnm c := by decide +kernel
def pm_lw : List (List Nat) := [[76, 78, 80, 82, 84, 86, 88, 90, 92, 94], [129, 131, 133], [106, 108, 110, 112, 114], [185, 187, 189, 191], [165, 167, 169, 171, 173, 175, 177], [206, 208, 210, 212, 214, 216, 218, 220, 222, 224], [764, 766, 768, 770, 772, 774, 776, 778, 780, 782, 784, 786, 788, 790, 792, 794, 796, 798, 800, 802, 804, 806, 808, 810, 812, 814, 816, 818, 820, 822, 824, 826, 828, 830, 832, 834, 836, 838]]
theorem pm_lw_ok : ∀ c, c < 7 → ∀ k, k < pm_nf c → tables_1[(pm_lw.getD c []).getD k 0]? = some (u_lay (pm_cnm c) (pm_T c) k) := by decide +kernel
theorem lw_of {w : Cond} (i : Nat) (h : tables_1[i]? = some w) : w ∈ lw_tbl := List.mem_append_right _ (List.mem_of_getElem? h)
theorem pm_in0 {c : Nat} (hc : c < 7) : ∀ w ∈ u_ws (pm_cnm c) (pm_T c) (pm_nf c), w ∈ lw_tbl := by
  intro w hw
  obtain ⟨k, hk, rfl⟩ := List.mem_map.mp hw
  exact lw_of _ (pm_lw_ok c hc k (List.mem_range.mp hk))
