/-! NAMES, by program: the good words of the tables; classes and fields; the words by their places. -/
def GT : List Cond := lw_tbl.filter goodWord
theorem gt_of {w : Cond} (h : w ∈ lw_tbl) (hg : goodWord w = true) : w ∈ GT := List.mem_filter.mpr ⟨h, hg⟩
theorem gt_good : ∀ w ∈ GT, (w.onTables && w.keeps) = true ∨ ∃ ty, w = .arrayClass ty := fun _ h => good_of_word (List.mem_filter.mp h).2
theorem gt_tbl : ∀ w ∈ GT, w ∈ lw_tbl := fun _ h => (List.mem_filter.mp h).1
theorem gt_at {w : Cond} (i : Nat) (h : tables_1[i]? = some w) (hg : goodWord w = true) : w ∈ GT := gt_of (List.mem_append_right _ (List.mem_of_getElem? h)) hg
theorem gt_sel {w : Cond} (i : Nat) (h : (k2_sels lw_privs)[i]? = some w) (hg : goodWord w = true) : w ∈ GT := gt_of (List.mem_append_left _ (List.mem_of_getElem? h)) hg
abbrev R_C : String := "CacheRules"
def T_C : u_T := fun k => match k with
  | 0 => ("CacheRules", "ways", "LCacheRules$Ways;", true)
  | 1 => ("CacheRules", "rows", "LCacheRules$CatchingRows;", true)
  | 2 => ("CacheRules", "rule", "LCacheRules$Rule;", true)
  | 3 => ("CacheRules", "asks", "LCacheRules$Asks;", true)
  | 4 => ("CacheRules", "history", "LCacheRules$History;", true)
  | 5 => ("CacheRules", "kinds", "[I", true)
  | 6 => ("CacheRules", "through", "Z", false)
  | 7 => ("CacheRules", "places", "Z", false)
  | 8 => ("CacheRules", "accesses", "I", false)
  | 9 => ("CacheRules", "fetched", "I", false)
  | 10 => ("CacheRules", "writes", "I", false)
  | _ => ("CacheRules", "wentOut", "I", false)
def ty_C : Nat → FieldType := fun k => match k with
  | 0 => .object "CacheRules$Ways"
  | 1 => .object "CacheRules$CatchingRows"
  | 2 => .object "CacheRules$Rule"
  | 3 => .object "CacheRules$Asks"
  | 4 => .object "CacheRules$History"
  | 5 => .array .int
  | 6 => .boolean
  | 7 => .boolean
  | 8 => .int
  | 9 => .int
  | 10 => .int
  | _ => .int
theorem nm_C : ∀ a, a < 12 → ∀ b, b < 12 → a ≠ b → (T_C a).2.1 ≠ (T_C b).2.1 := by decide +kernel
theorem tk_C : ∀ k, k < 12 → parseFieldDescriptor (T_C k).2.2.1 = some (ty_C k) := by decide +kernel
theorem in_C : ∀ w ∈ u_ws R_C T_C 12, w ∈ GT := by decide +kernel
abbrev R_Ways : String := "CacheRules$Ways"
def T_Ways : u_T := fun k => match k with
  | 0 => ("CacheRules$Ways", "sets", "I", true)
  | 1 => ("CacheRules$Ways", "width", "I", true)
  | 2 => ("CacheRules$Ways", "slots", "I", true)
  | 3 => ("CacheRules$Ways", "line", "[I", true)
  | 4 => ("CacheRules$Ways", "has", "[Z", true)
  | 5 => ("CacheRules$Ways", "there", "[I", true)
  | 6 => ("CacheRules$Ways", "changed", "[I", true)
  | _ => ("CacheRules$Ways", "locked", "[Z", true)
def ty_Ways : Nat → FieldType := fun k => match k with
  | 0 => .int
  | 1 => .int
  | 2 => .int
  | 3 => .array .int
  | 4 => .array .boolean
  | 5 => .array .int
  | 6 => .array .int
  | _ => .array .boolean
theorem nm_Ways : ∀ a, a < 8 → ∀ b, b < 8 → a ≠ b → (T_Ways a).2.1 ≠ (T_Ways b).2.1 := by decide +kernel
theorem tk_Ways : ∀ k, k < 8 → parseFieldDescriptor (T_Ways k).2.2.1 = some (ty_Ways k) := by decide +kernel
theorem in_Ways : ∀ w ∈ u_ws R_Ways T_Ways 8, w ∈ GT := by decide +kernel
abbrev R_Rows : String := "CacheRules$CatchingRows"
def T_Rows : u_T := fun k => match k with
  | 0 => ("CacheRules$CatchingRows", "room", "I", true)
  | 1 => ("CacheRules$CatchingRows", "line", "[I", true)
  | 2 => ("CacheRules$CatchingRows", "there", "[I", true)
  | 3 => ("CacheRules$CatchingRows", "changed", "[I", true)
  | _ => ("CacheRules$CatchingRows", "size", "I", false)
def ty_Rows : Nat → FieldType := fun k => match k with
  | 0 => .int
  | 1 => .array .int
  | 2 => .array .int
  | 3 => .array .int
  | _ => .int
theorem nm_Rows : ∀ a, a < 5 → ∀ b, b < 5 → a ≠ b → (T_Rows a).2.1 ≠ (T_Rows b).2.1 := by decide +kernel
theorem tk_Rows : ∀ k, k < 5 → parseFieldDescriptor (T_Rows k).2.2.1 = some (ty_Rows k) := by decide +kernel
theorem in_Rows : ∀ w ∈ u_ws R_Rows T_Rows 5, w ∈ GT := by decide +kernel
abbrev R_Asks : String := "CacheRules$Asks"
def T_Asks : u_T := fun k => match k with
  | 0 => ("CacheRules$Asks", "lineOf", "[I", true)
  | 1 => ("CacheRules$Asks", "partOf", "[I", true)
  | 2 => ("CacheRules$Asks", "waiting", "[I", true)
  | 3 => ("CacheRules$Asks", "donePart", "[I", true)
  | 4 => ("CacheRules$Asks", "doneKind", "[I", true)
  | 5 => ("CacheRules$Asks", "size", "I", false)
  | 6 => ("CacheRules$Asks", "lineCount", "I", false)
  | _ => ("CacheRules$Asks", "doneCount", "I", false)
def ty_Asks : Nat → FieldType := fun k => match k with
  | 0 => .array .int
  | 1 => .array .int
  | 2 => .array .int
  | 3 => .array .int
  | 4 => .array .int
  | 5 => .int
  | 6 => .int
  | _ => .int
theorem nm_Asks : ∀ a, a < 8 → ∀ b, b < 8 → a ≠ b → (T_Asks a).2.1 ≠ (T_Asks b).2.1 := by decide +kernel
theorem tk_Asks : ∀ k, k < 8 → parseFieldDescriptor (T_Asks k).2.2.1 = some (ty_Asks k) := by decide +kernel
theorem in_Asks : ∀ w ∈ u_ws R_Asks T_Asks 8, w ∈ GT := by decide +kernel
abbrev R_Hist : String := "CacheRules$History"
def T_Hist : u_T := fun k => match k with
  | 0 => ("CacheRules$History", "latest", "[I", true)
  | 1 => ("CacheRules$History", "seen", "[I", true)
  | 2 => ("CacheRules$History", "size", "I", false)
  | _ => ("CacheRules$History", "seenNone", "I", false)
def ty_Hist : Nat → FieldType := fun k => match k with
  | 0 => .array .int
  | 1 => .array .int
  | 2 => .int
  | _ => .int
theorem nm_Hist : ∀ a, a < 4 → ∀ b, b < 4 → a ≠ b → (T_Hist a).2.1 ≠ (T_Hist b).2.1 := by decide +kernel
theorem tk_Hist : ∀ k, k < 4 → parseFieldDescriptor (T_Hist k).2.2.1 = some (ty_Hist k) := by decide +kernel
theorem in_Hist : ∀ w ∈ u_ws R_Hist T_Hist 4, w ∈ GT := by decide +kernel
abbrev R_Time : String := "CacheRules$TimeRule"
def T_Time : u_T := fun k => match k with
  | 0 => ("CacheRules$Rule", "width", "I", true)
  | 1 => ("CacheRules$TimeRule", "number", "I", true)
  | 2 => ("CacheRules$TimeRule", "last", "[I", true)
  | 3 => ("CacheRules$TimeRule", "came", "[I", true)
  | 4 => ("CacheRules$TimeRule", "uses", "[I", true)
  | 5 => ("CacheRules$TimeRule", "now", "I", false)
  | _ => ("CacheRules$TimeRule", "beforeAll", "I", false)
def ty_Time : Nat → FieldType := fun k => match k with
  | 0 => .int
  | 1 => .int
  | 2 => .array .int
  | 3 => .array .int
  | 4 => .array .int
  | 5 => .int
  | _ => .int
theorem nm_Time : ∀ a, a < 7 → ∀ b, b < 7 → a ≠ b → (T_Time a).2.1 ≠ (T_Time b).2.1 := by decide +kernel
theorem tk_Time : ∀ k, k < 7 → parseFieldDescriptor (T_Time k).2.2.1 = some (ty_Time k) := by decide +kernel
theorem in_Time : ∀ w ∈ u_ws R_Time T_Time 7, w ∈ GT := by decide +kernel
abbrev R_Chance : String := "CacheRules$ChanceRule"
def T_Chance : u_T := fun k => match k with
  | 0 => ("CacheRules$Rule", "width", "I", true)
  | _ => ("CacheRules$ChanceRule", "x", "I", false)
def ty_Chance : Nat → FieldType := fun k => match k with
  | 0 => .int
  | _ => .int
theorem nm_Chance : ∀ a, a < 2 → ∀ b, b < 2 → a ≠ b → (T_Chance a).2.1 ≠ (T_Chance b).2.1 := by decide +kernel
theorem tk_Chance : ∀ k, k < 2 → parseFieldDescriptor (T_Chance k).2.2.1 = some (ty_Chance k) := by decide +kernel
theorem in_Chance : ∀ w ∈ u_ws R_Chance T_Chance 2, w ∈ GT := by decide +kernel
abbrev R_Round : String := "CacheRules$RoundRule"
def T_Round : u_T := fun k => match k with
  | 0 => ("CacheRules$Rule", "width", "I", true)
  | 1 => ("CacheRules$RoundRule", "mark", "[Z", true)
  | _ => ("CacheRules$RoundRule", "hand", "[I", true)
def ty_Round : Nat → FieldType := fun k => match k with
  | 0 => .int
  | 1 => .array .boolean
  | _ => .array .int
theorem nm_Round : ∀ a, a < 3 → ∀ b, b < 3 → a ≠ b → (T_Round a).2.1 ≠ (T_Round b).2.1 := by decide +kernel
theorem tk_Round : ∀ k, k < 3 → parseFieldDescriptor (T_Round k).2.2.1 = some (ty_Round k) := by decide +kernel
theorem in_Round : ∀ w ∈ u_ws R_Round T_Round 3, w ∈ GT := by decide +kernel
abbrev R_Tree : String := "CacheRules$TreeRule"
def T_Tree : u_T := fun k => match k with
  | 0 => ("CacheRules$Rule", "width", "I", true)
  | 1 => ("CacheRules$TreeRule", "leaves", "I", true)
  | _ => ("CacheRules$TreeRule", "tree", "[I", true)
def ty_Tree : Nat → FieldType := fun k => match k with
  | 0 => .int
  | 1 => .int
  | _ => .array .int
theorem nm_Tree : ∀ a, a < 3 → ∀ b, b < 3 → a ≠ b → (T_Tree a).2.1 ≠ (T_Tree b).2.1 := by decide +kernel
theorem tk_Tree : ∀ k, k < 3 → parseFieldDescriptor (T_Tree k).2.2.1 = some (ty_Tree k) := by decide +kernel
theorem in_Tree : ∀ w ∈ u_ws R_Tree T_Tree 3, w ∈ GT := by decide +kernel
abbrev R_Lately : String := "CacheRules$LatelyRule"
def T_Lately : u_T := fun k => match k with
  | 0 => ("CacheRules$Rule", "width", "I", true)
  | _ => ("CacheRules$LatelyRule", "mark", "[Z", true)
def ty_Lately : Nat → FieldType := fun k => match k with
  | 0 => .int
  | _ => .array .boolean
theorem nm_Lately : ∀ a, a < 2 → ∀ b, b < 2 → a ≠ b → (T_Lately a).2.1 ≠ (T_Lately b).2.1 := by decide +kernel
theorem tk_Lately : ∀ k, k < 2 → parseFieldDescriptor (T_Lately k).2.2.1 = some (ty_Lately k) := by decide +kernel
theorem in_Lately : ∀ w ∈ u_ws R_Lately T_Lately 2, w ∈ GT := by decide +kernel
abbrev R_Age : String := "CacheRules$AgeRule"
def T_Age : u_T := fun k => match k with
  | 0 => ("CacheRules$Rule", "width", "I", true)
  | _ => ("CacheRules$AgeRule", "age", "[I", true)
def ty_Age : Nat → FieldType := fun k => match k with
  | 0 => .int
  | _ => .array .int
theorem nm_Age : ∀ a, a < 2 → ∀ b, b < 2 → a ≠ b → (T_Age a).2.1 ≠ (T_Age b).2.1 := by decide +kernel
theorem tk_Age : ∀ k, k < 2 → parseFieldDescriptor (T_Age k).2.2.1 = some (ty_Age k) := by decide +kernel
theorem in_Age : ∀ w ∈ u_ws R_Age T_Age 2, w ∈ GT := by decide +kernel
abbrev R_M : String := "CacheRulesModel"
def T_M : u_T := fun k => match k with
  | 0 => ("CacheRulesModel", "thrown", "I", false)
  | 1 => ("CacheRulesModel", "sets", "I", true)
  | 2 => ("CacheRulesModel", "ways", "I", true)
  | 3 => ("CacheRulesModel", "rule", "I", true)
  | 4 => ("CacheRulesModel", "room", "I", true)
  | 5 => ("CacheRulesModel", "through", "Z", false)
  | 6 => ("CacheRulesModel", "places", "Z", false)
  | 7 => ("CacheRulesModel", "has", "[Z", true)
  | 8 => ("CacheRulesModel", "line", "[I", true)
  | 9 => ("CacheRulesModel", "parts", "[I", true)
  | 10 => ("CacheRulesModel", "changed", "[I", true)
  | 11 => ("CacheRulesModel", "locked", "[Z", true)
  | 12 => ("CacheRulesModel", "time", "I", false)
  | 13 => ("CacheRulesModel", "last", "[I", true)
  | 14 => ("CacheRulesModel", "came", "[I", true)
  | 15 => ("CacheRulesModel", "uses", "[I", true)
  | 16 => ("CacheRulesModel", "mark", "[Z", true)
  | 17 => ("CacheRulesModel", "age", "[I", true)
  | 18 => ("CacheRulesModel", "hand", "[I", true)
  | 19 => ("CacheRulesModel", "tree", "[Z", true)
  | 20 => ("CacheRulesModel", "chance", "I", false)
  | 21 => ("CacheRulesModel", "caught", "I", false)
  | 22 => ("CacheRulesModel", "rowLine", "[I", true)
  | 23 => ("CacheRulesModel", "rowParts", "[I", true)
  | 24 => ("CacheRulesModel", "rowChanged", "[I", true)
  | 25 => ("CacheRulesModel", "asks", "I", false)
  | 26 => ("CacheRulesModel", "askLine", "[I", true)
  | 27 => ("CacheRulesModel", "askPart", "[I", true)
  | 28 => ("CacheRulesModel", "answered", "I", false)
  | 29 => ("CacheRulesModel", "answerPart", "[I", true)
  | 30 => ("CacheRulesModel", "answerHow", "[I", true)
  | 31 => ("CacheRulesModel", "near", "I", false)
  | 32 => ("CacheRulesModel", "nearLine", "[I", true)
  | 33 => ("CacheRulesModel", "far", "[I", true)
  | 34 => ("CacheRulesModel", "counts", "[I", true)
  | _ => ("CacheRulesModel", "mark2", "[Z", true)
def ty_M : Nat → FieldType := fun k => match k with
  | 0 => .int
  | 1 => .int
  | 2 => .int
  | 3 => .int
  | 4 => .int
  | 5 => .boolean
  | 6 => .boolean
  | 7 => .array .boolean
  | 8 => .array .int
  | 9 => .array .int
  | 10 => .array .int
  | 11 => .array .boolean
  | 12 => .int
  | 13 => .array .int
  | 14 => .array .int
  | 15 => .array .int
  | 16 => .array .boolean
  | 17 => .array .int
  | 18 => .array .int
  | 19 => .array .boolean
  | 20 => .int
  | 21 => .int
  | 22 => .array .int
  | 23 => .array .int
  | 24 => .array .int
  | 25 => .int
  | 26 => .array .int
  | 27 => .array .int
  | 28 => .int
  | 29 => .array .int
  | 30 => .array .int
  | 31 => .int
  | 32 => .array .int
  | 33 => .array .int
  | 34 => .array .int
  | _ => .array .boolean
theorem nm_M : ∀ a, a < 36 → ∀ b, b < 36 → a ≠ b → (T_M a).2.1 ≠ (T_M b).2.1 := by decide +kernel
theorem tk_M : ∀ k, k < 36 → parseFieldDescriptor (T_M k).2.2.1 = some (ty_M k) := by decide +kernel
theorem in_M : ∀ w ∈ u_ws R_M T_M 36, w ∈ GT := by decide +kernel
abbrev R_Rule : String := "CacheRules$Rule"
abbrev KL : List vw_C := [(R_C, T_C, 12), (R_Ways, T_Ways, 8), (R_Rows, T_Rows, 5), (R_Asks, T_Asks, 8), (R_Hist, T_Hist, 4), (R_Time, T_Time, 7), (R_Chance, T_Chance, 2), (R_Round, T_Round, 3), (R_Tree, T_Tree, 3), (R_Lately, T_Lately, 2), (R_Age, T_Age, 2), (R_M, T_M, 36)]
theorem g0 : (Jvm.Cond.initialized "CacheRulesLaw") ∈ GT := gt_at 0 (by decide +kernel) (by decide +kernel)
theorem g1 : (Jvm.Cond.initialized "CacheRules") ∈ GT := gt_at 1 (by decide +kernel) (by decide +kernel)
theorem g2 : (Jvm.Cond.initialized "java/lang/Math") ∈ GT := gt_at 2 (by decide +kernel) (by decide +kernel)
theorem g3 : (Jvm.Cond.initialized "CacheRules$Ways") ∈ GT := gt_at 3 (by decide +kernel) (by decide +kernel)
theorem g4 : (Jvm.Cond.initialized "CacheRules$CatchingRows") ∈ GT := gt_at 4 (by decide +kernel) (by decide +kernel)
theorem g5 : (Jvm.Cond.initialized "CacheRules$Rule") ∈ GT := gt_at 5 (by decide +kernel) (by decide +kernel)
theorem g6 : (Jvm.Cond.initialized "CacheRules$ChanceRule") ∈ GT := gt_at 6 (by decide +kernel) (by decide +kernel)
theorem g7 : (Jvm.Cond.initialized "CacheRules$RoundRule") ∈ GT := gt_at 7 (by decide +kernel) (by decide +kernel)
theorem g8 : (Jvm.Cond.initialized "CacheRules$TreeRule") ∈ GT := gt_at 8 (by decide +kernel) (by decide +kernel)
theorem g9 : (Jvm.Cond.initialized "CacheRules$LatelyRule") ∈ GT := gt_at 9 (by decide +kernel) (by decide +kernel)
theorem g10 : (Jvm.Cond.initialized "CacheRules$AgeRule") ∈ GT := gt_at 10 (by decide +kernel) (by decide +kernel)
theorem g11 : (Jvm.Cond.initialized "CacheRules$TimeRule") ∈ GT := gt_at 11 (by decide +kernel) (by decide +kernel)
theorem g12 : (Jvm.Cond.initialized "CacheRules$Asks") ∈ GT := gt_at 12 (by decide +kernel) (by decide +kernel)
theorem g13 : (Jvm.Cond.initialized "CacheRules$History") ∈ GT := gt_at 13 (by decide +kernel) (by decide +kernel)
theorem g14 : (Jvm.Cond.initialized "CacheRulesModel") ∈ GT := gt_at 14 (by decide +kernel) (by decide +kernel)
theorem g15 : (Jvm.Cond.initialized "java/lang/Throwable") ∈ GT := gt_at 15 (by decide +kernel) (by decide +kernel)
theorem g16 : (Jvm.Cond.initialized "java/lang/Exception") ∈ GT := gt_at 16 (by decide +kernel) (by decide +kernel)
theorem g17 : (Jvm.Cond.initialized "java/lang/RuntimeException") ∈ GT := gt_at 17 (by decide +kernel) (by decide +kernel)
theorem g18 : (Jvm.Cond.initialized "java/lang/IndexOutOfBoundsException") ∈ GT := gt_at 18 (by decide +kernel) (by decide +kernel)
theorem g19 : (Jvm.Cond.initialized "java/lang/Integer") ∈ GT := gt_at 19 (by decide +kernel) (by decide +kernel)
theorem g20 : (Jvm.Cond.initialized "java/lang/UnsupportedOperationException") ∈ GT := gt_at 20 (by decide +kernel) (by decide +kernel)
theorem g21 : (Jvm.Cond.initialized "java/util/NoSuchElementException") ∈ GT := gt_at 21 (by decide +kernel) (by decide +kernel)
theorem g22 : (Jvm.Cond.initialized "java/lang/IllegalArgumentException") ∈ GT := gt_at 22 (by decide +kernel) (by decide +kernel)
theorem g23 : (Jvm.Cond.classLink "CacheRulesLaw" (8 : Nat) "CacheRules") ∈ GT := gt_at 23 (by decide +kernel) (by decide +kernel)
theorem g24 : (Jvm.Cond.instantiable "CacheRules" (12 : Nat)) ∈ GT := gt_at 24 (by decide +kernel) (by decide +kernel)
theorem g25 : (Jvm.Cond.methodLink "CacheRulesLaw" (52 : Nat) ({ cls := "CacheRules", name := "<init>", desc := "(IIII)V" } : Jvm.MethodName)) ∈ GT := gt_at 25 (by decide +kernel) (by decide +kernel)
theorem g26 : (Jvm.Cond.instanceMethod ({ cls := "CacheRules", name := "<init>", desc := "(IIII)V" } : Jvm.MethodName)) ∈ GT := gt_at 26 (by decide +kernel) (by decide +kernel)
theorem g27 : (Jvm.Cond.code ({ cls := "CacheRules", name := "<init>", desc := "(IIII)V" } : Jvm.MethodName) prog_1_method_1_code (7 : Nat) (Option.none : Option Jvm.ClassFile.FieldType)) ∈ GT := gt_at 27 (by decide +kernel) (by decide +kernel)
theorem g28 : (Jvm.Cond.methodLink "CacheRules" (1 : Nat) ({ cls := "java/lang/Object", name := "<init>", desc := "()V" } : Jvm.MethodName)) ∈ GT := gt_at 28 (by decide +kernel) (by decide +kernel)
theorem g29 : (Jvm.Cond.instanceMethod ({ cls := "java/lang/Object", name := "<init>", desc := "()V" } : Jvm.MethodName)) ∈ GT := gt_at 29 (by decide +kernel) (by decide +kernel)
theorem g30 : (Jvm.Cond.code ({ cls := "java/lang/Object", name := "<init>", desc := "()V" } : Jvm.MethodName) object_method_1_code (1 : Nat) (Option.none : Option Jvm.ClassFile.FieldType)) ∈ GT := gt_at 30 (by decide +kernel) (by decide +kernel)
theorem g31 : (Jvm.Cond.methodLink "CacheRules" (7 : Nat) ({ cls := "java/lang/Math", name := "floorMod", desc := "(II)I" } : Jvm.MethodName)) ∈ GT := gt_at 31 (by decide +kernel) (by decide +kernel)
theorem g32 : (Jvm.Cond.static ({ cls := "java/lang/Math", name := "floorMod", desc := "(II)I" } : Jvm.MethodName)) ∈ GT := gt_at 32 (by decide +kernel) (by decide +kernel)
theorem g33 : (Jvm.Cond.code ({ cls := "java/lang/Math", name := "floorMod", desc := "(II)I" } : Jvm.MethodName) prog_19_method_50_code (3 : Nat) (Option.some Jvm.ClassFile.FieldType.int)) ∈ GT := gt_at 33 (by decide +kernel) (by decide +kernel)
theorem g34 : (Jvm.Cond.classLink "CacheRules" (13 : Nat) "CacheRules$Ways") ∈ GT := gt_at 34 (by decide +kernel) (by decide +kernel)
theorem g35 : (Jvm.Cond.instantiable "CacheRules$Ways" (8 : Nat)) ∈ GT := gt_at 35 (by decide +kernel) (by decide +kernel)
theorem g36 : (Jvm.Cond.methodLink "CacheRules" (15 : Nat) ({ cls := "CacheRules$Ways", name := "<init>", desc := "(II)V" } : Jvm.MethodName)) ∈ GT := gt_at 36 (by decide +kernel) (by decide +kernel)
theorem g37 : (Jvm.Cond.instanceMethod ({ cls := "CacheRules$Ways", name := "<init>", desc := "(II)V" } : Jvm.MethodName)) ∈ GT := gt_at 37 (by decide +kernel) (by decide +kernel)
theorem g38 : (Jvm.Cond.code ({ cls := "CacheRules$Ways", name := "<init>", desc := "(II)V" } : Jvm.MethodName) prog_12_method_1_code (3 : Nat) (Option.none : Option Jvm.ClassFile.FieldType)) ∈ GT := gt_at 38 (by decide +kernel) (by decide +kernel)
theorem g39 : (Jvm.Cond.methodLink "CacheRules$Ways" (3 : Nat) ({ cls := "java/lang/Object", name := "<init>", desc := "()V" } : Jvm.MethodName)) ∈ GT := gt_at 39 (by decide +kernel) (by decide +kernel)
theorem g40 : (Jvm.Cond.fieldLink "CacheRules$Ways" (9 : Nat) "CacheRules$Ways" "sets" "I") ∈ GT := gt_at 40 (by decide +kernel) (by decide +kernel)
theorem g41 : (Jvm.Cond.fieldLink "CacheRules" (179 : Nat) "CacheRules$Ways" "sets" "I") ∈ GT := gt_at 41 (by decide +kernel) (by decide +kernel)
theorem g42 : (Jvm.Cond.fieldLink "CacheRules$Ways" (15 : Nat) "CacheRules$Ways" "width" "I") ∈ GT := gt_at 42 (by decide +kernel) (by decide +kernel)
theorem g43 : (Jvm.Cond.fieldLink "CacheRules" (182 : Nat) "CacheRules$Ways" "width" "I") ∈ GT := gt_at 43 (by decide +kernel) (by decide +kernel)
theorem g44 : (Jvm.Cond.fieldLink "CacheRules$Ways" (18 : Nat) "CacheRules$Ways" "slots" "I") ∈ GT := gt_at 44 (by decide +kernel) (by decide +kernel)
theorem g45 : (Jvm.Cond.fieldLink "CacheRules" (158 : Nat) "CacheRules$Ways" "slots" "I") ∈ GT := gt_at 45 (by decide +kernel) (by decide +kernel)
theorem g46 : (Jvm.Cond.fieldLink "CacheRules$Ways" (21 : Nat) "CacheRules$Ways" "line" "[I") ∈ GT := gt_at 46 (by decide +kernel) (by decide +kernel)
theorem g47 : (Jvm.Cond.fieldLink "CacheRules" (187 : Nat) "CacheRules$Ways" "line" "[I") ∈ GT := gt_at 47 (by decide +kernel) (by decide +kernel)
theorem g48 : (Jvm.Cond.fieldLink "CacheRules$Ways" (25 : Nat) "CacheRules$Ways" "has" "[Z") ∈ GT := gt_at 48 (by decide +kernel) (by decide +kernel)
theorem g49 : (Jvm.Cond.fieldLink "CacheRules" (190 : Nat) "CacheRules$Ways" "has" "[Z") ∈ GT := gt_at 49 (by decide +kernel) (by decide +kernel)
theorem g50 : (Jvm.Cond.fieldLink "CacheRules$Ways" (29 : Nat) "CacheRules$Ways" "there" "[I") ∈ GT := gt_at 50 (by decide +kernel) (by decide +kernel)
theorem g51 : (Jvm.Cond.fieldLink "CacheRules" (105 : Nat) "CacheRules$Ways" "there" "[I") ∈ GT := gt_at 51 (by decide +kernel) (by decide +kernel)
theorem g52 : (Jvm.Cond.fieldLink "CacheRules$Ways" (32 : Nat) "CacheRules$Ways" "changed" "[I") ∈ GT := gt_at 52 (by decide +kernel) (by decide +kernel)
theorem g53 : (Jvm.Cond.fieldLink "CacheRules" (164 : Nat) "CacheRules$Ways" "changed" "[I") ∈ GT := gt_at 53 (by decide +kernel) (by decide +kernel)
theorem g54 : (Jvm.Cond.fieldLink "CacheRules$Ways" (35 : Nat) "CacheRules$Ways" "locked" "[Z") ∈ GT := gt_at 54 (by decide +kernel) (by decide +kernel)
theorem g55 : (Jvm.Cond.fieldLink "CacheRules" (144 : Nat) "CacheRules$Ways" "locked" "[Z") ∈ GT := gt_at 55 (by decide +kernel) (by decide +kernel)
theorem g73 : (Jvm.Cond.arrayClass Jvm.ClassFile.FieldType.int) ∈ GT := gt_at 73 (by decide +kernel) (by decide +kernel)
theorem g74 : (Jvm.Cond.arrayClass Jvm.ClassFile.FieldType.boolean) ∈ GT := gt_at 74 (by decide +kernel) (by decide +kernel)
theorem g75 : (Jvm.Cond.classLink "CacheRules" (24 : Nat) "CacheRules$CatchingRows") ∈ GT := gt_at 75 (by decide +kernel) (by decide +kernel)
theorem g76 : (Jvm.Cond.instantiable "CacheRules$CatchingRows" (5 : Nat)) ∈ GT := gt_at 76 (by decide +kernel) (by decide +kernel)
theorem g77 : (Jvm.Cond.methodLink "CacheRules" (26 : Nat) ({ cls := "CacheRules$CatchingRows", name := "<init>", desc := "(I)V" } : Jvm.MethodName)) ∈ GT := gt_at 77 (by decide +kernel) (by decide +kernel)
theorem g78 : (Jvm.Cond.instanceMethod ({ cls := "CacheRules$CatchingRows", name := "<init>", desc := "(I)V" } : Jvm.MethodName)) ∈ GT := gt_at 78 (by decide +kernel) (by decide +kernel)
theorem g79 : (Jvm.Cond.code ({ cls := "CacheRules$CatchingRows", name := "<init>", desc := "(I)V" } : Jvm.MethodName) prog_4_method_1_code (2 : Nat) (Option.none : Option Jvm.ClassFile.FieldType)) ∈ GT := gt_at 79 (by decide +kernel) (by decide +kernel)
theorem g80 : (Jvm.Cond.methodLink "CacheRules$CatchingRows" (3 : Nat) ({ cls := "java/lang/Object", name := "<init>", desc := "()V" } : Jvm.MethodName)) ∈ GT := gt_at 80 (by decide +kernel) (by decide +kernel)
theorem g81 : (Jvm.Cond.fieldLink "CacheRules$CatchingRows" (9 : Nat) "CacheRules$CatchingRows" "room" "I") ∈ GT := gt_at 81 (by decide +kernel) (by decide +kernel)
theorem g82 : (Jvm.Cond.fieldLink "CacheRules" (271 : Nat) "CacheRules$CatchingRows" "room" "I") ∈ GT := gt_at 82 (by decide +kernel) (by decide +kernel)
theorem g83 : (Jvm.Cond.fieldLink "CacheRules$CatchingRows" (15 : Nat) "CacheRules$CatchingRows" "line" "[I") ∈ GT := gt_at 83 (by decide +kernel) (by decide +kernel)
theorem g84 : (Jvm.Cond.fieldLink "CacheRules" (197 : Nat) "CacheRules$CatchingRows" "line" "[I") ∈ GT := gt_at 84 (by decide +kernel) (by decide +kernel)
theorem g85 : (Jvm.Cond.fieldLink "CacheRules$CatchingRows" (19 : Nat) "CacheRules$CatchingRows" "there" "[I") ∈ GT := gt_at 85 (by decide +kernel) (by decide +kernel)
theorem g86 : (Jvm.Cond.fieldLink "CacheRules" (198 : Nat) "CacheRules$CatchingRows" "there" "[I") ∈ GT := gt_at 86 (by decide +kernel) (by decide +kernel)
theorem g87 : (Jvm.Cond.fieldLink "CacheRules$CatchingRows" (22 : Nat) "CacheRules$CatchingRows" "changed" "[I") ∈ GT := gt_at 87 (by decide +kernel) (by decide +kernel)
theorem g88 : (Jvm.Cond.fieldLink "CacheRules" (175 : Nat) "CacheRules$CatchingRows" "changed" "[I") ∈ GT := gt_at 88 (by decide +kernel) (by decide +kernel)
theorem g89 : (Jvm.Cond.fieldLink "CacheRules$CatchingRows" (25 : Nat) "CacheRules$CatchingRows" "size" "I") ∈ GT := gt_at 89 (by decide +kernel) (by decide +kernel)
theorem g90 : (Jvm.Cond.fieldLink "CacheRules" (161 : Nat) "CacheRules$CatchingRows" "size" "I") ∈ GT := gt_at 90 (by decide +kernel) (by decide +kernel)
theorem g102 : (Jvm.Cond.methodLink "CacheRules" (33 : Nat) ({ cls := "CacheRules", name := "ruleOf", desc := "(III)LCacheRules$Rule;" } : Jvm.MethodName)) ∈ GT := gt_at 102 (by decide +kernel) (by decide +kernel)
theorem g103 : (Jvm.Cond.static ({ cls := "CacheRules", name := "ruleOf", desc := "(III)LCacheRules$Rule;" } : Jvm.MethodName)) ∈ GT := gt_at 103 (by decide +kernel) (by decide +kernel)
theorem g104 : (Jvm.Cond.code ({ cls := "CacheRules", name := "ruleOf", desc := "(III)LCacheRules$Rule;" } : Jvm.MethodName) prog_1_method_2_code (3 : Nat) (Option.some (Jvm.ClassFile.FieldType.object "CacheRules$Rule"))) ∈ GT := gt_at 104 (by decide +kernel) (by decide +kernel)
theorem g105 : (Jvm.Cond.classLink "CacheRules" (66 : Nat) "CacheRules$ChanceRule") ∈ GT := gt_at 105 (by decide +kernel) (by decide +kernel)
theorem g106 : (Jvm.Cond.instantiable "CacheRules$ChanceRule" (2 : Nat)) ∈ GT := gt_at 106 (by decide +kernel) (by decide +kernel)
theorem g107 : (Jvm.Cond.methodLink "CacheRules" (68 : Nat) ({ cls := "CacheRules$ChanceRule", name := "<init>", desc := "(I)V" } : Jvm.MethodName)) ∈ GT := gt_at 107 (by decide +kernel) (by decide +kernel)
theorem g108 : (Jvm.Cond.instanceMethod ({ cls := "CacheRules$ChanceRule", name := "<init>", desc := "(I)V" } : Jvm.MethodName)) ∈ GT := gt_at 108 (by decide +kernel) (by decide +kernel)
theorem g109 : (Jvm.Cond.code ({ cls := "CacheRules$ChanceRule", name := "<init>", desc := "(I)V" } : Jvm.MethodName) prog_5_method_1_code (2 : Nat) (Option.none : Option Jvm.ClassFile.FieldType)) ∈ GT := gt_at 109 (by decide +kernel) (by decide +kernel)
theorem g110 : (Jvm.Cond.methodLink "CacheRules$ChanceRule" (3 : Nat) ({ cls := "CacheRules$Rule", name := "<init>", desc := "(I)V" } : Jvm.MethodName)) ∈ GT := gt_at 110 (by decide +kernel) (by decide +kernel)
theorem g111 : (Jvm.Cond.instanceMethod ({ cls := "CacheRules$Rule", name := "<init>", desc := "(I)V" } : Jvm.MethodName)) ∈ GT := gt_at 111 (by decide +kernel) (by decide +kernel)
theorem g112 : (Jvm.Cond.code ({ cls := "CacheRules$Rule", name := "<init>", desc := "(I)V" } : Jvm.MethodName) prog_9_method_1_code (2 : Nat) (Option.none : Option Jvm.ClassFile.FieldType)) ∈ GT := gt_at 112 (by decide +kernel) (by decide +kernel)
theorem g113 : (Jvm.Cond.methodLink "CacheRules$Rule" (3 : Nat) ({ cls := "java/lang/Object", name := "<init>", desc := "()V" } : Jvm.MethodName)) ∈ GT := gt_at 113 (by decide +kernel) (by decide +kernel)
theorem g114 : (Jvm.Cond.fieldLink "CacheRules$ChanceRule" (9 : Nat) "CacheRules$ChanceRule" "x" "I") ∈ GT := gt_at 114 (by decide +kernel) (by decide +kernel)
theorem g115 : (Jvm.Cond.fieldLink "CacheRules$Rule" (9 : Nat) "CacheRules$Rule" "width" "I") ∈ GT := gt_at 115 (by decide +kernel) (by decide +kernel)
theorem g116 : (Jvm.Cond.fieldLink "CacheRules$LatelyRule" (13 : Nat) "CacheRules$LatelyRule" "width" "I") ∈ GT := gt_at 116 (by decide +kernel) (by decide +kernel)
theorem g117 : (Jvm.Cond.sameField "CacheRules$LatelyRule" "CacheRules$Rule" "width" "I") ∈ GT := gt_at 117 (by decide +kernel) (by decide +kernel)
theorem g118 : (Jvm.Cond.fieldLink "CacheRules$TimeRule" (25 : Nat) "CacheRules$TimeRule" "width" "I") ∈ GT := gt_at 118 (by decide +kernel) (by decide +kernel)
theorem g119 : (Jvm.Cond.sameField "CacheRules$TimeRule" "CacheRules$Rule" "width" "I") ∈ GT := gt_at 119 (by decide +kernel) (by decide +kernel)
theorem g120 : (Jvm.Cond.fieldLink "CacheRules$AgeRule" (15 : Nat) "CacheRules$AgeRule" "width" "I") ∈ GT := gt_at 120 (by decide +kernel) (by decide +kernel)
theorem g121 : (Jvm.Cond.sameField "CacheRules$AgeRule" "CacheRules$Rule" "width" "I") ∈ GT := gt_at 121 (by decide +kernel) (by decide +kernel)
theorem g122 : (Jvm.Cond.fieldLink "CacheRules$RoundRule" (17 : Nat) "CacheRules$RoundRule" "width" "I") ∈ GT := gt_at 122 (by decide +kernel) (by decide +kernel)
theorem g123 : (Jvm.Cond.sameField "CacheRules$RoundRule" "CacheRules$Rule" "width" "I") ∈ GT := gt_at 123 (by decide +kernel) (by decide +kernel)
theorem g124 : (Jvm.Cond.fieldLink "CacheRules$ChanceRule" (15 : Nat) "CacheRules$ChanceRule" "width" "I") ∈ GT := gt_at 124 (by decide +kernel) (by decide +kernel)
theorem g125 : (Jvm.Cond.sameField "CacheRules$ChanceRule" "CacheRules$Rule" "width" "I") ∈ GT := gt_at 125 (by decide +kernel) (by decide +kernel)
theorem g126 : (Jvm.Cond.fieldLink "CacheRules$TreeRule" (23 : Nat) "CacheRules$TreeRule" "width" "I") ∈ GT := gt_at 126 (by decide +kernel) (by decide +kernel)
theorem g127 : (Jvm.Cond.sameField "CacheRules$TreeRule" "CacheRules$Rule" "width" "I") ∈ GT := gt_at 127 (by decide +kernel) (by decide +kernel)
theorem g133 : (Jvm.Cond.classLink "CacheRules" (69 : Nat) "CacheRules$RoundRule") ∈ GT := gt_at 133 (by decide +kernel) (by decide +kernel)
theorem g134 : (Jvm.Cond.instantiable "CacheRules$RoundRule" (3 : Nat)) ∈ GT := gt_at 134 (by decide +kernel) (by decide +kernel)
theorem g135 : (Jvm.Cond.methodLink "CacheRules" (71 : Nat) ({ cls := "CacheRules$RoundRule", name := "<init>", desc := "(II)V" } : Jvm.MethodName)) ∈ GT := gt_at 135 (by decide +kernel) (by decide +kernel)
theorem g136 : (Jvm.Cond.instanceMethod ({ cls := "CacheRules$RoundRule", name := "<init>", desc := "(II)V" } : Jvm.MethodName)) ∈ GT := gt_at 136 (by decide +kernel) (by decide +kernel)
theorem g137 : (Jvm.Cond.code ({ cls := "CacheRules$RoundRule", name := "<init>", desc := "(II)V" } : Jvm.MethodName) prog_8_method_1_code (3 : Nat) (Option.none : Option Jvm.ClassFile.FieldType)) ∈ GT := gt_at 137 (by decide +kernel) (by decide +kernel)
theorem g138 : (Jvm.Cond.methodLink "CacheRules$RoundRule" (1 : Nat) ({ cls := "CacheRules$Rule", name := "<init>", desc := "(I)V" } : Jvm.MethodName)) ∈ GT := gt_at 138 (by decide +kernel) (by decide +kernel)
theorem g139 : (Jvm.Cond.fieldLink "CacheRules$RoundRule" (7 : Nat) "CacheRules$RoundRule" "mark" "[Z") ∈ GT := gt_at 139 (by decide +kernel) (by decide +kernel)
theorem g140 : (Jvm.Cond.fieldLink "CacheRules$RoundRule" (13 : Nat) "CacheRules$RoundRule" "hand" "[I") ∈ GT := gt_at 140 (by decide +kernel) (by decide +kernel)
theorem g147 : (Jvm.Cond.classLink "CacheRules" (72 : Nat) "CacheRules$TreeRule") ∈ GT := gt_at 147 (by decide +kernel) (by decide +kernel)
theorem g148 : (Jvm.Cond.instantiable "CacheRules$TreeRule" (3 : Nat)) ∈ GT := gt_at 148 (by decide +kernel) (by decide +kernel)
theorem g149 : (Jvm.Cond.methodLink "CacheRules" (74 : Nat) ({ cls := "CacheRules$TreeRule", name := "<init>", desc := "(II)V" } : Jvm.MethodName)) ∈ GT := gt_at 149 (by decide +kernel) (by decide +kernel)
theorem g150 : (Jvm.Cond.instanceMethod ({ cls := "CacheRules$TreeRule", name := "<init>", desc := "(II)V" } : Jvm.MethodName)) ∈ GT := gt_at 150 (by decide +kernel) (by decide +kernel)
theorem g151 : (Jvm.Cond.code ({ cls := "CacheRules$TreeRule", name := "<init>", desc := "(II)V" } : Jvm.MethodName) prog_11_method_1_code (3 : Nat) (Option.none : Option Jvm.ClassFile.FieldType)) ∈ GT := gt_at 151 (by decide +kernel) (by decide +kernel)
theorem g152 : (Jvm.Cond.methodLink "CacheRules$TreeRule" (3 : Nat) ({ cls := "CacheRules$Rule", name := "<init>", desc := "(I)V" } : Jvm.MethodName)) ∈ GT := gt_at 152 (by decide +kernel) (by decide +kernel)
theorem g153 : (Jvm.Cond.fieldLink "CacheRules$TreeRule" (9 : Nat) "CacheRules$TreeRule" "leaves" "I") ∈ GT := gt_at 153 (by decide +kernel) (by decide +kernel)
theorem g154 : (Jvm.Cond.fieldLink "CacheRules$TreeRule" (15 : Nat) "CacheRules$TreeRule" "tree" "[I") ∈ GT := gt_at 154 (by decide +kernel) (by decide +kernel)
theorem g161 : (Jvm.Cond.classLink "CacheRules" (75 : Nat) "CacheRules$LatelyRule") ∈ GT := gt_at 161 (by decide +kernel) (by decide +kernel)
theorem g162 : (Jvm.Cond.instantiable "CacheRules$LatelyRule" (2 : Nat)) ∈ GT := gt_at 162 (by decide +kernel) (by decide +kernel)
theorem g163 : (Jvm.Cond.methodLink "CacheRules" (77 : Nat) ({ cls := "CacheRules$LatelyRule", name := "<init>", desc := "(II)V" } : Jvm.MethodName)) ∈ GT := gt_at 163 (by decide +kernel) (by decide +kernel)
theorem g164 : (Jvm.Cond.instanceMethod ({ cls := "CacheRules$LatelyRule", name := "<init>", desc := "(II)V" } : Jvm.MethodName)) ∈ GT := gt_at 164 (by decide +kernel) (by decide +kernel)
theorem g165 : (Jvm.Cond.code ({ cls := "CacheRules$LatelyRule", name := "<init>", desc := "(II)V" } : Jvm.MethodName) prog_7_method_1_code (3 : Nat) (Option.none : Option Jvm.ClassFile.FieldType)) ∈ GT := gt_at 165 (by decide +kernel) (by decide +kernel)
theorem g166 : (Jvm.Cond.methodLink "CacheRules$LatelyRule" (1 : Nat) ({ cls := "CacheRules$Rule", name := "<init>", desc := "(I)V" } : Jvm.MethodName)) ∈ GT := gt_at 166 (by decide +kernel) (by decide +kernel)
theorem g167 : (Jvm.Cond.fieldLink "CacheRules$LatelyRule" (7 : Nat) "CacheRules$LatelyRule" "mark" "[Z") ∈ GT := gt_at 167 (by decide +kernel) (by decide +kernel)
theorem g172 : (Jvm.Cond.classLink "CacheRules" (78 : Nat) "CacheRules$AgeRule") ∈ GT := gt_at 172 (by decide +kernel) (by decide +kernel)
theorem g173 : (Jvm.Cond.instantiable "CacheRules$AgeRule" (2 : Nat)) ∈ GT := gt_at 173 (by decide +kernel) (by decide +kernel)
theorem g174 : (Jvm.Cond.methodLink "CacheRules" (80 : Nat) ({ cls := "CacheRules$AgeRule", name := "<init>", desc := "(II)V" } : Jvm.MethodName)) ∈ GT := gt_at 174 (by decide +kernel) (by decide +kernel)
theorem g175 : (Jvm.Cond.instanceMethod ({ cls := "CacheRules$AgeRule", name := "<init>", desc := "(II)V" } : Jvm.MethodName)) ∈ GT := gt_at 175 (by decide +kernel) (by decide +kernel)
theorem g176 : (Jvm.Cond.code ({ cls := "CacheRules$AgeRule", name := "<init>", desc := "(II)V" } : Jvm.MethodName) prog_2_method_1_code (3 : Nat) (Option.none : Option Jvm.ClassFile.FieldType)) ∈ GT := gt_at 176 (by decide +kernel) (by decide +kernel)
theorem g177 : (Jvm.Cond.methodLink "CacheRules$AgeRule" (3 : Nat) ({ cls := "CacheRules$Rule", name := "<init>", desc := "(I)V" } : Jvm.MethodName)) ∈ GT := gt_at 177 (by decide +kernel) (by decide +kernel)
theorem g178 : (Jvm.Cond.fieldLink "CacheRules$AgeRule" (9 : Nat) "CacheRules$AgeRule" "age" "[I") ∈ GT := gt_at 178 (by decide +kernel) (by decide +kernel)
theorem g183 : (Jvm.Cond.classLink "CacheRules" (81 : Nat) "CacheRules$TimeRule") ∈ GT := gt_at 183 (by decide +kernel) (by decide +kernel)
theorem g184 : (Jvm.Cond.instantiable "CacheRules$TimeRule" (7 : Nat)) ∈ GT := gt_at 184 (by decide +kernel) (by decide +kernel)
theorem g185 : (Jvm.Cond.methodLink "CacheRules" (83 : Nat) ({ cls := "CacheRules$TimeRule", name := "<init>", desc := "(III)V" } : Jvm.MethodName)) ∈ GT := gt_at 185 (by decide +kernel) (by decide +kernel)
theorem g186 : (Jvm.Cond.instanceMethod ({ cls := "CacheRules$TimeRule", name := "<init>", desc := "(III)V" } : Jvm.MethodName)) ∈ GT := gt_at 186 (by decide +kernel) (by decide +kernel)
theorem g187 : (Jvm.Cond.code ({ cls := "CacheRules$TimeRule", name := "<init>", desc := "(III)V" } : Jvm.MethodName) prog_10_method_1_code (4 : Nat) (Option.none : Option Jvm.ClassFile.FieldType)) ∈ GT := gt_at 187 (by decide +kernel) (by decide +kernel)
theorem g188 : (Jvm.Cond.methodLink "CacheRules$TimeRule" (3 : Nat) ({ cls := "CacheRules$Rule", name := "<init>", desc := "(I)V" } : Jvm.MethodName)) ∈ GT := gt_at 188 (by decide +kernel) (by decide +kernel)
theorem g189 : (Jvm.Cond.fieldLink "CacheRules$TimeRule" (9 : Nat) "CacheRules$TimeRule" "number" "I") ∈ GT := gt_at 189 (by decide +kernel) (by decide +kernel)
theorem g190 : (Jvm.Cond.fieldLink "CacheRules$TimeRule" (15 : Nat) "CacheRules$TimeRule" "last" "[I") ∈ GT := gt_at 190 (by decide +kernel) (by decide +kernel)
theorem g191 : (Jvm.Cond.fieldLink "CacheRules$TimeRule" (19 : Nat) "CacheRules$TimeRule" "came" "[I") ∈ GT := gt_at 191 (by decide +kernel) (by decide +kernel)
theorem g192 : (Jvm.Cond.fieldLink "CacheRules$TimeRule" (22 : Nat) "CacheRules$TimeRule" "uses" "[I") ∈ GT := gt_at 192 (by decide +kernel) (by decide +kernel)
theorem g193 : (Jvm.Cond.fieldLink "CacheRules$TimeRule" (28 : Nat) "CacheRules$TimeRule" "now" "I") ∈ GT := gt_at 193 (by decide +kernel) (by decide +kernel)
theorem g194 : (Jvm.Cond.fieldLink "CacheRules$TimeRule" (31 : Nat) "CacheRules$TimeRule" "beforeAll" "I") ∈ GT := gt_at 194 (by decide +kernel) (by decide +kernel)
theorem g209 : (Jvm.Cond.classLink "CacheRules" (41 : Nat) "CacheRules$Asks") ∈ GT := gt_at 209 (by decide +kernel) (by decide +kernel)
theorem g210 : (Jvm.Cond.instantiable "CacheRules$Asks" (8 : Nat)) ∈ GT := gt_at 210 (by decide +kernel) (by decide +kernel)
theorem g211 : (Jvm.Cond.methodLink "CacheRules" (43 : Nat) ({ cls := "CacheRules$Asks", name := "<init>", desc := "()V" } : Jvm.MethodName)) ∈ GT := gt_at 211 (by decide +kernel) (by decide +kernel)
theorem g212 : (Jvm.Cond.instanceMethod ({ cls := "CacheRules$Asks", name := "<init>", desc := "()V" } : Jvm.MethodName)) ∈ GT := gt_at 212 (by decide +kernel) (by decide +kernel)
theorem g213 : (Jvm.Cond.code ({ cls := "CacheRules$Asks", name := "<init>", desc := "()V" } : Jvm.MethodName) prog_3_method_1_code (1 : Nat) (Option.none : Option Jvm.ClassFile.FieldType)) ∈ GT := gt_at 213 (by decide +kernel) (by decide +kernel)
theorem g214 : (Jvm.Cond.methodLink "CacheRules$Asks" (1 : Nat) ({ cls := "java/lang/Object", name := "<init>", desc := "()V" } : Jvm.MethodName)) ∈ GT := gt_at 214 (by decide +kernel) (by decide +kernel)
theorem g215 : (Jvm.Cond.fieldLink "CacheRules$Asks" (9 : Nat) "CacheRules$Asks" "lineOf" "[I") ∈ GT := gt_at 215 (by decide +kernel) (by decide +kernel)
theorem g216 : (Jvm.Cond.fieldLink "CacheRules$Asks" (13 : Nat) "CacheRules$Asks" "partOf" "[I") ∈ GT := gt_at 216 (by decide +kernel) (by decide +kernel)
theorem g217 : (Jvm.Cond.fieldLink "CacheRules$Asks" (16 : Nat) "CacheRules$Asks" "waiting" "[I") ∈ GT := gt_at 217 (by decide +kernel) (by decide +kernel)
theorem g218 : (Jvm.Cond.fieldLink "CacheRules$Asks" (19 : Nat) "CacheRules$Asks" "donePart" "[I") ∈ GT := gt_at 218 (by decide +kernel) (by decide +kernel)
theorem g219 : (Jvm.Cond.fieldLink "CacheRules" (139 : Nat) "CacheRules$Asks" "donePart" "[I") ∈ GT := gt_at 219 (by decide +kernel) (by decide +kernel)
theorem g220 : (Jvm.Cond.fieldLink "CacheRules$Asks" (22 : Nat) "CacheRules$Asks" "doneKind" "[I") ∈ GT := gt_at 220 (by decide +kernel) (by decide +kernel)
theorem g221 : (Jvm.Cond.fieldLink "CacheRules" (136 : Nat) "CacheRules$Asks" "doneKind" "[I") ∈ GT := gt_at 221 (by decide +kernel) (by decide +kernel)
theorem g222 : (Jvm.Cond.fieldLink "CacheRules$Asks" (29 : Nat) "CacheRules$Asks" "size" "I") ∈ GT := gt_at 222 (by decide +kernel) (by decide +kernel)
theorem g223 : (Jvm.Cond.fieldLink "CacheRules" (228 : Nat) "CacheRules$Asks" "size" "I") ∈ GT := gt_at 223 (by decide +kernel) (by decide +kernel)
theorem g224 : (Jvm.Cond.fieldLink "CacheRules$Asks" (25 : Nat) "CacheRules$Asks" "lineCount" "I") ∈ GT := gt_at 224 (by decide +kernel) (by decide +kernel)
theorem g225 : (Jvm.Cond.fieldLink "CacheRules" (120 : Nat) "CacheRules$Asks" "lineCount" "I") ∈ GT := gt_at 225 (by decide +kernel) (by decide +kernel)
theorem g226 : (Jvm.Cond.fieldLink "CacheRules$Asks" (36 : Nat) "CacheRules$Asks" "doneCount" "I") ∈ GT := gt_at 226 (by decide +kernel) (by decide +kernel)
theorem g227 : (Jvm.Cond.fieldLink "CacheRules" (133 : Nat) "CacheRules$Asks" "doneCount" "I") ∈ GT := gt_at 227 (by decide +kernel) (by decide +kernel)
theorem g245 : (Jvm.Cond.classLink "CacheRules" (48 : Nat) "CacheRules$History") ∈ GT := gt_at 245 (by decide +kernel) (by decide +kernel)
theorem g246 : (Jvm.Cond.instantiable "CacheRules$History" (4 : Nat)) ∈ GT := gt_at 246 (by decide +kernel) (by decide +kernel)
theorem g247 : (Jvm.Cond.methodLink "CacheRules" (50 : Nat) ({ cls := "CacheRules$History", name := "<init>", desc := "()V" } : Jvm.MethodName)) ∈ GT := gt_at 247 (by decide +kernel) (by decide +kernel)
theorem g248 : (Jvm.Cond.instanceMethod ({ cls := "CacheRules$History", name := "<init>", desc := "()V" } : Jvm.MethodName)) ∈ GT := gt_at 248 (by decide +kernel) (by decide +kernel)
theorem g249 : (Jvm.Cond.code ({ cls := "CacheRules$History", name := "<init>", desc := "()V" } : Jvm.MethodName) prog_6_method_1_code (1 : Nat) (Option.none : Option Jvm.ClassFile.FieldType)) ∈ GT := gt_at 249 (by decide +kernel) (by decide +kernel)
theorem g250 : (Jvm.Cond.methodLink "CacheRules$History" (3 : Nat) ({ cls := "java/lang/Object", name := "<init>", desc := "()V" } : Jvm.MethodName)) ∈ GT := gt_at 250 (by decide +kernel) (by decide +kernel)
theorem g251 : (Jvm.Cond.fieldLink "CacheRules$History" (11 : Nat) "CacheRules$History" "latest" "[I") ∈ GT := gt_at 251 (by decide +kernel) (by decide +kernel)
theorem g252 : (Jvm.Cond.fieldLink "CacheRules$History" (15 : Nat) "CacheRules$History" "seen" "[I") ∈ GT := gt_at 252 (by decide +kernel) (by decide +kernel)
theorem g253 : (Jvm.Cond.fieldLink "CacheRules$History" (18 : Nat) "CacheRules$History" "size" "I") ∈ GT := gt_at 253 (by decide +kernel) (by decide +kernel)
theorem g254 : (Jvm.Cond.fieldLink "CacheRules$History" (26 : Nat) "CacheRules$History" "seenNone" "I") ∈ GT := gt_at 254 (by decide +kernel) (by decide +kernel)
theorem g264 : (Jvm.Cond.fieldLink "CacheRules" (18 : Nat) "CacheRules" "ways" "LCacheRules$Ways;") ∈ GT := gt_at 264 (by decide +kernel) (by decide +kernel)
theorem g265 : (Jvm.Cond.fieldLink "CacheRules" (29 : Nat) "CacheRules" "rows" "LCacheRules$CatchingRows;") ∈ GT := gt_at 265 (by decide +kernel) (by decide +kernel)
theorem g266 : (Jvm.Cond.fieldLink "CacheRules" (37 : Nat) "CacheRules" "rule" "LCacheRules$Rule;") ∈ GT := gt_at 266 (by decide +kernel) (by decide +kernel)
theorem g267 : (Jvm.Cond.fieldLink "CacheRules" (44 : Nat) "CacheRules" "asks" "LCacheRules$Asks;") ∈ GT := gt_at 267 (by decide +kernel) (by decide +kernel)
theorem g268 : (Jvm.Cond.fieldLink "CacheRules" (51 : Nat) "CacheRules" "history" "LCacheRules$History;") ∈ GT := gt_at 268 (by decide +kernel) (by decide +kernel)
theorem g269 : (Jvm.Cond.fieldLink "CacheRules" (55 : Nat) "CacheRules" "kinds" "[I") ∈ GT := gt_at 269 (by decide +kernel) (by decide +kernel)
theorem g270 : (Jvm.Cond.fieldLink "CacheRules" (59 : Nat) "CacheRules" "through" "Z") ∈ GT := gt_at 270 (by decide +kernel) (by decide +kernel)
theorem g271 : (Jvm.Cond.fieldLink "CacheRules" (63 : Nat) "CacheRules" "places" "Z") ∈ GT := gt_at 271 (by decide +kernel) (by decide +kernel)
theorem g272 : (Jvm.Cond.fieldLink "CacheRules" (219 : Nat) "CacheRules" "accesses" "I") ∈ GT := gt_at 272 (by decide +kernel) (by decide +kernel)
theorem g273 : (Jvm.Cond.fieldLink "CacheRules" (222 : Nat) "CacheRules" "fetched" "I") ∈ GT := gt_at 273 (by decide +kernel) (by decide +kernel)
theorem g274 : (Jvm.Cond.fieldLink "CacheRules" (155 : Nat) "CacheRules" "writes" "I") ∈ GT := gt_at 274 (by decide +kernel) (by decide +kernel)
theorem g275 : (Jvm.Cond.fieldLink "CacheRules" (225 : Nat) "CacheRules" "wentOut" "I") ∈ GT := gt_at 275 (by decide +kernel) (by decide +kernel)
theorem g301 : (Jvm.Cond.methodLink "CacheRulesLaw" (58 : Nat) ({ cls := "CacheRules", name := "mode", desc := "(ZZ)I" } : Jvm.MethodName)) ∈ GT := gt_at 301 (by decide +kernel) (by decide +kernel)
theorem g302 : (Jvm.Cond.instanceMethod ({ cls := "CacheRules", name := "mode", desc := "(ZZ)I" } : Jvm.MethodName)) ∈ GT := gt_at 302 (by decide +kernel) (by decide +kernel)
theorem g303 : (Jvm.Cond.selects "CacheRules" ({ cls := "CacheRules", name := "mode", desc := "(ZZ)I" } : Jvm.MethodName) ({ cls := "CacheRules", name := "mode", desc := "(ZZ)I" } : Jvm.MethodName)) ∈ GT := gt_at 303 (by decide +kernel) (by decide +kernel)
theorem g304 : (Jvm.Cond.code ({ cls := "CacheRules", name := "mode", desc := "(ZZ)I" } : Jvm.MethodName) prog_1_method_3_code (4 : Nat) (Option.some Jvm.ClassFile.FieldType.int)) ∈ GT := gt_at 304 (by decide +kernel) (by decide +kernel)
theorem g305 : (Jvm.Cond.methodLink "CacheRulesLaw" (81 : Nat) ({ cls := "CacheRules", name := "lock", desc := "(IZ)Z" } : Jvm.MethodName)) ∈ GT := gt_at 305 (by decide +kernel) (by decide +kernel)
theorem g306 : (Jvm.Cond.instanceMethod ({ cls := "CacheRules", name := "lock", desc := "(IZ)Z" } : Jvm.MethodName)) ∈ GT := gt_at 306 (by decide +kernel) (by decide +kernel)
theorem g307 : (Jvm.Cond.selects "CacheRules" ({ cls := "CacheRules", name := "lock", desc := "(IZ)Z" } : Jvm.MethodName) ({ cls := "CacheRules", name := "lock", desc := "(IZ)Z" } : Jvm.MethodName)) ∈ GT := gt_at 307 (by decide +kernel) (by decide +kernel)
theorem g308 : (Jvm.Cond.code ({ cls := "CacheRules", name := "lock", desc := "(IZ)Z" } : Jvm.MethodName) prog_1_method_8_code (4 : Nat) (Option.some Jvm.ClassFile.FieldType.boolean)) ∈ GT := gt_at 308 (by decide +kernel) (by decide +kernel)
theorem g309 : (Jvm.Cond.methodLink "CacheRules" (101 : Nat) ({ cls := "CacheRules$Ways", name := "find", desc := "(I)I" } : Jvm.MethodName)) ∈ GT := gt_at 309 (by decide +kernel) (by decide +kernel)
theorem g310 : (Jvm.Cond.instanceMethod ({ cls := "CacheRules$Ways", name := "find", desc := "(I)I" } : Jvm.MethodName)) ∈ GT := gt_at 310 (by decide +kernel) (by decide +kernel)
theorem g311 : (Jvm.Cond.selects "CacheRules$Ways" ({ cls := "CacheRules$Ways", name := "find", desc := "(I)I" } : Jvm.MethodName) ({ cls := "CacheRules$Ways", name := "find", desc := "(I)I" } : Jvm.MethodName)) ∈ GT := gt_at 311 (by decide +kernel) (by decide +kernel)
theorem g312 : (Jvm.Cond.code ({ cls := "CacheRules$Ways", name := "find", desc := "(I)I" } : Jvm.MethodName) prog_12_method_3_code (4 : Nat) (Option.some Jvm.ClassFile.FieldType.int)) ∈ GT := gt_at 312 (by decide +kernel) (by decide +kernel)
theorem g313 : (Jvm.Cond.methodLink "CacheRules$Ways" (38 : Nat) ({ cls := "CacheRules$Ways", name := "setOf", desc := "(I)I" } : Jvm.MethodName)) ∈ GT := gt_at 313 (by decide +kernel) (by decide +kernel)
theorem g314 : (Jvm.Cond.instanceMethod ({ cls := "CacheRules$Ways", name := "setOf", desc := "(I)I" } : Jvm.MethodName)) ∈ GT := gt_at 314 (by decide +kernel) (by decide +kernel)
theorem g315 : (Jvm.Cond.selects "CacheRules$Ways" ({ cls := "CacheRules$Ways", name := "setOf", desc := "(I)I" } : Jvm.MethodName) ({ cls := "CacheRules$Ways", name := "setOf", desc := "(I)I" } : Jvm.MethodName)) ∈ GT := gt_at 315 (by decide +kernel) (by decide +kernel)
theorem g316 : (Jvm.Cond.code ({ cls := "CacheRules$Ways", name := "setOf", desc := "(I)I" } : Jvm.MethodName) prog_12_method_2_code (2 : Nat) (Option.some Jvm.ClassFile.FieldType.int)) ∈ GT := gt_at 316 (by decide +kernel) (by decide +kernel)
theorem g317 : (Jvm.Cond.methodLink "CacheRulesLaw" (86 : Nat) ({ cls := "CacheRules", name := "clean", desc := "(I)I" } : Jvm.MethodName)) ∈ GT := gt_at 317 (by decide +kernel) (by decide +kernel)
theorem g318 : (Jvm.Cond.instanceMethod ({ cls := "CacheRules", name := "clean", desc := "(I)I" } : Jvm.MethodName)) ∈ GT := gt_at 318 (by decide +kernel) (by decide +kernel)
theorem g319 : (Jvm.Cond.selects "CacheRules" ({ cls := "CacheRules", name := "clean", desc := "(I)I" } : Jvm.MethodName) ({ cls := "CacheRules", name := "clean", desc := "(I)I" } : Jvm.MethodName)) ∈ GT := gt_at 319 (by decide +kernel) (by decide +kernel)
theorem g320 : (Jvm.Cond.code ({ cls := "CacheRules", name := "clean", desc := "(I)I" } : Jvm.MethodName) prog_1_method_9_code (5 : Nat) (Option.some Jvm.ClassFile.FieldType.int)) ∈ GT := gt_at 320 (by decide +kernel) (by decide +kernel)
theorem g321 : (Jvm.Cond.methodLink "CacheRules" (148 : Nat) ({ cls := "CacheRules$CatchingRows", name := "find", desc := "(I)I" } : Jvm.MethodName)) ∈ GT := gt_at 321 (by decide +kernel) (by decide +kernel)
theorem g322 : (Jvm.Cond.instanceMethod ({ cls := "CacheRules$CatchingRows", name := "find", desc := "(I)I" } : Jvm.MethodName)) ∈ GT := gt_at 322 (by decide +kernel) (by decide +kernel)
theorem g323 : (Jvm.Cond.selects "CacheRules$CatchingRows" ({ cls := "CacheRules$CatchingRows", name := "find", desc := "(I)I" } : Jvm.MethodName) ({ cls := "CacheRules$CatchingRows", name := "find", desc := "(I)I" } : Jvm.MethodName)) ∈ GT := gt_at 323 (by decide +kernel) (by decide +kernel)
theorem g324 : (Jvm.Cond.code ({ cls := "CacheRules$CatchingRows", name := "find", desc := "(I)I" } : Jvm.MethodName) prog_4_method_2_code (3 : Nat) (Option.some Jvm.ClassFile.FieldType.int)) ∈ GT := gt_at 324 (by decide +kernel) (by decide +kernel)
theorem g325 : (Jvm.Cond.methodLink "CacheRules" (149 : Nat) ({ cls := "CacheRules$Ways", name := "cleanSlot", desc := "(I)I" } : Jvm.MethodName)) ∈ GT := gt_at 325 (by decide +kernel) (by decide +kernel)
theorem g326 : (Jvm.Cond.instanceMethod ({ cls := "CacheRules$Ways", name := "cleanSlot", desc := "(I)I" } : Jvm.MethodName)) ∈ GT := gt_at 326 (by decide +kernel) (by decide +kernel)
theorem g327 : (Jvm.Cond.selects "CacheRules$Ways" ({ cls := "CacheRules$Ways", name := "cleanSlot", desc := "(I)I" } : Jvm.MethodName) ({ cls := "CacheRules$Ways", name := "cleanSlot", desc := "(I)I" } : Jvm.MethodName)) ∈ GT := gt_at 327 (by decide +kernel) (by decide +kernel)
theorem g328 : (Jvm.Cond.code ({ cls := "CacheRules$Ways", name := "cleanSlot", desc := "(I)I" } : Jvm.MethodName) prog_12_method_8_code (3 : Nat) (Option.some Jvm.ClassFile.FieldType.int)) ∈ GT := gt_at 328 (by decide +kernel) (by decide +kernel)
theorem g329 : (Jvm.Cond.methodLink "CacheRules$Ways" (42 : Nat) ({ cls := "java/lang/Integer", name := "bitCount", desc := "(I)I" } : Jvm.MethodName)) ∈ GT := gt_at 329 (by decide +kernel) (by decide +kernel)
theorem g330 : (Jvm.Cond.static ({ cls := "java/lang/Integer", name := "bitCount", desc := "(I)I" } : Jvm.MethodName)) ∈ GT := gt_at 330 (by decide +kernel) (by decide +kernel)
theorem g331 : (Jvm.Cond.code ({ cls := "java/lang/Integer", name := "bitCount", desc := "(I)I" } : Jvm.MethodName) prog_18_method_49_code (1 : Nat) (Option.some Jvm.ClassFile.FieldType.int)) ∈ GT := gt_at 331 (by decide +kernel) (by decide +kernel)
theorem g332 : (Jvm.Cond.constant "java/lang/Integer" (265 : Nat) (1431655765 : Int32)) ∈ GT := gt_at 332 (by decide +kernel) (by decide +kernel)
theorem g333 : (Jvm.Cond.constant "java/lang/Integer" (266 : Nat) (858993459 : Int32)) ∈ GT := gt_at 333 (by decide +kernel) (by decide +kernel)
theorem g334 : (Jvm.Cond.constant "java/lang/Integer" (267 : Nat) (252645135 : Int32)) ∈ GT := gt_at 334 (by decide +kernel) (by decide +kernel)
theorem g335 : (Jvm.Cond.methodLink "CacheRules" (152 : Nat) ({ cls := "CacheRules$CatchingRows", name := "cleanRow", desc := "(I)I" } : Jvm.MethodName)) ∈ GT := gt_at 335 (by decide +kernel) (by decide +kernel)
theorem g336 : (Jvm.Cond.instanceMethod ({ cls := "CacheRules$CatchingRows", name := "cleanRow", desc := "(I)I" } : Jvm.MethodName)) ∈ GT := gt_at 336 (by decide +kernel) (by decide +kernel)
theorem g337 : (Jvm.Cond.selects "CacheRules$CatchingRows" ({ cls := "CacheRules$CatchingRows", name := "cleanRow", desc := "(I)I" } : Jvm.MethodName) ({ cls := "CacheRules$CatchingRows", name := "cleanRow", desc := "(I)I" } : Jvm.MethodName)) ∈ GT := gt_at 337 (by decide +kernel) (by decide +kernel)
theorem g338 : (Jvm.Cond.code ({ cls := "CacheRules$CatchingRows", name := "cleanRow", desc := "(I)I" } : Jvm.MethodName) prog_4_method_5_code (3 : Nat) (Option.some Jvm.ClassFile.FieldType.int)) ∈ GT := gt_at 338 (by decide +kernel) (by decide +kernel)
theorem g339 : (Jvm.Cond.methodLink "CacheRules$CatchingRows" (28 : Nat) ({ cls := "java/lang/Integer", name := "bitCount", desc := "(I)I" } : Jvm.MethodName)) ∈ GT := gt_at 339 (by decide +kernel) (by decide +kernel)
theorem g340 : (Jvm.Cond.methodLink "CacheRulesLaw" (90 : Nat) ({ cls := "CacheRules", name := "cleanAll", desc := "()I" } : Jvm.MethodName)) ∈ GT := gt_at 340 (by decide +kernel) (by decide +kernel)
theorem g341 : (Jvm.Cond.instanceMethod ({ cls := "CacheRules", name := "cleanAll", desc := "()I" } : Jvm.MethodName)) ∈ GT := gt_at 341 (by decide +kernel) (by decide +kernel)
theorem g342 : (Jvm.Cond.selects "CacheRules" ({ cls := "CacheRules", name := "cleanAll", desc := "()I" } : Jvm.MethodName) ({ cls := "CacheRules", name := "cleanAll", desc := "()I" } : Jvm.MethodName)) ∈ GT := gt_at 342 (by decide +kernel) (by decide +kernel)
theorem g343 : (Jvm.Cond.code ({ cls := "CacheRules", name := "cleanAll", desc := "()I" } : Jvm.MethodName) prog_1_method_10_code (3 : Nat) (Option.some Jvm.ClassFile.FieldType.int)) ∈ GT := gt_at 343 (by decide +kernel) (by decide +kernel)
theorem g344 : (Jvm.Cond.methodLink "CacheRulesLaw" (94 : Nat) ({ cls := "CacheRules", name := "drop", desc := "(I)I" } : Jvm.MethodName)) ∈ GT := gt_at 344 (by decide +kernel) (by decide +kernel)
theorem g345 : (Jvm.Cond.instanceMethod ({ cls := "CacheRules", name := "drop", desc := "(I)I" } : Jvm.MethodName)) ∈ GT := gt_at 345 (by decide +kernel) (by decide +kernel)
theorem g346 : (Jvm.Cond.selects "CacheRules" ({ cls := "CacheRules", name := "drop", desc := "(I)I" } : Jvm.MethodName) ({ cls := "CacheRules", name := "drop", desc := "(I)I" } : Jvm.MethodName)) ∈ GT := gt_at 346 (by decide +kernel) (by decide +kernel)
theorem g347 : (Jvm.Cond.code ({ cls := "CacheRules", name := "drop", desc := "(I)I" } : Jvm.MethodName) prog_1_method_11_code (5 : Nat) (Option.some Jvm.ClassFile.FieldType.int)) ∈ GT := gt_at 347 (by decide +kernel) (by decide +kernel)
theorem g348 : (Jvm.Cond.methodLink "CacheRules" (167 : Nat) ({ cls := "java/lang/Integer", name := "bitCount", desc := "(I)I" } : Jvm.MethodName)) ∈ GT := gt_at 348 (by decide +kernel) (by decide +kernel)
theorem g349 : (Jvm.Cond.methodLink "CacheRules" (172 : Nat) ({ cls := "CacheRules$Ways", name := "empty", desc := "(I)V" } : Jvm.MethodName)) ∈ GT := gt_at 349 (by decide +kernel) (by decide +kernel)
theorem g350 : (Jvm.Cond.instanceMethod ({ cls := "CacheRules$Ways", name := "empty", desc := "(I)V" } : Jvm.MethodName)) ∈ GT := gt_at 350 (by decide +kernel) (by decide +kernel)
theorem g351 : (Jvm.Cond.selects "CacheRules$Ways" ({ cls := "CacheRules$Ways", name := "empty", desc := "(I)V" } : Jvm.MethodName) ({ cls := "CacheRules$Ways", name := "empty", desc := "(I)V" } : Jvm.MethodName)) ∈ GT := gt_at 351 (by decide +kernel) (by decide +kernel)
theorem g352 : (Jvm.Cond.code ({ cls := "CacheRules$Ways", name := "empty", desc := "(I)V" } : Jvm.MethodName) prog_12_method_7_code (2 : Nat) (Option.none : Option Jvm.ClassFile.FieldType)) ∈ GT := gt_at 352 (by decide +kernel) (by decide +kernel)
theorem g353 : (Jvm.Cond.methodLink "CacheRules" (176 : Nat) ({ cls := "CacheRules$CatchingRows", name := "remove", desc := "(I)V" } : Jvm.MethodName)) ∈ GT := gt_at 353 (by decide +kernel) (by decide +kernel)
theorem g354 : (Jvm.Cond.instanceMethod ({ cls := "CacheRules$CatchingRows", name := "remove", desc := "(I)V" } : Jvm.MethodName)) ∈ GT := gt_at 354 (by decide +kernel) (by decide +kernel)
theorem g355 : (Jvm.Cond.selects "CacheRules$CatchingRows" ({ cls := "CacheRules$CatchingRows", name := "remove", desc := "(I)V" } : Jvm.MethodName) ({ cls := "CacheRules$CatchingRows", name := "remove", desc := "(I)V" } : Jvm.MethodName)) ∈ GT := gt_at 355 (by decide +kernel) (by decide +kernel)
theorem g356 : (Jvm.Cond.code ({ cls := "CacheRules$CatchingRows", name := "remove", desc := "(I)V" } : Jvm.MethodName) prog_4_method_4_code (3 : Nat) (Option.none : Option Jvm.ClassFile.FieldType)) ∈ GT := gt_at 356 (by decide +kernel) (by decide +kernel)
theorem g357 : (Jvm.Cond.methodLink "CacheRulesLaw" (112 : Nat) ({ cls := "CacheRules", name := "distance", desc := "(I)I" } : Jvm.MethodName)) ∈ GT := gt_at 357 (by decide +kernel) (by decide +kernel)
theorem g358 : (Jvm.Cond.instanceMethod ({ cls := "CacheRules", name := "distance", desc := "(I)I" } : Jvm.MethodName)) ∈ GT := gt_at 358 (by decide +kernel) (by decide +kernel)
theorem g359 : (Jvm.Cond.selects "CacheRules" ({ cls := "CacheRules", name := "distance", desc := "(I)I" } : Jvm.MethodName) ({ cls := "CacheRules", name := "distance", desc := "(I)I" } : Jvm.MethodName)) ∈ GT := gt_at 359 (by decide +kernel) (by decide +kernel)
theorem g360 : (Jvm.Cond.code ({ cls := "CacheRules", name := "distance", desc := "(I)I" } : Jvm.MethodName) prog_1_method_16_code (2 : Nat) (Option.some Jvm.ClassFile.FieldType.int)) ∈ GT := gt_at 360 (by decide +kernel) (by decide +kernel)
theorem g361 : (Jvm.Cond.methodLink "CacheRules" (218 : Nat) ({ cls := "CacheRules$History", name := "find", desc := "(I)I" } : Jvm.MethodName)) ∈ GT := gt_at 361 (by decide +kernel) (by decide +kernel)
theorem g362 : (Jvm.Cond.instanceMethod ({ cls := "CacheRules$History", name := "find", desc := "(I)I" } : Jvm.MethodName)) ∈ GT := gt_at 362 (by decide +kernel) (by decide +kernel)
theorem g363 : (Jvm.Cond.selects "CacheRules$History" ({ cls := "CacheRules$History", name := "find", desc := "(I)I" } : Jvm.MethodName) ({ cls := "CacheRules$History", name := "find", desc := "(I)I" } : Jvm.MethodName)) ∈ GT := gt_at 363 (by decide +kernel) (by decide +kernel)
theorem g364 : (Jvm.Cond.code ({ cls := "CacheRules$History", name := "find", desc := "(I)I" } : Jvm.MethodName) prog_6_method_2_code (3 : Nat) (Option.some Jvm.ClassFile.FieldType.int)) ∈ GT := gt_at 364 (by decide +kernel) (by decide +kernel)
theorem g365 : (Jvm.Cond.methodLink "CacheRulesLaw" (116 : Nat) ({ cls := "CacheRules", name := "count", desc := "(I)I" } : Jvm.MethodName)) ∈ GT := gt_at 365 (by decide +kernel) (by decide +kernel)
theorem g366 : (Jvm.Cond.instanceMethod ({ cls := "CacheRules", name := "count", desc := "(I)I" } : Jvm.MethodName)) ∈ GT := gt_at 366 (by decide +kernel) (by decide +kernel)
theorem g367 : (Jvm.Cond.selects "CacheRules" ({ cls := "CacheRules", name := "count", desc := "(I)I" } : Jvm.MethodName) ({ cls := "CacheRules", name := "count", desc := "(I)I" } : Jvm.MethodName)) ∈ GT := gt_at 367 (by decide +kernel) (by decide +kernel)
theorem g368 : (Jvm.Cond.code ({ cls := "CacheRules", name := "count", desc := "(I)I" } : Jvm.MethodName) prog_1_method_17_code (2 : Nat) (Option.some Jvm.ClassFile.FieldType.int)) ∈ GT := gt_at 368 (by decide +kernel) (by decide +kernel)
theorem g369 : (Jvm.Cond.methodLink "CacheRulesLaw" (46 : Nat) ({ cls := "CacheRulesLaw", name := "cell", desc := "([II)I" } : Jvm.MethodName)) ∈ GT := gt_at 369 (by decide +kernel) (by decide +kernel)
theorem g370 : (Jvm.Cond.static ({ cls := "CacheRulesLaw", name := "cell", desc := "([II)I" } : Jvm.MethodName)) ∈ GT := gt_at 370 (by decide +kernel) (by decide +kernel)
theorem g371 : (Jvm.Cond.code ({ cls := "CacheRulesLaw", name := "cell", desc := "([II)I" } : Jvm.MethodName) method_2_code (2 : Nat) (Option.some Jvm.ClassFile.FieldType.int)) ∈ GT := gt_at 371 (by decide +kernel) (by decide +kernel)
theorem g372 : (Jvm.Cond.methodLink "CacheRulesLaw" (63 : Nat) ({ cls := "CacheRulesLaw", name := "access", desc := "(LCacheRules;IIZ[J)I" } : Jvm.MethodName)) ∈ GT := gt_at 372 (by decide +kernel) (by decide +kernel)
theorem g373 : (Jvm.Cond.static ({ cls := "CacheRulesLaw", name := "access", desc := "(LCacheRules;IIZ[J)I" } : Jvm.MethodName)) ∈ GT := gt_at 373 (by decide +kernel) (by decide +kernel)
theorem g375 : (Jvm.Cond.classLink "CacheRulesLaw" (13 : Nat) "java/lang/IndexOutOfBoundsException") ∈ GT := gt_at 375 (by decide +kernel) (by decide +kernel)
theorem g376 : (Jvm.Cond.methodLink "CacheRulesLaw" (7 : Nat) ({ cls := "CacheRules", name := "access", desc := "(IIZ)I" } : Jvm.MethodName)) ∈ GT := gt_at 376 (by decide +kernel) (by decide +kernel)
theorem g377 : (Jvm.Cond.instanceMethod ({ cls := "CacheRules", name := "access", desc := "(IIZ)I" } : Jvm.MethodName)) ∈ GT := gt_at 377 (by decide +kernel) (by decide +kernel)
theorem g378 : (Jvm.Cond.selects "CacheRules" ({ cls := "CacheRules", name := "access", desc := "(IIZ)I" } : Jvm.MethodName) ({ cls := "CacheRules", name := "access", desc := "(IIZ)I" } : Jvm.MethodName)) ∈ GT := gt_at 378 (by decide +kernel) (by decide +kernel)
theorem g379 : (Jvm.Cond.code ({ cls := "CacheRules", name := "access", desc := "(IIZ)I" } : Jvm.MethodName) prog_1_method_4_code (4 : Nat) (Option.some Jvm.ClassFile.FieldType.int)) ∈ GT := gt_at 379 (by decide +kernel) (by decide +kernel)
theorem g380 : (Jvm.Cond.methodLink "CacheRules" (86 : Nat) ({ cls := "CacheRules", name := "isNoPart", desc := "(I)Z" } : Jvm.MethodName)) ∈ GT := gt_at 380 (by decide +kernel) (by decide +kernel)
theorem g381 : (Jvm.Cond.static ({ cls := "CacheRules", name := "isNoPart", desc := "(I)Z" } : Jvm.MethodName)) ∈ GT := gt_at 381 (by decide +kernel) (by decide +kernel)
theorem g382 : (Jvm.Cond.code ({ cls := "CacheRules", name := "isNoPart", desc := "(I)Z" } : Jvm.MethodName) prog_1_method_18_code (1 : Nat) (Option.some Jvm.ClassFile.FieldType.boolean)) ∈ GT := gt_at 382 (by decide +kernel) (by decide +kernel)
theorem g383 : (Jvm.Cond.classLink "CacheRules" (90 : Nat) "java/lang/IndexOutOfBoundsException") ∈ GT := gt_at 383 (by decide +kernel) (by decide +kernel)
theorem g384 : (Jvm.Cond.instantiable "java/lang/IndexOutOfBoundsException" (6 : Nat)) ∈ GT := gt_at 384 (by decide +kernel) (by decide +kernel)
theorem g392 : (Jvm.Cond.selects "java/lang/IndexOutOfBoundsException" ({ cls := "java/lang/Throwable", name := "fillInStackTrace", desc := "(I)Ljava/lang/Throwable;" } : Jvm.MethodName) ({ cls := "java/lang/Throwable", name := "fillInStackTrace", desc := "(I)Ljava/lang/Throwable;" } : Jvm.MethodName)) ∈ GT := gt_at 392 (by decide +kernel) (by decide +kernel)
theorem g393 : (Jvm.Cond.selects "java/lang/IndexOutOfBoundsException" ({ cls := "java/lang/Throwable", name := "fillInStackTrace", desc := "()Ljava/lang/Throwable;" } : Jvm.MethodName) ({ cls := "java/lang/Throwable", name := "fillInStackTrace", desc := "()Ljava/lang/Throwable;" } : Jvm.MethodName)) ∈ GT := gt_at 393 (by decide +kernel) (by decide +kernel)
theorem g404 : (Jvm.Cond.fieldLink "java/lang/Throwable" (198 : Nat) "java/lang/Throwable" "backtrace" "Ljava/lang/Object;") ∈ GT := gt_at 404 (by decide +kernel) (by decide +kernel)
theorem g406 : (Jvm.Cond.instanceMethod ({ cls := "java/lang/Throwable", name := "<init>", desc := "()V" } : Jvm.MethodName)) ∈ GT := gt_at 406 (by decide +kernel) (by decide +kernel)
theorem g407 : (Jvm.Cond.code ({ cls := "java/lang/Throwable", name := "<init>", desc := "()V" } : Jvm.MethodName) prog_22_method_1_code (1 : Nat) (Option.none : Option Jvm.ClassFile.FieldType)) ∈ GT := gt_at 407 (by decide +kernel) (by decide +kernel)
theorem g408 : (Jvm.Cond.methodLink "java/lang/Throwable" (1 : Nat) ({ cls := "java/lang/Object", name := "<init>", desc := "()V" } : Jvm.MethodName)) ∈ GT := gt_at 408 (by decide +kernel) (by decide +kernel)
theorem g409 : (Jvm.Cond.fieldLink "java/lang/Throwable" (13 : Nat) "java/lang/Throwable" "UNASSIGNED_STACK" "[Ljava/lang/StackTraceElement;") ∈ GT := gt_at 409 (by decide +kernel) (by decide +kernel)
theorem g411 : (Jvm.Cond.fieldLink "java/lang/Throwable" (20 : Nat) "java/lang/Throwable" "SUPPRESSED_SENTINEL" "Ljava/util/List;") ∈ GT := gt_at 411 (by decide +kernel) (by decide +kernel)
theorem g413 : (Jvm.Cond.methodLink "java/lang/Throwable" (27 : Nat) ({ cls := "java/lang/Throwable", name := "fillInStackTrace", desc := "()Ljava/lang/Throwable;" } : Jvm.MethodName)) ∈ GT := gt_at 413 (by decide +kernel) (by decide +kernel)
theorem g414 : (Jvm.Cond.instanceMethod ({ cls := "java/lang/Throwable", name := "fillInStackTrace", desc := "()Ljava/lang/Throwable;" } : Jvm.MethodName)) ∈ GT := gt_at 414 (by decide +kernel) (by decide +kernel)
theorem g415 : (Jvm.Cond.sameMethod "java/lang/Throwable" "java/lang/Throwable" "fillInStackTrace" "()Ljava/lang/Throwable;") ∈ GT := gt_at 415 (by decide +kernel) (by decide +kernel)
theorem g416 : (Jvm.Cond.selects "java/lang/IllegalArgumentException" ({ cls := "java/lang/Throwable", name := "fillInStackTrace", desc := "()Ljava/lang/Throwable;" } : Jvm.MethodName) ({ cls := "java/lang/Throwable", name := "fillInStackTrace", desc := "()Ljava/lang/Throwable;" } : Jvm.MethodName)) ∈ GT := gt_at 416 (by decide +kernel) (by decide +kernel)
theorem g417 : (Jvm.Cond.selects "java/lang/UnsupportedOperationException" ({ cls := "java/lang/Throwable", name := "fillInStackTrace", desc := "()Ljava/lang/Throwable;" } : Jvm.MethodName) ({ cls := "java/lang/Throwable", name := "fillInStackTrace", desc := "()Ljava/lang/Throwable;" } : Jvm.MethodName)) ∈ GT := gt_at 417 (by decide +kernel) (by decide +kernel)
theorem g418 : (Jvm.Cond.selects "java/util/NoSuchElementException" ({ cls := "java/lang/Throwable", name := "fillInStackTrace", desc := "()Ljava/lang/Throwable;" } : Jvm.MethodName) ({ cls := "java/lang/Throwable", name := "fillInStackTrace", desc := "()Ljava/lang/Throwable;" } : Jvm.MethodName)) ∈ GT := gt_at 418 (by decide +kernel) (by decide +kernel)
theorem g420 : (Jvm.Cond.methodLink "java/lang/Throwable" (202 : Nat) ({ cls := "java/lang/Throwable", name := "fillInStackTrace", desc := "(I)Ljava/lang/Throwable;" } : Jvm.MethodName)) ∈ GT := gt_at 420 (by decide +kernel) (by decide +kernel)
theorem g422 : (Jvm.Cond.instanceMethod ({ cls := "java/lang/Throwable", name := "fillInStackTrace", desc := "(I)Ljava/lang/Throwable;" } : Jvm.MethodName)) ∈ GT := gt_at 422 (by decide +kernel) (by decide +kernel)
theorem g423 : (Jvm.Cond.instantiable "java/lang/Throwable" (6 : Nat)) ∈ GT := gt_at 423 (by decide +kernel) (by decide +kernel)
theorem g426 : (Jvm.Cond.methodLink "CacheRules" (94 : Nat) ({ cls := "java/lang/IndexOutOfBoundsException", name := "<init>", desc := "(Ljava/lang/String;)V" } : Jvm.MethodName)) ∈ GT := gt_at 426 (by decide +kernel) (by decide +kernel)
theorem g427 : (Jvm.Cond.instanceMethod ({ cls := "java/lang/IndexOutOfBoundsException", name := "<init>", desc := "(Ljava/lang/String;)V" } : Jvm.MethodName)) ∈ GT := gt_at 427 (by decide +kernel) (by decide +kernel)
theorem g428 : (Jvm.Cond.code ({ cls := "java/lang/IndexOutOfBoundsException", name := "<init>", desc := "(Ljava/lang/String;)V" } : Jvm.MethodName) prog_17_method_2_code (2 : Nat) (Option.none : Option Jvm.ClassFile.FieldType)) ∈ GT := gt_at 428 (by decide +kernel) (by decide +kernel)
theorem g429 : (Jvm.Cond.methodLink "java/lang/IndexOutOfBoundsException" (7 : Nat) ({ cls := "java/lang/RuntimeException", name := "<init>", desc := "(Ljava/lang/String;)V" } : Jvm.MethodName)) ∈ GT := gt_at 429 (by decide +kernel) (by decide +kernel)
theorem g430 : (Jvm.Cond.instanceMethod ({ cls := "java/lang/RuntimeException", name := "<init>", desc := "(Ljava/lang/String;)V" } : Jvm.MethodName)) ∈ GT := gt_at 430 (by decide +kernel) (by decide +kernel)
theorem g431 : (Jvm.Cond.code ({ cls := "java/lang/RuntimeException", name := "<init>", desc := "(Ljava/lang/String;)V" } : Jvm.MethodName) prog_20_method_2_code (2 : Nat) (Option.none : Option Jvm.ClassFile.FieldType)) ∈ GT := gt_at 431 (by decide +kernel) (by decide +kernel)
theorem g432 : (Jvm.Cond.methodLink "java/lang/RuntimeException" (7 : Nat) ({ cls := "java/lang/Exception", name := "<init>", desc := "(Ljava/lang/String;)V" } : Jvm.MethodName)) ∈ GT := gt_at 432 (by decide +kernel) (by decide +kernel)
theorem g433 : (Jvm.Cond.instanceMethod ({ cls := "java/lang/Exception", name := "<init>", desc := "(Ljava/lang/String;)V" } : Jvm.MethodName)) ∈ GT := gt_at 433 (by decide +kernel) (by decide +kernel)
theorem g434 : (Jvm.Cond.code ({ cls := "java/lang/Exception", name := "<init>", desc := "(Ljava/lang/String;)V" } : Jvm.MethodName) prog_15_method_2_code (2 : Nat) (Option.none : Option Jvm.ClassFile.FieldType)) ∈ GT := gt_at 434 (by decide +kernel) (by decide +kernel)
theorem g435 : (Jvm.Cond.methodLink "java/lang/Exception" (7 : Nat) ({ cls := "java/lang/Throwable", name := "<init>", desc := "(Ljava/lang/String;)V" } : Jvm.MethodName)) ∈ GT := gt_at 435 (by decide +kernel) (by decide +kernel)
theorem g436 : (Jvm.Cond.instanceMethod ({ cls := "java/lang/Throwable", name := "<init>", desc := "(Ljava/lang/String;)V" } : Jvm.MethodName)) ∈ GT := gt_at 436 (by decide +kernel) (by decide +kernel)
theorem g437 : (Jvm.Cond.code ({ cls := "java/lang/Throwable", name := "<init>", desc := "(Ljava/lang/String;)V" } : Jvm.MethodName) prog_22_method_2_code (2 : Nat) (Option.none : Option Jvm.ClassFile.FieldType)) ∈ GT := gt_at 437 (by decide +kernel) (by decide +kernel)
theorem g438 : (Jvm.Cond.fieldLink "java/lang/Throwable" (198 : Nat) "java/lang/Throwable" "backtrace" "Ljava/lang/Object;") ∈ GT := gt_at 438 (by decide +kernel) (by decide +kernel)
theorem g439 : (Jvm.Cond.fieldLink "java/lang/Throwable" (31 : Nat) "java/lang/Throwable" "detailMessage" "Ljava/lang/String;") ∈ GT := gt_at 439 (by decide +kernel) (by decide +kernel)
theorem g440 : (Jvm.Cond.fieldLink "java/lang/Throwable" (7 : Nat) "java/lang/Throwable" "cause" "Ljava/lang/Throwable;") ∈ GT := gt_at 440 (by decide +kernel) (by decide +kernel)
theorem g441 : (Jvm.Cond.fieldLink "java/lang/Throwable" (17 : Nat) "java/lang/Throwable" "stackTrace" "[Ljava/lang/StackTraceElement;") ∈ GT := gt_at 441 (by decide +kernel) (by decide +kernel)
theorem g442 : (Jvm.Cond.fieldLink "java/lang/Throwable" (24 : Nat) "java/lang/Throwable" "suppressedExceptions" "Ljava/util/List;") ∈ GT := gt_at 442 (by decide +kernel) (by decide +kernel)
theorem g451 : (Jvm.Cond.arrayClass Jvm.ClassFile.FieldType.byte) ∈ GT := gt_at 451 (by decide +kernel) (by decide +kernel)
theorem g452 : (Jvm.Cond.methodLink "CacheRules" (97 : Nat) ({ cls := "CacheRules", name := "perform", desc := "(IIZ)I" } : Jvm.MethodName)) ∈ GT := gt_at 452 (by decide +kernel) (by decide +kernel)
theorem g454 : (Jvm.Cond.instanceMethod ({ cls := "CacheRules", name := "perform", desc := "(IIZ)I" } : Jvm.MethodName)) ∈ GT := gt_at 454 (by decide +kernel) (by decide +kernel)
theorem g455 : (Jvm.Cond.code ({ cls := "CacheRules", name := "perform", desc := "(IIZ)I" } : Jvm.MethodName) prog_1_method_19_code (6 : Nat) (Option.some Jvm.ClassFile.FieldType.int)) ∈ GT := gt_at 455 (by decide +kernel) (by decide +kernel)
theorem g456 : (Jvm.Cond.methodLink "CacheRules" (229 : Nat) ({ cls := "CacheRules$History", name := "note", desc := "(I)V" } : Jvm.MethodName)) ∈ GT := gt_at 456 (by decide +kernel) (by decide +kernel)
theorem g457 : (Jvm.Cond.instanceMethod ({ cls := "CacheRules$History", name := "note", desc := "(I)V" } : Jvm.MethodName)) ∈ GT := gt_at 457 (by decide +kernel) (by decide +kernel)
theorem g458 : (Jvm.Cond.selects "CacheRules$History" ({ cls := "CacheRules$History", name := "note", desc := "(I)V" } : Jvm.MethodName) ({ cls := "CacheRules$History", name := "note", desc := "(I)V" } : Jvm.MethodName)) ∈ GT := gt_at 458 (by decide +kernel) (by decide +kernel)
theorem g459 : (Jvm.Cond.code ({ cls := "CacheRules$History", name := "note", desc := "(I)V" } : Jvm.MethodName) prog_6_method_3_code (4 : Nat) (Option.none : Option Jvm.ClassFile.FieldType)) ∈ GT := gt_at 459 (by decide +kernel) (by decide +kernel)
theorem g460 : (Jvm.Cond.methodLink "CacheRules$History" (22 : Nat) ({ cls := "CacheRules$History", name := "find", desc := "(I)I" } : Jvm.MethodName)) ∈ GT := gt_at 460 (by decide +kernel) (by decide +kernel)
theorem g461 : (Jvm.Cond.methodLink "CacheRules" (232 : Nat) ({ cls := "CacheRules", name := "reach", desc := "(IIZ)I" } : Jvm.MethodName)) ∈ GT := gt_at 461 (by decide +kernel) (by decide +kernel)
theorem g463 : (Jvm.Cond.instanceMethod ({ cls := "CacheRules", name := "reach", desc := "(IIZ)I" } : Jvm.MethodName)) ∈ GT := gt_at 463 (by decide +kernel) (by decide +kernel)
theorem g464 : (Jvm.Cond.code ({ cls := "CacheRules", name := "reach", desc := "(IIZ)I" } : Jvm.MethodName) prog_1_method_20_code (6 : Nat) (Option.some Jvm.ClassFile.FieldType.int)) ∈ GT := gt_at 464 (by decide +kernel) (by decide +kernel)
theorem g465 : (Jvm.Cond.methodLink "CacheRules" (238 : Nat) ({ cls := "CacheRules$Ways", name := "setOf", desc := "(I)I" } : Jvm.MethodName)) ∈ GT := gt_at 465 (by decide +kernel) (by decide +kernel)
theorem g466 : (Jvm.Cond.methodLink "CacheRules" (241 : Nat) ({ cls := "CacheRules", name := "useWay", desc := "(III)I" } : Jvm.MethodName)) ∈ GT := gt_at 466 (by decide +kernel) (by decide +kernel)
theorem g468 : (Jvm.Cond.instanceMethod ({ cls := "CacheRules", name := "useWay", desc := "(III)I" } : Jvm.MethodName)) ∈ GT := gt_at 468 (by decide +kernel) (by decide +kernel)
theorem g469 : (Jvm.Cond.code ({ cls := "CacheRules", name := "useWay", desc := "(III)I" } : Jvm.MethodName) prog_1_method_21_code (4 : Nat) (Option.some Jvm.ClassFile.FieldType.int)) ∈ GT := gt_at 469 (by decide +kernel) (by decide +kernel)
theorem g470 : (Jvm.Cond.methodLink "CacheRules" (254 : Nat) ({ cls := "CacheRules$Rule", name := "use", desc := "(II)V" } : Jvm.MethodName)) ∈ GT := gt_at 470 (by decide +kernel) (by decide +kernel)
theorem g472 : (Jvm.Cond.sameMethod "CacheRules$Rule" "CacheRules$Rule" "use" "(II)V") ∈ GT := gt_at 472 (by decide +kernel) (by decide +kernel)
theorem g473 : (Jvm.Cond.selects "CacheRules$AgeRule" ({ cls := "CacheRules$Rule", name := "use", desc := "(II)V" } : Jvm.MethodName) ({ cls := "CacheRules$AgeRule", name := "use", desc := "(II)V" } : Jvm.MethodName)) ∈ GT := gt_at 473 (by decide +kernel) (by decide +kernel)
theorem g474 : (Jvm.Cond.instanceMethod ({ cls := "CacheRules$AgeRule", name := "use", desc := "(II)V" } : Jvm.MethodName)) ∈ GT := gt_at 474 (by decide +kernel) (by decide +kernel)
theorem g475 : (Jvm.Cond.code ({ cls := "CacheRules$AgeRule", name := "use", desc := "(II)V" } : Jvm.MethodName) prog_2_method_2_code (3 : Nat) (Option.none : Option Jvm.ClassFile.FieldType)) ∈ GT := gt_at 475 (by decide +kernel) (by decide +kernel)
theorem g476 : (Jvm.Cond.selects "CacheRules$ChanceRule" ({ cls := "CacheRules$Rule", name := "use", desc := "(II)V" } : Jvm.MethodName) ({ cls := "CacheRules$ChanceRule", name := "use", desc := "(II)V" } : Jvm.MethodName)) ∈ GT := gt_at 476 (by decide +kernel) (by decide +kernel)
theorem g477 : (Jvm.Cond.instanceMethod ({ cls := "CacheRules$ChanceRule", name := "use", desc := "(II)V" } : Jvm.MethodName)) ∈ GT := gt_at 477 (by decide +kernel) (by decide +kernel)
theorem g478 : (Jvm.Cond.code ({ cls := "CacheRules$ChanceRule", name := "use", desc := "(II)V" } : Jvm.MethodName) prog_5_method_2_code (3 : Nat) (Option.none : Option Jvm.ClassFile.FieldType)) ∈ GT := gt_at 478 (by decide +kernel) (by decide +kernel)
theorem g479 : (Jvm.Cond.selects "CacheRules$LatelyRule" ({ cls := "CacheRules$Rule", name := "use", desc := "(II)V" } : Jvm.MethodName) ({ cls := "CacheRules$LatelyRule", name := "use", desc := "(II)V" } : Jvm.MethodName)) ∈ GT := gt_at 479 (by decide +kernel) (by decide +kernel)
theorem g480 : (Jvm.Cond.instanceMethod ({ cls := "CacheRules$LatelyRule", name := "use", desc := "(II)V" } : Jvm.MethodName)) ∈ GT := gt_at 480 (by decide +kernel) (by decide +kernel)
theorem g481 : (Jvm.Cond.code ({ cls := "CacheRules$LatelyRule", name := "use", desc := "(II)V" } : Jvm.MethodName) prog_7_method_3_code (3 : Nat) (Option.none : Option Jvm.ClassFile.FieldType)) ∈ GT := gt_at 481 (by decide +kernel) (by decide +kernel)
theorem g482 : (Jvm.Cond.methodLink "CacheRules$LatelyRule" (17 : Nat) ({ cls := "CacheRules$LatelyRule", name := "setMark", desc := "(II)V" } : Jvm.MethodName)) ∈ GT := gt_at 482 (by decide +kernel) (by decide +kernel)
theorem g484 : (Jvm.Cond.instanceMethod ({ cls := "CacheRules$LatelyRule", name := "setMark", desc := "(II)V" } : Jvm.MethodName)) ∈ GT := gt_at 484 (by decide +kernel) (by decide +kernel)
theorem g485 : (Jvm.Cond.code ({ cls := "CacheRules$LatelyRule", name := "setMark", desc := "(II)V" } : Jvm.MethodName) prog_7_method_2_code (5 : Nat) (Option.none : Option Jvm.ClassFile.FieldType)) ∈ GT := gt_at 485 (by decide +kernel) (by decide +kernel)
theorem g486 : (Jvm.Cond.selects "CacheRules$RoundRule" ({ cls := "CacheRules$Rule", name := "use", desc := "(II)V" } : Jvm.MethodName) ({ cls := "CacheRules$RoundRule", name := "use", desc := "(II)V" } : Jvm.MethodName)) ∈ GT := gt_at 486 (by decide +kernel) (by decide +kernel)
theorem g487 : (Jvm.Cond.instanceMethod ({ cls := "CacheRules$RoundRule", name := "use", desc := "(II)V" } : Jvm.MethodName)) ∈ GT := gt_at 487 (by decide +kernel) (by decide +kernel)
theorem g488 : (Jvm.Cond.code ({ cls := "CacheRules$RoundRule", name := "use", desc := "(II)V" } : Jvm.MethodName) prog_8_method_2_code (3 : Nat) (Option.none : Option Jvm.ClassFile.FieldType)) ∈ GT := gt_at 488 (by decide +kernel) (by decide +kernel)
theorem g489 : (Jvm.Cond.selects "CacheRules$TimeRule" ({ cls := "CacheRules$Rule", name := "use", desc := "(II)V" } : Jvm.MethodName) ({ cls := "CacheRules$TimeRule", name := "use", desc := "(II)V" } : Jvm.MethodName)) ∈ GT := gt_at 489 (by decide +kernel) (by decide +kernel)
theorem g490 : (Jvm.Cond.instanceMethod ({ cls := "CacheRules$TimeRule", name := "use", desc := "(II)V" } : Jvm.MethodName)) ∈ GT := gt_at 490 (by decide +kernel) (by decide +kernel)
theorem g491 : (Jvm.Cond.code ({ cls := "CacheRules$TimeRule", name := "use", desc := "(II)V" } : Jvm.MethodName) prog_10_method_2_code (4 : Nat) (Option.none : Option Jvm.ClassFile.FieldType)) ∈ GT := gt_at 491 (by decide +kernel) (by decide +kernel)
theorem g492 : (Jvm.Cond.selects "CacheRules$TreeRule" ({ cls := "CacheRules$Rule", name := "use", desc := "(II)V" } : Jvm.MethodName) ({ cls := "CacheRules$TreeRule", name := "use", desc := "(II)V" } : Jvm.MethodName)) ∈ GT := gt_at 492 (by decide +kernel) (by decide +kernel)
theorem g493 : (Jvm.Cond.instanceMethod ({ cls := "CacheRules$TreeRule", name := "use", desc := "(II)V" } : Jvm.MethodName)) ∈ GT := gt_at 493 (by decide +kernel) (by decide +kernel)
theorem g494 : (Jvm.Cond.code ({ cls := "CacheRules$TreeRule", name := "use", desc := "(II)V" } : Jvm.MethodName) prog_11_method_3_code (3 : Nat) (Option.none : Option Jvm.ClassFile.FieldType)) ∈ GT := gt_at 494 (by decide +kernel) (by decide +kernel)
theorem g495 : (Jvm.Cond.methodLink "CacheRules$TreeRule" (19 : Nat) ({ cls := "CacheRules$TreeRule", name := "pointAway", desc := "(II)V" } : Jvm.MethodName)) ∈ GT := gt_at 495 (by decide +kernel) (by decide +kernel)
theorem g497 : (Jvm.Cond.instanceMethod ({ cls := "CacheRules$TreeRule", name := "pointAway", desc := "(II)V" } : Jvm.MethodName)) ∈ GT := gt_at 497 (by decide +kernel) (by decide +kernel)
theorem g498 : (Jvm.Cond.code ({ cls := "CacheRules$TreeRule", name := "pointAway", desc := "(II)V" } : Jvm.MethodName) prog_11_method_2_code (6 : Nat) (Option.none : Option Jvm.ClassFile.FieldType)) ∈ GT := gt_at 498 (by decide +kernel) (by decide +kernel)
theorem g499 : (Jvm.Cond.methodLink "CacheRules" (245 : Nat) ({ cls := "CacheRules", name := "recall", desc := "(II)I" } : Jvm.MethodName)) ∈ GT := gt_at 499 (by decide +kernel) (by decide +kernel)
theorem g501 : (Jvm.Cond.instanceMethod ({ cls := "CacheRules", name := "recall", desc := "(II)I" } : Jvm.MethodName)) ∈ GT := gt_at 501 (by decide +kernel) (by decide +kernel)
theorem g502 : (Jvm.Cond.code ({ cls := "CacheRules", name := "recall", desc := "(II)I" } : Jvm.MethodName) prog_1_method_22_code (6 : Nat) (Option.some Jvm.ClassFile.FieldType.int)) ∈ GT := gt_at 502 (by decide +kernel) (by decide +kernel)
theorem g503 : (Jvm.Cond.methodLink "CacheRules" (248 : Nat) ({ cls := "CacheRules$Ways", name := "allLocked", desc := "(I)Z" } : Jvm.MethodName)) ∈ GT := gt_at 503 (by decide +kernel) (by decide +kernel)
theorem g504 : (Jvm.Cond.instanceMethod ({ cls := "CacheRules$Ways", name := "allLocked", desc := "(I)Z" } : Jvm.MethodName)) ∈ GT := gt_at 504 (by decide +kernel) (by decide +kernel)
theorem g505 : (Jvm.Cond.selects "CacheRules$Ways" ({ cls := "CacheRules$Ways", name := "allLocked", desc := "(I)Z" } : Jvm.MethodName) ({ cls := "CacheRules$Ways", name := "allLocked", desc := "(I)Z" } : Jvm.MethodName)) ∈ GT := gt_at 505 (by decide +kernel) (by decide +kernel)
theorem g506 : (Jvm.Cond.code ({ cls := "CacheRules$Ways", name := "allLocked", desc := "(I)Z" } : Jvm.MethodName) prog_12_method_5_code (3 : Nat) (Option.some Jvm.ClassFile.FieldType.boolean)) ∈ GT := gt_at 506 (by decide +kernel) (by decide +kernel)
theorem g507 : (Jvm.Cond.methodLink "CacheRules" (251 : Nat) ({ cls := "CacheRules", name := "place", desc := "(III)V" } : Jvm.MethodName)) ∈ GT := gt_at 507 (by decide +kernel) (by decide +kernel)
theorem g509 : (Jvm.Cond.instanceMethod ({ cls := "CacheRules", name := "place", desc := "(III)V" } : Jvm.MethodName)) ∈ GT := gt_at 509 (by decide +kernel) (by decide +kernel)
theorem g510 : (Jvm.Cond.code ({ cls := "CacheRules", name := "place", desc := "(III)V" } : Jvm.MethodName) prog_1_method_23_code (6 : Nat) (Option.none : Option Jvm.ClassFile.FieldType)) ∈ GT := gt_at 510 (by decide +kernel) (by decide +kernel)
theorem g511 : (Jvm.Cond.methodLink "CacheRules" (201 : Nat) ({ cls := "CacheRules$Ways", name := "emptyWay", desc := "(I)I" } : Jvm.MethodName)) ∈ GT := gt_at 511 (by decide +kernel) (by decide +kernel)
theorem g512 : (Jvm.Cond.instanceMethod ({ cls := "CacheRules$Ways", name := "emptyWay", desc := "(I)I" } : Jvm.MethodName)) ∈ GT := gt_at 512 (by decide +kernel) (by decide +kernel)
theorem g513 : (Jvm.Cond.selects "CacheRules$Ways" ({ cls := "CacheRules$Ways", name := "emptyWay", desc := "(I)I" } : Jvm.MethodName) ({ cls := "CacheRules$Ways", name := "emptyWay", desc := "(I)I" } : Jvm.MethodName)) ∈ GT := gt_at 513 (by decide +kernel) (by decide +kernel)
theorem g514 : (Jvm.Cond.code ({ cls := "CacheRules$Ways", name := "emptyWay", desc := "(I)I" } : Jvm.MethodName) prog_12_method_4_code (3 : Nat) (Option.some Jvm.ClassFile.FieldType.int)) ∈ GT := gt_at 514 (by decide +kernel) (by decide +kernel)
theorem g515 : (Jvm.Cond.methodLink "CacheRules" (204 : Nat) ({ cls := "CacheRules$Rule", name := "choose", desc := "(I[Z)I" } : Jvm.MethodName)) ∈ GT := gt_at 515 (by decide +kernel) (by decide +kernel)
theorem g517 : (Jvm.Cond.sameMethod "CacheRules$Rule" "CacheRules$Rule" "choose" "(I[Z)I") ∈ GT := gt_at 517 (by decide +kernel) (by decide +kernel)
theorem g518 : (Jvm.Cond.selects "CacheRules$AgeRule" ({ cls := "CacheRules$Rule", name := "choose", desc := "(I[Z)I" } : Jvm.MethodName) ({ cls := "CacheRules$AgeRule", name := "choose", desc := "(I[Z)I" } : Jvm.MethodName)) ∈ GT := gt_at 518 (by decide +kernel) (by decide +kernel)
theorem g519 : (Jvm.Cond.instanceMethod ({ cls := "CacheRules$AgeRule", name := "choose", desc := "(I[Z)I" } : Jvm.MethodName)) ∈ GT := gt_at 519 (by decide +kernel) (by decide +kernel)
theorem g520 : (Jvm.Cond.code ({ cls := "CacheRules$AgeRule", name := "choose", desc := "(I[Z)I" } : Jvm.MethodName) prog_2_method_4_code (6 : Nat) (Option.some Jvm.ClassFile.FieldType.int)) ∈ GT := gt_at 520 (by decide +kernel) (by decide +kernel)
theorem g521 : (Jvm.Cond.selects "CacheRules$ChanceRule" ({ cls := "CacheRules$Rule", name := "choose", desc := "(I[Z)I" } : Jvm.MethodName) ({ cls := "CacheRules$ChanceRule", name := "choose", desc := "(I[Z)I" } : Jvm.MethodName)) ∈ GT := gt_at 521 (by decide +kernel) (by decide +kernel)
theorem g522 : (Jvm.Cond.instanceMethod ({ cls := "CacheRules$ChanceRule", name := "choose", desc := "(I[Z)I" } : Jvm.MethodName)) ∈ GT := gt_at 522 (by decide +kernel) (by decide +kernel)
theorem g523 : (Jvm.Cond.code ({ cls := "CacheRules$ChanceRule", name := "choose", desc := "(I[Z)I" } : Jvm.MethodName) prog_5_method_4_code (6 : Nat) (Option.some Jvm.ClassFile.FieldType.int)) ∈ GT := gt_at 523 (by decide +kernel) (by decide +kernel)
theorem g524 : (Jvm.Cond.constant "CacheRules$ChanceRule" (18 : Nat) (65536 : Int32)) ∈ GT := gt_at 524 (by decide +kernel) (by decide +kernel)
theorem g525 : (Jvm.Cond.selects "CacheRules$LatelyRule" ({ cls := "CacheRules$Rule", name := "choose", desc := "(I[Z)I" } : Jvm.MethodName) ({ cls := "CacheRules$LatelyRule", name := "choose", desc := "(I[Z)I" } : Jvm.MethodName)) ∈ GT := gt_at 525 (by decide +kernel) (by decide +kernel)
theorem g526 : (Jvm.Cond.instanceMethod ({ cls := "CacheRules$LatelyRule", name := "choose", desc := "(I[Z)I" } : Jvm.MethodName)) ∈ GT := gt_at 526 (by decide +kernel) (by decide +kernel)
theorem g527 : (Jvm.Cond.code ({ cls := "CacheRules$LatelyRule", name := "choose", desc := "(I[Z)I" } : Jvm.MethodName) prog_7_method_5_code (3 : Nat) (Option.some Jvm.ClassFile.FieldType.int)) ∈ GT := gt_at 527 (by decide +kernel) (by decide +kernel)
theorem g528 : (Jvm.Cond.methodLink "CacheRules$LatelyRule" (21 : Nat) ({ cls := "CacheRules$LatelyRule", name := "firstUnmarked", desc := "(II[Z[Z)I" } : Jvm.MethodName)) ∈ GT := gt_at 528 (by decide +kernel) (by decide +kernel)
theorem g529 : (Jvm.Cond.sameMethod "CacheRules$LatelyRule" "CacheRules$Rule" "firstUnmarked" "(II[Z[Z)I") ∈ GT := gt_at 529 (by decide +kernel) (by decide +kernel)
theorem g531 : (Jvm.Cond.selects "CacheRules$LatelyRule" ({ cls := "CacheRules$LatelyRule", name := "firstUnmarked", desc := "(II[Z[Z)I" } : Jvm.MethodName) ({ cls := "CacheRules$Rule", name := "firstUnmarked", desc := "(II[Z[Z)I" } : Jvm.MethodName)) ∈ GT := gt_at 531 (by decide +kernel) (by decide +kernel)
theorem g532 : (Jvm.Cond.instanceMethod ({ cls := "CacheRules$Rule", name := "firstUnmarked", desc := "(II[Z[Z)I" } : Jvm.MethodName)) ∈ GT := gt_at 532 (by decide +kernel) (by decide +kernel)
theorem g533 : (Jvm.Cond.code ({ cls := "CacheRules$Rule", name := "firstUnmarked", desc := "(II[Z[Z)I" } : Jvm.MethodName) prog_9_method_6_code (8 : Nat) (Option.some Jvm.ClassFile.FieldType.int)) ∈ GT := gt_at 533 (by decide +kernel) (by decide +kernel)
theorem g534 : (Jvm.Cond.selects "CacheRules$RoundRule" ({ cls := "CacheRules$Rule", name := "choose", desc := "(I[Z)I" } : Jvm.MethodName) ({ cls := "CacheRules$RoundRule", name := "choose", desc := "(I[Z)I" } : Jvm.MethodName)) ∈ GT := gt_at 534 (by decide +kernel) (by decide +kernel)
theorem g535 : (Jvm.Cond.instanceMethod ({ cls := "CacheRules$RoundRule", name := "choose", desc := "(I[Z)I" } : Jvm.MethodName)) ∈ GT := gt_at 535 (by decide +kernel) (by decide +kernel)
theorem g536 : (Jvm.Cond.code ({ cls := "CacheRules$RoundRule", name := "choose", desc := "(I[Z)I" } : Jvm.MethodName) prog_8_method_4_code (3 : Nat) (Option.some Jvm.ClassFile.FieldType.int)) ∈ GT := gt_at 536 (by decide +kernel) (by decide +kernel)
theorem g537 : (Jvm.Cond.methodLink "CacheRules$RoundRule" (21 : Nat) ({ cls := "CacheRules$RoundRule", name := "firstUnmarked", desc := "(II[Z[Z)I" } : Jvm.MethodName)) ∈ GT := gt_at 537 (by decide +kernel) (by decide +kernel)
theorem g538 : (Jvm.Cond.sameMethod "CacheRules$RoundRule" "CacheRules$Rule" "firstUnmarked" "(II[Z[Z)I") ∈ GT := gt_at 538 (by decide +kernel) (by decide +kernel)
theorem g539 : (Jvm.Cond.selects "CacheRules$RoundRule" ({ cls := "CacheRules$RoundRule", name := "firstUnmarked", desc := "(II[Z[Z)I" } : Jvm.MethodName) ({ cls := "CacheRules$Rule", name := "firstUnmarked", desc := "(II[Z[Z)I" } : Jvm.MethodName)) ∈ GT := gt_at 539 (by decide +kernel) (by decide +kernel)
theorem g540 : (Jvm.Cond.selects "CacheRules$TimeRule" ({ cls := "CacheRules$Rule", name := "choose", desc := "(I[Z)I" } : Jvm.MethodName) ({ cls := "CacheRules$TimeRule", name := "choose", desc := "(I[Z)I" } : Jvm.MethodName)) ∈ GT := gt_at 540 (by decide +kernel) (by decide +kernel)
theorem g541 : (Jvm.Cond.instanceMethod ({ cls := "CacheRules$TimeRule", name := "choose", desc := "(I[Z)I" } : Jvm.MethodName)) ∈ GT := gt_at 541 (by decide +kernel) (by decide +kernel)
theorem g542 : (Jvm.Cond.code ({ cls := "CacheRules$TimeRule", name := "choose", desc := "(I[Z)I" } : Jvm.MethodName) prog_10_method_4_code (6 : Nat) (Option.some Jvm.ClassFile.FieldType.int)) ∈ GT := gt_at 542 (by decide +kernel) (by decide +kernel)
theorem g543 : (Jvm.Cond.methodLink "CacheRules$TimeRule" (34 : Nat) ({ cls := "CacheRules$TimeRule", name := "goesSooner", desc := "(II)Z" } : Jvm.MethodName)) ∈ GT := gt_at 543 (by decide +kernel) (by decide +kernel)
theorem g545 : (Jvm.Cond.instanceMethod ({ cls := "CacheRules$TimeRule", name := "goesSooner", desc := "(II)Z" } : Jvm.MethodName)) ∈ GT := gt_at 545 (by decide +kernel) (by decide +kernel)
theorem g546 : (Jvm.Cond.code ({ cls := "CacheRules$TimeRule", name := "goesSooner", desc := "(II)Z" } : Jvm.MethodName) prog_10_method_5_code (3 : Nat) (Option.some Jvm.ClassFile.FieldType.boolean)) ∈ GT := gt_at 546 (by decide +kernel) (by decide +kernel)
theorem g547 : (Jvm.Cond.selects "CacheRules$TreeRule" ({ cls := "CacheRules$Rule", name := "choose", desc := "(I[Z)I" } : Jvm.MethodName) ({ cls := "CacheRules$TreeRule", name := "choose", desc := "(I[Z)I" } : Jvm.MethodName)) ∈ GT := gt_at 547 (by decide +kernel) (by decide +kernel)
theorem g548 : (Jvm.Cond.instanceMethod ({ cls := "CacheRules$TreeRule", name := "choose", desc := "(I[Z)I" } : Jvm.MethodName)) ∈ GT := gt_at 548 (by decide +kernel) (by decide +kernel)
theorem g549 : (Jvm.Cond.code ({ cls := "CacheRules$TreeRule", name := "choose", desc := "(I[Z)I" } : Jvm.MethodName) prog_11_method_5_code (6 : Nat) (Option.some Jvm.ClassFile.FieldType.int)) ∈ GT := gt_at 549 (by decide +kernel) (by decide +kernel)
theorem g550 : (Jvm.Cond.methodLink "CacheRules" (257 : Nat) ({ cls := "CacheRules$Rule", name := "settle", desc := "(II[Z)V" } : Jvm.MethodName)) ∈ GT := gt_at 550 (by decide +kernel) (by decide +kernel)
theorem g552 : (Jvm.Cond.sameMethod "CacheRules$Rule" "CacheRules$Rule" "settle" "(II[Z)V") ∈ GT := gt_at 552 (by decide +kernel) (by decide +kernel)
theorem g553 : (Jvm.Cond.selects "CacheRules$AgeRule" ({ cls := "CacheRules$Rule", name := "settle", desc := "(II[Z)V" } : Jvm.MethodName) ({ cls := "CacheRules$AgeRule", name := "settle", desc := "(II[Z)V" } : Jvm.MethodName)) ∈ GT := gt_at 553 (by decide +kernel) (by decide +kernel)
theorem g554 : (Jvm.Cond.instanceMethod ({ cls := "CacheRules$AgeRule", name := "settle", desc := "(II[Z)V" } : Jvm.MethodName)) ∈ GT := gt_at 554 (by decide +kernel) (by decide +kernel)
theorem g555 : (Jvm.Cond.code ({ cls := "CacheRules$AgeRule", name := "settle", desc := "(II[Z)V" } : Jvm.MethodName) prog_2_method_5_code (6 : Nat) (Option.none : Option Jvm.ClassFile.FieldType)) ∈ GT := gt_at 555 (by decide +kernel) (by decide +kernel)
theorem g556 : (Jvm.Cond.selects "CacheRules$ChanceRule" ({ cls := "CacheRules$Rule", name := "settle", desc := "(II[Z)V" } : Jvm.MethodName) ({ cls := "CacheRules$ChanceRule", name := "settle", desc := "(II[Z)V" } : Jvm.MethodName)) ∈ GT := gt_at 556 (by decide +kernel) (by decide +kernel)
theorem g557 : (Jvm.Cond.instanceMethod ({ cls := "CacheRules$ChanceRule", name := "settle", desc := "(II[Z)V" } : Jvm.MethodName)) ∈ GT := gt_at 557 (by decide +kernel) (by decide +kernel)
theorem g558 : (Jvm.Cond.code ({ cls := "CacheRules$ChanceRule", name := "settle", desc := "(II[Z)V" } : Jvm.MethodName) prog_5_method_5_code (4 : Nat) (Option.none : Option Jvm.ClassFile.FieldType)) ∈ GT := gt_at 558 (by decide +kernel) (by decide +kernel)
theorem g559 : (Jvm.Cond.constant "CacheRules$ChanceRule" (19 : Nat) (1103515245 : Int32)) ∈ GT := gt_at 559 (by decide +kernel) (by decide +kernel)
theorem g560 : (Jvm.Cond.constant "CacheRules$ChanceRule" (20 : Nat) (2147483647 : Int32)) ∈ GT := gt_at 560 (by decide +kernel) (by decide +kernel)
theorem g561 : (Jvm.Cond.selects "CacheRules$LatelyRule" ({ cls := "CacheRules$Rule", name := "settle", desc := "(II[Z)V" } : Jvm.MethodName) ({ cls := "CacheRules$LatelyRule", name := "settle", desc := "(II[Z)V" } : Jvm.MethodName)) ∈ GT := gt_at 561 (by decide +kernel) (by decide +kernel)
theorem g562 : (Jvm.Cond.instanceMethod ({ cls := "CacheRules$LatelyRule", name := "settle", desc := "(II[Z)V" } : Jvm.MethodName)) ∈ GT := gt_at 562 (by decide +kernel) (by decide +kernel)
theorem g563 : (Jvm.Cond.code ({ cls := "CacheRules$LatelyRule", name := "settle", desc := "(II[Z)V" } : Jvm.MethodName) prog_7_method_6_code (4 : Nat) (Option.none : Option Jvm.ClassFile.FieldType)) ∈ GT := gt_at 563 (by decide +kernel) (by decide +kernel)
theorem g564 : (Jvm.Cond.selects "CacheRules$RoundRule" ({ cls := "CacheRules$Rule", name := "settle", desc := "(II[Z)V" } : Jvm.MethodName) ({ cls := "CacheRules$RoundRule", name := "settle", desc := "(II[Z)V" } : Jvm.MethodName)) ∈ GT := gt_at 564 (by decide +kernel) (by decide +kernel)
theorem g565 : (Jvm.Cond.instanceMethod ({ cls := "CacheRules$RoundRule", name := "settle", desc := "(II[Z)V" } : Jvm.MethodName)) ∈ GT := gt_at 565 (by decide +kernel) (by decide +kernel)
theorem g566 : (Jvm.Cond.code ({ cls := "CacheRules$RoundRule", name := "settle", desc := "(II[Z)V" } : Jvm.MethodName) prog_8_method_5_code (7 : Nat) (Option.none : Option Jvm.ClassFile.FieldType)) ∈ GT := gt_at 566 (by decide +kernel) (by decide +kernel)
theorem g567 : (Jvm.Cond.selects "CacheRules$TimeRule" ({ cls := "CacheRules$Rule", name := "settle", desc := "(II[Z)V" } : Jvm.MethodName) ({ cls := "CacheRules$TimeRule", name := "settle", desc := "(II[Z)V" } : Jvm.MethodName)) ∈ GT := gt_at 567 (by decide +kernel) (by decide +kernel)
theorem g568 : (Jvm.Cond.instanceMethod ({ cls := "CacheRules$TimeRule", name := "settle", desc := "(II[Z)V" } : Jvm.MethodName)) ∈ GT := gt_at 568 (by decide +kernel) (by decide +kernel)
theorem g569 : (Jvm.Cond.code ({ cls := "CacheRules$TimeRule", name := "settle", desc := "(II[Z)V" } : Jvm.MethodName) prog_10_method_6_code (4 : Nat) (Option.none : Option Jvm.ClassFile.FieldType)) ∈ GT := gt_at 569 (by decide +kernel) (by decide +kernel)
theorem g570 : (Jvm.Cond.selects "CacheRules$TreeRule" ({ cls := "CacheRules$Rule", name := "settle", desc := "(II[Z)V" } : Jvm.MethodName) ({ cls := "CacheRules$TreeRule", name := "settle", desc := "(II[Z)V" } : Jvm.MethodName)) ∈ GT := gt_at 570 (by decide +kernel) (by decide +kernel)
theorem g571 : (Jvm.Cond.instanceMethod ({ cls := "CacheRules$TreeRule", name := "settle", desc := "(II[Z)V" } : Jvm.MethodName)) ∈ GT := gt_at 571 (by decide +kernel) (by decide +kernel)
theorem g572 : (Jvm.Cond.code ({ cls := "CacheRules$TreeRule", name := "settle", desc := "(II[Z)V" } : Jvm.MethodName) prog_11_method_6_code (4 : Nat) (Option.none : Option Jvm.ClassFile.FieldType)) ∈ GT := gt_at 572 (by decide +kernel) (by decide +kernel)
theorem g573 : (Jvm.Cond.methodLink "CacheRules" (261 : Nat) ({ cls := "CacheRules", name := "putOut", desc := "(I)V" } : Jvm.MethodName)) ∈ GT := gt_at 573 (by decide +kernel) (by decide +kernel)
theorem g575 : (Jvm.Cond.instanceMethod ({ cls := "CacheRules", name := "putOut", desc := "(I)V" } : Jvm.MethodName)) ∈ GT := gt_at 575 (by decide +kernel) (by decide +kernel)
theorem g576 : (Jvm.Cond.code ({ cls := "CacheRules", name := "putOut", desc := "(I)V" } : Jvm.MethodName) prog_1_method_24_code (2 : Nat) (Option.none : Option Jvm.ClassFile.FieldType)) ∈ GT := gt_at 576 (by decide +kernel) (by decide +kernel)
theorem g577 : (Jvm.Cond.methodLink "CacheRules" (274 : Nat) ({ cls := "CacheRules$CatchingRows", name := "add", desc := "(III)V" } : Jvm.MethodName)) ∈ GT := gt_at 577 (by decide +kernel) (by decide +kernel)
theorem g578 : (Jvm.Cond.instanceMethod ({ cls := "CacheRules$CatchingRows", name := "add", desc := "(III)V" } : Jvm.MethodName)) ∈ GT := gt_at 578 (by decide +kernel) (by decide +kernel)
theorem g579 : (Jvm.Cond.selects "CacheRules$CatchingRows" ({ cls := "CacheRules$CatchingRows", name := "add", desc := "(III)V" } : Jvm.MethodName) ({ cls := "CacheRules$CatchingRows", name := "add", desc := "(III)V" } : Jvm.MethodName)) ∈ GT := gt_at 579 (by decide +kernel) (by decide +kernel)
theorem g580 : (Jvm.Cond.code ({ cls := "CacheRules$CatchingRows", name := "add", desc := "(III)V" } : Jvm.MethodName) prog_4_method_3_code (4 : Nat) (Option.none : Option Jvm.ClassFile.FieldType)) ∈ GT := gt_at 580 (by decide +kernel) (by decide +kernel)
theorem g581 : (Jvm.Cond.methodLink "CacheRules" (264 : Nat) ({ cls := "CacheRules$Ways", name := "put", desc := "(IIII)V" } : Jvm.MethodName)) ∈ GT := gt_at 581 (by decide +kernel) (by decide +kernel)
theorem g582 : (Jvm.Cond.instanceMethod ({ cls := "CacheRules$Ways", name := "put", desc := "(IIII)V" } : Jvm.MethodName)) ∈ GT := gt_at 582 (by decide +kernel) (by decide +kernel)
theorem g583 : (Jvm.Cond.selects "CacheRules$Ways" ({ cls := "CacheRules$Ways", name := "put", desc := "(IIII)V" } : Jvm.MethodName) ({ cls := "CacheRules$Ways", name := "put", desc := "(IIII)V" } : Jvm.MethodName)) ∈ GT := gt_at 583 (by decide +kernel) (by decide +kernel)
theorem g584 : (Jvm.Cond.code ({ cls := "CacheRules$Ways", name := "put", desc := "(IIII)V" } : Jvm.MethodName) prog_12_method_6_code (5 : Nat) (Option.none : Option Jvm.ClassFile.FieldType)) ∈ GT := gt_at 584 (by decide +kernel) (by decide +kernel)
theorem g585 : (Jvm.Cond.methodLink "CacheRules" (268 : Nat) ({ cls := "CacheRules$Rule", name := "come", desc := "(II)V" } : Jvm.MethodName)) ∈ GT := gt_at 585 (by decide +kernel) (by decide +kernel)
theorem g587 : (Jvm.Cond.sameMethod "CacheRules$Rule" "CacheRules$Rule" "come" "(II)V") ∈ GT := gt_at 587 (by decide +kernel) (by decide +kernel)
theorem g588 : (Jvm.Cond.selects "CacheRules$AgeRule" ({ cls := "CacheRules$Rule", name := "come", desc := "(II)V" } : Jvm.MethodName) ({ cls := "CacheRules$AgeRule", name := "come", desc := "(II)V" } : Jvm.MethodName)) ∈ GT := gt_at 588 (by decide +kernel) (by decide +kernel)
theorem g589 : (Jvm.Cond.instanceMethod ({ cls := "CacheRules$AgeRule", name := "come", desc := "(II)V" } : Jvm.MethodName)) ∈ GT := gt_at 589 (by decide +kernel) (by decide +kernel)
theorem g590 : (Jvm.Cond.code ({ cls := "CacheRules$AgeRule", name := "come", desc := "(II)V" } : Jvm.MethodName) prog_2_method_3_code (3 : Nat) (Option.none : Option Jvm.ClassFile.FieldType)) ∈ GT := gt_at 590 (by decide +kernel) (by decide +kernel)
theorem g591 : (Jvm.Cond.selects "CacheRules$ChanceRule" ({ cls := "CacheRules$Rule", name := "come", desc := "(II)V" } : Jvm.MethodName) ({ cls := "CacheRules$ChanceRule", name := "come", desc := "(II)V" } : Jvm.MethodName)) ∈ GT := gt_at 591 (by decide +kernel) (by decide +kernel)
theorem g592 : (Jvm.Cond.instanceMethod ({ cls := "CacheRules$ChanceRule", name := "come", desc := "(II)V" } : Jvm.MethodName)) ∈ GT := gt_at 592 (by decide +kernel) (by decide +kernel)
theorem g593 : (Jvm.Cond.code ({ cls := "CacheRules$ChanceRule", name := "come", desc := "(II)V" } : Jvm.MethodName) prog_5_method_3_code (3 : Nat) (Option.none : Option Jvm.ClassFile.FieldType)) ∈ GT := gt_at 593 (by decide +kernel) (by decide +kernel)
theorem g594 : (Jvm.Cond.selects "CacheRules$LatelyRule" ({ cls := "CacheRules$Rule", name := "come", desc := "(II)V" } : Jvm.MethodName) ({ cls := "CacheRules$LatelyRule", name := "come", desc := "(II)V" } : Jvm.MethodName)) ∈ GT := gt_at 594 (by decide +kernel) (by decide +kernel)
theorem g595 : (Jvm.Cond.instanceMethod ({ cls := "CacheRules$LatelyRule", name := "come", desc := "(II)V" } : Jvm.MethodName)) ∈ GT := gt_at 595 (by decide +kernel) (by decide +kernel)
theorem g596 : (Jvm.Cond.code ({ cls := "CacheRules$LatelyRule", name := "come", desc := "(II)V" } : Jvm.MethodName) prog_7_method_4_code (3 : Nat) (Option.none : Option Jvm.ClassFile.FieldType)) ∈ GT := gt_at 596 (by decide +kernel) (by decide +kernel)
theorem g597 : (Jvm.Cond.selects "CacheRules$RoundRule" ({ cls := "CacheRules$Rule", name := "come", desc := "(II)V" } : Jvm.MethodName) ({ cls := "CacheRules$RoundRule", name := "come", desc := "(II)V" } : Jvm.MethodName)) ∈ GT := gt_at 597 (by decide +kernel) (by decide +kernel)
theorem g598 : (Jvm.Cond.instanceMethod ({ cls := "CacheRules$RoundRule", name := "come", desc := "(II)V" } : Jvm.MethodName)) ∈ GT := gt_at 598 (by decide +kernel) (by decide +kernel)
theorem g599 : (Jvm.Cond.code ({ cls := "CacheRules$RoundRule", name := "come", desc := "(II)V" } : Jvm.MethodName) prog_8_method_3_code (3 : Nat) (Option.none : Option Jvm.ClassFile.FieldType)) ∈ GT := gt_at 599 (by decide +kernel) (by decide +kernel)
theorem g600 : (Jvm.Cond.selects "CacheRules$TimeRule" ({ cls := "CacheRules$Rule", name := "come", desc := "(II)V" } : Jvm.MethodName) ({ cls := "CacheRules$TimeRule", name := "come", desc := "(II)V" } : Jvm.MethodName)) ∈ GT := gt_at 600 (by decide +kernel) (by decide +kernel)
theorem g601 : (Jvm.Cond.instanceMethod ({ cls := "CacheRules$TimeRule", name := "come", desc := "(II)V" } : Jvm.MethodName)) ∈ GT := gt_at 601 (by decide +kernel) (by decide +kernel)
theorem g602 : (Jvm.Cond.code ({ cls := "CacheRules$TimeRule", name := "come", desc := "(II)V" } : Jvm.MethodName) prog_10_method_3_code (4 : Nat) (Option.none : Option Jvm.ClassFile.FieldType)) ∈ GT := gt_at 602 (by decide +kernel) (by decide +kernel)
theorem g603 : (Jvm.Cond.selects "CacheRules$TreeRule" ({ cls := "CacheRules$Rule", name := "come", desc := "(II)V" } : Jvm.MethodName) ({ cls := "CacheRules$TreeRule", name := "come", desc := "(II)V" } : Jvm.MethodName)) ∈ GT := gt_at 603 (by decide +kernel) (by decide +kernel)
theorem g604 : (Jvm.Cond.instanceMethod ({ cls := "CacheRules$TreeRule", name := "come", desc := "(II)V" } : Jvm.MethodName)) ∈ GT := gt_at 604 (by decide +kernel) (by decide +kernel)
theorem g605 : (Jvm.Cond.code ({ cls := "CacheRules$TreeRule", name := "come", desc := "(II)V" } : Jvm.MethodName) prog_11_method_4_code (3 : Nat) (Option.none : Option Jvm.ClassFile.FieldType)) ∈ GT := gt_at 605 (by decide +kernel) (by decide +kernel)
theorem g606 : (Jvm.Cond.methodLink "CacheRules" (235 : Nat) ({ cls := "CacheRules", name := "writePart", desc := "(II)V" } : Jvm.MethodName)) ∈ GT := gt_at 606 (by decide +kernel) (by decide +kernel)
theorem g608 : (Jvm.Cond.instanceMethod ({ cls := "CacheRules", name := "writePart", desc := "(II)V" } : Jvm.MethodName)) ∈ GT := gt_at 608 (by decide +kernel) (by decide +kernel)
theorem g609 : (Jvm.Cond.code ({ cls := "CacheRules", name := "writePart", desc := "(II)V" } : Jvm.MethodName) prog_1_method_25_code (5 : Nat) (Option.none : Option Jvm.ClassFile.FieldType)) ∈ GT := gt_at 609 (by decide +kernel) (by decide +kernel)
theorem g610 : (Jvm.Cond.methodLink "CacheRulesLaw" (70 : Nat) ({ cls := "CacheRulesLaw", name := "ask", desc := "(LCacheRules;II[J)I" } : Jvm.MethodName)) ∈ GT := gt_at 610 (by decide +kernel) (by decide +kernel)
theorem g611 : (Jvm.Cond.static ({ cls := "CacheRulesLaw", name := "ask", desc := "(LCacheRules;II[J)I" } : Jvm.MethodName)) ∈ GT := gt_at 611 (by decide +kernel) (by decide +kernel)
theorem g613 : (Jvm.Cond.classLink "CacheRulesLaw" (19 : Nat) "java/lang/UnsupportedOperationException") ∈ GT := gt_at 613 (by decide +kernel) (by decide +kernel)
theorem g614 : (Jvm.Cond.methodLink "CacheRulesLaw" (15 : Nat) ({ cls := "CacheRules", name := "ask", desc := "(II)I" } : Jvm.MethodName)) ∈ GT := gt_at 614 (by decide +kernel) (by decide +kernel)
theorem g615 : (Jvm.Cond.instanceMethod ({ cls := "CacheRules", name := "ask", desc := "(II)I" } : Jvm.MethodName)) ∈ GT := gt_at 615 (by decide +kernel) (by decide +kernel)
theorem g616 : (Jvm.Cond.selects "CacheRules" ({ cls := "CacheRules", name := "ask", desc := "(II)I" } : Jvm.MethodName) ({ cls := "CacheRules", name := "ask", desc := "(II)I" } : Jvm.MethodName)) ∈ GT := gt_at 616 (by decide +kernel) (by decide +kernel)
theorem g617 : (Jvm.Cond.code ({ cls := "CacheRules", name := "ask", desc := "(II)I" } : Jvm.MethodName) prog_1_method_5_code (4 : Nat) (Option.some Jvm.ClassFile.FieldType.int)) ∈ GT := gt_at 617 (by decide +kernel) (by decide +kernel)
theorem g618 : (Jvm.Cond.methodLink "CacheRules" (108 : Nat) ({ cls := "CacheRules$Asks", name := "hasRoomFor", desc := "(I)Z" } : Jvm.MethodName)) ∈ GT := gt_at 618 (by decide +kernel) (by decide +kernel)
theorem g619 : (Jvm.Cond.instanceMethod ({ cls := "CacheRules$Asks", name := "hasRoomFor", desc := "(I)Z" } : Jvm.MethodName)) ∈ GT := gt_at 619 (by decide +kernel) (by decide +kernel)
theorem g620 : (Jvm.Cond.selects "CacheRules$Asks" ({ cls := "CacheRules$Asks", name := "hasRoomFor", desc := "(I)Z" } : Jvm.MethodName) ({ cls := "CacheRules$Asks", name := "hasRoomFor", desc := "(I)Z" } : Jvm.MethodName)) ∈ GT := gt_at 620 (by decide +kernel) (by decide +kernel)
theorem g621 : (Jvm.Cond.code ({ cls := "CacheRules$Asks", name := "hasRoomFor", desc := "(I)Z" } : Jvm.MethodName) prog_3_method_3_code (2 : Nat) (Option.some Jvm.ClassFile.FieldType.boolean)) ∈ GT := gt_at 621 (by decide +kernel) (by decide +kernel)
theorem g622 : (Jvm.Cond.methodLink "CacheRules$Asks" (32 : Nat) ({ cls := "CacheRules$Asks", name := "waits", desc := "(I)Z" } : Jvm.MethodName)) ∈ GT := gt_at 622 (by decide +kernel) (by decide +kernel)
theorem g623 : (Jvm.Cond.instanceMethod ({ cls := "CacheRules$Asks", name := "waits", desc := "(I)Z" } : Jvm.MethodName)) ∈ GT := gt_at 623 (by decide +kernel) (by decide +kernel)
theorem g624 : (Jvm.Cond.selects "CacheRules$Asks" ({ cls := "CacheRules$Asks", name := "waits", desc := "(I)Z" } : Jvm.MethodName) ({ cls := "CacheRules$Asks", name := "waits", desc := "(I)Z" } : Jvm.MethodName)) ∈ GT := gt_at 624 (by decide +kernel) (by decide +kernel)
theorem g625 : (Jvm.Cond.code ({ cls := "CacheRules$Asks", name := "waits", desc := "(I)Z" } : Jvm.MethodName) prog_3_method_2_code (3 : Nat) (Option.some Jvm.ClassFile.FieldType.boolean)) ∈ GT := gt_at 625 (by decide +kernel) (by decide +kernel)
theorem g626 : (Jvm.Cond.classLink "CacheRules" (111 : Nat) "java/lang/UnsupportedOperationException") ∈ GT := gt_at 626 (by decide +kernel) (by decide +kernel)
theorem g627 : (Jvm.Cond.instantiable "java/lang/UnsupportedOperationException" (6 : Nat)) ∈ GT := gt_at 627 (by decide +kernel) (by decide +kernel)
theorem g629 : (Jvm.Cond.selects "java/lang/UnsupportedOperationException" ({ cls := "java/lang/Throwable", name := "fillInStackTrace", desc := "(I)Ljava/lang/Throwable;" } : Jvm.MethodName) ({ cls := "java/lang/Throwable", name := "fillInStackTrace", desc := "(I)Ljava/lang/Throwable;" } : Jvm.MethodName)) ∈ GT := gt_at 629 (by decide +kernel) (by decide +kernel)
theorem g636 : (Jvm.Cond.methodLink "CacheRules" (115 : Nat) ({ cls := "java/lang/UnsupportedOperationException", name := "<init>", desc := "(Ljava/lang/String;)V" } : Jvm.MethodName)) ∈ GT := gt_at 636 (by decide +kernel) (by decide +kernel)
theorem g637 : (Jvm.Cond.instanceMethod ({ cls := "java/lang/UnsupportedOperationException", name := "<init>", desc := "(Ljava/lang/String;)V" } : Jvm.MethodName)) ∈ GT := gt_at 637 (by decide +kernel) (by decide +kernel)
theorem g638 : (Jvm.Cond.code ({ cls := "java/lang/UnsupportedOperationException", name := "<init>", desc := "(Ljava/lang/String;)V" } : Jvm.MethodName) prog_23_method_2_code (2 : Nat) (Option.none : Option Jvm.ClassFile.FieldType)) ∈ GT := gt_at 638 (by decide +kernel) (by decide +kernel)
theorem g639 : (Jvm.Cond.methodLink "java/lang/UnsupportedOperationException" (7 : Nat) ({ cls := "java/lang/RuntimeException", name := "<init>", desc := "(Ljava/lang/String;)V" } : Jvm.MethodName)) ∈ GT := gt_at 639 (by decide +kernel) (by decide +kernel)
theorem g642 : (Jvm.Cond.methodLink "CacheRules" (116 : Nat) ({ cls := "CacheRules$Asks", name := "add", desc := "(II)Z" } : Jvm.MethodName)) ∈ GT := gt_at 642 (by decide +kernel) (by decide +kernel)
theorem g643 : (Jvm.Cond.instanceMethod ({ cls := "CacheRules$Asks", name := "add", desc := "(II)Z" } : Jvm.MethodName)) ∈ GT := gt_at 643 (by decide +kernel) (by decide +kernel)
theorem g644 : (Jvm.Cond.selects "CacheRules$Asks" ({ cls := "CacheRules$Asks", name := "add", desc := "(II)Z" } : Jvm.MethodName) ({ cls := "CacheRules$Asks", name := "add", desc := "(II)Z" } : Jvm.MethodName)) ∈ GT := gt_at 644 (by decide +kernel) (by decide +kernel)
theorem g645 : (Jvm.Cond.code ({ cls := "CacheRules$Asks", name := "add", desc := "(II)Z" } : Jvm.MethodName) prog_3_method_4_code (4 : Nat) (Option.some Jvm.ClassFile.FieldType.boolean)) ∈ GT := gt_at 645 (by decide +kernel) (by decide +kernel)
theorem g646 : (Jvm.Cond.methodLink "CacheRulesLaw" (74 : Nat) ({ cls := "CacheRulesLaw", name := "answer", desc := "(LCacheRules;[J)I" } : Jvm.MethodName)) ∈ GT := gt_at 646 (by decide +kernel) (by decide +kernel)
theorem g647 : (Jvm.Cond.static ({ cls := "CacheRulesLaw", name := "answer", desc := "(LCacheRules;[J)I" } : Jvm.MethodName)) ∈ GT := gt_at 647 (by decide +kernel) (by decide +kernel)
theorem g649 : (Jvm.Cond.classLink "CacheRulesLaw" (25 : Nat) "java/util/NoSuchElementException") ∈ GT := gt_at 649 (by decide +kernel) (by decide +kernel)
theorem g650 : (Jvm.Cond.methodLink "CacheRulesLaw" (21 : Nat) ({ cls := "CacheRules", name := "answer", desc := "()I" } : Jvm.MethodName)) ∈ GT := gt_at 650 (by decide +kernel) (by decide +kernel)
theorem g651 : (Jvm.Cond.instanceMethod ({ cls := "CacheRules", name := "answer", desc := "()I" } : Jvm.MethodName)) ∈ GT := gt_at 651 (by decide +kernel) (by decide +kernel)
theorem g652 : (Jvm.Cond.selects "CacheRules" ({ cls := "CacheRules", name := "answer", desc := "()I" } : Jvm.MethodName) ({ cls := "CacheRules", name := "answer", desc := "()I" } : Jvm.MethodName)) ∈ GT := gt_at 652 (by decide +kernel) (by decide +kernel)
theorem g653 : (Jvm.Cond.code ({ cls := "CacheRules", name := "answer", desc := "()I" } : Jvm.MethodName) prog_1_method_6_code (3 : Nat) (Option.some Jvm.ClassFile.FieldType.int)) ∈ GT := gt_at 653 (by decide +kernel) (by decide +kernel)
theorem g654 : (Jvm.Cond.classLink "CacheRules" (124 : Nat) "java/util/NoSuchElementException") ∈ GT := gt_at 654 (by decide +kernel) (by decide +kernel)
theorem g655 : (Jvm.Cond.instantiable "java/util/NoSuchElementException" (6 : Nat)) ∈ GT := gt_at 655 (by decide +kernel) (by decide +kernel)
theorem g657 : (Jvm.Cond.selects "java/util/NoSuchElementException" ({ cls := "java/lang/Throwable", name := "fillInStackTrace", desc := "(I)Ljava/lang/Throwable;" } : Jvm.MethodName) ({ cls := "java/lang/Throwable", name := "fillInStackTrace", desc := "(I)Ljava/lang/Throwable;" } : Jvm.MethodName)) ∈ GT := gt_at 657 (by decide +kernel) (by decide +kernel)
theorem g664 : (Jvm.Cond.methodLink "CacheRules" (128 : Nat) ({ cls := "java/util/NoSuchElementException", name := "<init>", desc := "(Ljava/lang/String;)V" } : Jvm.MethodName)) ∈ GT := gt_at 664 (by decide +kernel) (by decide +kernel)
theorem g665 : (Jvm.Cond.instanceMethod ({ cls := "java/util/NoSuchElementException", name := "<init>", desc := "(Ljava/lang/String;)V" } : Jvm.MethodName)) ∈ GT := gt_at 665 (by decide +kernel) (by decide +kernel)
theorem g666 : (Jvm.Cond.code ({ cls := "java/util/NoSuchElementException", name := "<init>", desc := "(Ljava/lang/String;)V" } : Jvm.MethodName) prog_24_method_4_code (2 : Nat) (Option.none : Option Jvm.ClassFile.FieldType)) ∈ GT := gt_at 666 (by decide +kernel) (by decide +kernel)
theorem g667 : (Jvm.Cond.methodLink "java/util/NoSuchElementException" (13 : Nat) ({ cls := "java/lang/RuntimeException", name := "<init>", desc := "(Ljava/lang/String;)V" } : Jvm.MethodName)) ∈ GT := gt_at 667 (by decide +kernel) (by decide +kernel)
theorem g670 : (Jvm.Cond.methodLink "CacheRules" (129 : Nat) ({ cls := "CacheRules$Asks", name := "takeFirstLine", desc := "()I" } : Jvm.MethodName)) ∈ GT := gt_at 670 (by decide +kernel) (by decide +kernel)
theorem g671 : (Jvm.Cond.instanceMethod ({ cls := "CacheRules$Asks", name := "takeFirstLine", desc := "()I" } : Jvm.MethodName)) ∈ GT := gt_at 671 (by decide +kernel) (by decide +kernel)
theorem g672 : (Jvm.Cond.selects "CacheRules$Asks" ({ cls := "CacheRules$Asks", name := "takeFirstLine", desc := "()I" } : Jvm.MethodName) ({ cls := "CacheRules$Asks", name := "takeFirstLine", desc := "()I" } : Jvm.MethodName)) ∈ GT := gt_at 672 (by decide +kernel) (by decide +kernel)
theorem g673 : (Jvm.Cond.code ({ cls := "CacheRules$Asks", name := "takeFirstLine", desc := "()I" } : Jvm.MethodName) prog_3_method_5_code (4 : Nat) (Option.some Jvm.ClassFile.FieldType.int)) ∈ GT := gt_at 673 (by decide +kernel) (by decide +kernel)
theorem g674 : (Jvm.Cond.methodLink "CacheRulesLaw" (78 : Nat) ({ cls := "CacheRulesLaw", name := "answered", desc := "(LCacheRules;II[J)I" } : Jvm.MethodName)) ∈ GT := gt_at 674 (by decide +kernel) (by decide +kernel)
theorem g675 : (Jvm.Cond.static ({ cls := "CacheRulesLaw", name := "answered", desc := "(LCacheRules;II[J)I" } : Jvm.MethodName)) ∈ GT := gt_at 675 (by decide +kernel) (by decide +kernel)
theorem g677 : (Jvm.Cond.methodLink "CacheRulesLaw" (27 : Nat) ({ cls := "CacheRules", name := "answered", desc := "(II)I" } : Jvm.MethodName)) ∈ GT := gt_at 677 (by decide +kernel) (by decide +kernel)
theorem g678 : (Jvm.Cond.instanceMethod ({ cls := "CacheRules", name := "answered", desc := "(II)I" } : Jvm.MethodName)) ∈ GT := gt_at 678 (by decide +kernel) (by decide +kernel)
theorem g679 : (Jvm.Cond.selects "CacheRules" ({ cls := "CacheRules", name := "answered", desc := "(II)I" } : Jvm.MethodName) ({ cls := "CacheRules", name := "answered", desc := "(II)I" } : Jvm.MethodName)) ∈ GT := gt_at 679 (by decide +kernel) (by decide +kernel)
theorem g680 : (Jvm.Cond.code ({ cls := "CacheRules", name := "answered", desc := "(II)I" } : Jvm.MethodName) prog_1_method_7_code (3 : Nat) (Option.some Jvm.ClassFile.FieldType.int)) ∈ GT := gt_at 680 (by decide +kernel) (by decide +kernel)
theorem g682 : (Jvm.Cond.methodLink "CacheRulesLaw" (98 : Nat) ({ cls := "CacheRulesLaw", name := "way", desc := "(LCacheRules;III[J)I" } : Jvm.MethodName)) ∈ GT := gt_at 682 (by decide +kernel) (by decide +kernel)
theorem g683 : (Jvm.Cond.static ({ cls := "CacheRulesLaw", name := "way", desc := "(LCacheRules;III[J)I" } : Jvm.MethodName)) ∈ GT := gt_at 683 (by decide +kernel) (by decide +kernel)
theorem g685 : (Jvm.Cond.methodLink "CacheRulesLaw" (30 : Nat) ({ cls := "CacheRules", name := "way", desc := "(III)I" } : Jvm.MethodName)) ∈ GT := gt_at 685 (by decide +kernel) (by decide +kernel)
theorem g686 : (Jvm.Cond.instanceMethod ({ cls := "CacheRules", name := "way", desc := "(III)I" } : Jvm.MethodName)) ∈ GT := gt_at 686 (by decide +kernel) (by decide +kernel)
theorem g687 : (Jvm.Cond.selects "CacheRules" ({ cls := "CacheRules", name := "way", desc := "(III)I" } : Jvm.MethodName) ({ cls := "CacheRules", name := "way", desc := "(III)I" } : Jvm.MethodName)) ∈ GT := gt_at 687 (by decide +kernel) (by decide +kernel)
theorem g688 : (Jvm.Cond.code ({ cls := "CacheRules", name := "way", desc := "(III)I" } : Jvm.MethodName) prog_1_method_12_code (5 : Nat) (Option.some Jvm.ClassFile.FieldType.int)) ∈ GT := gt_at 688 (by decide +kernel) (by decide +kernel)
theorem g691 : (Jvm.Cond.methodLink "CacheRulesLaw" (102 : Nat) ({ cls := "CacheRulesLaw", name := "caught", desc := "(LCacheRules;II[J)I" } : Jvm.MethodName)) ∈ GT := gt_at 691 (by decide +kernel) (by decide +kernel)
theorem g692 : (Jvm.Cond.static ({ cls := "CacheRulesLaw", name := "caught", desc := "(LCacheRules;II[J)I" } : Jvm.MethodName)) ∈ GT := gt_at 692 (by decide +kernel) (by decide +kernel)
theorem g694 : (Jvm.Cond.methodLink "CacheRulesLaw" (34 : Nat) ({ cls := "CacheRules", name := "caught", desc := "(II)I" } : Jvm.MethodName)) ∈ GT := gt_at 694 (by decide +kernel) (by decide +kernel)
theorem g695 : (Jvm.Cond.instanceMethod ({ cls := "CacheRules", name := "caught", desc := "(II)I" } : Jvm.MethodName)) ∈ GT := gt_at 695 (by decide +kernel) (by decide +kernel)
theorem g696 : (Jvm.Cond.selects "CacheRules" ({ cls := "CacheRules", name := "caught", desc := "(II)I" } : Jvm.MethodName) ({ cls := "CacheRules", name := "caught", desc := "(II)I" } : Jvm.MethodName)) ∈ GT := gt_at 696 (by decide +kernel) (by decide +kernel)
theorem g697 : (Jvm.Cond.code ({ cls := "CacheRules", name := "caught", desc := "(II)I" } : Jvm.MethodName) prog_1_method_13_code (3 : Nat) (Option.some Jvm.ClassFile.FieldType.int)) ∈ GT := gt_at 697 (by decide +kernel) (by decide +kernel)
theorem g699 : (Jvm.Cond.methodLink "CacheRulesLaw" (105 : Nat) ({ cls := "CacheRulesLaw", name := "next", desc := "(LCacheRules;I[J)I" } : Jvm.MethodName)) ∈ GT := gt_at 699 (by decide +kernel) (by decide +kernel)
theorem g700 : (Jvm.Cond.static ({ cls := "CacheRulesLaw", name := "next", desc := "(LCacheRules;I[J)I" } : Jvm.MethodName)) ∈ GT := gt_at 700 (by decide +kernel) (by decide +kernel)
theorem g702 : (Jvm.Cond.methodLink "CacheRulesLaw" (37 : Nat) ({ cls := "CacheRules", name := "next", desc := "(I)I" } : Jvm.MethodName)) ∈ GT := gt_at 702 (by decide +kernel) (by decide +kernel)
theorem g703 : (Jvm.Cond.instanceMethod ({ cls := "CacheRules", name := "next", desc := "(I)I" } : Jvm.MethodName)) ∈ GT := gt_at 703 (by decide +kernel) (by decide +kernel)
theorem g704 : (Jvm.Cond.selects "CacheRules" ({ cls := "CacheRules", name := "next", desc := "(I)I" } : Jvm.MethodName) ({ cls := "CacheRules", name := "next", desc := "(I)I" } : Jvm.MethodName)) ∈ GT := gt_at 704 (by decide +kernel) (by decide +kernel)
theorem g705 : (Jvm.Cond.code ({ cls := "CacheRules", name := "next", desc := "(I)I" } : Jvm.MethodName) prog_1_method_14_code (2 : Nat) (Option.some Jvm.ClassFile.FieldType.int)) ∈ GT := gt_at 705 (by decide +kernel) (by decide +kernel)
theorem g707 : (Jvm.Cond.methodLink "CacheRulesLaw" (109 : Nat) ({ cls := "CacheRulesLaw", name := "misses", desc := "(LCacheRules;I[J)I" } : Jvm.MethodName)) ∈ GT := gt_at 707 (by decide +kernel) (by decide +kernel)
theorem g708 : (Jvm.Cond.static ({ cls := "CacheRulesLaw", name := "misses", desc := "(LCacheRules;I[J)I" } : Jvm.MethodName)) ∈ GT := gt_at 708 (by decide +kernel) (by decide +kernel)
theorem g710 : (Jvm.Cond.classLink "CacheRulesLaw" (44 : Nat) "java/lang/IllegalArgumentException") ∈ GT := gt_at 710 (by decide +kernel) (by decide +kernel)
theorem g711 : (Jvm.Cond.methodLink "CacheRulesLaw" (41 : Nat) ({ cls := "CacheRules", name := "misses", desc := "(I)I" } : Jvm.MethodName)) ∈ GT := gt_at 711 (by decide +kernel) (by decide +kernel)
theorem g712 : (Jvm.Cond.instanceMethod ({ cls := "CacheRules", name := "misses", desc := "(I)I" } : Jvm.MethodName)) ∈ GT := gt_at 712 (by decide +kernel) (by decide +kernel)
theorem g713 : (Jvm.Cond.selects "CacheRules" ({ cls := "CacheRules", name := "misses", desc := "(I)I" } : Jvm.MethodName) ({ cls := "CacheRules", name := "misses", desc := "(I)I" } : Jvm.MethodName)) ∈ GT := gt_at 713 (by decide +kernel) (by decide +kernel)
theorem g714 : (Jvm.Cond.code ({ cls := "CacheRules", name := "misses", desc := "(I)I" } : Jvm.MethodName) prog_1_method_15_code (2 : Nat) (Option.some Jvm.ClassFile.FieldType.int)) ∈ GT := gt_at 714 (by decide +kernel) (by decide +kernel)
theorem g715 : (Jvm.Cond.classLink "CacheRules" (210 : Nat) "java/lang/IllegalArgumentException") ∈ GT := gt_at 715 (by decide +kernel) (by decide +kernel)
theorem g716 : (Jvm.Cond.instantiable "java/lang/IllegalArgumentException" (6 : Nat)) ∈ GT := gt_at 716 (by decide +kernel) (by decide +kernel)
theorem g718 : (Jvm.Cond.selects "java/lang/IllegalArgumentException" ({ cls := "java/lang/Throwable", name := "fillInStackTrace", desc := "(I)Ljava/lang/Throwable;" } : Jvm.MethodName) ({ cls := "java/lang/Throwable", name := "fillInStackTrace", desc := "(I)Ljava/lang/Throwable;" } : Jvm.MethodName)) ∈ GT := gt_at 718 (by decide +kernel) (by decide +kernel)
theorem g725 : (Jvm.Cond.methodLink "CacheRules" (214 : Nat) ({ cls := "java/lang/IllegalArgumentException", name := "<init>", desc := "(Ljava/lang/String;)V" } : Jvm.MethodName)) ∈ GT := gt_at 725 (by decide +kernel) (by decide +kernel)
theorem g726 : (Jvm.Cond.instanceMethod ({ cls := "java/lang/IllegalArgumentException", name := "<init>", desc := "(Ljava/lang/String;)V" } : Jvm.MethodName)) ∈ GT := gt_at 726 (by decide +kernel) (by decide +kernel)
theorem g727 : (Jvm.Cond.code ({ cls := "java/lang/IllegalArgumentException", name := "<init>", desc := "(Ljava/lang/String;)V" } : Jvm.MethodName) prog_16_method_2_code (2 : Nat) (Option.none : Option Jvm.ClassFile.FieldType)) ∈ GT := gt_at 727 (by decide +kernel) (by decide +kernel)
theorem g728 : (Jvm.Cond.methodLink "java/lang/IllegalArgumentException" (7 : Nat) ({ cls := "java/lang/RuntimeException", name := "<init>", desc := "(Ljava/lang/String;)V" } : Jvm.MethodName)) ∈ GT := gt_at 728 (by decide +kernel) (by decide +kernel)
theorem g731 : (Jvm.Cond.methodLink "CacheRules" (215 : Nat) ({ cls := "CacheRules$History", name := "countFrom", desc := "(I)I" } : Jvm.MethodName)) ∈ GT := gt_at 731 (by decide +kernel) (by decide +kernel)
theorem g732 : (Jvm.Cond.instanceMethod ({ cls := "CacheRules$History", name := "countFrom", desc := "(I)I" } : Jvm.MethodName)) ∈ GT := gt_at 732 (by decide +kernel) (by decide +kernel)
theorem g733 : (Jvm.Cond.selects "CacheRules$History" ({ cls := "CacheRules$History", name := "countFrom", desc := "(I)I" } : Jvm.MethodName) ({ cls := "CacheRules$History", name := "countFrom", desc := "(I)I" } : Jvm.MethodName)) ∈ GT := gt_at 733 (by decide +kernel) (by decide +kernel)
theorem g734 : (Jvm.Cond.code ({ cls := "CacheRules$History", name := "countFrom", desc := "(I)I" } : Jvm.MethodName) prog_6_method_4_code (4 : Nat) (Option.some Jvm.ClassFile.FieldType.int)) ∈ GT := gt_at 734 (by decide +kernel) (by decide +kernel)
theorem g735 : (Jvm.Cond.classLink "CacheRulesLaw" (55 : Nat) "CacheRulesModel") ∈ GT := gt_at 735 (by decide +kernel) (by decide +kernel)
theorem g736 : (Jvm.Cond.instantiable "CacheRulesModel" (36 : Nat)) ∈ GT := gt_at 736 (by decide +kernel) (by decide +kernel)
theorem g737 : (Jvm.Cond.methodLink "CacheRulesLaw" (57 : Nat) ({ cls := "CacheRulesModel", name := "<init>", desc := "(IIII)V" } : Jvm.MethodName)) ∈ GT := gt_at 737 (by decide +kernel) (by decide +kernel)
theorem g738 : (Jvm.Cond.instanceMethod ({ cls := "CacheRulesModel", name := "<init>", desc := "(IIII)V" } : Jvm.MethodName)) ∈ GT := gt_at 738 (by decide +kernel) (by decide +kernel)
theorem g739 : (Jvm.Cond.code ({ cls := "CacheRulesModel", name := "<init>", desc := "(IIII)V" } : Jvm.MethodName) prog_14_method_1_code (5 : Nat) (Option.none : Option Jvm.ClassFile.FieldType)) ∈ GT := gt_at 739 (by decide +kernel) (by decide +kernel)
theorem g740 : (Jvm.Cond.methodLink "CacheRulesModel" (1 : Nat) ({ cls := "java/lang/Object", name := "<init>", desc := "()V" } : Jvm.MethodName)) ∈ GT := gt_at 740 (by decide +kernel) (by decide +kernel)
theorem g741 : (Jvm.Cond.methodLink "CacheRulesModel" (88 : Nat) ({ cls := "CacheRulesModel", name := "modulo", desc := "(II)I" } : Jvm.MethodName)) ∈ GT := gt_at 741 (by decide +kernel) (by decide +kernel)
theorem g742 : (Jvm.Cond.static ({ cls := "CacheRulesModel", name := "modulo", desc := "(II)I" } : Jvm.MethodName)) ∈ GT := gt_at 742 (by decide +kernel) (by decide +kernel)
theorem g743 : (Jvm.Cond.code ({ cls := "CacheRulesModel", name := "modulo", desc := "(II)I" } : Jvm.MethodName) prog_14_method_2_code (2 : Nat) (Option.some Jvm.ClassFile.FieldType.int)) ∈ GT := gt_at 743 (by decide +kernel) (by decide +kernel)
theorem g744 : (Jvm.Cond.fieldLink "CacheRulesModel" (104 : Nat) "CacheRulesModel" "thrown" "I") ∈ GT := gt_at 744 (by decide +kernel) (by decide +kernel)
theorem g745 : (Jvm.Cond.fieldLink "CacheRulesModel" (92 : Nat) "CacheRulesModel" "sets" "I") ∈ GT := gt_at 745 (by decide +kernel) (by decide +kernel)
theorem g746 : (Jvm.Cond.fieldLink "CacheRulesModel" (95 : Nat) "CacheRulesModel" "ways" "I") ∈ GT := gt_at 746 (by decide +kernel) (by decide +kernel)
theorem g747 : (Jvm.Cond.fieldLink "CacheRulesModel" (98 : Nat) "CacheRulesModel" "rule" "I") ∈ GT := gt_at 747 (by decide +kernel) (by decide +kernel)
theorem g748 : (Jvm.Cond.fieldLink "CacheRulesModel" (101 : Nat) "CacheRulesModel" "room" "I") ∈ GT := gt_at 748 (by decide +kernel) (by decide +kernel)
theorem g749 : (Jvm.Cond.fieldLink "CacheRulesModel" (107 : Nat) "CacheRulesModel" "through" "Z") ∈ GT := gt_at 749 (by decide +kernel) (by decide +kernel)
theorem g750 : (Jvm.Cond.fieldLink "CacheRulesModel" (7 : Nat) "CacheRulesModel" "places" "Z") ∈ GT := gt_at 750 (by decide +kernel) (by decide +kernel)
theorem g751 : (Jvm.Cond.fieldLink "CacheRulesModel" (13 : Nat) "CacheRulesModel" "has" "[Z") ∈ GT := gt_at 751 (by decide +kernel) (by decide +kernel)
theorem g752 : (Jvm.Cond.fieldLink "CacheRulesModel" (17 : Nat) "CacheRulesModel" "line" "[I") ∈ GT := gt_at 752 (by decide +kernel) (by decide +kernel)
theorem g753 : (Jvm.Cond.fieldLink "CacheRulesModel" (21 : Nat) "CacheRulesModel" "parts" "[I") ∈ GT := gt_at 753 (by decide +kernel) (by decide +kernel)
theorem g754 : (Jvm.Cond.fieldLink "CacheRulesModel" (24 : Nat) "CacheRulesModel" "changed" "[I") ∈ GT := gt_at 754 (by decide +kernel) (by decide +kernel)
theorem g755 : (Jvm.Cond.fieldLink "CacheRulesModel" (27 : Nat) "CacheRulesModel" "locked" "[Z") ∈ GT := gt_at 755 (by decide +kernel) (by decide +kernel)
theorem g756 : (Jvm.Cond.fieldLink "CacheRulesModel" (121 : Nat) "CacheRulesModel" "time" "I") ∈ GT := gt_at 756 (by decide +kernel) (by decide +kernel)
theorem g757 : (Jvm.Cond.fieldLink "CacheRulesModel" (30 : Nat) "CacheRulesModel" "last" "[I") ∈ GT := gt_at 757 (by decide +kernel) (by decide +kernel)
theorem g758 : (Jvm.Cond.fieldLink "CacheRulesModel" (33 : Nat) "CacheRulesModel" "came" "[I") ∈ GT := gt_at 758 (by decide +kernel) (by decide +kernel)
theorem g759 : (Jvm.Cond.fieldLink "CacheRulesModel" (36 : Nat) "CacheRulesModel" "uses" "[I") ∈ GT := gt_at 759 (by decide +kernel) (by decide +kernel)
theorem g760 : (Jvm.Cond.fieldLink "CacheRulesModel" (39 : Nat) "CacheRulesModel" "mark" "[Z") ∈ GT := gt_at 760 (by decide +kernel) (by decide +kernel)
theorem g761 : (Jvm.Cond.fieldLink "CacheRulesModel" (42 : Nat) "CacheRulesModel" "age" "[I") ∈ GT := gt_at 761 (by decide +kernel) (by decide +kernel)
theorem g762 : (Jvm.Cond.fieldLink "CacheRulesModel" (45 : Nat) "CacheRulesModel" "hand" "[I") ∈ GT := gt_at 762 (by decide +kernel) (by decide +kernel)
theorem g763 : (Jvm.Cond.fieldLink "CacheRulesModel" (48 : Nat) "CacheRulesModel" "tree" "[Z") ∈ GT := gt_at 763 (by decide +kernel) (by decide +kernel)
theorem g764 : (Jvm.Cond.fieldLink "CacheRulesModel" (51 : Nat) "CacheRulesModel" "chance" "I") ∈ GT := gt_at 764 (by decide +kernel) (by decide +kernel)
theorem g765 : (Jvm.Cond.fieldLink "CacheRulesModel" (114 : Nat) "CacheRulesModel" "caught" "I") ∈ GT := gt_at 765 (by decide +kernel) (by decide +kernel)
theorem g766 : (Jvm.Cond.fieldLink "CacheRulesModel" (55 : Nat) "CacheRulesModel" "rowLine" "[I") ∈ GT := gt_at 766 (by decide +kernel) (by decide +kernel)
theorem g767 : (Jvm.Cond.fieldLink "CacheRulesModel" (58 : Nat) "CacheRulesModel" "rowParts" "[I") ∈ GT := gt_at 767 (by decide +kernel) (by decide +kernel)
theorem g768 : (Jvm.Cond.fieldLink "CacheRulesModel" (61 : Nat) "CacheRulesModel" "rowChanged" "[I") ∈ GT := gt_at 768 (by decide +kernel) (by decide +kernel)
theorem g769 : (Jvm.Cond.fieldLink "CacheRulesModel" (224 : Nat) "CacheRulesModel" "asks" "I") ∈ GT := gt_at 769 (by decide +kernel) (by decide +kernel)
theorem g770 : (Jvm.Cond.fieldLink "CacheRulesModel" (64 : Nat) "CacheRulesModel" "askLine" "[I") ∈ GT := gt_at 770 (by decide +kernel) (by decide +kernel)
theorem g771 : (Jvm.Cond.fieldLink "CacheRulesModel" (67 : Nat) "CacheRulesModel" "askPart" "[I") ∈ GT := gt_at 771 (by decide +kernel) (by decide +kernel)
theorem g772 : (Jvm.Cond.fieldLink "CacheRulesModel" (230 : Nat) "CacheRulesModel" "answered" "I") ∈ GT := gt_at 772 (by decide +kernel) (by decide +kernel)
theorem g773 : (Jvm.Cond.fieldLink "CacheRulesModel" (70 : Nat) "CacheRulesModel" "answerPart" "[I") ∈ GT := gt_at 773 (by decide +kernel) (by decide +kernel)
theorem g774 : (Jvm.Cond.fieldLink "CacheRulesModel" (73 : Nat) "CacheRulesModel" "answerHow" "[I") ∈ GT := gt_at 774 (by decide +kernel) (by decide +kernel)
theorem g775 : (Jvm.Cond.fieldLink "CacheRulesModel" (176 : Nat) "CacheRulesModel" "near" "I") ∈ GT := gt_at 775 (by decide +kernel) (by decide +kernel)
theorem g776 : (Jvm.Cond.fieldLink "CacheRulesModel" (76 : Nat) "CacheRulesModel" "nearLine" "[I") ∈ GT := gt_at 776 (by decide +kernel) (by decide +kernel)
theorem g777 : (Jvm.Cond.fieldLink "CacheRulesModel" (79 : Nat) "CacheRulesModel" "far" "[I") ∈ GT := gt_at 777 (by decide +kernel) (by decide +kernel)
theorem g778 : (Jvm.Cond.fieldLink "CacheRulesModel" (82 : Nat) "CacheRulesModel" "counts" "[I") ∈ GT := gt_at 778 (by decide +kernel) (by decide +kernel)
theorem g779 : (Jvm.Cond.fieldLink "CacheRulesModel" (85 : Nat) "CacheRulesModel" "mark2" "[Z") ∈ GT := gt_at 779 (by decide +kernel) (by decide +kernel)
theorem g853 : (Jvm.Cond.methodLink "CacheRulesLaw" (67 : Nat) ({ cls := "CacheRulesModel", name := "thrown", desc := "()I" } : Jvm.MethodName)) ∈ GT := gt_at 853 (by decide +kernel) (by decide +kernel)
theorem g854 : (Jvm.Cond.instanceMethod ({ cls := "CacheRulesModel", name := "thrown", desc := "()I" } : Jvm.MethodName)) ∈ GT := gt_at 854 (by decide +kernel) (by decide +kernel)
theorem g855 : (Jvm.Cond.selects "CacheRulesModel" ({ cls := "CacheRulesModel", name := "thrown", desc := "()I" } : Jvm.MethodName) ({ cls := "CacheRulesModel", name := "thrown", desc := "()I" } : Jvm.MethodName)) ∈ GT := gt_at 855 (by decide +kernel) (by decide +kernel)
theorem g856 : (Jvm.Cond.code ({ cls := "CacheRulesModel", name := "thrown", desc := "()I" } : Jvm.MethodName) prog_14_method_3_code (1 : Nat) (Option.some Jvm.ClassFile.FieldType.int)) ∈ GT := gt_at 856 (by decide +kernel) (by decide +kernel)
theorem g857 : (Jvm.Cond.methodLink "CacheRulesLaw" (62 : Nat) ({ cls := "CacheRulesModel", name := "mode", desc := "(ZZ)I" } : Jvm.MethodName)) ∈ GT := gt_at 857 (by decide +kernel) (by decide +kernel)
theorem g858 : (Jvm.Cond.instanceMethod ({ cls := "CacheRulesModel", name := "mode", desc := "(ZZ)I" } : Jvm.MethodName)) ∈ GT := gt_at 858 (by decide +kernel) (by decide +kernel)
theorem g859 : (Jvm.Cond.selects "CacheRulesModel" ({ cls := "CacheRulesModel", name := "mode", desc := "(ZZ)I" } : Jvm.MethodName) ({ cls := "CacheRulesModel", name := "mode", desc := "(ZZ)I" } : Jvm.MethodName)) ∈ GT := gt_at 859 (by decide +kernel) (by decide +kernel)
theorem g860 : (Jvm.Cond.code ({ cls := "CacheRulesModel", name := "mode", desc := "(ZZ)I" } : Jvm.MethodName) prog_14_method_6_code (4 : Nat) (Option.some Jvm.ClassFile.FieldType.int)) ∈ GT := gt_at 860 (by decide +kernel) (by decide +kernel)
theorem g861 : (Jvm.Cond.methodLink "CacheRulesLaw" (66 : Nat) ({ cls := "CacheRulesModel", name := "access", desc := "(IIZ)I" } : Jvm.MethodName)) ∈ GT := gt_at 861 (by decide +kernel) (by decide +kernel)
theorem g862 : (Jvm.Cond.instanceMethod ({ cls := "CacheRulesModel", name := "access", desc := "(IIZ)I" } : Jvm.MethodName)) ∈ GT := gt_at 862 (by decide +kernel) (by decide +kernel)
theorem g863 : (Jvm.Cond.selects "CacheRulesModel" ({ cls := "CacheRulesModel", name := "access", desc := "(IIZ)I" } : Jvm.MethodName) ({ cls := "CacheRulesModel", name := "access", desc := "(IIZ)I" } : Jvm.MethodName)) ∈ GT := gt_at 863 (by decide +kernel) (by decide +kernel)
theorem g864 : (Jvm.Cond.code ({ cls := "CacheRulesModel", name := "access", desc := "(IIZ)I" } : Jvm.MethodName) prog_14_method_35_code (4 : Nat) (Option.some Jvm.ClassFile.FieldType.int)) ∈ GT := gt_at 864 (by decide +kernel) (by decide +kernel)
theorem g865 : (Jvm.Cond.methodLink "CacheRulesModel" (214 : Nat) ({ cls := "CacheRulesModel", name := "within", desc := "(III)Z" } : Jvm.MethodName)) ∈ GT := gt_at 865 (by decide +kernel) (by decide +kernel)
theorem g866 : (Jvm.Cond.static ({ cls := "CacheRulesModel", name := "within", desc := "(III)Z" } : Jvm.MethodName)) ∈ GT := gt_at 866 (by decide +kernel) (by decide +kernel)
theorem g867 : (Jvm.Cond.code ({ cls := "CacheRulesModel", name := "within", desc := "(III)Z" } : Jvm.MethodName) prog_14_method_5_code (3 : Nat) (Option.some Jvm.ClassFile.FieldType.boolean)) ∈ GT := gt_at 867 (by decide +kernel) (by decide +kernel)
theorem g868 : (Jvm.Cond.methodLink "CacheRulesModel" (218 : Nat) ({ cls := "CacheRulesModel", name := "accessOf", desc := "(IIZ)I" } : Jvm.MethodName)) ∈ GT := gt_at 868 (by decide +kernel) (by decide +kernel)
theorem g870 : (Jvm.Cond.instanceMethod ({ cls := "CacheRulesModel", name := "accessOf", desc := "(IIZ)I" } : Jvm.MethodName)) ∈ GT := gt_at 870 (by decide +kernel) (by decide +kernel)
theorem g871 : (Jvm.Cond.code ({ cls := "CacheRulesModel", name := "accessOf", desc := "(IIZ)I" } : Jvm.MethodName) prog_14_method_34_code (5 : Nat) (Option.some Jvm.ClassFile.FieldType.int)) ∈ GT := gt_at 871 (by decide +kernel) (by decide +kernel)
theorem g872 : (Jvm.Cond.methodLink "CacheRulesModel" (210 : Nat) ({ cls := "CacheRulesModel", name := "reach", desc := "(IIZ)I" } : Jvm.MethodName)) ∈ GT := gt_at 872 (by decide +kernel) (by decide +kernel)
theorem g874 : (Jvm.Cond.instanceMethod ({ cls := "CacheRulesModel", name := "reach", desc := "(IIZ)I" } : Jvm.MethodName)) ∈ GT := gt_at 874 (by decide +kernel) (by decide +kernel)
theorem g875 : (Jvm.Cond.code ({ cls := "CacheRulesModel", name := "reach", desc := "(IIZ)I" } : Jvm.MethodName) prog_14_method_32_code (7 : Nat) (Option.some Jvm.ClassFile.FieldType.int)) ∈ GT := gt_at 875 (by decide +kernel) (by decide +kernel)
theorem g876 : (Jvm.Cond.methodLink "CacheRulesModel" (182 : Nat) ({ cls := "CacheRulesModel", name := "find", desc := "(I)I" } : Jvm.MethodName)) ∈ GT := gt_at 876 (by decide +kernel) (by decide +kernel)
theorem g878 : (Jvm.Cond.instanceMethod ({ cls := "CacheRulesModel", name := "find", desc := "(I)I" } : Jvm.MethodName)) ∈ GT := gt_at 878 (by decide +kernel) (by decide +kernel)
theorem g879 : (Jvm.Cond.code ({ cls := "CacheRulesModel", name := "find", desc := "(I)I" } : Jvm.MethodName) prog_14_method_9_code (5 : Nat) (Option.some Jvm.ClassFile.FieldType.int)) ∈ GT := gt_at 879 (by decide +kernel) (by decide +kernel)
theorem g880 : (Jvm.Cond.methodLink "CacheRulesModel" (110 : Nat) ({ cls := "CacheRulesModel", name := "setOf", desc := "(I)I" } : Jvm.MethodName)) ∈ GT := gt_at 880 (by decide +kernel) (by decide +kernel)
theorem g882 : (Jvm.Cond.instanceMethod ({ cls := "CacheRulesModel", name := "setOf", desc := "(I)I" } : Jvm.MethodName)) ∈ GT := gt_at 882 (by decide +kernel) (by decide +kernel)
theorem g883 : (Jvm.Cond.code ({ cls := "CacheRulesModel", name := "setOf", desc := "(I)I" } : Jvm.MethodName) prog_14_method_8_code (2 : Nat) (Option.some Jvm.ClassFile.FieldType.int)) ∈ GT := gt_at 883 (by decide +kernel) (by decide +kernel)
theorem g884 : (Jvm.Cond.methodLink "CacheRulesModel" (185 : Nat) ({ cls := "CacheRulesModel", name := "putNear", desc := "(I)V" } : Jvm.MethodName)) ∈ GT := gt_at 884 (by decide +kernel) (by decide +kernel)
theorem g886 : (Jvm.Cond.instanceMethod ({ cls := "CacheRulesModel", name := "putNear", desc := "(I)V" } : Jvm.MethodName)) ∈ GT := gt_at 886 (by decide +kernel) (by decide +kernel)
theorem g887 : (Jvm.Cond.code ({ cls := "CacheRulesModel", name := "putNear", desc := "(I)V" } : Jvm.MethodName) prog_14_method_30_code (4 : Nat) (Option.none : Option Jvm.ClassFile.FieldType)) ∈ GT := gt_at 887 (by decide +kernel) (by decide +kernel)
theorem g888 : (Jvm.Cond.methodLink "CacheRulesModel" (179 : Nat) ({ cls := "CacheRulesModel", name := "distanceOf", desc := "(I)I" } : Jvm.MethodName)) ∈ GT := gt_at 888 (by decide +kernel) (by decide +kernel)
theorem g890 : (Jvm.Cond.instanceMethod ({ cls := "CacheRulesModel", name := "distanceOf", desc := "(I)I" } : Jvm.MethodName)) ∈ GT := gt_at 890 (by decide +kernel) (by decide +kernel)
theorem g891 : (Jvm.Cond.code ({ cls := "CacheRulesModel", name := "distanceOf", desc := "(I)I" } : Jvm.MethodName) prog_14_method_29_code (4 : Nat) (Option.some Jvm.ClassFile.FieldType.int)) ∈ GT := gt_at 891 (by decide +kernel) (by decide +kernel)
theorem g892 : (Jvm.Cond.methodLink "CacheRulesModel" (188 : Nat) ({ cls := "CacheRulesModel", name := "takeWay", desc := "(IIZ)V" } : Jvm.MethodName)) ∈ GT := gt_at 892 (by decide +kernel) (by decide +kernel)
theorem g894 : (Jvm.Cond.instanceMethod ({ cls := "CacheRulesModel", name := "takeWay", desc := "(IIZ)V" } : Jvm.MethodName)) ∈ GT := gt_at 894 (by decide +kernel) (by decide +kernel)
theorem g895 : (Jvm.Cond.code ({ cls := "CacheRulesModel", name := "takeWay", desc := "(IIZ)V" } : Jvm.MethodName) prog_14_method_31_code (4 : Nat) (Option.none : Option Jvm.ClassFile.FieldType)) ∈ GT := gt_at 895 (by decide +kernel) (by decide +kernel)
theorem g896 : (Jvm.Cond.methodLink "CacheRulesModel" (192 : Nat) ({ cls := "CacheRulesModel", name := "tellUse", desc := "(I)V" } : Jvm.MethodName)) ∈ GT := gt_at 896 (by decide +kernel) (by decide +kernel)
theorem g898 : (Jvm.Cond.instanceMethod ({ cls := "CacheRulesModel", name := "tellUse", desc := "(I)V" } : Jvm.MethodName)) ∈ GT := gt_at 898 (by decide +kernel) (by decide +kernel)
theorem g899 : (Jvm.Cond.code ({ cls := "CacheRulesModel", name := "tellUse", desc := "(I)V" } : Jvm.MethodName) prog_14_method_14_code (2 : Nat) (Option.none : Option Jvm.ClassFile.FieldType)) ∈ GT := gt_at 899 (by decide +kernel) (by decide +kernel)
theorem g900 : (Jvm.Cond.methodLink "CacheRulesModel" (124 : Nat) ({ cls := "CacheRulesModel", name := "turnAway", desc := "(I)V" } : Jvm.MethodName)) ∈ GT := gt_at 900 (by decide +kernel) (by decide +kernel)
theorem g902 : (Jvm.Cond.instanceMethod ({ cls := "CacheRulesModel", name := "turnAway", desc := "(I)V" } : Jvm.MethodName)) ∈ GT := gt_at 902 (by decide +kernel) (by decide +kernel)
theorem g903 : (Jvm.Cond.code ({ cls := "CacheRulesModel", name := "turnAway", desc := "(I)V" } : Jvm.MethodName) prog_14_method_11_code (5 : Nat) (Option.none : Option Jvm.ClassFile.FieldType)) ∈ GT := gt_at 903 (by decide +kernel) (by decide +kernel)
theorem g904 : (Jvm.Cond.methodLink "CacheRulesModel" (117 : Nat) ({ cls := "CacheRulesModel", name := "treeSize", desc := "()I" } : Jvm.MethodName)) ∈ GT := gt_at 904 (by decide +kernel) (by decide +kernel)
theorem g906 : (Jvm.Cond.instanceMethod ({ cls := "CacheRulesModel", name := "treeSize", desc := "()I" } : Jvm.MethodName)) ∈ GT := gt_at 906 (by decide +kernel) (by decide +kernel)
theorem g907 : (Jvm.Cond.code ({ cls := "CacheRulesModel", name := "treeSize", desc := "()I" } : Jvm.MethodName) prog_14_method_12_code (1 : Nat) (Option.some Jvm.ClassFile.FieldType.int)) ∈ GT := gt_at 907 (by decide +kernel) (by decide +kernel)
theorem g908 : (Jvm.Cond.methodLink "CacheRulesModel" (128 : Nat) ({ cls := "CacheRulesModel", name := "markLately", desc := "(I)V" } : Jvm.MethodName)) ∈ GT := gt_at 908 (by decide +kernel) (by decide +kernel)
theorem g910 : (Jvm.Cond.instanceMethod ({ cls := "CacheRulesModel", name := "markLately", desc := "(I)V" } : Jvm.MethodName)) ∈ GT := gt_at 910 (by decide +kernel) (by decide +kernel)
theorem g911 : (Jvm.Cond.code ({ cls := "CacheRulesModel", name := "markLately", desc := "(I)V" } : Jvm.MethodName) prog_14_method_13_code (5 : Nat) (Option.none : Option Jvm.ClassFile.FieldType)) ∈ GT := gt_at 911 (by decide +kernel) (by decide +kernel)
theorem g912 : (Jvm.Cond.methodLink "CacheRulesModel" (195 : Nat) ({ cls := "CacheRulesModel", name := "findRow", desc := "(I)I" } : Jvm.MethodName)) ∈ GT := gt_at 912 (by decide +kernel) (by decide +kernel)
theorem g914 : (Jvm.Cond.instanceMethod ({ cls := "CacheRulesModel", name := "findRow", desc := "(I)I" } : Jvm.MethodName)) ∈ GT := gt_at 914 (by decide +kernel) (by decide +kernel)
theorem g915 : (Jvm.Cond.code ({ cls := "CacheRulesModel", name := "findRow", desc := "(I)I" } : Jvm.MethodName) prog_14_method_10_code (4 : Nat) (Option.some Jvm.ClassFile.FieldType.int)) ∈ GT := gt_at 915 (by decide +kernel) (by decide +kernel)
theorem g916 : (Jvm.Cond.methodLink "CacheRulesModel" (198 : Nat) ({ cls := "CacheRulesModel", name := "reachRow", desc := "(IIIZ)I" } : Jvm.MethodName)) ∈ GT := gt_at 916 (by decide +kernel) (by decide +kernel)
theorem g918 : (Jvm.Cond.instanceMethod ({ cls := "CacheRulesModel", name := "reachRow", desc := "(IIIZ)I" } : Jvm.MethodName)) ∈ GT := gt_at 918 (by decide +kernel) (by decide +kernel)
theorem g919 : (Jvm.Cond.code ({ cls := "CacheRulesModel", name := "reachRow", desc := "(IIIZ)I" } : Jvm.MethodName) prog_14_method_33_code (7 : Nat) (Option.some Jvm.ClassFile.FieldType.int)) ∈ GT := gt_at 919 (by decide +kernel) (by decide +kernel)
theorem g920 : (Jvm.Cond.methodLink "CacheRulesModel" (202 : Nat) ({ cls := "CacheRulesModel", name := "canPlace", desc := "(I)Z" } : Jvm.MethodName)) ∈ GT := gt_at 920 (by decide +kernel) (by decide +kernel)
theorem g922 : (Jvm.Cond.instanceMethod ({ cls := "CacheRulesModel", name := "canPlace", desc := "(I)Z" } : Jvm.MethodName)) ∈ GT := gt_at 922 (by decide +kernel) (by decide +kernel)
theorem g923 : (Jvm.Cond.code ({ cls := "CacheRulesModel", name := "canPlace", desc := "(I)Z" } : Jvm.MethodName) prog_14_method_27_code (5 : Nat) (Option.some Jvm.ClassFile.FieldType.boolean)) ∈ GT := gt_at 923 (by decide +kernel) (by decide +kernel)
theorem g924 : (Jvm.Cond.methodLink "CacheRulesModel" (163 : Nat) ({ cls := "CacheRulesModel", name := "takeRow", desc := "(I)V" } : Jvm.MethodName)) ∈ GT := gt_at 924 (by decide +kernel) (by decide +kernel)
theorem g926 : (Jvm.Cond.instanceMethod ({ cls := "CacheRulesModel", name := "takeRow", desc := "(I)V" } : Jvm.MethodName)) ∈ GT := gt_at 926 (by decide +kernel) (by decide +kernel)
theorem g927 : (Jvm.Cond.code ({ cls := "CacheRulesModel", name := "takeRow", desc := "(I)V" } : Jvm.MethodName) prog_14_method_26_code (3 : Nat) (Option.none : Option Jvm.ClassFile.FieldType)) ∈ GT := gt_at 927 (by decide +kernel) (by decide +kernel)
theorem g928 : (Jvm.Cond.methodLink "CacheRulesModel" (206 : Nat) ({ cls := "CacheRulesModel", name := "place", desc := "(III)I" } : Jvm.MethodName)) ∈ GT := gt_at 928 (by decide +kernel) (by decide +kernel)
theorem g930 : (Jvm.Cond.instanceMethod ({ cls := "CacheRulesModel", name := "place", desc := "(III)I" } : Jvm.MethodName)) ∈ GT := gt_at 930 (by decide +kernel) (by decide +kernel)
theorem g931 : (Jvm.Cond.code ({ cls := "CacheRulesModel", name := "place", desc := "(III)I" } : Jvm.MethodName) prog_14_method_28_code (6 : Nat) (Option.some Jvm.ClassFile.FieldType.int)) ∈ GT := gt_at 931 (by decide +kernel) (by decide +kernel)
theorem g932 : (Jvm.Cond.methodLink "CacheRulesModel" (166 : Nat) ({ cls := "CacheRulesModel", name := "pick", desc := "(IZ)I" } : Jvm.MethodName)) ∈ GT := gt_at 932 (by decide +kernel) (by decide +kernel)
theorem g934 : (Jvm.Cond.instanceMethod ({ cls := "CacheRulesModel", name := "pick", desc := "(IZ)I" } : Jvm.MethodName)) ∈ GT := gt_at 934 (by decide +kernel) (by decide +kernel)
theorem g935 : (Jvm.Cond.code ({ cls := "CacheRulesModel", name := "pick", desc := "(IZ)I" } : Jvm.MethodName) prog_14_method_23_code (3 : Nat) (Option.some Jvm.ClassFile.FieldType.int)) ∈ GT := gt_at 935 (by decide +kernel) (by decide +kernel)
theorem g936 : (Jvm.Cond.methodLink "CacheRulesModel" (138 : Nat) ({ cls := "CacheRulesModel", name := "byChance", desc := "(IZ)I" } : Jvm.MethodName)) ∈ GT := gt_at 936 (by decide +kernel) (by decide +kernel)
theorem g938 : (Jvm.Cond.instanceMethod ({ cls := "CacheRulesModel", name := "byChance", desc := "(IZ)I" } : Jvm.MethodName)) ∈ GT := gt_at 938 (by decide +kernel) (by decide +kernel)
theorem g939 : (Jvm.Cond.code ({ cls := "CacheRulesModel", name := "byChance", desc := "(IZ)I" } : Jvm.MethodName) prog_14_method_18_code (6 : Nat) (Option.some Jvm.ClassFile.FieldType.int)) ∈ GT := gt_at 939 (by decide +kernel) (by decide +kernel)
theorem g940 : (Jvm.Cond.constant "CacheRulesModel" (135 : Nat) (65536 : Int32)) ∈ GT := gt_at 940 (by decide +kernel) (by decide +kernel)
theorem g941 : (Jvm.Cond.constant "CacheRulesModel" (136 : Nat) (1103515245 : Int32)) ∈ GT := gt_at 941 (by decide +kernel) (by decide +kernel)
theorem g942 : (Jvm.Cond.constant "CacheRulesModel" (137 : Nat) (2147483647 : Int32)) ∈ GT := gt_at 942 (by decide +kernel) (by decide +kernel)
theorem g943 : (Jvm.Cond.methodLink "CacheRulesModel" (142 : Nat) ({ cls := "CacheRulesModel", name := "byHand", desc := "(IZ)I" } : Jvm.MethodName)) ∈ GT := gt_at 943 (by decide +kernel) (by decide +kernel)
theorem g945 : (Jvm.Cond.instanceMethod ({ cls := "CacheRulesModel", name := "byHand", desc := "(IZ)I" } : Jvm.MethodName)) ∈ GT := gt_at 945 (by decide +kernel) (by decide +kernel)
theorem g946 : (Jvm.Cond.code ({ cls := "CacheRulesModel", name := "byHand", desc := "(IZ)I" } : Jvm.MethodName) prog_14_method_19_code (5 : Nat) (Option.some Jvm.ClassFile.FieldType.int)) ∈ GT := gt_at 946 (by decide +kernel) (by decide +kernel)
theorem g947 : (Jvm.Cond.methodLink "CacheRulesModel" (145 : Nat) ({ cls := "CacheRulesModel", name := "byTree", desc := "(I)I" } : Jvm.MethodName)) ∈ GT := gt_at 947 (by decide +kernel) (by decide +kernel)
theorem g949 : (Jvm.Cond.instanceMethod ({ cls := "CacheRulesModel", name := "byTree", desc := "(I)I" } : Jvm.MethodName)) ∈ GT := gt_at 949 (by decide +kernel) (by decide +kernel)
theorem g950 : (Jvm.Cond.code ({ cls := "CacheRulesModel", name := "byTree", desc := "(I)I" } : Jvm.MethodName) prog_14_method_20_code (5 : Nat) (Option.some Jvm.ClassFile.FieldType.int)) ∈ GT := gt_at 950 (by decide +kernel) (by decide +kernel)
theorem g951 : (Jvm.Cond.methodLink "CacheRulesModel" (148 : Nat) ({ cls := "CacheRulesModel", name := "unmarked", desc := "(I)I" } : Jvm.MethodName)) ∈ GT := gt_at 951 (by decide +kernel) (by decide +kernel)
theorem g953 : (Jvm.Cond.instanceMethod ({ cls := "CacheRulesModel", name := "unmarked", desc := "(I)I" } : Jvm.MethodName)) ∈ GT := gt_at 953 (by decide +kernel) (by decide +kernel)
theorem g954 : (Jvm.Cond.code ({ cls := "CacheRulesModel", name := "unmarked", desc := "(I)I" } : Jvm.MethodName) prog_14_method_21_code (4 : Nat) (Option.some Jvm.ClassFile.FieldType.int)) ∈ GT := gt_at 954 (by decide +kernel) (by decide +kernel)
theorem g955 : (Jvm.Cond.methodLink "CacheRulesModel" (151 : Nat) ({ cls := "CacheRulesModel", name := "byAge", desc := "(IZ)I" } : Jvm.MethodName)) ∈ GT := gt_at 955 (by decide +kernel) (by decide +kernel)
theorem g957 : (Jvm.Cond.instanceMethod ({ cls := "CacheRulesModel", name := "byAge", desc := "(IZ)I" } : Jvm.MethodName)) ∈ GT := gt_at 957 (by decide +kernel) (by decide +kernel)
theorem g958 : (Jvm.Cond.code ({ cls := "CacheRulesModel", name := "byAge", desc := "(IZ)I" } : Jvm.MethodName) prog_14_method_22_code (6 : Nat) (Option.some Jvm.ClassFile.FieldType.int)) ∈ GT := gt_at 958 (by decide +kernel) (by decide +kernel)
theorem g959 : (Jvm.Cond.methodLink "CacheRulesModel" (154 : Nat) ({ cls := "CacheRulesModel", name := "best", desc := "(I)I" } : Jvm.MethodName)) ∈ GT := gt_at 959 (by decide +kernel) (by decide +kernel)
theorem g961 : (Jvm.Cond.instanceMethod ({ cls := "CacheRulesModel", name := "best", desc := "(I)I" } : Jvm.MethodName)) ∈ GT := gt_at 961 (by decide +kernel) (by decide +kernel)
theorem g962 : (Jvm.Cond.code ({ cls := "CacheRulesModel", name := "best", desc := "(I)I" } : Jvm.MethodName) prog_14_method_17_code (4 : Nat) (Option.some Jvm.ClassFile.FieldType.int)) ∈ GT := gt_at 962 (by decide +kernel) (by decide +kernel)
theorem g963 : (Jvm.Cond.methodLink "CacheRulesModel" (131 : Nat) ({ cls := "CacheRulesModel", name := "isBetter", desc := "(II)Z" } : Jvm.MethodName)) ∈ GT := gt_at 963 (by decide +kernel) (by decide +kernel)
theorem g965 : (Jvm.Cond.instanceMethod ({ cls := "CacheRulesModel", name := "isBetter", desc := "(II)Z" } : Jvm.MethodName)) ∈ GT := gt_at 965 (by decide +kernel) (by decide +kernel)
theorem g966 : (Jvm.Cond.code ({ cls := "CacheRulesModel", name := "isBetter", desc := "(II)Z" } : Jvm.MethodName) prog_14_method_16_code (3 : Nat) (Option.some Jvm.ClassFile.FieldType.boolean)) ∈ GT := gt_at 966 (by decide +kernel) (by decide +kernel)
theorem g967 : (Jvm.Cond.methodLink "CacheRulesModel" (169 : Nat) ({ cls := "CacheRulesModel", name := "catchRow", desc := "(III)V" } : Jvm.MethodName)) ∈ GT := gt_at 967 (by decide +kernel) (by decide +kernel)
theorem g969 : (Jvm.Cond.instanceMethod ({ cls := "CacheRulesModel", name := "catchRow", desc := "(III)V" } : Jvm.MethodName)) ∈ GT := gt_at 969 (by decide +kernel) (by decide +kernel)
theorem g970 : (Jvm.Cond.code ({ cls := "CacheRulesModel", name := "catchRow", desc := "(III)V" } : Jvm.MethodName) prog_14_method_25_code (4 : Nat) (Option.none : Option Jvm.ClassFile.FieldType)) ∈ GT := gt_at 970 (by decide +kernel) (by decide +kernel)
theorem g971 : (Jvm.Cond.methodLink "CacheRulesModel" (160 : Nat) ({ cls := "CacheRulesModel", name := "writeAll", desc := "(I)V" } : Jvm.MethodName)) ∈ GT := gt_at 971 (by decide +kernel) (by decide +kernel)
theorem g973 : (Jvm.Cond.instanceMethod ({ cls := "CacheRulesModel", name := "writeAll", desc := "(I)V" } : Jvm.MethodName)) ∈ GT := gt_at 973 (by decide +kernel) (by decide +kernel)
theorem g974 : (Jvm.Cond.code ({ cls := "CacheRulesModel", name := "writeAll", desc := "(I)V" } : Jvm.MethodName) prog_14_method_24_code (2 : Nat) (Option.none : Option Jvm.ClassFile.FieldType)) ∈ GT := gt_at 974 (by decide +kernel) (by decide +kernel)
theorem g975 : (Jvm.Cond.methodLink "CacheRulesModel" (157 : Nat) ({ cls := "CacheRulesModel", name := "ones", desc := "(I)I" } : Jvm.MethodName)) ∈ GT := gt_at 975 (by decide +kernel) (by decide +kernel)
theorem g976 : (Jvm.Cond.static ({ cls := "CacheRulesModel", name := "ones", desc := "(I)I" } : Jvm.MethodName)) ∈ GT := gt_at 976 (by decide +kernel) (by decide +kernel)
theorem g977 : (Jvm.Cond.code ({ cls := "CacheRulesModel", name := "ones", desc := "(I)I" } : Jvm.MethodName) prog_14_method_7_code (1 : Nat) (Option.some Jvm.ClassFile.FieldType.int)) ∈ GT := gt_at 977 (by decide +kernel) (by decide +kernel)
theorem g978 : (Jvm.Cond.methodLink "CacheRulesModel" (173 : Nat) ({ cls := "CacheRulesModel", name := "tellComing", desc := "(I)V" } : Jvm.MethodName)) ∈ GT := gt_at 978 (by decide +kernel) (by decide +kernel)
theorem g980 : (Jvm.Cond.instanceMethod ({ cls := "CacheRulesModel", name := "tellComing", desc := "(I)V" } : Jvm.MethodName)) ∈ GT := gt_at 980 (by decide +kernel) (by decide +kernel)
theorem g981 : (Jvm.Cond.code ({ cls := "CacheRulesModel", name := "tellComing", desc := "(I)V" } : Jvm.MethodName) prog_14_method_15_code (2 : Nat) (Option.none : Option Jvm.ClassFile.FieldType)) ∈ GT := gt_at 981 (by decide +kernel) (by decide +kernel)
theorem g982 : (Jvm.Cond.methodLink "CacheRulesModel" (221 : Nat) ({ cls := "CacheRulesModel", name := "fail", desc := "(I)I" } : Jvm.MethodName)) ∈ GT := gt_at 982 (by decide +kernel) (by decide +kernel)
theorem g984 : (Jvm.Cond.instanceMethod ({ cls := "CacheRulesModel", name := "fail", desc := "(I)I" } : Jvm.MethodName)) ∈ GT := gt_at 984 (by decide +kernel) (by decide +kernel)
theorem g985 : (Jvm.Cond.code ({ cls := "CacheRulesModel", name := "fail", desc := "(I)I" } : Jvm.MethodName) prog_14_method_4_code (2 : Nat) (Option.some Jvm.ClassFile.FieldType.int)) ∈ GT := gt_at 985 (by decide +kernel) (by decide +kernel)
theorem g986 : (Jvm.Cond.methodLink "CacheRulesLaw" (73 : Nat) ({ cls := "CacheRulesModel", name := "ask", desc := "(II)I" } : Jvm.MethodName)) ∈ GT := gt_at 986 (by decide +kernel) (by decide +kernel)
theorem g987 : (Jvm.Cond.instanceMethod ({ cls := "CacheRulesModel", name := "ask", desc := "(II)I" } : Jvm.MethodName)) ∈ GT := gt_at 987 (by decide +kernel) (by decide +kernel)
theorem g988 : (Jvm.Cond.selects "CacheRulesModel" ({ cls := "CacheRulesModel", name := "ask", desc := "(II)I" } : Jvm.MethodName) ({ cls := "CacheRulesModel", name := "ask", desc := "(II)I" } : Jvm.MethodName)) ∈ GT := gt_at 988 (by decide +kernel) (by decide +kernel)
theorem g989 : (Jvm.Cond.code ({ cls := "CacheRulesModel", name := "ask", desc := "(II)I" } : Jvm.MethodName) prog_14_method_37_code (6 : Nat) (Option.some Jvm.ClassFile.FieldType.int)) ∈ GT := gt_at 989 (by decide +kernel) (by decide +kernel)
theorem g990 : (Jvm.Cond.methodLink "CacheRulesModel" (227 : Nat) ({ cls := "CacheRulesModel", name := "lines", desc := "()I" } : Jvm.MethodName)) ∈ GT := gt_at 990 (by decide +kernel) (by decide +kernel)
theorem g992 : (Jvm.Cond.instanceMethod ({ cls := "CacheRulesModel", name := "lines", desc := "()I" } : Jvm.MethodName)) ∈ GT := gt_at 992 (by decide +kernel) (by decide +kernel)
theorem g993 : (Jvm.Cond.code ({ cls := "CacheRulesModel", name := "lines", desc := "()I" } : Jvm.MethodName) prog_14_method_36_code (5 : Nat) (Option.some Jvm.ClassFile.FieldType.int)) ∈ GT := gt_at 993 (by decide +kernel) (by decide +kernel)
theorem g994 : (Jvm.Cond.methodLink "CacheRulesLaw" (77 : Nat) ({ cls := "CacheRulesModel", name := "answer", desc := "()I" } : Jvm.MethodName)) ∈ GT := gt_at 994 (by decide +kernel) (by decide +kernel)
theorem g995 : (Jvm.Cond.instanceMethod ({ cls := "CacheRulesModel", name := "answer", desc := "()I" } : Jvm.MethodName)) ∈ GT := gt_at 995 (by decide +kernel) (by decide +kernel)
theorem g996 : (Jvm.Cond.selects "CacheRulesModel" ({ cls := "CacheRulesModel", name := "answer", desc := "()I" } : Jvm.MethodName) ({ cls := "CacheRulesModel", name := "answer", desc := "()I" } : Jvm.MethodName)) ∈ GT := gt_at 996 (by decide +kernel) (by decide +kernel)
theorem g997 : (Jvm.Cond.code ({ cls := "CacheRulesModel", name := "answer", desc := "()I" } : Jvm.MethodName) prog_14_method_38_code (4 : Nat) (Option.some Jvm.ClassFile.FieldType.int)) ∈ GT := gt_at 997 (by decide +kernel) (by decide +kernel)
theorem g998 : (Jvm.Cond.methodLink "CacheRulesLaw" (80 : Nat) ({ cls := "CacheRulesModel", name := "answered", desc := "(II)I" } : Jvm.MethodName)) ∈ GT := gt_at 998 (by decide +kernel) (by decide +kernel)
theorem g999 : (Jvm.Cond.instanceMethod ({ cls := "CacheRulesModel", name := "answered", desc := "(II)I" } : Jvm.MethodName)) ∈ GT := gt_at 999 (by decide +kernel) (by decide +kernel)
theorem g1000 : (Jvm.Cond.selects "CacheRulesModel" ({ cls := "CacheRulesModel", name := "answered", desc := "(II)I" } : Jvm.MethodName) ({ cls := "CacheRulesModel", name := "answered", desc := "(II)I" } : Jvm.MethodName)) ∈ GT := gt_at 1000 (by decide +kernel) (by decide +kernel)
theorem g1001 : (Jvm.Cond.code ({ cls := "CacheRulesModel", name := "answered", desc := "(II)I" } : Jvm.MethodName) prog_14_method_39_code (3 : Nat) (Option.some Jvm.ClassFile.FieldType.int)) ∈ GT := gt_at 1001 (by decide +kernel) (by decide +kernel)
theorem g1002 : (Jvm.Cond.methodLink "CacheRulesLaw" (85 : Nat) ({ cls := "CacheRulesModel", name := "lock", desc := "(IZ)Z" } : Jvm.MethodName)) ∈ GT := gt_at 1002 (by decide +kernel) (by decide +kernel)
theorem g1003 : (Jvm.Cond.instanceMethod ({ cls := "CacheRulesModel", name := "lock", desc := "(IZ)Z" } : Jvm.MethodName)) ∈ GT := gt_at 1003 (by decide +kernel) (by decide +kernel)
theorem g1004 : (Jvm.Cond.selects "CacheRulesModel" ({ cls := "CacheRulesModel", name := "lock", desc := "(IZ)Z" } : Jvm.MethodName) ({ cls := "CacheRulesModel", name := "lock", desc := "(IZ)Z" } : Jvm.MethodName)) ∈ GT := gt_at 1004 (by decide +kernel) (by decide +kernel)
theorem g1005 : (Jvm.Cond.code ({ cls := "CacheRulesModel", name := "lock", desc := "(IZ)Z" } : Jvm.MethodName) prog_14_method_40_code (5 : Nat) (Option.some Jvm.ClassFile.FieldType.boolean)) ∈ GT := gt_at 1005 (by decide +kernel) (by decide +kernel)
theorem g1006 : (Jvm.Cond.methodLink "CacheRulesLaw" (89 : Nat) ({ cls := "CacheRulesModel", name := "clean", desc := "(I)I" } : Jvm.MethodName)) ∈ GT := gt_at 1006 (by decide +kernel) (by decide +kernel)
theorem g1007 : (Jvm.Cond.instanceMethod ({ cls := "CacheRulesModel", name := "clean", desc := "(I)I" } : Jvm.MethodName)) ∈ GT := gt_at 1007 (by decide +kernel) (by decide +kernel)
theorem g1008 : (Jvm.Cond.selects "CacheRulesModel" ({ cls := "CacheRulesModel", name := "clean", desc := "(I)I" } : Jvm.MethodName) ({ cls := "CacheRulesModel", name := "clean", desc := "(I)I" } : Jvm.MethodName)) ∈ GT := gt_at 1008 (by decide +kernel) (by decide +kernel)
theorem g1009 : (Jvm.Cond.code ({ cls := "CacheRulesModel", name := "clean", desc := "(I)I" } : Jvm.MethodName) prog_14_method_43_code (4 : Nat) (Option.some Jvm.ClassFile.FieldType.int)) ∈ GT := gt_at 1009 (by decide +kernel) (by decide +kernel)
theorem g1010 : (Jvm.Cond.methodLink "CacheRulesModel" (233 : Nat) ({ cls := "CacheRulesModel", name := "cleanWay", desc := "(I)I" } : Jvm.MethodName)) ∈ GT := gt_at 1010 (by decide +kernel) (by decide +kernel)
theorem g1012 : (Jvm.Cond.instanceMethod ({ cls := "CacheRulesModel", name := "cleanWay", desc := "(I)I" } : Jvm.MethodName)) ∈ GT := gt_at 1012 (by decide +kernel) (by decide +kernel)
theorem g1013 : (Jvm.Cond.code ({ cls := "CacheRulesModel", name := "cleanWay", desc := "(I)I" } : Jvm.MethodName) prog_14_method_41_code (3 : Nat) (Option.some Jvm.ClassFile.FieldType.int)) ∈ GT := gt_at 1013 (by decide +kernel) (by decide +kernel)
theorem g1014 : (Jvm.Cond.methodLink "CacheRulesModel" (236 : Nat) ({ cls := "CacheRulesModel", name := "cleanRow", desc := "(I)I" } : Jvm.MethodName)) ∈ GT := gt_at 1014 (by decide +kernel) (by decide +kernel)
theorem g1016 : (Jvm.Cond.instanceMethod ({ cls := "CacheRulesModel", name := "cleanRow", desc := "(I)I" } : Jvm.MethodName)) ∈ GT := gt_at 1016 (by decide +kernel) (by decide +kernel)
theorem g1017 : (Jvm.Cond.code ({ cls := "CacheRulesModel", name := "cleanRow", desc := "(I)I" } : Jvm.MethodName) prog_14_method_42_code (3 : Nat) (Option.some Jvm.ClassFile.FieldType.int)) ∈ GT := gt_at 1017 (by decide +kernel) (by decide +kernel)
theorem g1018 : (Jvm.Cond.methodLink "CacheRulesLaw" (93 : Nat) ({ cls := "CacheRulesModel", name := "cleanAll", desc := "()I" } : Jvm.MethodName)) ∈ GT := gt_at 1018 (by decide +kernel) (by decide +kernel)
theorem g1019 : (Jvm.Cond.instanceMethod ({ cls := "CacheRulesModel", name := "cleanAll", desc := "()I" } : Jvm.MethodName)) ∈ GT := gt_at 1019 (by decide +kernel) (by decide +kernel)
theorem g1020 : (Jvm.Cond.selects "CacheRulesModel" ({ cls := "CacheRulesModel", name := "cleanAll", desc := "()I" } : Jvm.MethodName) ({ cls := "CacheRulesModel", name := "cleanAll", desc := "()I" } : Jvm.MethodName)) ∈ GT := gt_at 1020 (by decide +kernel) (by decide +kernel)
theorem g1021 : (Jvm.Cond.code ({ cls := "CacheRulesModel", name := "cleanAll", desc := "()I" } : Jvm.MethodName) prog_14_method_44_code (3 : Nat) (Option.some Jvm.ClassFile.FieldType.int)) ∈ GT := gt_at 1021 (by decide +kernel) (by decide +kernel)
theorem g1022 : (Jvm.Cond.methodLink "CacheRulesLaw" (97 : Nat) ({ cls := "CacheRulesModel", name := "drop", desc := "(I)I" } : Jvm.MethodName)) ∈ GT := gt_at 1022 (by decide +kernel) (by decide +kernel)
theorem g1023 : (Jvm.Cond.instanceMethod ({ cls := "CacheRulesModel", name := "drop", desc := "(I)I" } : Jvm.MethodName)) ∈ GT := gt_at 1023 (by decide +kernel) (by decide +kernel)
theorem g1024 : (Jvm.Cond.selects "CacheRulesModel" ({ cls := "CacheRulesModel", name := "drop", desc := "(I)I" } : Jvm.MethodName) ({ cls := "CacheRulesModel", name := "drop", desc := "(I)I" } : Jvm.MethodName)) ∈ GT := gt_at 1024 (by decide +kernel) (by decide +kernel)
theorem g1025 : (Jvm.Cond.code ({ cls := "CacheRulesModel", name := "drop", desc := "(I)I" } : Jvm.MethodName) prog_14_method_45_code (5 : Nat) (Option.some Jvm.ClassFile.FieldType.int)) ∈ GT := gt_at 1025 (by decide +kernel) (by decide +kernel)
theorem g1026 : (Jvm.Cond.methodLink "CacheRulesLaw" (101 : Nat) ({ cls := "CacheRulesModel", name := "way", desc := "(III)I" } : Jvm.MethodName)) ∈ GT := gt_at 1026 (by decide +kernel) (by decide +kernel)
theorem g1027 : (Jvm.Cond.instanceMethod ({ cls := "CacheRulesModel", name := "way", desc := "(III)I" } : Jvm.MethodName)) ∈ GT := gt_at 1027 (by decide +kernel) (by decide +kernel)
theorem g1028 : (Jvm.Cond.selects "CacheRulesModel" ({ cls := "CacheRulesModel", name := "way", desc := "(III)I" } : Jvm.MethodName) ({ cls := "CacheRulesModel", name := "way", desc := "(III)I" } : Jvm.MethodName)) ∈ GT := gt_at 1028 (by decide +kernel) (by decide +kernel)
theorem g1029 : (Jvm.Cond.code ({ cls := "CacheRulesModel", name := "way", desc := "(III)I" } : Jvm.MethodName) prog_14_method_46_code (5 : Nat) (Option.some Jvm.ClassFile.FieldType.int)) ∈ GT := gt_at 1029 (by decide +kernel) (by decide +kernel)
theorem g1030 : (Jvm.Cond.methodLink "CacheRulesLaw" (104 : Nat) ({ cls := "CacheRulesModel", name := "caught", desc := "(II)I" } : Jvm.MethodName)) ∈ GT := gt_at 1030 (by decide +kernel) (by decide +kernel)
theorem g1031 : (Jvm.Cond.instanceMethod ({ cls := "CacheRulesModel", name := "caught", desc := "(II)I" } : Jvm.MethodName)) ∈ GT := gt_at 1031 (by decide +kernel) (by decide +kernel)
theorem g1032 : (Jvm.Cond.selects "CacheRulesModel" ({ cls := "CacheRulesModel", name := "caught", desc := "(II)I" } : Jvm.MethodName) ({ cls := "CacheRulesModel", name := "caught", desc := "(II)I" } : Jvm.MethodName)) ∈ GT := gt_at 1032 (by decide +kernel) (by decide +kernel)
theorem g1033 : (Jvm.Cond.code ({ cls := "CacheRulesModel", name := "caught", desc := "(II)I" } : Jvm.MethodName) prog_14_method_47_code (3 : Nat) (Option.some Jvm.ClassFile.FieldType.int)) ∈ GT := gt_at 1033 (by decide +kernel) (by decide +kernel)
theorem g1034 : (Jvm.Cond.methodLink "CacheRulesLaw" (108 : Nat) ({ cls := "CacheRulesModel", name := "next", desc := "(I)I" } : Jvm.MethodName)) ∈ GT := gt_at 1034 (by decide +kernel) (by decide +kernel)
theorem g1035 : (Jvm.Cond.instanceMethod ({ cls := "CacheRulesModel", name := "next", desc := "(I)I" } : Jvm.MethodName)) ∈ GT := gt_at 1035 (by decide +kernel) (by decide +kernel)
theorem g1036 : (Jvm.Cond.selects "CacheRulesModel" ({ cls := "CacheRulesModel", name := "next", desc := "(I)I" } : Jvm.MethodName) ({ cls := "CacheRulesModel", name := "next", desc := "(I)I" } : Jvm.MethodName)) ∈ GT := gt_at 1036 (by decide +kernel) (by decide +kernel)
theorem g1037 : (Jvm.Cond.code ({ cls := "CacheRulesModel", name := "next", desc := "(I)I" } : Jvm.MethodName) prog_14_method_48_code (5 : Nat) (Option.some Jvm.ClassFile.FieldType.int)) ∈ GT := gt_at 1037 (by decide +kernel) (by decide +kernel)
theorem g1038 : (Jvm.Cond.methodLink "CacheRulesLaw" (111 : Nat) ({ cls := "CacheRulesModel", name := "misses", desc := "(I)I" } : Jvm.MethodName)) ∈ GT := gt_at 1038 (by decide +kernel) (by decide +kernel)
theorem g1039 : (Jvm.Cond.instanceMethod ({ cls := "CacheRulesModel", name := "misses", desc := "(I)I" } : Jvm.MethodName)) ∈ GT := gt_at 1039 (by decide +kernel) (by decide +kernel)
theorem g1040 : (Jvm.Cond.selects "CacheRulesModel" ({ cls := "CacheRulesModel", name := "misses", desc := "(I)I" } : Jvm.MethodName) ({ cls := "CacheRulesModel", name := "misses", desc := "(I)I" } : Jvm.MethodName)) ∈ GT := gt_at 1040 (by decide +kernel) (by decide +kernel)
theorem g1041 : (Jvm.Cond.code ({ cls := "CacheRulesModel", name := "misses", desc := "(I)I" } : Jvm.MethodName) prog_14_method_49_code (4 : Nat) (Option.some Jvm.ClassFile.FieldType.int)) ∈ GT := gt_at 1041 (by decide +kernel) (by decide +kernel)
theorem g1042 : (Jvm.Cond.methodLink "CacheRulesLaw" (115 : Nat) ({ cls := "CacheRulesModel", name := "distance", desc := "(I)I" } : Jvm.MethodName)) ∈ GT := gt_at 1042 (by decide +kernel) (by decide +kernel)
theorem g1043 : (Jvm.Cond.instanceMethod ({ cls := "CacheRulesModel", name := "distance", desc := "(I)I" } : Jvm.MethodName)) ∈ GT := gt_at 1043 (by decide +kernel) (by decide +kernel)
theorem g1044 : (Jvm.Cond.selects "CacheRulesModel" ({ cls := "CacheRulesModel", name := "distance", desc := "(I)I" } : Jvm.MethodName) ({ cls := "CacheRulesModel", name := "distance", desc := "(I)I" } : Jvm.MethodName)) ∈ GT := gt_at 1044 (by decide +kernel) (by decide +kernel)
theorem g1045 : (Jvm.Cond.code ({ cls := "CacheRulesModel", name := "distance", desc := "(I)I" } : Jvm.MethodName) prog_14_method_50_code (2 : Nat) (Option.some Jvm.ClassFile.FieldType.int)) ∈ GT := gt_at 1045 (by decide +kernel) (by decide +kernel)
theorem g1046 : (Jvm.Cond.methodLink "CacheRulesLaw" (119 : Nat) ({ cls := "CacheRulesModel", name := "count", desc := "(I)I" } : Jvm.MethodName)) ∈ GT := gt_at 1046 (by decide +kernel) (by decide +kernel)
theorem g1047 : (Jvm.Cond.instanceMethod ({ cls := "CacheRulesModel", name := "count", desc := "(I)I" } : Jvm.MethodName)) ∈ GT := gt_at 1047 (by decide +kernel) (by decide +kernel)
theorem g1048 : (Jvm.Cond.selects "CacheRulesModel" ({ cls := "CacheRulesModel", name := "count", desc := "(I)I" } : Jvm.MethodName) ({ cls := "CacheRulesModel", name := "count", desc := "(I)I" } : Jvm.MethodName)) ∈ GT := gt_at 1048 (by decide +kernel) (by decide +kernel)
theorem g1049 : (Jvm.Cond.code ({ cls := "CacheRulesModel", name := "count", desc := "(I)I" } : Jvm.MethodName) prog_14_method_51_code (2 : Nat) (Option.some Jvm.ClassFile.FieldType.int)) ∈ GT := gt_at 1049 (by decide +kernel) (by decide +kernel)
theorem g1050 : (Jvm.Cond.arrayClass Jvm.ClassFile.FieldType.long) ∈ GT := gt_at 1050 (by decide +kernel) (by decide +kernel)
theorem g1051 : (Jvm.Cond.sameMethod "java/lang/Throwable" "java/lang/Throwable" "fillInStackTrace" "(I)Ljava/lang/Throwable;") ∈ GT := gt_at 1051 (by decide +kernel) (by decide +kernel)
abbrev c_C_init : ByteArray := prog_1_method_1_code
abbrev y_C_init : MethodName := ⟨"CacheRules", "<init>", "(IIII)V"⟩
abbrev c_C_ruleOf : ByteArray := prog_1_method_2_code
abbrev y_C_ruleOf : MethodName := ⟨"CacheRules", "ruleOf", "(III)LCacheRules$Rule;"⟩
abbrev c_C_mode : ByteArray := prog_1_method_3_code
abbrev y_C_mode : MethodName := ⟨"CacheRules", "mode", "(ZZ)I"⟩
abbrev c_C_access : ByteArray := prog_1_method_4_code
abbrev y_C_access : MethodName := ⟨"CacheRules", "access", "(IIZ)I"⟩
abbrev c_C_ask : ByteArray := prog_1_method_5_code
abbrev y_C_ask : MethodName := ⟨"CacheRules", "ask", "(II)I"⟩
abbrev c_C_answer : ByteArray := prog_1_method_6_code
abbrev y_C_answer : MethodName := ⟨"CacheRules", "answer", "()I"⟩
abbrev c_C_answered : ByteArray := prog_1_method_7_code
abbrev y_C_answered : MethodName := ⟨"CacheRules", "answered", "(II)I"⟩
abbrev c_C_lock : ByteArray := prog_1_method_8_code
abbrev y_C_lock : MethodName := ⟨"CacheRules", "lock", "(IZ)Z"⟩
abbrev c_C_clean : ByteArray := prog_1_method_9_code
abbrev y_C_clean : MethodName := ⟨"CacheRules", "clean", "(I)I"⟩
abbrev c_C_cleanAll : ByteArray := prog_1_method_10_code
abbrev y_C_cleanAll : MethodName := ⟨"CacheRules", "cleanAll", "()I"⟩
abbrev c_C_drop : ByteArray := prog_1_method_11_code
abbrev y_C_drop : MethodName := ⟨"CacheRules", "drop", "(I)I"⟩
abbrev c_C_way : ByteArray := prog_1_method_12_code
abbrev y_C_way : MethodName := ⟨"CacheRules", "way", "(III)I"⟩
abbrev c_C_caught : ByteArray := prog_1_method_13_code
abbrev y_C_caught : MethodName := ⟨"CacheRules", "caught", "(II)I"⟩
abbrev c_C_next : ByteArray := prog_1_method_14_code
abbrev y_C_next : MethodName := ⟨"CacheRules", "next", "(I)I"⟩
abbrev c_C_misses : ByteArray := prog_1_method_15_code
abbrev y_C_misses : MethodName := ⟨"CacheRules", "misses", "(I)I"⟩
abbrev c_C_distance : ByteArray := prog_1_method_16_code
abbrev y_C_distance : MethodName := ⟨"CacheRules", "distance", "(I)I"⟩
abbrev c_C_count : ByteArray := prog_1_method_17_code
abbrev y_C_count : MethodName := ⟨"CacheRules", "count", "(I)I"⟩
abbrev c_C_isNoPart : ByteArray := prog_1_method_18_code
abbrev y_C_isNoPart : MethodName := ⟨"CacheRules", "isNoPart", "(I)Z"⟩
abbrev c_C_perform : ByteArray := prog_1_method_19_code
abbrev y_C_perform : MethodName := ⟨"CacheRules", "perform", "(IIZ)I"⟩
abbrev c_C_reach : ByteArray := prog_1_method_20_code
abbrev y_C_reach : MethodName := ⟨"CacheRules", "reach", "(IIZ)I"⟩
abbrev c_C_useWay : ByteArray := prog_1_method_21_code
abbrev y_C_useWay : MethodName := ⟨"CacheRules", "useWay", "(III)I"⟩
abbrev c_C_recall : ByteArray := prog_1_method_22_code
abbrev y_C_recall : MethodName := ⟨"CacheRules", "recall", "(II)I"⟩
abbrev c_C_place : ByteArray := prog_1_method_23_code
abbrev y_C_place : MethodName := ⟨"CacheRules", "place", "(III)V"⟩
abbrev c_C_putOut : ByteArray := prog_1_method_24_code
abbrev y_C_putOut : MethodName := ⟨"CacheRules", "putOut", "(I)V"⟩
abbrev c_C_writePart : ByteArray := prog_1_method_25_code
abbrev y_C_writePart : MethodName := ⟨"CacheRules", "writePart", "(II)V"⟩
abbrev c_M_init : ByteArray := prog_14_method_1_code
abbrev y_M_init : MethodName := ⟨"CacheRulesModel", "<init>", "(IIII)V"⟩
abbrev c_M_modulo : ByteArray := prog_14_method_2_code
abbrev y_M_modulo : MethodName := ⟨"CacheRulesModel", "modulo", "(II)I"⟩
abbrev c_M_thrown : ByteArray := prog_14_method_3_code
abbrev y_M_thrown : MethodName := ⟨"CacheRulesModel", "thrown", "()I"⟩
abbrev c_M_fail : ByteArray := prog_14_method_4_code
abbrev y_M_fail : MethodName := ⟨"CacheRulesModel", "fail", "(I)I"⟩
abbrev c_M_within : ByteArray := prog_14_method_5_code
abbrev y_M_within : MethodName := ⟨"CacheRulesModel", "within", "(III)Z"⟩
abbrev c_M_mode : ByteArray := prog_14_method_6_code
abbrev y_M_mode : MethodName := ⟨"CacheRulesModel", "mode", "(ZZ)I"⟩
abbrev c_M_ones : ByteArray := prog_14_method_7_code
abbrev y_M_ones : MethodName := ⟨"CacheRulesModel", "ones", "(I)I"⟩
abbrev c_M_setOf : ByteArray := prog_14_method_8_code
abbrev y_M_setOf : MethodName := ⟨"CacheRulesModel", "setOf", "(I)I"⟩
abbrev c_M_find : ByteArray := prog_14_method_9_code
abbrev y_M_find : MethodName := ⟨"CacheRulesModel", "find", "(I)I"⟩
abbrev c_M_findRow : ByteArray := prog_14_method_10_code
abbrev y_M_findRow : MethodName := ⟨"CacheRulesModel", "findRow", "(I)I"⟩
abbrev c_M_turnAway : ByteArray := prog_14_method_11_code
abbrev y_M_turnAway : MethodName := ⟨"CacheRulesModel", "turnAway", "(I)V"⟩
abbrev c_M_treeSize : ByteArray := prog_14_method_12_code
abbrev y_M_treeSize : MethodName := ⟨"CacheRulesModel", "treeSize", "()I"⟩
abbrev c_M_markLately : ByteArray := prog_14_method_13_code
abbrev y_M_markLately : MethodName := ⟨"CacheRulesModel", "markLately", "(I)V"⟩
abbrev c_M_tellUse : ByteArray := prog_14_method_14_code
abbrev y_M_tellUse : MethodName := ⟨"CacheRulesModel", "tellUse", "(I)V"⟩
abbrev c_M_tellComing : ByteArray := prog_14_method_15_code
abbrev y_M_tellComing : MethodName := ⟨"CacheRulesModel", "tellComing", "(I)V"⟩
abbrev c_M_isBetter : ByteArray := prog_14_method_16_code
abbrev y_M_isBetter : MethodName := ⟨"CacheRulesModel", "isBetter", "(II)Z"⟩
abbrev c_M_best : ByteArray := prog_14_method_17_code
abbrev y_M_best : MethodName := ⟨"CacheRulesModel", "best", "(I)I"⟩
abbrev c_M_byChance : ByteArray := prog_14_method_18_code
abbrev y_M_byChance : MethodName := ⟨"CacheRulesModel", "byChance", "(IZ)I"⟩
abbrev c_M_byHand : ByteArray := prog_14_method_19_code
abbrev y_M_byHand : MethodName := ⟨"CacheRulesModel", "byHand", "(IZ)I"⟩
abbrev c_M_byTree : ByteArray := prog_14_method_20_code
abbrev y_M_byTree : MethodName := ⟨"CacheRulesModel", "byTree", "(I)I"⟩
abbrev c_M_unmarked : ByteArray := prog_14_method_21_code
abbrev y_M_unmarked : MethodName := ⟨"CacheRulesModel", "unmarked", "(I)I"⟩
abbrev c_M_byAge : ByteArray := prog_14_method_22_code
abbrev y_M_byAge : MethodName := ⟨"CacheRulesModel", "byAge", "(IZ)I"⟩
abbrev c_M_pick : ByteArray := prog_14_method_23_code
abbrev y_M_pick : MethodName := ⟨"CacheRulesModel", "pick", "(IZ)I"⟩
abbrev c_M_writeAll : ByteArray := prog_14_method_24_code
abbrev y_M_writeAll : MethodName := ⟨"CacheRulesModel", "writeAll", "(I)V"⟩
abbrev c_M_catchRow : ByteArray := prog_14_method_25_code
abbrev y_M_catchRow : MethodName := ⟨"CacheRulesModel", "catchRow", "(III)V"⟩
abbrev c_M_takeRow : ByteArray := prog_14_method_26_code
abbrev y_M_takeRow : MethodName := ⟨"CacheRulesModel", "takeRow", "(I)V"⟩
abbrev c_M_canPlace : ByteArray := prog_14_method_27_code
abbrev y_M_canPlace : MethodName := ⟨"CacheRulesModel", "canPlace", "(I)Z"⟩
abbrev c_M_place : ByteArray := prog_14_method_28_code
abbrev y_M_place : MethodName := ⟨"CacheRulesModel", "place", "(III)I"⟩
abbrev c_M_distanceOf : ByteArray := prog_14_method_29_code
abbrev y_M_distanceOf : MethodName := ⟨"CacheRulesModel", "distanceOf", "(I)I"⟩
abbrev c_M_putNear : ByteArray := prog_14_method_30_code
abbrev y_M_putNear : MethodName := ⟨"CacheRulesModel", "putNear", "(I)V"⟩
abbrev c_M_takeWay : ByteArray := prog_14_method_31_code
abbrev y_M_takeWay : MethodName := ⟨"CacheRulesModel", "takeWay", "(IIZ)V"⟩
abbrev c_M_reach : ByteArray := prog_14_method_32_code
abbrev y_M_reach : MethodName := ⟨"CacheRulesModel", "reach", "(IIZ)I"⟩
abbrev c_M_reachRow : ByteArray := prog_14_method_33_code
abbrev y_M_reachRow : MethodName := ⟨"CacheRulesModel", "reachRow", "(IIIZ)I"⟩
abbrev c_M_accessOf : ByteArray := prog_14_method_34_code
abbrev y_M_accessOf : MethodName := ⟨"CacheRulesModel", "accessOf", "(IIZ)I"⟩
abbrev c_M_access : ByteArray := prog_14_method_35_code
abbrev y_M_access : MethodName := ⟨"CacheRulesModel", "access", "(IIZ)I"⟩
abbrev c_M_lines : ByteArray := prog_14_method_36_code
abbrev y_M_lines : MethodName := ⟨"CacheRulesModel", "lines", "()I"⟩
abbrev c_M_ask : ByteArray := prog_14_method_37_code
abbrev y_M_ask : MethodName := ⟨"CacheRulesModel", "ask", "(II)I"⟩
abbrev c_M_answer : ByteArray := prog_14_method_38_code
abbrev y_M_answer : MethodName := ⟨"CacheRulesModel", "answer", "()I"⟩
abbrev c_M_answered : ByteArray := prog_14_method_39_code
abbrev y_M_answered : MethodName := ⟨"CacheRulesModel", "answered", "(II)I"⟩
abbrev c_M_lock : ByteArray := prog_14_method_40_code
abbrev y_M_lock : MethodName := ⟨"CacheRulesModel", "lock", "(IZ)Z"⟩
abbrev c_M_cleanWay : ByteArray := prog_14_method_41_code
abbrev y_M_cleanWay : MethodName := ⟨"CacheRulesModel", "cleanWay", "(I)I"⟩
abbrev c_M_cleanRow : ByteArray := prog_14_method_42_code
abbrev y_M_cleanRow : MethodName := ⟨"CacheRulesModel", "cleanRow", "(I)I"⟩
abbrev c_M_clean : ByteArray := prog_14_method_43_code
abbrev y_M_clean : MethodName := ⟨"CacheRulesModel", "clean", "(I)I"⟩
abbrev c_M_cleanAll : ByteArray := prog_14_method_44_code
abbrev y_M_cleanAll : MethodName := ⟨"CacheRulesModel", "cleanAll", "()I"⟩
abbrev c_M_drop : ByteArray := prog_14_method_45_code
abbrev y_M_drop : MethodName := ⟨"CacheRulesModel", "drop", "(I)I"⟩
abbrev c_M_way : ByteArray := prog_14_method_46_code
abbrev y_M_way : MethodName := ⟨"CacheRulesModel", "way", "(III)I"⟩
abbrev c_M_caught : ByteArray := prog_14_method_47_code
abbrev y_M_caught : MethodName := ⟨"CacheRulesModel", "caught", "(II)I"⟩
abbrev c_M_next : ByteArray := prog_14_method_48_code
abbrev y_M_next : MethodName := ⟨"CacheRulesModel", "next", "(I)I"⟩
abbrev c_M_misses : ByteArray := prog_14_method_49_code
abbrev y_M_misses : MethodName := ⟨"CacheRulesModel", "misses", "(I)I"⟩
abbrev c_M_distance : ByteArray := prog_14_method_50_code
abbrev y_M_distance : MethodName := ⟨"CacheRulesModel", "distance", "(I)I"⟩
abbrev c_M_count : ByteArray := prog_14_method_51_code
abbrev y_M_count : MethodName := ⟨"CacheRulesModel", "count", "(I)I"⟩
abbrev c_Age_init : ByteArray := prog_2_method_1_code
abbrev y_Age_init : MethodName := ⟨"CacheRules$AgeRule", "<init>", "(II)V"⟩
abbrev c_Age_use : ByteArray := prog_2_method_2_code
abbrev y_Age_use : MethodName := ⟨"CacheRules$AgeRule", "use", "(II)V"⟩
abbrev c_Age_come : ByteArray := prog_2_method_3_code
abbrev y_Age_come : MethodName := ⟨"CacheRules$AgeRule", "come", "(II)V"⟩
abbrev c_Age_choose : ByteArray := prog_2_method_4_code
abbrev y_Age_choose : MethodName := ⟨"CacheRules$AgeRule", "choose", "(I[Z)I"⟩
abbrev c_Age_settle : ByteArray := prog_2_method_5_code
abbrev y_Age_settle : MethodName := ⟨"CacheRules$AgeRule", "settle", "(II[Z)V"⟩
abbrev c_Asks_init : ByteArray := prog_3_method_1_code
abbrev y_Asks_init : MethodName := ⟨"CacheRules$Asks", "<init>", "()V"⟩
abbrev c_Asks_waits : ByteArray := prog_3_method_2_code
abbrev y_Asks_waits : MethodName := ⟨"CacheRules$Asks", "waits", "(I)Z"⟩
abbrev c_Asks_hasRoomFor : ByteArray := prog_3_method_3_code
abbrev y_Asks_hasRoomFor : MethodName := ⟨"CacheRules$Asks", "hasRoomFor", "(I)Z"⟩
abbrev c_Asks_add : ByteArray := prog_3_method_4_code
abbrev y_Asks_add : MethodName := ⟨"CacheRules$Asks", "add", "(II)Z"⟩
abbrev c_Asks_takeFirstLine : ByteArray := prog_3_method_5_code
abbrev y_Asks_takeFirstLine : MethodName := ⟨"CacheRules$Asks", "takeFirstLine", "()I"⟩
abbrev c_Rows_init : ByteArray := prog_4_method_1_code
abbrev y_Rows_init : MethodName := ⟨"CacheRules$CatchingRows", "<init>", "(I)V"⟩
abbrev c_Rows_find : ByteArray := prog_4_method_2_code
abbrev y_Rows_find : MethodName := ⟨"CacheRules$CatchingRows", "find", "(I)I"⟩
abbrev c_Rows_add : ByteArray := prog_4_method_3_code
abbrev y_Rows_add : MethodName := ⟨"CacheRules$CatchingRows", "add", "(III)V"⟩
abbrev c_Rows_remove : ByteArray := prog_4_method_4_code
abbrev y_Rows_remove : MethodName := ⟨"CacheRules$CatchingRows", "remove", "(I)V"⟩
abbrev c_Rows_cleanRow : ByteArray := prog_4_method_5_code
abbrev y_Rows_cleanRow : MethodName := ⟨"CacheRules$CatchingRows", "cleanRow", "(I)I"⟩
abbrev c_Chance_init : ByteArray := prog_5_method_1_code
abbrev y_Chance_init : MethodName := ⟨"CacheRules$ChanceRule", "<init>", "(I)V"⟩
abbrev c_Chance_use : ByteArray := prog_5_method_2_code
abbrev y_Chance_use : MethodName := ⟨"CacheRules$ChanceRule", "use", "(II)V"⟩
abbrev c_Chance_come : ByteArray := prog_5_method_3_code
abbrev y_Chance_come : MethodName := ⟨"CacheRules$ChanceRule", "come", "(II)V"⟩
abbrev c_Chance_choose : ByteArray := prog_5_method_4_code
abbrev y_Chance_choose : MethodName := ⟨"CacheRules$ChanceRule", "choose", "(I[Z)I"⟩
abbrev c_Chance_settle : ByteArray := prog_5_method_5_code
abbrev y_Chance_settle : MethodName := ⟨"CacheRules$ChanceRule", "settle", "(II[Z)V"⟩
abbrev c_Hist_init : ByteArray := prog_6_method_1_code
abbrev y_Hist_init : MethodName := ⟨"CacheRules$History", "<init>", "()V"⟩
abbrev c_Hist_find : ByteArray := prog_6_method_2_code
abbrev y_Hist_find : MethodName := ⟨"CacheRules$History", "find", "(I)I"⟩
abbrev c_Hist_note : ByteArray := prog_6_method_3_code
abbrev y_Hist_note : MethodName := ⟨"CacheRules$History", "note", "(I)V"⟩
abbrev c_Hist_countFrom : ByteArray := prog_6_method_4_code
abbrev y_Hist_countFrom : MethodName := ⟨"CacheRules$History", "countFrom", "(I)I"⟩
abbrev c_Lately_init : ByteArray := prog_7_method_1_code
abbrev y_Lately_init : MethodName := ⟨"CacheRules$LatelyRule", "<init>", "(II)V"⟩
abbrev c_Lately_setMark : ByteArray := prog_7_method_2_code
abbrev y_Lately_setMark : MethodName := ⟨"CacheRules$LatelyRule", "setMark", "(II)V"⟩
abbrev c_Lately_use : ByteArray := prog_7_method_3_code
abbrev y_Lately_use : MethodName := ⟨"CacheRules$LatelyRule", "use", "(II)V"⟩
abbrev c_Lately_come : ByteArray := prog_7_method_4_code
abbrev y_Lately_come : MethodName := ⟨"CacheRules$LatelyRule", "come", "(II)V"⟩
abbrev c_Lately_choose : ByteArray := prog_7_method_5_code
abbrev y_Lately_choose : MethodName := ⟨"CacheRules$LatelyRule", "choose", "(I[Z)I"⟩
abbrev c_Lately_settle : ByteArray := prog_7_method_6_code
abbrev y_Lately_settle : MethodName := ⟨"CacheRules$LatelyRule", "settle", "(II[Z)V"⟩
abbrev c_Round_init : ByteArray := prog_8_method_1_code
abbrev y_Round_init : MethodName := ⟨"CacheRules$RoundRule", "<init>", "(II)V"⟩
abbrev c_Round_use : ByteArray := prog_8_method_2_code
abbrev y_Round_use : MethodName := ⟨"CacheRules$RoundRule", "use", "(II)V"⟩
abbrev c_Round_come : ByteArray := prog_8_method_3_code
abbrev y_Round_come : MethodName := ⟨"CacheRules$RoundRule", "come", "(II)V"⟩
abbrev c_Round_choose : ByteArray := prog_8_method_4_code
abbrev y_Round_choose : MethodName := ⟨"CacheRules$RoundRule", "choose", "(I[Z)I"⟩
abbrev c_Round_settle : ByteArray := prog_8_method_5_code
abbrev y_Round_settle : MethodName := ⟨"CacheRules$RoundRule", "settle", "(II[Z)V"⟩
abbrev c_Rule_init : ByteArray := prog_9_method_1_code
abbrev y_Rule_init : MethodName := ⟨"CacheRules$Rule", "<init>", "(I)V"⟩
abbrev c_Rule_firstUnmarked : ByteArray := prog_9_method_6_code
abbrev y_Rule_firstUnmarked : MethodName := ⟨"CacheRules$Rule", "firstUnmarked", "(II[Z[Z)I"⟩
abbrev c_Time_init : ByteArray := prog_10_method_1_code
abbrev y_Time_init : MethodName := ⟨"CacheRules$TimeRule", "<init>", "(III)V"⟩
abbrev c_Time_use : ByteArray := prog_10_method_2_code
abbrev y_Time_use : MethodName := ⟨"CacheRules$TimeRule", "use", "(II)V"⟩
abbrev c_Time_come : ByteArray := prog_10_method_3_code
abbrev y_Time_come : MethodName := ⟨"CacheRules$TimeRule", "come", "(II)V"⟩
abbrev c_Time_choose : ByteArray := prog_10_method_4_code
abbrev y_Time_choose : MethodName := ⟨"CacheRules$TimeRule", "choose", "(I[Z)I"⟩
abbrev c_Time_goesSooner : ByteArray := prog_10_method_5_code
abbrev y_Time_goesSooner : MethodName := ⟨"CacheRules$TimeRule", "goesSooner", "(II)Z"⟩
abbrev c_Time_settle : ByteArray := prog_10_method_6_code
abbrev y_Time_settle : MethodName := ⟨"CacheRules$TimeRule", "settle", "(II[Z)V"⟩
abbrev c_Tree_init : ByteArray := prog_11_method_1_code
abbrev y_Tree_init : MethodName := ⟨"CacheRules$TreeRule", "<init>", "(II)V"⟩
abbrev c_Tree_pointAway : ByteArray := prog_11_method_2_code
abbrev y_Tree_pointAway : MethodName := ⟨"CacheRules$TreeRule", "pointAway", "(II)V"⟩
abbrev c_Tree_use : ByteArray := prog_11_method_3_code
abbrev y_Tree_use : MethodName := ⟨"CacheRules$TreeRule", "use", "(II)V"⟩
abbrev c_Tree_come : ByteArray := prog_11_method_4_code
abbrev y_Tree_come : MethodName := ⟨"CacheRules$TreeRule", "come", "(II)V"⟩
abbrev c_Tree_choose : ByteArray := prog_11_method_5_code
abbrev y_Tree_choose : MethodName := ⟨"CacheRules$TreeRule", "choose", "(I[Z)I"⟩
abbrev c_Tree_settle : ByteArray := prog_11_method_6_code
abbrev y_Tree_settle : MethodName := ⟨"CacheRules$TreeRule", "settle", "(II[Z)V"⟩
abbrev c_Ways_init : ByteArray := prog_12_method_1_code
abbrev y_Ways_init : MethodName := ⟨"CacheRules$Ways", "<init>", "(II)V"⟩
abbrev c_Ways_setOf : ByteArray := prog_12_method_2_code
abbrev y_Ways_setOf : MethodName := ⟨"CacheRules$Ways", "setOf", "(I)I"⟩
abbrev c_Ways_find : ByteArray := prog_12_method_3_code
abbrev y_Ways_find : MethodName := ⟨"CacheRules$Ways", "find", "(I)I"⟩
abbrev c_Ways_emptyWay : ByteArray := prog_12_method_4_code
abbrev y_Ways_emptyWay : MethodName := ⟨"CacheRules$Ways", "emptyWay", "(I)I"⟩
abbrev c_Ways_allLocked : ByteArray := prog_12_method_5_code
abbrev y_Ways_allLocked : MethodName := ⟨"CacheRules$Ways", "allLocked", "(I)Z"⟩
abbrev c_Ways_put : ByteArray := prog_12_method_6_code
abbrev y_Ways_put : MethodName := ⟨"CacheRules$Ways", "put", "(IIII)V"⟩
abbrev c_Ways_empty : ByteArray := prog_12_method_7_code
abbrev y_Ways_empty : MethodName := ⟨"CacheRules$Ways", "empty", "(I)V"⟩
abbrev c_Ways_cleanSlot : ByteArray := prog_12_method_8_code
abbrev y_Ways_cleanSlot : MethodName := ⟨"CacheRules$Ways", "cleanSlot", "(I)I"⟩
abbrev c_L_cell : ByteArray := method_2_code
abbrev y_L_cell : MethodName := ⟨"CacheRulesLaw", "cell", "([II)I"⟩
abbrev c_L_access : ByteArray := method_3_code
abbrev y_L_access : MethodName := ⟨"CacheRulesLaw", "access", "(LCacheRules;IIZ[J)I"⟩
abbrev c_L_ask : ByteArray := method_4_code
abbrev y_L_ask : MethodName := ⟨"CacheRulesLaw", "ask", "(LCacheRules;II[J)I"⟩
abbrev c_L_answer : ByteArray := method_5_code
abbrev y_L_answer : MethodName := ⟨"CacheRulesLaw", "answer", "(LCacheRules;[J)I"⟩
abbrev c_L_answered : ByteArray := method_6_code
abbrev y_L_answered : MethodName := ⟨"CacheRulesLaw", "answered", "(LCacheRules;II[J)I"⟩
abbrev c_L_way : ByteArray := method_7_code
abbrev y_L_way : MethodName := ⟨"CacheRulesLaw", "way", "(LCacheRules;III[J)I"⟩
abbrev c_L_caught : ByteArray := method_8_code
abbrev y_L_caught : MethodName := ⟨"CacheRulesLaw", "caught", "(LCacheRules;II[J)I"⟩
abbrev c_L_next : ByteArray := method_9_code
abbrev y_L_next : MethodName := ⟨"CacheRulesLaw", "next", "(LCacheRules;I[J)I"⟩
abbrev c_L_misses : ByteArray := method_10_code
abbrev y_L_misses : MethodName := ⟨"CacheRulesLaw", "misses", "(LCacheRules;I[J)I"⟩
abbrev c_Integer_bitCount : ByteArray := prog_18_method_49_code
abbrev y_Integer_bitCount : MethodName := ⟨"java/lang/Integer", "bitCount", "(I)I"⟩
abbrev c_Math_floorMod : ByteArray := prog_19_method_50_code
abbrev y_Math_floorMod : MethodName := ⟨"java/lang/Math", "floorMod", "(II)I"⟩
