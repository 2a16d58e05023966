section
-- ===== PART A: goes FIRST, ahead of the names: the tables' words, and 'selects' of the private methods out of them =====
/-- a private method of a class that the tables say can be made, by its rows of tables_1 -/
def lw_okq (q : MethodName × Nat) : Prop := (q.1.cls ≠ "java/lang/invoke/MethodHandle" ∧ q.1.cls ≠ "java/lang/invoke/VarHandle") ∧ Cond.instantiable q.1.cls q.2 ∈ tables_1 ∧ Cond.privateMethod q.1 ∈ tables_1 ∧ Cond.instanceMethod q.1 ∈ tables_1
theorem lw_p0 : lw_okq (⟨"HandlingRules", "editionAt", "(I)LHandlingRules$Edition;"⟩, 8) := ⟨⟨by decide +kernel, by decide +kernel⟩, List.mem_of_getElem? (i := 15) (by decide +kernel), List.mem_of_getElem? (i := 160) (by decide +kernel), List.mem_of_getElem? (i := 161) (by decide +kernel)⟩
theorem lw_p1 : lw_okq (⟨"HandlingRules", "ruleAt", "(I)LHandlingRules$Rule;"⟩, 8) := ⟨⟨by decide +kernel, by decide +kernel⟩, List.mem_of_getElem? (i := 15) (by decide +kernel), List.mem_of_getElem? (i := 228) (by decide +kernel), List.mem_of_getElem? (i := 229) (by decide +kernel)⟩
theorem lw_p2 : lw_okq (⟨"HandlingRules", "forgetLatestRun", "()V"⟩, 8) := ⟨⟨by decide +kernel, by decide +kernel⟩, List.mem_of_getElem? (i := 15) (by decide +kernel), List.mem_of_getElem? (i := 263) (by decide +kernel), List.mem_of_getElem? (i := 264) (by decide +kernel)⟩
theorem lw_p3 : lw_okq (⟨"HandlingRules", "doRule", "(LHandlingRules$Rule;)I"⟩, 8) := ⟨⟨by decide +kernel, by decide +kernel⟩, List.mem_of_getElem? (i := 15) (by decide +kernel), List.mem_of_getElem? (i := 271) (by decide +kernel), List.mem_of_getElem? (i := 272) (by decide +kernel)⟩
theorem lw_p4 : lw_okq (⟨"HandlingRules", "inForceOn", "(I)LHandlingRules$Edition;"⟩, 8) := ⟨⟨by decide +kernel, by decide +kernel⟩, List.mem_of_getElem? (i := 15) (by decide +kernel), List.mem_of_getElem? (i := 365) (by decide +kernel), List.mem_of_getElem? (i := 366) (by decide +kernel)⟩
theorem lw_p5 : lw_okq (⟨"HandlingRules", "settle", "(LHandlingRules$Rule;)V"⟩, 8) := ⟨⟨by decide +kernel, by decide +kernel⟩, List.mem_of_getElem? (i := 15) (by decide +kernel), List.mem_of_getElem? (i := 377) (by decide +kernel), List.mem_of_getElem? (i := 378) (by decide +kernel)⟩
theorem lw_p6 : lw_okq (⟨"java/lang/Throwable", "fillInStackTrace", "(I)Ljava/lang/Throwable;"⟩, 6) := ⟨⟨by decide +kernel, by decide +kernel⟩, List.mem_of_getElem? (i := 491) (by decide +kernel), List.mem_of_getElem? (i := 489) (by decide +kernel), List.mem_of_getElem? (i := 490) (by decide +kernel)⟩
theorem lw_p7 : lw_okq (⟨"HandlingRulesModel", "isRule", "(I)Z"⟩, 32) := ⟨⟨by decide +kernel, by decide +kernel⟩, List.mem_of_getElem? (i := 546) (by decide +kernel), List.mem_of_getElem? (i := 671) (by decide +kernel), List.mem_of_getElem? (i := 672) (by decide +kernel)⟩
theorem lw_p8 : lw_okq (⟨"HandlingRulesModel", "behind", "(II)I"⟩, 32) := ⟨⟨by decide +kernel, by decide +kernel⟩, List.mem_of_getElem? (i := 546) (by decide +kernel), List.mem_of_getElem? (i := 695) (by decide +kernel), List.mem_of_getElem? (i := 696) (by decide +kernel)⟩
theorem lw_p9 : lw_okq (⟨"HandlingRulesModel", "doAll", "(I)V"⟩, 32) := ⟨⟨by decide +kernel, by decide +kernel⟩, List.mem_of_getElem? (i := 546) (by decide +kernel), List.mem_of_getElem? (i := 699) (by decide +kernel), List.mem_of_getElem? (i := 700) (by decide +kernel)⟩
theorem lw_p10 : lw_okq (⟨"HandlingRulesModel", "perform", "(II)I"⟩, 32) := ⟨⟨by decide +kernel, by decide +kernel⟩, List.mem_of_getElem? (i := 546) (by decide +kernel), List.mem_of_getElem? (i := 703) (by decide +kernel), List.mem_of_getElem? (i := 704) (by decide +kernel)⟩
theorem lw_p11 : lw_okq (⟨"HandlingRulesModel", "push", "(J)V"⟩, 32) := ⟨⟨by decide +kernel, by decide +kernel⟩, List.mem_of_getElem? (i := 546) (by decide +kernel), List.mem_of_getElem? (i := 710) (by decide +kernel), List.mem_of_getElem? (i := 711) (by decide +kernel)⟩
theorem lw_p12 : lw_okq (⟨"HandlingRulesModel", "keepHandle", "(I)V"⟩, 32) := ⟨⟨by decide +kernel, by decide +kernel⟩, List.mem_of_getElem? (i := 546) (by decide +kernel), List.mem_of_getElem? (i := 717) (by decide +kernel), List.mem_of_getElem? (i := 718) (by decide +kernel)⟩
theorem lw_p13 : lw_okq (⟨"HandlingRulesModel", "give", "(IJI)V"⟩, 32) := ⟨⟨by decide +kernel, by decide +kernel⟩, List.mem_of_getElem? (i := 546) (by decide +kernel), List.mem_of_getElem? (i := 730) (by decide +kernel), List.mem_of_getElem? (i := 731) (by decide +kernel)⟩
def lw_privs_1 : List (MethodName × Nat) := [(⟨"HandlingRules", "editionAt", "(I)LHandlingRules$Edition;"⟩, 8), (⟨"HandlingRules", "ruleAt", "(I)LHandlingRules$Rule;"⟩, 8), (⟨"HandlingRules", "forgetLatestRun", "()V"⟩, 8), (⟨"HandlingRules", "doRule", "(LHandlingRules$Rule;)I"⟩, 8), (⟨"HandlingRules", "inForceOn", "(I)LHandlingRules$Edition;"⟩, 8), (⟨"HandlingRules", "settle", "(LHandlingRules$Rule;)V"⟩, 8), (⟨"java/lang/Throwable", "fillInStackTrace", "(I)Ljava/lang/Throwable;"⟩, 6), (⟨"HandlingRulesModel", "isRule", "(I)Z"⟩, 32), (⟨"HandlingRulesModel", "behind", "(II)I"⟩, 32), (⟨"HandlingRulesModel", "doAll", "(I)V"⟩, 32), (⟨"HandlingRulesModel", "perform", "(II)I"⟩, 32), (⟨"HandlingRulesModel", "push", "(J)V"⟩, 32), (⟨"HandlingRulesModel", "keepHandle", "(I)V"⟩, 32), (⟨"HandlingRulesModel", "give", "(IJI)V"⟩, 32)]
theorem lw_r1 : ∀ q ∈ lw_privs_1, lw_okq q := List.forall_mem_cons.mpr ⟨lw_p0, List.forall_mem_cons.mpr ⟨lw_p1, List.forall_mem_cons.mpr ⟨lw_p2, List.forall_mem_cons.mpr ⟨lw_p3, List.forall_mem_cons.mpr ⟨lw_p4, List.forall_mem_cons.mpr ⟨lw_p5, List.forall_mem_cons.mpr ⟨lw_p6, List.forall_mem_cons.mpr ⟨lw_p7, List.forall_mem_cons.mpr ⟨lw_p8, List.forall_mem_cons.mpr ⟨lw_p9, List.forall_mem_cons.mpr ⟨lw_p10, List.forall_mem_cons.mpr ⟨lw_p11, List.forall_mem_cons.mpr ⟨lw_p12, List.forall_mem_cons.mpr ⟨lw_p13, fun _ h => absurd h List.not_mem_nil⟩⟩⟩⟩⟩⟩⟩⟩⟩⟩⟩⟩⟩⟩
def lw_privs : List (MethodName × Nat) := lw_privs_1
def lw_tbl : List Cond := k2_sels lw_privs ++ tables_1
theorem lw_privs_ok : ∀ q ∈ lw_privs, lw_okq q := lw_r1
def R_An : String := "HandlingRules$Answers"
def R_Ed : String := "HandlingRules$Edition"
def R_Fa : String := "HandlingRules$Failures"
def R_Ru : String := "HandlingRules$Rule"
def R_Rn : String := "HandlingRules$Runner"
def R_Hr : String := "HandlingRules"
def R_Mo : String := "HandlingRulesModel"
def R_La : String := "HandlingRulesLaw"
def R_Ma : String := "java/lang/Math"
def T_An : u_T := fun k => match k with
  | 0 => ("HandlingRules$Answers", "values", "[J", true)
  | _ => ("HandlingRules$Answers", "givers", "[I", true)
def ty_An : Nat → FieldType := fun k => match k with
  | 0 => .array .long
  | _ => .array .int
theorem nm_An : ∀ a, a < 2 → ∀ b, b < 2 → a ≠ b → (T_An a).2.1 ≠ (T_An b).2.1 := by decide +kernel
theorem tyk_An : ∀ k, k < 2 → parseFieldDescriptor (T_An k).2.2.1 = some (ty_An k) := by decide +kernel
def T_Ed : u_T := fun k => match k with
  | 0 => ("HandlingRules$Edition", "state", "I", false)
  | 1 => ("HandlingRules$Edition", "count", "I", false)
  | 2 => ("HandlingRules$Edition", "from", "I", false)
  | 3 => ("HandlingRules$Edition", "toldAs", "I", false)
  | _ => ("HandlingRules$Edition", "order", "[LHandlingRules$Rule;", true)
def ty_Ed : Nat → FieldType := fun k => match k with
  | 0 => .int
  | 1 => .int
  | 2 => .int
  | 3 => .int
  | _ => .array (.object "HandlingRules$Rule")
theorem nm_Ed : ∀ a, a < 5 → ∀ b, b < 5 → a ≠ b → (T_Ed a).2.1 ≠ (T_Ed b).2.1 := by decide +kernel
theorem tyk_Ed : ∀ k, k < 5 → parseFieldDescriptor (T_Ed k).2.2.1 = some (ty_Ed k) := by decide +kernel
def T_Fa : u_T := fun k => match k with
  | 0 => ("HandlingRules$Failures", "ruleNumbers", "[I", true)
  | 1 => ("HandlingRules$Failures", "hows", "[I", true)
  | _ => ("HandlingRules$Failures", "count", "I", false)
def ty_Fa : Nat → FieldType := fun k => match k with
  | 0 => .array .int
  | 1 => .array .int
  | _ => .int
theorem nm_Fa : ∀ a, a < 3 → ∀ b, b < 3 → a ≠ b → (T_Fa a).2.1 ≠ (T_Fa b).2.1 := by decide +kernel
theorem tyk_Fa : ∀ k, k < 3 → parseFieldDescriptor (T_Fa k).2.2.1 = some (ty_Fa k) := by decide +kernel
def T_Ru : u_T := fun k => match k with
  | 0 => ("HandlingRules$Rule", "number", "I", true)
  | 1 => ("HandlingRules$Rule", "home", "LHandlingRules$Edition;", true)
  | 2 => ("HandlingRules$Rule", "rank", "I", true)
  | 3 => ("HandlingRules$Rule", "name", "I", true)
  | 4 => ("HandlingRules$Rule", "ops", "[I", true)
  | 5 => ("HandlingRules$Rule", "numbers", "[J", true)
  | 6 => ("HandlingRules$Rule", "length", "I", false)
  | 7 => ("HandlingRules$Rule", "cell", "J", false)
  | 8 => ("HandlingRules$Rule", "fallbackKind", "I", false)
  | _ => ("HandlingRules$Rule", "fallbackValue", "J", false)
def ty_Ru : Nat → FieldType := fun k => match k with
  | 0 => .int
  | 1 => .object "HandlingRules$Edition"
  | 2 => .int
  | 3 => .int
  | 4 => .array .int
  | 5 => .array .long
  | 6 => .int
  | 7 => .long
  | 8 => .int
  | _ => .long
theorem nm_Ru : ∀ a, a < 10 → ∀ b, b < 10 → a ≠ b → (T_Ru a).2.1 ≠ (T_Ru b).2.1 := by decide +kernel
theorem tyk_Ru : ∀ k, k < 10 → parseFieldDescriptor (T_Ru k).2.2.1 = some (ty_Ru k) := by decide +kernel
def T_Rn : u_T := fun k => match k with
  | 0 => ("HandlingRules$Runner", "facts", "[J", true)
  | 1 => ("HandlingRules$Runner", "stack", "[J", true)
  | 2 => ("HandlingRules$Runner", "handleFacts", "[I", true)
  | 3 => ("HandlingRules$Runner", "given", "LHandlingRules$Answers;", true)
  | 4 => ("HandlingRules$Runner", "handleCount", "I", false)
  | 5 => ("HandlingRules$Runner", "height", "I", false)
  | 6 => ("HandlingRules$Runner", "position", "I", false)
  | 7 => ("HandlingRules$Runner", "fault", "I", false)
  | _ => ("HandlingRules$Runner", "cell", "J", false)
def ty_Rn : Nat → FieldType := fun k => match k with
  | 0 => .array .long
  | 1 => .array .long
  | 2 => .array .int
  | 3 => .object "HandlingRules$Answers"
  | 4 => .int
  | 5 => .int
  | 6 => .int
  | 7 => .int
  | _ => .long
theorem nm_Rn : ∀ a, a < 9 → ∀ b, b < 9 → a ≠ b → (T_Rn a).2.1 ≠ (T_Rn b).2.1 := by decide +kernel
theorem tyk_Rn : ∀ k, k < 9 → parseFieldDescriptor (T_Rn k).2.2.1 = some (ty_Rn k) := by decide +kernel
def T_Hr : u_T := fun k => match k with
  | 0 => ("HandlingRules", "steps", "I", true)
  | 1 => ("HandlingRules", "editions", "[LHandlingRules$Edition;", true)
  | 2 => ("HandlingRules", "rules", "[LHandlingRules$Rule;", true)
  | 3 => ("HandlingRules", "ruleCount", "I", false)
  | 4 => ("HandlingRules", "daysTold", "I", false)
  | 5 => ("HandlingRules", "runner", "LHandlingRules$Runner;", true)
  | 6 => ("HandlingRules", "answers", "LHandlingRules$Answers;", true)
  | _ => ("HandlingRules", "failures", "LHandlingRules$Failures;", true)
def ty_Hr : Nat → FieldType := fun k => match k with
  | 0 => .int
  | 1 => .array (.object "HandlingRules$Edition")
  | 2 => .array (.object "HandlingRules$Rule")
  | 3 => .int
  | 4 => .int
  | 5 => .object "HandlingRules$Runner"
  | 6 => .object "HandlingRules$Answers"
  | _ => .object "HandlingRules$Failures"
theorem nm_Hr : ∀ a, a < 8 → ∀ b, b < 8 → a ≠ b → (T_Hr a).2.1 ≠ (T_Hr b).2.1 := by decide +kernel
theorem tyk_Hr : ∀ k, k < 8 → parseFieldDescriptor (T_Hr k).2.2.1 = some (ty_Hr k) := by decide +kernel
def T_Mo : u_T := fun k => match k with
  | 0 => ("HandlingRulesModel", "thrown", "I", false)
  | 1 => ("HandlingRulesModel", "most", "I", true)
  | 2 => ("HandlingRulesModel", "rules", "I", false)
  | 3 => ("HandlingRulesModel", "editions", "[I", true)
  | 4 => ("HandlingRulesModel", "orders", "[I", true)
  | 5 => ("HandlingRulesModel", "sizes", "[I", true)
  | 6 => ("HandlingRulesModel", "ops", "[I", true)
  | 7 => ("HandlingRulesModel", "numbers", "[J", true)
  | 8 => ("HandlingRulesModel", "cells", "[J", true)
  | 9 => ("HandlingRulesModel", "hasFallback", "[Z", true)
  | 10 => ("HandlingRulesModel", "fallbackKinds", "[I", true)
  | 11 => ("HandlingRulesModel", "fallbacks", "[J", true)
  | 12 => ("HandlingRulesModel", "facts", "[J", true)
  | 13 => ("HandlingRulesModel", "states", "[I", true)
  | 14 => ("HandlingRulesModel", "counts", "[I", true)
  | 15 => ("HandlingRulesModel", "days", "[I", true)
  | 16 => ("HandlingRulesModel", "toldAt", "[I", true)
  | 17 => ("HandlingRulesModel", "tells", "I", false)
  | 18 => ("HandlingRulesModel", "handles", "I", false)
  | 19 => ("HandlingRulesModel", "handleFacts", "[I", true)
  | 20 => ("HandlingRulesModel", "failures", "I", false)
  | 21 => ("HandlingRulesModel", "failedRule", "[I", true)
  | 22 => ("HandlingRulesModel", "failedHow", "[I", true)
  | 23 => ("HandlingRulesModel", "answers", "[J", true)
  | 24 => ("HandlingRulesModel", "givers", "[I", true)
  | 25 => ("HandlingRulesModel", "stack", "[J", true)
  | 26 => ("HandlingRulesModel", "high", "I", false)
  | 27 => ("HandlingRulesModel", "steps", "I", false)
  | 28 => ("HandlingRulesModel", "how", "I", false)
  | 29 => ("HandlingRulesModel", "cellNow", "J", false)
  | 30 => ("HandlingRulesModel", "own", "[J", true)
  | _ => ("HandlingRulesModel", "has", "[Z", true)
def ty_Mo : Nat → FieldType := fun k => match k with
  | 0 => .int
  | 1 => .int
  | 2 => .int
  | 3 => .array .int
  | 4 => .array .int
  | 5 => .array .int
  | 6 => .array .int
  | 7 => .array .long
  | 8 => .array .long
  | 9 => .array .boolean
  | 10 => .array .int
  | 11 => .array .long
  | 12 => .array .long
  | 13 => .array .int
  | 14 => .array .int
  | 15 => .array .int
  | 16 => .array .int
  | 17 => .int
  | 18 => .int
  | 19 => .array .int
  | 20 => .int
  | 21 => .array .int
  | 22 => .array .int
  | 23 => .array .long
  | 24 => .array .int
  | 25 => .array .long
  | 26 => .int
  | 27 => .int
  | 28 => .int
  | 29 => .long
  | 30 => .array .long
  | _ => .array .boolean
theorem nm_Mo : ∀ a, a < 32 → ∀ b, b < 32 → a ≠ b → (T_Mo a).2.1 ≠ (T_Mo b).2.1 := by decide +kernel
theorem tyk_Mo : ∀ k, k < 32 → parseFieldDescriptor (T_Mo k).2.2.1 = some (ty_Mo k) := by decide +kernel
abbrev vwCl : List vw_C := [(R_An, T_An, 2), (R_Ed, T_Ed, 5), (R_Fa, T_Fa, 3), (R_Ru, T_Ru, 10), (R_Rn, T_Rn, 9), (R_Hr, T_Hr, 8), (R_Mo, T_Mo, 32)]
def y_Hr_init : MethodName := ⟨R_Hr, "<init>", "(I)V"⟩
abbrev b_Hr_init : ByteArray := prog_1_method_1_code
def y_Hr_rule : MethodName := ⟨R_Hr, "rule", "(III)I"⟩
abbrev b_Hr_rule : ByteArray := prog_1_method_2_code
def y_Hr_code : MethodName := ⟨R_Hr, "code", "(IIJ)I"⟩
abbrev b_Hr_code : ByteArray := prog_1_method_3_code
def y_Hr_fallback : MethodName := ⟨R_Hr, "fallback", "(IIJ)I"⟩
abbrev b_Hr_fallback : ByteArray := prog_1_method_4_code
def y_Hr_fact : MethodName := ⟨R_Hr, "fact", "(IJ)I"⟩
abbrev b_Hr_fact : ByteArray := prog_1_method_5_code
def y_Hr_test : MethodName := ⟨R_Hr, "test", "(I)I"⟩
abbrev b_Hr_test : ByteArray := prog_1_method_6_code
def y_Hr_day : MethodName := ⟨R_Hr, "day", "(II)I"⟩
abbrev b_Hr_day : ByteArray := prog_1_method_7_code
def y_Hr_ask : MethodName := ⟨R_Hr, "ask", "(I)I"⟩
abbrev b_Hr_ask : ByteArray := prog_1_method_8_code
def y_Hr_answer : MethodName := ⟨R_Hr, "answer", "(I)J"⟩
abbrev b_Hr_answer : ByteArray := prog_1_method_9_code
def y_Hr_by : MethodName := ⟨R_Hr, "by", "(I)I"⟩
abbrev b_Hr_by : ByteArray := prog_1_method_10_code
def y_Hr_failed : MethodName := ⟨R_Hr, "failed", "(II)I"⟩
abbrev b_Hr_failed : ByteArray := prog_1_method_11_code
def y_Hr_cell : MethodName := ⟨R_Hr, "cell", "(I)J"⟩
abbrev b_Hr_cell : ByteArray := prog_1_method_12_code
def y_Hr_edition : MethodName := ⟨R_Hr, "edition", "(II)I"⟩
abbrev b_Hr_edition : ByteArray := prog_1_method_13_code
def y_Hr_same : MethodName := ⟨R_Hr, "same", "(II)Z"⟩
abbrev b_Hr_same : ByteArray := prog_1_method_14_code
def y_Hr_divide : MethodName := ⟨R_Hr, "divide", "(IJJ)J"⟩
abbrev b_Hr_divide : ByteArray := prog_1_method_15_code
def y_Hr_handle : MethodName := ⟨R_Hr, "handle", "(I)I"⟩
abbrev b_Hr_handle : ByteArray := prog_1_method_16_code
def y_Hr_editionAt : MethodName := ⟨R_Hr, "editionAt", "(I)LHandlingRules$Edition;"⟩
abbrev b_Hr_editionAt : ByteArray := prog_1_method_17_code
def y_Hr_ruleAt : MethodName := ⟨R_Hr, "ruleAt", "(I)LHandlingRules$Rule;"⟩
abbrev b_Hr_ruleAt : ByteArray := prog_1_method_18_code
def y_Hr_inForceOn : MethodName := ⟨R_Hr, "inForceOn", "(I)LHandlingRules$Edition;"⟩
abbrev b_Hr_inForceOn : ByteArray := prog_1_method_19_code
def y_Hr_forgetLatestRun : MethodName := ⟨R_Hr, "forgetLatestRun", "()V"⟩
abbrev b_Hr_forgetLatestRun : ByteArray := prog_1_method_20_code
def y_Hr_doRule : MethodName := ⟨R_Hr, "doRule", "(LHandlingRules$Rule;)I"⟩
abbrev b_Hr_doRule : ByteArray := prog_1_method_21_code
def y_Hr_settle : MethodName := ⟨R_Hr, "settle", "(LHandlingRules$Rule;)V"⟩
abbrev b_Hr_settle : ByteArray := prog_1_method_22_code
def y_Hr_isWithin : MethodName := ⟨R_Hr, "isWithin", "(JJJ)Z"⟩
abbrev b_Hr_isWithin : ByteArray := prog_1_method_23_code
def y_Hr_isInstruction : MethodName := ⟨R_Hr, "isInstruction", "(IJ)Z"⟩
abbrev b_Hr_isInstruction : ByteArray := prog_1_method_24_code
def y_Hr_hasNumber : MethodName := ⟨R_Hr, "hasNumber", "(I)Z"⟩
abbrev b_Hr_hasNumber : ByteArray := prog_1_method_25_code
def y_Hr_takesTwo : MethodName := ⟨R_Hr, "takesTwo", "(I)Z"⟩
abbrev b_Hr_takesTwo : ByteArray := prog_1_method_26_code
def y_Hr_takes : MethodName := ⟨R_Hr, "takes", "(I)I"⟩
abbrev b_Hr_takes : ByteArray := prog_1_method_27_code
def y_Hr_puts : MethodName := ⟨R_Hr, "puts", "(I)I"⟩
abbrev b_Hr_puts : ByteArray := prog_1_method_28_code
def y_Hr_combine : MethodName := ⟨R_Hr, "combine", "(IJJ)J"⟩
abbrev b_Hr_combine : ByteArray := prog_1_method_29_code
def y_Mo_init : MethodName := ⟨R_Mo, "<init>", "(I)V"⟩
abbrev b_Mo_init : ByteArray := prog_8_method_1_code
def y_Mo_thrown : MethodName := ⟨R_Mo, "thrown", "()I"⟩
abbrev b_Mo_thrown : ByteArray := prog_8_method_2_code
def y_Mo_within : MethodName := ⟨R_Mo, "within", "(JJJ)Z"⟩
abbrev b_Mo_within : ByteArray := prog_8_method_3_code
def y_Mo_isRule : MethodName := ⟨R_Mo, "isRule", "(I)Z"⟩
abbrev b_Mo_isRule : ByteArray := prog_8_method_4_code
def y_Mo_isEdition : MethodName := ⟨R_Mo, "isEdition", "(I)Z"⟩
abbrev b_Mo_isEdition : ByteArray := prog_8_method_5_code
def y_Mo_rule : MethodName := ⟨R_Mo, "rule", "(III)I"⟩
abbrev b_Mo_rule : ByteArray := prog_8_method_6_code
def y_Mo_isNumber : MethodName := ⟨R_Mo, "isNumber", "(IJ)Z"⟩
abbrev b_Mo_isNumber : ByteArray := prog_8_method_7_code
def y_Mo_code : MethodName := ⟨R_Mo, "code", "(IIJ)I"⟩
abbrev b_Mo_code : ByteArray := prog_8_method_8_code
def y_Mo_fallback : MethodName := ⟨R_Mo, "fallback", "(IIJ)I"⟩
abbrev b_Mo_fallback : ByteArray := prog_8_method_9_code
def y_Mo_fact : MethodName := ⟨R_Mo, "fact", "(IJ)I"⟩
abbrev b_Mo_fact : ByteArray := prog_8_method_10_code
def y_Mo_push : MethodName := ⟨R_Mo, "push", "(J)V"⟩
abbrev b_Mo_push : ByteArray := prog_8_method_11_code
def y_Mo_two : MethodName := ⟨R_Mo, "two", "(IJJ)J"⟩
abbrev b_Mo_two : ByteArray := prog_8_method_12_code
def y_Mo_needs : MethodName := ⟨R_Mo, "needs", "(I)I"⟩
abbrev b_Mo_needs : ByteArray := prog_8_method_13_code
def y_Mo_perform : MethodName := ⟨R_Mo, "perform", "(II)I"⟩
abbrev b_Mo_perform : ByteArray := prog_8_method_14_code
def y_Mo_keepHandle : MethodName := ⟨R_Mo, "keepHandle", "(I)V"⟩
abbrev b_Mo_keepHandle : ByteArray := prog_8_method_15_code
def y_Mo_doAll : MethodName := ⟨R_Mo, "doAll", "(I)V"⟩
abbrev b_Mo_doAll : ByteArray := prog_8_method_16_code
def y_Mo_behind : MethodName := ⟨R_Mo, "behind", "(II)I"⟩
abbrev b_Mo_behind : ByteArray := prog_8_method_17_code
def y_Mo_test : MethodName := ⟨R_Mo, "test", "(I)I"⟩
abbrev b_Mo_test : ByteArray := prog_8_method_18_code
def y_Mo_day : MethodName := ⟨R_Mo, "day", "(II)I"⟩
abbrev b_Mo_day : ByteArray := prog_8_method_19_code
def y_Mo_give : MethodName := ⟨R_Mo, "give", "(IJI)V"⟩
abbrev b_Mo_give : ByteArray := prog_8_method_20_code
def y_Mo_ask : MethodName := ⟨R_Mo, "ask", "(I)I"⟩
abbrev b_Mo_ask : ByteArray := prog_8_method_21_code
def y_Mo_answer : MethodName := ⟨R_Mo, "answer", "(I)J"⟩
abbrev b_Mo_answer : ByteArray := prog_8_method_22_code
def y_Mo_by : MethodName := ⟨R_Mo, "by", "(I)I"⟩
abbrev b_Mo_by : ByteArray := prog_8_method_23_code
def y_Mo_failed : MethodName := ⟨R_Mo, "failed", "(II)I"⟩
abbrev b_Mo_failed : ByteArray := prog_8_method_24_code
def y_Mo_cell : MethodName := ⟨R_Mo, "cell", "(I)J"⟩
abbrev b_Mo_cell : ByteArray := prog_8_method_25_code
def y_Mo_edition : MethodName := ⟨R_Mo, "edition", "(II)I"⟩
abbrev b_Mo_edition : ByteArray := prog_8_method_26_code
def y_Mo_hasNumber : MethodName := ⟨R_Mo, "hasNumber", "(I)Z"⟩
abbrev b_Mo_hasNumber : ByteArray := prog_8_method_27_code
def y_Mo_same : MethodName := ⟨R_Mo, "same", "(II)Z"⟩
abbrev b_Mo_same : ByteArray := prog_8_method_28_code
def y_Mo_divide : MethodName := ⟨R_Mo, "divide", "(IJJ)J"⟩
abbrev b_Mo_divide : ByteArray := prog_8_method_29_code
def y_Mo_handle : MethodName := ⟨R_Mo, "handle", "(I)I"⟩
abbrev b_Mo_handle : ByteArray := prog_8_method_30_code
def y_An_init : MethodName := ⟨R_An, "<init>", "()V"⟩
abbrev b_An_init : ByteArray := prog_2_method_1_code
def y_An_clear : MethodName := ⟨R_An, "clear", "()V"⟩
abbrev b_An_clear : ByteArray := prog_2_method_2_code
def y_An_give : MethodName := ⟨R_An, "give", "(JJI)V"⟩
abbrev b_An_give : ByteArray := prog_2_method_3_code
def y_An_addMissing : MethodName := ⟨R_An, "addMissing", "(LHandlingRules$Answers;)V"⟩
abbrev b_An_addMissing : ByteArray := prog_2_method_4_code
def y_An_isGiven : MethodName := ⟨R_An, "isGiven", "(I)Z"⟩
abbrev b_An_isGiven : ByteArray := prog_2_method_5_code
def y_An_valueOf : MethodName := ⟨R_An, "valueOf", "(I)J"⟩
abbrev b_An_valueOf : ByteArray := prog_2_method_6_code
def y_An_giverOf : MethodName := ⟨R_An, "giverOf", "(I)I"⟩
abbrev b_An_giverOf : ByteArray := prog_2_method_7_code
def y_An_countGiven : MethodName := ⟨R_An, "countGiven", "()I"⟩
abbrev b_An_countGiven : ByteArray := prog_2_method_8_code
def y_Ed_init : MethodName := ⟨R_Ed, "<init>", "()V"⟩
abbrev b_Ed_init : ByteArray := prog_3_method_1_code
def y_Ed_insert : MethodName := ⟨R_Ed, "insert", "(LHandlingRules$Rule;)V"⟩
abbrev b_Ed_insert : ByteArray := prog_3_method_2_code
def y_Ed_inOrder : MethodName := ⟨R_Ed, "inOrder", "(I)LHandlingRules$Rule;"⟩
abbrev b_Ed_inOrder : ByteArray := prog_3_method_3_code
def y_Ed_isInForceOn : MethodName := ⟨R_Ed, "isInForceOn", "(I)Z"⟩
abbrev b_Ed_isInForceOn : ByteArray := prog_3_method_4_code
def y_Ed_goesAhead : MethodName := ⟨R_Ed, "goesAhead", "(LHandlingRules$Edition;)Z"⟩
abbrev b_Ed_goesAhead : ByteArray := prog_3_method_5_code
def y_Fa_init : MethodName := ⟨R_Fa, "<init>", "()V"⟩
abbrev b_Fa_init : ByteArray := prog_4_method_1_code
def y_Fa_add : MethodName := ⟨R_Fa, "add", "(II)V"⟩
abbrev b_Fa_add : ByteArray := prog_4_method_2_code
def y_Fa_numberAt : MethodName := ⟨R_Fa, "numberAt", "(I)I"⟩
abbrev b_Fa_numberAt : ByteArray := prog_4_method_3_code
def y_Fa_howAt : MethodName := ⟨R_Fa, "howAt", "(I)I"⟩
abbrev b_Fa_howAt : ByteArray := prog_4_method_4_code
def y_Ru_init : MethodName := ⟨R_Ru, "<init>", "(ILHandlingRules$Edition;II)V"⟩
abbrev b_Ru_init : ByteArray := prog_5_method_1_code
def y_Ru_append : MethodName := ⟨R_Ru, "append", "(IJ)V"⟩
abbrev b_Ru_append : ByteArray := prog_5_method_2_code
def y_Ru_goesBefore : MethodName := ⟨R_Ru, "goesBefore", "(LHandlingRules$Rule;)Z"⟩
abbrev b_Ru_goesBefore : ByteArray := prog_5_method_3_code
def y_Ru_hasProgramOf : MethodName := ⟨R_Ru, "hasProgramOf", "(LHandlingRules$Rule;)Z"⟩
abbrev b_Ru_hasProgramOf : ByteArray := prog_5_method_4_code
def y_Rn_init : MethodName := ⟨R_Rn, "<init>", "()V"⟩
abbrev b_Rn_init : ByteArray := prog_6_method_1_code
def y_Rn_run : MethodName := ⟨R_Rn, "run", "(LHandlingRules$Rule;I)I"⟩
abbrev b_Rn_run : ByteArray := prog_6_method_2_code
def y_Rn_begin : MethodName := ⟨R_Rn, "begin", "(LHandlingRules$Rule;)V"⟩
abbrev b_Rn_begin : ByteArray := prog_6_method_3_code
def y_Rn_isInside : MethodName := ⟨R_Rn, "isInside", "(LHandlingRules$Rule;)Z"⟩
abbrev b_Rn_isInside : ByteArray := prog_6_method_4_code
def y_Rn_perform : MethodName := ⟨R_Rn, "perform", "(LHandlingRules$Rule;IJ)V"⟩
abbrev b_Rn_perform : ByteArray := prog_6_method_5_code
def y_Rn_faultOf : MethodName := ⟨R_Rn, "faultOf", "(I)I"⟩
abbrev b_Rn_faultOf : ByteArray := prog_6_method_6_code
def y_Rn_push : MethodName := ⟨R_Rn, "push", "(J)V"⟩
abbrev b_Rn_push : ByteArray := prog_6_method_7_code
def y_Rn_pop : MethodName := ⟨R_Rn, "pop", "()J"⟩
abbrev b_Rn_pop : ByteArray := prog_6_method_8_code
def y_Rn_top : MethodName := ⟨R_Rn, "top", "()J"⟩
abbrev b_Rn_top : ByteArray := prog_6_method_9_code
def y_Rn_setFact : MethodName := ⟨R_Rn, "setFact", "(IJ)V"⟩
abbrev b_Rn_setFact : ByteArray := prog_6_method_10_code
def y_Rn_factOf : MethodName := ⟨R_Rn, "factOf", "(J)J"⟩
abbrev b_Rn_factOf : ByteArray := prog_6_method_11_code
def y_Rn_keep : MethodName := ⟨R_Rn, "keep", "(J)I"⟩
abbrev b_Rn_keep : ByteArray := prog_6_method_12_code
def y_Rn_factBehind : MethodName := ⟨R_Rn, "factBehind", "(J)J"⟩
abbrev b_Rn_factBehind : ByteArray := prog_6_method_13_code
def y_La_cell : MethodName := ⟨R_La, "cell", "([II)I"⟩
abbrev b_La_cell : ByteArray := method_2_code
def y_La_divide : MethodName := ⟨R_La, "divide", "(LHandlingRules;IJJ[J)I"⟩
abbrev b_La_divide : ByteArray := method_3_code
def y_La_handle : MethodName := ⟨R_La, "handle", "(LHandlingRules;I[J)I"⟩
abbrev b_La_handle : ByteArray := method_4_code
def y_La_law : MethodName := ⟨R_La, "law", "([I)Z"⟩
abbrev b_La_law : ByteArray := code
def y_Ma_maxI : MethodName := ⟨R_Ma, "max", "(II)I"⟩
abbrev b_Ma_maxI : ByteArray := prog_12_method_65_code
def y_Ma_maxJ : MethodName := ⟨R_Ma, "max", "(JJ)J"⟩
abbrev b_Ma_maxJ : ByteArray := prog_12_method_66_code
def y_Ma_minI : MethodName := ⟨R_Ma, "min", "(II)I"⟩
abbrev b_Ma_minI : ByteArray := prog_12_method_69_code
def y_Ma_minJ : MethodName := ⟨R_Ma, "min", "(JJ)J"⟩
abbrev b_Ma_minJ : ByteArray := prog_12_method_70_code
def GW : List Cond := lw_tbl.filter goodWord
theorem gw_of {w : Cond} (i : Nat) (h : lw_tbl[i]? = some w) (hg : goodWord w = true) : w ∈ GW := List.mem_filter.mpr ⟨List.mem_of_getElem? h, hg⟩
theorem gw_tbl {w : Cond} (h : w ∈ GW) : w ∈ lw_tbl := (List.mem_filter.mp h).1
theorem gw_good {c : Cond} : GoodIn (c :: GW) GW := fun w h => ⟨List.mem_cons_of_mem _ h, good_of_word (List.mem_filter.mp h).2⟩
theorem gw_u {C : String} {T : u_T} {N : Nat} (h : (u_ws C T N).all (fun w => decide (w ∈ lw_tbl) && goodWord w) = true) : ∀ w ∈ u_ws C T N, w ∈ GW := fun w hw => by
  have h1 := List.all_eq_true.mp h w hw
  simp only [Bool.and_eq_true, decide_eq_true_eq] at h1
  exact List.mem_filter.mpr h1
theorem iu_An : ∀ w ∈ u_ws R_An T_An 2, w ∈ GW := gw_u (by decide +kernel)
theorem iu_Ed : ∀ w ∈ u_ws R_Ed T_Ed 5, w ∈ GW := gw_u (by decide +kernel)
theorem iu_Fa : ∀ w ∈ u_ws R_Fa T_Fa 3, w ∈ GW := gw_u (by decide +kernel)
theorem iu_Ru : ∀ w ∈ u_ws R_Ru T_Ru 10, w ∈ GW := gw_u (by decide +kernel)
theorem iu_Rn : ∀ w ∈ u_ws R_Rn T_Rn 9, w ∈ GW := gw_u (by decide +kernel)
theorem iu_Hr : ∀ w ∈ u_ws R_Hr T_Hr 8, w ∈ GW := gw_u (by decide +kernel)
theorem iu_Mo : ∀ w ∈ u_ws R_Mo T_Mo 32, w ∈ GW := gw_u (by decide +kernel)
abbrev w_Hr_init : List Cond := .code y_Hr_init b_Hr_init 3 none :: GW
abbrev w_Hr_rule : List Cond := .code y_Hr_rule b_Hr_rule 6 (some .int) :: GW
abbrev w_Hr_code : List Cond := .code y_Hr_code b_Hr_code 6 (some .int) :: GW
abbrev w_Hr_fallback : List Cond := .code y_Hr_fallback b_Hr_fallback 6 (some .int) :: GW
abbrev w_Hr_fact : List Cond := .code y_Hr_fact b_Hr_fact 4 (some .int) :: GW
abbrev w_Hr_test : List Cond := .code y_Hr_test b_Hr_test 6 (some .int) :: GW
abbrev w_Hr_day : List Cond := .code y_Hr_day b_Hr_day 4 (some .int) :: GW
abbrev w_Hr_ask : List Cond := .code y_Hr_ask b_Hr_ask 5 (some .int) :: GW
abbrev w_Hr_answer : List Cond := .code y_Hr_answer b_Hr_answer 2 (some .long) :: GW
abbrev w_Hr_by : List Cond := .code y_Hr_by b_Hr_by 2 (some .int) :: GW
abbrev w_Hr_failed : List Cond := .code y_Hr_failed b_Hr_failed 3 (some .int) :: GW
abbrev w_Hr_cell : List Cond := .code y_Hr_cell b_Hr_cell 3 (some .long) :: GW
abbrev w_Hr_edition : List Cond := .code y_Hr_edition b_Hr_edition 4 (some .int) :: GW
abbrev w_Hr_same : List Cond := .code y_Hr_same b_Hr_same 5 (some .boolean) :: GW
abbrev w_Hr_divide : List Cond := .code y_Hr_divide b_Hr_divide 6 (some .long) :: GW
abbrev w_Hr_handle : List Cond := .code y_Hr_handle b_Hr_handle 2 (some .int) :: GW
abbrev w_Hr_editionAt : List Cond := .code y_Hr_editionAt b_Hr_editionAt 2 (some (.object "HandlingRules$Edition")) :: GW
abbrev w_Hr_ruleAt : List Cond := .code y_Hr_ruleAt b_Hr_ruleAt 2 (some (.object "HandlingRules$Rule")) :: GW
abbrev w_Hr_inForceOn : List Cond := .code y_Hr_inForceOn b_Hr_inForceOn 5 (some (.object "HandlingRules$Edition")) :: GW
abbrev w_Hr_forgetLatestRun : List Cond := .code y_Hr_forgetLatestRun b_Hr_forgetLatestRun 1 none :: GW
abbrev w_Hr_doRule : List Cond := .code y_Hr_doRule b_Hr_doRule 3 (some .int) :: GW
abbrev w_Hr_settle : List Cond := .code y_Hr_settle b_Hr_settle 2 none :: GW
abbrev w_Hr_isWithin : List Cond := .code y_Hr_isWithin b_Hr_isWithin 6 (some .boolean) :: GW
abbrev w_Hr_isInstruction : List Cond := .code y_Hr_isInstruction b_Hr_isInstruction 3 (some .boolean) :: GW
abbrev w_Hr_hasNumber : List Cond := .code y_Hr_hasNumber b_Hr_hasNumber 1 (some .boolean) :: GW
abbrev w_Hr_takesTwo : List Cond := .code y_Hr_takesTwo b_Hr_takesTwo 1 (some .boolean) :: GW
abbrev w_Hr_takes : List Cond := .code y_Hr_takes b_Hr_takes 1 (some .int) :: GW
abbrev w_Hr_puts : List Cond := .code y_Hr_puts b_Hr_puts 1 (some .int) :: GW
abbrev w_Hr_combine : List Cond := .code y_Hr_combine b_Hr_combine 5 (some .long) :: GW
abbrev w_Mo_init : List Cond := .code y_Mo_init b_Mo_init 2 none :: GW
abbrev w_Mo_thrown : List Cond := .code y_Mo_thrown b_Mo_thrown 1 (some .int) :: GW
abbrev w_Mo_within : List Cond := .code y_Mo_within b_Mo_within 6 (some .boolean) :: GW
abbrev w_Mo_isRule : List Cond := .code y_Mo_isRule b_Mo_isRule 2 (some .boolean) :: GW
abbrev w_Mo_isEdition : List Cond := .code y_Mo_isEdition b_Mo_isEdition 1 (some .boolean) :: GW
abbrev w_Mo_rule : List Cond := .code y_Mo_rule b_Mo_rule 4 (some .int) :: GW
abbrev w_Mo_isNumber : List Cond := .code y_Mo_isNumber b_Mo_isNumber 3 (some .boolean) :: GW
abbrev w_Mo_code : List Cond := .code y_Mo_code b_Mo_code 5 (some .int) :: GW
abbrev w_Mo_fallback : List Cond := .code y_Mo_fallback b_Mo_fallback 5 (some .int) :: GW
abbrev w_Mo_fact : List Cond := .code y_Mo_fact b_Mo_fact 4 (some .int) :: GW
abbrev w_Mo_push : List Cond := .code y_Mo_push b_Mo_push 3 none :: GW
abbrev w_Mo_two : List Cond := .code y_Mo_two b_Mo_two 5 (some .long) :: GW
abbrev w_Mo_needs : List Cond := .code y_Mo_needs b_Mo_needs 1 (some .int) :: GW
abbrev w_Mo_perform : List Cond := .code y_Mo_perform b_Mo_perform 11 (some .int) :: GW
abbrev w_Mo_keepHandle : List Cond := .code y_Mo_keepHandle b_Mo_keepHandle 2 none :: GW
abbrev w_Mo_doAll : List Cond := .code y_Mo_doAll b_Mo_doAll 3 none :: GW
abbrev w_Mo_behind : List Cond := .code y_Mo_behind b_Mo_behind 6 (some .int) :: GW
abbrev w_Mo_test : List Cond := .code y_Mo_test b_Mo_test 4 (some .int) :: GW
abbrev w_Mo_day : List Cond := .code y_Mo_day b_Mo_day 3 (some .int) :: GW
abbrev w_Mo_give : List Cond := .code y_Mo_give b_Mo_give 5 none :: GW
abbrev w_Mo_ask : List Cond := .code y_Mo_ask b_Mo_ask 6 (some .int) :: GW
abbrev w_Mo_answer : List Cond := .code y_Mo_answer b_Mo_answer 2 (some .long) :: GW
abbrev w_Mo_by : List Cond := .code y_Mo_by b_Mo_by 2 (some .int) :: GW
abbrev w_Mo_failed : List Cond := .code y_Mo_failed b_Mo_failed 3 (some .int) :: GW
abbrev w_Mo_cell : List Cond := .code y_Mo_cell b_Mo_cell 2 (some .long) :: GW
abbrev w_Mo_edition : List Cond := .code y_Mo_edition b_Mo_edition 3 (some .int) :: GW
abbrev w_Mo_hasNumber : List Cond := .code y_Mo_hasNumber b_Mo_hasNumber 1 (some .boolean) :: GW
abbrev w_Mo_same : List Cond := .code y_Mo_same b_Mo_same 6 (some .boolean) :: GW
abbrev w_Mo_divide : List Cond := .code y_Mo_divide b_Mo_divide 6 (some .long) :: GW
abbrev w_Mo_handle : List Cond := .code y_Mo_handle b_Mo_handle 2 (some .int) :: GW
abbrev w_An_init : List Cond := .code y_An_init b_An_init 2 none :: GW
abbrev w_An_clear : List Cond := .code y_An_clear b_An_clear 2 none :: GW
abbrev w_An_give : List Cond := .code y_An_give b_An_give 6 none :: GW
abbrev w_An_addMissing : List Cond := .code y_An_addMissing b_An_addMissing 3 none :: GW
abbrev w_An_isGiven : List Cond := .code y_An_isGiven b_An_isGiven 2 (some .boolean) :: GW
abbrev w_An_valueOf : List Cond := .code y_An_valueOf b_An_valueOf 2 (some .long) :: GW
abbrev w_An_giverOf : List Cond := .code y_An_giverOf b_An_giverOf 2 (some .int) :: GW
abbrev w_An_countGiven : List Cond := .code y_An_countGiven b_An_countGiven 3 (some .int) :: GW
abbrev w_Ed_init : List Cond := .code y_Ed_init b_Ed_init 1 none :: GW
abbrev w_Ed_insert : List Cond := .code y_Ed_insert b_Ed_insert 5 none :: GW
abbrev w_Ed_inOrder : List Cond := .code y_Ed_inOrder b_Ed_inOrder 2 (some (.object "HandlingRules$Rule")) :: GW
abbrev w_Ed_isInForceOn : List Cond := .code y_Ed_isInForceOn b_Ed_isInForceOn 2 (some .boolean) :: GW
abbrev w_Ed_goesAhead : List Cond := .code y_Ed_goesAhead b_Ed_goesAhead 2 (some .boolean) :: GW
abbrev w_Fa_init : List Cond := .code y_Fa_init b_Fa_init 1 none :: GW
abbrev w_Fa_add : List Cond := .code y_Fa_add b_Fa_add 3 none :: GW
abbrev w_Fa_numberAt : List Cond := .code y_Fa_numberAt b_Fa_numberAt 2 (some .int) :: GW
abbrev w_Fa_howAt : List Cond := .code y_Fa_howAt b_Fa_howAt 2 (some .int) :: GW
abbrev w_Ru_init : List Cond := .code y_Ru_init b_Ru_init 5 none :: GW
abbrev w_Ru_append : List Cond := .code y_Ru_append b_Ru_append 4 none :: GW
abbrev w_Ru_goesBefore : List Cond := .code y_Ru_goesBefore b_Ru_goesBefore 2 (some .boolean) :: GW
abbrev w_Ru_hasProgramOf : List Cond := .code y_Ru_hasProgramOf b_Ru_hasProgramOf 3 (some .boolean) :: GW
abbrev w_Rn_init : List Cond := .code y_Rn_init b_Rn_init 1 none :: GW
abbrev w_Rn_run : List Cond := .code y_Rn_run b_Rn_run 4 (some .int) :: GW
abbrev w_Rn_begin : List Cond := .code y_Rn_begin b_Rn_begin 2 none :: GW
abbrev w_Rn_isInside : List Cond := .code y_Rn_isInside b_Rn_isInside 2 (some .boolean) :: GW
abbrev w_Rn_perform : List Cond := .code y_Rn_perform b_Rn_perform 10 none :: GW
abbrev w_Rn_faultOf : List Cond := .code y_Rn_faultOf b_Rn_faultOf 5 (some .int) :: GW
abbrev w_Rn_push : List Cond := .code y_Rn_push b_Rn_push 3 none :: GW
abbrev w_Rn_pop : List Cond := .code y_Rn_pop b_Rn_pop 3 (some .long) :: GW
abbrev w_Rn_top : List Cond := .code y_Rn_top b_Rn_top 1 (some .long) :: GW
abbrev w_Rn_setFact : List Cond := .code y_Rn_setFact b_Rn_setFact 4 none :: GW
abbrev w_Rn_factOf : List Cond := .code y_Rn_factOf b_Rn_factOf 3 (some .long) :: GW
abbrev w_Rn_keep : List Cond := .code y_Rn_keep b_Rn_keep 4 (some .int) :: GW
abbrev w_Rn_factBehind : List Cond := .code y_Rn_factBehind b_Rn_factBehind 4 (some .long) :: GW
abbrev w_La_cell : List Cond := .code y_La_cell b_La_cell 2 (some .int) :: GW
abbrev w_La_divide : List Cond := .code y_La_divide b_La_divide 8 (some .int) :: GW
abbrev w_La_handle : List Cond := .code y_La_handle b_La_handle 4 (some .int) :: GW
abbrev w_Ma_maxI : List Cond := .code y_Ma_maxI b_Ma_maxI 2 (some .int) :: GW
abbrev w_Ma_maxJ : List Cond := .code y_Ma_maxJ b_Ma_maxJ 4 (some .long) :: GW
abbrev w_Ma_minI : List Cond := .code y_Ma_minI b_Ma_minI 2 (some .int) :: GW
abbrev w_Ma_minJ : List Cond := .code y_Ma_minJ b_Ma_minJ 4 (some .long) :: GW
end
section
theorem d_An_init_0 : decode b_An_init 0 = .ok (.aload_n 0, 1) := by decide +kernel
theorem d_An_init_1 : decode b_An_init 1 = .ok (.invokespecial 3, 3) := by decide +kernel
theorem d_An_init_4 : decode b_An_init 4 = .ok (.aload_n 0, 1) := by decide +kernel
theorem d_An_init_5 : decode b_An_init 5 = .ok (.iconst 4, 1) := by decide +kernel
theorem d_An_init_6 : decode b_An_init 6 = .ok (.newarray .long, 2) := by decide +kernel
theorem d_An_init_8 : decode b_An_init 8 = .ok (.putfield 9, 3) := by decide +kernel
theorem d_An_init_11 : decode b_An_init 11 = .ok (.aload_n 0, 1) := by decide +kernel
theorem d_An_init_12 : decode b_An_init 12 = .ok (.iconst 4, 1) := by decide +kernel
theorem d_An_init_13 : decode b_An_init 13 = .ok (.newarray .int, 2) := by decide +kernel
theorem d_An_init_15 : decode b_An_init 15 = .ok (.putfield 15, 3) := by decide +kernel
theorem d_An_init_18 : decode b_An_init 18 = .ok (.iconst 0, 1) := by decide +kernel
theorem d_An_init_19 : decode b_An_init 19 = .ok (.istore_n 1, 1) := by decide +kernel
theorem d_An_init_20 : decode b_An_init 20 = .ok (.iload_n 1, 1) := by decide +kernel
theorem d_An_init_21 : decode b_An_init 21 = .ok (.iconst 4, 1) := by decide +kernel
theorem d_An_init_22 : decode b_An_init 22 = .ok (.if_icmp .ge 16, 3) := by decide +kernel
theorem d_An_init_25 : decode b_An_init 25 = .ok (.aload_n 0, 1) := by decide +kernel
theorem d_An_init_26 : decode b_An_init 26 = .ok (.getfield 15, 3) := by decide +kernel
theorem d_An_init_29 : decode b_An_init 29 = .ok (.iload_n 1, 1) := by decide +kernel
theorem d_An_init_30 : decode b_An_init 30 = .ok (.iconst (-1), 1) := by decide +kernel
theorem d_An_init_31 : decode b_An_init 31 = .ok (.iastore, 1) := by decide +kernel
theorem d_An_init_32 : decode b_An_init 32 = .ok (.iinc 1 1, 3) := by decide +kernel
theorem d_An_init_35 : decode b_An_init 35 = .ok (.goto (-15), 3) := by decide +kernel
theorem d_An_init_38 : decode b_An_init 38 = .ok (.return_, 1) := by decide +kernel
theorem d_An_clear_0 : decode b_An_clear 0 = .ok (.iconst 0, 1) := by decide +kernel
theorem d_An_clear_1 : decode b_An_clear 1 = .ok (.istore_n 1, 1) := by decide +kernel
theorem d_An_clear_2 : decode b_An_clear 2 = .ok (.iload_n 1, 1) := by decide +kernel
theorem d_An_clear_3 : decode b_An_clear 3 = .ok (.iconst 4, 1) := by decide +kernel
theorem d_An_clear_4 : decode b_An_clear 4 = .ok (.if_icmp .ge 23, 3) := by decide +kernel
theorem d_An_clear_7 : decode b_An_clear 7 = .ok (.aload_n 0, 1) := by decide +kernel
theorem d_An_clear_8 : decode b_An_clear 8 = .ok (.getfield 9, 3) := by decide +kernel
theorem d_An_clear_11 : decode b_An_clear 11 = .ok (.iload_n 1, 1) := by decide +kernel
theorem d_An_clear_12 : decode b_An_clear 12 = .ok (.lconst 0, 1) := by decide +kernel
theorem d_An_clear_13 : decode b_An_clear 13 = .ok (.lastore, 1) := by decide +kernel
theorem d_An_clear_14 : decode b_An_clear 14 = .ok (.aload_n 0, 1) := by decide +kernel
theorem d_An_clear_15 : decode b_An_clear 15 = .ok (.getfield 15, 3) := by decide +kernel
theorem d_An_clear_18 : decode b_An_clear 18 = .ok (.iload_n 1, 1) := by decide +kernel
theorem d_An_clear_19 : decode b_An_clear 19 = .ok (.iconst (-1), 1) := by decide +kernel
theorem d_An_clear_20 : decode b_An_clear 20 = .ok (.iastore, 1) := by decide +kernel
theorem d_An_clear_21 : decode b_An_clear 21 = .ok (.iinc 1 1, 3) := by decide +kernel
theorem d_An_clear_24 : decode b_An_clear 24 = .ok (.goto (-22), 3) := by decide +kernel
theorem d_An_clear_27 : decode b_An_clear 27 = .ok (.return_, 1) := by decide +kernel
theorem d_An_give_0 : decode b_An_give 0 = .ok (.lload_n 1, 1) := by decide +kernel
theorem d_An_give_1 : decode b_An_give 1 = .ok (.lconst 0, 1) := by decide +kernel
theorem d_An_give_2 : decode b_An_give 2 = .ok (.ldc2_w 19, 3) := by decide +kernel
theorem d_An_give_5 : decode b_An_give 5 = .ok (.invokestatic 21, 3) := by decide +kernel
theorem d_An_give_8 : decode b_An_give 8 = .ok (.ifCond .eq 20, 3) := by decide +kernel
theorem d_An_give_11 : decode b_An_give 11 = .ok (.aload_n 0, 1) := by decide +kernel
theorem d_An_give_12 : decode b_An_give 12 = .ok (.getfield 9, 3) := by decide +kernel
theorem d_An_give_15 : decode b_An_give 15 = .ok (.lload_n 1, 1) := by decide +kernel
theorem d_An_give_16 : decode b_An_give 16 = .ok (.l2i, 1) := by decide +kernel
theorem d_An_give_17 : decode b_An_give 17 = .ok (.lload_n 3, 1) := by decide +kernel
theorem d_An_give_18 : decode b_An_give 18 = .ok (.lastore, 1) := by decide +kernel
theorem d_An_give_19 : decode b_An_give 19 = .ok (.aload_n 0, 1) := by decide +kernel
theorem d_An_give_20 : decode b_An_give 20 = .ok (.getfield 15, 3) := by decide +kernel
theorem d_An_give_23 : decode b_An_give 23 = .ok (.lload_n 1, 1) := by decide +kernel
theorem d_An_give_24 : decode b_An_give 24 = .ok (.l2i, 1) := by decide +kernel
theorem d_An_give_25 : decode b_An_give 25 = .ok (.iload 5, 2) := by decide +kernel
theorem d_An_give_27 : decode b_An_give 27 = .ok (.iastore, 1) := by decide +kernel
theorem d_An_give_28 : decode b_An_give 28 = .ok (.return_, 1) := by decide +kernel
theorem d_An_addMissing_0 : decode b_An_addMissing 0 = .ok (.iconst 0, 1) := by decide +kernel
theorem d_An_addMissing_1 : decode b_An_addMissing 1 = .ok (.istore_n 2, 1) := by decide +kernel
theorem d_An_addMissing_2 : decode b_An_addMissing 2 = .ok (.iload_n 2, 1) := by decide +kernel
theorem d_An_addMissing_3 : decode b_An_addMissing 3 = .ok (.iconst 4, 1) := by decide +kernel
theorem d_An_addMissing_4 : decode b_An_addMissing 4 = .ok (.if_icmp .ge 41, 3) := by decide +kernel
theorem d_An_addMissing_7 : decode b_An_addMissing 7 = .ok (.aload_n 0, 1) := by decide +kernel
theorem d_An_addMissing_8 : decode b_An_addMissing 8 = .ok (.iload_n 2, 1) := by decide +kernel
theorem d_An_addMissing_9 : decode b_An_addMissing 9 = .ok (.invokevirtual 25, 3) := by decide +kernel
theorem d_An_addMissing_12 : decode b_An_addMissing 12 = .ok (.ifCond .ne 27, 3) := by decide +kernel
theorem d_An_addMissing_15 : decode b_An_addMissing 15 = .ok (.aload_n 1, 1) := by decide +kernel
theorem d_An_addMissing_16 : decode b_An_addMissing 16 = .ok (.iload_n 2, 1) := by decide +kernel
theorem d_An_addMissing_17 : decode b_An_addMissing 17 = .ok (.invokevirtual 25, 3) := by decide +kernel
theorem d_An_addMissing_20 : decode b_An_addMissing 20 = .ok (.ifCond .eq 19, 3) := by decide +kernel
theorem d_An_addMissing_23 : decode b_An_addMissing 23 = .ok (.aload_n 0, 1) := by decide +kernel
theorem d_An_addMissing_24 : decode b_An_addMissing 24 = .ok (.iload_n 2, 1) := by decide +kernel
theorem d_An_addMissing_25 : decode b_An_addMissing 25 = .ok (.i2l, 1) := by decide +kernel
theorem d_An_addMissing_26 : decode b_An_addMissing 26 = .ok (.aload_n 1, 1) := by decide +kernel
theorem d_An_addMissing_27 : decode b_An_addMissing 27 = .ok (.iload_n 2, 1) := by decide +kernel
theorem d_An_addMissing_28 : decode b_An_addMissing 28 = .ok (.invokevirtual 29, 3) := by decide +kernel
theorem d_An_addMissing_31 : decode b_An_addMissing 31 = .ok (.aload_n 1, 1) := by decide +kernel
theorem d_An_addMissing_32 : decode b_An_addMissing 32 = .ok (.iload_n 2, 1) := by decide +kernel
theorem d_An_addMissing_33 : decode b_An_addMissing 33 = .ok (.invokevirtual 33, 3) := by decide +kernel
theorem d_An_addMissing_36 : decode b_An_addMissing 36 = .ok (.invokevirtual 37, 3) := by decide +kernel
theorem d_An_addMissing_39 : decode b_An_addMissing 39 = .ok (.iinc 2 1, 3) := by decide +kernel
theorem d_An_addMissing_42 : decode b_An_addMissing 42 = .ok (.goto (-40), 3) := by decide +kernel
theorem d_An_addMissing_45 : decode b_An_addMissing 45 = .ok (.return_, 1) := by decide +kernel
theorem d_An_isGiven_0 : decode b_An_isGiven 0 = .ok (.aload_n 0, 1) := by decide +kernel
theorem d_An_isGiven_1 : decode b_An_isGiven 1 = .ok (.iload_n 1, 1) := by decide +kernel
theorem d_An_isGiven_2 : decode b_An_isGiven 2 = .ok (.invokevirtual 33, 3) := by decide +kernel
theorem d_An_isGiven_5 : decode b_An_isGiven 5 = .ok (.iconst (-1), 1) := by decide +kernel
theorem d_An_isGiven_6 : decode b_An_isGiven 6 = .ok (.if_icmp .eq 7, 3) := by decide +kernel
theorem d_An_isGiven_9 : decode b_An_isGiven 9 = .ok (.iconst 1, 1) := by decide +kernel
theorem d_An_isGiven_10 : decode b_An_isGiven 10 = .ok (.goto 4, 3) := by decide +kernel
theorem d_An_isGiven_13 : decode b_An_isGiven 13 = .ok (.iconst 0, 1) := by decide +kernel
theorem d_An_isGiven_14 : decode b_An_isGiven 14 = .ok (.ireturn, 1) := by decide +kernel
theorem d_An_valueOf_0 : decode b_An_valueOf 0 = .ok (.iload_n 1, 1) := by decide +kernel
theorem d_An_valueOf_1 : decode b_An_valueOf 1 = .ok (.ifCond .lt 17, 3) := by decide +kernel
theorem d_An_valueOf_4 : decode b_An_valueOf 4 = .ok (.iload_n 1, 1) := by decide +kernel
theorem d_An_valueOf_5 : decode b_An_valueOf 5 = .ok (.iconst 4, 1) := by decide +kernel
theorem d_An_valueOf_6 : decode b_An_valueOf 6 = .ok (.if_icmp .ge 12, 3) := by decide +kernel
theorem d_An_valueOf_9 : decode b_An_valueOf 9 = .ok (.aload_n 0, 1) := by decide +kernel
theorem d_An_valueOf_10 : decode b_An_valueOf 10 = .ok (.getfield 9, 3) := by decide +kernel
theorem d_An_valueOf_13 : decode b_An_valueOf 13 = .ok (.iload_n 1, 1) := by decide +kernel
theorem d_An_valueOf_14 : decode b_An_valueOf 14 = .ok (.laload, 1) := by decide +kernel
theorem d_An_valueOf_15 : decode b_An_valueOf 15 = .ok (.goto 4, 3) := by decide +kernel
theorem d_An_valueOf_18 : decode b_An_valueOf 18 = .ok (.lconst 0, 1) := by decide +kernel
theorem d_An_valueOf_19 : decode b_An_valueOf 19 = .ok (.lreturn, 1) := by decide +kernel
theorem d_An_giverOf_0 : decode b_An_giverOf 0 = .ok (.iload_n 1, 1) := by decide +kernel
theorem d_An_giverOf_1 : decode b_An_giverOf 1 = .ok (.ifCond .lt 17, 3) := by decide +kernel
theorem d_An_giverOf_4 : decode b_An_giverOf 4 = .ok (.iload_n 1, 1) := by decide +kernel
theorem d_An_giverOf_5 : decode b_An_giverOf 5 = .ok (.iconst 4, 1) := by decide +kernel
theorem d_An_giverOf_6 : decode b_An_giverOf 6 = .ok (.if_icmp .ge 12, 3) := by decide +kernel
theorem d_An_giverOf_9 : decode b_An_giverOf 9 = .ok (.aload_n 0, 1) := by decide +kernel
theorem d_An_giverOf_10 : decode b_An_giverOf 10 = .ok (.getfield 15, 3) := by decide +kernel
theorem d_An_giverOf_13 : decode b_An_giverOf 13 = .ok (.iload_n 1, 1) := by decide +kernel
theorem d_An_giverOf_14 : decode b_An_giverOf 14 = .ok (.iaload, 1) := by decide +kernel
theorem d_An_giverOf_15 : decode b_An_giverOf 15 = .ok (.goto 4, 3) := by decide +kernel
theorem d_An_giverOf_18 : decode b_An_giverOf 18 = .ok (.iconst (-1), 1) := by decide +kernel
theorem d_An_giverOf_19 : decode b_An_giverOf 19 = .ok (.ireturn, 1) := by decide +kernel
theorem d_An_countGiven_0 : decode b_An_countGiven 0 = .ok (.iconst 0, 1) := by decide +kernel
theorem d_An_countGiven_1 : decode b_An_countGiven 1 = .ok (.istore_n 1, 1) := by decide +kernel
theorem d_An_countGiven_2 : decode b_An_countGiven 2 = .ok (.iconst 0, 1) := by decide +kernel
theorem d_An_countGiven_3 : decode b_An_countGiven 3 = .ok (.istore_n 2, 1) := by decide +kernel
theorem d_An_countGiven_4 : decode b_An_countGiven 4 = .ok (.iload_n 2, 1) := by decide +kernel
theorem d_An_countGiven_5 : decode b_An_countGiven 5 = .ok (.iconst 4, 1) := by decide +kernel
theorem d_An_countGiven_6 : decode b_An_countGiven 6 = .ok (.if_icmp .ge 20, 3) := by decide +kernel
theorem d_An_countGiven_9 : decode b_An_countGiven 9 = .ok (.aload_n 0, 1) := by decide +kernel
theorem d_An_countGiven_10 : decode b_An_countGiven 10 = .ok (.iload_n 2, 1) := by decide +kernel
theorem d_An_countGiven_11 : decode b_An_countGiven 11 = .ok (.invokevirtual 25, 3) := by decide +kernel
theorem d_An_countGiven_14 : decode b_An_countGiven 14 = .ok (.ifCond .eq 6, 3) := by decide +kernel
theorem d_An_countGiven_17 : decode b_An_countGiven 17 = .ok (.iinc 1 1, 3) := by decide +kernel
theorem d_An_countGiven_20 : decode b_An_countGiven 20 = .ok (.iinc 2 1, 3) := by decide +kernel
theorem d_An_countGiven_23 : decode b_An_countGiven 23 = .ok (.goto (-19), 3) := by decide +kernel
theorem d_An_countGiven_26 : decode b_An_countGiven 26 = .ok (.iload_n 1, 1) := by decide +kernel
theorem d_An_countGiven_27 : decode b_An_countGiven 27 = .ok (.ireturn, 1) := by decide +kernel
theorem d_Ed_init_0 : decode b_Ed_init 0 = .ok (.aload_n 0, 1) := by decide +kernel
theorem d_Ed_init_1 : decode b_Ed_init 1 = .ok (.invokespecial 3, 3) := by decide +kernel
theorem d_Ed_init_4 : decode b_Ed_init 4 = .ok (.aload_n 0, 1) := by decide +kernel
theorem d_Ed_init_5 : decode b_Ed_init 5 = .ok (.iconst 0, 1) := by decide +kernel
theorem d_Ed_init_6 : decode b_Ed_init 6 = .ok (.putfield 9, 3) := by decide +kernel
theorem d_Ed_init_9 : decode b_Ed_init 9 = .ok (.aload_n 0, 1) := by decide +kernel
theorem d_Ed_init_10 : decode b_Ed_init 10 = .ok (.iconst 0, 1) := by decide +kernel
theorem d_Ed_init_11 : decode b_Ed_init 11 = .ok (.putfield 15, 3) := by decide +kernel
theorem d_Ed_init_14 : decode b_Ed_init 14 = .ok (.aload_n 0, 1) := by decide +kernel
theorem d_Ed_init_15 : decode b_Ed_init 15 = .ok (.iconst (-1), 1) := by decide +kernel
theorem d_Ed_init_16 : decode b_Ed_init 16 = .ok (.putfield 18, 3) := by decide +kernel
theorem d_Ed_init_19 : decode b_Ed_init 19 = .ok (.aload_n 0, 1) := by decide +kernel
theorem d_Ed_init_20 : decode b_Ed_init 20 = .ok (.iconst 0, 1) := by decide +kernel
theorem d_Ed_init_21 : decode b_Ed_init 21 = .ok (.putfield 21, 3) := by decide +kernel
theorem d_Ed_init_24 : decode b_Ed_init 24 = .ok (.aload_n 0, 1) := by decide +kernel
theorem d_Ed_init_25 : decode b_Ed_init 25 = .ok (.bipush 8, 2) := by decide +kernel
theorem d_Ed_init_27 : decode b_Ed_init 27 = .ok (.anewarray 24, 3) := by decide +kernel
theorem d_Ed_init_30 : decode b_Ed_init 30 = .ok (.putfield 26, 3) := by decide +kernel
theorem d_Ed_init_33 : decode b_Ed_init 33 = .ok (.return_, 1) := by decide +kernel
theorem d_Ed_insert_0 : decode b_Ed_insert 0 = .ok (.aload_n 0, 1) := by decide +kernel
theorem d_Ed_insert_1 : decode b_Ed_insert 1 = .ok (.getfield 15, 3) := by decide +kernel
theorem d_Ed_insert_4 : decode b_Ed_insert 4 = .ok (.bipush 8, 2) := by decide +kernel
theorem d_Ed_insert_6 : decode b_Ed_insert 6 = .ok (.if_icmp .lt 4, 3) := by decide +kernel
theorem d_Ed_insert_9 : decode b_Ed_insert 9 = .ok (.return_, 1) := by decide +kernel
theorem d_Ed_insert_10 : decode b_Ed_insert 10 = .ok (.aload_n 0, 1) := by decide +kernel
theorem d_Ed_insert_11 : decode b_Ed_insert 11 = .ok (.getfield 15, 3) := by decide +kernel
theorem d_Ed_insert_14 : decode b_Ed_insert 14 = .ok (.istore_n 2, 1) := by decide +kernel
theorem d_Ed_insert_15 : decode b_Ed_insert 15 = .ok (.aload_n 0, 1) := by decide +kernel
theorem d_Ed_insert_16 : decode b_Ed_insert 16 = .ok (.getfield 15, 3) := by decide +kernel
theorem d_Ed_insert_19 : decode b_Ed_insert 19 = .ok (.iconst 1, 1) := by decide +kernel
theorem d_Ed_insert_20 : decode b_Ed_insert 20 = .ok (.isub, 1) := by decide +kernel
theorem d_Ed_insert_21 : decode b_Ed_insert 21 = .ok (.istore_n 3, 1) := by decide +kernel
theorem d_Ed_insert_22 : decode b_Ed_insert 22 = .ok (.iload_n 3, 1) := by decide +kernel
theorem d_Ed_insert_23 : decode b_Ed_insert 23 = .ok (.ifCond .lt 46, 3) := by decide +kernel
theorem d_Ed_insert_26 : decode b_Ed_insert 26 = .ok (.aload_n 0, 1) := by decide +kernel
theorem d_Ed_insert_27 : decode b_Ed_insert 27 = .ok (.getfield 26, 3) := by decide +kernel
theorem d_Ed_insert_30 : decode b_Ed_insert 30 = .ok (.iload_n 3, 1) := by decide +kernel
theorem d_Ed_insert_31 : decode b_Ed_insert 31 = .ok (.aaload, 1) := by decide +kernel
theorem d_Ed_insert_32 : decode b_Ed_insert 32 = .ok (.astore 4, 2) := by decide +kernel
theorem d_Ed_insert_34 : decode b_Ed_insert 34 = .ok (.aload 4, 2) := by decide +kernel
theorem d_Ed_insert_36 : decode b_Ed_insert 36 = .ok (.ifnull 33, 3) := by decide +kernel
theorem d_Ed_insert_39 : decode b_Ed_insert 39 = .ok (.aload 4, 2) := by decide +kernel
theorem d_Ed_insert_41 : decode b_Ed_insert 41 = .ok (.aload_n 1, 1) := by decide +kernel
theorem d_Ed_insert_42 : decode b_Ed_insert 42 = .ok (.invokevirtual 30, 3) := by decide +kernel
theorem d_Ed_insert_45 : decode b_Ed_insert 45 = .ok (.ifCond .eq 6, 3) := by decide +kernel
theorem d_Ed_insert_48 : decode b_Ed_insert 48 = .ok (.goto 21, 3) := by decide +kernel
theorem d_Ed_insert_51 : decode b_Ed_insert 51 = .ok (.aload_n 0, 1) := by decide +kernel
theorem d_Ed_insert_52 : decode b_Ed_insert 52 = .ok (.getfield 26, 3) := by decide +kernel
theorem d_Ed_insert_55 : decode b_Ed_insert 55 = .ok (.iload_n 3, 1) := by decide +kernel
theorem d_Ed_insert_56 : decode b_Ed_insert 56 = .ok (.iconst 1, 1) := by decide +kernel
theorem d_Ed_insert_57 : decode b_Ed_insert 57 = .ok (.iadd, 1) := by decide +kernel
theorem d_Ed_insert_58 : decode b_Ed_insert 58 = .ok (.aload 4, 2) := by decide +kernel
theorem d_Ed_insert_60 : decode b_Ed_insert 60 = .ok (.aastore, 1) := by decide +kernel
theorem d_Ed_insert_61 : decode b_Ed_insert 61 = .ok (.iload_n 3, 1) := by decide +kernel
theorem d_Ed_insert_62 : decode b_Ed_insert 62 = .ok (.istore_n 2, 1) := by decide +kernel
theorem d_Ed_insert_63 : decode b_Ed_insert 63 = .ok (.iinc 3 (-1), 3) := by decide +kernel
theorem d_Ed_insert_66 : decode b_Ed_insert 66 = .ok (.goto (-44), 3) := by decide +kernel
theorem d_Ed_insert_69 : decode b_Ed_insert 69 = .ok (.aload_n 0, 1) := by decide +kernel
theorem d_Ed_insert_70 : decode b_Ed_insert 70 = .ok (.getfield 26, 3) := by decide +kernel
theorem d_Ed_insert_73 : decode b_Ed_insert 73 = .ok (.iload_n 2, 1) := by decide +kernel
theorem d_Ed_insert_74 : decode b_Ed_insert 74 = .ok (.aload_n 1, 1) := by decide +kernel
theorem d_Ed_insert_75 : decode b_Ed_insert 75 = .ok (.aastore, 1) := by decide +kernel
theorem d_Ed_insert_76 : decode b_Ed_insert 76 = .ok (.aload_n 0, 1) := by decide +kernel
theorem d_Ed_insert_77 : decode b_Ed_insert 77 = .ok (.dup, 1) := by decide +kernel
theorem d_Ed_insert_78 : decode b_Ed_insert 78 = .ok (.getfield 15, 3) := by decide +kernel
theorem d_Ed_insert_81 : decode b_Ed_insert 81 = .ok (.iconst 1, 1) := by decide +kernel
theorem d_Ed_insert_82 : decode b_Ed_insert 82 = .ok (.iadd, 1) := by decide +kernel
theorem d_Ed_insert_83 : decode b_Ed_insert 83 = .ok (.putfield 15, 3) := by decide +kernel
theorem d_Ed_insert_86 : decode b_Ed_insert 86 = .ok (.aload_n 0, 1) := by decide +kernel
theorem d_Ed_insert_87 : decode b_Ed_insert 87 = .ok (.iconst 1, 1) := by decide +kernel
theorem d_Ed_insert_88 : decode b_Ed_insert 88 = .ok (.putfield 9, 3) := by decide +kernel
theorem d_Ed_insert_91 : decode b_Ed_insert 91 = .ok (.return_, 1) := by decide +kernel
theorem d_Ed_inOrder_0 : decode b_Ed_inOrder 0 = .ok (.iload_n 1, 1) := by decide +kernel
theorem d_Ed_inOrder_1 : decode b_Ed_inOrder 1 = .ok (.ifCond .lt 26, 3) := by decide +kernel
theorem d_Ed_inOrder_4 : decode b_Ed_inOrder 4 = .ok (.iload_n 1, 1) := by decide +kernel
theorem d_Ed_inOrder_5 : decode b_Ed_inOrder 5 = .ok (.aload_n 0, 1) := by decide +kernel
theorem d_Ed_inOrder_6 : decode b_Ed_inOrder 6 = .ok (.getfield 15, 3) := by decide +kernel
theorem d_Ed_inOrder_9 : decode b_Ed_inOrder 9 = .ok (.if_icmp .ge 18, 3) := by decide +kernel
theorem d_Ed_inOrder_12 : decode b_Ed_inOrder 12 = .ok (.iload_n 1, 1) := by decide +kernel
theorem d_Ed_inOrder_13 : decode b_Ed_inOrder 13 = .ok (.bipush 8, 2) := by decide +kernel
theorem d_Ed_inOrder_15 : decode b_Ed_inOrder 15 = .ok (.if_icmp .ge 12, 3) := by decide +kernel
theorem d_Ed_inOrder_18 : decode b_Ed_inOrder 18 = .ok (.aload_n 0, 1) := by decide +kernel
theorem d_Ed_inOrder_19 : decode b_Ed_inOrder 19 = .ok (.getfield 26, 3) := by decide +kernel
theorem d_Ed_inOrder_22 : decode b_Ed_inOrder 22 = .ok (.iload_n 1, 1) := by decide +kernel
theorem d_Ed_inOrder_23 : decode b_Ed_inOrder 23 = .ok (.aaload, 1) := by decide +kernel
theorem d_Ed_inOrder_24 : decode b_Ed_inOrder 24 = .ok (.goto 4, 3) := by decide +kernel
theorem d_Ed_inOrder_27 : decode b_Ed_inOrder 27 = .ok (.aconst_null, 1) := by decide +kernel
theorem d_Ed_inOrder_28 : decode b_Ed_inOrder 28 = .ok (.areturn, 1) := by decide +kernel
theorem d_Ed_isInForceOn_0 : decode b_Ed_isInForceOn 0 = .ok (.aload_n 0, 1) := by decide +kernel
theorem d_Ed_isInForceOn_1 : decode b_Ed_isInForceOn 1 = .ok (.getfield 18, 3) := by decide +kernel
theorem d_Ed_isInForceOn_4 : decode b_Ed_isInForceOn 4 = .ok (.iconst (-1), 1) := by decide +kernel
theorem d_Ed_isInForceOn_5 : decode b_Ed_isInForceOn 5 = .ok (.if_icmp .eq 15, 3) := by decide +kernel
theorem d_Ed_isInForceOn_8 : decode b_Ed_isInForceOn 8 = .ok (.aload_n 0, 1) := by decide +kernel
theorem d_Ed_isInForceOn_9 : decode b_Ed_isInForceOn 9 = .ok (.getfield 18, 3) := by decide +kernel
theorem d_Ed_isInForceOn_12 : decode b_Ed_isInForceOn 12 = .ok (.iload_n 1, 1) := by decide +kernel
theorem d_Ed_isInForceOn_13 : decode b_Ed_isInForceOn 13 = .ok (.if_icmp .gt 7, 3) := by decide +kernel
theorem d_Ed_isInForceOn_16 : decode b_Ed_isInForceOn 16 = .ok (.iconst 1, 1) := by decide +kernel
theorem d_Ed_isInForceOn_17 : decode b_Ed_isInForceOn 17 = .ok (.goto 4, 3) := by decide +kernel
theorem d_Ed_isInForceOn_20 : decode b_Ed_isInForceOn 20 = .ok (.iconst 0, 1) := by decide +kernel
theorem d_Ed_isInForceOn_21 : decode b_Ed_isInForceOn 21 = .ok (.ireturn, 1) := by decide +kernel
theorem d_Ed_goesAhead_0 : decode b_Ed_goesAhead 0 = .ok (.aload_n 1, 1) := by decide +kernel
theorem d_Ed_goesAhead_1 : decode b_Ed_goesAhead 1 = .ok (.ifnonnull 5, 3) := by decide +kernel
theorem d_Ed_goesAhead_4 : decode b_Ed_goesAhead 4 = .ok (.iconst 1, 1) := by decide +kernel
theorem d_Ed_goesAhead_5 : decode b_Ed_goesAhead 5 = .ok (.ireturn, 1) := by decide +kernel
theorem d_Ed_goesAhead_6 : decode b_Ed_goesAhead 6 = .ok (.aload_n 0, 1) := by decide +kernel
theorem d_Ed_goesAhead_7 : decode b_Ed_goesAhead 7 = .ok (.getfield 18, 3) := by decide +kernel
theorem d_Ed_goesAhead_10 : decode b_Ed_goesAhead 10 = .ok (.aload_n 1, 1) := by decide +kernel
theorem d_Ed_goesAhead_11 : decode b_Ed_goesAhead 11 = .ok (.getfield 18, 3) := by decide +kernel
theorem d_Ed_goesAhead_14 : decode b_Ed_goesAhead 14 = .ok (.if_icmp .eq 22, 3) := by decide +kernel
theorem d_Ed_goesAhead_17 : decode b_Ed_goesAhead 17 = .ok (.aload_n 0, 1) := by decide +kernel
theorem d_Ed_goesAhead_18 : decode b_Ed_goesAhead 18 = .ok (.getfield 18, 3) := by decide +kernel
theorem d_Ed_goesAhead_21 : decode b_Ed_goesAhead 21 = .ok (.aload_n 1, 1) := by decide +kernel
theorem d_Ed_goesAhead_22 : decode b_Ed_goesAhead 22 = .ok (.getfield 18, 3) := by decide +kernel
theorem d_Ed_goesAhead_25 : decode b_Ed_goesAhead 25 = .ok (.if_icmp .le 7, 3) := by decide +kernel
theorem d_Ed_goesAhead_28 : decode b_Ed_goesAhead 28 = .ok (.iconst 1, 1) := by decide +kernel
theorem d_Ed_goesAhead_29 : decode b_Ed_goesAhead 29 = .ok (.goto 23, 3) := by decide +kernel
theorem d_Ed_goesAhead_32 : decode b_Ed_goesAhead 32 = .ok (.iconst 0, 1) := by decide +kernel
theorem d_Ed_goesAhead_33 : decode b_Ed_goesAhead 33 = .ok (.goto 19, 3) := by decide +kernel
theorem d_Ed_goesAhead_36 : decode b_Ed_goesAhead 36 = .ok (.aload_n 0, 1) := by decide +kernel
theorem d_Ed_goesAhead_37 : decode b_Ed_goesAhead 37 = .ok (.getfield 21, 3) := by decide +kernel
theorem d_Ed_goesAhead_40 : decode b_Ed_goesAhead 40 = .ok (.aload_n 1, 1) := by decide +kernel
theorem d_Ed_goesAhead_41 : decode b_Ed_goesAhead 41 = .ok (.getfield 21, 3) := by decide +kernel
theorem d_Ed_goesAhead_44 : decode b_Ed_goesAhead 44 = .ok (.if_icmp .le 7, 3) := by decide +kernel
theorem d_Ed_goesAhead_47 : decode b_Ed_goesAhead 47 = .ok (.iconst 1, 1) := by decide +kernel
theorem d_Ed_goesAhead_48 : decode b_Ed_goesAhead 48 = .ok (.goto 4, 3) := by decide +kernel
theorem d_Ed_goesAhead_51 : decode b_Ed_goesAhead 51 = .ok (.iconst 0, 1) := by decide +kernel
theorem d_Ed_goesAhead_52 : decode b_Ed_goesAhead 52 = .ok (.ireturn, 1) := by decide +kernel
theorem d_Fa_init_0 : decode b_Fa_init 0 = .ok (.aload_n 0, 1) := by decide +kernel
theorem d_Fa_init_1 : decode b_Fa_init 1 = .ok (.invokespecial 3, 3) := by decide +kernel
theorem d_Fa_init_4 : decode b_Fa_init 4 = .ok (.aload_n 0, 1) := by decide +kernel
theorem d_Fa_init_5 : decode b_Fa_init 5 = .ok (.bipush 8, 2) := by decide +kernel
theorem d_Fa_init_7 : decode b_Fa_init 7 = .ok (.newarray .int, 2) := by decide +kernel
theorem d_Fa_init_9 : decode b_Fa_init 9 = .ok (.putfield 9, 3) := by decide +kernel
theorem d_Fa_init_12 : decode b_Fa_init 12 = .ok (.aload_n 0, 1) := by decide +kernel
theorem d_Fa_init_13 : decode b_Fa_init 13 = .ok (.bipush 8, 2) := by decide +kernel
theorem d_Fa_init_15 : decode b_Fa_init 15 = .ok (.newarray .int, 2) := by decide +kernel
theorem d_Fa_init_17 : decode b_Fa_init 17 = .ok (.putfield 15, 3) := by decide +kernel
theorem d_Fa_init_20 : decode b_Fa_init 20 = .ok (.aload_n 0, 1) := by decide +kernel
theorem d_Fa_init_21 : decode b_Fa_init 21 = .ok (.iconst 0, 1) := by decide +kernel
theorem d_Fa_init_22 : decode b_Fa_init 22 = .ok (.putfield 18, 3) := by decide +kernel
theorem d_Fa_init_25 : decode b_Fa_init 25 = .ok (.return_, 1) := by decide +kernel
theorem d_Fa_add_0 : decode b_Fa_add 0 = .ok (.aload_n 0, 1) := by decide +kernel
theorem d_Fa_add_1 : decode b_Fa_add 1 = .ok (.getfield 18, 3) := by decide +kernel
theorem d_Fa_add_4 : decode b_Fa_add 4 = .ok (.bipush 8, 2) := by decide +kernel
theorem d_Fa_add_6 : decode b_Fa_add 6 = .ok (.if_icmp .ge 33, 3) := by decide +kernel
theorem d_Fa_add_9 : decode b_Fa_add 9 = .ok (.aload_n 0, 1) := by decide +kernel
theorem d_Fa_add_10 : decode b_Fa_add 10 = .ok (.getfield 9, 3) := by decide +kernel
theorem d_Fa_add_13 : decode b_Fa_add 13 = .ok (.aload_n 0, 1) := by decide +kernel
theorem d_Fa_add_14 : decode b_Fa_add 14 = .ok (.getfield 18, 3) := by decide +kernel
theorem d_Fa_add_17 : decode b_Fa_add 17 = .ok (.iload_n 1, 1) := by decide +kernel
theorem d_Fa_add_18 : decode b_Fa_add 18 = .ok (.iastore, 1) := by decide +kernel
theorem d_Fa_add_19 : decode b_Fa_add 19 = .ok (.aload_n 0, 1) := by decide +kernel
theorem d_Fa_add_20 : decode b_Fa_add 20 = .ok (.getfield 15, 3) := by decide +kernel
theorem d_Fa_add_23 : decode b_Fa_add 23 = .ok (.aload_n 0, 1) := by decide +kernel
theorem d_Fa_add_24 : decode b_Fa_add 24 = .ok (.getfield 18, 3) := by decide +kernel
theorem d_Fa_add_27 : decode b_Fa_add 27 = .ok (.iload_n 2, 1) := by decide +kernel
theorem d_Fa_add_28 : decode b_Fa_add 28 = .ok (.iastore, 1) := by decide +kernel
theorem d_Fa_add_29 : decode b_Fa_add 29 = .ok (.aload_n 0, 1) := by decide +kernel
theorem d_Fa_add_30 : decode b_Fa_add 30 = .ok (.dup, 1) := by decide +kernel
theorem d_Fa_add_31 : decode b_Fa_add 31 = .ok (.getfield 18, 3) := by decide +kernel
theorem d_Fa_add_34 : decode b_Fa_add 34 = .ok (.iconst 1, 1) := by decide +kernel
theorem d_Fa_add_35 : decode b_Fa_add 35 = .ok (.iadd, 1) := by decide +kernel
theorem d_Fa_add_36 : decode b_Fa_add 36 = .ok (.putfield 18, 3) := by decide +kernel
theorem d_Fa_add_39 : decode b_Fa_add 39 = .ok (.return_, 1) := by decide +kernel
theorem d_Fa_numberAt_0 : decode b_Fa_numberAt 0 = .ok (.iload_n 1, 1) := by decide +kernel
theorem d_Fa_numberAt_1 : decode b_Fa_numberAt 1 = .ok (.ifCond .lt 26, 3) := by decide +kernel
theorem d_Fa_numberAt_4 : decode b_Fa_numberAt 4 = .ok (.iload_n 1, 1) := by decide +kernel
theorem d_Fa_numberAt_5 : decode b_Fa_numberAt 5 = .ok (.aload_n 0, 1) := by decide +kernel
theorem d_Fa_numberAt_6 : decode b_Fa_numberAt 6 = .ok (.getfield 18, 3) := by decide +kernel
theorem d_Fa_numberAt_9 : decode b_Fa_numberAt 9 = .ok (.if_icmp .ge 18, 3) := by decide +kernel
theorem d_Fa_numberAt_12 : decode b_Fa_numberAt 12 = .ok (.iload_n 1, 1) := by decide +kernel
theorem d_Fa_numberAt_13 : decode b_Fa_numberAt 13 = .ok (.bipush 8, 2) := by decide +kernel
theorem d_Fa_numberAt_15 : decode b_Fa_numberAt 15 = .ok (.if_icmp .ge 12, 3) := by decide +kernel
theorem d_Fa_numberAt_18 : decode b_Fa_numberAt 18 = .ok (.aload_n 0, 1) := by decide +kernel
theorem d_Fa_numberAt_19 : decode b_Fa_numberAt 19 = .ok (.getfield 9, 3) := by decide +kernel
theorem d_Fa_numberAt_22 : decode b_Fa_numberAt 22 = .ok (.iload_n 1, 1) := by decide +kernel
theorem d_Fa_numberAt_23 : decode b_Fa_numberAt 23 = .ok (.iaload, 1) := by decide +kernel
theorem d_Fa_numberAt_24 : decode b_Fa_numberAt 24 = .ok (.goto 4, 3) := by decide +kernel
theorem d_Fa_numberAt_27 : decode b_Fa_numberAt 27 = .ok (.iconst (-1), 1) := by decide +kernel
theorem d_Fa_numberAt_28 : decode b_Fa_numberAt 28 = .ok (.ireturn, 1) := by decide +kernel
theorem d_Fa_howAt_0 : decode b_Fa_howAt 0 = .ok (.iload_n 1, 1) := by decide +kernel
theorem d_Fa_howAt_1 : decode b_Fa_howAt 1 = .ok (.ifCond .lt 26, 3) := by decide +kernel
theorem d_Fa_howAt_4 : decode b_Fa_howAt 4 = .ok (.iload_n 1, 1) := by decide +kernel
theorem d_Fa_howAt_5 : decode b_Fa_howAt 5 = .ok (.aload_n 0, 1) := by decide +kernel
theorem d_Fa_howAt_6 : decode b_Fa_howAt 6 = .ok (.getfield 18, 3) := by decide +kernel
theorem d_Fa_howAt_9 : decode b_Fa_howAt 9 = .ok (.if_icmp .ge 18, 3) := by decide +kernel
theorem d_Fa_howAt_12 : decode b_Fa_howAt 12 = .ok (.iload_n 1, 1) := by decide +kernel
theorem d_Fa_howAt_13 : decode b_Fa_howAt 13 = .ok (.bipush 8, 2) := by decide +kernel
theorem d_Fa_howAt_15 : decode b_Fa_howAt 15 = .ok (.if_icmp .ge 12, 3) := by decide +kernel
theorem d_Fa_howAt_18 : decode b_Fa_howAt 18 = .ok (.aload_n 0, 1) := by decide +kernel
theorem d_Fa_howAt_19 : decode b_Fa_howAt 19 = .ok (.getfield 15, 3) := by decide +kernel
theorem d_Fa_howAt_22 : decode b_Fa_howAt 22 = .ok (.iload_n 1, 1) := by decide +kernel
theorem d_Fa_howAt_23 : decode b_Fa_howAt 23 = .ok (.iaload, 1) := by decide +kernel
theorem d_Fa_howAt_24 : decode b_Fa_howAt 24 = .ok (.goto 4, 3) := by decide +kernel
theorem d_Fa_howAt_27 : decode b_Fa_howAt 27 = .ok (.iconst (-1), 1) := by decide +kernel
theorem d_Fa_howAt_28 : decode b_Fa_howAt 28 = .ok (.ireturn, 1) := by decide +kernel
theorem d_Ru_init_0 : decode b_Ru_init 0 = .ok (.aload_n 0, 1) := by decide +kernel
theorem d_Ru_init_1 : decode b_Ru_init 1 = .ok (.invokespecial 3, 3) := by decide +kernel
theorem d_Ru_init_4 : decode b_Ru_init 4 = .ok (.aload_n 0, 1) := by decide +kernel
theorem d_Ru_init_5 : decode b_Ru_init 5 = .ok (.bipush 12, 2) := by decide +kernel
theorem d_Ru_init_7 : decode b_Ru_init 7 = .ok (.newarray .int, 2) := by decide +kernel
theorem d_Ru_init_9 : decode b_Ru_init 9 = .ok (.putfield 9, 3) := by decide +kernel
theorem d_Ru_init_12 : decode b_Ru_init 12 = .ok (.aload_n 0, 1) := by decide +kernel
theorem d_Ru_init_13 : decode b_Ru_init 13 = .ok (.bipush 12, 2) := by decide +kernel
theorem d_Ru_init_15 : decode b_Ru_init 15 = .ok (.newarray .long, 2) := by decide +kernel
theorem d_Ru_init_17 : decode b_Ru_init 17 = .ok (.putfield 15, 3) := by decide +kernel
theorem d_Ru_init_20 : decode b_Ru_init 20 = .ok (.aload_n 0, 1) := by decide +kernel
theorem d_Ru_init_21 : decode b_Ru_init 21 = .ok (.iconst 0, 1) := by decide +kernel
theorem d_Ru_init_22 : decode b_Ru_init 22 = .ok (.putfield 19, 3) := by decide +kernel
theorem d_Ru_init_25 : decode b_Ru_init 25 = .ok (.aload_n 0, 1) := by decide +kernel
theorem d_Ru_init_26 : decode b_Ru_init 26 = .ok (.lconst 0, 1) := by decide +kernel
theorem d_Ru_init_27 : decode b_Ru_init 27 = .ok (.putfield 23, 3) := by decide +kernel
theorem d_Ru_init_30 : decode b_Ru_init 30 = .ok (.aload_n 0, 1) := by decide +kernel
theorem d_Ru_init_31 : decode b_Ru_init 31 = .ok (.iconst (-1), 1) := by decide +kernel
theorem d_Ru_init_32 : decode b_Ru_init 32 = .ok (.putfield 27, 3) := by decide +kernel
theorem d_Ru_init_35 : decode b_Ru_init 35 = .ok (.aload_n 0, 1) := by decide +kernel
theorem d_Ru_init_36 : decode b_Ru_init 36 = .ok (.lconst 0, 1) := by decide +kernel
theorem d_Ru_init_37 : decode b_Ru_init 37 = .ok (.putfield 30, 3) := by decide +kernel
theorem d_Ru_init_40 : decode b_Ru_init 40 = .ok (.aload_n 0, 1) := by decide +kernel
theorem d_Ru_init_41 : decode b_Ru_init 41 = .ok (.iload_n 1, 1) := by decide +kernel
theorem d_Ru_init_42 : decode b_Ru_init 42 = .ok (.putfield 33, 3) := by decide +kernel
theorem d_Ru_init_45 : decode b_Ru_init 45 = .ok (.aload_n 0, 1) := by decide +kernel
theorem d_Ru_init_46 : decode b_Ru_init 46 = .ok (.aload_n 2, 1) := by decide +kernel
theorem d_Ru_init_47 : decode b_Ru_init 47 = .ok (.putfield 36, 3) := by decide +kernel
theorem d_Ru_init_50 : decode b_Ru_init 50 = .ok (.aload_n 0, 1) := by decide +kernel
theorem d_Ru_init_51 : decode b_Ru_init 51 = .ok (.iload_n 3, 1) := by decide +kernel
theorem d_Ru_init_52 : decode b_Ru_init 52 = .ok (.putfield 40, 3) := by decide +kernel
theorem d_Ru_init_55 : decode b_Ru_init 55 = .ok (.aload_n 0, 1) := by decide +kernel
theorem d_Ru_init_56 : decode b_Ru_init 56 = .ok (.iload 4, 2) := by decide +kernel
theorem d_Ru_init_58 : decode b_Ru_init 58 = .ok (.putfield 43, 3) := by decide +kernel
theorem d_Ru_init_61 : decode b_Ru_init 61 = .ok (.return_, 1) := by decide +kernel
theorem d_Ru_append_0 : decode b_Ru_append 0 = .ok (.aload_n 0, 1) := by decide +kernel
theorem d_Ru_append_1 : decode b_Ru_append 1 = .ok (.getfield 19, 3) := by decide +kernel
theorem d_Ru_append_4 : decode b_Ru_append 4 = .ok (.bipush 12, 2) := by decide +kernel
theorem d_Ru_append_6 : decode b_Ru_append 6 = .ok (.if_icmp .ge 33, 3) := by decide +kernel
theorem d_Ru_append_9 : decode b_Ru_append 9 = .ok (.aload_n 0, 1) := by decide +kernel
theorem d_Ru_append_10 : decode b_Ru_append 10 = .ok (.getfield 9, 3) := by decide +kernel
theorem d_Ru_append_13 : decode b_Ru_append 13 = .ok (.aload_n 0, 1) := by decide +kernel
theorem d_Ru_append_14 : decode b_Ru_append 14 = .ok (.getfield 19, 3) := by decide +kernel
theorem d_Ru_append_17 : decode b_Ru_append 17 = .ok (.iload_n 1, 1) := by decide +kernel
theorem d_Ru_append_18 : decode b_Ru_append 18 = .ok (.iastore, 1) := by decide +kernel
theorem d_Ru_append_19 : decode b_Ru_append 19 = .ok (.aload_n 0, 1) := by decide +kernel
theorem d_Ru_append_20 : decode b_Ru_append 20 = .ok (.getfield 15, 3) := by decide +kernel
theorem d_Ru_append_23 : decode b_Ru_append 23 = .ok (.aload_n 0, 1) := by decide +kernel
theorem d_Ru_append_24 : decode b_Ru_append 24 = .ok (.getfield 19, 3) := by decide +kernel
theorem d_Ru_append_27 : decode b_Ru_append 27 = .ok (.lload_n 2, 1) := by decide +kernel
theorem d_Ru_append_28 : decode b_Ru_append 28 = .ok (.lastore, 1) := by decide +kernel
theorem d_Ru_append_29 : decode b_Ru_append 29 = .ok (.aload_n 0, 1) := by decide +kernel
theorem d_Ru_append_30 : decode b_Ru_append 30 = .ok (.dup, 1) := by decide +kernel
theorem d_Ru_append_31 : decode b_Ru_append 31 = .ok (.getfield 19, 3) := by decide +kernel
theorem d_Ru_append_34 : decode b_Ru_append 34 = .ok (.iconst 1, 1) := by decide +kernel
theorem d_Ru_append_35 : decode b_Ru_append 35 = .ok (.iadd, 1) := by decide +kernel
theorem d_Ru_append_36 : decode b_Ru_append 36 = .ok (.putfield 19, 3) := by decide +kernel
theorem d_Ru_append_39 : decode b_Ru_append 39 = .ok (.return_, 1) := by decide +kernel
theorem d_Ru_goesBefore_0 : decode b_Ru_goesBefore 0 = .ok (.aload_n 0, 1) := by decide +kernel
theorem d_Ru_goesBefore_1 : decode b_Ru_goesBefore 1 = .ok (.getfield 40, 3) := by decide +kernel
theorem d_Ru_goesBefore_4 : decode b_Ru_goesBefore 4 = .ok (.aload_n 1, 1) := by decide +kernel
theorem d_Ru_goesBefore_5 : decode b_Ru_goesBefore 5 = .ok (.getfield 40, 3) := by decide +kernel
theorem d_Ru_goesBefore_8 : decode b_Ru_goesBefore 8 = .ok (.if_icmp .eq 20, 3) := by decide +kernel
theorem d_Ru_goesBefore_11 : decode b_Ru_goesBefore 11 = .ok (.aload_n 0, 1) := by decide +kernel
theorem d_Ru_goesBefore_12 : decode b_Ru_goesBefore 12 = .ok (.getfield 40, 3) := by decide +kernel
theorem d_Ru_goesBefore_15 : decode b_Ru_goesBefore 15 = .ok (.aload_n 1, 1) := by decide +kernel
theorem d_Ru_goesBefore_16 : decode b_Ru_goesBefore 16 = .ok (.getfield 40, 3) := by decide +kernel
theorem d_Ru_goesBefore_19 : decode b_Ru_goesBefore 19 = .ok (.if_icmp .ge 7, 3) := by decide +kernel
theorem d_Ru_goesBefore_22 : decode b_Ru_goesBefore 22 = .ok (.iconst 1, 1) := by decide +kernel
theorem d_Ru_goesBefore_23 : decode b_Ru_goesBefore 23 = .ok (.goto 4, 3) := by decide +kernel
theorem d_Ru_goesBefore_26 : decode b_Ru_goesBefore 26 = .ok (.iconst 0, 1) := by decide +kernel
theorem d_Ru_goesBefore_27 : decode b_Ru_goesBefore 27 = .ok (.ireturn, 1) := by decide +kernel
theorem d_Ru_goesBefore_28 : decode b_Ru_goesBefore 28 = .ok (.aload_n 0, 1) := by decide +kernel
theorem d_Ru_goesBefore_29 : decode b_Ru_goesBefore 29 = .ok (.getfield 43, 3) := by decide +kernel
theorem d_Ru_goesBefore_32 : decode b_Ru_goesBefore 32 = .ok (.aload_n 1, 1) := by decide +kernel
theorem d_Ru_goesBefore_33 : decode b_Ru_goesBefore 33 = .ok (.getfield 43, 3) := by decide +kernel
theorem d_Ru_goesBefore_36 : decode b_Ru_goesBefore 36 = .ok (.if_icmp .eq 22, 3) := by decide +kernel
theorem d_Ru_goesBefore_39 : decode b_Ru_goesBefore 39 = .ok (.aload_n 0, 1) := by decide +kernel
theorem d_Ru_goesBefore_40 : decode b_Ru_goesBefore 40 = .ok (.getfield 43, 3) := by decide +kernel
theorem d_Ru_goesBefore_43 : decode b_Ru_goesBefore 43 = .ok (.aload_n 1, 1) := by decide +kernel
theorem d_Ru_goesBefore_44 : decode b_Ru_goesBefore 44 = .ok (.getfield 43, 3) := by decide +kernel
theorem d_Ru_goesBefore_47 : decode b_Ru_goesBefore 47 = .ok (.if_icmp .ge 7, 3) := by decide +kernel
theorem d_Ru_goesBefore_50 : decode b_Ru_goesBefore 50 = .ok (.iconst 1, 1) := by decide +kernel
theorem d_Ru_goesBefore_51 : decode b_Ru_goesBefore 51 = .ok (.goto 23, 3) := by decide +kernel
theorem d_Ru_goesBefore_54 : decode b_Ru_goesBefore 54 = .ok (.iconst 0, 1) := by decide +kernel
theorem d_Ru_goesBefore_55 : decode b_Ru_goesBefore 55 = .ok (.goto 19, 3) := by decide +kernel
theorem d_Ru_goesBefore_58 : decode b_Ru_goesBefore 58 = .ok (.aload_n 0, 1) := by decide +kernel
theorem d_Ru_goesBefore_59 : decode b_Ru_goesBefore 59 = .ok (.getfield 33, 3) := by decide +kernel
theorem d_Ru_goesBefore_62 : decode b_Ru_goesBefore 62 = .ok (.aload_n 1, 1) := by decide +kernel
theorem d_Ru_goesBefore_63 : decode b_Ru_goesBefore 63 = .ok (.getfield 33, 3) := by decide +kernel
theorem d_Ru_goesBefore_66 : decode b_Ru_goesBefore 66 = .ok (.if_icmp .ge 7, 3) := by decide +kernel
theorem d_Ru_goesBefore_69 : decode b_Ru_goesBefore 69 = .ok (.iconst 1, 1) := by decide +kernel
theorem d_Ru_goesBefore_70 : decode b_Ru_goesBefore 70 = .ok (.goto 4, 3) := by decide +kernel
theorem d_Ru_goesBefore_73 : decode b_Ru_goesBefore 73 = .ok (.iconst 0, 1) := by decide +kernel
theorem d_Ru_goesBefore_74 : decode b_Ru_goesBefore 74 = .ok (.ireturn, 1) := by decide +kernel
theorem d_Ru_hasProgramOf_0 : decode b_Ru_hasProgramOf 0 = .ok (.aload_n 0, 1) := by decide +kernel
theorem d_Ru_hasProgramOf_1 : decode b_Ru_hasProgramOf 1 = .ok (.getfield 19, 3) := by decide +kernel
theorem d_Ru_hasProgramOf_4 : decode b_Ru_hasProgramOf 4 = .ok (.aload_n 1, 1) := by decide +kernel
theorem d_Ru_hasProgramOf_5 : decode b_Ru_hasProgramOf 5 = .ok (.getfield 19, 3) := by decide +kernel
theorem d_Ru_hasProgramOf_8 : decode b_Ru_hasProgramOf 8 = .ok (.if_icmp .eq 5, 3) := by decide +kernel
theorem d_Ru_hasProgramOf_11 : decode b_Ru_hasProgramOf 11 = .ok (.iconst 0, 1) := by decide +kernel
theorem d_Ru_hasProgramOf_12 : decode b_Ru_hasProgramOf 12 = .ok (.ireturn, 1) := by decide +kernel
theorem d_Ru_hasProgramOf_13 : decode b_Ru_hasProgramOf 13 = .ok (.iconst 0, 1) := by decide +kernel
theorem d_Ru_hasProgramOf_14 : decode b_Ru_hasProgramOf 14 = .ok (.istore_n 2, 1) := by decide +kernel
theorem d_Ru_hasProgramOf_15 : decode b_Ru_hasProgramOf 15 = .ok (.iload_n 2, 1) := by decide +kernel
theorem d_Ru_hasProgramOf_16 : decode b_Ru_hasProgramOf 16 = .ok (.aload_n 0, 1) := by decide +kernel
theorem d_Ru_hasProgramOf_17 : decode b_Ru_hasProgramOf 17 = .ok (.getfield 19, 3) := by decide +kernel
theorem d_Ru_hasProgramOf_20 : decode b_Ru_hasProgramOf 20 = .ok (.if_icmp .ge 48, 3) := by decide +kernel
theorem d_Ru_hasProgramOf_23 : decode b_Ru_hasProgramOf 23 = .ok (.iload_n 2, 1) := by decide +kernel
theorem d_Ru_hasProgramOf_24 : decode b_Ru_hasProgramOf 24 = .ok (.bipush 12, 2) := by decide +kernel
theorem d_Ru_hasProgramOf_26 : decode b_Ru_hasProgramOf 26 = .ok (.if_icmp .ge 42, 3) := by decide +kernel
theorem d_Ru_hasProgramOf_29 : decode b_Ru_hasProgramOf 29 = .ok (.aload_n 0, 1) := by decide +kernel
theorem d_Ru_hasProgramOf_30 : decode b_Ru_hasProgramOf 30 = .ok (.getfield 9, 3) := by decide +kernel
theorem d_Ru_hasProgramOf_33 : decode b_Ru_hasProgramOf 33 = .ok (.iload_n 2, 1) := by decide +kernel
theorem d_Ru_hasProgramOf_34 : decode b_Ru_hasProgramOf 34 = .ok (.iaload, 1) := by decide +kernel
theorem d_Ru_hasProgramOf_35 : decode b_Ru_hasProgramOf 35 = .ok (.aload_n 1, 1) := by decide +kernel
theorem d_Ru_hasProgramOf_36 : decode b_Ru_hasProgramOf 36 = .ok (.getfield 9, 3) := by decide +kernel
theorem d_Ru_hasProgramOf_39 : decode b_Ru_hasProgramOf 39 = .ok (.iload_n 2, 1) := by decide +kernel
theorem d_Ru_hasProgramOf_40 : decode b_Ru_hasProgramOf 40 = .ok (.iaload, 1) := by decide +kernel
theorem d_Ru_hasProgramOf_41 : decode b_Ru_hasProgramOf 41 = .ok (.if_icmp .ne 19, 3) := by decide +kernel
theorem d_Ru_hasProgramOf_44 : decode b_Ru_hasProgramOf 44 = .ok (.aload_n 0, 1) := by decide +kernel
theorem d_Ru_hasProgramOf_45 : decode b_Ru_hasProgramOf 45 = .ok (.getfield 15, 3) := by decide +kernel
theorem d_Ru_hasProgramOf_48 : decode b_Ru_hasProgramOf 48 = .ok (.iload_n 2, 1) := by decide +kernel
theorem d_Ru_hasProgramOf_49 : decode b_Ru_hasProgramOf 49 = .ok (.laload, 1) := by decide +kernel
theorem d_Ru_hasProgramOf_50 : decode b_Ru_hasProgramOf 50 = .ok (.aload_n 1, 1) := by decide +kernel
theorem d_Ru_hasProgramOf_51 : decode b_Ru_hasProgramOf 51 = .ok (.getfield 15, 3) := by decide +kernel
theorem d_Ru_hasProgramOf_54 : decode b_Ru_hasProgramOf 54 = .ok (.iload_n 2, 1) := by decide +kernel
theorem d_Ru_hasProgramOf_55 : decode b_Ru_hasProgramOf 55 = .ok (.laload, 1) := by decide +kernel
theorem d_Ru_hasProgramOf_56 : decode b_Ru_hasProgramOf 56 = .ok (.lcmp, 1) := by decide +kernel
theorem d_Ru_hasProgramOf_57 : decode b_Ru_hasProgramOf 57 = .ok (.ifCond .eq 5, 3) := by decide +kernel
theorem d_Ru_hasProgramOf_60 : decode b_Ru_hasProgramOf 60 = .ok (.iconst 0, 1) := by decide +kernel
theorem d_Ru_hasProgramOf_61 : decode b_Ru_hasProgramOf 61 = .ok (.ireturn, 1) := by decide +kernel
theorem d_Ru_hasProgramOf_62 : decode b_Ru_hasProgramOf 62 = .ok (.iinc 2 1, 3) := by decide +kernel
theorem d_Ru_hasProgramOf_65 : decode b_Ru_hasProgramOf 65 = .ok (.goto (-50), 3) := by decide +kernel
theorem d_Ru_hasProgramOf_68 : decode b_Ru_hasProgramOf 68 = .ok (.iconst 1, 1) := by decide +kernel
theorem d_Ru_hasProgramOf_69 : decode b_Ru_hasProgramOf 69 = .ok (.ireturn, 1) := by decide +kernel
theorem d_Rn_init_0 : decode b_Rn_init 0 = .ok (.aload_n 0, 1) := by decide +kernel
theorem d_Rn_init_1 : decode b_Rn_init 1 = .ok (.invokespecial 3, 3) := by decide +kernel
theorem d_Rn_init_4 : decode b_Rn_init 4 = .ok (.aload_n 0, 1) := by decide +kernel
theorem d_Rn_init_5 : decode b_Rn_init 5 = .ok (.bipush 8, 2) := by decide +kernel
theorem d_Rn_init_7 : decode b_Rn_init 7 = .ok (.newarray .long, 2) := by decide +kernel
theorem d_Rn_init_9 : decode b_Rn_init 9 = .ok (.putfield 9, 3) := by decide +kernel
theorem d_Rn_init_12 : decode b_Rn_init 12 = .ok (.aload_n 0, 1) := by decide +kernel
theorem d_Rn_init_13 : decode b_Rn_init 13 = .ok (.bipush 8, 2) := by decide +kernel
theorem d_Rn_init_15 : decode b_Rn_init 15 = .ok (.newarray .long, 2) := by decide +kernel
theorem d_Rn_init_17 : decode b_Rn_init 17 = .ok (.putfield 15, 3) := by decide +kernel
theorem d_Rn_init_20 : decode b_Rn_init 20 = .ok (.aload_n 0, 1) := by decide +kernel
theorem d_Rn_init_21 : decode b_Rn_init 21 = .ok (.bipush 16, 2) := by decide +kernel
theorem d_Rn_init_23 : decode b_Rn_init 23 = .ok (.newarray .int, 2) := by decide +kernel
theorem d_Rn_init_25 : decode b_Rn_init 25 = .ok (.putfield 18, 3) := by decide +kernel
theorem d_Rn_init_28 : decode b_Rn_init 28 = .ok (.aload_n 0, 1) := by decide +kernel
theorem d_Rn_init_29 : decode b_Rn_init 29 = .ok (.new 22, 3) := by decide +kernel
theorem d_Rn_init_32 : decode b_Rn_init 32 = .ok (.dup, 1) := by decide +kernel
theorem d_Rn_init_33 : decode b_Rn_init 33 = .ok (.invokespecial 24, 3) := by decide +kernel
theorem d_Rn_init_36 : decode b_Rn_init 36 = .ok (.putfield 25, 3) := by decide +kernel
theorem d_Rn_init_39 : decode b_Rn_init 39 = .ok (.aload_n 0, 1) := by decide +kernel
theorem d_Rn_init_40 : decode b_Rn_init 40 = .ok (.iconst 0, 1) := by decide +kernel
theorem d_Rn_init_41 : decode b_Rn_init 41 = .ok (.putfield 29, 3) := by decide +kernel
theorem d_Rn_init_44 : decode b_Rn_init 44 = .ok (.aload_n 0, 1) := by decide +kernel
theorem d_Rn_init_45 : decode b_Rn_init 45 = .ok (.iconst 0, 1) := by decide +kernel
theorem d_Rn_init_46 : decode b_Rn_init 46 = .ok (.putfield 33, 3) := by decide +kernel
theorem d_Rn_init_49 : decode b_Rn_init 49 = .ok (.aload_n 0, 1) := by decide +kernel
theorem d_Rn_init_50 : decode b_Rn_init 50 = .ok (.iconst 0, 1) := by decide +kernel
theorem d_Rn_init_51 : decode b_Rn_init 51 = .ok (.putfield 36, 3) := by decide +kernel
theorem d_Rn_init_54 : decode b_Rn_init 54 = .ok (.aload_n 0, 1) := by decide +kernel
theorem d_Rn_init_55 : decode b_Rn_init 55 = .ok (.iconst 0, 1) := by decide +kernel
theorem d_Rn_init_56 : decode b_Rn_init 56 = .ok (.putfield 39, 3) := by decide +kernel
theorem d_Rn_init_59 : decode b_Rn_init 59 = .ok (.aload_n 0, 1) := by decide +kernel
theorem d_Rn_init_60 : decode b_Rn_init 60 = .ok (.lconst 0, 1) := by decide +kernel
theorem d_Rn_init_61 : decode b_Rn_init 61 = .ok (.putfield 42, 3) := by decide +kernel
theorem d_Rn_init_64 : decode b_Rn_init 64 = .ok (.return_, 1) := by decide +kernel
theorem d_Rn_run_0 : decode b_Rn_run 0 = .ok (.aload_n 0, 1) := by decide +kernel
theorem d_Rn_run_1 : decode b_Rn_run 1 = .ok (.aload_n 1, 1) := by decide +kernel
theorem d_Rn_run_2 : decode b_Rn_run 2 = .ok (.invokevirtual 46, 3) := by decide +kernel
theorem d_Rn_run_5 : decode b_Rn_run 5 = .ok (.iconst 0, 1) := by decide +kernel
theorem d_Rn_run_6 : decode b_Rn_run 6 = .ok (.istore_n 3, 1) := by decide +kernel
theorem d_Rn_run_7 : decode b_Rn_run 7 = .ok (.iload_n 3, 1) := by decide +kernel
theorem d_Rn_run_8 : decode b_Rn_run 8 = .ok (.iload_n 2, 1) := by decide +kernel
theorem d_Rn_run_9 : decode b_Rn_run 9 = .ok (.if_icmp .ge 47, 3) := by decide +kernel
theorem d_Rn_run_12 : decode b_Rn_run 12 = .ok (.aload_n 0, 1) := by decide +kernel
theorem d_Rn_run_13 : decode b_Rn_run 13 = .ok (.getfield 39, 3) := by decide +kernel
theorem d_Rn_run_16 : decode b_Rn_run 16 = .ok (.ifCond .ne 40, 3) := by decide +kernel
theorem d_Rn_run_19 : decode b_Rn_run 19 = .ok (.aload_n 0, 1) := by decide +kernel
theorem d_Rn_run_20 : decode b_Rn_run 20 = .ok (.aload_n 1, 1) := by decide +kernel
theorem d_Rn_run_21 : decode b_Rn_run 21 = .ok (.invokevirtual 50, 3) := by decide +kernel
theorem d_Rn_run_24 : decode b_Rn_run 24 = .ok (.ifCond .eq 32, 3) := by decide +kernel
theorem d_Rn_run_27 : decode b_Rn_run 27 = .ok (.aload_n 0, 1) := by decide +kernel
theorem d_Rn_run_28 : decode b_Rn_run 28 = .ok (.aload_n 1, 1) := by decide +kernel
theorem d_Rn_run_29 : decode b_Rn_run 29 = .ok (.aload_n 1, 1) := by decide +kernel
theorem d_Rn_run_30 : decode b_Rn_run 30 = .ok (.getfield 54, 3) := by decide +kernel
theorem d_Rn_run_33 : decode b_Rn_run 33 = .ok (.aload_n 0, 1) := by decide +kernel
theorem d_Rn_run_34 : decode b_Rn_run 34 = .ok (.getfield 36, 3) := by decide +kernel
theorem d_Rn_run_37 : decode b_Rn_run 37 = .ok (.iaload, 1) := by decide +kernel
theorem d_Rn_run_38 : decode b_Rn_run 38 = .ok (.aload_n 1, 1) := by decide +kernel
theorem d_Rn_run_39 : decode b_Rn_run 39 = .ok (.getfield 59, 3) := by decide +kernel
theorem d_Rn_run_42 : decode b_Rn_run 42 = .ok (.aload_n 0, 1) := by decide +kernel
theorem d_Rn_run_43 : decode b_Rn_run 43 = .ok (.getfield 36, 3) := by decide +kernel
theorem d_Rn_run_46 : decode b_Rn_run 46 = .ok (.laload, 1) := by decide +kernel
theorem d_Rn_run_47 : decode b_Rn_run 47 = .ok (.invokevirtual 62, 3) := by decide +kernel
theorem d_Rn_run_50 : decode b_Rn_run 50 = .ok (.iinc 3 1, 3) := by decide +kernel
theorem d_Rn_run_53 : decode b_Rn_run 53 = .ok (.goto (-46), 3) := by decide +kernel
theorem d_Rn_run_56 : decode b_Rn_run 56 = .ok (.aload_n 0, 1) := by decide +kernel
theorem d_Rn_run_57 : decode b_Rn_run 57 = .ok (.getfield 39, 3) := by decide +kernel
theorem d_Rn_run_60 : decode b_Rn_run 60 = .ok (.ifCond .ne 16, 3) := by decide +kernel
theorem d_Rn_run_63 : decode b_Rn_run 63 = .ok (.aload_n 0, 1) := by decide +kernel
theorem d_Rn_run_64 : decode b_Rn_run 64 = .ok (.aload_n 1, 1) := by decide +kernel
theorem d_Rn_run_65 : decode b_Rn_run 65 = .ok (.invokevirtual 50, 3) := by decide +kernel
theorem d_Rn_run_68 : decode b_Rn_run 68 = .ok (.ifCond .eq 8, 3) := by decide +kernel
theorem d_Rn_run_71 : decode b_Rn_run 71 = .ok (.aload_n 0, 1) := by decide +kernel
theorem d_Rn_run_72 : decode b_Rn_run 72 = .ok (.iconst 1, 1) := by decide +kernel
theorem d_Rn_run_73 : decode b_Rn_run 73 = .ok (.putfield 39, 3) := by decide +kernel
theorem d_Rn_run_76 : decode b_Rn_run 76 = .ok (.iload_n 3, 1) := by decide +kernel
theorem d_Rn_run_77 : decode b_Rn_run 77 = .ok (.ireturn, 1) := by decide +kernel
theorem d_Rn_begin_0 : decode b_Rn_begin 0 = .ok (.aload_n 0, 1) := by decide +kernel
theorem d_Rn_begin_1 : decode b_Rn_begin 1 = .ok (.getfield 25, 3) := by decide +kernel
theorem d_Rn_begin_4 : decode b_Rn_begin 4 = .ok (.invokevirtual 66, 3) := by decide +kernel
theorem d_Rn_begin_7 : decode b_Rn_begin 7 = .ok (.aload_n 0, 1) := by decide +kernel
theorem d_Rn_begin_8 : decode b_Rn_begin 8 = .ok (.iconst 0, 1) := by decide +kernel
theorem d_Rn_begin_9 : decode b_Rn_begin 9 = .ok (.putfield 33, 3) := by decide +kernel
theorem d_Rn_begin_12 : decode b_Rn_begin 12 = .ok (.aload_n 0, 1) := by decide +kernel
theorem d_Rn_begin_13 : decode b_Rn_begin 13 = .ok (.iconst 0, 1) := by decide +kernel
theorem d_Rn_begin_14 : decode b_Rn_begin 14 = .ok (.putfield 36, 3) := by decide +kernel
theorem d_Rn_begin_17 : decode b_Rn_begin 17 = .ok (.aload_n 0, 1) := by decide +kernel
theorem d_Rn_begin_18 : decode b_Rn_begin 18 = .ok (.iconst 0, 1) := by decide +kernel
theorem d_Rn_begin_19 : decode b_Rn_begin 19 = .ok (.putfield 39, 3) := by decide +kernel
theorem d_Rn_begin_22 : decode b_Rn_begin 22 = .ok (.aload_n 0, 1) := by decide +kernel
theorem d_Rn_begin_23 : decode b_Rn_begin 23 = .ok (.aload_n 1, 1) := by decide +kernel
theorem d_Rn_begin_24 : decode b_Rn_begin 24 = .ok (.getfield 69, 3) := by decide +kernel
theorem d_Rn_begin_27 : decode b_Rn_begin 27 = .ok (.putfield 42, 3) := by decide +kernel
theorem d_Rn_begin_30 : decode b_Rn_begin 30 = .ok (.return_, 1) := by decide +kernel
theorem d_Rn_isInside_0 : decode b_Rn_isInside 0 = .ok (.aload_n 0, 1) := by decide +kernel
theorem d_Rn_isInside_1 : decode b_Rn_isInside 1 = .ok (.getfield 36, 3) := by decide +kernel
theorem d_Rn_isInside_4 : decode b_Rn_isInside 4 = .ok (.ifCond .lt 27, 3) := by decide +kernel
theorem d_Rn_isInside_7 : decode b_Rn_isInside 7 = .ok (.aload_n 0, 1) := by decide +kernel
theorem d_Rn_isInside_8 : decode b_Rn_isInside 8 = .ok (.getfield 36, 3) := by decide +kernel
theorem d_Rn_isInside_11 : decode b_Rn_isInside 11 = .ok (.aload_n 1, 1) := by decide +kernel
theorem d_Rn_isInside_12 : decode b_Rn_isInside 12 = .ok (.getfield 70, 3) := by decide +kernel
theorem d_Rn_isInside_15 : decode b_Rn_isInside 15 = .ok (.if_icmp .ge 16, 3) := by decide +kernel
theorem d_Rn_isInside_18 : decode b_Rn_isInside 18 = .ok (.aload_n 0, 1) := by decide +kernel
theorem d_Rn_isInside_19 : decode b_Rn_isInside 19 = .ok (.getfield 36, 3) := by decide +kernel
theorem d_Rn_isInside_22 : decode b_Rn_isInside 22 = .ok (.bipush 12, 2) := by decide +kernel
theorem d_Rn_isInside_24 : decode b_Rn_isInside 24 = .ok (.if_icmp .ge 7, 3) := by decide +kernel
theorem d_Rn_isInside_27 : decode b_Rn_isInside 27 = .ok (.iconst 1, 1) := by decide +kernel
theorem d_Rn_isInside_28 : decode b_Rn_isInside 28 = .ok (.goto 4, 3) := by decide +kernel
theorem d_Rn_isInside_31 : decode b_Rn_isInside 31 = .ok (.iconst 0, 1) := by decide +kernel
theorem d_Rn_isInside_32 : decode b_Rn_isInside 32 = .ok (.ireturn, 1) := by decide +kernel
theorem d_Rn_perform_0 : decode b_Rn_perform 0 = .ok (.aload_n 0, 1) := by decide +kernel
theorem d_Rn_perform_1 : decode b_Rn_perform 1 = .ok (.aload_n 0, 1) := by decide +kernel
theorem d_Rn_perform_2 : decode b_Rn_perform 2 = .ok (.iload_n 2, 1) := by decide +kernel
theorem d_Rn_perform_3 : decode b_Rn_perform 3 = .ok (.invokevirtual 73, 3) := by decide +kernel
theorem d_Rn_perform_6 : decode b_Rn_perform 6 = .ok (.putfield 39, 3) := by decide +kernel
theorem d_Rn_perform_9 : decode b_Rn_perform 9 = .ok (.aload_n 0, 1) := by decide +kernel
theorem d_Rn_perform_10 : decode b_Rn_perform 10 = .ok (.getfield 39, 3) := by decide +kernel
theorem d_Rn_perform_13 : decode b_Rn_perform 13 = .ok (.ifCond .eq 4, 3) := by decide +kernel
theorem d_Rn_perform_16 : decode b_Rn_perform 16 = .ok (.return_, 1) := by decide +kernel
theorem d_Rn_perform_17 : decode b_Rn_perform 17 = .ok (.aload_n 0, 1) := by decide +kernel
theorem d_Rn_perform_18 : decode b_Rn_perform 18 = .ok (.getfield 36, 3) := by decide +kernel
theorem d_Rn_perform_21 : decode b_Rn_perform 21 = .ok (.istore 5, 2) := by decide +kernel
theorem d_Rn_perform_23 : decode b_Rn_perform 23 = .ok (.aload_n 0, 1) := by decide +kernel
theorem d_Rn_perform_24 : decode b_Rn_perform 24 = .ok (.dup, 1) := by decide +kernel
theorem d_Rn_perform_25 : decode b_Rn_perform 25 = .ok (.getfield 36, 3) := by decide +kernel
theorem d_Rn_perform_28 : decode b_Rn_perform 28 = .ok (.iconst 1, 1) := by decide +kernel
theorem d_Rn_perform_29 : decode b_Rn_perform 29 = .ok (.iadd, 1) := by decide +kernel
theorem d_Rn_perform_30 : decode b_Rn_perform 30 = .ok (.putfield 36, 3) := by decide +kernel
theorem d_Rn_perform_33 : decode b_Rn_perform 33 = .ok (.iload_n 2, 1) := by decide +kernel
theorem d_Rn_perform_34 : decode b_Rn_perform 34 = .ok (.invokestatic 77, 3) := by decide +kernel
theorem d_Rn_perform_37 : decode b_Rn_perform 37 = .ok (.ifCond .eq 28, 3) := by decide +kernel
theorem d_Rn_perform_40 : decode b_Rn_perform 40 = .ok (.aload_n 0, 1) := by decide +kernel
theorem d_Rn_perform_41 : decode b_Rn_perform 41 = .ok (.invokevirtual 81, 3) := by decide +kernel
theorem d_Rn_perform_44 : decode b_Rn_perform 44 = .ok (.lstore 6, 2) := by decide +kernel
theorem d_Rn_perform_46 : decode b_Rn_perform 46 = .ok (.aload_n 0, 1) := by decide +kernel
theorem d_Rn_perform_47 : decode b_Rn_perform 47 = .ok (.invokevirtual 81, 3) := by decide +kernel
theorem d_Rn_perform_50 : decode b_Rn_perform 50 = .ok (.lstore 8, 2) := by decide +kernel
theorem d_Rn_perform_52 : decode b_Rn_perform 52 = .ok (.aload_n 0, 1) := by decide +kernel
theorem d_Rn_perform_53 : decode b_Rn_perform 53 = .ok (.iload_n 2, 1) := by decide +kernel
theorem d_Rn_perform_54 : decode b_Rn_perform 54 = .ok (.lload 8, 2) := by decide +kernel
theorem d_Rn_perform_56 : decode b_Rn_perform 56 = .ok (.lload 6, 2) := by decide +kernel
theorem d_Rn_perform_58 : decode b_Rn_perform 58 = .ok (.invokestatic 85, 3) := by decide +kernel
theorem d_Rn_perform_61 : decode b_Rn_perform 61 = .ok (.invokevirtual 89, 3) := by decide +kernel
theorem d_Rn_perform_64 : decode b_Rn_perform 64 = .ok (.return_, 1) := by decide +kernel
theorem d_Rn_perform_65 : decode b_Rn_perform 65 = .ok (.iload_n 2, 1) := by decide +kernel
theorem d_Rn_perform_66 : decode b_Rn_perform 66 = .ok (.tableswitch 227 0 15 #[78, 86, 227, 227, 227, 227, 227, 227, 98, 119, 153, 172, 188, 199, 212, 227], 78) := by decide +kernel
theorem d_Rn_perform_144 : decode b_Rn_perform 144 = .ok (.aload_n 0, 1) := by decide +kernel
theorem d_Rn_perform_145 : decode b_Rn_perform 145 = .ok (.lload_n 3, 1) := by decide +kernel
theorem d_Rn_perform_146 : decode b_Rn_perform 146 = .ok (.invokevirtual 89, 3) := by decide +kernel
theorem d_Rn_perform_149 : decode b_Rn_perform 149 = .ok (.goto 152, 3) := by decide +kernel
theorem d_Rn_perform_152 : decode b_Rn_perform 152 = .ok (.aload_n 0, 1) := by decide +kernel
theorem d_Rn_perform_153 : decode b_Rn_perform 153 = .ok (.aload_n 0, 1) := by decide +kernel
theorem d_Rn_perform_154 : decode b_Rn_perform 154 = .ok (.lload_n 3, 1) := by decide +kernel
theorem d_Rn_perform_155 : decode b_Rn_perform 155 = .ok (.invokevirtual 93, 3) := by decide +kernel
theorem d_Rn_perform_158 : decode b_Rn_perform 158 = .ok (.invokevirtual 89, 3) := by decide +kernel
theorem d_Rn_perform_161 : decode b_Rn_perform 161 = .ok (.goto 140, 3) := by decide +kernel
theorem d_Rn_perform_164 : decode b_Rn_perform 164 = .ok (.aload_n 0, 1) := by decide +kernel
theorem d_Rn_perform_165 : decode b_Rn_perform 165 = .ok (.aload_n 0, 1) := by decide +kernel
theorem d_Rn_perform_166 : decode b_Rn_perform 166 = .ok (.invokevirtual 81, 3) := by decide +kernel
theorem d_Rn_perform_169 : decode b_Rn_perform 169 = .ok (.lconst 0, 1) := by decide +kernel
theorem d_Rn_perform_170 : decode b_Rn_perform 170 = .ok (.lcmp, 1) := by decide +kernel
theorem d_Rn_perform_171 : decode b_Rn_perform 171 = .ok (.ifCond .ne 7, 3) := by decide +kernel
theorem d_Rn_perform_174 : decode b_Rn_perform 174 = .ok (.lconst 1, 1) := by decide +kernel
theorem d_Rn_perform_175 : decode b_Rn_perform 175 = .ok (.goto 4, 3) := by decide +kernel
theorem d_Rn_perform_178 : decode b_Rn_perform 178 = .ok (.lconst 0, 1) := by decide +kernel
theorem d_Rn_perform_179 : decode b_Rn_perform 179 = .ok (.invokevirtual 89, 3) := by decide +kernel
theorem d_Rn_perform_182 : decode b_Rn_perform 182 = .ok (.goto 119, 3) := by decide +kernel
theorem d_Rn_perform_185 : decode b_Rn_perform 185 = .ok (.aload_n 0, 1) := by decide +kernel
theorem d_Rn_perform_186 : decode b_Rn_perform 186 = .ok (.invokevirtual 81, 3) := by decide +kernel
theorem d_Rn_perform_189 : decode b_Rn_perform 189 = .ok (.lconst 0, 1) := by decide +kernel
theorem d_Rn_perform_190 : decode b_Rn_perform 190 = .ok (.lcmp, 1) := by decide +kernel
theorem d_Rn_perform_191 : decode b_Rn_perform 191 = .ok (.ifCond .ne 110, 3) := by decide +kernel
theorem d_Rn_perform_194 : decode b_Rn_perform 194 = .ok (.aload_n 0, 1) := by decide +kernel
theorem d_Rn_perform_195 : decode b_Rn_perform 195 = .ok (.lconst 0, 1) := by decide +kernel
theorem d_Rn_perform_196 : decode b_Rn_perform 196 = .ok (.aload_n 1, 1) := by decide +kernel
theorem d_Rn_perform_197 : decode b_Rn_perform 197 = .ok (.getfield 70, 3) := by decide +kernel
theorem d_Rn_perform_200 : decode b_Rn_perform 200 = .ok (.i2l, 1) := by decide +kernel
theorem d_Rn_perform_201 : decode b_Rn_perform 201 = .ok (.iload 5, 2) := by decide +kernel
theorem d_Rn_perform_203 : decode b_Rn_perform 203 = .ok (.i2l, 1) := by decide +kernel
theorem d_Rn_perform_204 : decode b_Rn_perform 204 = .ok (.lload_n 3, 1) := by decide +kernel
theorem d_Rn_perform_205 : decode b_Rn_perform 205 = .ok (.ladd, 1) := by decide +kernel
theorem d_Rn_perform_206 : decode b_Rn_perform 206 = .ok (.invokestatic 97, 3) := by decide +kernel
theorem d_Rn_perform_209 : decode b_Rn_perform 209 = .ok (.invokestatic 103, 3) := by decide +kernel
theorem d_Rn_perform_212 : decode b_Rn_perform 212 = .ok (.l2i, 1) := by decide +kernel
theorem d_Rn_perform_213 : decode b_Rn_perform 213 = .ok (.putfield 36, 3) := by decide +kernel
theorem d_Rn_perform_216 : decode b_Rn_perform 216 = .ok (.goto 85, 3) := by decide +kernel
theorem d_Rn_perform_219 : decode b_Rn_perform 219 = .ok (.aload_n 0, 1) := by decide +kernel
theorem d_Rn_perform_220 : decode b_Rn_perform 220 = .ok (.getfield 25, 3) := by decide +kernel
theorem d_Rn_perform_223 : decode b_Rn_perform 223 = .ok (.lload_n 3, 1) := by decide +kernel
theorem d_Rn_perform_224 : decode b_Rn_perform 224 = .ok (.aload_n 0, 1) := by decide +kernel
theorem d_Rn_perform_225 : decode b_Rn_perform 225 = .ok (.invokevirtual 81, 3) := by decide +kernel
theorem d_Rn_perform_228 : decode b_Rn_perform 228 = .ok (.aload_n 1, 1) := by decide +kernel
theorem d_Rn_perform_229 : decode b_Rn_perform 229 = .ok (.getfield 106, 3) := by decide +kernel
theorem d_Rn_perform_232 : decode b_Rn_perform 232 = .ok (.invokevirtual 109, 3) := by decide +kernel
theorem d_Rn_perform_235 : decode b_Rn_perform 235 = .ok (.goto 66, 3) := by decide +kernel
theorem d_Rn_perform_238 : decode b_Rn_perform 238 = .ok (.aload_n 0, 1) := by decide +kernel
theorem d_Rn_perform_239 : decode b_Rn_perform 239 = .ok (.dup, 1) := by decide +kernel
theorem d_Rn_perform_240 : decode b_Rn_perform 240 = .ok (.getfield 42, 3) := by decide +kernel
theorem d_Rn_perform_243 : decode b_Rn_perform 243 = .ok (.aload_n 0, 1) := by decide +kernel
theorem d_Rn_perform_244 : decode b_Rn_perform 244 = .ok (.invokevirtual 81, 3) := by decide +kernel
theorem d_Rn_perform_247 : decode b_Rn_perform 247 = .ok (.ladd, 1) := by decide +kernel
theorem d_Rn_perform_248 : decode b_Rn_perform 248 = .ok (.putfield 42, 3) := by decide +kernel
theorem d_Rn_perform_251 : decode b_Rn_perform 251 = .ok (.goto 50, 3) := by decide +kernel
theorem d_Rn_perform_254 : decode b_Rn_perform 254 = .ok (.aload_n 0, 1) := by decide +kernel
theorem d_Rn_perform_255 : decode b_Rn_perform 255 = .ok (.aload_n 0, 1) := by decide +kernel
theorem d_Rn_perform_256 : decode b_Rn_perform 256 = .ok (.getfield 42, 3) := by decide +kernel
theorem d_Rn_perform_259 : decode b_Rn_perform 259 = .ok (.invokevirtual 89, 3) := by decide +kernel
theorem d_Rn_perform_262 : decode b_Rn_perform 262 = .ok (.goto 39, 3) := by decide +kernel
theorem d_Rn_perform_265 : decode b_Rn_perform 265 = .ok (.aload_n 0, 1) := by decide +kernel
theorem d_Rn_perform_266 : decode b_Rn_perform 266 = .ok (.aload_n 0, 1) := by decide +kernel
theorem d_Rn_perform_267 : decode b_Rn_perform 267 = .ok (.lload_n 3, 1) := by decide +kernel
theorem d_Rn_perform_268 : decode b_Rn_perform 268 = .ok (.invokevirtual 113, 3) := by decide +kernel
theorem d_Rn_perform_271 : decode b_Rn_perform 271 = .ok (.i2l, 1) := by decide +kernel
theorem d_Rn_perform_272 : decode b_Rn_perform 272 = .ok (.invokevirtual 89, 3) := by decide +kernel
theorem d_Rn_perform_275 : decode b_Rn_perform 275 = .ok (.goto 26, 3) := by decide +kernel
theorem d_Rn_perform_278 : decode b_Rn_perform 278 = .ok (.aload_n 0, 1) := by decide +kernel
theorem d_Rn_perform_279 : decode b_Rn_perform 279 = .ok (.aload_n 0, 1) := by decide +kernel
theorem d_Rn_perform_280 : decode b_Rn_perform 280 = .ok (.aload_n 0, 1) := by decide +kernel
theorem d_Rn_perform_281 : decode b_Rn_perform 281 = .ok (.invokevirtual 81, 3) := by decide +kernel
theorem d_Rn_perform_284 : decode b_Rn_perform 284 = .ok (.invokevirtual 117, 3) := by decide +kernel
theorem d_Rn_perform_287 : decode b_Rn_perform 287 = .ok (.invokevirtual 89, 3) := by decide +kernel
theorem d_Rn_perform_290 : decode b_Rn_perform 290 = .ok (.goto 11, 3) := by decide +kernel
theorem d_Rn_perform_293 : decode b_Rn_perform 293 = .ok (.aload_n 0, 1) := by decide +kernel
theorem d_Rn_perform_294 : decode b_Rn_perform 294 = .ok (.aload_n 1, 1) := by decide +kernel
theorem d_Rn_perform_295 : decode b_Rn_perform 295 = .ok (.getfield 70, 3) := by decide +kernel
theorem d_Rn_perform_298 : decode b_Rn_perform 298 = .ok (.putfield 36, 3) := by decide +kernel
theorem d_Rn_perform_301 : decode b_Rn_perform 301 = .ok (.return_, 1) := by decide +kernel
theorem d_Rn_faultOf_0 : decode b_Rn_faultOf 0 = .ok (.aload_n 0, 1) := by decide +kernel
theorem d_Rn_faultOf_1 : decode b_Rn_faultOf 1 = .ok (.getfield 33, 3) := by decide +kernel
theorem d_Rn_faultOf_4 : decode b_Rn_faultOf 4 = .ok (.iload_n 1, 1) := by decide +kernel
theorem d_Rn_faultOf_5 : decode b_Rn_faultOf 5 = .ok (.invokestatic 120, 3) := by decide +kernel
theorem d_Rn_faultOf_8 : decode b_Rn_faultOf 8 = .ok (.isub, 1) := by decide +kernel
theorem d_Rn_faultOf_9 : decode b_Rn_faultOf 9 = .ok (.istore_n 2, 1) := by decide +kernel
theorem d_Rn_faultOf_10 : decode b_Rn_faultOf 10 = .ok (.iload_n 2, 1) := by decide +kernel
theorem d_Rn_faultOf_11 : decode b_Rn_faultOf 11 = .ok (.ifCond .lt 14, 3) := by decide +kernel
theorem d_Rn_faultOf_14 : decode b_Rn_faultOf 14 = .ok (.iload_n 2, 1) := by decide +kernel
theorem d_Rn_faultOf_15 : decode b_Rn_faultOf 15 = .ok (.iload_n 1, 1) := by decide +kernel
theorem d_Rn_faultOf_16 : decode b_Rn_faultOf 16 = .ok (.invokestatic 123, 3) := by decide +kernel
theorem d_Rn_faultOf_19 : decode b_Rn_faultOf 19 = .ok (.iadd, 1) := by decide +kernel
theorem d_Rn_faultOf_20 : decode b_Rn_faultOf 20 = .ok (.bipush 8, 2) := by decide +kernel
theorem d_Rn_faultOf_22 : decode b_Rn_faultOf 22 = .ok (.if_icmp .le 5, 3) := by decide +kernel
theorem d_Rn_faultOf_25 : decode b_Rn_faultOf 25 = .ok (.iconst 3, 1) := by decide +kernel
theorem d_Rn_faultOf_26 : decode b_Rn_faultOf 26 = .ok (.ireturn, 1) := by decide +kernel
theorem d_Rn_faultOf_27 : decode b_Rn_faultOf 27 = .ok (.iload_n 1, 1) := by decide +kernel
theorem d_Rn_faultOf_28 : decode b_Rn_faultOf 28 = .ok (.iconst 5, 1) := by decide +kernel
theorem d_Rn_faultOf_29 : decode b_Rn_faultOf 29 = .ok (.if_icmp .ne 14, 3) := by decide +kernel
theorem d_Rn_faultOf_32 : decode b_Rn_faultOf 32 = .ok (.aload_n 0, 1) := by decide +kernel
theorem d_Rn_faultOf_33 : decode b_Rn_faultOf 33 = .ok (.invokevirtual 126, 3) := by decide +kernel
theorem d_Rn_faultOf_36 : decode b_Rn_faultOf 36 = .ok (.lconst 0, 1) := by decide +kernel
theorem d_Rn_faultOf_37 : decode b_Rn_faultOf 37 = .ok (.lcmp, 1) := by decide +kernel
theorem d_Rn_faultOf_38 : decode b_Rn_faultOf 38 = .ok (.ifCond .ne 5, 3) := by decide +kernel
theorem d_Rn_faultOf_41 : decode b_Rn_faultOf 41 = .ok (.iconst 2, 1) := by decide +kernel
theorem d_Rn_faultOf_42 : decode b_Rn_faultOf 42 = .ok (.ireturn, 1) := by decide +kernel
theorem d_Rn_faultOf_43 : decode b_Rn_faultOf 43 = .ok (.iload_n 1, 1) := by decide +kernel
theorem d_Rn_faultOf_44 : decode b_Rn_faultOf 44 = .ok (.bipush 13, 2) := by decide +kernel
theorem d_Rn_faultOf_46 : decode b_Rn_faultOf 46 = .ok (.if_icmp .ne 16, 3) := by decide +kernel
theorem d_Rn_faultOf_49 : decode b_Rn_faultOf 49 = .ok (.aload_n 0, 1) := by decide +kernel
theorem d_Rn_faultOf_50 : decode b_Rn_faultOf 50 = .ok (.getfield 29, 3) := by decide +kernel
theorem d_Rn_faultOf_53 : decode b_Rn_faultOf 53 = .ok (.bipush 16, 2) := by decide +kernel
theorem d_Rn_faultOf_55 : decode b_Rn_faultOf 55 = .ok (.if_icmp .lt 7, 3) := by decide +kernel
theorem d_Rn_faultOf_58 : decode b_Rn_faultOf 58 = .ok (.iconst 1, 1) := by decide +kernel
theorem d_Rn_faultOf_59 : decode b_Rn_faultOf 59 = .ok (.goto 4, 3) := by decide +kernel
theorem d_Rn_faultOf_62 : decode b_Rn_faultOf 62 = .ok (.iconst 0, 1) := by decide +kernel
theorem d_Rn_faultOf_63 : decode b_Rn_faultOf 63 = .ok (.istore_n 3, 1) := by decide +kernel
theorem d_Rn_faultOf_64 : decode b_Rn_faultOf 64 = .ok (.iload_n 1, 1) := by decide +kernel
theorem d_Rn_faultOf_65 : decode b_Rn_faultOf 65 = .ok (.bipush 14, 2) := by decide +kernel
theorem d_Rn_faultOf_67 : decode b_Rn_faultOf 67 = .ok (.if_icmp .ne 25, 3) := by decide +kernel
theorem d_Rn_faultOf_70 : decode b_Rn_faultOf 70 = .ok (.aload_n 0, 1) := by decide +kernel
theorem d_Rn_faultOf_71 : decode b_Rn_faultOf 71 = .ok (.invokevirtual 126, 3) := by decide +kernel
theorem d_Rn_faultOf_74 : decode b_Rn_faultOf 74 = .ok (.lconst 0, 1) := by decide +kernel
theorem d_Rn_faultOf_75 : decode b_Rn_faultOf 75 = .ok (.aload_n 0, 1) := by decide +kernel
theorem d_Rn_faultOf_76 : decode b_Rn_faultOf 76 = .ok (.getfield 29, 3) := by decide +kernel
theorem d_Rn_faultOf_79 : decode b_Rn_faultOf 79 = .ok (.iconst 1, 1) := by decide +kernel
theorem d_Rn_faultOf_80 : decode b_Rn_faultOf 80 = .ok (.isub, 1) := by decide +kernel
theorem d_Rn_faultOf_81 : decode b_Rn_faultOf 81 = .ok (.i2l, 1) := by decide +kernel
theorem d_Rn_faultOf_82 : decode b_Rn_faultOf 82 = .ok (.invokestatic 129, 3) := by decide +kernel
theorem d_Rn_faultOf_85 : decode b_Rn_faultOf 85 = .ok (.ifCond .ne 7, 3) := by decide +kernel
theorem d_Rn_faultOf_88 : decode b_Rn_faultOf 88 = .ok (.iconst 1, 1) := by decide +kernel
theorem d_Rn_faultOf_89 : decode b_Rn_faultOf 89 = .ok (.goto 4, 3) := by decide +kernel
theorem d_Rn_faultOf_92 : decode b_Rn_faultOf 92 = .ok (.iconst 0, 1) := by decide +kernel
theorem d_Rn_faultOf_93 : decode b_Rn_faultOf 93 = .ok (.istore 4, 2) := by decide +kernel
theorem d_Rn_faultOf_95 : decode b_Rn_faultOf 95 = .ok (.iload_n 3, 1) := by decide +kernel
theorem d_Rn_faultOf_96 : decode b_Rn_faultOf 96 = .ok (.ifCond .ne 8, 3) := by decide +kernel
theorem d_Rn_faultOf_99 : decode b_Rn_faultOf 99 = .ok (.iload 4, 2) := by decide +kernel
theorem d_Rn_faultOf_101 : decode b_Rn_faultOf 101 = .ok (.ifCond .eq 7, 3) := by decide +kernel
theorem d_Rn_faultOf_104 : decode b_Rn_faultOf 104 = .ok (.iconst 4, 1) := by decide +kernel
theorem d_Rn_faultOf_105 : decode b_Rn_faultOf 105 = .ok (.goto 4, 3) := by decide +kernel
theorem d_Rn_faultOf_108 : decode b_Rn_faultOf 108 = .ok (.iconst 0, 1) := by decide +kernel
theorem d_Rn_faultOf_109 : decode b_Rn_faultOf 109 = .ok (.ireturn, 1) := by decide +kernel
theorem d_Rn_push_0 : decode b_Rn_push 0 = .ok (.aload_n 0, 1) := by decide +kernel
theorem d_Rn_push_1 : decode b_Rn_push 1 = .ok (.getfield 33, 3) := by decide +kernel
theorem d_Rn_push_4 : decode b_Rn_push 4 = .ok (.ifCond .lt 32, 3) := by decide +kernel
theorem d_Rn_push_7 : decode b_Rn_push 7 = .ok (.aload_n 0, 1) := by decide +kernel
theorem d_Rn_push_8 : decode b_Rn_push 8 = .ok (.getfield 33, 3) := by decide +kernel
theorem d_Rn_push_11 : decode b_Rn_push 11 = .ok (.bipush 8, 2) := by decide +kernel
theorem d_Rn_push_13 : decode b_Rn_push 13 = .ok (.if_icmp .ge 23, 3) := by decide +kernel
theorem d_Rn_push_16 : decode b_Rn_push 16 = .ok (.aload_n 0, 1) := by decide +kernel
theorem d_Rn_push_17 : decode b_Rn_push 17 = .ok (.getfield 15, 3) := by decide +kernel
theorem d_Rn_push_20 : decode b_Rn_push 20 = .ok (.aload_n 0, 1) := by decide +kernel
theorem d_Rn_push_21 : decode b_Rn_push 21 = .ok (.getfield 33, 3) := by decide +kernel
theorem d_Rn_push_24 : decode b_Rn_push 24 = .ok (.lload_n 1, 1) := by decide +kernel
theorem d_Rn_push_25 : decode b_Rn_push 25 = .ok (.lastore, 1) := by decide +kernel
theorem d_Rn_push_26 : decode b_Rn_push 26 = .ok (.aload_n 0, 1) := by decide +kernel
theorem d_Rn_push_27 : decode b_Rn_push 27 = .ok (.dup, 1) := by decide +kernel
theorem d_Rn_push_28 : decode b_Rn_push 28 = .ok (.getfield 33, 3) := by decide +kernel
theorem d_Rn_push_31 : decode b_Rn_push 31 = .ok (.iconst 1, 1) := by decide +kernel
theorem d_Rn_push_32 : decode b_Rn_push 32 = .ok (.iadd, 1) := by decide +kernel
theorem d_Rn_push_33 : decode b_Rn_push 33 = .ok (.putfield 33, 3) := by decide +kernel
theorem d_Rn_push_36 : decode b_Rn_push 36 = .ok (.return_, 1) := by decide +kernel
theorem d_Rn_pop_0 : decode b_Rn_pop 0 = .ok (.aload_n 0, 1) := by decide +kernel
theorem d_Rn_pop_1 : decode b_Rn_pop 1 = .ok (.invokevirtual 126, 3) := by decide +kernel
theorem d_Rn_pop_4 : decode b_Rn_pop 4 = .ok (.lstore_n 1, 1) := by decide +kernel
theorem d_Rn_pop_5 : decode b_Rn_pop 5 = .ok (.aload_n 0, 1) := by decide +kernel
theorem d_Rn_pop_6 : decode b_Rn_pop 6 = .ok (.getfield 33, 3) := by decide +kernel
theorem d_Rn_pop_9 : decode b_Rn_pop 9 = .ok (.ifCond .le 13, 3) := by decide +kernel
theorem d_Rn_pop_12 : decode b_Rn_pop 12 = .ok (.aload_n 0, 1) := by decide +kernel
theorem d_Rn_pop_13 : decode b_Rn_pop 13 = .ok (.dup, 1) := by decide +kernel
theorem d_Rn_pop_14 : decode b_Rn_pop 14 = .ok (.getfield 33, 3) := by decide +kernel
theorem d_Rn_pop_17 : decode b_Rn_pop 17 = .ok (.iconst 1, 1) := by decide +kernel
theorem d_Rn_pop_18 : decode b_Rn_pop 18 = .ok (.isub, 1) := by decide +kernel
theorem d_Rn_pop_19 : decode b_Rn_pop 19 = .ok (.putfield 33, 3) := by decide +kernel
theorem d_Rn_pop_22 : decode b_Rn_pop 22 = .ok (.lload_n 1, 1) := by decide +kernel
theorem d_Rn_pop_23 : decode b_Rn_pop 23 = .ok (.lreturn, 1) := by decide +kernel
theorem d_Rn_top_0 : decode b_Rn_top 0 = .ok (.aload_n 0, 1) := by decide +kernel
theorem d_Rn_top_1 : decode b_Rn_top 1 = .ok (.getfield 33, 3) := by decide +kernel
theorem d_Rn_top_4 : decode b_Rn_top 4 = .ok (.ifCond .le 26, 3) := by decide +kernel
theorem d_Rn_top_7 : decode b_Rn_top 7 = .ok (.aload_n 0, 1) := by decide +kernel
theorem d_Rn_top_8 : decode b_Rn_top 8 = .ok (.getfield 33, 3) := by decide +kernel
theorem d_Rn_top_11 : decode b_Rn_top 11 = .ok (.bipush 8, 2) := by decide +kernel
theorem d_Rn_top_13 : decode b_Rn_top 13 = .ok (.if_icmp .gt 17, 3) := by decide +kernel
theorem d_Rn_top_16 : decode b_Rn_top 16 = .ok (.aload_n 0, 1) := by decide +kernel
theorem d_Rn_top_17 : decode b_Rn_top 17 = .ok (.getfield 15, 3) := by decide +kernel
theorem d_Rn_top_20 : decode b_Rn_top 20 = .ok (.aload_n 0, 1) := by decide +kernel
theorem d_Rn_top_21 : decode b_Rn_top 21 = .ok (.getfield 33, 3) := by decide +kernel
theorem d_Rn_top_24 : decode b_Rn_top 24 = .ok (.iconst 1, 1) := by decide +kernel
theorem d_Rn_top_25 : decode b_Rn_top 25 = .ok (.isub, 1) := by decide +kernel
theorem d_Rn_top_26 : decode b_Rn_top 26 = .ok (.laload, 1) := by decide +kernel
theorem d_Rn_top_27 : decode b_Rn_top 27 = .ok (.goto 4, 3) := by decide +kernel
theorem d_Rn_top_30 : decode b_Rn_top 30 = .ok (.lconst 0, 1) := by decide +kernel
theorem d_Rn_top_31 : decode b_Rn_top 31 = .ok (.lreturn, 1) := by decide +kernel
theorem d_Rn_setFact_0 : decode b_Rn_setFact 0 = .ok (.iload_n 1, 1) := by decide +kernel
theorem d_Rn_setFact_1 : decode b_Rn_setFact 1 = .ok (.ifCond .lt 16, 3) := by decide +kernel
theorem d_Rn_setFact_4 : decode b_Rn_setFact 4 = .ok (.iload_n 1, 1) := by decide +kernel
theorem d_Rn_setFact_5 : decode b_Rn_setFact 5 = .ok (.bipush 8, 2) := by decide +kernel
theorem d_Rn_setFact_7 : decode b_Rn_setFact 7 = .ok (.if_icmp .ge 10, 3) := by decide +kernel
theorem d_Rn_setFact_10 : decode b_Rn_setFact 10 = .ok (.aload_n 0, 1) := by decide +kernel
theorem d_Rn_setFact_11 : decode b_Rn_setFact 11 = .ok (.getfield 9, 3) := by decide +kernel
theorem d_Rn_setFact_14 : decode b_Rn_setFact 14 = .ok (.iload_n 1, 1) := by decide +kernel
theorem d_Rn_setFact_15 : decode b_Rn_setFact 15 = .ok (.lload_n 2, 1) := by decide +kernel
theorem d_Rn_setFact_16 : decode b_Rn_setFact 16 = .ok (.lastore, 1) := by decide +kernel
theorem d_Rn_setFact_17 : decode b_Rn_setFact 17 = .ok (.return_, 1) := by decide +kernel
theorem d_Rn_factOf_0 : decode b_Rn_factOf 0 = .ok (.lload_n 1, 1) := by decide +kernel
theorem d_Rn_factOf_1 : decode b_Rn_factOf 1 = .ok (.lconst 0, 1) := by decide +kernel
theorem d_Rn_factOf_2 : decode b_Rn_factOf 2 = .ok (.ldc2_w 133, 3) := by decide +kernel
theorem d_Rn_factOf_5 : decode b_Rn_factOf 5 = .ok (.invokestatic 129, 3) := by decide +kernel
theorem d_Rn_factOf_8 : decode b_Rn_factOf 8 = .ok (.ifCond .eq 13, 3) := by decide +kernel
theorem d_Rn_factOf_11 : decode b_Rn_factOf 11 = .ok (.aload_n 0, 1) := by decide +kernel
theorem d_Rn_factOf_12 : decode b_Rn_factOf 12 = .ok (.getfield 9, 3) := by decide +kernel
theorem d_Rn_factOf_15 : decode b_Rn_factOf 15 = .ok (.lload_n 1, 1) := by decide +kernel
theorem d_Rn_factOf_16 : decode b_Rn_factOf 16 = .ok (.l2i, 1) := by decide +kernel
theorem d_Rn_factOf_17 : decode b_Rn_factOf 17 = .ok (.laload, 1) := by decide +kernel
theorem d_Rn_factOf_18 : decode b_Rn_factOf 18 = .ok (.goto 4, 3) := by decide +kernel
theorem d_Rn_factOf_21 : decode b_Rn_factOf 21 = .ok (.lconst 0, 1) := by decide +kernel
theorem d_Rn_factOf_22 : decode b_Rn_factOf 22 = .ok (.lreturn, 1) := by decide +kernel
theorem d_Rn_keep_0 : decode b_Rn_keep 0 = .ok (.aload_n 0, 1) := by decide +kernel
theorem d_Rn_keep_1 : decode b_Rn_keep 1 = .ok (.getfield 29, 3) := by decide +kernel
theorem d_Rn_keep_4 : decode b_Rn_keep 4 = .ok (.istore_n 3, 1) := by decide +kernel
theorem d_Rn_keep_5 : decode b_Rn_keep 5 = .ok (.iload_n 3, 1) := by decide +kernel
theorem d_Rn_keep_6 : decode b_Rn_keep 6 = .ok (.ifCond .lt 27, 3) := by decide +kernel
theorem d_Rn_keep_9 : decode b_Rn_keep 9 = .ok (.iload_n 3, 1) := by decide +kernel
theorem d_Rn_keep_10 : decode b_Rn_keep 10 = .ok (.bipush 16, 2) := by decide +kernel
theorem d_Rn_keep_12 : decode b_Rn_keep 12 = .ok (.if_icmp .ge 21, 3) := by decide +kernel
theorem d_Rn_keep_15 : decode b_Rn_keep 15 = .ok (.aload_n 0, 1) := by decide +kernel
theorem d_Rn_keep_16 : decode b_Rn_keep 16 = .ok (.getfield 18, 3) := by decide +kernel
theorem d_Rn_keep_19 : decode b_Rn_keep 19 = .ok (.iload_n 3, 1) := by decide +kernel
theorem d_Rn_keep_20 : decode b_Rn_keep 20 = .ok (.lload_n 1, 1) := by decide +kernel
theorem d_Rn_keep_21 : decode b_Rn_keep 21 = .ok (.l2i, 1) := by decide +kernel
theorem d_Rn_keep_22 : decode b_Rn_keep 22 = .ok (.iastore, 1) := by decide +kernel
theorem d_Rn_keep_23 : decode b_Rn_keep 23 = .ok (.aload_n 0, 1) := by decide +kernel
theorem d_Rn_keep_24 : decode b_Rn_keep 24 = .ok (.dup, 1) := by decide +kernel
theorem d_Rn_keep_25 : decode b_Rn_keep 25 = .ok (.getfield 29, 3) := by decide +kernel
theorem d_Rn_keep_28 : decode b_Rn_keep 28 = .ok (.iconst 1, 1) := by decide +kernel
theorem d_Rn_keep_29 : decode b_Rn_keep 29 = .ok (.iadd, 1) := by decide +kernel
theorem d_Rn_keep_30 : decode b_Rn_keep 30 = .ok (.putfield 29, 3) := by decide +kernel
theorem d_Rn_keep_33 : decode b_Rn_keep 33 = .ok (.iload_n 3, 1) := by decide +kernel
theorem d_Rn_keep_34 : decode b_Rn_keep 34 = .ok (.ireturn, 1) := by decide +kernel
theorem d_Rn_factBehind_0 : decode b_Rn_factBehind 0 = .ok (.lload_n 1, 1) := by decide +kernel
theorem d_Rn_factBehind_1 : decode b_Rn_factBehind 1 = .ok (.lconst 0, 1) := by decide +kernel
theorem d_Rn_factBehind_2 : decode b_Rn_factBehind 2 = .ok (.aload_n 0, 1) := by decide +kernel
theorem d_Rn_factBehind_3 : decode b_Rn_factBehind 3 = .ok (.getfield 29, 3) := by decide +kernel
theorem d_Rn_factBehind_6 : decode b_Rn_factBehind 6 = .ok (.iconst 1, 1) := by decide +kernel
theorem d_Rn_factBehind_7 : decode b_Rn_factBehind 7 = .ok (.isub, 1) := by decide +kernel
theorem d_Rn_factBehind_8 : decode b_Rn_factBehind 8 = .ok (.i2l, 1) := by decide +kernel
theorem d_Rn_factBehind_9 : decode b_Rn_factBehind 9 = .ok (.invokestatic 129, 3) := by decide +kernel
theorem d_Rn_factBehind_12 : decode b_Rn_factBehind 12 = .ok (.ifCond .eq 15, 3) := by decide +kernel
theorem d_Rn_factBehind_15 : decode b_Rn_factBehind 15 = .ok (.lload_n 1, 1) := by decide +kernel
theorem d_Rn_factBehind_16 : decode b_Rn_factBehind 16 = .ok (.ldc2_w 135, 3) := by decide +kernel
theorem d_Rn_factBehind_19 : decode b_Rn_factBehind 19 = .ok (.lcmp, 1) := by decide +kernel
theorem d_Rn_factBehind_20 : decode b_Rn_factBehind 20 = .ok (.ifCond .ge 7, 3) := by decide +kernel
theorem d_Rn_factBehind_23 : decode b_Rn_factBehind 23 = .ok (.iconst 1, 1) := by decide +kernel
theorem d_Rn_factBehind_24 : decode b_Rn_factBehind 24 = .ok (.goto 4, 3) := by decide +kernel
theorem d_Rn_factBehind_27 : decode b_Rn_factBehind 27 = .ok (.iconst 0, 1) := by decide +kernel
theorem d_Rn_factBehind_28 : decode b_Rn_factBehind 28 = .ok (.istore_n 3, 1) := by decide +kernel
theorem d_Rn_factBehind_29 : decode b_Rn_factBehind 29 = .ok (.iload_n 3, 1) := by decide +kernel
theorem d_Rn_factBehind_30 : decode b_Rn_factBehind 30 = .ok (.ifCond .eq 18, 3) := by decide +kernel
theorem d_Rn_factBehind_33 : decode b_Rn_factBehind 33 = .ok (.aload_n 0, 1) := by decide +kernel
theorem d_Rn_factBehind_34 : decode b_Rn_factBehind 34 = .ok (.aload_n 0, 1) := by decide +kernel
theorem d_Rn_factBehind_35 : decode b_Rn_factBehind 35 = .ok (.getfield 18, 3) := by decide +kernel
theorem d_Rn_factBehind_38 : decode b_Rn_factBehind 38 = .ok (.lload_n 1, 1) := by decide +kernel
theorem d_Rn_factBehind_39 : decode b_Rn_factBehind 39 = .ok (.l2i, 1) := by decide +kernel
theorem d_Rn_factBehind_40 : decode b_Rn_factBehind 40 = .ok (.iaload, 1) := by decide +kernel
theorem d_Rn_factBehind_41 : decode b_Rn_factBehind 41 = .ok (.i2l, 1) := by decide +kernel
theorem d_Rn_factBehind_42 : decode b_Rn_factBehind 42 = .ok (.invokevirtual 93, 3) := by decide +kernel
theorem d_Rn_factBehind_45 : decode b_Rn_factBehind 45 = .ok (.goto 4, 3) := by decide +kernel
theorem d_Rn_factBehind_48 : decode b_Rn_factBehind 48 = .ok (.lconst 0, 1) := by decide +kernel
theorem d_Rn_factBehind_49 : decode b_Rn_factBehind 49 = .ok (.lreturn, 1) := by decide +kernel
theorem d_Hr_init_0 : decode b_Hr_init 0 = .ok (.aload_n 0, 1) := by decide +kernel
theorem d_Hr_init_1 : decode b_Hr_init 1 = .ok (.invokespecial 1, 3) := by decide +kernel
theorem d_Hr_init_4 : decode b_Hr_init 4 = .ok (.aload_n 0, 1) := by decide +kernel
theorem d_Hr_init_5 : decode b_Hr_init 5 = .ok (.bipush 6, 2) := by decide +kernel
theorem d_Hr_init_7 : decode b_Hr_init 7 = .ok (.anewarray 9, 3) := by decide +kernel
theorem d_Hr_init_10 : decode b_Hr_init 10 = .ok (.putfield 11, 3) := by decide +kernel
theorem d_Hr_init_13 : decode b_Hr_init 13 = .ok (.aload_n 0, 1) := by decide +kernel
theorem d_Hr_init_14 : decode b_Hr_init 14 = .ok (.bipush 40, 2) := by decide +kernel
theorem d_Hr_init_16 : decode b_Hr_init 16 = .ok (.anewarray 15, 3) := by decide +kernel
theorem d_Hr_init_19 : decode b_Hr_init 19 = .ok (.putfield 17, 3) := by decide +kernel
theorem d_Hr_init_22 : decode b_Hr_init 22 = .ok (.aload_n 0, 1) := by decide +kernel
theorem d_Hr_init_23 : decode b_Hr_init 23 = .ok (.iconst 0, 1) := by decide +kernel
theorem d_Hr_init_24 : decode b_Hr_init 24 = .ok (.putfield 21, 3) := by decide +kernel
theorem d_Hr_init_27 : decode b_Hr_init 27 = .ok (.aload_n 0, 1) := by decide +kernel
theorem d_Hr_init_28 : decode b_Hr_init 28 = .ok (.iconst 0, 1) := by decide +kernel
theorem d_Hr_init_29 : decode b_Hr_init 29 = .ok (.putfield 25, 3) := by decide +kernel
theorem d_Hr_init_32 : decode b_Hr_init 32 = .ok (.aload_n 0, 1) := by decide +kernel
theorem d_Hr_init_33 : decode b_Hr_init 33 = .ok (.new 28, 3) := by decide +kernel
theorem d_Hr_init_36 : decode b_Hr_init 36 = .ok (.dup, 1) := by decide +kernel
theorem d_Hr_init_37 : decode b_Hr_init 37 = .ok (.invokespecial 30, 3) := by decide +kernel
theorem d_Hr_init_40 : decode b_Hr_init 40 = .ok (.putfield 31, 3) := by decide +kernel
theorem d_Hr_init_43 : decode b_Hr_init 43 = .ok (.aload_n 0, 1) := by decide +kernel
theorem d_Hr_init_44 : decode b_Hr_init 44 = .ok (.new 35, 3) := by decide +kernel
theorem d_Hr_init_47 : decode b_Hr_init 47 = .ok (.dup, 1) := by decide +kernel
theorem d_Hr_init_48 : decode b_Hr_init 48 = .ok (.invokespecial 37, 3) := by decide +kernel
theorem d_Hr_init_51 : decode b_Hr_init 51 = .ok (.putfield 38, 3) := by decide +kernel
theorem d_Hr_init_54 : decode b_Hr_init 54 = .ok (.aload_n 0, 1) := by decide +kernel
theorem d_Hr_init_55 : decode b_Hr_init 55 = .ok (.new 42, 3) := by decide +kernel
theorem d_Hr_init_58 : decode b_Hr_init 58 = .ok (.dup, 1) := by decide +kernel
theorem d_Hr_init_59 : decode b_Hr_init 59 = .ok (.invokespecial 44, 3) := by decide +kernel
theorem d_Hr_init_62 : decode b_Hr_init 62 = .ok (.putfield 45, 3) := by decide +kernel
theorem d_Hr_init_65 : decode b_Hr_init 65 = .ok (.aload_n 0, 1) := by decide +kernel
theorem d_Hr_init_66 : decode b_Hr_init 66 = .ok (.iconst 1, 1) := by decide +kernel
theorem d_Hr_init_67 : decode b_Hr_init 67 = .ok (.bipush 100, 2) := by decide +kernel
theorem d_Hr_init_69 : decode b_Hr_init 69 = .ok (.iload_n 1, 1) := by decide +kernel
theorem d_Hr_init_70 : decode b_Hr_init 70 = .ok (.invokestatic 49, 3) := by decide +kernel
theorem d_Hr_init_73 : decode b_Hr_init 73 = .ok (.invokestatic 55, 3) := by decide +kernel
theorem d_Hr_init_76 : decode b_Hr_init 76 = .ok (.putfield 58, 3) := by decide +kernel
theorem d_Hr_init_79 : decode b_Hr_init 79 = .ok (.iconst 0, 1) := by decide +kernel
theorem d_Hr_init_80 : decode b_Hr_init 80 = .ok (.istore_n 2, 1) := by decide +kernel
theorem d_Hr_init_81 : decode b_Hr_init 81 = .ok (.iload_n 2, 1) := by decide +kernel
theorem d_Hr_init_82 : decode b_Hr_init 82 = .ok (.bipush 6, 2) := by decide +kernel
theorem d_Hr_init_84 : decode b_Hr_init 84 = .ok (.if_icmp .ge 22, 3) := by decide +kernel
theorem d_Hr_init_87 : decode b_Hr_init 87 = .ok (.aload_n 0, 1) := by decide +kernel
theorem d_Hr_init_88 : decode b_Hr_init 88 = .ok (.getfield 11, 3) := by decide +kernel
theorem d_Hr_init_91 : decode b_Hr_init 91 = .ok (.iload_n 2, 1) := by decide +kernel
theorem d_Hr_init_92 : decode b_Hr_init 92 = .ok (.new 9, 3) := by decide +kernel
theorem d_Hr_init_95 : decode b_Hr_init 95 = .ok (.dup, 1) := by decide +kernel
theorem d_Hr_init_96 : decode b_Hr_init 96 = .ok (.invokespecial 61, 3) := by decide +kernel
theorem d_Hr_init_99 : decode b_Hr_init 99 = .ok (.aastore, 1) := by decide +kernel
theorem d_Hr_init_100 : decode b_Hr_init 100 = .ok (.iinc 2 1, 3) := by decide +kernel
theorem d_Hr_init_103 : decode b_Hr_init 103 = .ok (.goto (-22), 3) := by decide +kernel
theorem d_Hr_init_106 : decode b_Hr_init 106 = .ok (.return_, 1) := by decide +kernel
theorem d_Hr_rule_0 : decode b_Hr_rule 0 = .ok (.aload_n 0, 1) := by decide +kernel
theorem d_Hr_rule_1 : decode b_Hr_rule 1 = .ok (.iload_n 1, 1) := by decide +kernel
theorem d_Hr_rule_2 : decode b_Hr_rule 2 = .ok (.invokevirtual 62, 3) := by decide +kernel
theorem d_Hr_rule_5 : decode b_Hr_rule 5 = .ok (.astore 4, 2) := by decide +kernel
theorem d_Hr_rule_7 : decode b_Hr_rule 7 = .ok (.aload 4, 2) := by decide +kernel
theorem d_Hr_rule_9 : decode b_Hr_rule 9 = .ok (.ifnull 27, 3) := by decide +kernel
theorem d_Hr_rule_12 : decode b_Hr_rule 12 = .ok (.iload_n 2, 1) := by decide +kernel
theorem d_Hr_rule_13 : decode b_Hr_rule 13 = .ok (.i2l, 1) := by decide +kernel
theorem d_Hr_rule_14 : decode b_Hr_rule 14 = .ok (.lconst 0, 1) := by decide +kernel
theorem d_Hr_rule_15 : decode b_Hr_rule 15 = .ok (.ldc2_w 66, 3) := by decide +kernel
theorem d_Hr_rule_18 : decode b_Hr_rule 18 = .ok (.invokestatic 68, 3) := by decide +kernel
theorem d_Hr_rule_21 : decode b_Hr_rule 21 = .ok (.ifCond .eq 15, 3) := by decide +kernel
theorem d_Hr_rule_24 : decode b_Hr_rule 24 = .ok (.iload_n 3, 1) := by decide +kernel
theorem d_Hr_rule_25 : decode b_Hr_rule 25 = .ok (.i2l, 1) := by decide +kernel
theorem d_Hr_rule_26 : decode b_Hr_rule 26 = .ok (.lconst 0, 1) := by decide +kernel
theorem d_Hr_rule_27 : decode b_Hr_rule 27 = .ok (.ldc2_w 72, 3) := by decide +kernel
theorem d_Hr_rule_30 : decode b_Hr_rule 30 = .ok (.invokestatic 68, 3) := by decide +kernel
theorem d_Hr_rule_33 : decode b_Hr_rule 33 = .ok (.ifCond .ne 6, 3) := by decide +kernel
theorem d_Hr_rule_36 : decode b_Hr_rule 36 = .ok (.bipush (-102), 2) := by decide +kernel
theorem d_Hr_rule_38 : decode b_Hr_rule 38 = .ok (.ireturn, 1) := by decide +kernel
theorem d_Hr_rule_39 : decode b_Hr_rule 39 = .ok (.aload 4, 2) := by decide +kernel
theorem d_Hr_rule_41 : decode b_Hr_rule 41 = .ok (.getfield 74, 3) := by decide +kernel
theorem d_Hr_rule_44 : decode b_Hr_rule 44 = .ok (.iconst 2, 1) := by decide +kernel
theorem d_Hr_rule_45 : decode b_Hr_rule 45 = .ok (.if_icmp .eq 12, 3) := by decide +kernel
theorem d_Hr_rule_48 : decode b_Hr_rule 48 = .ok (.aload 4, 2) := by decide +kernel
theorem d_Hr_rule_50 : decode b_Hr_rule 50 = .ok (.getfield 74, 3) := by decide +kernel
theorem d_Hr_rule_53 : decode b_Hr_rule 53 = .ok (.iconst 3, 1) := by decide +kernel
theorem d_Hr_rule_54 : decode b_Hr_rule 54 = .ok (.if_icmp .ne 6, 3) := by decide +kernel
theorem d_Hr_rule_57 : decode b_Hr_rule 57 = .ok (.bipush (-103), 2) := by decide +kernel
theorem d_Hr_rule_59 : decode b_Hr_rule 59 = .ok (.ireturn, 1) := by decide +kernel
theorem d_Hr_rule_60 : decode b_Hr_rule 60 = .ok (.aload_n 0, 1) := by decide +kernel
theorem d_Hr_rule_61 : decode b_Hr_rule 61 = .ok (.getfield 21, 3) := by decide +kernel
theorem d_Hr_rule_64 : decode b_Hr_rule 64 = .ok (.bipush 40, 2) := by decide +kernel
theorem d_Hr_rule_66 : decode b_Hr_rule 66 = .ok (.if_icmp .ge 13, 3) := by decide +kernel
theorem d_Hr_rule_69 : decode b_Hr_rule 69 = .ok (.aload 4, 2) := by decide +kernel
theorem d_Hr_rule_71 : decode b_Hr_rule 71 = .ok (.getfield 77, 3) := by decide +kernel
theorem d_Hr_rule_74 : decode b_Hr_rule 74 = .ok (.bipush 8, 2) := by decide +kernel
theorem d_Hr_rule_76 : decode b_Hr_rule 76 = .ok (.if_icmp .lt 6, 3) := by decide +kernel
theorem d_Hr_rule_79 : decode b_Hr_rule 79 = .ok (.bipush (-104), 2) := by decide +kernel
theorem d_Hr_rule_81 : decode b_Hr_rule 81 = .ok (.ireturn, 1) := by decide +kernel
theorem d_Hr_rule_82 : decode b_Hr_rule 82 = .ok (.new 15, 3) := by decide +kernel
theorem d_Hr_rule_85 : decode b_Hr_rule 85 = .ok (.dup, 1) := by decide +kernel
theorem d_Hr_rule_86 : decode b_Hr_rule 86 = .ok (.aload_n 0, 1) := by decide +kernel
theorem d_Hr_rule_87 : decode b_Hr_rule 87 = .ok (.getfield 21, 3) := by decide +kernel
theorem d_Hr_rule_90 : decode b_Hr_rule 90 = .ok (.aload 4, 2) := by decide +kernel
theorem d_Hr_rule_92 : decode b_Hr_rule 92 = .ok (.iload_n 2, 1) := by decide +kernel
theorem d_Hr_rule_93 : decode b_Hr_rule 93 = .ok (.iload_n 3, 1) := by decide +kernel
theorem d_Hr_rule_94 : decode b_Hr_rule 94 = .ok (.invokespecial 80, 3) := by decide +kernel
theorem d_Hr_rule_97 : decode b_Hr_rule 97 = .ok (.astore 5, 2) := by decide +kernel
theorem d_Hr_rule_99 : decode b_Hr_rule 99 = .ok (.aload_n 0, 1) := by decide +kernel
theorem d_Hr_rule_100 : decode b_Hr_rule 100 = .ok (.getfield 17, 3) := by decide +kernel
theorem d_Hr_rule_103 : decode b_Hr_rule 103 = .ok (.aload_n 0, 1) := by decide +kernel
theorem d_Hr_rule_104 : decode b_Hr_rule 104 = .ok (.getfield 21, 3) := by decide +kernel
theorem d_Hr_rule_107 : decode b_Hr_rule 107 = .ok (.aload 5, 2) := by decide +kernel
theorem d_Hr_rule_109 : decode b_Hr_rule 109 = .ok (.aastore, 1) := by decide +kernel
theorem d_Hr_rule_110 : decode b_Hr_rule 110 = .ok (.aload_n 0, 1) := by decide +kernel
theorem d_Hr_rule_111 : decode b_Hr_rule 111 = .ok (.dup, 1) := by decide +kernel
theorem d_Hr_rule_112 : decode b_Hr_rule 112 = .ok (.getfield 21, 3) := by decide +kernel
theorem d_Hr_rule_115 : decode b_Hr_rule 115 = .ok (.iconst 1, 1) := by decide +kernel
theorem d_Hr_rule_116 : decode b_Hr_rule 116 = .ok (.iadd, 1) := by decide +kernel
theorem d_Hr_rule_117 : decode b_Hr_rule 117 = .ok (.putfield 21, 3) := by decide +kernel
theorem d_Hr_rule_120 : decode b_Hr_rule 120 = .ok (.aload 4, 2) := by decide +kernel
theorem d_Hr_rule_122 : decode b_Hr_rule 122 = .ok (.aload 5, 2) := by decide +kernel
theorem d_Hr_rule_124 : decode b_Hr_rule 124 = .ok (.invokevirtual 83, 3) := by decide +kernel
theorem d_Hr_rule_127 : decode b_Hr_rule 127 = .ok (.aload 5, 2) := by decide +kernel
theorem d_Hr_rule_129 : decode b_Hr_rule 129 = .ok (.getfield 87, 3) := by decide +kernel
theorem d_Hr_rule_132 : decode b_Hr_rule 132 = .ok (.ireturn, 1) := by decide +kernel
theorem d_Hr_code_0 : decode b_Hr_code 0 = .ok (.aload_n 0, 1) := by decide +kernel
theorem d_Hr_code_1 : decode b_Hr_code 1 = .ok (.iload_n 1, 1) := by decide +kernel
theorem d_Hr_code_2 : decode b_Hr_code 2 = .ok (.invokevirtual 90, 3) := by decide +kernel
theorem d_Hr_code_5 : decode b_Hr_code 5 = .ok (.astore 5, 2) := by decide +kernel
theorem d_Hr_code_7 : decode b_Hr_code 7 = .ok (.aload 5, 2) := by decide +kernel
theorem d_Hr_code_9 : decode b_Hr_code 9 = .ok (.ifnonnull 6, 3) := by decide +kernel
theorem d_Hr_code_12 : decode b_Hr_code 12 = .ok (.bipush (-101), 2) := by decide +kernel
theorem d_Hr_code_14 : decode b_Hr_code 14 = .ok (.ireturn, 1) := by decide +kernel
theorem d_Hr_code_15 : decode b_Hr_code 15 = .ok (.iload_n 2, 1) := by decide +kernel
theorem d_Hr_code_16 : decode b_Hr_code 16 = .ok (.lload_n 3, 1) := by decide +kernel
theorem d_Hr_code_17 : decode b_Hr_code 17 = .ok (.invokestatic 94, 3) := by decide +kernel
theorem d_Hr_code_20 : decode b_Hr_code 20 = .ok (.ifCond .ne 6, 3) := by decide +kernel
theorem d_Hr_code_23 : decode b_Hr_code 23 = .ok (.bipush (-102), 2) := by decide +kernel
theorem d_Hr_code_25 : decode b_Hr_code 25 = .ok (.ireturn, 1) := by decide +kernel
theorem d_Hr_code_26 : decode b_Hr_code 26 = .ok (.aload 5, 2) := by decide +kernel
theorem d_Hr_code_28 : decode b_Hr_code 28 = .ok (.getfield 98, 3) := by decide +kernel
theorem d_Hr_code_31 : decode b_Hr_code 31 = .ok (.getfield 74, 3) := by decide +kernel
theorem d_Hr_code_34 : decode b_Hr_code 34 = .ok (.iconst 1, 1) := by decide +kernel
theorem d_Hr_code_35 : decode b_Hr_code 35 = .ok (.if_icmp .eq 6, 3) := by decide +kernel
theorem d_Hr_code_38 : decode b_Hr_code 38 = .ok (.bipush (-103), 2) := by decide +kernel
theorem d_Hr_code_40 : decode b_Hr_code 40 = .ok (.ireturn, 1) := by decide +kernel
theorem d_Hr_code_41 : decode b_Hr_code 41 = .ok (.aload 5, 2) := by decide +kernel
theorem d_Hr_code_43 : decode b_Hr_code 43 = .ok (.getfield 102, 3) := by decide +kernel
theorem d_Hr_code_46 : decode b_Hr_code 46 = .ok (.bipush 12, 2) := by decide +kernel
theorem d_Hr_code_48 : decode b_Hr_code 48 = .ok (.if_icmp .lt 6, 3) := by decide +kernel
theorem d_Hr_code_51 : decode b_Hr_code 51 = .ok (.bipush (-104), 2) := by decide +kernel
theorem d_Hr_code_53 : decode b_Hr_code 53 = .ok (.ireturn, 1) := by decide +kernel
theorem d_Hr_code_54 : decode b_Hr_code 54 = .ok (.aload 5, 2) := by decide +kernel
theorem d_Hr_code_56 : decode b_Hr_code 56 = .ok (.iload_n 2, 1) := by decide +kernel
theorem d_Hr_code_57 : decode b_Hr_code 57 = .ok (.iload_n 2, 1) := by decide +kernel
theorem d_Hr_code_58 : decode b_Hr_code 58 = .ok (.invokestatic 105, 3) := by decide +kernel
theorem d_Hr_code_61 : decode b_Hr_code 61 = .ok (.ifCond .eq 7, 3) := by decide +kernel
theorem d_Hr_code_64 : decode b_Hr_code 64 = .ok (.lload_n 3, 1) := by decide +kernel
theorem d_Hr_code_65 : decode b_Hr_code 65 = .ok (.goto 4, 3) := by decide +kernel
theorem d_Hr_code_68 : decode b_Hr_code 68 = .ok (.lconst 0, 1) := by decide +kernel
theorem d_Hr_code_69 : decode b_Hr_code 69 = .ok (.invokevirtual 109, 3) := by decide +kernel
theorem d_Hr_code_72 : decode b_Hr_code 72 = .ok (.aload 5, 2) := by decide +kernel
theorem d_Hr_code_74 : decode b_Hr_code 74 = .ok (.getfield 102, 3) := by decide +kernel
theorem d_Hr_code_77 : decode b_Hr_code 77 = .ok (.ireturn, 1) := by decide +kernel
theorem d_Hr_fallback_0 : decode b_Hr_fallback 0 = .ok (.aload_n 0, 1) := by decide +kernel
theorem d_Hr_fallback_1 : decode b_Hr_fallback 1 = .ok (.iload_n 1, 1) := by decide +kernel
theorem d_Hr_fallback_2 : decode b_Hr_fallback 2 = .ok (.invokevirtual 90, 3) := by decide +kernel
theorem d_Hr_fallback_5 : decode b_Hr_fallback 5 = .ok (.astore 5, 2) := by decide +kernel
theorem d_Hr_fallback_7 : decode b_Hr_fallback 7 = .ok (.aload 5, 2) := by decide +kernel
theorem d_Hr_fallback_9 : decode b_Hr_fallback 9 = .ok (.ifnonnull 6, 3) := by decide +kernel
theorem d_Hr_fallback_12 : decode b_Hr_fallback 12 = .ok (.bipush (-101), 2) := by decide +kernel
theorem d_Hr_fallback_14 : decode b_Hr_fallback 14 = .ok (.ireturn, 1) := by decide +kernel
theorem d_Hr_fallback_15 : decode b_Hr_fallback 15 = .ok (.iload_n 2, 1) := by decide +kernel
theorem d_Hr_fallback_16 : decode b_Hr_fallback 16 = .ok (.i2l, 1) := by decide +kernel
theorem d_Hr_fallback_17 : decode b_Hr_fallback 17 = .ok (.lconst 0, 1) := by decide +kernel
theorem d_Hr_fallback_18 : decode b_Hr_fallback 18 = .ok (.ldc2_w 113, 3) := by decide +kernel
theorem d_Hr_fallback_21 : decode b_Hr_fallback 21 = .ok (.invokestatic 68, 3) := by decide +kernel
theorem d_Hr_fallback_24 : decode b_Hr_fallback 24 = .ok (.ifCond .ne 6, 3) := by decide +kernel
theorem d_Hr_fallback_27 : decode b_Hr_fallback 27 = .ok (.bipush (-102), 2) := by decide +kernel
theorem d_Hr_fallback_29 : decode b_Hr_fallback 29 = .ok (.ireturn, 1) := by decide +kernel
theorem d_Hr_fallback_30 : decode b_Hr_fallback 30 = .ok (.aload 5, 2) := by decide +kernel
theorem d_Hr_fallback_32 : decode b_Hr_fallback 32 = .ok (.getfield 98, 3) := by decide +kernel
theorem d_Hr_fallback_35 : decode b_Hr_fallback 35 = .ok (.getfield 74, 3) := by decide +kernel
theorem d_Hr_fallback_38 : decode b_Hr_fallback 38 = .ok (.iconst 1, 1) := by decide +kernel
theorem d_Hr_fallback_39 : decode b_Hr_fallback 39 = .ok (.if_icmp .eq 6, 3) := by decide +kernel
theorem d_Hr_fallback_42 : decode b_Hr_fallback 42 = .ok (.bipush (-103), 2) := by decide +kernel
theorem d_Hr_fallback_44 : decode b_Hr_fallback 44 = .ok (.ireturn, 1) := by decide +kernel
theorem d_Hr_fallback_45 : decode b_Hr_fallback 45 = .ok (.aload 5, 2) := by decide +kernel
theorem d_Hr_fallback_47 : decode b_Hr_fallback 47 = .ok (.iload_n 2, 1) := by decide +kernel
theorem d_Hr_fallback_48 : decode b_Hr_fallback 48 = .ok (.putfield 115, 3) := by decide +kernel
theorem d_Hr_fallback_51 : decode b_Hr_fallback 51 = .ok (.aload 5, 2) := by decide +kernel
theorem d_Hr_fallback_53 : decode b_Hr_fallback 53 = .ok (.lload_n 3, 1) := by decide +kernel
theorem d_Hr_fallback_54 : decode b_Hr_fallback 54 = .ok (.putfield 118, 3) := by decide +kernel
theorem d_Hr_fallback_57 : decode b_Hr_fallback 57 = .ok (.iconst 1, 1) := by decide +kernel
theorem d_Hr_fallback_58 : decode b_Hr_fallback 58 = .ok (.ireturn, 1) := by decide +kernel
theorem d_Hr_fact_0 : decode b_Hr_fact 0 = .ok (.iload_n 1, 1) := by decide +kernel
theorem d_Hr_fact_1 : decode b_Hr_fact 1 = .ok (.i2l, 1) := by decide +kernel
theorem d_Hr_fact_2 : decode b_Hr_fact 2 = .ok (.lconst 0, 1) := by decide +kernel
theorem d_Hr_fact_3 : decode b_Hr_fact 3 = .ok (.ldc2_w 122, 3) := by decide +kernel
theorem d_Hr_fact_6 : decode b_Hr_fact 6 = .ok (.invokestatic 68, 3) := by decide +kernel
theorem d_Hr_fact_9 : decode b_Hr_fact 9 = .ok (.ifCond .ne 6, 3) := by decide +kernel
theorem d_Hr_fact_12 : decode b_Hr_fact 12 = .ok (.bipush (-102), 2) := by decide +kernel
theorem d_Hr_fact_14 : decode b_Hr_fact 14 = .ok (.ireturn, 1) := by decide +kernel
theorem d_Hr_fact_15 : decode b_Hr_fact 15 = .ok (.aload_n 0, 1) := by decide +kernel
theorem d_Hr_fact_16 : decode b_Hr_fact 16 = .ok (.getfield 31, 3) := by decide +kernel
theorem d_Hr_fact_19 : decode b_Hr_fact 19 = .ok (.iload_n 1, 1) := by decide +kernel
theorem d_Hr_fact_20 : decode b_Hr_fact 20 = .ok (.lload_n 2, 1) := by decide +kernel
theorem d_Hr_fact_21 : decode b_Hr_fact 21 = .ok (.invokevirtual 124, 3) := by decide +kernel
theorem d_Hr_fact_24 : decode b_Hr_fact 24 = .ok (.iconst 1, 1) := by decide +kernel
theorem d_Hr_fact_25 : decode b_Hr_fact 25 = .ok (.ireturn, 1) := by decide +kernel
theorem d_Hr_test_0 : decode b_Hr_test 0 = .ok (.aload_n 0, 1) := by decide +kernel
theorem d_Hr_test_1 : decode b_Hr_test 1 = .ok (.iload_n 1, 1) := by decide +kernel
theorem d_Hr_test_2 : decode b_Hr_test 2 = .ok (.invokevirtual 62, 3) := by decide +kernel
theorem d_Hr_test_5 : decode b_Hr_test 5 = .ok (.astore_n 2, 1) := by decide +kernel
theorem d_Hr_test_6 : decode b_Hr_test 6 = .ok (.aload_n 2, 1) := by decide +kernel
theorem d_Hr_test_7 : decode b_Hr_test 7 = .ok (.ifnonnull 6, 3) := by decide +kernel
theorem d_Hr_test_10 : decode b_Hr_test 10 = .ok (.bipush (-102), 2) := by decide +kernel
theorem d_Hr_test_12 : decode b_Hr_test 12 = .ok (.ireturn, 1) := by decide +kernel
theorem d_Hr_test_13 : decode b_Hr_test 13 = .ok (.aload_n 2, 1) := by decide +kernel
theorem d_Hr_test_14 : decode b_Hr_test 14 = .ok (.getfield 74, 3) := by decide +kernel
theorem d_Hr_test_17 : decode b_Hr_test 17 = .ok (.iconst 1, 1) := by decide +kernel
theorem d_Hr_test_18 : decode b_Hr_test 18 = .ok (.if_icmp .eq 6, 3) := by decide +kernel
theorem d_Hr_test_21 : decode b_Hr_test 21 = .ok (.bipush (-103), 2) := by decide +kernel
theorem d_Hr_test_23 : decode b_Hr_test 23 = .ok (.ireturn, 1) := by decide +kernel
theorem d_Hr_test_24 : decode b_Hr_test 24 = .ok (.aload_n 0, 1) := by decide +kernel
theorem d_Hr_test_25 : decode b_Hr_test 25 = .ok (.invokevirtual 127, 3) := by decide +kernel
theorem d_Hr_test_28 : decode b_Hr_test 28 = .ok (.iconst 0, 1) := by decide +kernel
theorem d_Hr_test_29 : decode b_Hr_test 29 = .ok (.istore_n 3, 1) := by decide +kernel
theorem d_Hr_test_30 : decode b_Hr_test 30 = .ok (.iconst 0, 1) := by decide +kernel
theorem d_Hr_test_31 : decode b_Hr_test 31 = .ok (.istore 4, 2) := by decide +kernel
theorem d_Hr_test_33 : decode b_Hr_test 33 = .ok (.iload 4, 2) := by decide +kernel
theorem d_Hr_test_35 : decode b_Hr_test 35 = .ok (.aload_n 2, 1) := by decide +kernel
theorem d_Hr_test_36 : decode b_Hr_test 36 = .ok (.getfield 77, 3) := by decide +kernel
theorem d_Hr_test_39 : decode b_Hr_test 39 = .ok (.if_icmp .ge 31, 3) := by decide +kernel
theorem d_Hr_test_42 : decode b_Hr_test 42 = .ok (.aload_n 2, 1) := by decide +kernel
theorem d_Hr_test_43 : decode b_Hr_test 43 = .ok (.iload 4, 2) := by decide +kernel
theorem d_Hr_test_45 : decode b_Hr_test 45 = .ok (.invokevirtual 130, 3) := by decide +kernel
theorem d_Hr_test_48 : decode b_Hr_test 48 = .ok (.astore 5, 2) := by decide +kernel
theorem d_Hr_test_50 : decode b_Hr_test 50 = .ok (.aload 5, 2) := by decide +kernel
theorem d_Hr_test_52 : decode b_Hr_test 52 = .ok (.ifnull 12, 3) := by decide +kernel
theorem d_Hr_test_55 : decode b_Hr_test 55 = .ok (.iload_n 3, 1) := by decide +kernel
theorem d_Hr_test_56 : decode b_Hr_test 56 = .ok (.aload_n 0, 1) := by decide +kernel
theorem d_Hr_test_57 : decode b_Hr_test 57 = .ok (.aload 5, 2) := by decide +kernel
theorem d_Hr_test_59 : decode b_Hr_test 59 = .ok (.invokevirtual 133, 3) := by decide +kernel
theorem d_Hr_test_62 : decode b_Hr_test 62 = .ok (.iadd, 1) := by decide +kernel
theorem d_Hr_test_63 : decode b_Hr_test 63 = .ok (.istore_n 3, 1) := by decide +kernel
theorem d_Hr_test_64 : decode b_Hr_test 64 = .ok (.iinc 4 1, 3) := by decide +kernel
theorem d_Hr_test_67 : decode b_Hr_test 67 = .ok (.goto (-34), 3) := by decide +kernel
theorem d_Hr_test_70 : decode b_Hr_test 70 = .ok (.aload_n 2, 1) := by decide +kernel
theorem d_Hr_test_71 : decode b_Hr_test 71 = .ok (.aload_n 0, 1) := by decide +kernel
theorem d_Hr_test_72 : decode b_Hr_test 72 = .ok (.getfield 45, 3) := by decide +kernel
theorem d_Hr_test_75 : decode b_Hr_test 75 = .ok (.getfield 137, 3) := by decide +kernel
theorem d_Hr_test_78 : decode b_Hr_test 78 = .ok (.ifCond .ne 7, 3) := by decide +kernel
theorem d_Hr_test_81 : decode b_Hr_test 81 = .ok (.iconst 2, 1) := by decide +kernel
theorem d_Hr_test_82 : decode b_Hr_test 82 = .ok (.goto 4, 3) := by decide +kernel
theorem d_Hr_test_85 : decode b_Hr_test 85 = .ok (.iconst 3, 1) := by decide +kernel
theorem d_Hr_test_86 : decode b_Hr_test 86 = .ok (.putfield 74, 3) := by decide +kernel
theorem d_Hr_test_89 : decode b_Hr_test 89 = .ok (.iload_n 3, 1) := by decide +kernel
theorem d_Hr_test_90 : decode b_Hr_test 90 = .ok (.ireturn, 1) := by decide +kernel
theorem d_Hr_day_0 : decode b_Hr_day 0 = .ok (.aload_n 0, 1) := by decide +kernel
theorem d_Hr_day_1 : decode b_Hr_day 1 = .ok (.iload_n 1, 1) := by decide +kernel
theorem d_Hr_day_2 : decode b_Hr_day 2 = .ok (.invokevirtual 62, 3) := by decide +kernel
theorem d_Hr_day_5 : decode b_Hr_day 5 = .ok (.astore_n 3, 1) := by decide +kernel
theorem d_Hr_day_6 : decode b_Hr_day 6 = .ok (.aload_n 3, 1) := by decide +kernel
theorem d_Hr_day_7 : decode b_Hr_day 7 = .ok (.ifnull 15, 3) := by decide +kernel
theorem d_Hr_day_10 : decode b_Hr_day 10 = .ok (.iload_n 2, 1) := by decide +kernel
theorem d_Hr_day_11 : decode b_Hr_day 11 = .ok (.i2l, 1) := by decide +kernel
theorem d_Hr_day_12 : decode b_Hr_day 12 = .ok (.lconst 0, 1) := by decide +kernel
theorem d_Hr_day_13 : decode b_Hr_day 13 = .ok (.ldc2_w 138, 3) := by decide +kernel
theorem d_Hr_day_16 : decode b_Hr_day 16 = .ok (.invokestatic 68, 3) := by decide +kernel
theorem d_Hr_day_19 : decode b_Hr_day 19 = .ok (.ifCond .ne 6, 3) := by decide +kernel
theorem d_Hr_day_22 : decode b_Hr_day 22 = .ok (.bipush (-102), 2) := by decide +kernel
theorem d_Hr_day_24 : decode b_Hr_day 24 = .ok (.ireturn, 1) := by decide +kernel
theorem d_Hr_day_25 : decode b_Hr_day 25 = .ok (.aload_n 3, 1) := by decide +kernel
theorem d_Hr_day_26 : decode b_Hr_day 26 = .ok (.getfield 74, 3) := by decide +kernel
theorem d_Hr_day_29 : decode b_Hr_day 29 = .ok (.iconst 2, 1) := by decide +kernel
theorem d_Hr_day_30 : decode b_Hr_day 30 = .ok (.if_icmp .eq 6, 3) := by decide +kernel
theorem d_Hr_day_33 : decode b_Hr_day 33 = .ok (.bipush (-103), 2) := by decide +kernel
theorem d_Hr_day_35 : decode b_Hr_day 35 = .ok (.ireturn, 1) := by decide +kernel
theorem d_Hr_day_36 : decode b_Hr_day 36 = .ok (.aload_n 0, 1) := by decide +kernel
theorem d_Hr_day_37 : decode b_Hr_day 37 = .ok (.dup, 1) := by decide +kernel
theorem d_Hr_day_38 : decode b_Hr_day 38 = .ok (.getfield 25, 3) := by decide +kernel
theorem d_Hr_day_41 : decode b_Hr_day 41 = .ok (.iconst 1, 1) := by decide +kernel
theorem d_Hr_day_42 : decode b_Hr_day 42 = .ok (.iadd, 1) := by decide +kernel
theorem d_Hr_day_43 : decode b_Hr_day 43 = .ok (.putfield 25, 3) := by decide +kernel
theorem d_Hr_day_46 : decode b_Hr_day 46 = .ok (.aload_n 3, 1) := by decide +kernel
theorem d_Hr_day_47 : decode b_Hr_day 47 = .ok (.iload_n 2, 1) := by decide +kernel
theorem d_Hr_day_48 : decode b_Hr_day 48 = .ok (.putfield 140, 3) := by decide +kernel
theorem d_Hr_day_51 : decode b_Hr_day 51 = .ok (.aload_n 3, 1) := by decide +kernel
theorem d_Hr_day_52 : decode b_Hr_day 52 = .ok (.aload_n 0, 1) := by decide +kernel
theorem d_Hr_day_53 : decode b_Hr_day 53 = .ok (.getfield 25, 3) := by decide +kernel
theorem d_Hr_day_56 : decode b_Hr_day 56 = .ok (.putfield 143, 3) := by decide +kernel
theorem d_Hr_day_59 : decode b_Hr_day 59 = .ok (.iconst 1, 1) := by decide +kernel
theorem d_Hr_day_60 : decode b_Hr_day 60 = .ok (.ireturn, 1) := by decide +kernel
theorem d_Hr_ask_0 : decode b_Hr_ask 0 = .ok (.iload_n 1, 1) := by decide +kernel
theorem d_Hr_ask_1 : decode b_Hr_ask 1 = .ok (.i2l, 1) := by decide +kernel
theorem d_Hr_ask_2 : decode b_Hr_ask 2 = .ok (.lconst 0, 1) := by decide +kernel
theorem d_Hr_ask_3 : decode b_Hr_ask 3 = .ok (.ldc2_w 138, 3) := by decide +kernel
theorem d_Hr_ask_6 : decode b_Hr_ask 6 = .ok (.invokestatic 68, 3) := by decide +kernel
theorem d_Hr_ask_9 : decode b_Hr_ask 9 = .ok (.ifCond .ne 6, 3) := by decide +kernel
theorem d_Hr_ask_12 : decode b_Hr_ask 12 = .ok (.bipush (-102), 2) := by decide +kernel
theorem d_Hr_ask_14 : decode b_Hr_ask 14 = .ok (.ireturn, 1) := by decide +kernel
theorem d_Hr_ask_15 : decode b_Hr_ask 15 = .ok (.aload_n 0, 1) := by decide +kernel
theorem d_Hr_ask_16 : decode b_Hr_ask 16 = .ok (.invokevirtual 127, 3) := by decide +kernel
theorem d_Hr_ask_19 : decode b_Hr_ask 19 = .ok (.aload_n 0, 1) := by decide +kernel
theorem d_Hr_ask_20 : decode b_Hr_ask 20 = .ok (.getfield 38, 3) := by decide +kernel
theorem d_Hr_ask_23 : decode b_Hr_ask 23 = .ok (.invokevirtual 146, 3) := by decide +kernel
theorem d_Hr_ask_26 : decode b_Hr_ask 26 = .ok (.aload_n 0, 1) := by decide +kernel
theorem d_Hr_ask_27 : decode b_Hr_ask 27 = .ok (.iload_n 1, 1) := by decide +kernel
theorem d_Hr_ask_28 : decode b_Hr_ask 28 = .ok (.invokevirtual 149, 3) := by decide +kernel
theorem d_Hr_ask_31 : decode b_Hr_ask 31 = .ok (.astore_n 2, 1) := by decide +kernel
theorem d_Hr_ask_32 : decode b_Hr_ask 32 = .ok (.aload_n 2, 1) := by decide +kernel
theorem d_Hr_ask_33 : decode b_Hr_ask 33 = .ok (.ifnonnull 5, 3) := by decide +kernel
theorem d_Hr_ask_36 : decode b_Hr_ask 36 = .ok (.iconst (-1), 1) := by decide +kernel
theorem d_Hr_ask_37 : decode b_Hr_ask 37 = .ok (.ireturn, 1) := by decide +kernel
theorem d_Hr_ask_38 : decode b_Hr_ask 38 = .ok (.iconst 0, 1) := by decide +kernel
theorem d_Hr_ask_39 : decode b_Hr_ask 39 = .ok (.istore_n 3, 1) := by decide +kernel
theorem d_Hr_ask_40 : decode b_Hr_ask 40 = .ok (.iload_n 3, 1) := by decide +kernel
theorem d_Hr_ask_41 : decode b_Hr_ask 41 = .ok (.aload_n 2, 1) := by decide +kernel
theorem d_Hr_ask_42 : decode b_Hr_ask 42 = .ok (.getfield 77, 3) := by decide +kernel
theorem d_Hr_ask_45 : decode b_Hr_ask 45 = .ok (.if_icmp .ge 34, 3) := by decide +kernel
theorem d_Hr_ask_48 : decode b_Hr_ask 48 = .ok (.aload_n 2, 1) := by decide +kernel
theorem d_Hr_ask_49 : decode b_Hr_ask 49 = .ok (.iload_n 3, 1) := by decide +kernel
theorem d_Hr_ask_50 : decode b_Hr_ask 50 = .ok (.invokevirtual 130, 3) := by decide +kernel
theorem d_Hr_ask_53 : decode b_Hr_ask 53 = .ok (.astore 4, 2) := by decide +kernel
theorem d_Hr_ask_55 : decode b_Hr_ask 55 = .ok (.aload 4, 2) := by decide +kernel
theorem d_Hr_ask_57 : decode b_Hr_ask 57 = .ok (.ifnull 16, 3) := by decide +kernel
theorem d_Hr_ask_60 : decode b_Hr_ask 60 = .ok (.aload_n 0, 1) := by decide +kernel
theorem d_Hr_ask_61 : decode b_Hr_ask 61 = .ok (.aload 4, 2) := by decide +kernel
theorem d_Hr_ask_63 : decode b_Hr_ask 63 = .ok (.invokevirtual 133, 3) := by decide +kernel
theorem d_Hr_ask_66 : decode b_Hr_ask 66 = .ok (.pop, 1) := by decide +kernel
theorem d_Hr_ask_67 : decode b_Hr_ask 67 = .ok (.aload_n 0, 1) := by decide +kernel
theorem d_Hr_ask_68 : decode b_Hr_ask 68 = .ok (.aload 4, 2) := by decide +kernel
theorem d_Hr_ask_70 : decode b_Hr_ask 70 = .ok (.invokevirtual 152, 3) := by decide +kernel
theorem d_Hr_ask_73 : decode b_Hr_ask 73 = .ok (.iinc 3 1, 3) := by decide +kernel
theorem d_Hr_ask_76 : decode b_Hr_ask 76 = .ok (.goto (-36), 3) := by decide +kernel
theorem d_Hr_ask_79 : decode b_Hr_ask 79 = .ok (.aload_n 0, 1) := by decide +kernel
theorem d_Hr_ask_80 : decode b_Hr_ask 80 = .ok (.getfield 38, 3) := by decide +kernel
theorem d_Hr_ask_83 : decode b_Hr_ask 83 = .ok (.invokevirtual 155, 3) := by decide +kernel
theorem d_Hr_ask_86 : decode b_Hr_ask 86 = .ok (.ireturn, 1) := by decide +kernel
theorem d_Hr_answer_0 : decode b_Hr_answer 0 = .ok (.aload_n 0, 1) := by decide +kernel
theorem d_Hr_answer_1 : decode b_Hr_answer 1 = .ok (.getfield 38, 3) := by decide +kernel
theorem d_Hr_answer_4 : decode b_Hr_answer 4 = .ok (.iload_n 1, 1) := by decide +kernel
theorem d_Hr_answer_5 : decode b_Hr_answer 5 = .ok (.invokevirtual 159, 3) := by decide +kernel
theorem d_Hr_answer_8 : decode b_Hr_answer 8 = .ok (.lreturn, 1) := by decide +kernel
theorem d_Hr_by_0 : decode b_Hr_by 0 = .ok (.aload_n 0, 1) := by decide +kernel
theorem d_Hr_by_1 : decode b_Hr_by 1 = .ok (.getfield 38, 3) := by decide +kernel
theorem d_Hr_by_4 : decode b_Hr_by 4 = .ok (.iload_n 1, 1) := by decide +kernel
theorem d_Hr_by_5 : decode b_Hr_by 5 = .ok (.invokevirtual 163, 3) := by decide +kernel
theorem d_Hr_by_8 : decode b_Hr_by 8 = .ok (.ireturn, 1) := by decide +kernel
theorem d_Hr_failed_0 : decode b_Hr_failed 0 = .ok (.iload_n 2, 1) := by decide +kernel
theorem d_Hr_failed_1 : decode b_Hr_failed 1 = .ok (.ifCond .ne 12, 3) := by decide +kernel
theorem d_Hr_failed_4 : decode b_Hr_failed 4 = .ok (.aload_n 0, 1) := by decide +kernel
theorem d_Hr_failed_5 : decode b_Hr_failed 5 = .ok (.getfield 45, 3) := by decide +kernel
theorem d_Hr_failed_8 : decode b_Hr_failed 8 = .ok (.iload_n 1, 1) := by decide +kernel
theorem d_Hr_failed_9 : decode b_Hr_failed 9 = .ok (.invokevirtual 167, 3) := by decide +kernel
theorem d_Hr_failed_12 : decode b_Hr_failed 12 = .ok (.ireturn, 1) := by decide +kernel
theorem d_Hr_failed_13 : decode b_Hr_failed 13 = .ok (.iload_n 2, 1) := by decide +kernel
theorem d_Hr_failed_14 : decode b_Hr_failed 14 = .ok (.iconst 1, 1) := by decide +kernel
theorem d_Hr_failed_15 : decode b_Hr_failed 15 = .ok (.if_icmp .ne 14, 3) := by decide +kernel
theorem d_Hr_failed_18 : decode b_Hr_failed 18 = .ok (.aload_n 0, 1) := by decide +kernel
theorem d_Hr_failed_19 : decode b_Hr_failed 19 = .ok (.getfield 45, 3) := by decide +kernel
theorem d_Hr_failed_22 : decode b_Hr_failed 22 = .ok (.iload_n 1, 1) := by decide +kernel
theorem d_Hr_failed_23 : decode b_Hr_failed 23 = .ok (.invokevirtual 170, 3) := by decide +kernel
theorem d_Hr_failed_26 : decode b_Hr_failed 26 = .ok (.goto 4, 3) := by decide +kernel
theorem d_Hr_failed_29 : decode b_Hr_failed 29 = .ok (.iconst (-1), 1) := by decide +kernel
theorem d_Hr_failed_30 : decode b_Hr_failed 30 = .ok (.ireturn, 1) := by decide +kernel
theorem d_Hr_cell_0 : decode b_Hr_cell 0 = .ok (.aload_n 0, 1) := by decide +kernel
theorem d_Hr_cell_1 : decode b_Hr_cell 1 = .ok (.iload_n 1, 1) := by decide +kernel
theorem d_Hr_cell_2 : decode b_Hr_cell 2 = .ok (.invokevirtual 90, 3) := by decide +kernel
theorem d_Hr_cell_5 : decode b_Hr_cell 5 = .ok (.astore_n 2, 1) := by decide +kernel
theorem d_Hr_cell_6 : decode b_Hr_cell 6 = .ok (.aload_n 2, 1) := by decide +kernel
theorem d_Hr_cell_7 : decode b_Hr_cell 7 = .ok (.ifnonnull 7, 3) := by decide +kernel
theorem d_Hr_cell_10 : decode b_Hr_cell 10 = .ok (.lconst 0, 1) := by decide +kernel
theorem d_Hr_cell_11 : decode b_Hr_cell 11 = .ok (.goto 7, 3) := by decide +kernel
theorem d_Hr_cell_14 : decode b_Hr_cell 14 = .ok (.aload_n 2, 1) := by decide +kernel
theorem d_Hr_cell_15 : decode b_Hr_cell 15 = .ok (.getfield 173, 3) := by decide +kernel
theorem d_Hr_cell_18 : decode b_Hr_cell 18 = .ok (.lreturn, 1) := by decide +kernel
theorem d_Hr_edition_0 : decode b_Hr_edition 0 = .ok (.aload_n 0, 1) := by decide +kernel
theorem d_Hr_edition_1 : decode b_Hr_edition 1 = .ok (.iload_n 1, 1) := by decide +kernel
theorem d_Hr_edition_2 : decode b_Hr_edition 2 = .ok (.invokevirtual 62, 3) := by decide +kernel
theorem d_Hr_edition_5 : decode b_Hr_edition 5 = .ok (.astore_n 3, 1) := by decide +kernel
theorem d_Hr_edition_6 : decode b_Hr_edition 6 = .ok (.aload_n 3, 1) := by decide +kernel
theorem d_Hr_edition_7 : decode b_Hr_edition 7 = .ok (.ifnonnull 6, 3) := by decide +kernel
theorem d_Hr_edition_10 : decode b_Hr_edition 10 = .ok (.bipush (-102), 2) := by decide +kernel
theorem d_Hr_edition_12 : decode b_Hr_edition 12 = .ok (.ireturn, 1) := by decide +kernel
theorem d_Hr_edition_13 : decode b_Hr_edition 13 = .ok (.iload_n 2, 1) := by decide +kernel
theorem d_Hr_edition_14 : decode b_Hr_edition 14 = .ok (.tableswitch 41 0 2 #[26, 31, 36], 26) := by decide +kernel
theorem d_Hr_edition_40 : decode b_Hr_edition 40 = .ok (.aload_n 3, 1) := by decide +kernel
theorem d_Hr_edition_41 : decode b_Hr_edition 41 = .ok (.getfield 74, 3) := by decide +kernel
theorem d_Hr_edition_44 : decode b_Hr_edition 44 = .ok (.ireturn, 1) := by decide +kernel
theorem d_Hr_edition_45 : decode b_Hr_edition 45 = .ok (.aload_n 3, 1) := by decide +kernel
theorem d_Hr_edition_46 : decode b_Hr_edition 46 = .ok (.getfield 77, 3) := by decide +kernel
theorem d_Hr_edition_49 : decode b_Hr_edition 49 = .ok (.ireturn, 1) := by decide +kernel
theorem d_Hr_edition_50 : decode b_Hr_edition 50 = .ok (.aload_n 3, 1) := by decide +kernel
theorem d_Hr_edition_51 : decode b_Hr_edition 51 = .ok (.getfield 140, 3) := by decide +kernel
theorem d_Hr_edition_54 : decode b_Hr_edition 54 = .ok (.ireturn, 1) := by decide +kernel
theorem d_Hr_edition_55 : decode b_Hr_edition 55 = .ok (.bipush (-102), 2) := by decide +kernel
theorem d_Hr_edition_57 : decode b_Hr_edition 57 = .ok (.ireturn, 1) := by decide +kernel
theorem d_Hr_same_0 : decode b_Hr_same 0 = .ok (.aload_n 0, 1) := by decide +kernel
theorem d_Hr_same_1 : decode b_Hr_same 1 = .ok (.iload_n 1, 1) := by decide +kernel
theorem d_Hr_same_2 : decode b_Hr_same 2 = .ok (.invokevirtual 90, 3) := by decide +kernel
theorem d_Hr_same_5 : decode b_Hr_same 5 = .ok (.astore_n 3, 1) := by decide +kernel
theorem d_Hr_same_6 : decode b_Hr_same 6 = .ok (.aload_n 0, 1) := by decide +kernel
theorem d_Hr_same_7 : decode b_Hr_same 7 = .ok (.iload_n 2, 1) := by decide +kernel
theorem d_Hr_same_8 : decode b_Hr_same 8 = .ok (.invokevirtual 90, 3) := by decide +kernel
theorem d_Hr_same_11 : decode b_Hr_same 11 = .ok (.astore 4, 2) := by decide +kernel
theorem d_Hr_same_13 : decode b_Hr_same 13 = .ok (.aload_n 3, 1) := by decide +kernel
theorem d_Hr_same_14 : decode b_Hr_same 14 = .ok (.ifnull 21, 3) := by decide +kernel
theorem d_Hr_same_17 : decode b_Hr_same 17 = .ok (.aload 4, 2) := by decide +kernel
theorem d_Hr_same_19 : decode b_Hr_same 19 = .ok (.ifnull 16, 3) := by decide +kernel
theorem d_Hr_same_22 : decode b_Hr_same 22 = .ok (.aload_n 3, 1) := by decide +kernel
theorem d_Hr_same_23 : decode b_Hr_same 23 = .ok (.aload 4, 2) := by decide +kernel
theorem d_Hr_same_25 : decode b_Hr_same 25 = .ok (.invokevirtual 176, 3) := by decide +kernel
theorem d_Hr_same_28 : decode b_Hr_same 28 = .ok (.ifCond .eq 7, 3) := by decide +kernel
theorem d_Hr_same_31 : decode b_Hr_same 31 = .ok (.iconst 1, 1) := by decide +kernel
theorem d_Hr_same_32 : decode b_Hr_same 32 = .ok (.goto 4, 3) := by decide +kernel
theorem d_Hr_same_35 : decode b_Hr_same 35 = .ok (.iconst 0, 1) := by decide +kernel
theorem d_Hr_same_36 : decode b_Hr_same 36 = .ok (.ireturn, 1) := by decide +kernel
theorem d_Hr_divide_0 : decode b_Hr_divide 0 = .ok (.aload_n 0, 1) := by decide +kernel
theorem d_Hr_divide_1 : decode b_Hr_divide 1 = .ok (.iload_n 1, 1) := by decide +kernel
theorem d_Hr_divide_2 : decode b_Hr_divide 2 = .ok (.invokevirtual 90, 3) := by decide +kernel
theorem d_Hr_divide_5 : decode b_Hr_divide 5 = .ok (.ifnonnull 7, 3) := by decide +kernel
theorem d_Hr_divide_8 : decode b_Hr_divide 8 = .ok (.ldc2_w 180, 3) := by decide +kernel
theorem d_Hr_divide_11 : decode b_Hr_divide 11 = .ok (.lreturn, 1) := by decide +kernel
theorem d_Hr_divide_12 : decode b_Hr_divide 12 = .ok (.lload 4, 2) := by decide +kernel
theorem d_Hr_divide_14 : decode b_Hr_divide 14 = .ok (.lconst 0, 1) := by decide +kernel
theorem d_Hr_divide_15 : decode b_Hr_divide 15 = .ok (.lcmp, 1) := by decide +kernel
theorem d_Hr_divide_16 : decode b_Hr_divide 16 = .ok (.ifCond .ne 13, 3) := by decide +kernel
theorem d_Hr_divide_19 : decode b_Hr_divide 19 = .ok (.new 182, 3) := by decide +kernel
theorem d_Hr_divide_22 : decode b_Hr_divide 22 = .ok (.dup, 1) := by decide +kernel
theorem d_Hr_divide_23 : decode b_Hr_divide 23 = .ok (.ldc 184, 2) := by decide +kernel
theorem d_Hr_divide_25 : decode b_Hr_divide 25 = .ok (.invokespecial 186, 3) := by decide +kernel
theorem d_Hr_divide_28 : decode b_Hr_divide 28 = .ok (.athrow, 1) := by decide +kernel
theorem d_Hr_divide_29 : decode b_Hr_divide 29 = .ok (.iconst 5, 1) := by decide +kernel
theorem d_Hr_divide_30 : decode b_Hr_divide 30 = .ok (.lload_n 2, 1) := by decide +kernel
theorem d_Hr_divide_31 : decode b_Hr_divide 31 = .ok (.lload 4, 2) := by decide +kernel
theorem d_Hr_divide_33 : decode b_Hr_divide 33 = .ok (.invokestatic 189, 3) := by decide +kernel
theorem d_Hr_divide_36 : decode b_Hr_divide 36 = .ok (.lreturn, 1) := by decide +kernel
theorem d_Hr_handle_0 : decode b_Hr_handle 0 = .ok (.iload_n 1, 1) := by decide +kernel
theorem d_Hr_handle_1 : decode b_Hr_handle 1 = .ok (.ifCond .lt 14, 3) := by decide +kernel
theorem d_Hr_handle_4 : decode b_Hr_handle 4 = .ok (.iload_n 1, 1) := by decide +kernel
theorem d_Hr_handle_5 : decode b_Hr_handle 5 = .ok (.aload_n 0, 1) := by decide +kernel
theorem d_Hr_handle_6 : decode b_Hr_handle 6 = .ok (.getfield 31, 3) := by decide +kernel
theorem d_Hr_handle_9 : decode b_Hr_handle 9 = .ok (.getfield 193, 3) := by decide +kernel
theorem d_Hr_handle_12 : decode b_Hr_handle 12 = .ok (.if_icmp .lt 6, 3) := by decide +kernel
theorem d_Hr_handle_15 : decode b_Hr_handle 15 = .ok (.bipush (-102), 2) := by decide +kernel
theorem d_Hr_handle_17 : decode b_Hr_handle 17 = .ok (.ireturn, 1) := by decide +kernel
theorem d_Hr_handle_18 : decode b_Hr_handle 18 = .ok (.new 196, 3) := by decide +kernel
theorem d_Hr_handle_21 : decode b_Hr_handle 21 = .ok (.dup, 1) := by decide +kernel
theorem d_Hr_handle_22 : decode b_Hr_handle 22 = .ok (.ldc 198, 2) := by decide +kernel
theorem d_Hr_handle_24 : decode b_Hr_handle 24 = .ok (.invokespecial 200, 3) := by decide +kernel
theorem d_Hr_handle_27 : decode b_Hr_handle 27 = .ok (.athrow, 1) := by decide +kernel
theorem d_Hr_editionAt_0 : decode b_Hr_editionAt 0 = .ok (.iload_n 1, 1) := by decide +kernel
theorem d_Hr_editionAt_1 : decode b_Hr_editionAt 1 = .ok (.ifCond .lt 18, 3) := by decide +kernel
theorem d_Hr_editionAt_4 : decode b_Hr_editionAt 4 = .ok (.iload_n 1, 1) := by decide +kernel
theorem d_Hr_editionAt_5 : decode b_Hr_editionAt 5 = .ok (.bipush 6, 2) := by decide +kernel
theorem d_Hr_editionAt_7 : decode b_Hr_editionAt 7 = .ok (.if_icmp .ge 12, 3) := by decide +kernel
theorem d_Hr_editionAt_10 : decode b_Hr_editionAt 10 = .ok (.aload_n 0, 1) := by decide +kernel
theorem d_Hr_editionAt_11 : decode b_Hr_editionAt 11 = .ok (.getfield 11, 3) := by decide +kernel
theorem d_Hr_editionAt_14 : decode b_Hr_editionAt 14 = .ok (.iload_n 1, 1) := by decide +kernel
theorem d_Hr_editionAt_15 : decode b_Hr_editionAt 15 = .ok (.aaload, 1) := by decide +kernel
theorem d_Hr_editionAt_16 : decode b_Hr_editionAt 16 = .ok (.goto 4, 3) := by decide +kernel
theorem d_Hr_editionAt_19 : decode b_Hr_editionAt 19 = .ok (.aconst_null, 1) := by decide +kernel
theorem d_Hr_editionAt_20 : decode b_Hr_editionAt 20 = .ok (.areturn, 1) := by decide +kernel
theorem d_Hr_ruleAt_0 : decode b_Hr_ruleAt 0 = .ok (.iload_n 1, 1) := by decide +kernel
theorem d_Hr_ruleAt_1 : decode b_Hr_ruleAt 1 = .ok (.ifCond .lt 26, 3) := by decide +kernel
theorem d_Hr_ruleAt_4 : decode b_Hr_ruleAt 4 = .ok (.iload_n 1, 1) := by decide +kernel
theorem d_Hr_ruleAt_5 : decode b_Hr_ruleAt 5 = .ok (.aload_n 0, 1) := by decide +kernel
theorem d_Hr_ruleAt_6 : decode b_Hr_ruleAt 6 = .ok (.getfield 21, 3) := by decide +kernel
theorem d_Hr_ruleAt_9 : decode b_Hr_ruleAt 9 = .ok (.if_icmp .ge 18, 3) := by decide +kernel
theorem d_Hr_ruleAt_12 : decode b_Hr_ruleAt 12 = .ok (.iload_n 1, 1) := by decide +kernel
theorem d_Hr_ruleAt_13 : decode b_Hr_ruleAt 13 = .ok (.bipush 40, 2) := by decide +kernel
theorem d_Hr_ruleAt_15 : decode b_Hr_ruleAt 15 = .ok (.if_icmp .ge 12, 3) := by decide +kernel
theorem d_Hr_ruleAt_18 : decode b_Hr_ruleAt 18 = .ok (.aload_n 0, 1) := by decide +kernel
theorem d_Hr_ruleAt_19 : decode b_Hr_ruleAt 19 = .ok (.getfield 17, 3) := by decide +kernel
theorem d_Hr_ruleAt_22 : decode b_Hr_ruleAt 22 = .ok (.iload_n 1, 1) := by decide +kernel
theorem d_Hr_ruleAt_23 : decode b_Hr_ruleAt 23 = .ok (.aaload, 1) := by decide +kernel
theorem d_Hr_ruleAt_24 : decode b_Hr_ruleAt 24 = .ok (.goto 4, 3) := by decide +kernel
theorem d_Hr_ruleAt_27 : decode b_Hr_ruleAt 27 = .ok (.aconst_null, 1) := by decide +kernel
theorem d_Hr_ruleAt_28 : decode b_Hr_ruleAt 28 = .ok (.areturn, 1) := by decide +kernel
theorem d_Hr_inForceOn_0 : decode b_Hr_inForceOn 0 = .ok (.aconst_null, 1) := by decide +kernel
theorem d_Hr_inForceOn_1 : decode b_Hr_inForceOn 1 = .ok (.astore_n 2, 1) := by decide +kernel
theorem d_Hr_inForceOn_2 : decode b_Hr_inForceOn 2 = .ok (.iconst 0, 1) := by decide +kernel
theorem d_Hr_inForceOn_3 : decode b_Hr_inForceOn 3 = .ok (.istore_n 3, 1) := by decide +kernel
theorem d_Hr_inForceOn_4 : decode b_Hr_inForceOn 4 = .ok (.iload_n 3, 1) := by decide +kernel
theorem d_Hr_inForceOn_5 : decode b_Hr_inForceOn 5 = .ok (.bipush 6, 2) := by decide +kernel
theorem d_Hr_inForceOn_7 : decode b_Hr_inForceOn 7 = .ok (.if_icmp .ge 43, 3) := by decide +kernel
theorem d_Hr_inForceOn_10 : decode b_Hr_inForceOn 10 = .ok (.aload_n 0, 1) := by decide +kernel
theorem d_Hr_inForceOn_11 : decode b_Hr_inForceOn 11 = .ok (.getfield 11, 3) := by decide +kernel
theorem d_Hr_inForceOn_14 : decode b_Hr_inForceOn 14 = .ok (.iload_n 3, 1) := by decide +kernel
theorem d_Hr_inForceOn_15 : decode b_Hr_inForceOn 15 = .ok (.aaload, 1) := by decide +kernel
theorem d_Hr_inForceOn_16 : decode b_Hr_inForceOn 16 = .ok (.astore 4, 2) := by decide +kernel
theorem d_Hr_inForceOn_18 : decode b_Hr_inForceOn 18 = .ok (.aload 4, 2) := by decide +kernel
theorem d_Hr_inForceOn_20 : decode b_Hr_inForceOn 20 = .ok (.ifnull 24, 3) := by decide +kernel
theorem d_Hr_inForceOn_23 : decode b_Hr_inForceOn 23 = .ok (.aload 4, 2) := by decide +kernel
theorem d_Hr_inForceOn_25 : decode b_Hr_inForceOn 25 = .ok (.iload_n 1, 1) := by decide +kernel
theorem d_Hr_inForceOn_26 : decode b_Hr_inForceOn 26 = .ok (.invokevirtual 201, 3) := by decide +kernel
theorem d_Hr_inForceOn_29 : decode b_Hr_inForceOn 29 = .ok (.ifCond .eq 15, 3) := by decide +kernel
theorem d_Hr_inForceOn_32 : decode b_Hr_inForceOn 32 = .ok (.aload 4, 2) := by decide +kernel
theorem d_Hr_inForceOn_34 : decode b_Hr_inForceOn 34 = .ok (.aload_n 2, 1) := by decide +kernel
theorem d_Hr_inForceOn_35 : decode b_Hr_inForceOn 35 = .ok (.invokevirtual 204, 3) := by decide +kernel
theorem d_Hr_inForceOn_38 : decode b_Hr_inForceOn 38 = .ok (.ifCond .eq 6, 3) := by decide +kernel
theorem d_Hr_inForceOn_41 : decode b_Hr_inForceOn 41 = .ok (.aload 4, 2) := by decide +kernel
theorem d_Hr_inForceOn_43 : decode b_Hr_inForceOn 43 = .ok (.astore_n 2, 1) := by decide +kernel
theorem d_Hr_inForceOn_44 : decode b_Hr_inForceOn 44 = .ok (.iinc 3 1, 3) := by decide +kernel
theorem d_Hr_inForceOn_47 : decode b_Hr_inForceOn 47 = .ok (.goto (-43), 3) := by decide +kernel
theorem d_Hr_inForceOn_50 : decode b_Hr_inForceOn 50 = .ok (.aload_n 2, 1) := by decide +kernel
theorem d_Hr_inForceOn_51 : decode b_Hr_inForceOn 51 = .ok (.areturn, 1) := by decide +kernel
theorem d_Hr_forgetLatestRun_0 : decode b_Hr_forgetLatestRun 0 = .ok (.aload_n 0, 1) := by decide +kernel
theorem d_Hr_forgetLatestRun_1 : decode b_Hr_forgetLatestRun 1 = .ok (.getfield 31, 3) := by decide +kernel
theorem d_Hr_forgetLatestRun_4 : decode b_Hr_forgetLatestRun 4 = .ok (.iconst 0, 1) := by decide +kernel
theorem d_Hr_forgetLatestRun_5 : decode b_Hr_forgetLatestRun 5 = .ok (.putfield 193, 3) := by decide +kernel
theorem d_Hr_forgetLatestRun_8 : decode b_Hr_forgetLatestRun 8 = .ok (.aload_n 0, 1) := by decide +kernel
theorem d_Hr_forgetLatestRun_9 : decode b_Hr_forgetLatestRun 9 = .ok (.getfield 45, 3) := by decide +kernel
theorem d_Hr_forgetLatestRun_12 : decode b_Hr_forgetLatestRun 12 = .ok (.iconst 0, 1) := by decide +kernel
theorem d_Hr_forgetLatestRun_13 : decode b_Hr_forgetLatestRun 13 = .ok (.putfield 137, 3) := by decide +kernel
theorem d_Hr_forgetLatestRun_16 : decode b_Hr_forgetLatestRun 16 = .ok (.return_, 1) := by decide +kernel
theorem d_Hr_doRule_0 : decode b_Hr_doRule 0 = .ok (.aload_n 0, 1) := by decide +kernel
theorem d_Hr_doRule_1 : decode b_Hr_doRule 1 = .ok (.getfield 31, 3) := by decide +kernel
theorem d_Hr_doRule_4 : decode b_Hr_doRule 4 = .ok (.aload_n 1, 1) := by decide +kernel
theorem d_Hr_doRule_5 : decode b_Hr_doRule 5 = .ok (.aload_n 0, 1) := by decide +kernel
theorem d_Hr_doRule_6 : decode b_Hr_doRule 6 = .ok (.getfield 58, 3) := by decide +kernel
theorem d_Hr_doRule_9 : decode b_Hr_doRule 9 = .ok (.invokevirtual 208, 3) := by decide +kernel
theorem d_Hr_doRule_12 : decode b_Hr_doRule 12 = .ok (.istore_n 2, 1) := by decide +kernel
theorem d_Hr_doRule_13 : decode b_Hr_doRule 13 = .ok (.aload_n 0, 1) := by decide +kernel
theorem d_Hr_doRule_14 : decode b_Hr_doRule 14 = .ok (.getfield 31, 3) := by decide +kernel
theorem d_Hr_doRule_17 : decode b_Hr_doRule 17 = .ok (.getfield 212, 3) := by decide +kernel
theorem d_Hr_doRule_20 : decode b_Hr_doRule 20 = .ok (.ifCond .eq 21, 3) := by decide +kernel
theorem d_Hr_doRule_23 : decode b_Hr_doRule 23 = .ok (.aload_n 0, 1) := by decide +kernel
theorem d_Hr_doRule_24 : decode b_Hr_doRule 24 = .ok (.getfield 45, 3) := by decide +kernel
theorem d_Hr_doRule_27 : decode b_Hr_doRule 27 = .ok (.aload_n 1, 1) := by decide +kernel
theorem d_Hr_doRule_28 : decode b_Hr_doRule 28 = .ok (.getfield 87, 3) := by decide +kernel
theorem d_Hr_doRule_31 : decode b_Hr_doRule 31 = .ok (.aload_n 0, 1) := by decide +kernel
theorem d_Hr_doRule_32 : decode b_Hr_doRule 32 = .ok (.getfield 31, 3) := by decide +kernel
theorem d_Hr_doRule_35 : decode b_Hr_doRule 35 = .ok (.getfield 212, 3) := by decide +kernel
theorem d_Hr_doRule_38 : decode b_Hr_doRule 38 = .ok (.invokevirtual 215, 3) := by decide +kernel
theorem d_Hr_doRule_41 : decode b_Hr_doRule 41 = .ok (.iload_n 2, 1) := by decide +kernel
theorem d_Hr_doRule_42 : decode b_Hr_doRule 42 = .ok (.ireturn, 1) := by decide +kernel
theorem d_Hr_settle_0 : decode b_Hr_settle 0 = .ok (.aload_n 0, 1) := by decide +kernel
theorem d_Hr_settle_1 : decode b_Hr_settle 1 = .ok (.getfield 31, 3) := by decide +kernel
theorem d_Hr_settle_4 : decode b_Hr_settle 4 = .ok (.getfield 212, 3) := by decide +kernel
theorem d_Hr_settle_7 : decode b_Hr_settle 7 = .ok (.ifCond .ne 31, 3) := by decide +kernel
theorem d_Hr_settle_10 : decode b_Hr_settle 10 = .ok (.aload_n 1, 1) := by decide +kernel
theorem d_Hr_settle_11 : decode b_Hr_settle 11 = .ok (.aload_n 0, 1) := by decide +kernel
theorem d_Hr_settle_12 : decode b_Hr_settle 12 = .ok (.getfield 31, 3) := by decide +kernel
theorem d_Hr_settle_15 : decode b_Hr_settle 15 = .ok (.getfield 219, 3) := by decide +kernel
theorem d_Hr_settle_18 : decode b_Hr_settle 18 = .ok (.putfield 173, 3) := by decide +kernel
theorem d_Hr_settle_21 : decode b_Hr_settle 21 = .ok (.aload_n 0, 1) := by decide +kernel
theorem d_Hr_settle_22 : decode b_Hr_settle 22 = .ok (.getfield 38, 3) := by decide +kernel
theorem d_Hr_settle_25 : decode b_Hr_settle 25 = .ok (.aload_n 0, 1) := by decide +kernel
theorem d_Hr_settle_26 : decode b_Hr_settle 26 = .ok (.getfield 31, 3) := by decide +kernel
theorem d_Hr_settle_29 : decode b_Hr_settle 29 = .ok (.getfield 220, 3) := by decide +kernel
theorem d_Hr_settle_32 : decode b_Hr_settle 32 = .ok (.invokevirtual 223, 3) := by decide +kernel
theorem d_Hr_settle_35 : decode b_Hr_settle 35 = .ok (.goto 45, 3) := by decide +kernel
theorem d_Hr_settle_38 : decode b_Hr_settle 38 = .ok (.aload_n 1, 1) := by decide +kernel
theorem d_Hr_settle_39 : decode b_Hr_settle 39 = .ok (.getfield 115, 3) := by decide +kernel
theorem d_Hr_settle_42 : decode b_Hr_settle 42 = .ok (.iconst (-1), 1) := by decide +kernel
theorem d_Hr_settle_43 : decode b_Hr_settle 43 = .ok (.if_icmp .eq 37, 3) := by decide +kernel
theorem d_Hr_settle_46 : decode b_Hr_settle 46 = .ok (.aload_n 0, 1) := by decide +kernel
theorem d_Hr_settle_47 : decode b_Hr_settle 47 = .ok (.getfield 38, 3) := by decide +kernel
theorem d_Hr_settle_50 : decode b_Hr_settle 50 = .ok (.aload_n 1, 1) := by decide +kernel
theorem d_Hr_settle_51 : decode b_Hr_settle 51 = .ok (.getfield 115, 3) := by decide +kernel
theorem d_Hr_settle_54 : decode b_Hr_settle 54 = .ok (.invokevirtual 227, 3) := by decide +kernel
theorem d_Hr_settle_57 : decode b_Hr_settle 57 = .ok (.ifCond .ne 23, 3) := by decide +kernel
theorem d_Hr_settle_60 : decode b_Hr_settle 60 = .ok (.aload_n 0, 1) := by decide +kernel
theorem d_Hr_settle_61 : decode b_Hr_settle 61 = .ok (.getfield 38, 3) := by decide +kernel
theorem d_Hr_settle_64 : decode b_Hr_settle 64 = .ok (.aload_n 1, 1) := by decide +kernel
theorem d_Hr_settle_65 : decode b_Hr_settle 65 = .ok (.getfield 115, 3) := by decide +kernel
theorem d_Hr_settle_68 : decode b_Hr_settle 68 = .ok (.i2l, 1) := by decide +kernel
theorem d_Hr_settle_69 : decode b_Hr_settle 69 = .ok (.aload_n 1, 1) := by decide +kernel
theorem d_Hr_settle_70 : decode b_Hr_settle 70 = .ok (.getfield 118, 3) := by decide +kernel
theorem d_Hr_settle_73 : decode b_Hr_settle 73 = .ok (.aload_n 1, 1) := by decide +kernel
theorem d_Hr_settle_74 : decode b_Hr_settle 74 = .ok (.getfield 87, 3) := by decide +kernel
theorem d_Hr_settle_77 : decode b_Hr_settle 77 = .ok (.invokevirtual 230, 3) := by decide +kernel
theorem d_Hr_settle_80 : decode b_Hr_settle 80 = .ok (.return_, 1) := by decide +kernel
theorem d_Hr_isWithin_0 : decode b_Hr_isWithin 0 = .ok (.lload_n 0, 1) := by decide +kernel
theorem d_Hr_isWithin_1 : decode b_Hr_isWithin 1 = .ok (.lload_n 2, 1) := by decide +kernel
theorem d_Hr_isWithin_2 : decode b_Hr_isWithin 2 = .ok (.lcmp, 1) := by decide +kernel
theorem d_Hr_isWithin_3 : decode b_Hr_isWithin 3 = .ok (.ifCond .lt 14, 3) := by decide +kernel
theorem d_Hr_isWithin_6 : decode b_Hr_isWithin 6 = .ok (.lload_n 0, 1) := by decide +kernel
theorem d_Hr_isWithin_7 : decode b_Hr_isWithin 7 = .ok (.lload 4, 2) := by decide +kernel
theorem d_Hr_isWithin_9 : decode b_Hr_isWithin 9 = .ok (.lcmp, 1) := by decide +kernel
theorem d_Hr_isWithin_10 : decode b_Hr_isWithin 10 = .ok (.ifCond .gt 7, 3) := by decide +kernel
theorem d_Hr_isWithin_13 : decode b_Hr_isWithin 13 = .ok (.iconst 1, 1) := by decide +kernel
theorem d_Hr_isWithin_14 : decode b_Hr_isWithin 14 = .ok (.goto 4, 3) := by decide +kernel
theorem d_Hr_isWithin_17 : decode b_Hr_isWithin 17 = .ok (.iconst 0, 1) := by decide +kernel
theorem d_Hr_isWithin_18 : decode b_Hr_isWithin 18 = .ok (.ireturn, 1) := by decide +kernel
theorem d_Hr_isInstruction_0 : decode b_Hr_isInstruction 0 = .ok (.iload_n 0, 1) := by decide +kernel
theorem d_Hr_isInstruction_1 : decode b_Hr_isInstruction 1 = .ok (.lookupswitch 86 #[(1, 43), (9, 52), (10, 77), (13, 43)], 43) := by decide +kernel
theorem d_Hr_isInstruction_44 : decode b_Hr_isInstruction 44 = .ok (.lload_n 1, 1) := by decide +kernel
theorem d_Hr_isInstruction_45 : decode b_Hr_isInstruction 45 = .ok (.lconst 0, 1) := by decide +kernel
theorem d_Hr_isInstruction_46 : decode b_Hr_isInstruction 46 = .ok (.ldc2_w 122, 3) := by decide +kernel
theorem d_Hr_isInstruction_49 : decode b_Hr_isInstruction 49 = .ok (.invokestatic 68, 3) := by decide +kernel
theorem d_Hr_isInstruction_52 : decode b_Hr_isInstruction 52 = .ok (.ireturn, 1) := by decide +kernel
theorem d_Hr_isInstruction_53 : decode b_Hr_isInstruction 53 = .ok (.lload_n 1, 1) := by decide +kernel
theorem d_Hr_isInstruction_54 : decode b_Hr_isInstruction 54 = .ok (.lconst 0, 1) := by decide +kernel
theorem d_Hr_isInstruction_55 : decode b_Hr_isInstruction 55 = .ok (.lcmp, 1) := by decide +kernel
theorem d_Hr_isInstruction_56 : decode b_Hr_isInstruction 56 = .ok (.ifCond .eq 20, 3) := by decide +kernel
theorem d_Hr_isInstruction_59 : decode b_Hr_isInstruction 59 = .ok (.lload_n 1, 1) := by decide +kernel
theorem d_Hr_isInstruction_60 : decode b_Hr_isInstruction 60 = .ok (.ldc2_w 234, 3) := by decide +kernel
theorem d_Hr_isInstruction_63 : decode b_Hr_isInstruction 63 = .ok (.ldc2_w 236, 3) := by decide +kernel
theorem d_Hr_isInstruction_66 : decode b_Hr_isInstruction 66 = .ok (.invokestatic 68, 3) := by decide +kernel
theorem d_Hr_isInstruction_69 : decode b_Hr_isInstruction 69 = .ok (.ifCond .eq 7, 3) := by decide +kernel
theorem d_Hr_isInstruction_72 : decode b_Hr_isInstruction 72 = .ok (.iconst 1, 1) := by decide +kernel
theorem d_Hr_isInstruction_73 : decode b_Hr_isInstruction 73 = .ok (.goto 4, 3) := by decide +kernel
theorem d_Hr_isInstruction_76 : decode b_Hr_isInstruction 76 = .ok (.iconst 0, 1) := by decide +kernel
theorem d_Hr_isInstruction_77 : decode b_Hr_isInstruction 77 = .ok (.ireturn, 1) := by decide +kernel
theorem d_Hr_isInstruction_78 : decode b_Hr_isInstruction 78 = .ok (.lload_n 1, 1) := by decide +kernel
theorem d_Hr_isInstruction_79 : decode b_Hr_isInstruction 79 = .ok (.lconst 0, 1) := by decide +kernel
theorem d_Hr_isInstruction_80 : decode b_Hr_isInstruction 80 = .ok (.ldc2_w 113, 3) := by decide +kernel
theorem d_Hr_isInstruction_83 : decode b_Hr_isInstruction 83 = .ok (.invokestatic 68, 3) := by decide +kernel
theorem d_Hr_isInstruction_86 : decode b_Hr_isInstruction 86 = .ok (.ireturn, 1) := by decide +kernel
theorem d_Hr_isInstruction_87 : decode b_Hr_isInstruction 87 = .ok (.iload_n 0, 1) := by decide +kernel
theorem d_Hr_isInstruction_88 : decode b_Hr_isInstruction 88 = .ok (.i2l, 1) := by decide +kernel
theorem d_Hr_isInstruction_89 : decode b_Hr_isInstruction 89 = .ok (.lconst 0, 1) := by decide +kernel
theorem d_Hr_isInstruction_90 : decode b_Hr_isInstruction 90 = .ok (.ldc2_w 238, 3) := by decide +kernel
theorem d_Hr_isInstruction_93 : decode b_Hr_isInstruction 93 = .ok (.invokestatic 68, 3) := by decide +kernel
theorem d_Hr_isInstruction_96 : decode b_Hr_isInstruction 96 = .ok (.ireturn, 1) := by decide +kernel
theorem d_Hr_hasNumber_0 : decode b_Hr_hasNumber 0 = .ok (.iload_n 0, 1) := by decide +kernel
theorem d_Hr_hasNumber_1 : decode b_Hr_hasNumber 1 = .ok (.ifCond .eq 26, 3) := by decide +kernel
theorem d_Hr_hasNumber_4 : decode b_Hr_hasNumber 4 = .ok (.iload_n 0, 1) := by decide +kernel
theorem d_Hr_hasNumber_5 : decode b_Hr_hasNumber 5 = .ok (.iconst 1, 1) := by decide +kernel
theorem d_Hr_hasNumber_6 : decode b_Hr_hasNumber 6 = .ok (.if_icmp .eq 21, 3) := by decide +kernel
theorem d_Hr_hasNumber_9 : decode b_Hr_hasNumber 9 = .ok (.iload_n 0, 1) := by decide +kernel
theorem d_Hr_hasNumber_10 : decode b_Hr_hasNumber 10 = .ok (.bipush 9, 2) := by decide +kernel
theorem d_Hr_hasNumber_12 : decode b_Hr_hasNumber 12 = .ok (.if_icmp .eq 15, 3) := by decide +kernel
theorem d_Hr_hasNumber_15 : decode b_Hr_hasNumber 15 = .ok (.iload_n 0, 1) := by decide +kernel
theorem d_Hr_hasNumber_16 : decode b_Hr_hasNumber 16 = .ok (.bipush 10, 2) := by decide +kernel
theorem d_Hr_hasNumber_18 : decode b_Hr_hasNumber 18 = .ok (.if_icmp .eq 9, 3) := by decide +kernel
theorem d_Hr_hasNumber_21 : decode b_Hr_hasNumber 21 = .ok (.iload_n 0, 1) := by decide +kernel
theorem d_Hr_hasNumber_22 : decode b_Hr_hasNumber 22 = .ok (.bipush 13, 2) := by decide +kernel
theorem d_Hr_hasNumber_24 : decode b_Hr_hasNumber 24 = .ok (.if_icmp .ne 7, 3) := by decide +kernel
theorem d_Hr_hasNumber_27 : decode b_Hr_hasNumber 27 = .ok (.iconst 1, 1) := by decide +kernel
theorem d_Hr_hasNumber_28 : decode b_Hr_hasNumber 28 = .ok (.goto 4, 3) := by decide +kernel
theorem d_Hr_hasNumber_31 : decode b_Hr_hasNumber 31 = .ok (.iconst 0, 1) := by decide +kernel
theorem d_Hr_hasNumber_32 : decode b_Hr_hasNumber 32 = .ok (.ireturn, 1) := by decide +kernel
theorem d_Hr_takesTwo_0 : decode b_Hr_takesTwo 0 = .ok (.iload_n 0, 1) := by decide +kernel
theorem d_Hr_takesTwo_1 : decode b_Hr_takesTwo 1 = .ok (.iconst 2, 1) := by decide +kernel
theorem d_Hr_takesTwo_2 : decode b_Hr_takesTwo 2 = .ok (.if_icmp .lt 13, 3) := by decide +kernel
theorem d_Hr_takesTwo_5 : decode b_Hr_takesTwo 5 = .ok (.iload_n 0, 1) := by decide +kernel
theorem d_Hr_takesTwo_6 : decode b_Hr_takesTwo 6 = .ok (.bipush 7, 2) := by decide +kernel
theorem d_Hr_takesTwo_8 : decode b_Hr_takesTwo 8 = .ok (.if_icmp .gt 7, 3) := by decide +kernel
theorem d_Hr_takesTwo_11 : decode b_Hr_takesTwo 11 = .ok (.iconst 1, 1) := by decide +kernel
theorem d_Hr_takesTwo_12 : decode b_Hr_takesTwo 12 = .ok (.goto 4, 3) := by decide +kernel
theorem d_Hr_takesTwo_15 : decode b_Hr_takesTwo 15 = .ok (.iconst 0, 1) := by decide +kernel
theorem d_Hr_takesTwo_16 : decode b_Hr_takesTwo 16 = .ok (.ireturn, 1) := by decide +kernel
theorem d_Hr_takes_0 : decode b_Hr_takes 0 = .ok (.iload_n 0, 1) := by decide +kernel
theorem d_Hr_takes_1 : decode b_Hr_takes 1 = .ok (.invokestatic 240, 3) := by decide +kernel
theorem d_Hr_takes_4 : decode b_Hr_takes 4 = .ok (.ifCond .eq 5, 3) := by decide +kernel
theorem d_Hr_takes_7 : decode b_Hr_takes 7 = .ok (.iconst 2, 1) := by decide +kernel
theorem d_Hr_takes_8 : decode b_Hr_takes 8 = .ok (.ireturn, 1) := by decide +kernel
theorem d_Hr_takes_9 : decode b_Hr_takes 9 = .ok (.iload_n 0, 1) := by decide +kernel
theorem d_Hr_takes_10 : decode b_Hr_takes 10 = .ok (.bipush 8, 2) := by decide +kernel
theorem d_Hr_takes_12 : decode b_Hr_takes 12 = .ok (.if_icmp .lt 9, 3) := by decide +kernel
theorem d_Hr_takes_15 : decode b_Hr_takes 15 = .ok (.iload_n 0, 1) := by decide +kernel
theorem d_Hr_takes_16 : decode b_Hr_takes 16 = .ok (.bipush 11, 2) := by decide +kernel
theorem d_Hr_takes_18 : decode b_Hr_takes 18 = .ok (.if_icmp .le 9, 3) := by decide +kernel
theorem d_Hr_takes_21 : decode b_Hr_takes 21 = .ok (.iload_n 0, 1) := by decide +kernel
theorem d_Hr_takes_22 : decode b_Hr_takes 22 = .ok (.bipush 14, 2) := by decide +kernel
theorem d_Hr_takes_24 : decode b_Hr_takes 24 = .ok (.if_icmp .ne 7, 3) := by decide +kernel
theorem d_Hr_takes_27 : decode b_Hr_takes 27 = .ok (.iconst 1, 1) := by decide +kernel
theorem d_Hr_takes_28 : decode b_Hr_takes 28 = .ok (.goto 4, 3) := by decide +kernel
theorem d_Hr_takes_31 : decode b_Hr_takes 31 = .ok (.iconst 0, 1) := by decide +kernel
theorem d_Hr_takes_32 : decode b_Hr_takes 32 = .ok (.ireturn, 1) := by decide +kernel
theorem d_Hr_puts_0 : decode b_Hr_puts 0 = .ok (.iload_n 0, 1) := by decide +kernel
theorem d_Hr_puts_1 : decode b_Hr_puts 1 = .ok (.bipush 9, 2) := by decide +kernel
theorem d_Hr_puts_3 : decode b_Hr_puts 3 = .ok (.if_icmp .lt 9, 3) := by decide +kernel
theorem d_Hr_puts_6 : decode b_Hr_puts 6 = .ok (.iload_n 0, 1) := by decide +kernel
theorem d_Hr_puts_7 : decode b_Hr_puts 7 = .ok (.bipush 11, 2) := by decide +kernel
theorem d_Hr_puts_9 : decode b_Hr_puts 9 = .ok (.if_icmp .le 9, 3) := by decide +kernel
theorem d_Hr_puts_12 : decode b_Hr_puts 12 = .ok (.iload_n 0, 1) := by decide +kernel
theorem d_Hr_puts_13 : decode b_Hr_puts 13 = .ok (.bipush 15, 2) := by decide +kernel
theorem d_Hr_puts_15 : decode b_Hr_puts 15 = .ok (.if_icmp .ne 7, 3) := by decide +kernel
theorem d_Hr_puts_18 : decode b_Hr_puts 18 = .ok (.iconst 0, 1) := by decide +kernel
theorem d_Hr_puts_19 : decode b_Hr_puts 19 = .ok (.goto 4, 3) := by decide +kernel
theorem d_Hr_puts_22 : decode b_Hr_puts 22 = .ok (.iconst 1, 1) := by decide +kernel
theorem d_Hr_puts_23 : decode b_Hr_puts 23 = .ok (.ireturn, 1) := by decide +kernel
theorem d_Hr_combine_0 : decode b_Hr_combine 0 = .ok (.iload_n 0, 1) := by decide +kernel
theorem d_Hr_combine_1 : decode b_Hr_combine 1 = .ok (.tableswitch 73 2 6 #[35, 39, 43, 47, 61], 35) := by decide +kernel
theorem d_Hr_combine_36 : decode b_Hr_combine 36 = .ok (.lload_n 1, 1) := by decide +kernel
theorem d_Hr_combine_37 : decode b_Hr_combine 37 = .ok (.lload_n 3, 1) := by decide +kernel
theorem d_Hr_combine_38 : decode b_Hr_combine 38 = .ok (.ladd, 1) := by decide +kernel
theorem d_Hr_combine_39 : decode b_Hr_combine 39 = .ok (.lreturn, 1) := by decide +kernel
theorem d_Hr_combine_40 : decode b_Hr_combine 40 = .ok (.lload_n 1, 1) := by decide +kernel
theorem d_Hr_combine_41 : decode b_Hr_combine 41 = .ok (.lload_n 3, 1) := by decide +kernel
theorem d_Hr_combine_42 : decode b_Hr_combine 42 = .ok (.lsub, 1) := by decide +kernel
theorem d_Hr_combine_43 : decode b_Hr_combine 43 = .ok (.lreturn, 1) := by decide +kernel
theorem d_Hr_combine_44 : decode b_Hr_combine 44 = .ok (.lload_n 1, 1) := by decide +kernel
theorem d_Hr_combine_45 : decode b_Hr_combine 45 = .ok (.lload_n 3, 1) := by decide +kernel
theorem d_Hr_combine_46 : decode b_Hr_combine 46 = .ok (.lmul, 1) := by decide +kernel
theorem d_Hr_combine_47 : decode b_Hr_combine 47 = .ok (.lreturn, 1) := by decide +kernel
theorem d_Hr_combine_48 : decode b_Hr_combine 48 = .ok (.lload_n 3, 1) := by decide +kernel
theorem d_Hr_combine_49 : decode b_Hr_combine 49 = .ok (.lconst 0, 1) := by decide +kernel
theorem d_Hr_combine_50 : decode b_Hr_combine 50 = .ok (.lcmp, 1) := by decide +kernel
theorem d_Hr_combine_51 : decode b_Hr_combine 51 = .ok (.ifCond .ne 7, 3) := by decide +kernel
theorem d_Hr_combine_54 : decode b_Hr_combine 54 = .ok (.lconst 0, 1) := by decide +kernel
theorem d_Hr_combine_55 : decode b_Hr_combine 55 = .ok (.goto 6, 3) := by decide +kernel
theorem d_Hr_combine_58 : decode b_Hr_combine 58 = .ok (.lload_n 1, 1) := by decide +kernel
theorem d_Hr_combine_59 : decode b_Hr_combine 59 = .ok (.lload_n 3, 1) := by decide +kernel
theorem d_Hr_combine_60 : decode b_Hr_combine 60 = .ok (.ldiv, 1) := by decide +kernel
theorem d_Hr_combine_61 : decode b_Hr_combine 61 = .ok (.lreturn, 1) := by decide +kernel
theorem d_Hr_combine_62 : decode b_Hr_combine 62 = .ok (.lload_n 1, 1) := by decide +kernel
theorem d_Hr_combine_63 : decode b_Hr_combine 63 = .ok (.lload_n 3, 1) := by decide +kernel
theorem d_Hr_combine_64 : decode b_Hr_combine 64 = .ok (.lcmp, 1) := by decide +kernel
theorem d_Hr_combine_65 : decode b_Hr_combine 65 = .ok (.ifCond .ge 7, 3) := by decide +kernel
theorem d_Hr_combine_68 : decode b_Hr_combine 68 = .ok (.lconst 1, 1) := by decide +kernel
theorem d_Hr_combine_69 : decode b_Hr_combine 69 = .ok (.goto 4, 3) := by decide +kernel
theorem d_Hr_combine_72 : decode b_Hr_combine 72 = .ok (.lconst 0, 1) := by decide +kernel
theorem d_Hr_combine_73 : decode b_Hr_combine 73 = .ok (.lreturn, 1) := by decide +kernel
theorem d_Hr_combine_74 : decode b_Hr_combine 74 = .ok (.lload_n 1, 1) := by decide +kernel
theorem d_Hr_combine_75 : decode b_Hr_combine 75 = .ok (.lload_n 3, 1) := by decide +kernel
theorem d_Hr_combine_76 : decode b_Hr_combine 76 = .ok (.lcmp, 1) := by decide +kernel
theorem d_Hr_combine_77 : decode b_Hr_combine 77 = .ok (.ifCond .ne 7, 3) := by decide +kernel
theorem d_Hr_combine_80 : decode b_Hr_combine 80 = .ok (.lconst 1, 1) := by decide +kernel
theorem d_Hr_combine_81 : decode b_Hr_combine 81 = .ok (.goto 4, 3) := by decide +kernel
theorem d_Hr_combine_84 : decode b_Hr_combine 84 = .ok (.lconst 0, 1) := by decide +kernel
theorem d_Hr_combine_85 : decode b_Hr_combine 85 = .ok (.lreturn, 1) := by decide +kernel
theorem d_Ma_maxI_0 : decode b_Ma_maxI 0 = .ok (.iload_n 0, 1) := by decide +kernel
theorem d_Ma_maxI_1 : decode b_Ma_maxI 1 = .ok (.iload_n 1, 1) := by decide +kernel
theorem d_Ma_maxI_2 : decode b_Ma_maxI 2 = .ok (.if_icmp .lt 7, 3) := by decide +kernel
theorem d_Ma_maxI_5 : decode b_Ma_maxI 5 = .ok (.iload_n 0, 1) := by decide +kernel
theorem d_Ma_maxI_6 : decode b_Ma_maxI 6 = .ok (.goto 4, 3) := by decide +kernel
theorem d_Ma_maxI_9 : decode b_Ma_maxI 9 = .ok (.iload_n 1, 1) := by decide +kernel
theorem d_Ma_maxI_10 : decode b_Ma_maxI 10 = .ok (.ireturn, 1) := by decide +kernel
theorem d_Ma_maxJ_0 : decode b_Ma_maxJ 0 = .ok (.lload_n 0, 1) := by decide +kernel
theorem d_Ma_maxJ_1 : decode b_Ma_maxJ 1 = .ok (.lload_n 2, 1) := by decide +kernel
theorem d_Ma_maxJ_2 : decode b_Ma_maxJ 2 = .ok (.lcmp, 1) := by decide +kernel
theorem d_Ma_maxJ_3 : decode b_Ma_maxJ 3 = .ok (.ifCond .lt 7, 3) := by decide +kernel
theorem d_Ma_maxJ_6 : decode b_Ma_maxJ 6 = .ok (.lload_n 0, 1) := by decide +kernel
theorem d_Ma_maxJ_7 : decode b_Ma_maxJ 7 = .ok (.goto 4, 3) := by decide +kernel
theorem d_Ma_maxJ_10 : decode b_Ma_maxJ 10 = .ok (.lload_n 2, 1) := by decide +kernel
theorem d_Ma_maxJ_11 : decode b_Ma_maxJ 11 = .ok (.lreturn, 1) := by decide +kernel
theorem d_Ma_minI_0 : decode b_Ma_minI 0 = .ok (.iload_n 0, 1) := by decide +kernel
theorem d_Ma_minI_1 : decode b_Ma_minI 1 = .ok (.iload_n 1, 1) := by decide +kernel
theorem d_Ma_minI_2 : decode b_Ma_minI 2 = .ok (.if_icmp .gt 7, 3) := by decide +kernel
theorem d_Ma_minI_5 : decode b_Ma_minI 5 = .ok (.iload_n 0, 1) := by decide +kernel
theorem d_Ma_minI_6 : decode b_Ma_minI 6 = .ok (.goto 4, 3) := by decide +kernel
theorem d_Ma_minI_9 : decode b_Ma_minI 9 = .ok (.iload_n 1, 1) := by decide +kernel
theorem d_Ma_minI_10 : decode b_Ma_minI 10 = .ok (.ireturn, 1) := by decide +kernel
theorem d_Ma_minJ_0 : decode b_Ma_minJ 0 = .ok (.lload_n 0, 1) := by decide +kernel
theorem d_Ma_minJ_1 : decode b_Ma_minJ 1 = .ok (.lload_n 2, 1) := by decide +kernel
theorem d_Ma_minJ_2 : decode b_Ma_minJ 2 = .ok (.lcmp, 1) := by decide +kernel
theorem d_Ma_minJ_3 : decode b_Ma_minJ 3 = .ok (.ifCond .gt 7, 3) := by decide +kernel
theorem d_Ma_minJ_6 : decode b_Ma_minJ 6 = .ok (.lload_n 0, 1) := by decide +kernel
theorem d_Ma_minJ_7 : decode b_Ma_minJ 7 = .ok (.goto 4, 3) := by decide +kernel
theorem d_Ma_minJ_10 : decode b_Ma_minJ 10 = .ok (.lload_n 2, 1) := by decide +kernel
theorem d_Ma_minJ_11 : decode b_Ma_minJ 11 = .ok (.lreturn, 1) := by decide +kernel
end
section
theorem d_Mo_init_0 : decode b_Mo_init 0 = .ok (.aload_n 0, 1) := by decide +kernel
theorem d_Mo_init_1 : decode b_Mo_init 1 = .ok (.invokespecial 1, 3) := by decide +kernel
theorem d_Mo_init_4 : decode b_Mo_init 4 = .ok (.aload_n 0, 1) := by decide +kernel
theorem d_Mo_init_5 : decode b_Mo_init 5 = .ok (.bipush 40, 2) := by decide +kernel
theorem d_Mo_init_7 : decode b_Mo_init 7 = .ok (.newarray .int, 2) := by decide +kernel
theorem d_Mo_init_9 : decode b_Mo_init 9 = .ok (.putfield 7, 3) := by decide +kernel
theorem d_Mo_init_12 : decode b_Mo_init 12 = .ok (.aload_n 0, 1) := by decide +kernel
theorem d_Mo_init_13 : decode b_Mo_init 13 = .ok (.bipush 40, 2) := by decide +kernel
theorem d_Mo_init_15 : decode b_Mo_init 15 = .ok (.newarray .int, 2) := by decide +kernel
theorem d_Mo_init_17 : decode b_Mo_init 17 = .ok (.putfield 13, 3) := by decide +kernel
theorem d_Mo_init_20 : decode b_Mo_init 20 = .ok (.aload_n 0, 1) := by decide +kernel
theorem d_Mo_init_21 : decode b_Mo_init 21 = .ok (.bipush 40, 2) := by decide +kernel
theorem d_Mo_init_23 : decode b_Mo_init 23 = .ok (.newarray .int, 2) := by decide +kernel
theorem d_Mo_init_25 : decode b_Mo_init 25 = .ok (.putfield 16, 3) := by decide +kernel
theorem d_Mo_init_28 : decode b_Mo_init 28 = .ok (.aload_n 0, 1) := by decide +kernel
theorem d_Mo_init_29 : decode b_Mo_init 29 = .ok (.sipush 480, 3) := by decide +kernel
theorem d_Mo_init_32 : decode b_Mo_init 32 = .ok (.newarray .int, 2) := by decide +kernel
theorem d_Mo_init_34 : decode b_Mo_init 34 = .ok (.putfield 19, 3) := by decide +kernel
theorem d_Mo_init_37 : decode b_Mo_init 37 = .ok (.aload_n 0, 1) := by decide +kernel
theorem d_Mo_init_38 : decode b_Mo_init 38 = .ok (.sipush 480, 3) := by decide +kernel
theorem d_Mo_init_41 : decode b_Mo_init 41 = .ok (.newarray .long, 2) := by decide +kernel
theorem d_Mo_init_43 : decode b_Mo_init 43 = .ok (.putfield 22, 3) := by decide +kernel
theorem d_Mo_init_46 : decode b_Mo_init 46 = .ok (.aload_n 0, 1) := by decide +kernel
theorem d_Mo_init_47 : decode b_Mo_init 47 = .ok (.bipush 40, 2) := by decide +kernel
theorem d_Mo_init_49 : decode b_Mo_init 49 = .ok (.newarray .long, 2) := by decide +kernel
theorem d_Mo_init_51 : decode b_Mo_init 51 = .ok (.putfield 26, 3) := by decide +kernel
theorem d_Mo_init_54 : decode b_Mo_init 54 = .ok (.aload_n 0, 1) := by decide +kernel
theorem d_Mo_init_55 : decode b_Mo_init 55 = .ok (.bipush 40, 2) := by decide +kernel
theorem d_Mo_init_57 : decode b_Mo_init 57 = .ok (.newarray .boolean, 2) := by decide +kernel
theorem d_Mo_init_59 : decode b_Mo_init 59 = .ok (.putfield 29, 3) := by decide +kernel
theorem d_Mo_init_62 : decode b_Mo_init 62 = .ok (.aload_n 0, 1) := by decide +kernel
theorem d_Mo_init_63 : decode b_Mo_init 63 = .ok (.bipush 40, 2) := by decide +kernel
theorem d_Mo_init_65 : decode b_Mo_init 65 = .ok (.newarray .int, 2) := by decide +kernel
theorem d_Mo_init_67 : decode b_Mo_init 67 = .ok (.putfield 33, 3) := by decide +kernel
theorem d_Mo_init_70 : decode b_Mo_init 70 = .ok (.aload_n 0, 1) := by decide +kernel
theorem d_Mo_init_71 : decode b_Mo_init 71 = .ok (.bipush 40, 2) := by decide +kernel
theorem d_Mo_init_73 : decode b_Mo_init 73 = .ok (.newarray .long, 2) := by decide +kernel
theorem d_Mo_init_75 : decode b_Mo_init 75 = .ok (.putfield 36, 3) := by decide +kernel
theorem d_Mo_init_78 : decode b_Mo_init 78 = .ok (.aload_n 0, 1) := by decide +kernel
theorem d_Mo_init_79 : decode b_Mo_init 79 = .ok (.bipush 8, 2) := by decide +kernel
theorem d_Mo_init_81 : decode b_Mo_init 81 = .ok (.newarray .long, 2) := by decide +kernel
theorem d_Mo_init_83 : decode b_Mo_init 83 = .ok (.putfield 39, 3) := by decide +kernel
theorem d_Mo_init_86 : decode b_Mo_init 86 = .ok (.aload_n 0, 1) := by decide +kernel
theorem d_Mo_init_87 : decode b_Mo_init 87 = .ok (.bipush 6, 2) := by decide +kernel
theorem d_Mo_init_89 : decode b_Mo_init 89 = .ok (.newarray .int, 2) := by decide +kernel
theorem d_Mo_init_91 : decode b_Mo_init 91 = .ok (.putfield 42, 3) := by decide +kernel
theorem d_Mo_init_94 : decode b_Mo_init 94 = .ok (.aload_n 0, 1) := by decide +kernel
theorem d_Mo_init_95 : decode b_Mo_init 95 = .ok (.bipush 6, 2) := by decide +kernel
theorem d_Mo_init_97 : decode b_Mo_init 97 = .ok (.newarray .int, 2) := by decide +kernel
theorem d_Mo_init_99 : decode b_Mo_init 99 = .ok (.putfield 45, 3) := by decide +kernel
theorem d_Mo_init_102 : decode b_Mo_init 102 = .ok (.aload_n 0, 1) := by decide +kernel
theorem d_Mo_init_103 : decode b_Mo_init 103 = .ok (.bipush 6, 2) := by decide +kernel
theorem d_Mo_init_105 : decode b_Mo_init 105 = .ok (.newarray .int, 2) := by decide +kernel
theorem d_Mo_init_107 : decode b_Mo_init 107 = .ok (.dup, 1) := by decide +kernel
theorem d_Mo_init_108 : decode b_Mo_init 108 = .ok (.iconst 0, 1) := by decide +kernel
theorem d_Mo_init_109 : decode b_Mo_init 109 = .ok (.iconst (-1), 1) := by decide +kernel
theorem d_Mo_init_110 : decode b_Mo_init 110 = .ok (.iastore, 1) := by decide +kernel
theorem d_Mo_init_111 : decode b_Mo_init 111 = .ok (.dup, 1) := by decide +kernel
theorem d_Mo_init_112 : decode b_Mo_init 112 = .ok (.iconst 1, 1) := by decide +kernel
theorem d_Mo_init_113 : decode b_Mo_init 113 = .ok (.iconst (-1), 1) := by decide +kernel
theorem d_Mo_init_114 : decode b_Mo_init 114 = .ok (.iastore, 1) := by decide +kernel
theorem d_Mo_init_115 : decode b_Mo_init 115 = .ok (.dup, 1) := by decide +kernel
theorem d_Mo_init_116 : decode b_Mo_init 116 = .ok (.iconst 2, 1) := by decide +kernel
theorem d_Mo_init_117 : decode b_Mo_init 117 = .ok (.iconst (-1), 1) := by decide +kernel
theorem d_Mo_init_118 : decode b_Mo_init 118 = .ok (.iastore, 1) := by decide +kernel
theorem d_Mo_init_119 : decode b_Mo_init 119 = .ok (.dup, 1) := by decide +kernel
theorem d_Mo_init_120 : decode b_Mo_init 120 = .ok (.iconst 3, 1) := by decide +kernel
theorem d_Mo_init_121 : decode b_Mo_init 121 = .ok (.iconst (-1), 1) := by decide +kernel
theorem d_Mo_init_122 : decode b_Mo_init 122 = .ok (.iastore, 1) := by decide +kernel
theorem d_Mo_init_123 : decode b_Mo_init 123 = .ok (.dup, 1) := by decide +kernel
theorem d_Mo_init_124 : decode b_Mo_init 124 = .ok (.iconst 4, 1) := by decide +kernel
theorem d_Mo_init_125 : decode b_Mo_init 125 = .ok (.iconst (-1), 1) := by decide +kernel
theorem d_Mo_init_126 : decode b_Mo_init 126 = .ok (.iastore, 1) := by decide +kernel
theorem d_Mo_init_127 : decode b_Mo_init 127 = .ok (.dup, 1) := by decide +kernel
theorem d_Mo_init_128 : decode b_Mo_init 128 = .ok (.iconst 5, 1) := by decide +kernel
theorem d_Mo_init_129 : decode b_Mo_init 129 = .ok (.iconst (-1), 1) := by decide +kernel
theorem d_Mo_init_130 : decode b_Mo_init 130 = .ok (.iastore, 1) := by decide +kernel
theorem d_Mo_init_131 : decode b_Mo_init 131 = .ok (.putfield 48, 3) := by decide +kernel
theorem d_Mo_init_134 : decode b_Mo_init 134 = .ok (.aload_n 0, 1) := by decide +kernel
theorem d_Mo_init_135 : decode b_Mo_init 135 = .ok (.bipush 6, 2) := by decide +kernel
theorem d_Mo_init_137 : decode b_Mo_init 137 = .ok (.newarray .int, 2) := by decide +kernel
theorem d_Mo_init_139 : decode b_Mo_init 139 = .ok (.putfield 51, 3) := by decide +kernel
theorem d_Mo_init_142 : decode b_Mo_init 142 = .ok (.aload_n 0, 1) := by decide +kernel
theorem d_Mo_init_143 : decode b_Mo_init 143 = .ok (.bipush 16, 2) := by decide +kernel
theorem d_Mo_init_145 : decode b_Mo_init 145 = .ok (.newarray .int, 2) := by decide +kernel
theorem d_Mo_init_147 : decode b_Mo_init 147 = .ok (.putfield 54, 3) := by decide +kernel
theorem d_Mo_init_150 : decode b_Mo_init 150 = .ok (.aload_n 0, 1) := by decide +kernel
theorem d_Mo_init_151 : decode b_Mo_init 151 = .ok (.bipush 8, 2) := by decide +kernel
theorem d_Mo_init_153 : decode b_Mo_init 153 = .ok (.newarray .int, 2) := by decide +kernel
theorem d_Mo_init_155 : decode b_Mo_init 155 = .ok (.putfield 57, 3) := by decide +kernel
theorem d_Mo_init_158 : decode b_Mo_init 158 = .ok (.aload_n 0, 1) := by decide +kernel
theorem d_Mo_init_159 : decode b_Mo_init 159 = .ok (.bipush 8, 2) := by decide +kernel
theorem d_Mo_init_161 : decode b_Mo_init 161 = .ok (.newarray .int, 2) := by decide +kernel
theorem d_Mo_init_163 : decode b_Mo_init 163 = .ok (.putfield 60, 3) := by decide +kernel
theorem d_Mo_init_166 : decode b_Mo_init 166 = .ok (.aload_n 0, 1) := by decide +kernel
theorem d_Mo_init_167 : decode b_Mo_init 167 = .ok (.iconst 4, 1) := by decide +kernel
theorem d_Mo_init_168 : decode b_Mo_init 168 = .ok (.newarray .long, 2) := by decide +kernel
theorem d_Mo_init_170 : decode b_Mo_init 170 = .ok (.putfield 63, 3) := by decide +kernel
theorem d_Mo_init_173 : decode b_Mo_init 173 = .ok (.aload_n 0, 1) := by decide +kernel
theorem d_Mo_init_174 : decode b_Mo_init 174 = .ok (.iconst 4, 1) := by decide +kernel
theorem d_Mo_init_175 : decode b_Mo_init 175 = .ok (.newarray .int, 2) := by decide +kernel
theorem d_Mo_init_177 : decode b_Mo_init 177 = .ok (.dup, 1) := by decide +kernel
theorem d_Mo_init_178 : decode b_Mo_init 178 = .ok (.iconst 0, 1) := by decide +kernel
theorem d_Mo_init_179 : decode b_Mo_init 179 = .ok (.iconst (-1), 1) := by decide +kernel
theorem d_Mo_init_180 : decode b_Mo_init 180 = .ok (.iastore, 1) := by decide +kernel
theorem d_Mo_init_181 : decode b_Mo_init 181 = .ok (.dup, 1) := by decide +kernel
theorem d_Mo_init_182 : decode b_Mo_init 182 = .ok (.iconst 1, 1) := by decide +kernel
theorem d_Mo_init_183 : decode b_Mo_init 183 = .ok (.iconst (-1), 1) := by decide +kernel
theorem d_Mo_init_184 : decode b_Mo_init 184 = .ok (.iastore, 1) := by decide +kernel
theorem d_Mo_init_185 : decode b_Mo_init 185 = .ok (.dup, 1) := by decide +kernel
theorem d_Mo_init_186 : decode b_Mo_init 186 = .ok (.iconst 2, 1) := by decide +kernel
theorem d_Mo_init_187 : decode b_Mo_init 187 = .ok (.iconst (-1), 1) := by decide +kernel
theorem d_Mo_init_188 : decode b_Mo_init 188 = .ok (.iastore, 1) := by decide +kernel
theorem d_Mo_init_189 : decode b_Mo_init 189 = .ok (.dup, 1) := by decide +kernel
theorem d_Mo_init_190 : decode b_Mo_init 190 = .ok (.iconst 3, 1) := by decide +kernel
theorem d_Mo_init_191 : decode b_Mo_init 191 = .ok (.iconst (-1), 1) := by decide +kernel
theorem d_Mo_init_192 : decode b_Mo_init 192 = .ok (.iastore, 1) := by decide +kernel
theorem d_Mo_init_193 : decode b_Mo_init 193 = .ok (.putfield 66, 3) := by decide +kernel
theorem d_Mo_init_196 : decode b_Mo_init 196 = .ok (.aload_n 0, 1) := by decide +kernel
theorem d_Mo_init_197 : decode b_Mo_init 197 = .ok (.bipush 8, 2) := by decide +kernel
theorem d_Mo_init_199 : decode b_Mo_init 199 = .ok (.newarray .long, 2) := by decide +kernel
theorem d_Mo_init_201 : decode b_Mo_init 201 = .ok (.putfield 69, 3) := by decide +kernel
theorem d_Mo_init_204 : decode b_Mo_init 204 = .ok (.aload_n 0, 1) := by decide +kernel
theorem d_Mo_init_205 : decode b_Mo_init 205 = .ok (.iconst 4, 1) := by decide +kernel
theorem d_Mo_init_206 : decode b_Mo_init 206 = .ok (.newarray .long, 2) := by decide +kernel
theorem d_Mo_init_208 : decode b_Mo_init 208 = .ok (.putfield 72, 3) := by decide +kernel
theorem d_Mo_init_211 : decode b_Mo_init 211 = .ok (.aload_n 0, 1) := by decide +kernel
theorem d_Mo_init_212 : decode b_Mo_init 212 = .ok (.iconst 4, 1) := by decide +kernel
theorem d_Mo_init_213 : decode b_Mo_init 213 = .ok (.newarray .boolean, 2) := by decide +kernel
theorem d_Mo_init_215 : decode b_Mo_init 215 = .ok (.putfield 75, 3) := by decide +kernel
theorem d_Mo_init_218 : decode b_Mo_init 218 = .ok (.aload_n 0, 1) := by decide +kernel
theorem d_Mo_init_219 : decode b_Mo_init 219 = .ok (.iload_n 1, 1) := by decide +kernel
theorem d_Mo_init_220 : decode b_Mo_init 220 = .ok (.iconst 1, 1) := by decide +kernel
theorem d_Mo_init_221 : decode b_Mo_init 221 = .ok (.if_icmp .ge 7, 3) := by decide +kernel
theorem d_Mo_init_224 : decode b_Mo_init 224 = .ok (.iconst 1, 1) := by decide +kernel
theorem d_Mo_init_225 : decode b_Mo_init 225 = .ok (.goto 15, 3) := by decide +kernel
theorem d_Mo_init_228 : decode b_Mo_init 228 = .ok (.iload_n 1, 1) := by decide +kernel
theorem d_Mo_init_229 : decode b_Mo_init 229 = .ok (.bipush 100, 2) := by decide +kernel
theorem d_Mo_init_231 : decode b_Mo_init 231 = .ok (.if_icmp .le 8, 3) := by decide +kernel
theorem d_Mo_init_234 : decode b_Mo_init 234 = .ok (.bipush 100, 2) := by decide +kernel
theorem d_Mo_init_236 : decode b_Mo_init 236 = .ok (.goto 4, 3) := by decide +kernel
theorem d_Mo_init_239 : decode b_Mo_init 239 = .ok (.iload_n 1, 1) := by decide +kernel
theorem d_Mo_init_240 : decode b_Mo_init 240 = .ok (.putfield 78, 3) := by decide +kernel
theorem d_Mo_init_243 : decode b_Mo_init 243 = .ok (.return_, 1) := by decide +kernel
theorem d_Mo_thrown_0 : decode b_Mo_thrown 0 = .ok (.aload_n 0, 1) := by decide +kernel
theorem d_Mo_thrown_1 : decode b_Mo_thrown 1 = .ok (.getfield 82, 3) := by decide +kernel
theorem d_Mo_thrown_4 : decode b_Mo_thrown 4 = .ok (.ireturn, 1) := by decide +kernel
theorem d_Mo_within_0 : decode b_Mo_within 0 = .ok (.lload_n 0, 1) := by decide +kernel
theorem d_Mo_within_1 : decode b_Mo_within 1 = .ok (.lload_n 2, 1) := by decide +kernel
theorem d_Mo_within_2 : decode b_Mo_within 2 = .ok (.lcmp, 1) := by decide +kernel
theorem d_Mo_within_3 : decode b_Mo_within 3 = .ok (.ifCond .lt 14, 3) := by decide +kernel
theorem d_Mo_within_6 : decode b_Mo_within 6 = .ok (.lload_n 0, 1) := by decide +kernel
theorem d_Mo_within_7 : decode b_Mo_within 7 = .ok (.lload 4, 2) := by decide +kernel
theorem d_Mo_within_9 : decode b_Mo_within 9 = .ok (.lcmp, 1) := by decide +kernel
theorem d_Mo_within_10 : decode b_Mo_within 10 = .ok (.ifCond .gt 7, 3) := by decide +kernel
theorem d_Mo_within_13 : decode b_Mo_within 13 = .ok (.iconst 1, 1) := by decide +kernel
theorem d_Mo_within_14 : decode b_Mo_within 14 = .ok (.goto 4, 3) := by decide +kernel
theorem d_Mo_within_17 : decode b_Mo_within 17 = .ok (.iconst 0, 1) := by decide +kernel
theorem d_Mo_within_18 : decode b_Mo_within 18 = .ok (.ireturn, 1) := by decide +kernel
theorem d_Mo_isRule_0 : decode b_Mo_isRule 0 = .ok (.iload_n 1, 1) := by decide +kernel
theorem d_Mo_isRule_1 : decode b_Mo_isRule 1 = .ok (.i2l, 1) := by decide +kernel
theorem d_Mo_isRule_2 : decode b_Mo_isRule 2 = .ok (.lconst 0, 1) := by decide +kernel
theorem d_Mo_isRule_3 : decode b_Mo_isRule 3 = .ok (.aload_n 0, 1) := by decide +kernel
theorem d_Mo_isRule_4 : decode b_Mo_isRule 4 = .ok (.getfield 85, 3) := by decide +kernel
theorem d_Mo_isRule_7 : decode b_Mo_isRule 7 = .ok (.iconst 1, 1) := by decide +kernel
theorem d_Mo_isRule_8 : decode b_Mo_isRule 8 = .ok (.isub, 1) := by decide +kernel
theorem d_Mo_isRule_9 : decode b_Mo_isRule 9 = .ok (.i2l, 1) := by decide +kernel
theorem d_Mo_isRule_10 : decode b_Mo_isRule 10 = .ok (.invokestatic 88, 3) := by decide +kernel
theorem d_Mo_isRule_13 : decode b_Mo_isRule 13 = .ok (.ireturn, 1) := by decide +kernel
theorem d_Mo_isEdition_0 : decode b_Mo_isEdition 0 = .ok (.iload_n 0, 1) := by decide +kernel
theorem d_Mo_isEdition_1 : decode b_Mo_isEdition 1 = .ok (.i2l, 1) := by decide +kernel
theorem d_Mo_isEdition_2 : decode b_Mo_isEdition 2 = .ok (.lconst 0, 1) := by decide +kernel
theorem d_Mo_isEdition_3 : decode b_Mo_isEdition 3 = .ok (.ldc2_w 92, 3) := by decide +kernel
theorem d_Mo_isEdition_6 : decode b_Mo_isEdition 6 = .ok (.invokestatic 88, 3) := by decide +kernel
theorem d_Mo_isEdition_9 : decode b_Mo_isEdition 9 = .ok (.ireturn, 1) := by decide +kernel
theorem d_Mo_rule_0 : decode b_Mo_rule 0 = .ok (.aload_n 0, 1) := by decide +kernel
theorem d_Mo_rule_1 : decode b_Mo_rule 1 = .ok (.iconst 0, 1) := by decide +kernel
theorem d_Mo_rule_2 : decode b_Mo_rule 2 = .ok (.putfield 82, 3) := by decide +kernel
theorem d_Mo_rule_5 : decode b_Mo_rule 5 = .ok (.iload_n 1, 1) := by decide +kernel
theorem d_Mo_rule_6 : decode b_Mo_rule 6 = .ok (.invokestatic 94, 3) := by decide +kernel
theorem d_Mo_rule_9 : decode b_Mo_rule 9 = .ok (.ifCond .eq 27, 3) := by decide +kernel
theorem d_Mo_rule_12 : decode b_Mo_rule 12 = .ok (.iload_n 2, 1) := by decide +kernel
theorem d_Mo_rule_13 : decode b_Mo_rule 13 = .ok (.i2l, 1) := by decide +kernel
theorem d_Mo_rule_14 : decode b_Mo_rule 14 = .ok (.lconst 0, 1) := by decide +kernel
theorem d_Mo_rule_15 : decode b_Mo_rule 15 = .ok (.ldc2_w 98, 3) := by decide +kernel
theorem d_Mo_rule_18 : decode b_Mo_rule 18 = .ok (.invokestatic 88, 3) := by decide +kernel
theorem d_Mo_rule_21 : decode b_Mo_rule 21 = .ok (.ifCond .eq 15, 3) := by decide +kernel
theorem d_Mo_rule_24 : decode b_Mo_rule 24 = .ok (.iload_n 3, 1) := by decide +kernel
theorem d_Mo_rule_25 : decode b_Mo_rule 25 = .ok (.i2l, 1) := by decide +kernel
theorem d_Mo_rule_26 : decode b_Mo_rule 26 = .ok (.lconst 0, 1) := by decide +kernel
theorem d_Mo_rule_27 : decode b_Mo_rule 27 = .ok (.ldc2_w 100, 3) := by decide +kernel
theorem d_Mo_rule_30 : decode b_Mo_rule 30 = .ok (.invokestatic 88, 3) := by decide +kernel
theorem d_Mo_rule_33 : decode b_Mo_rule 33 = .ok (.ifCond .ne 6, 3) := by decide +kernel
theorem d_Mo_rule_36 : decode b_Mo_rule 36 = .ok (.bipush (-102), 2) := by decide +kernel
theorem d_Mo_rule_38 : decode b_Mo_rule 38 = .ok (.ireturn, 1) := by decide +kernel
theorem d_Mo_rule_39 : decode b_Mo_rule 39 = .ok (.aload_n 0, 1) := by decide +kernel
theorem d_Mo_rule_40 : decode b_Mo_rule 40 = .ok (.getfield 42, 3) := by decide +kernel
theorem d_Mo_rule_43 : decode b_Mo_rule 43 = .ok (.iload_n 1, 1) := by decide +kernel
theorem d_Mo_rule_44 : decode b_Mo_rule 44 = .ok (.iaload, 1) := by decide +kernel
theorem d_Mo_rule_45 : decode b_Mo_rule 45 = .ok (.iconst 1, 1) := by decide +kernel
theorem d_Mo_rule_46 : decode b_Mo_rule 46 = .ok (.if_icmp .le 6, 3) := by decide +kernel
theorem d_Mo_rule_49 : decode b_Mo_rule 49 = .ok (.bipush (-103), 2) := by decide +kernel
theorem d_Mo_rule_51 : decode b_Mo_rule 51 = .ok (.ireturn, 1) := by decide +kernel
theorem d_Mo_rule_52 : decode b_Mo_rule 52 = .ok (.aload_n 0, 1) := by decide +kernel
theorem d_Mo_rule_53 : decode b_Mo_rule 53 = .ok (.getfield 85, 3) := by decide +kernel
theorem d_Mo_rule_56 : decode b_Mo_rule 56 = .ok (.bipush 40, 2) := by decide +kernel
theorem d_Mo_rule_58 : decode b_Mo_rule 58 = .ok (.if_icmp .eq 14, 3) := by decide +kernel
theorem d_Mo_rule_61 : decode b_Mo_rule 61 = .ok (.aload_n 0, 1) := by decide +kernel
theorem d_Mo_rule_62 : decode b_Mo_rule 62 = .ok (.getfield 45, 3) := by decide +kernel
theorem d_Mo_rule_65 : decode b_Mo_rule 65 = .ok (.iload_n 1, 1) := by decide +kernel
theorem d_Mo_rule_66 : decode b_Mo_rule 66 = .ok (.iaload, 1) := by decide +kernel
theorem d_Mo_rule_67 : decode b_Mo_rule 67 = .ok (.bipush 8, 2) := by decide +kernel
theorem d_Mo_rule_69 : decode b_Mo_rule 69 = .ok (.if_icmp .ne 6, 3) := by decide +kernel
theorem d_Mo_rule_72 : decode b_Mo_rule 72 = .ok (.bipush (-104), 2) := by decide +kernel
theorem d_Mo_rule_74 : decode b_Mo_rule 74 = .ok (.ireturn, 1) := by decide +kernel
theorem d_Mo_rule_75 : decode b_Mo_rule 75 = .ok (.aload_n 0, 1) := by decide +kernel
theorem d_Mo_rule_76 : decode b_Mo_rule 76 = .ok (.getfield 7, 3) := by decide +kernel
theorem d_Mo_rule_79 : decode b_Mo_rule 79 = .ok (.aload_n 0, 1) := by decide +kernel
theorem d_Mo_rule_80 : decode b_Mo_rule 80 = .ok (.getfield 85, 3) := by decide +kernel
theorem d_Mo_rule_83 : decode b_Mo_rule 83 = .ok (.iload_n 1, 1) := by decide +kernel
theorem d_Mo_rule_84 : decode b_Mo_rule 84 = .ok (.iastore, 1) := by decide +kernel
theorem d_Mo_rule_85 : decode b_Mo_rule 85 = .ok (.aload_n 0, 1) := by decide +kernel
theorem d_Mo_rule_86 : decode b_Mo_rule 86 = .ok (.getfield 13, 3) := by decide +kernel
theorem d_Mo_rule_89 : decode b_Mo_rule 89 = .ok (.aload_n 0, 1) := by decide +kernel
theorem d_Mo_rule_90 : decode b_Mo_rule 90 = .ok (.getfield 85, 3) := by decide +kernel
theorem d_Mo_rule_93 : decode b_Mo_rule 93 = .ok (.bipush 100, 2) := by decide +kernel
theorem d_Mo_rule_95 : decode b_Mo_rule 95 = .ok (.iload_n 2, 1) := by decide +kernel
theorem d_Mo_rule_96 : decode b_Mo_rule 96 = .ok (.imul, 1) := by decide +kernel
theorem d_Mo_rule_97 : decode b_Mo_rule 97 = .ok (.iload_n 3, 1) := by decide +kernel
theorem d_Mo_rule_98 : decode b_Mo_rule 98 = .ok (.iadd, 1) := by decide +kernel
theorem d_Mo_rule_99 : decode b_Mo_rule 99 = .ok (.iastore, 1) := by decide +kernel
theorem d_Mo_rule_100 : decode b_Mo_rule 100 = .ok (.aload_n 0, 1) := by decide +kernel
theorem d_Mo_rule_101 : decode b_Mo_rule 101 = .ok (.getfield 45, 3) := by decide +kernel
theorem d_Mo_rule_104 : decode b_Mo_rule 104 = .ok (.iload_n 1, 1) := by decide +kernel
theorem d_Mo_rule_105 : decode b_Mo_rule 105 = .ok (.dup2, 1) := by decide +kernel
theorem d_Mo_rule_106 : decode b_Mo_rule 106 = .ok (.iaload, 1) := by decide +kernel
theorem d_Mo_rule_107 : decode b_Mo_rule 107 = .ok (.iconst 1, 1) := by decide +kernel
theorem d_Mo_rule_108 : decode b_Mo_rule 108 = .ok (.iadd, 1) := by decide +kernel
theorem d_Mo_rule_109 : decode b_Mo_rule 109 = .ok (.iastore, 1) := by decide +kernel
theorem d_Mo_rule_110 : decode b_Mo_rule 110 = .ok (.aload_n 0, 1) := by decide +kernel
theorem d_Mo_rule_111 : decode b_Mo_rule 111 = .ok (.getfield 42, 3) := by decide +kernel
theorem d_Mo_rule_114 : decode b_Mo_rule 114 = .ok (.iload_n 1, 1) := by decide +kernel
theorem d_Mo_rule_115 : decode b_Mo_rule 115 = .ok (.iconst 1, 1) := by decide +kernel
theorem d_Mo_rule_116 : decode b_Mo_rule 116 = .ok (.iastore, 1) := by decide +kernel
theorem d_Mo_rule_117 : decode b_Mo_rule 117 = .ok (.aload_n 0, 1) := by decide +kernel
theorem d_Mo_rule_118 : decode b_Mo_rule 118 = .ok (.dup, 1) := by decide +kernel
theorem d_Mo_rule_119 : decode b_Mo_rule 119 = .ok (.getfield 85, 3) := by decide +kernel
theorem d_Mo_rule_122 : decode b_Mo_rule 122 = .ok (.iconst 1, 1) := by decide +kernel
theorem d_Mo_rule_123 : decode b_Mo_rule 123 = .ok (.iadd, 1) := by decide +kernel
theorem d_Mo_rule_124 : decode b_Mo_rule 124 = .ok (.putfield 85, 3) := by decide +kernel
theorem d_Mo_rule_127 : decode b_Mo_rule 127 = .ok (.aload_n 0, 1) := by decide +kernel
theorem d_Mo_rule_128 : decode b_Mo_rule 128 = .ok (.getfield 85, 3) := by decide +kernel
theorem d_Mo_rule_131 : decode b_Mo_rule 131 = .ok (.iconst 1, 1) := by decide +kernel
theorem d_Mo_rule_132 : decode b_Mo_rule 132 = .ok (.isub, 1) := by decide +kernel
theorem d_Mo_rule_133 : decode b_Mo_rule 133 = .ok (.ireturn, 1) := by decide +kernel
theorem d_Mo_isNumber_0 : decode b_Mo_isNumber 0 = .ok (.iload_n 0, 1) := by decide +kernel
theorem d_Mo_isNumber_1 : decode b_Mo_isNumber 1 = .ok (.lookupswitch 86 #[(1, 43), (9, 52), (10, 77), (13, 43)], 43) := by decide +kernel
theorem d_Mo_isNumber_44 : decode b_Mo_isNumber 44 = .ok (.lload_n 1, 1) := by decide +kernel
theorem d_Mo_isNumber_45 : decode b_Mo_isNumber 45 = .ok (.lconst 0, 1) := by decide +kernel
theorem d_Mo_isNumber_46 : decode b_Mo_isNumber 46 = .ok (.ldc2_w 102, 3) := by decide +kernel
theorem d_Mo_isNumber_49 : decode b_Mo_isNumber 49 = .ok (.invokestatic 88, 3) := by decide +kernel
theorem d_Mo_isNumber_52 : decode b_Mo_isNumber 52 = .ok (.ireturn, 1) := by decide +kernel
theorem d_Mo_isNumber_53 : decode b_Mo_isNumber 53 = .ok (.lload_n 1, 1) := by decide +kernel
theorem d_Mo_isNumber_54 : decode b_Mo_isNumber 54 = .ok (.ldc2_w 104, 3) := by decide +kernel
theorem d_Mo_isNumber_57 : decode b_Mo_isNumber 57 = .ok (.ldc2_w 106, 3) := by decide +kernel
theorem d_Mo_isNumber_60 : decode b_Mo_isNumber 60 = .ok (.invokestatic 88, 3) := by decide +kernel
theorem d_Mo_isNumber_63 : decode b_Mo_isNumber 63 = .ok (.ifCond .eq 13, 3) := by decide +kernel
theorem d_Mo_isNumber_66 : decode b_Mo_isNumber 66 = .ok (.lload_n 1, 1) := by decide +kernel
theorem d_Mo_isNumber_67 : decode b_Mo_isNumber 67 = .ok (.lconst 0, 1) := by decide +kernel
theorem d_Mo_isNumber_68 : decode b_Mo_isNumber 68 = .ok (.lcmp, 1) := by decide +kernel
theorem d_Mo_isNumber_69 : decode b_Mo_isNumber 69 = .ok (.ifCond .eq 7, 3) := by decide +kernel
theorem d_Mo_isNumber_72 : decode b_Mo_isNumber 72 = .ok (.iconst 1, 1) := by decide +kernel
theorem d_Mo_isNumber_73 : decode b_Mo_isNumber 73 = .ok (.goto 4, 3) := by decide +kernel
theorem d_Mo_isNumber_76 : decode b_Mo_isNumber 76 = .ok (.iconst 0, 1) := by decide +kernel
theorem d_Mo_isNumber_77 : decode b_Mo_isNumber 77 = .ok (.ireturn, 1) := by decide +kernel
theorem d_Mo_isNumber_78 : decode b_Mo_isNumber 78 = .ok (.lload_n 1, 1) := by decide +kernel
theorem d_Mo_isNumber_79 : decode b_Mo_isNumber 79 = .ok (.lconst 0, 1) := by decide +kernel
theorem d_Mo_isNumber_80 : decode b_Mo_isNumber 80 = .ok (.ldc2_w 108, 3) := by decide +kernel
theorem d_Mo_isNumber_83 : decode b_Mo_isNumber 83 = .ok (.invokestatic 88, 3) := by decide +kernel
theorem d_Mo_isNumber_86 : decode b_Mo_isNumber 86 = .ok (.ireturn, 1) := by decide +kernel
theorem d_Mo_isNumber_87 : decode b_Mo_isNumber 87 = .ok (.iconst 1, 1) := by decide +kernel
theorem d_Mo_isNumber_88 : decode b_Mo_isNumber 88 = .ok (.ireturn, 1) := by decide +kernel
theorem d_Mo_code_0 : decode b_Mo_code 0 = .ok (.aload_n 0, 1) := by decide +kernel
theorem d_Mo_code_1 : decode b_Mo_code 1 = .ok (.iconst 0, 1) := by decide +kernel
theorem d_Mo_code_2 : decode b_Mo_code 2 = .ok (.putfield 82, 3) := by decide +kernel
theorem d_Mo_code_5 : decode b_Mo_code 5 = .ok (.aload_n 0, 1) := by decide +kernel
theorem d_Mo_code_6 : decode b_Mo_code 6 = .ok (.iload_n 1, 1) := by decide +kernel
theorem d_Mo_code_7 : decode b_Mo_code 7 = .ok (.invokevirtual 110, 3) := by decide +kernel
theorem d_Mo_code_10 : decode b_Mo_code 10 = .ok (.ifCond .ne 6, 3) := by decide +kernel
theorem d_Mo_code_13 : decode b_Mo_code 13 = .ok (.bipush (-101), 2) := by decide +kernel
theorem d_Mo_code_15 : decode b_Mo_code 15 = .ok (.ireturn, 1) := by decide +kernel
theorem d_Mo_code_16 : decode b_Mo_code 16 = .ok (.iload_n 2, 1) := by decide +kernel
theorem d_Mo_code_17 : decode b_Mo_code 17 = .ok (.i2l, 1) := by decide +kernel
theorem d_Mo_code_18 : decode b_Mo_code 18 = .ok (.lconst 0, 1) := by decide +kernel
theorem d_Mo_code_19 : decode b_Mo_code 19 = .ok (.ldc2_w 113, 3) := by decide +kernel
theorem d_Mo_code_22 : decode b_Mo_code 22 = .ok (.invokestatic 88, 3) := by decide +kernel
theorem d_Mo_code_25 : decode b_Mo_code 25 = .ok (.ifCond .eq 11, 3) := by decide +kernel
theorem d_Mo_code_28 : decode b_Mo_code 28 = .ok (.iload_n 2, 1) := by decide +kernel
theorem d_Mo_code_29 : decode b_Mo_code 29 = .ok (.lload_n 3, 1) := by decide +kernel
theorem d_Mo_code_30 : decode b_Mo_code 30 = .ok (.invokestatic 115, 3) := by decide +kernel
theorem d_Mo_code_33 : decode b_Mo_code 33 = .ok (.ifCond .ne 6, 3) := by decide +kernel
theorem d_Mo_code_36 : decode b_Mo_code 36 = .ok (.bipush (-102), 2) := by decide +kernel
theorem d_Mo_code_38 : decode b_Mo_code 38 = .ok (.ireturn, 1) := by decide +kernel
theorem d_Mo_code_39 : decode b_Mo_code 39 = .ok (.aload_n 0, 1) := by decide +kernel
theorem d_Mo_code_40 : decode b_Mo_code 40 = .ok (.getfield 42, 3) := by decide +kernel
theorem d_Mo_code_43 : decode b_Mo_code 43 = .ok (.aload_n 0, 1) := by decide +kernel
theorem d_Mo_code_44 : decode b_Mo_code 44 = .ok (.getfield 7, 3) := by decide +kernel
theorem d_Mo_code_47 : decode b_Mo_code 47 = .ok (.iload_n 1, 1) := by decide +kernel
theorem d_Mo_code_48 : decode b_Mo_code 48 = .ok (.iaload, 1) := by decide +kernel
theorem d_Mo_code_49 : decode b_Mo_code 49 = .ok (.iaload, 1) := by decide +kernel
theorem d_Mo_code_50 : decode b_Mo_code 50 = .ok (.iconst 1, 1) := by decide +kernel
theorem d_Mo_code_51 : decode b_Mo_code 51 = .ok (.if_icmp .eq 6, 3) := by decide +kernel
theorem d_Mo_code_54 : decode b_Mo_code 54 = .ok (.bipush (-103), 2) := by decide +kernel
theorem d_Mo_code_56 : decode b_Mo_code 56 = .ok (.ireturn, 1) := by decide +kernel
theorem d_Mo_code_57 : decode b_Mo_code 57 = .ok (.aload_n 0, 1) := by decide +kernel
theorem d_Mo_code_58 : decode b_Mo_code 58 = .ok (.getfield 16, 3) := by decide +kernel
theorem d_Mo_code_61 : decode b_Mo_code 61 = .ok (.iload_n 1, 1) := by decide +kernel
theorem d_Mo_code_62 : decode b_Mo_code 62 = .ok (.iaload, 1) := by decide +kernel
theorem d_Mo_code_63 : decode b_Mo_code 63 = .ok (.bipush 12, 2) := by decide +kernel
theorem d_Mo_code_65 : decode b_Mo_code 65 = .ok (.if_icmp .ne 6, 3) := by decide +kernel
theorem d_Mo_code_68 : decode b_Mo_code 68 = .ok (.bipush (-104), 2) := by decide +kernel
theorem d_Mo_code_70 : decode b_Mo_code 70 = .ok (.ireturn, 1) := by decide +kernel
theorem d_Mo_code_71 : decode b_Mo_code 71 = .ok (.aload_n 0, 1) := by decide +kernel
theorem d_Mo_code_72 : decode b_Mo_code 72 = .ok (.getfield 19, 3) := by decide +kernel
theorem d_Mo_code_75 : decode b_Mo_code 75 = .ok (.bipush 12, 2) := by decide +kernel
theorem d_Mo_code_77 : decode b_Mo_code 77 = .ok (.iload_n 1, 1) := by decide +kernel
theorem d_Mo_code_78 : decode b_Mo_code 78 = .ok (.imul, 1) := by decide +kernel
theorem d_Mo_code_79 : decode b_Mo_code 79 = .ok (.aload_n 0, 1) := by decide +kernel
theorem d_Mo_code_80 : decode b_Mo_code 80 = .ok (.getfield 16, 3) := by decide +kernel
theorem d_Mo_code_83 : decode b_Mo_code 83 = .ok (.iload_n 1, 1) := by decide +kernel
theorem d_Mo_code_84 : decode b_Mo_code 84 = .ok (.iaload, 1) := by decide +kernel
theorem d_Mo_code_85 : decode b_Mo_code 85 = .ok (.iadd, 1) := by decide +kernel
theorem d_Mo_code_86 : decode b_Mo_code 86 = .ok (.iload_n 2, 1) := by decide +kernel
theorem d_Mo_code_87 : decode b_Mo_code 87 = .ok (.iastore, 1) := by decide +kernel
theorem d_Mo_code_88 : decode b_Mo_code 88 = .ok (.aload_n 0, 1) := by decide +kernel
theorem d_Mo_code_89 : decode b_Mo_code 89 = .ok (.getfield 22, 3) := by decide +kernel
theorem d_Mo_code_92 : decode b_Mo_code 92 = .ok (.bipush 12, 2) := by decide +kernel
theorem d_Mo_code_94 : decode b_Mo_code 94 = .ok (.iload_n 1, 1) := by decide +kernel
theorem d_Mo_code_95 : decode b_Mo_code 95 = .ok (.imul, 1) := by decide +kernel
theorem d_Mo_code_96 : decode b_Mo_code 96 = .ok (.aload_n 0, 1) := by decide +kernel
theorem d_Mo_code_97 : decode b_Mo_code 97 = .ok (.getfield 16, 3) := by decide +kernel
theorem d_Mo_code_100 : decode b_Mo_code 100 = .ok (.iload_n 1, 1) := by decide +kernel
theorem d_Mo_code_101 : decode b_Mo_code 101 = .ok (.iaload, 1) := by decide +kernel
theorem d_Mo_code_102 : decode b_Mo_code 102 = .ok (.iadd, 1) := by decide +kernel
theorem d_Mo_code_103 : decode b_Mo_code 103 = .ok (.lload_n 3, 1) := by decide +kernel
theorem d_Mo_code_104 : decode b_Mo_code 104 = .ok (.lastore, 1) := by decide +kernel
theorem d_Mo_code_105 : decode b_Mo_code 105 = .ok (.aload_n 0, 1) := by decide +kernel
theorem d_Mo_code_106 : decode b_Mo_code 106 = .ok (.getfield 16, 3) := by decide +kernel
theorem d_Mo_code_109 : decode b_Mo_code 109 = .ok (.iload_n 1, 1) := by decide +kernel
theorem d_Mo_code_110 : decode b_Mo_code 110 = .ok (.dup2, 1) := by decide +kernel
theorem d_Mo_code_111 : decode b_Mo_code 111 = .ok (.iaload, 1) := by decide +kernel
theorem d_Mo_code_112 : decode b_Mo_code 112 = .ok (.iconst 1, 1) := by decide +kernel
theorem d_Mo_code_113 : decode b_Mo_code 113 = .ok (.iadd, 1) := by decide +kernel
theorem d_Mo_code_114 : decode b_Mo_code 114 = .ok (.iastore, 1) := by decide +kernel
theorem d_Mo_code_115 : decode b_Mo_code 115 = .ok (.aload_n 0, 1) := by decide +kernel
theorem d_Mo_code_116 : decode b_Mo_code 116 = .ok (.getfield 16, 3) := by decide +kernel
theorem d_Mo_code_119 : decode b_Mo_code 119 = .ok (.iload_n 1, 1) := by decide +kernel
theorem d_Mo_code_120 : decode b_Mo_code 120 = .ok (.iaload, 1) := by decide +kernel
theorem d_Mo_code_121 : decode b_Mo_code 121 = .ok (.ireturn, 1) := by decide +kernel
theorem d_Mo_fallback_0 : decode b_Mo_fallback 0 = .ok (.aload_n 0, 1) := by decide +kernel
theorem d_Mo_fallback_1 : decode b_Mo_fallback 1 = .ok (.iconst 0, 1) := by decide +kernel
theorem d_Mo_fallback_2 : decode b_Mo_fallback 2 = .ok (.putfield 82, 3) := by decide +kernel
theorem d_Mo_fallback_5 : decode b_Mo_fallback 5 = .ok (.aload_n 0, 1) := by decide +kernel
theorem d_Mo_fallback_6 : decode b_Mo_fallback 6 = .ok (.iload_n 1, 1) := by decide +kernel
theorem d_Mo_fallback_7 : decode b_Mo_fallback 7 = .ok (.invokevirtual 110, 3) := by decide +kernel
theorem d_Mo_fallback_10 : decode b_Mo_fallback 10 = .ok (.ifCond .ne 6, 3) := by decide +kernel
theorem d_Mo_fallback_13 : decode b_Mo_fallback 13 = .ok (.bipush (-101), 2) := by decide +kernel
theorem d_Mo_fallback_15 : decode b_Mo_fallback 15 = .ok (.ireturn, 1) := by decide +kernel
theorem d_Mo_fallback_16 : decode b_Mo_fallback 16 = .ok (.iload_n 2, 1) := by decide +kernel
theorem d_Mo_fallback_17 : decode b_Mo_fallback 17 = .ok (.i2l, 1) := by decide +kernel
theorem d_Mo_fallback_18 : decode b_Mo_fallback 18 = .ok (.lconst 0, 1) := by decide +kernel
theorem d_Mo_fallback_19 : decode b_Mo_fallback 19 = .ok (.ldc2_w 108, 3) := by decide +kernel
theorem d_Mo_fallback_22 : decode b_Mo_fallback 22 = .ok (.invokestatic 88, 3) := by decide +kernel
theorem d_Mo_fallback_25 : decode b_Mo_fallback 25 = .ok (.ifCond .ne 6, 3) := by decide +kernel
theorem d_Mo_fallback_28 : decode b_Mo_fallback 28 = .ok (.bipush (-102), 2) := by decide +kernel
theorem d_Mo_fallback_30 : decode b_Mo_fallback 30 = .ok (.ireturn, 1) := by decide +kernel
theorem d_Mo_fallback_31 : decode b_Mo_fallback 31 = .ok (.aload_n 0, 1) := by decide +kernel
theorem d_Mo_fallback_32 : decode b_Mo_fallback 32 = .ok (.getfield 42, 3) := by decide +kernel
theorem d_Mo_fallback_35 : decode b_Mo_fallback 35 = .ok (.aload_n 0, 1) := by decide +kernel
theorem d_Mo_fallback_36 : decode b_Mo_fallback 36 = .ok (.getfield 7, 3) := by decide +kernel
theorem d_Mo_fallback_39 : decode b_Mo_fallback 39 = .ok (.iload_n 1, 1) := by decide +kernel
theorem d_Mo_fallback_40 : decode b_Mo_fallback 40 = .ok (.iaload, 1) := by decide +kernel
theorem d_Mo_fallback_41 : decode b_Mo_fallback 41 = .ok (.iaload, 1) := by decide +kernel
theorem d_Mo_fallback_42 : decode b_Mo_fallback 42 = .ok (.iconst 1, 1) := by decide +kernel
theorem d_Mo_fallback_43 : decode b_Mo_fallback 43 = .ok (.if_icmp .eq 6, 3) := by decide +kernel
theorem d_Mo_fallback_46 : decode b_Mo_fallback 46 = .ok (.bipush (-103), 2) := by decide +kernel
theorem d_Mo_fallback_48 : decode b_Mo_fallback 48 = .ok (.ireturn, 1) := by decide +kernel
theorem d_Mo_fallback_49 : decode b_Mo_fallback 49 = .ok (.aload_n 0, 1) := by decide +kernel
theorem d_Mo_fallback_50 : decode b_Mo_fallback 50 = .ok (.getfield 29, 3) := by decide +kernel
theorem d_Mo_fallback_53 : decode b_Mo_fallback 53 = .ok (.iload_n 1, 1) := by decide +kernel
theorem d_Mo_fallback_54 : decode b_Mo_fallback 54 = .ok (.iconst 1, 1) := by decide +kernel
theorem d_Mo_fallback_55 : decode b_Mo_fallback 55 = .ok (.bastore, 1) := by decide +kernel
theorem d_Mo_fallback_56 : decode b_Mo_fallback 56 = .ok (.aload_n 0, 1) := by decide +kernel
theorem d_Mo_fallback_57 : decode b_Mo_fallback 57 = .ok (.getfield 33, 3) := by decide +kernel
theorem d_Mo_fallback_60 : decode b_Mo_fallback 60 = .ok (.iload_n 1, 1) := by decide +kernel
theorem d_Mo_fallback_61 : decode b_Mo_fallback 61 = .ok (.iload_n 2, 1) := by decide +kernel
theorem d_Mo_fallback_62 : decode b_Mo_fallback 62 = .ok (.iastore, 1) := by decide +kernel
theorem d_Mo_fallback_63 : decode b_Mo_fallback 63 = .ok (.aload_n 0, 1) := by decide +kernel
theorem d_Mo_fallback_64 : decode b_Mo_fallback 64 = .ok (.getfield 36, 3) := by decide +kernel
theorem d_Mo_fallback_67 : decode b_Mo_fallback 67 = .ok (.iload_n 1, 1) := by decide +kernel
theorem d_Mo_fallback_68 : decode b_Mo_fallback 68 = .ok (.lload_n 3, 1) := by decide +kernel
theorem d_Mo_fallback_69 : decode b_Mo_fallback 69 = .ok (.lastore, 1) := by decide +kernel
theorem d_Mo_fallback_70 : decode b_Mo_fallback 70 = .ok (.iconst 1, 1) := by decide +kernel
theorem d_Mo_fallback_71 : decode b_Mo_fallback 71 = .ok (.ireturn, 1) := by decide +kernel
theorem d_Mo_fact_0 : decode b_Mo_fact 0 = .ok (.aload_n 0, 1) := by decide +kernel
theorem d_Mo_fact_1 : decode b_Mo_fact 1 = .ok (.iconst 0, 1) := by decide +kernel
theorem d_Mo_fact_2 : decode b_Mo_fact 2 = .ok (.putfield 82, 3) := by decide +kernel
theorem d_Mo_fact_5 : decode b_Mo_fact 5 = .ok (.iload_n 1, 1) := by decide +kernel
theorem d_Mo_fact_6 : decode b_Mo_fact 6 = .ok (.i2l, 1) := by decide +kernel
theorem d_Mo_fact_7 : decode b_Mo_fact 7 = .ok (.lconst 0, 1) := by decide +kernel
theorem d_Mo_fact_8 : decode b_Mo_fact 8 = .ok (.ldc2_w 102, 3) := by decide +kernel
theorem d_Mo_fact_11 : decode b_Mo_fact 11 = .ok (.invokestatic 88, 3) := by decide +kernel
theorem d_Mo_fact_14 : decode b_Mo_fact 14 = .ok (.ifCond .ne 6, 3) := by decide +kernel
theorem d_Mo_fact_17 : decode b_Mo_fact 17 = .ok (.bipush (-102), 2) := by decide +kernel
theorem d_Mo_fact_19 : decode b_Mo_fact 19 = .ok (.ireturn, 1) := by decide +kernel
theorem d_Mo_fact_20 : decode b_Mo_fact 20 = .ok (.aload_n 0, 1) := by decide +kernel
theorem d_Mo_fact_21 : decode b_Mo_fact 21 = .ok (.getfield 39, 3) := by decide +kernel
theorem d_Mo_fact_24 : decode b_Mo_fact 24 = .ok (.iload_n 1, 1) := by decide +kernel
theorem d_Mo_fact_25 : decode b_Mo_fact 25 = .ok (.lload_n 2, 1) := by decide +kernel
theorem d_Mo_fact_26 : decode b_Mo_fact 26 = .ok (.lastore, 1) := by decide +kernel
theorem d_Mo_fact_27 : decode b_Mo_fact 27 = .ok (.iconst 1, 1) := by decide +kernel
theorem d_Mo_fact_28 : decode b_Mo_fact 28 = .ok (.ireturn, 1) := by decide +kernel
theorem d_Mo_push_0 : decode b_Mo_push 0 = .ok (.aload_n 0, 1) := by decide +kernel
theorem d_Mo_push_1 : decode b_Mo_push 1 = .ok (.getfield 119, 3) := by decide +kernel
theorem d_Mo_push_4 : decode b_Mo_push 4 = .ok (.bipush 8, 2) := by decide +kernel
theorem d_Mo_push_6 : decode b_Mo_push 6 = .ok (.if_icmp .ne 9, 3) := by decide +kernel
theorem d_Mo_push_9 : decode b_Mo_push 9 = .ok (.aload_n 0, 1) := by decide +kernel
theorem d_Mo_push_10 : decode b_Mo_push 10 = .ok (.iconst 3, 1) := by decide +kernel
theorem d_Mo_push_11 : decode b_Mo_push 11 = .ok (.putfield 122, 3) := by decide +kernel
theorem d_Mo_push_14 : decode b_Mo_push 14 = .ok (.return_, 1) := by decide +kernel
theorem d_Mo_push_15 : decode b_Mo_push 15 = .ok (.aload_n 0, 1) := by decide +kernel
theorem d_Mo_push_16 : decode b_Mo_push 16 = .ok (.getfield 69, 3) := by decide +kernel
theorem d_Mo_push_19 : decode b_Mo_push 19 = .ok (.aload_n 0, 1) := by decide +kernel
theorem d_Mo_push_20 : decode b_Mo_push 20 = .ok (.getfield 119, 3) := by decide +kernel
theorem d_Mo_push_23 : decode b_Mo_push 23 = .ok (.lload_n 1, 1) := by decide +kernel
theorem d_Mo_push_24 : decode b_Mo_push 24 = .ok (.lastore, 1) := by decide +kernel
theorem d_Mo_push_25 : decode b_Mo_push 25 = .ok (.aload_n 0, 1) := by decide +kernel
theorem d_Mo_push_26 : decode b_Mo_push 26 = .ok (.dup, 1) := by decide +kernel
theorem d_Mo_push_27 : decode b_Mo_push 27 = .ok (.getfield 119, 3) := by decide +kernel
theorem d_Mo_push_30 : decode b_Mo_push 30 = .ok (.iconst 1, 1) := by decide +kernel
theorem d_Mo_push_31 : decode b_Mo_push 31 = .ok (.iadd, 1) := by decide +kernel
theorem d_Mo_push_32 : decode b_Mo_push 32 = .ok (.putfield 119, 3) := by decide +kernel
theorem d_Mo_push_35 : decode b_Mo_push 35 = .ok (.return_, 1) := by decide +kernel
theorem d_Mo_two_0 : decode b_Mo_two 0 = .ok (.iload_n 0, 1) := by decide +kernel
theorem d_Mo_two_1 : decode b_Mo_two 1 = .ok (.tableswitch 63 2 6 #[35, 39, 43, 47, 51], 35) := by decide +kernel
theorem d_Mo_two_36 : decode b_Mo_two 36 = .ok (.lload_n 1, 1) := by decide +kernel
theorem d_Mo_two_37 : decode b_Mo_two 37 = .ok (.lload_n 3, 1) := by decide +kernel
theorem d_Mo_two_38 : decode b_Mo_two 38 = .ok (.ladd, 1) := by decide +kernel
theorem d_Mo_two_39 : decode b_Mo_two 39 = .ok (.lreturn, 1) := by decide +kernel
theorem d_Mo_two_40 : decode b_Mo_two 40 = .ok (.lload_n 1, 1) := by decide +kernel
theorem d_Mo_two_41 : decode b_Mo_two 41 = .ok (.lload_n 3, 1) := by decide +kernel
theorem d_Mo_two_42 : decode b_Mo_two 42 = .ok (.lsub, 1) := by decide +kernel
theorem d_Mo_two_43 : decode b_Mo_two 43 = .ok (.lreturn, 1) := by decide +kernel
theorem d_Mo_two_44 : decode b_Mo_two 44 = .ok (.lload_n 1, 1) := by decide +kernel
theorem d_Mo_two_45 : decode b_Mo_two 45 = .ok (.lload_n 3, 1) := by decide +kernel
theorem d_Mo_two_46 : decode b_Mo_two 46 = .ok (.lmul, 1) := by decide +kernel
theorem d_Mo_two_47 : decode b_Mo_two 47 = .ok (.lreturn, 1) := by decide +kernel
theorem d_Mo_two_48 : decode b_Mo_two 48 = .ok (.lload_n 1, 1) := by decide +kernel
theorem d_Mo_two_49 : decode b_Mo_two 49 = .ok (.lload_n 3, 1) := by decide +kernel
theorem d_Mo_two_50 : decode b_Mo_two 50 = .ok (.ldiv, 1) := by decide +kernel
theorem d_Mo_two_51 : decode b_Mo_two 51 = .ok (.lreturn, 1) := by decide +kernel
theorem d_Mo_two_52 : decode b_Mo_two 52 = .ok (.lload_n 1, 1) := by decide +kernel
theorem d_Mo_two_53 : decode b_Mo_two 53 = .ok (.lload_n 3, 1) := by decide +kernel
theorem d_Mo_two_54 : decode b_Mo_two 54 = .ok (.lcmp, 1) := by decide +kernel
theorem d_Mo_two_55 : decode b_Mo_two 55 = .ok (.ifCond .ge 7, 3) := by decide +kernel
theorem d_Mo_two_58 : decode b_Mo_two 58 = .ok (.lconst 1, 1) := by decide +kernel
theorem d_Mo_two_59 : decode b_Mo_two 59 = .ok (.goto 4, 3) := by decide +kernel
theorem d_Mo_two_62 : decode b_Mo_two 62 = .ok (.lconst 0, 1) := by decide +kernel
theorem d_Mo_two_63 : decode b_Mo_two 63 = .ok (.lreturn, 1) := by decide +kernel
theorem d_Mo_two_64 : decode b_Mo_two 64 = .ok (.lload_n 1, 1) := by decide +kernel
theorem d_Mo_two_65 : decode b_Mo_two 65 = .ok (.lload_n 3, 1) := by decide +kernel
theorem d_Mo_two_66 : decode b_Mo_two 66 = .ok (.lcmp, 1) := by decide +kernel
theorem d_Mo_two_67 : decode b_Mo_two 67 = .ok (.ifCond .ne 7, 3) := by decide +kernel
theorem d_Mo_two_70 : decode b_Mo_two 70 = .ok (.lconst 1, 1) := by decide +kernel
theorem d_Mo_two_71 : decode b_Mo_two 71 = .ok (.goto 4, 3) := by decide +kernel
theorem d_Mo_two_74 : decode b_Mo_two 74 = .ok (.lconst 0, 1) := by decide +kernel
theorem d_Mo_two_75 : decode b_Mo_two 75 = .ok (.lreturn, 1) := by decide +kernel
theorem d_Mo_needs_0 : decode b_Mo_needs 0 = .ok (.iload_n 0, 1) := by decide +kernel
theorem d_Mo_needs_1 : decode b_Mo_needs 1 = .ok (.iconst 1, 1) := by decide +kernel
theorem d_Mo_needs_2 : decode b_Mo_needs 2 = .ok (.if_icmp .le 13, 3) := by decide +kernel
theorem d_Mo_needs_5 : decode b_Mo_needs 5 = .ok (.iload_n 0, 1) := by decide +kernel
theorem d_Mo_needs_6 : decode b_Mo_needs 6 = .ok (.bipush 8, 2) := by decide +kernel
theorem d_Mo_needs_8 : decode b_Mo_needs 8 = .ok (.if_icmp .ge 7, 3) := by decide +kernel
theorem d_Mo_needs_11 : decode b_Mo_needs 11 = .ok (.iconst 2, 1) := by decide +kernel
theorem d_Mo_needs_12 : decode b_Mo_needs 12 = .ok (.goto 26, 3) := by decide +kernel
theorem d_Mo_needs_15 : decode b_Mo_needs 15 = .ok (.iload_n 0, 1) := by decide +kernel
theorem d_Mo_needs_16 : decode b_Mo_needs 16 = .ok (.bipush 7, 2) := by decide +kernel
theorem d_Mo_needs_18 : decode b_Mo_needs 18 = .ok (.if_icmp .le 9, 3) := by decide +kernel
theorem d_Mo_needs_21 : decode b_Mo_needs 21 = .ok (.iload_n 0, 1) := by decide +kernel
theorem d_Mo_needs_22 : decode b_Mo_needs 22 = .ok (.bipush 12, 2) := by decide +kernel
theorem d_Mo_needs_24 : decode b_Mo_needs 24 = .ok (.if_icmp .lt 9, 3) := by decide +kernel
theorem d_Mo_needs_27 : decode b_Mo_needs 27 = .ok (.iload_n 0, 1) := by decide +kernel
theorem d_Mo_needs_28 : decode b_Mo_needs 28 = .ok (.bipush 14, 2) := by decide +kernel
theorem d_Mo_needs_30 : decode b_Mo_needs 30 = .ok (.if_icmp .ne 7, 3) := by decide +kernel
theorem d_Mo_needs_33 : decode b_Mo_needs 33 = .ok (.iconst 1, 1) := by decide +kernel
theorem d_Mo_needs_34 : decode b_Mo_needs 34 = .ok (.goto 4, 3) := by decide +kernel
theorem d_Mo_needs_37 : decode b_Mo_needs 37 = .ok (.iconst 0, 1) := by decide +kernel
theorem d_Mo_needs_38 : decode b_Mo_needs 38 = .ok (.ireturn, 1) := by decide +kernel
theorem d_Mo_perform_0 : decode b_Mo_perform 0 = .ok (.aload_n 0, 1) := by decide +kernel
theorem d_Mo_perform_1 : decode b_Mo_perform 1 = .ok (.getfield 19, 3) := by decide +kernel
theorem d_Mo_perform_4 : decode b_Mo_perform 4 = .ok (.bipush 12, 2) := by decide +kernel
theorem d_Mo_perform_6 : decode b_Mo_perform 6 = .ok (.iload_n 1, 1) := by decide +kernel
theorem d_Mo_perform_7 : decode b_Mo_perform 7 = .ok (.imul, 1) := by decide +kernel
theorem d_Mo_perform_8 : decode b_Mo_perform 8 = .ok (.iload_n 2, 1) := by decide +kernel
theorem d_Mo_perform_9 : decode b_Mo_perform 9 = .ok (.iadd, 1) := by decide +kernel
theorem d_Mo_perform_10 : decode b_Mo_perform 10 = .ok (.iaload, 1) := by decide +kernel
theorem d_Mo_perform_11 : decode b_Mo_perform 11 = .ok (.istore_n 3, 1) := by decide +kernel
theorem d_Mo_perform_12 : decode b_Mo_perform 12 = .ok (.aload_n 0, 1) := by decide +kernel
theorem d_Mo_perform_13 : decode b_Mo_perform 13 = .ok (.getfield 22, 3) := by decide +kernel
theorem d_Mo_perform_16 : decode b_Mo_perform 16 = .ok (.bipush 12, 2) := by decide +kernel
theorem d_Mo_perform_18 : decode b_Mo_perform 18 = .ok (.iload_n 1, 1) := by decide +kernel
theorem d_Mo_perform_19 : decode b_Mo_perform 19 = .ok (.imul, 1) := by decide +kernel
theorem d_Mo_perform_20 : decode b_Mo_perform 20 = .ok (.iload_n 2, 1) := by decide +kernel
theorem d_Mo_perform_21 : decode b_Mo_perform 21 = .ok (.iadd, 1) := by decide +kernel
theorem d_Mo_perform_22 : decode b_Mo_perform 22 = .ok (.laload, 1) := by decide +kernel
theorem d_Mo_perform_23 : decode b_Mo_perform 23 = .ok (.lstore 4, 2) := by decide +kernel
theorem d_Mo_perform_25 : decode b_Mo_perform 25 = .ok (.aload_n 0, 1) := by decide +kernel
theorem d_Mo_perform_26 : decode b_Mo_perform 26 = .ok (.getfield 119, 3) := by decide +kernel
theorem d_Mo_perform_29 : decode b_Mo_perform 29 = .ok (.iload_n 3, 1) := by decide +kernel
theorem d_Mo_perform_30 : decode b_Mo_perform 30 = .ok (.invokestatic 125, 3) := by decide +kernel
theorem d_Mo_perform_33 : decode b_Mo_perform 33 = .ok (.if_icmp .ge 10, 3) := by decide +kernel
theorem d_Mo_perform_36 : decode b_Mo_perform 36 = .ok (.aload_n 0, 1) := by decide +kernel
theorem d_Mo_perform_37 : decode b_Mo_perform 37 = .ok (.iconst 3, 1) := by decide +kernel
theorem d_Mo_perform_38 : decode b_Mo_perform 38 = .ok (.putfield 122, 3) := by decide +kernel
theorem d_Mo_perform_41 : decode b_Mo_perform 41 = .ok (.iload_n 2, 1) := by decide +kernel
theorem d_Mo_perform_42 : decode b_Mo_perform 42 = .ok (.ireturn, 1) := by decide +kernel
theorem d_Mo_perform_43 : decode b_Mo_perform 43 = .ok (.aload_n 0, 1) := by decide +kernel
theorem d_Mo_perform_44 : decode b_Mo_perform 44 = .ok (.dup, 1) := by decide +kernel
theorem d_Mo_perform_45 : decode b_Mo_perform 45 = .ok (.getfield 119, 3) := by decide +kernel
theorem d_Mo_perform_48 : decode b_Mo_perform 48 = .ok (.iload_n 3, 1) := by decide +kernel
theorem d_Mo_perform_49 : decode b_Mo_perform 49 = .ok (.invokestatic 125, 3) := by decide +kernel
theorem d_Mo_perform_52 : decode b_Mo_perform 52 = .ok (.isub, 1) := by decide +kernel
theorem d_Mo_perform_53 : decode b_Mo_perform 53 = .ok (.putfield 119, 3) := by decide +kernel
theorem d_Mo_perform_56 : decode b_Mo_perform 56 = .ok (.aload_n 0, 1) := by decide +kernel
theorem d_Mo_perform_57 : decode b_Mo_perform 57 = .ok (.getfield 119, 3) := by decide +kernel
theorem d_Mo_perform_60 : decode b_Mo_perform 60 = .ok (.bipush 8, 2) := by decide +kernel
theorem d_Mo_perform_62 : decode b_Mo_perform 62 = .ok (.if_icmp .ge 15, 3) := by decide +kernel
theorem d_Mo_perform_65 : decode b_Mo_perform 65 = .ok (.aload_n 0, 1) := by decide +kernel
theorem d_Mo_perform_66 : decode b_Mo_perform 66 = .ok (.getfield 69, 3) := by decide +kernel
theorem d_Mo_perform_69 : decode b_Mo_perform 69 = .ok (.aload_n 0, 1) := by decide +kernel
theorem d_Mo_perform_70 : decode b_Mo_perform 70 = .ok (.getfield 119, 3) := by decide +kernel
theorem d_Mo_perform_73 : decode b_Mo_perform 73 = .ok (.laload, 1) := by decide +kernel
theorem d_Mo_perform_74 : decode b_Mo_perform 74 = .ok (.goto 4, 3) := by decide +kernel
theorem d_Mo_perform_77 : decode b_Mo_perform 77 = .ok (.lconst 0, 1) := by decide +kernel
theorem d_Mo_perform_78 : decode b_Mo_perform 78 = .ok (.lstore 6, 2) := by decide +kernel
theorem d_Mo_perform_80 : decode b_Mo_perform 80 = .ok (.aload_n 0, 1) := by decide +kernel
theorem d_Mo_perform_81 : decode b_Mo_perform 81 = .ok (.getfield 119, 3) := by decide +kernel
theorem d_Mo_perform_84 : decode b_Mo_perform 84 = .ok (.iconst 1, 1) := by decide +kernel
theorem d_Mo_perform_85 : decode b_Mo_perform 85 = .ok (.iadd, 1) := by decide +kernel
theorem d_Mo_perform_86 : decode b_Mo_perform 86 = .ok (.bipush 8, 2) := by decide +kernel
theorem d_Mo_perform_88 : decode b_Mo_perform 88 = .ok (.if_icmp .ge 17, 3) := by decide +kernel
theorem d_Mo_perform_91 : decode b_Mo_perform 91 = .ok (.aload_n 0, 1) := by decide +kernel
theorem d_Mo_perform_92 : decode b_Mo_perform 92 = .ok (.getfield 69, 3) := by decide +kernel
theorem d_Mo_perform_95 : decode b_Mo_perform 95 = .ok (.aload_n 0, 1) := by decide +kernel
theorem d_Mo_perform_96 : decode b_Mo_perform 96 = .ok (.getfield 119, 3) := by decide +kernel
theorem d_Mo_perform_99 : decode b_Mo_perform 99 = .ok (.iconst 1, 1) := by decide +kernel
theorem d_Mo_perform_100 : decode b_Mo_perform 100 = .ok (.iadd, 1) := by decide +kernel
theorem d_Mo_perform_101 : decode b_Mo_perform 101 = .ok (.laload, 1) := by decide +kernel
theorem d_Mo_perform_102 : decode b_Mo_perform 102 = .ok (.goto 4, 3) := by decide +kernel
theorem d_Mo_perform_105 : decode b_Mo_perform 105 = .ok (.lconst 0, 1) := by decide +kernel
theorem d_Mo_perform_106 : decode b_Mo_perform 106 = .ok (.lstore 8, 2) := by decide +kernel
theorem d_Mo_perform_108 : decode b_Mo_perform 108 = .ok (.iload_n 3, 1) := by decide +kernel
theorem d_Mo_perform_109 : decode b_Mo_perform 109 = .ok (.tableswitch 282 0 15 #[79, 88, 282, 282, 282, 103, 282, 282, 133, 152, 178, 200, 214, 225, 235, 279], 79) := by decide +kernel
theorem d_Mo_perform_188 : decode b_Mo_perform 188 = .ok (.aload_n 0, 1) := by decide +kernel
theorem d_Mo_perform_189 : decode b_Mo_perform 189 = .ok (.lload 4, 2) := by decide +kernel
theorem d_Mo_perform_191 : decode b_Mo_perform 191 = .ok (.invokevirtual 129, 3) := by decide +kernel
theorem d_Mo_perform_194 : decode b_Mo_perform 194 = .ok (.goto 209, 3) := by decide +kernel
theorem d_Mo_perform_197 : decode b_Mo_perform 197 = .ok (.aload_n 0, 1) := by decide +kernel
theorem d_Mo_perform_198 : decode b_Mo_perform 198 = .ok (.aload_n 0, 1) := by decide +kernel
theorem d_Mo_perform_199 : decode b_Mo_perform 199 = .ok (.getfield 39, 3) := by decide +kernel
theorem d_Mo_perform_202 : decode b_Mo_perform 202 = .ok (.lload 4, 2) := by decide +kernel
theorem d_Mo_perform_204 : decode b_Mo_perform 204 = .ok (.l2i, 1) := by decide +kernel
theorem d_Mo_perform_205 : decode b_Mo_perform 205 = .ok (.laload, 1) := by decide +kernel
theorem d_Mo_perform_206 : decode b_Mo_perform 206 = .ok (.invokevirtual 129, 3) := by decide +kernel
theorem d_Mo_perform_209 : decode b_Mo_perform 209 = .ok (.goto 194, 3) := by decide +kernel
theorem d_Mo_perform_212 : decode b_Mo_perform 212 = .ok (.lload 8, 2) := by decide +kernel
theorem d_Mo_perform_214 : decode b_Mo_perform 214 = .ok (.lconst 0, 1) := by decide +kernel
theorem d_Mo_perform_215 : decode b_Mo_perform 215 = .ok (.lcmp, 1) := by decide +kernel
theorem d_Mo_perform_216 : decode b_Mo_perform 216 = .ok (.ifCond .ne 11, 3) := by decide +kernel
theorem d_Mo_perform_219 : decode b_Mo_perform 219 = .ok (.aload_n 0, 1) := by decide +kernel
theorem d_Mo_perform_220 : decode b_Mo_perform 220 = .ok (.iconst 2, 1) := by decide +kernel
theorem d_Mo_perform_221 : decode b_Mo_perform 221 = .ok (.putfield 122, 3) := by decide +kernel
theorem d_Mo_perform_224 : decode b_Mo_perform 224 = .ok (.goto 179, 3) := by decide +kernel
theorem d_Mo_perform_227 : decode b_Mo_perform 227 = .ok (.aload_n 0, 1) := by decide +kernel
theorem d_Mo_perform_228 : decode b_Mo_perform 228 = .ok (.iload_n 3, 1) := by decide +kernel
theorem d_Mo_perform_229 : decode b_Mo_perform 229 = .ok (.lload 6, 2) := by decide +kernel
theorem d_Mo_perform_231 : decode b_Mo_perform 231 = .ok (.lload 8, 2) := by decide +kernel
theorem d_Mo_perform_233 : decode b_Mo_perform 233 = .ok (.invokestatic 133, 3) := by decide +kernel
theorem d_Mo_perform_236 : decode b_Mo_perform 236 = .ok (.invokevirtual 129, 3) := by decide +kernel
theorem d_Mo_perform_239 : decode b_Mo_perform 239 = .ok (.goto 164, 3) := by decide +kernel
theorem d_Mo_perform_242 : decode b_Mo_perform 242 = .ok (.aload_n 0, 1) := by decide +kernel
theorem d_Mo_perform_243 : decode b_Mo_perform 243 = .ok (.lload 6, 2) := by decide +kernel
theorem d_Mo_perform_245 : decode b_Mo_perform 245 = .ok (.lconst 0, 1) := by decide +kernel
theorem d_Mo_perform_246 : decode b_Mo_perform 246 = .ok (.lcmp, 1) := by decide +kernel
theorem d_Mo_perform_247 : decode b_Mo_perform 247 = .ok (.ifCond .ne 7, 3) := by decide +kernel
theorem d_Mo_perform_250 : decode b_Mo_perform 250 = .ok (.lconst 1, 1) := by decide +kernel
theorem d_Mo_perform_251 : decode b_Mo_perform 251 = .ok (.goto 4, 3) := by decide +kernel
theorem d_Mo_perform_254 : decode b_Mo_perform 254 = .ok (.lconst 0, 1) := by decide +kernel
theorem d_Mo_perform_255 : decode b_Mo_perform 255 = .ok (.invokevirtual 129, 3) := by decide +kernel
theorem d_Mo_perform_258 : decode b_Mo_perform 258 = .ok (.goto 145, 3) := by decide +kernel
theorem d_Mo_perform_261 : decode b_Mo_perform 261 = .ok (.lload 6, 2) := by decide +kernel
theorem d_Mo_perform_263 : decode b_Mo_perform 263 = .ok (.lconst 0, 1) := by decide +kernel
theorem d_Mo_perform_264 : decode b_Mo_perform 264 = .ok (.lcmp, 1) := by decide +kernel
theorem d_Mo_perform_265 : decode b_Mo_perform 265 = .ok (.ifCond .ne 138, 3) := by decide +kernel
theorem d_Mo_perform_268 : decode b_Mo_perform 268 = .ok (.iload_n 2, 1) := by decide +kernel
theorem d_Mo_perform_269 : decode b_Mo_perform 269 = .ok (.lload 4, 2) := by decide +kernel
theorem d_Mo_perform_271 : decode b_Mo_perform 271 = .ok (.l2i, 1) := by decide +kernel
theorem d_Mo_perform_272 : decode b_Mo_perform 272 = .ok (.iadd, 1) := by decide +kernel
theorem d_Mo_perform_273 : decode b_Mo_perform 273 = .ok (.istore 10, 2) := by decide +kernel
theorem d_Mo_perform_275 : decode b_Mo_perform 275 = .ok (.iload 10, 2) := by decide +kernel
theorem d_Mo_perform_277 : decode b_Mo_perform 277 = .ok (.ifCond .ge 7, 3) := by decide +kernel
theorem d_Mo_perform_280 : decode b_Mo_perform 280 = .ok (.iconst 0, 1) := by decide +kernel
theorem d_Mo_perform_281 : decode b_Mo_perform 281 = .ok (.goto 5, 3) := by decide +kernel
theorem d_Mo_perform_284 : decode b_Mo_perform 284 = .ok (.iload 10, 2) := by decide +kernel
theorem d_Mo_perform_286 : decode b_Mo_perform 286 = .ok (.ireturn, 1) := by decide +kernel
theorem d_Mo_perform_287 : decode b_Mo_perform 287 = .ok (.aload_n 0, 1) := by decide +kernel
theorem d_Mo_perform_288 : decode b_Mo_perform 288 = .ok (.getfield 72, 3) := by decide +kernel
theorem d_Mo_perform_291 : decode b_Mo_perform 291 = .ok (.lload 4, 2) := by decide +kernel
theorem d_Mo_perform_293 : decode b_Mo_perform 293 = .ok (.l2i, 1) := by decide +kernel
theorem d_Mo_perform_294 : decode b_Mo_perform 294 = .ok (.lload 6, 2) := by decide +kernel
theorem d_Mo_perform_296 : decode b_Mo_perform 296 = .ok (.lastore, 1) := by decide +kernel
theorem d_Mo_perform_297 : decode b_Mo_perform 297 = .ok (.aload_n 0, 1) := by decide +kernel
theorem d_Mo_perform_298 : decode b_Mo_perform 298 = .ok (.getfield 75, 3) := by decide +kernel
theorem d_Mo_perform_301 : decode b_Mo_perform 301 = .ok (.lload 4, 2) := by decide +kernel
theorem d_Mo_perform_303 : decode b_Mo_perform 303 = .ok (.l2i, 1) := by decide +kernel
theorem d_Mo_perform_304 : decode b_Mo_perform 304 = .ok (.iconst 1, 1) := by decide +kernel
theorem d_Mo_perform_305 : decode b_Mo_perform 305 = .ok (.bastore, 1) := by decide +kernel
theorem d_Mo_perform_306 : decode b_Mo_perform 306 = .ok (.goto 97, 3) := by decide +kernel
theorem d_Mo_perform_309 : decode b_Mo_perform 309 = .ok (.aload_n 0, 1) := by decide +kernel
theorem d_Mo_perform_310 : decode b_Mo_perform 310 = .ok (.dup, 1) := by decide +kernel
theorem d_Mo_perform_311 : decode b_Mo_perform 311 = .ok (.getfield 137, 3) := by decide +kernel
theorem d_Mo_perform_314 : decode b_Mo_perform 314 = .ok (.lload 6, 2) := by decide +kernel
theorem d_Mo_perform_316 : decode b_Mo_perform 316 = .ok (.ladd, 1) := by decide +kernel
theorem d_Mo_perform_317 : decode b_Mo_perform 317 = .ok (.putfield 137, 3) := by decide +kernel
theorem d_Mo_perform_320 : decode b_Mo_perform 320 = .ok (.goto 83, 3) := by decide +kernel
theorem d_Mo_perform_323 : decode b_Mo_perform 323 = .ok (.aload_n 0, 1) := by decide +kernel
theorem d_Mo_perform_324 : decode b_Mo_perform 324 = .ok (.aload_n 0, 1) := by decide +kernel
theorem d_Mo_perform_325 : decode b_Mo_perform 325 = .ok (.getfield 137, 3) := by decide +kernel
theorem d_Mo_perform_328 : decode b_Mo_perform 328 = .ok (.invokevirtual 129, 3) := by decide +kernel
theorem d_Mo_perform_331 : decode b_Mo_perform 331 = .ok (.goto 72, 3) := by decide +kernel
theorem d_Mo_perform_334 : decode b_Mo_perform 334 = .ok (.aload_n 0, 1) := by decide +kernel
theorem d_Mo_perform_335 : decode b_Mo_perform 335 = .ok (.lload 4, 2) := by decide +kernel
theorem d_Mo_perform_337 : decode b_Mo_perform 337 = .ok (.l2i, 1) := by decide +kernel
theorem d_Mo_perform_338 : decode b_Mo_perform 338 = .ok (.invokevirtual 141, 3) := by decide +kernel
theorem d_Mo_perform_341 : decode b_Mo_perform 341 = .ok (.goto 62, 3) := by decide +kernel
theorem d_Mo_perform_344 : decode b_Mo_perform 344 = .ok (.lload 6, 2) := by decide +kernel
theorem d_Mo_perform_346 : decode b_Mo_perform 346 = .ok (.lconst 0, 1) := by decide +kernel
theorem d_Mo_perform_347 : decode b_Mo_perform 347 = .ok (.aload_n 0, 1) := by decide +kernel
theorem d_Mo_perform_348 : decode b_Mo_perform 348 = .ok (.getfield 145, 3) := by decide +kernel
theorem d_Mo_perform_351 : decode b_Mo_perform 351 = .ok (.iconst 1, 1) := by decide +kernel
theorem d_Mo_perform_352 : decode b_Mo_perform 352 = .ok (.isub, 1) := by decide +kernel
theorem d_Mo_perform_353 : decode b_Mo_perform 353 = .ok (.i2l, 1) := by decide +kernel
theorem d_Mo_perform_354 : decode b_Mo_perform 354 = .ok (.invokestatic 88, 3) := by decide +kernel
theorem d_Mo_perform_357 : decode b_Mo_perform 357 = .ok (.ifCond .eq 23, 3) := by decide +kernel
theorem d_Mo_perform_360 : decode b_Mo_perform 360 = .ok (.aload_n 0, 1) := by decide +kernel
theorem d_Mo_perform_361 : decode b_Mo_perform 361 = .ok (.aload_n 0, 1) := by decide +kernel
theorem d_Mo_perform_362 : decode b_Mo_perform 362 = .ok (.getfield 39, 3) := by decide +kernel
theorem d_Mo_perform_365 : decode b_Mo_perform 365 = .ok (.aload_n 0, 1) := by decide +kernel
theorem d_Mo_perform_366 : decode b_Mo_perform 366 = .ok (.getfield 54, 3) := by decide +kernel
theorem d_Mo_perform_369 : decode b_Mo_perform 369 = .ok (.lload 6, 2) := by decide +kernel
theorem d_Mo_perform_371 : decode b_Mo_perform 371 = .ok (.l2i, 1) := by decide +kernel
theorem d_Mo_perform_372 : decode b_Mo_perform 372 = .ok (.iaload, 1) := by decide +kernel
theorem d_Mo_perform_373 : decode b_Mo_perform 373 = .ok (.laload, 1) := by decide +kernel
theorem d_Mo_perform_374 : decode b_Mo_perform 374 = .ok (.invokevirtual 129, 3) := by decide +kernel
theorem d_Mo_perform_377 : decode b_Mo_perform 377 = .ok (.goto 26, 3) := by decide +kernel
theorem d_Mo_perform_380 : decode b_Mo_perform 380 = .ok (.aload_n 0, 1) := by decide +kernel
theorem d_Mo_perform_381 : decode b_Mo_perform 381 = .ok (.iconst 4, 1) := by decide +kernel
theorem d_Mo_perform_382 : decode b_Mo_perform 382 = .ok (.putfield 122, 3) := by decide +kernel
theorem d_Mo_perform_385 : decode b_Mo_perform 385 = .ok (.goto 18, 3) := by decide +kernel
theorem d_Mo_perform_388 : decode b_Mo_perform 388 = .ok (.bipush 12, 2) := by decide +kernel
theorem d_Mo_perform_390 : decode b_Mo_perform 390 = .ok (.ireturn, 1) := by decide +kernel
theorem d_Mo_perform_391 : decode b_Mo_perform 391 = .ok (.aload_n 0, 1) := by decide +kernel
theorem d_Mo_perform_392 : decode b_Mo_perform 392 = .ok (.iload_n 3, 1) := by decide +kernel
theorem d_Mo_perform_393 : decode b_Mo_perform 393 = .ok (.lload 6, 2) := by decide +kernel
theorem d_Mo_perform_395 : decode b_Mo_perform 395 = .ok (.lload 8, 2) := by decide +kernel
theorem d_Mo_perform_397 : decode b_Mo_perform 397 = .ok (.invokestatic 133, 3) := by decide +kernel
theorem d_Mo_perform_400 : decode b_Mo_perform 400 = .ok (.invokevirtual 129, 3) := by decide +kernel
theorem d_Mo_perform_403 : decode b_Mo_perform 403 = .ok (.iload_n 2, 1) := by decide +kernel
theorem d_Mo_perform_404 : decode b_Mo_perform 404 = .ok (.iconst 1, 1) := by decide +kernel
theorem d_Mo_perform_405 : decode b_Mo_perform 405 = .ok (.iadd, 1) := by decide +kernel
theorem d_Mo_perform_406 : decode b_Mo_perform 406 = .ok (.ireturn, 1) := by decide +kernel
theorem d_Mo_keepHandle_0 : decode b_Mo_keepHandle 0 = .ok (.aload_n 0, 1) := by decide +kernel
theorem d_Mo_keepHandle_1 : decode b_Mo_keepHandle 1 = .ok (.getfield 119, 3) := by decide +kernel
theorem d_Mo_keepHandle_4 : decode b_Mo_keepHandle 4 = .ok (.bipush 8, 2) := by decide +kernel
theorem d_Mo_keepHandle_6 : decode b_Mo_keepHandle 6 = .ok (.if_icmp .ne 11, 3) := by decide +kernel
theorem d_Mo_keepHandle_9 : decode b_Mo_keepHandle 9 = .ok (.aload_n 0, 1) := by decide +kernel
theorem d_Mo_keepHandle_10 : decode b_Mo_keepHandle 10 = .ok (.iconst 3, 1) := by decide +kernel
theorem d_Mo_keepHandle_11 : decode b_Mo_keepHandle 11 = .ok (.putfield 122, 3) := by decide +kernel
theorem d_Mo_keepHandle_14 : decode b_Mo_keepHandle 14 = .ok (.goto 49, 3) := by decide +kernel
theorem d_Mo_keepHandle_17 : decode b_Mo_keepHandle 17 = .ok (.aload_n 0, 1) := by decide +kernel
theorem d_Mo_keepHandle_18 : decode b_Mo_keepHandle 18 = .ok (.getfield 145, 3) := by decide +kernel
theorem d_Mo_keepHandle_21 : decode b_Mo_keepHandle 21 = .ok (.bipush 16, 2) := by decide +kernel
theorem d_Mo_keepHandle_23 : decode b_Mo_keepHandle 23 = .ok (.if_icmp .ne 11, 3) := by decide +kernel
theorem d_Mo_keepHandle_26 : decode b_Mo_keepHandle 26 = .ok (.aload_n 0, 1) := by decide +kernel
theorem d_Mo_keepHandle_27 : decode b_Mo_keepHandle 27 = .ok (.iconst 4, 1) := by decide +kernel
theorem d_Mo_keepHandle_28 : decode b_Mo_keepHandle 28 = .ok (.putfield 122, 3) := by decide +kernel
theorem d_Mo_keepHandle_31 : decode b_Mo_keepHandle 31 = .ok (.goto 32, 3) := by decide +kernel
theorem d_Mo_keepHandle_34 : decode b_Mo_keepHandle 34 = .ok (.aload_n 0, 1) := by decide +kernel
theorem d_Mo_keepHandle_35 : decode b_Mo_keepHandle 35 = .ok (.getfield 54, 3) := by decide +kernel
theorem d_Mo_keepHandle_38 : decode b_Mo_keepHandle 38 = .ok (.aload_n 0, 1) := by decide +kernel
theorem d_Mo_keepHandle_39 : decode b_Mo_keepHandle 39 = .ok (.getfield 145, 3) := by decide +kernel
theorem d_Mo_keepHandle_42 : decode b_Mo_keepHandle 42 = .ok (.iload_n 1, 1) := by decide +kernel
theorem d_Mo_keepHandle_43 : decode b_Mo_keepHandle 43 = .ok (.iastore, 1) := by decide +kernel
theorem d_Mo_keepHandle_44 : decode b_Mo_keepHandle 44 = .ok (.aload_n 0, 1) := by decide +kernel
theorem d_Mo_keepHandle_45 : decode b_Mo_keepHandle 45 = .ok (.aload_n 0, 1) := by decide +kernel
theorem d_Mo_keepHandle_46 : decode b_Mo_keepHandle 46 = .ok (.getfield 145, 3) := by decide +kernel
theorem d_Mo_keepHandle_49 : decode b_Mo_keepHandle 49 = .ok (.i2l, 1) := by decide +kernel
theorem d_Mo_keepHandle_50 : decode b_Mo_keepHandle 50 = .ok (.invokevirtual 129, 3) := by decide +kernel
theorem d_Mo_keepHandle_53 : decode b_Mo_keepHandle 53 = .ok (.aload_n 0, 1) := by decide +kernel
theorem d_Mo_keepHandle_54 : decode b_Mo_keepHandle 54 = .ok (.dup, 1) := by decide +kernel
end
section
theorem d_Mo_keepHandle_55 : decode b_Mo_keepHandle 55 = .ok (.getfield 145, 3) := by decide +kernel
theorem d_Mo_keepHandle_58 : decode b_Mo_keepHandle 58 = .ok (.iconst 1, 1) := by decide +kernel
theorem d_Mo_keepHandle_59 : decode b_Mo_keepHandle 59 = .ok (.iadd, 1) := by decide +kernel
theorem d_Mo_keepHandle_60 : decode b_Mo_keepHandle 60 = .ok (.putfield 145, 3) := by decide +kernel
theorem d_Mo_keepHandle_63 : decode b_Mo_keepHandle 63 = .ok (.return_, 1) := by decide +kernel
theorem d_Mo_doAll_0 : decode b_Mo_doAll 0 = .ok (.aload_n 0, 1) := by decide +kernel
theorem d_Mo_doAll_1 : decode b_Mo_doAll 1 = .ok (.iconst 0, 1) := by decide +kernel
theorem d_Mo_doAll_2 : decode b_Mo_doAll 2 = .ok (.putfield 119, 3) := by decide +kernel
theorem d_Mo_doAll_5 : decode b_Mo_doAll 5 = .ok (.aload_n 0, 1) := by decide +kernel
theorem d_Mo_doAll_6 : decode b_Mo_doAll 6 = .ok (.iconst 0, 1) := by decide +kernel
theorem d_Mo_doAll_7 : decode b_Mo_doAll 7 = .ok (.putfield 148, 3) := by decide +kernel
theorem d_Mo_doAll_10 : decode b_Mo_doAll 10 = .ok (.aload_n 0, 1) := by decide +kernel
theorem d_Mo_doAll_11 : decode b_Mo_doAll 11 = .ok (.iconst 0, 1) := by decide +kernel
theorem d_Mo_doAll_12 : decode b_Mo_doAll 12 = .ok (.putfield 122, 3) := by decide +kernel
theorem d_Mo_doAll_15 : decode b_Mo_doAll 15 = .ok (.aload_n 0, 1) := by decide +kernel
theorem d_Mo_doAll_16 : decode b_Mo_doAll 16 = .ok (.aload_n 0, 1) := by decide +kernel
theorem d_Mo_doAll_17 : decode b_Mo_doAll 17 = .ok (.getfield 26, 3) := by decide +kernel
theorem d_Mo_doAll_20 : decode b_Mo_doAll 20 = .ok (.iload_n 1, 1) := by decide +kernel
theorem d_Mo_doAll_21 : decode b_Mo_doAll 21 = .ok (.laload, 1) := by decide +kernel
theorem d_Mo_doAll_22 : decode b_Mo_doAll 22 = .ok (.putfield 137, 3) := by decide +kernel
theorem d_Mo_doAll_25 : decode b_Mo_doAll 25 = .ok (.iconst 0, 1) := by decide +kernel
theorem d_Mo_doAll_26 : decode b_Mo_doAll 26 = .ok (.istore_n 2, 1) := by decide +kernel
theorem d_Mo_doAll_27 : decode b_Mo_doAll 27 = .ok (.iload_n 2, 1) := by decide +kernel
theorem d_Mo_doAll_28 : decode b_Mo_doAll 28 = .ok (.iconst 4, 1) := by decide +kernel
theorem d_Mo_doAll_29 : decode b_Mo_doAll 29 = .ok (.if_icmp .ge 16, 3) := by decide +kernel
theorem d_Mo_doAll_32 : decode b_Mo_doAll 32 = .ok (.aload_n 0, 1) := by decide +kernel
theorem d_Mo_doAll_33 : decode b_Mo_doAll 33 = .ok (.getfield 75, 3) := by decide +kernel
theorem d_Mo_doAll_36 : decode b_Mo_doAll 36 = .ok (.iload_n 2, 1) := by decide +kernel
theorem d_Mo_doAll_37 : decode b_Mo_doAll 37 = .ok (.iconst 0, 1) := by decide +kernel
theorem d_Mo_doAll_38 : decode b_Mo_doAll 38 = .ok (.bastore, 1) := by decide +kernel
theorem d_Mo_doAll_39 : decode b_Mo_doAll 39 = .ok (.iinc 2 1, 3) := by decide +kernel
theorem d_Mo_doAll_42 : decode b_Mo_doAll 42 = .ok (.goto (-15), 3) := by decide +kernel
theorem d_Mo_doAll_45 : decode b_Mo_doAll 45 = .ok (.iconst 0, 1) := by decide +kernel
theorem d_Mo_doAll_46 : decode b_Mo_doAll 46 = .ok (.istore_n 2, 1) := by decide +kernel
theorem d_Mo_doAll_47 : decode b_Mo_doAll 47 = .ok (.aload_n 0, 1) := by decide +kernel
theorem d_Mo_doAll_48 : decode b_Mo_doAll 48 = .ok (.getfield 122, 3) := by decide +kernel
theorem d_Mo_doAll_51 : decode b_Mo_doAll 51 = .ok (.ifCond .ne 52, 3) := by decide +kernel
theorem d_Mo_doAll_54 : decode b_Mo_doAll 54 = .ok (.iload_n 2, 1) := by decide +kernel
theorem d_Mo_doAll_55 : decode b_Mo_doAll 55 = .ok (.aload_n 0, 1) := by decide +kernel
theorem d_Mo_doAll_56 : decode b_Mo_doAll 56 = .ok (.getfield 16, 3) := by decide +kernel
theorem d_Mo_doAll_59 : decode b_Mo_doAll 59 = .ok (.iload_n 1, 1) := by decide +kernel
theorem d_Mo_doAll_60 : decode b_Mo_doAll 60 = .ok (.iaload, 1) := by decide +kernel
theorem d_Mo_doAll_61 : decode b_Mo_doAll 61 = .ok (.if_icmp .ge 42, 3) := by decide +kernel
theorem d_Mo_doAll_64 : decode b_Mo_doAll 64 = .ok (.aload_n 0, 1) := by decide +kernel
theorem d_Mo_doAll_65 : decode b_Mo_doAll 65 = .ok (.getfield 148, 3) := by decide +kernel
theorem d_Mo_doAll_68 : decode b_Mo_doAll 68 = .ok (.aload_n 0, 1) := by decide +kernel
theorem d_Mo_doAll_69 : decode b_Mo_doAll 69 = .ok (.getfield 78, 3) := by decide +kernel
theorem d_Mo_doAll_72 : decode b_Mo_doAll 72 = .ok (.if_icmp .ne 11, 3) := by decide +kernel
theorem d_Mo_doAll_75 : decode b_Mo_doAll 75 = .ok (.aload_n 0, 1) := by decide +kernel
theorem d_Mo_doAll_76 : decode b_Mo_doAll 76 = .ok (.iconst 1, 1) := by decide +kernel
theorem d_Mo_doAll_77 : decode b_Mo_doAll 77 = .ok (.putfield 122, 3) := by decide +kernel
theorem d_Mo_doAll_80 : decode b_Mo_doAll 80 = .ok (.goto (-33), 3) := by decide +kernel
theorem d_Mo_doAll_83 : decode b_Mo_doAll 83 = .ok (.aload_n 0, 1) := by decide +kernel
theorem d_Mo_doAll_84 : decode b_Mo_doAll 84 = .ok (.dup, 1) := by decide +kernel
theorem d_Mo_doAll_85 : decode b_Mo_doAll 85 = .ok (.getfield 148, 3) := by decide +kernel
theorem d_Mo_doAll_88 : decode b_Mo_doAll 88 = .ok (.iconst 1, 1) := by decide +kernel
theorem d_Mo_doAll_89 : decode b_Mo_doAll 89 = .ok (.iadd, 1) := by decide +kernel
theorem d_Mo_doAll_90 : decode b_Mo_doAll 90 = .ok (.putfield 148, 3) := by decide +kernel
theorem d_Mo_doAll_93 : decode b_Mo_doAll 93 = .ok (.aload_n 0, 1) := by decide +kernel
theorem d_Mo_doAll_94 : decode b_Mo_doAll 94 = .ok (.iload_n 1, 1) := by decide +kernel
theorem d_Mo_doAll_95 : decode b_Mo_doAll 95 = .ok (.iload_n 2, 1) := by decide +kernel
theorem d_Mo_doAll_96 : decode b_Mo_doAll 96 = .ok (.invokevirtual 151, 3) := by decide +kernel
theorem d_Mo_doAll_99 : decode b_Mo_doAll 99 = .ok (.istore_n 2, 1) := by decide +kernel
theorem d_Mo_doAll_100 : decode b_Mo_doAll 100 = .ok (.goto (-53), 3) := by decide +kernel
theorem d_Mo_doAll_103 : decode b_Mo_doAll 103 = .ok (.aload_n 0, 1) := by decide +kernel
theorem d_Mo_doAll_104 : decode b_Mo_doAll 104 = .ok (.getfield 122, 3) := by decide +kernel
theorem d_Mo_doAll_107 : decode b_Mo_doAll 107 = .ok (.ifCond .le 36, 3) := by decide +kernel
theorem d_Mo_doAll_110 : decode b_Mo_doAll 110 = .ok (.aload_n 0, 1) := by decide +kernel
theorem d_Mo_doAll_111 : decode b_Mo_doAll 111 = .ok (.getfield 57, 3) := by decide +kernel
theorem d_Mo_doAll_114 : decode b_Mo_doAll 114 = .ok (.aload_n 0, 1) := by decide +kernel
theorem d_Mo_doAll_115 : decode b_Mo_doAll 115 = .ok (.getfield 155, 3) := by decide +kernel
theorem d_Mo_doAll_118 : decode b_Mo_doAll 118 = .ok (.iload_n 1, 1) := by decide +kernel
theorem d_Mo_doAll_119 : decode b_Mo_doAll 119 = .ok (.iastore, 1) := by decide +kernel
theorem d_Mo_doAll_120 : decode b_Mo_doAll 120 = .ok (.aload_n 0, 1) := by decide +kernel
theorem d_Mo_doAll_121 : decode b_Mo_doAll 121 = .ok (.getfield 60, 3) := by decide +kernel
theorem d_Mo_doAll_124 : decode b_Mo_doAll 124 = .ok (.aload_n 0, 1) := by decide +kernel
theorem d_Mo_doAll_125 : decode b_Mo_doAll 125 = .ok (.getfield 155, 3) := by decide +kernel
theorem d_Mo_doAll_128 : decode b_Mo_doAll 128 = .ok (.aload_n 0, 1) := by decide +kernel
theorem d_Mo_doAll_129 : decode b_Mo_doAll 129 = .ok (.getfield 122, 3) := by decide +kernel
theorem d_Mo_doAll_132 : decode b_Mo_doAll 132 = .ok (.iastore, 1) := by decide +kernel
theorem d_Mo_doAll_133 : decode b_Mo_doAll 133 = .ok (.aload_n 0, 1) := by decide +kernel
theorem d_Mo_doAll_134 : decode b_Mo_doAll 134 = .ok (.dup, 1) := by decide +kernel
theorem d_Mo_doAll_135 : decode b_Mo_doAll 135 = .ok (.getfield 155, 3) := by decide +kernel
theorem d_Mo_doAll_138 : decode b_Mo_doAll 138 = .ok (.iconst 1, 1) := by decide +kernel
theorem d_Mo_doAll_139 : decode b_Mo_doAll 139 = .ok (.iadd, 1) := by decide +kernel
theorem d_Mo_doAll_140 : decode b_Mo_doAll 140 = .ok (.putfield 155, 3) := by decide +kernel
theorem d_Mo_doAll_143 : decode b_Mo_doAll 143 = .ok (.return_, 1) := by decide +kernel
theorem d_Mo_behind_0 : decode b_Mo_behind 0 = .ok (.iconst (-1), 1) := by decide +kernel
theorem d_Mo_behind_1 : decode b_Mo_behind 1 = .ok (.istore_n 3, 1) := by decide +kernel
theorem d_Mo_behind_2 : decode b_Mo_behind 2 = .ok (.iconst 0, 1) := by decide +kernel
theorem d_Mo_behind_3 : decode b_Mo_behind 3 = .ok (.istore 4, 2) := by decide +kernel
theorem d_Mo_behind_5 : decode b_Mo_behind 5 = .ok (.iload 4, 2) := by decide +kernel
theorem d_Mo_behind_7 : decode b_Mo_behind 7 = .ok (.aload_n 0, 1) := by decide +kernel
theorem d_Mo_behind_8 : decode b_Mo_behind 8 = .ok (.getfield 85, 3) := by decide +kernel
theorem d_Mo_behind_11 : decode b_Mo_behind 11 = .ok (.if_icmp .ge 99, 3) := by decide +kernel
theorem d_Mo_behind_14 : decode b_Mo_behind 14 = .ok (.iload_n 2, 1) := by decide +kernel
theorem d_Mo_behind_15 : decode b_Mo_behind 15 = .ok (.iconst (-1), 1) := by decide +kernel
theorem d_Mo_behind_16 : decode b_Mo_behind 16 = .ok (.if_icmp .eq 41, 3) := by decide +kernel
theorem d_Mo_behind_19 : decode b_Mo_behind 19 = .ok (.aload_n 0, 1) := by decide +kernel
theorem d_Mo_behind_20 : decode b_Mo_behind 20 = .ok (.getfield 13, 3) := by decide +kernel
theorem d_Mo_behind_23 : decode b_Mo_behind 23 = .ok (.iload 4, 2) := by decide +kernel
theorem d_Mo_behind_25 : decode b_Mo_behind 25 = .ok (.iaload, 1) := by decide +kernel
theorem d_Mo_behind_26 : decode b_Mo_behind 26 = .ok (.aload_n 0, 1) := by decide +kernel
theorem d_Mo_behind_27 : decode b_Mo_behind 27 = .ok (.getfield 13, 3) := by decide +kernel
theorem d_Mo_behind_30 : decode b_Mo_behind 30 = .ok (.iload_n 2, 1) := by decide +kernel
theorem d_Mo_behind_31 : decode b_Mo_behind 31 = .ok (.iaload, 1) := by decide +kernel
theorem d_Mo_behind_32 : decode b_Mo_behind 32 = .ok (.if_icmp .gt 25, 3) := by decide +kernel
theorem d_Mo_behind_35 : decode b_Mo_behind 35 = .ok (.aload_n 0, 1) := by decide +kernel
theorem d_Mo_behind_36 : decode b_Mo_behind 36 = .ok (.getfield 13, 3) := by decide +kernel
theorem d_Mo_behind_39 : decode b_Mo_behind 39 = .ok (.iload 4, 2) := by decide +kernel
theorem d_Mo_behind_41 : decode b_Mo_behind 41 = .ok (.iaload, 1) := by decide +kernel
theorem d_Mo_behind_42 : decode b_Mo_behind 42 = .ok (.aload_n 0, 1) := by decide +kernel
theorem d_Mo_behind_43 : decode b_Mo_behind 43 = .ok (.getfield 13, 3) := by decide +kernel
theorem d_Mo_behind_46 : decode b_Mo_behind 46 = .ok (.iload_n 2, 1) := by decide +kernel
theorem d_Mo_behind_47 : decode b_Mo_behind 47 = .ok (.iaload, 1) := by decide +kernel
theorem d_Mo_behind_48 : decode b_Mo_behind 48 = .ok (.if_icmp .ne 13, 3) := by decide +kernel
theorem d_Mo_behind_51 : decode b_Mo_behind 51 = .ok (.iload 4, 2) := by decide +kernel
theorem d_Mo_behind_53 : decode b_Mo_behind 53 = .ok (.iload_n 2, 1) := by decide +kernel
theorem d_Mo_behind_54 : decode b_Mo_behind 54 = .ok (.if_icmp .le 7, 3) := by decide +kernel
theorem d_Mo_behind_57 : decode b_Mo_behind 57 = .ok (.iconst 1, 1) := by decide +kernel
theorem d_Mo_behind_58 : decode b_Mo_behind 58 = .ok (.goto 4, 3) := by decide +kernel
theorem d_Mo_behind_61 : decode b_Mo_behind 61 = .ok (.iconst 0, 1) := by decide +kernel
theorem d_Mo_behind_62 : decode b_Mo_behind 62 = .ok (.istore 5, 2) := by decide +kernel
theorem d_Mo_behind_64 : decode b_Mo_behind 64 = .ok (.aload_n 0, 1) := by decide +kernel
theorem d_Mo_behind_65 : decode b_Mo_behind 65 = .ok (.getfield 7, 3) := by decide +kernel
theorem d_Mo_behind_68 : decode b_Mo_behind 68 = .ok (.iload 4, 2) := by decide +kernel
theorem d_Mo_behind_70 : decode b_Mo_behind 70 = .ok (.iaload, 1) := by decide +kernel
theorem d_Mo_behind_71 : decode b_Mo_behind 71 = .ok (.iload_n 1, 1) := by decide +kernel
theorem d_Mo_behind_72 : decode b_Mo_behind 72 = .ok (.if_icmp .ne 32, 3) := by decide +kernel
theorem d_Mo_behind_75 : decode b_Mo_behind 75 = .ok (.iload 5, 2) := by decide +kernel
theorem d_Mo_behind_77 : decode b_Mo_behind 77 = .ok (.ifCond .eq 27, 3) := by decide +kernel
theorem d_Mo_behind_80 : decode b_Mo_behind 80 = .ok (.iload_n 3, 1) := by decide +kernel
theorem d_Mo_behind_81 : decode b_Mo_behind 81 = .ok (.iconst (-1), 1) := by decide +kernel
theorem d_Mo_behind_82 : decode b_Mo_behind 82 = .ok (.if_icmp .eq 19, 3) := by decide +kernel
theorem d_Mo_behind_85 : decode b_Mo_behind 85 = .ok (.aload_n 0, 1) := by decide +kernel
theorem d_Mo_behind_86 : decode b_Mo_behind 86 = .ok (.getfield 13, 3) := by decide +kernel
theorem d_Mo_behind_89 : decode b_Mo_behind 89 = .ok (.iload 4, 2) := by decide +kernel
theorem d_Mo_behind_91 : decode b_Mo_behind 91 = .ok (.iaload, 1) := by decide +kernel
theorem d_Mo_behind_92 : decode b_Mo_behind 92 = .ok (.aload_n 0, 1) := by decide +kernel
theorem d_Mo_behind_93 : decode b_Mo_behind 93 = .ok (.getfield 13, 3) := by decide +kernel
theorem d_Mo_behind_96 : decode b_Mo_behind 96 = .ok (.iload_n 3, 1) := by decide +kernel
theorem d_Mo_behind_97 : decode b_Mo_behind 97 = .ok (.iaload, 1) := by decide +kernel
theorem d_Mo_behind_98 : decode b_Mo_behind 98 = .ok (.if_icmp .ge 6, 3) := by decide +kernel
theorem d_Mo_behind_101 : decode b_Mo_behind 101 = .ok (.iload 4, 2) := by decide +kernel
theorem d_Mo_behind_103 : decode b_Mo_behind 103 = .ok (.istore_n 3, 1) := by decide +kernel
theorem d_Mo_behind_104 : decode b_Mo_behind 104 = .ok (.iinc 4 1, 3) := by decide +kernel
theorem d_Mo_behind_107 : decode b_Mo_behind 107 = .ok (.goto (-102), 3) := by decide +kernel
theorem d_Mo_behind_110 : decode b_Mo_behind 110 = .ok (.iload_n 3, 1) := by decide +kernel
theorem d_Mo_behind_111 : decode b_Mo_behind 111 = .ok (.ireturn, 1) := by decide +kernel
theorem d_Mo_test_0 : decode b_Mo_test 0 = .ok (.aload_n 0, 1) := by decide +kernel
theorem d_Mo_test_1 : decode b_Mo_test 1 = .ok (.iconst 0, 1) := by decide +kernel
theorem d_Mo_test_2 : decode b_Mo_test 2 = .ok (.putfield 82, 3) := by decide +kernel
theorem d_Mo_test_5 : decode b_Mo_test 5 = .ok (.iload_n 1, 1) := by decide +kernel
theorem d_Mo_test_6 : decode b_Mo_test 6 = .ok (.invokestatic 94, 3) := by decide +kernel
theorem d_Mo_test_9 : decode b_Mo_test 9 = .ok (.ifCond .ne 6, 3) := by decide +kernel
theorem d_Mo_test_12 : decode b_Mo_test 12 = .ok (.bipush (-102), 2) := by decide +kernel
theorem d_Mo_test_14 : decode b_Mo_test 14 = .ok (.ireturn, 1) := by decide +kernel
theorem d_Mo_test_15 : decode b_Mo_test 15 = .ok (.aload_n 0, 1) := by decide +kernel
theorem d_Mo_test_16 : decode b_Mo_test 16 = .ok (.getfield 42, 3) := by decide +kernel
theorem d_Mo_test_19 : decode b_Mo_test 19 = .ok (.iload_n 1, 1) := by decide +kernel
theorem d_Mo_test_20 : decode b_Mo_test 20 = .ok (.iaload, 1) := by decide +kernel
theorem d_Mo_test_21 : decode b_Mo_test 21 = .ok (.iconst 1, 1) := by decide +kernel
theorem d_Mo_test_22 : decode b_Mo_test 22 = .ok (.if_icmp .eq 6, 3) := by decide +kernel
theorem d_Mo_test_25 : decode b_Mo_test 25 = .ok (.bipush (-103), 2) := by decide +kernel
theorem d_Mo_test_27 : decode b_Mo_test 27 = .ok (.ireturn, 1) := by decide +kernel
theorem d_Mo_test_28 : decode b_Mo_test 28 = .ok (.aload_n 0, 1) := by decide +kernel
theorem d_Mo_test_29 : decode b_Mo_test 29 = .ok (.iconst 0, 1) := by decide +kernel
theorem d_Mo_test_30 : decode b_Mo_test 30 = .ok (.putfield 155, 3) := by decide +kernel
theorem d_Mo_test_33 : decode b_Mo_test 33 = .ok (.aload_n 0, 1) := by decide +kernel
theorem d_Mo_test_34 : decode b_Mo_test 34 = .ok (.iconst 0, 1) := by decide +kernel
theorem d_Mo_test_35 : decode b_Mo_test 35 = .ok (.putfield 145, 3) := by decide +kernel
theorem d_Mo_test_38 : decode b_Mo_test 38 = .ok (.iconst 0, 1) := by decide +kernel
theorem d_Mo_test_39 : decode b_Mo_test 39 = .ok (.istore_n 2, 1) := by decide +kernel
theorem d_Mo_test_40 : decode b_Mo_test 40 = .ok (.aload_n 0, 1) := by decide +kernel
theorem d_Mo_test_41 : decode b_Mo_test 41 = .ok (.iload_n 1, 1) := by decide +kernel
theorem d_Mo_test_42 : decode b_Mo_test 42 = .ok (.iconst (-1), 1) := by decide +kernel
theorem d_Mo_test_43 : decode b_Mo_test 43 = .ok (.invokevirtual 158, 3) := by decide +kernel
theorem d_Mo_test_46 : decode b_Mo_test 46 = .ok (.istore_n 3, 1) := by decide +kernel
theorem d_Mo_test_47 : decode b_Mo_test 47 = .ok (.iload_n 3, 1) := by decide +kernel
theorem d_Mo_test_48 : decode b_Mo_test 48 = .ok (.iconst (-1), 1) := by decide +kernel
theorem d_Mo_test_49 : decode b_Mo_test 49 = .ok (.if_icmp .eq 25, 3) := by decide +kernel
theorem d_Mo_test_52 : decode b_Mo_test 52 = .ok (.aload_n 0, 1) := by decide +kernel
theorem d_Mo_test_53 : decode b_Mo_test 53 = .ok (.iload_n 3, 1) := by decide +kernel
theorem d_Mo_test_54 : decode b_Mo_test 54 = .ok (.invokevirtual 161, 3) := by decide +kernel
theorem d_Mo_test_57 : decode b_Mo_test 57 = .ok (.iload_n 2, 1) := by decide +kernel
theorem d_Mo_test_58 : decode b_Mo_test 58 = .ok (.aload_n 0, 1) := by decide +kernel
theorem d_Mo_test_59 : decode b_Mo_test 59 = .ok (.getfield 148, 3) := by decide +kernel
theorem d_Mo_test_62 : decode b_Mo_test 62 = .ok (.iadd, 1) := by decide +kernel
theorem d_Mo_test_63 : decode b_Mo_test 63 = .ok (.istore_n 2, 1) := by decide +kernel
theorem d_Mo_test_64 : decode b_Mo_test 64 = .ok (.aload_n 0, 1) := by decide +kernel
theorem d_Mo_test_65 : decode b_Mo_test 65 = .ok (.iload_n 1, 1) := by decide +kernel
theorem d_Mo_test_66 : decode b_Mo_test 66 = .ok (.iload_n 3, 1) := by decide +kernel
theorem d_Mo_test_67 : decode b_Mo_test 67 = .ok (.invokevirtual 158, 3) := by decide +kernel
theorem d_Mo_test_70 : decode b_Mo_test 70 = .ok (.istore_n 3, 1) := by decide +kernel
theorem d_Mo_test_71 : decode b_Mo_test 71 = .ok (.goto (-24), 3) := by decide +kernel
theorem d_Mo_test_74 : decode b_Mo_test 74 = .ok (.aload_n 0, 1) := by decide +kernel
theorem d_Mo_test_75 : decode b_Mo_test 75 = .ok (.getfield 42, 3) := by decide +kernel
theorem d_Mo_test_78 : decode b_Mo_test 78 = .ok (.iload_n 1, 1) := by decide +kernel
theorem d_Mo_test_79 : decode b_Mo_test 79 = .ok (.aload_n 0, 1) := by decide +kernel
theorem d_Mo_test_80 : decode b_Mo_test 80 = .ok (.getfield 155, 3) := by decide +kernel
theorem d_Mo_test_83 : decode b_Mo_test 83 = .ok (.ifCond .le 7, 3) := by decide +kernel
theorem d_Mo_test_86 : decode b_Mo_test 86 = .ok (.iconst 3, 1) := by decide +kernel
theorem d_Mo_test_87 : decode b_Mo_test 87 = .ok (.goto 4, 3) := by decide +kernel
theorem d_Mo_test_90 : decode b_Mo_test 90 = .ok (.iconst 2, 1) := by decide +kernel
theorem d_Mo_test_91 : decode b_Mo_test 91 = .ok (.iastore, 1) := by decide +kernel
theorem d_Mo_test_92 : decode b_Mo_test 92 = .ok (.iload_n 2, 1) := by decide +kernel
theorem d_Mo_test_93 : decode b_Mo_test 93 = .ok (.ireturn, 1) := by decide +kernel
theorem d_Mo_day_0 : decode b_Mo_day 0 = .ok (.aload_n 0, 1) := by decide +kernel
theorem d_Mo_day_1 : decode b_Mo_day 1 = .ok (.iconst 0, 1) := by decide +kernel
theorem d_Mo_day_2 : decode b_Mo_day 2 = .ok (.putfield 82, 3) := by decide +kernel
theorem d_Mo_day_5 : decode b_Mo_day 5 = .ok (.iload_n 1, 1) := by decide +kernel
theorem d_Mo_day_6 : decode b_Mo_day 6 = .ok (.invokestatic 94, 3) := by decide +kernel
theorem d_Mo_day_9 : decode b_Mo_day 9 = .ok (.ifCond .eq 15, 3) := by decide +kernel
theorem d_Mo_day_12 : decode b_Mo_day 12 = .ok (.iload_n 2, 1) := by decide +kernel
theorem d_Mo_day_13 : decode b_Mo_day 13 = .ok (.i2l, 1) := by decide +kernel
theorem d_Mo_day_14 : decode b_Mo_day 14 = .ok (.lconst 0, 1) := by decide +kernel
theorem d_Mo_day_15 : decode b_Mo_day 15 = .ok (.ldc2_w 164, 3) := by decide +kernel
theorem d_Mo_day_18 : decode b_Mo_day 18 = .ok (.invokestatic 88, 3) := by decide +kernel
theorem d_Mo_day_21 : decode b_Mo_day 21 = .ok (.ifCond .ne 6, 3) := by decide +kernel
theorem d_Mo_day_24 : decode b_Mo_day 24 = .ok (.bipush (-102), 2) := by decide +kernel
theorem d_Mo_day_26 : decode b_Mo_day 26 = .ok (.ireturn, 1) := by decide +kernel
theorem d_Mo_day_27 : decode b_Mo_day 27 = .ok (.aload_n 0, 1) := by decide +kernel
theorem d_Mo_day_28 : decode b_Mo_day 28 = .ok (.getfield 42, 3) := by decide +kernel
theorem d_Mo_day_31 : decode b_Mo_day 31 = .ok (.iload_n 1, 1) := by decide +kernel
theorem d_Mo_day_32 : decode b_Mo_day 32 = .ok (.iaload, 1) := by decide +kernel
theorem d_Mo_day_33 : decode b_Mo_day 33 = .ok (.iconst 2, 1) := by decide +kernel
theorem d_Mo_day_34 : decode b_Mo_day 34 = .ok (.if_icmp .eq 6, 3) := by decide +kernel
theorem d_Mo_day_37 : decode b_Mo_day 37 = .ok (.bipush (-103), 2) := by decide +kernel
theorem d_Mo_day_39 : decode b_Mo_day 39 = .ok (.ireturn, 1) := by decide +kernel
theorem d_Mo_day_40 : decode b_Mo_day 40 = .ok (.aload_n 0, 1) := by decide +kernel
theorem d_Mo_day_41 : decode b_Mo_day 41 = .ok (.getfield 48, 3) := by decide +kernel
theorem d_Mo_day_44 : decode b_Mo_day 44 = .ok (.iload_n 1, 1) := by decide +kernel
theorem d_Mo_day_45 : decode b_Mo_day 45 = .ok (.iload_n 2, 1) := by decide +kernel
theorem d_Mo_day_46 : decode b_Mo_day 46 = .ok (.iastore, 1) := by decide +kernel
theorem d_Mo_day_47 : decode b_Mo_day 47 = .ok (.aload_n 0, 1) := by decide +kernel
theorem d_Mo_day_48 : decode b_Mo_day 48 = .ok (.dup, 1) := by decide +kernel
theorem d_Mo_day_49 : decode b_Mo_day 49 = .ok (.getfield 166, 3) := by decide +kernel
theorem d_Mo_day_52 : decode b_Mo_day 52 = .ok (.iconst 1, 1) := by decide +kernel
theorem d_Mo_day_53 : decode b_Mo_day 53 = .ok (.iadd, 1) := by decide +kernel
theorem d_Mo_day_54 : decode b_Mo_day 54 = .ok (.putfield 166, 3) := by decide +kernel
theorem d_Mo_day_57 : decode b_Mo_day 57 = .ok (.aload_n 0, 1) := by decide +kernel
theorem d_Mo_day_58 : decode b_Mo_day 58 = .ok (.getfield 51, 3) := by decide +kernel
theorem d_Mo_day_61 : decode b_Mo_day 61 = .ok (.iload_n 1, 1) := by decide +kernel
theorem d_Mo_day_62 : decode b_Mo_day 62 = .ok (.aload_n 0, 1) := by decide +kernel
theorem d_Mo_day_63 : decode b_Mo_day 63 = .ok (.getfield 166, 3) := by decide +kernel
theorem d_Mo_day_66 : decode b_Mo_day 66 = .ok (.iastore, 1) := by decide +kernel
theorem d_Mo_day_67 : decode b_Mo_day 67 = .ok (.iconst 1, 1) := by decide +kernel
theorem d_Mo_day_68 : decode b_Mo_day 68 = .ok (.ireturn, 1) := by decide +kernel
theorem d_Mo_give_0 : decode b_Mo_give 0 = .ok (.aload_n 0, 1) := by decide +kernel
theorem d_Mo_give_1 : decode b_Mo_give 1 = .ok (.getfield 66, 3) := by decide +kernel
theorem d_Mo_give_4 : decode b_Mo_give 4 = .ok (.iload_n 1, 1) := by decide +kernel
theorem d_Mo_give_5 : decode b_Mo_give 5 = .ok (.iaload, 1) := by decide +kernel
theorem d_Mo_give_6 : decode b_Mo_give 6 = .ok (.iconst (-1), 1) := by decide +kernel
theorem d_Mo_give_7 : decode b_Mo_give 7 = .ok (.if_icmp .ne 18, 3) := by decide +kernel
theorem d_Mo_give_10 : decode b_Mo_give 10 = .ok (.aload_n 0, 1) := by decide +kernel
theorem d_Mo_give_11 : decode b_Mo_give 11 = .ok (.getfield 63, 3) := by decide +kernel
theorem d_Mo_give_14 : decode b_Mo_give 14 = .ok (.iload_n 1, 1) := by decide +kernel
theorem d_Mo_give_15 : decode b_Mo_give 15 = .ok (.lload_n 2, 1) := by decide +kernel
theorem d_Mo_give_16 : decode b_Mo_give 16 = .ok (.lastore, 1) := by decide +kernel
theorem d_Mo_give_17 : decode b_Mo_give 17 = .ok (.aload_n 0, 1) := by decide +kernel
theorem d_Mo_give_18 : decode b_Mo_give 18 = .ok (.getfield 66, 3) := by decide +kernel
theorem d_Mo_give_21 : decode b_Mo_give 21 = .ok (.iload_n 1, 1) := by decide +kernel
theorem d_Mo_give_22 : decode b_Mo_give 22 = .ok (.iload 4, 2) := by decide +kernel
theorem d_Mo_give_24 : decode b_Mo_give 24 = .ok (.iastore, 1) := by decide +kernel
theorem d_Mo_give_25 : decode b_Mo_give 25 = .ok (.return_, 1) := by decide +kernel
theorem d_Mo_ask_0 : decode b_Mo_ask 0 = .ok (.aload_n 0, 1) := by decide +kernel
theorem d_Mo_ask_1 : decode b_Mo_ask 1 = .ok (.iconst 0, 1) := by decide +kernel
theorem d_Mo_ask_2 : decode b_Mo_ask 2 = .ok (.putfield 82, 3) := by decide +kernel
theorem d_Mo_ask_5 : decode b_Mo_ask 5 = .ok (.iload_n 1, 1) := by decide +kernel
theorem d_Mo_ask_6 : decode b_Mo_ask 6 = .ok (.i2l, 1) := by decide +kernel
theorem d_Mo_ask_7 : decode b_Mo_ask 7 = .ok (.lconst 0, 1) := by decide +kernel
theorem d_Mo_ask_8 : decode b_Mo_ask 8 = .ok (.ldc2_w 164, 3) := by decide +kernel
theorem d_Mo_ask_11 : decode b_Mo_ask 11 = .ok (.invokestatic 88, 3) := by decide +kernel
theorem d_Mo_ask_14 : decode b_Mo_ask 14 = .ok (.ifCond .ne 6, 3) := by decide +kernel
theorem d_Mo_ask_17 : decode b_Mo_ask 17 = .ok (.bipush (-102), 2) := by decide +kernel
theorem d_Mo_ask_19 : decode b_Mo_ask 19 = .ok (.ireturn, 1) := by decide +kernel
theorem d_Mo_ask_20 : decode b_Mo_ask 20 = .ok (.aload_n 0, 1) := by decide +kernel
theorem d_Mo_ask_21 : decode b_Mo_ask 21 = .ok (.iconst 0, 1) := by decide +kernel
theorem d_Mo_ask_22 : decode b_Mo_ask 22 = .ok (.putfield 155, 3) := by decide +kernel
theorem d_Mo_ask_25 : decode b_Mo_ask 25 = .ok (.aload_n 0, 1) := by decide +kernel
theorem d_Mo_ask_26 : decode b_Mo_ask 26 = .ok (.iconst 0, 1) := by decide +kernel
theorem d_Mo_ask_27 : decode b_Mo_ask 27 = .ok (.putfield 145, 3) := by decide +kernel
theorem d_Mo_ask_30 : decode b_Mo_ask 30 = .ok (.iconst 0, 1) := by decide +kernel
theorem d_Mo_ask_31 : decode b_Mo_ask 31 = .ok (.istore_n 2, 1) := by decide +kernel
theorem d_Mo_ask_32 : decode b_Mo_ask 32 = .ok (.iload_n 2, 1) := by decide +kernel
theorem d_Mo_ask_33 : decode b_Mo_ask 33 = .ok (.iconst 4, 1) := by decide +kernel
theorem d_Mo_ask_34 : decode b_Mo_ask 34 = .ok (.if_icmp .ge 23, 3) := by decide +kernel
theorem d_Mo_ask_37 : decode b_Mo_ask 37 = .ok (.aload_n 0, 1) := by decide +kernel
theorem d_Mo_ask_38 : decode b_Mo_ask 38 = .ok (.getfield 63, 3) := by decide +kernel
theorem d_Mo_ask_41 : decode b_Mo_ask 41 = .ok (.iload_n 2, 1) := by decide +kernel
theorem d_Mo_ask_42 : decode b_Mo_ask 42 = .ok (.lconst 0, 1) := by decide +kernel
theorem d_Mo_ask_43 : decode b_Mo_ask 43 = .ok (.lastore, 1) := by decide +kernel
theorem d_Mo_ask_44 : decode b_Mo_ask 44 = .ok (.aload_n 0, 1) := by decide +kernel
theorem d_Mo_ask_45 : decode b_Mo_ask 45 = .ok (.getfield 66, 3) := by decide +kernel
theorem d_Mo_ask_48 : decode b_Mo_ask 48 = .ok (.iload_n 2, 1) := by decide +kernel
theorem d_Mo_ask_49 : decode b_Mo_ask 49 = .ok (.iconst (-1), 1) := by decide +kernel
theorem d_Mo_ask_50 : decode b_Mo_ask 50 = .ok (.iastore, 1) := by decide +kernel
theorem d_Mo_ask_51 : decode b_Mo_ask 51 = .ok (.iinc 2 1, 3) := by decide +kernel
theorem d_Mo_ask_54 : decode b_Mo_ask 54 = .ok (.goto (-22), 3) := by decide +kernel
theorem d_Mo_ask_57 : decode b_Mo_ask 57 = .ok (.iconst (-1), 1) := by decide +kernel
theorem d_Mo_ask_58 : decode b_Mo_ask 58 = .ok (.istore_n 2, 1) := by decide +kernel
theorem d_Mo_ask_59 : decode b_Mo_ask 59 = .ok (.iconst 0, 1) := by decide +kernel
theorem d_Mo_ask_60 : decode b_Mo_ask 60 = .ok (.istore_n 3, 1) := by decide +kernel
theorem d_Mo_ask_61 : decode b_Mo_ask 61 = .ok (.iload_n 3, 1) := by decide +kernel
theorem d_Mo_ask_62 : decode b_Mo_ask 62 = .ok (.bipush 6, 2) := by decide +kernel
theorem d_Mo_ask_64 : decode b_Mo_ask 64 = .ok (.if_icmp .ge 93, 3) := by decide +kernel
theorem d_Mo_ask_67 : decode b_Mo_ask 67 = .ok (.aload_n 0, 1) := by decide +kernel
theorem d_Mo_ask_68 : decode b_Mo_ask 68 = .ok (.getfield 48, 3) := by decide +kernel
theorem d_Mo_ask_71 : decode b_Mo_ask 71 = .ok (.iload_n 3, 1) := by decide +kernel
theorem d_Mo_ask_72 : decode b_Mo_ask 72 = .ok (.iaload, 1) := by decide +kernel
theorem d_Mo_ask_73 : decode b_Mo_ask 73 = .ok (.iconst (-1), 1) := by decide +kernel
theorem d_Mo_ask_74 : decode b_Mo_ask 74 = .ok (.if_icmp .eq 17, 3) := by decide +kernel
theorem d_Mo_ask_77 : decode b_Mo_ask 77 = .ok (.aload_n 0, 1) := by decide +kernel
theorem d_Mo_ask_78 : decode b_Mo_ask 78 = .ok (.getfield 48, 3) := by decide +kernel
theorem d_Mo_ask_81 : decode b_Mo_ask 81 = .ok (.iload_n 3, 1) := by decide +kernel
theorem d_Mo_ask_82 : decode b_Mo_ask 82 = .ok (.iaload, 1) := by decide +kernel
theorem d_Mo_ask_83 : decode b_Mo_ask 83 = .ok (.iload_n 1, 1) := by decide +kernel
theorem d_Mo_ask_84 : decode b_Mo_ask 84 = .ok (.if_icmp .gt 7, 3) := by decide +kernel
theorem d_Mo_ask_87 : decode b_Mo_ask 87 = .ok (.iconst 1, 1) := by decide +kernel
theorem d_Mo_ask_88 : decode b_Mo_ask 88 = .ok (.goto 4, 3) := by decide +kernel
theorem d_Mo_ask_91 : decode b_Mo_ask 91 = .ok (.iconst 0, 1) := by decide +kernel
theorem d_Mo_ask_92 : decode b_Mo_ask 92 = .ok (.istore 4, 2) := by decide +kernel
theorem d_Mo_ask_94 : decode b_Mo_ask 94 = .ok (.iload 4, 2) := by decide +kernel
theorem d_Mo_ask_96 : decode b_Mo_ask 96 = .ok (.ifCond .eq 55, 3) := by decide +kernel
theorem d_Mo_ask_99 : decode b_Mo_ask 99 = .ok (.iload_n 2, 1) := by decide +kernel
theorem d_Mo_ask_100 : decode b_Mo_ask 100 = .ok (.iconst (-1), 1) := by decide +kernel
theorem d_Mo_ask_101 : decode b_Mo_ask 101 = .ok (.if_icmp .eq 48, 3) := by decide +kernel
theorem d_Mo_ask_104 : decode b_Mo_ask 104 = .ok (.aload_n 0, 1) := by decide +kernel
theorem d_Mo_ask_105 : decode b_Mo_ask 105 = .ok (.getfield 48, 3) := by decide +kernel
theorem d_Mo_ask_108 : decode b_Mo_ask 108 = .ok (.iload_n 3, 1) := by decide +kernel
theorem d_Mo_ask_109 : decode b_Mo_ask 109 = .ok (.iaload, 1) := by decide +kernel
theorem d_Mo_ask_110 : decode b_Mo_ask 110 = .ok (.aload_n 0, 1) := by decide +kernel
theorem d_Mo_ask_111 : decode b_Mo_ask 111 = .ok (.getfield 48, 3) := by decide +kernel
theorem d_Mo_ask_114 : decode b_Mo_ask 114 = .ok (.iload_n 2, 1) := by decide +kernel
theorem d_Mo_ask_115 : decode b_Mo_ask 115 = .ok (.iaload, 1) := by decide +kernel
theorem d_Mo_ask_116 : decode b_Mo_ask 116 = .ok (.if_icmp .gt 33, 3) := by decide +kernel
theorem d_Mo_ask_119 : decode b_Mo_ask 119 = .ok (.aload_n 0, 1) := by decide +kernel
theorem d_Mo_ask_120 : decode b_Mo_ask 120 = .ok (.getfield 48, 3) := by decide +kernel
theorem d_Mo_ask_123 : decode b_Mo_ask 123 = .ok (.iload_n 3, 1) := by decide +kernel
theorem d_Mo_ask_124 : decode b_Mo_ask 124 = .ok (.iaload, 1) := by decide +kernel
theorem d_Mo_ask_125 : decode b_Mo_ask 125 = .ok (.aload_n 0, 1) := by decide +kernel
theorem d_Mo_ask_126 : decode b_Mo_ask 126 = .ok (.getfield 48, 3) := by decide +kernel
theorem d_Mo_ask_129 : decode b_Mo_ask 129 = .ok (.iload_n 2, 1) := by decide +kernel
theorem d_Mo_ask_130 : decode b_Mo_ask 130 = .ok (.iaload, 1) := by decide +kernel
theorem d_Mo_ask_131 : decode b_Mo_ask 131 = .ok (.if_icmp .ne 20, 3) := by decide +kernel
theorem d_Mo_ask_134 : decode b_Mo_ask 134 = .ok (.aload_n 0, 1) := by decide +kernel
theorem d_Mo_ask_135 : decode b_Mo_ask 135 = .ok (.getfield 51, 3) := by decide +kernel
theorem d_Mo_ask_138 : decode b_Mo_ask 138 = .ok (.iload_n 3, 1) := by decide +kernel
theorem d_Mo_ask_139 : decode b_Mo_ask 139 = .ok (.iaload, 1) := by decide +kernel
theorem d_Mo_ask_140 : decode b_Mo_ask 140 = .ok (.aload_n 0, 1) := by decide +kernel
theorem d_Mo_ask_141 : decode b_Mo_ask 141 = .ok (.getfield 51, 3) := by decide +kernel
theorem d_Mo_ask_144 : decode b_Mo_ask 144 = .ok (.iload_n 2, 1) := by decide +kernel
theorem d_Mo_ask_145 : decode b_Mo_ask 145 = .ok (.iaload, 1) := by decide +kernel
theorem d_Mo_ask_146 : decode b_Mo_ask 146 = .ok (.if_icmp .le 5, 3) := by decide +kernel
theorem d_Mo_ask_149 : decode b_Mo_ask 149 = .ok (.iload_n 3, 1) := by decide +kernel
theorem d_Mo_ask_150 : decode b_Mo_ask 150 = .ok (.istore_n 2, 1) := by decide +kernel
theorem d_Mo_ask_151 : decode b_Mo_ask 151 = .ok (.iinc 3 1, 3) := by decide +kernel
theorem d_Mo_ask_154 : decode b_Mo_ask 154 = .ok (.goto (-93), 3) := by decide +kernel
theorem d_Mo_ask_157 : decode b_Mo_ask 157 = .ok (.iload_n 2, 1) := by decide +kernel
theorem d_Mo_ask_158 : decode b_Mo_ask 158 = .ok (.iconst (-1), 1) := by decide +kernel
theorem d_Mo_ask_159 : decode b_Mo_ask 159 = .ok (.if_icmp .ne 5, 3) := by decide +kernel
theorem d_Mo_ask_162 : decode b_Mo_ask 162 = .ok (.iconst (-1), 1) := by decide +kernel
theorem d_Mo_ask_163 : decode b_Mo_ask 163 = .ok (.ireturn, 1) := by decide +kernel
theorem d_Mo_ask_164 : decode b_Mo_ask 164 = .ok (.aload_n 0, 1) := by decide +kernel
theorem d_Mo_ask_165 : decode b_Mo_ask 165 = .ok (.iload_n 2, 1) := by decide +kernel
theorem d_Mo_ask_166 : decode b_Mo_ask 166 = .ok (.iconst (-1), 1) := by decide +kernel
theorem d_Mo_ask_167 : decode b_Mo_ask 167 = .ok (.invokevirtual 158, 3) := by decide +kernel
theorem d_Mo_ask_170 : decode b_Mo_ask 170 = .ok (.istore_n 3, 1) := by decide +kernel
theorem d_Mo_ask_171 : decode b_Mo_ask 171 = .ok (.iload_n 3, 1) := by decide +kernel
theorem d_Mo_ask_172 : decode b_Mo_ask 172 = .ok (.iconst (-1), 1) := by decide +kernel
theorem d_Mo_ask_173 : decode b_Mo_ask 173 = .ok (.if_icmp .eq 103, 3) := by decide +kernel
theorem d_Mo_ask_176 : decode b_Mo_ask 176 = .ok (.aload_n 0, 1) := by decide +kernel
theorem d_Mo_ask_177 : decode b_Mo_ask 177 = .ok (.iload_n 3, 1) := by decide +kernel
theorem d_Mo_ask_178 : decode b_Mo_ask 178 = .ok (.invokevirtual 161, 3) := by decide +kernel
theorem d_Mo_ask_181 : decode b_Mo_ask 181 = .ok (.aload_n 0, 1) := by decide +kernel
theorem d_Mo_ask_182 : decode b_Mo_ask 182 = .ok (.getfield 122, 3) := by decide +kernel
theorem d_Mo_ask_185 : decode b_Mo_ask 185 = .ok (.ifCond .le 32, 3) := by decide +kernel
theorem d_Mo_ask_188 : decode b_Mo_ask 188 = .ok (.aload_n 0, 1) := by decide +kernel
theorem d_Mo_ask_189 : decode b_Mo_ask 189 = .ok (.getfield 29, 3) := by decide +kernel
theorem d_Mo_ask_192 : decode b_Mo_ask 192 = .ok (.iload_n 3, 1) := by decide +kernel
theorem d_Mo_ask_193 : decode b_Mo_ask 193 = .ok (.baload, 1) := by decide +kernel
theorem d_Mo_ask_194 : decode b_Mo_ask 194 = .ok (.ifCond .eq 72, 3) := by decide +kernel
theorem d_Mo_ask_197 : decode b_Mo_ask 197 = .ok (.aload_n 0, 1) := by decide +kernel
theorem d_Mo_ask_198 : decode b_Mo_ask 198 = .ok (.aload_n 0, 1) := by decide +kernel
theorem d_Mo_ask_199 : decode b_Mo_ask 199 = .ok (.getfield 33, 3) := by decide +kernel
theorem d_Mo_ask_202 : decode b_Mo_ask 202 = .ok (.iload_n 3, 1) := by decide +kernel
theorem d_Mo_ask_203 : decode b_Mo_ask 203 = .ok (.iaload, 1) := by decide +kernel
theorem d_Mo_ask_204 : decode b_Mo_ask 204 = .ok (.aload_n 0, 1) := by decide +kernel
theorem d_Mo_ask_205 : decode b_Mo_ask 205 = .ok (.getfield 36, 3) := by decide +kernel
theorem d_Mo_ask_208 : decode b_Mo_ask 208 = .ok (.iload_n 3, 1) := by decide +kernel
theorem d_Mo_ask_209 : decode b_Mo_ask 209 = .ok (.laload, 1) := by decide +kernel
theorem d_Mo_ask_210 : decode b_Mo_ask 210 = .ok (.iload_n 3, 1) := by decide +kernel
theorem d_Mo_ask_211 : decode b_Mo_ask 211 = .ok (.invokevirtual 169, 3) := by decide +kernel
theorem d_Mo_ask_214 : decode b_Mo_ask 214 = .ok (.goto 52, 3) := by decide +kernel
theorem d_Mo_ask_217 : decode b_Mo_ask 217 = .ok (.aload_n 0, 1) := by decide +kernel
theorem d_Mo_ask_218 : decode b_Mo_ask 218 = .ok (.getfield 26, 3) := by decide +kernel
theorem d_Mo_ask_221 : decode b_Mo_ask 221 = .ok (.iload_n 3, 1) := by decide +kernel
theorem d_Mo_ask_222 : decode b_Mo_ask 222 = .ok (.aload_n 0, 1) := by decide +kernel
theorem d_Mo_ask_223 : decode b_Mo_ask 223 = .ok (.getfield 137, 3) := by decide +kernel
theorem d_Mo_ask_226 : decode b_Mo_ask 226 = .ok (.lastore, 1) := by decide +kernel
theorem d_Mo_ask_227 : decode b_Mo_ask 227 = .ok (.iconst 0, 1) := by decide +kernel
theorem d_Mo_ask_228 : decode b_Mo_ask 228 = .ok (.istore 4, 2) := by decide +kernel
theorem d_Mo_ask_230 : decode b_Mo_ask 230 = .ok (.iload 4, 2) := by decide +kernel
theorem d_Mo_ask_232 : decode b_Mo_ask 232 = .ok (.iconst 4, 1) := by decide +kernel
theorem d_Mo_ask_233 : decode b_Mo_ask 233 = .ok (.if_icmp .ge 33, 3) := by decide +kernel
theorem d_Mo_ask_236 : decode b_Mo_ask 236 = .ok (.aload_n 0, 1) := by decide +kernel
theorem d_Mo_ask_237 : decode b_Mo_ask 237 = .ok (.getfield 75, 3) := by decide +kernel
theorem d_Mo_ask_240 : decode b_Mo_ask 240 = .ok (.iload 4, 2) := by decide +kernel
theorem d_Mo_ask_242 : decode b_Mo_ask 242 = .ok (.baload, 1) := by decide +kernel
theorem d_Mo_ask_243 : decode b_Mo_ask 243 = .ok (.ifCond .eq 17, 3) := by decide +kernel
theorem d_Mo_ask_246 : decode b_Mo_ask 246 = .ok (.aload_n 0, 1) := by decide +kernel
theorem d_Mo_ask_247 : decode b_Mo_ask 247 = .ok (.iload 4, 2) := by decide +kernel
theorem d_Mo_ask_249 : decode b_Mo_ask 249 = .ok (.aload_n 0, 1) := by decide +kernel
theorem d_Mo_ask_250 : decode b_Mo_ask 250 = .ok (.getfield 72, 3) := by decide +kernel
theorem d_Mo_ask_253 : decode b_Mo_ask 253 = .ok (.iload 4, 2) := by decide +kernel
theorem d_Mo_ask_255 : decode b_Mo_ask 255 = .ok (.laload, 1) := by decide +kernel
theorem d_Mo_ask_256 : decode b_Mo_ask 256 = .ok (.iload_n 3, 1) := by decide +kernel
theorem d_Mo_ask_257 : decode b_Mo_ask 257 = .ok (.invokevirtual 169, 3) := by decide +kernel
theorem d_Mo_ask_260 : decode b_Mo_ask 260 = .ok (.iinc 4 1, 3) := by decide +kernel
theorem d_Mo_ask_263 : decode b_Mo_ask 263 = .ok (.goto (-33), 3) := by decide +kernel
theorem d_Mo_ask_266 : decode b_Mo_ask 266 = .ok (.aload_n 0, 1) := by decide +kernel
theorem d_Mo_ask_267 : decode b_Mo_ask 267 = .ok (.iload_n 2, 1) := by decide +kernel
theorem d_Mo_ask_268 : decode b_Mo_ask 268 = .ok (.iload_n 3, 1) := by decide +kernel
theorem d_Mo_ask_269 : decode b_Mo_ask 269 = .ok (.invokevirtual 158, 3) := by decide +kernel
theorem d_Mo_ask_272 : decode b_Mo_ask 272 = .ok (.istore_n 3, 1) := by decide +kernel
theorem d_Mo_ask_273 : decode b_Mo_ask 273 = .ok (.goto (-102), 3) := by decide +kernel
theorem d_Mo_ask_276 : decode b_Mo_ask 276 = .ok (.iconst 0, 1) := by decide +kernel
theorem d_Mo_ask_277 : decode b_Mo_ask 277 = .ok (.istore 4, 2) := by decide +kernel
theorem d_Mo_ask_279 : decode b_Mo_ask 279 = .ok (.iconst 0, 1) := by decide +kernel
theorem d_Mo_ask_280 : decode b_Mo_ask 280 = .ok (.istore 5, 2) := by decide +kernel
theorem d_Mo_ask_282 : decode b_Mo_ask 282 = .ok (.iload 5, 2) := by decide +kernel
theorem d_Mo_ask_284 : decode b_Mo_ask 284 = .ok (.iconst 4, 1) := by decide +kernel
theorem d_Mo_ask_285 : decode b_Mo_ask 285 = .ok (.if_icmp .ge 30, 3) := by decide +kernel
theorem d_Mo_ask_288 : decode b_Mo_ask 288 = .ok (.iload 4, 2) := by decide +kernel
theorem d_Mo_ask_290 : decode b_Mo_ask 290 = .ok (.aload_n 0, 1) := by decide +kernel
theorem d_Mo_ask_291 : decode b_Mo_ask 291 = .ok (.getfield 66, 3) := by decide +kernel
theorem d_Mo_ask_294 : decode b_Mo_ask 294 = .ok (.iload 5, 2) := by decide +kernel
theorem d_Mo_ask_296 : decode b_Mo_ask 296 = .ok (.iaload, 1) := by decide +kernel
theorem d_Mo_ask_297 : decode b_Mo_ask 297 = .ok (.iconst (-1), 1) := by decide +kernel
theorem d_Mo_ask_298 : decode b_Mo_ask 298 = .ok (.if_icmp .ne 7, 3) := by decide +kernel
theorem d_Mo_ask_301 : decode b_Mo_ask 301 = .ok (.iconst 0, 1) := by decide +kernel
theorem d_Mo_ask_302 : decode b_Mo_ask 302 = .ok (.goto 4, 3) := by decide +kernel
theorem d_Mo_ask_305 : decode b_Mo_ask 305 = .ok (.iconst 1, 1) := by decide +kernel
theorem d_Mo_ask_306 : decode b_Mo_ask 306 = .ok (.iadd, 1) := by decide +kernel
theorem d_Mo_ask_307 : decode b_Mo_ask 307 = .ok (.istore 4, 2) := by decide +kernel
theorem d_Mo_ask_309 : decode b_Mo_ask 309 = .ok (.iinc 5 1, 3) := by decide +kernel
theorem d_Mo_ask_312 : decode b_Mo_ask 312 = .ok (.goto (-30), 3) := by decide +kernel
theorem d_Mo_ask_315 : decode b_Mo_ask 315 = .ok (.iload 4, 2) := by decide +kernel
theorem d_Mo_ask_317 : decode b_Mo_ask 317 = .ok (.ireturn, 1) := by decide +kernel
theorem d_Mo_answer_0 : decode b_Mo_answer 0 = .ok (.aload_n 0, 1) := by decide +kernel
theorem d_Mo_answer_1 : decode b_Mo_answer 1 = .ok (.iconst 0, 1) := by decide +kernel
theorem d_Mo_answer_2 : decode b_Mo_answer 2 = .ok (.putfield 82, 3) := by decide +kernel
theorem d_Mo_answer_5 : decode b_Mo_answer 5 = .ok (.iload_n 1, 1) := by decide +kernel
theorem d_Mo_answer_6 : decode b_Mo_answer 6 = .ok (.i2l, 1) := by decide +kernel
theorem d_Mo_answer_7 : decode b_Mo_answer 7 = .ok (.lconst 0, 1) := by decide +kernel
theorem d_Mo_answer_8 : decode b_Mo_answer 8 = .ok (.ldc2_w 108, 3) := by decide +kernel
theorem d_Mo_answer_11 : decode b_Mo_answer 11 = .ok (.invokestatic 88, 3) := by decide +kernel
theorem d_Mo_answer_14 : decode b_Mo_answer 14 = .ok (.ifCond .eq 12, 3) := by decide +kernel
theorem d_Mo_answer_17 : decode b_Mo_answer 17 = .ok (.aload_n 0, 1) := by decide +kernel
theorem d_Mo_answer_18 : decode b_Mo_answer 18 = .ok (.getfield 63, 3) := by decide +kernel
theorem d_Mo_answer_21 : decode b_Mo_answer 21 = .ok (.iload_n 1, 1) := by decide +kernel
theorem d_Mo_answer_22 : decode b_Mo_answer 22 = .ok (.laload, 1) := by decide +kernel
theorem d_Mo_answer_23 : decode b_Mo_answer 23 = .ok (.goto 4, 3) := by decide +kernel
theorem d_Mo_answer_26 : decode b_Mo_answer 26 = .ok (.lconst 0, 1) := by decide +kernel
theorem d_Mo_answer_27 : decode b_Mo_answer 27 = .ok (.lreturn, 1) := by decide +kernel
theorem d_Mo_by_0 : decode b_Mo_by 0 = .ok (.aload_n 0, 1) := by decide +kernel
theorem d_Mo_by_1 : decode b_Mo_by 1 = .ok (.iconst 0, 1) := by decide +kernel
theorem d_Mo_by_2 : decode b_Mo_by 2 = .ok (.putfield 82, 3) := by decide +kernel
theorem d_Mo_by_5 : decode b_Mo_by 5 = .ok (.iload_n 1, 1) := by decide +kernel
theorem d_Mo_by_6 : decode b_Mo_by 6 = .ok (.i2l, 1) := by decide +kernel
theorem d_Mo_by_7 : decode b_Mo_by 7 = .ok (.lconst 0, 1) := by decide +kernel
theorem d_Mo_by_8 : decode b_Mo_by 8 = .ok (.ldc2_w 108, 3) := by decide +kernel
theorem d_Mo_by_11 : decode b_Mo_by 11 = .ok (.invokestatic 88, 3) := by decide +kernel
theorem d_Mo_by_14 : decode b_Mo_by 14 = .ok (.ifCond .eq 12, 3) := by decide +kernel
theorem d_Mo_by_17 : decode b_Mo_by 17 = .ok (.aload_n 0, 1) := by decide +kernel
theorem d_Mo_by_18 : decode b_Mo_by 18 = .ok (.getfield 66, 3) := by decide +kernel
theorem d_Mo_by_21 : decode b_Mo_by 21 = .ok (.iload_n 1, 1) := by decide +kernel
theorem d_Mo_by_22 : decode b_Mo_by 22 = .ok (.iaload, 1) := by decide +kernel
theorem d_Mo_by_23 : decode b_Mo_by 23 = .ok (.goto 4, 3) := by decide +kernel
theorem d_Mo_by_26 : decode b_Mo_by 26 = .ok (.iconst (-1), 1) := by decide +kernel
theorem d_Mo_by_27 : decode b_Mo_by 27 = .ok (.ireturn, 1) := by decide +kernel
theorem d_Mo_failed_0 : decode b_Mo_failed 0 = .ok (.aload_n 0, 1) := by decide +kernel
theorem d_Mo_failed_1 : decode b_Mo_failed 1 = .ok (.iconst 0, 1) := by decide +kernel
theorem d_Mo_failed_2 : decode b_Mo_failed 2 = .ok (.putfield 82, 3) := by decide +kernel
theorem d_Mo_failed_5 : decode b_Mo_failed 5 = .ok (.iload_n 1, 1) := by decide +kernel
theorem d_Mo_failed_6 : decode b_Mo_failed 6 = .ok (.i2l, 1) := by decide +kernel
theorem d_Mo_failed_7 : decode b_Mo_failed 7 = .ok (.lconst 0, 1) := by decide +kernel
theorem d_Mo_failed_8 : decode b_Mo_failed 8 = .ok (.aload_n 0, 1) := by decide +kernel
theorem d_Mo_failed_9 : decode b_Mo_failed 9 = .ok (.getfield 155, 3) := by decide +kernel
theorem d_Mo_failed_12 : decode b_Mo_failed 12 = .ok (.iconst 1, 1) := by decide +kernel
theorem d_Mo_failed_13 : decode b_Mo_failed 13 = .ok (.isub, 1) := by decide +kernel
theorem d_Mo_failed_14 : decode b_Mo_failed 14 = .ok (.i2l, 1) := by decide +kernel
theorem d_Mo_failed_15 : decode b_Mo_failed 15 = .ok (.invokestatic 88, 3) := by decide +kernel
theorem d_Mo_failed_18 : decode b_Mo_failed 18 = .ok (.ifCond .eq 13, 3) := by decide +kernel
theorem d_Mo_failed_21 : decode b_Mo_failed 21 = .ok (.iload_n 2, 1) := by decide +kernel
theorem d_Mo_failed_22 : decode b_Mo_failed 22 = .ok (.i2l, 1) := by decide +kernel
theorem d_Mo_failed_23 : decode b_Mo_failed 23 = .ok (.lconst 0, 1) := by decide +kernel
theorem d_Mo_failed_24 : decode b_Mo_failed 24 = .ok (.lconst 1, 1) := by decide +kernel
theorem d_Mo_failed_25 : decode b_Mo_failed 25 = .ok (.invokestatic 88, 3) := by decide +kernel
theorem d_Mo_failed_28 : decode b_Mo_failed 28 = .ok (.ifCond .ne 5, 3) := by decide +kernel
theorem d_Mo_failed_31 : decode b_Mo_failed 31 = .ok (.iconst (-1), 1) := by decide +kernel
theorem d_Mo_failed_32 : decode b_Mo_failed 32 = .ok (.ireturn, 1) := by decide +kernel
theorem d_Mo_failed_33 : decode b_Mo_failed 33 = .ok (.iload_n 2, 1) := by decide +kernel
theorem d_Mo_failed_34 : decode b_Mo_failed 34 = .ok (.ifCond .ne 12, 3) := by decide +kernel
theorem d_Mo_failed_37 : decode b_Mo_failed 37 = .ok (.aload_n 0, 1) := by decide +kernel
theorem d_Mo_failed_38 : decode b_Mo_failed 38 = .ok (.getfield 57, 3) := by decide +kernel
theorem d_Mo_failed_41 : decode b_Mo_failed 41 = .ok (.iload_n 1, 1) := by decide +kernel
theorem d_Mo_failed_42 : decode b_Mo_failed 42 = .ok (.iaload, 1) := by decide +kernel
theorem d_Mo_failed_43 : decode b_Mo_failed 43 = .ok (.goto 9, 3) := by decide +kernel
theorem d_Mo_failed_46 : decode b_Mo_failed 46 = .ok (.aload_n 0, 1) := by decide +kernel
theorem d_Mo_failed_47 : decode b_Mo_failed 47 = .ok (.getfield 60, 3) := by decide +kernel
theorem d_Mo_failed_50 : decode b_Mo_failed 50 = .ok (.iload_n 1, 1) := by decide +kernel
theorem d_Mo_failed_51 : decode b_Mo_failed 51 = .ok (.iaload, 1) := by decide +kernel
theorem d_Mo_failed_52 : decode b_Mo_failed 52 = .ok (.ireturn, 1) := by decide +kernel
theorem d_Mo_cell_0 : decode b_Mo_cell 0 = .ok (.aload_n 0, 1) := by decide +kernel
theorem d_Mo_cell_1 : decode b_Mo_cell 1 = .ok (.iconst 0, 1) := by decide +kernel
theorem d_Mo_cell_2 : decode b_Mo_cell 2 = .ok (.putfield 82, 3) := by decide +kernel
theorem d_Mo_cell_5 : decode b_Mo_cell 5 = .ok (.aload_n 0, 1) := by decide +kernel
theorem d_Mo_cell_6 : decode b_Mo_cell 6 = .ok (.iload_n 1, 1) := by decide +kernel
theorem d_Mo_cell_7 : decode b_Mo_cell 7 = .ok (.invokevirtual 110, 3) := by decide +kernel
theorem d_Mo_cell_10 : decode b_Mo_cell 10 = .ok (.ifCond .eq 12, 3) := by decide +kernel
theorem d_Mo_cell_13 : decode b_Mo_cell 13 = .ok (.aload_n 0, 1) := by decide +kernel
theorem d_Mo_cell_14 : decode b_Mo_cell 14 = .ok (.getfield 26, 3) := by decide +kernel
theorem d_Mo_cell_17 : decode b_Mo_cell 17 = .ok (.iload_n 1, 1) := by decide +kernel
theorem d_Mo_cell_18 : decode b_Mo_cell 18 = .ok (.laload, 1) := by decide +kernel
theorem d_Mo_cell_19 : decode b_Mo_cell 19 = .ok (.goto 4, 3) := by decide +kernel
theorem d_Mo_cell_22 : decode b_Mo_cell 22 = .ok (.lconst 0, 1) := by decide +kernel
theorem d_Mo_cell_23 : decode b_Mo_cell 23 = .ok (.lreturn, 1) := by decide +kernel
theorem d_Mo_edition_0 : decode b_Mo_edition 0 = .ok (.aload_n 0, 1) := by decide +kernel
theorem d_Mo_edition_1 : decode b_Mo_edition 1 = .ok (.iconst 0, 1) := by decide +kernel
theorem d_Mo_edition_2 : decode b_Mo_edition 2 = .ok (.putfield 82, 3) := by decide +kernel
theorem d_Mo_edition_5 : decode b_Mo_edition 5 = .ok (.iload_n 1, 1) := by decide +kernel
theorem d_Mo_edition_6 : decode b_Mo_edition 6 = .ok (.invokestatic 94, 3) := by decide +kernel
theorem d_Mo_edition_9 : decode b_Mo_edition 9 = .ok (.ifCond .eq 15, 3) := by decide +kernel
theorem d_Mo_edition_12 : decode b_Mo_edition 12 = .ok (.iload_n 2, 1) := by decide +kernel
theorem d_Mo_edition_13 : decode b_Mo_edition 13 = .ok (.i2l, 1) := by decide +kernel
theorem d_Mo_edition_14 : decode b_Mo_edition 14 = .ok (.lconst 0, 1) := by decide +kernel
theorem d_Mo_edition_15 : decode b_Mo_edition 15 = .ok (.ldc2_w 173, 3) := by decide +kernel
theorem d_Mo_edition_18 : decode b_Mo_edition 18 = .ok (.invokestatic 88, 3) := by decide +kernel
theorem d_Mo_edition_21 : decode b_Mo_edition 21 = .ok (.ifCond .ne 6, 3) := by decide +kernel
theorem d_Mo_edition_24 : decode b_Mo_edition 24 = .ok (.bipush (-102), 2) := by decide +kernel
theorem d_Mo_edition_26 : decode b_Mo_edition 26 = .ok (.ireturn, 1) := by decide +kernel
theorem d_Mo_edition_27 : decode b_Mo_edition 27 = .ok (.iload_n 2, 1) := by decide +kernel
theorem d_Mo_edition_28 : decode b_Mo_edition 28 = .ok (.ifCond .ne 12, 3) := by decide +kernel
theorem d_Mo_edition_31 : decode b_Mo_edition 31 = .ok (.aload_n 0, 1) := by decide +kernel
theorem d_Mo_edition_32 : decode b_Mo_edition 32 = .ok (.getfield 42, 3) := by decide +kernel
theorem d_Mo_edition_35 : decode b_Mo_edition 35 = .ok (.iload_n 1, 1) := by decide +kernel
theorem d_Mo_edition_36 : decode b_Mo_edition 36 = .ok (.iaload, 1) := by decide +kernel
theorem d_Mo_edition_37 : decode b_Mo_edition 37 = .ok (.goto 23, 3) := by decide +kernel
theorem d_Mo_edition_40 : decode b_Mo_edition 40 = .ok (.iload_n 2, 1) := by decide +kernel
theorem d_Mo_edition_41 : decode b_Mo_edition 41 = .ok (.iconst 1, 1) := by decide +kernel
theorem d_Mo_edition_42 : decode b_Mo_edition 42 = .ok (.if_icmp .ne 12, 3) := by decide +kernel
theorem d_Mo_edition_45 : decode b_Mo_edition 45 = .ok (.aload_n 0, 1) := by decide +kernel
theorem d_Mo_edition_46 : decode b_Mo_edition 46 = .ok (.getfield 45, 3) := by decide +kernel
theorem d_Mo_edition_49 : decode b_Mo_edition 49 = .ok (.iload_n 1, 1) := by decide +kernel
theorem d_Mo_edition_50 : decode b_Mo_edition 50 = .ok (.iaload, 1) := by decide +kernel
theorem d_Mo_edition_51 : decode b_Mo_edition 51 = .ok (.goto 9, 3) := by decide +kernel
theorem d_Mo_edition_54 : decode b_Mo_edition 54 = .ok (.aload_n 0, 1) := by decide +kernel
theorem d_Mo_edition_55 : decode b_Mo_edition 55 = .ok (.getfield 48, 3) := by decide +kernel
theorem d_Mo_edition_58 : decode b_Mo_edition 58 = .ok (.iload_n 1, 1) := by decide +kernel
theorem d_Mo_edition_59 : decode b_Mo_edition 59 = .ok (.iaload, 1) := by decide +kernel
theorem d_Mo_edition_60 : decode b_Mo_edition 60 = .ok (.ireturn, 1) := by decide +kernel
theorem d_Mo_hasNumber_0 : decode b_Mo_hasNumber 0 = .ok (.iload_n 0, 1) := by decide +kernel
theorem d_Mo_hasNumber_1 : decode b_Mo_hasNumber 1 = .ok (.iconst 2, 1) := by decide +kernel
theorem d_Mo_hasNumber_2 : decode b_Mo_hasNumber 2 = .ok (.if_icmp .lt 21, 3) := by decide +kernel
theorem d_Mo_hasNumber_5 : decode b_Mo_hasNumber 5 = .ok (.iload_n 0, 1) := by decide +kernel
theorem d_Mo_hasNumber_6 : decode b_Mo_hasNumber 6 = .ok (.bipush 9, 2) := by decide +kernel
theorem d_Mo_hasNumber_8 : decode b_Mo_hasNumber 8 = .ok (.if_icmp .eq 15, 3) := by decide +kernel
theorem d_Mo_hasNumber_11 : decode b_Mo_hasNumber 11 = .ok (.iload_n 0, 1) := by decide +kernel
theorem d_Mo_hasNumber_12 : decode b_Mo_hasNumber 12 = .ok (.bipush 10, 2) := by decide +kernel
theorem d_Mo_hasNumber_14 : decode b_Mo_hasNumber 14 = .ok (.if_icmp .eq 9, 3) := by decide +kernel
theorem d_Mo_hasNumber_17 : decode b_Mo_hasNumber 17 = .ok (.iload_n 0, 1) := by decide +kernel
theorem d_Mo_hasNumber_18 : decode b_Mo_hasNumber 18 = .ok (.bipush 13, 2) := by decide +kernel
theorem d_Mo_hasNumber_20 : decode b_Mo_hasNumber 20 = .ok (.if_icmp .ne 7, 3) := by decide +kernel
theorem d_Mo_hasNumber_23 : decode b_Mo_hasNumber 23 = .ok (.iconst 1, 1) := by decide +kernel
theorem d_Mo_hasNumber_24 : decode b_Mo_hasNumber 24 = .ok (.goto 4, 3) := by decide +kernel
theorem d_Mo_hasNumber_27 : decode b_Mo_hasNumber 27 = .ok (.iconst 0, 1) := by decide +kernel
theorem d_Mo_hasNumber_28 : decode b_Mo_hasNumber 28 = .ok (.ireturn, 1) := by decide +kernel
theorem d_Mo_same_0 : decode b_Mo_same 0 = .ok (.aload_n 0, 1) := by decide +kernel
theorem d_Mo_same_1 : decode b_Mo_same 1 = .ok (.iconst 0, 1) := by decide +kernel
theorem d_Mo_same_2 : decode b_Mo_same 2 = .ok (.putfield 82, 3) := by decide +kernel
theorem d_Mo_same_5 : decode b_Mo_same 5 = .ok (.aload_n 0, 1) := by decide +kernel
theorem d_Mo_same_6 : decode b_Mo_same 6 = .ok (.iload_n 1, 1) := by decide +kernel
theorem d_Mo_same_7 : decode b_Mo_same 7 = .ok (.invokevirtual 110, 3) := by decide +kernel
theorem d_Mo_same_10 : decode b_Mo_same 10 = .ok (.ifCond .eq 26, 3) := by decide +kernel
theorem d_Mo_same_13 : decode b_Mo_same 13 = .ok (.aload_n 0, 1) := by decide +kernel
theorem d_Mo_same_14 : decode b_Mo_same 14 = .ok (.iload_n 2, 1) := by decide +kernel
theorem d_Mo_same_15 : decode b_Mo_same 15 = .ok (.invokevirtual 110, 3) := by decide +kernel
theorem d_Mo_same_18 : decode b_Mo_same 18 = .ok (.ifCond .eq 18, 3) := by decide +kernel
theorem d_Mo_same_21 : decode b_Mo_same 21 = .ok (.aload_n 0, 1) := by decide +kernel
theorem d_Mo_same_22 : decode b_Mo_same 22 = .ok (.getfield 16, 3) := by decide +kernel
theorem d_Mo_same_25 : decode b_Mo_same 25 = .ok (.iload_n 1, 1) := by decide +kernel
theorem d_Mo_same_26 : decode b_Mo_same 26 = .ok (.iaload, 1) := by decide +kernel
theorem d_Mo_same_27 : decode b_Mo_same 27 = .ok (.aload_n 0, 1) := by decide +kernel
theorem d_Mo_same_28 : decode b_Mo_same 28 = .ok (.getfield 16, 3) := by decide +kernel
theorem d_Mo_same_31 : decode b_Mo_same 31 = .ok (.iload_n 2, 1) := by decide +kernel
theorem d_Mo_same_32 : decode b_Mo_same 32 = .ok (.iaload, 1) := by decide +kernel
theorem d_Mo_same_33 : decode b_Mo_same 33 = .ok (.if_icmp .eq 5, 3) := by decide +kernel
theorem d_Mo_same_36 : decode b_Mo_same 36 = .ok (.iconst 0, 1) := by decide +kernel
theorem d_Mo_same_37 : decode b_Mo_same 37 = .ok (.ireturn, 1) := by decide +kernel
theorem d_Mo_same_38 : decode b_Mo_same 38 = .ok (.iconst 1, 1) := by decide +kernel
theorem d_Mo_same_39 : decode b_Mo_same 39 = .ok (.istore_n 3, 1) := by decide +kernel
theorem d_Mo_same_40 : decode b_Mo_same 40 = .ok (.iconst 0, 1) := by decide +kernel
theorem d_Mo_same_41 : decode b_Mo_same 41 = .ok (.istore 4, 2) := by decide +kernel
theorem d_Mo_same_43 : decode b_Mo_same 43 = .ok (.iload 4, 2) := by decide +kernel
theorem d_Mo_same_45 : decode b_Mo_same 45 = .ok (.aload_n 0, 1) := by decide +kernel
theorem d_Mo_same_46 : decode b_Mo_same 46 = .ok (.getfield 16, 3) := by decide +kernel
theorem d_Mo_same_49 : decode b_Mo_same 49 = .ok (.iload_n 1, 1) := by decide +kernel
theorem d_Mo_same_50 : decode b_Mo_same 50 = .ok (.iaload, 1) := by decide +kernel
theorem d_Mo_same_51 : decode b_Mo_same 51 = .ok (.if_icmp .ge 86, 3) := by decide +kernel
theorem d_Mo_same_54 : decode b_Mo_same 54 = .ok (.aload_n 0, 1) := by decide +kernel
theorem d_Mo_same_55 : decode b_Mo_same 55 = .ok (.getfield 19, 3) := by decide +kernel
theorem d_Mo_same_58 : decode b_Mo_same 58 = .ok (.bipush 12, 2) := by decide +kernel
theorem d_Mo_same_60 : decode b_Mo_same 60 = .ok (.iload_n 1, 1) := by decide +kernel
theorem d_Mo_same_61 : decode b_Mo_same 61 = .ok (.imul, 1) := by decide +kernel
theorem d_Mo_same_62 : decode b_Mo_same 62 = .ok (.iload 4, 2) := by decide +kernel
theorem d_Mo_same_64 : decode b_Mo_same 64 = .ok (.iadd, 1) := by decide +kernel
theorem d_Mo_same_65 : decode b_Mo_same 65 = .ok (.iaload, 1) := by decide +kernel
theorem d_Mo_same_66 : decode b_Mo_same 66 = .ok (.istore 5, 2) := by decide +kernel
theorem d_Mo_same_68 : decode b_Mo_same 68 = .ok (.iload_n 3, 1) := by decide +kernel
theorem d_Mo_same_69 : decode b_Mo_same 69 = .ok (.ifCond .eq 60, 3) := by decide +kernel
theorem d_Mo_same_72 : decode b_Mo_same 72 = .ok (.iload 5, 2) := by decide +kernel
theorem d_Mo_same_74 : decode b_Mo_same 74 = .ok (.aload_n 0, 1) := by decide +kernel
theorem d_Mo_same_75 : decode b_Mo_same 75 = .ok (.getfield 19, 3) := by decide +kernel
theorem d_Mo_same_78 : decode b_Mo_same 78 = .ok (.bipush 12, 2) := by decide +kernel
theorem d_Mo_same_80 : decode b_Mo_same 80 = .ok (.iload_n 2, 1) := by decide +kernel
theorem d_Mo_same_81 : decode b_Mo_same 81 = .ok (.imul, 1) := by decide +kernel
theorem d_Mo_same_82 : decode b_Mo_same 82 = .ok (.iload 4, 2) := by decide +kernel
theorem d_Mo_same_84 : decode b_Mo_same 84 = .ok (.iadd, 1) := by decide +kernel
theorem d_Mo_same_85 : decode b_Mo_same 85 = .ok (.iaload, 1) := by decide +kernel
theorem d_Mo_same_86 : decode b_Mo_same 86 = .ok (.if_icmp .ne 43, 3) := by decide +kernel
theorem d_Mo_same_89 : decode b_Mo_same 89 = .ok (.iload 5, 2) := by decide +kernel
theorem d_Mo_same_91 : decode b_Mo_same 91 = .ok (.invokestatic 175, 3) := by decide +kernel
theorem d_Mo_same_94 : decode b_Mo_same 94 = .ok (.ifCond .eq 31, 3) := by decide +kernel
theorem d_Mo_same_97 : decode b_Mo_same 97 = .ok (.aload_n 0, 1) := by decide +kernel
theorem d_Mo_same_98 : decode b_Mo_same 98 = .ok (.getfield 22, 3) := by decide +kernel
theorem d_Mo_same_101 : decode b_Mo_same 101 = .ok (.bipush 12, 2) := by decide +kernel
theorem d_Mo_same_103 : decode b_Mo_same 103 = .ok (.iload_n 1, 1) := by decide +kernel
theorem d_Mo_same_104 : decode b_Mo_same 104 = .ok (.imul, 1) := by decide +kernel
theorem d_Mo_same_105 : decode b_Mo_same 105 = .ok (.iload 4, 2) := by decide +kernel
theorem d_Mo_same_107 : decode b_Mo_same 107 = .ok (.iadd, 1) := by decide +kernel
theorem d_Mo_same_108 : decode b_Mo_same 108 = .ok (.laload, 1) := by decide +kernel
theorem d_Mo_same_109 : decode b_Mo_same 109 = .ok (.aload_n 0, 1) := by decide +kernel
theorem d_Mo_same_110 : decode b_Mo_same 110 = .ok (.getfield 22, 3) := by decide +kernel
theorem d_Mo_same_113 : decode b_Mo_same 113 = .ok (.bipush 12, 2) := by decide +kernel
theorem d_Mo_same_115 : decode b_Mo_same 115 = .ok (.iload_n 2, 1) := by decide +kernel
theorem d_Mo_same_116 : decode b_Mo_same 116 = .ok (.imul, 1) := by decide +kernel
theorem d_Mo_same_117 : decode b_Mo_same 117 = .ok (.iload 4, 2) := by decide +kernel
theorem d_Mo_same_119 : decode b_Mo_same 119 = .ok (.iadd, 1) := by decide +kernel
theorem d_Mo_same_120 : decode b_Mo_same 120 = .ok (.laload, 1) := by decide +kernel
theorem d_Mo_same_121 : decode b_Mo_same 121 = .ok (.lcmp, 1) := by decide +kernel
theorem d_Mo_same_122 : decode b_Mo_same 122 = .ok (.ifCond .ne 7, 3) := by decide +kernel
theorem d_Mo_same_125 : decode b_Mo_same 125 = .ok (.iconst 1, 1) := by decide +kernel
theorem d_Mo_same_126 : decode b_Mo_same 126 = .ok (.goto 4, 3) := by decide +kernel
theorem d_Mo_same_129 : decode b_Mo_same 129 = .ok (.iconst 0, 1) := by decide +kernel
theorem d_Mo_same_130 : decode b_Mo_same 130 = .ok (.istore_n 3, 1) := by decide +kernel
theorem d_Mo_same_131 : decode b_Mo_same 131 = .ok (.iinc 4 1, 3) := by decide +kernel
theorem d_Mo_same_134 : decode b_Mo_same 134 = .ok (.goto (-91), 3) := by decide +kernel
theorem d_Mo_same_137 : decode b_Mo_same 137 = .ok (.iload_n 3, 1) := by decide +kernel
theorem d_Mo_same_138 : decode b_Mo_same 138 = .ok (.ireturn, 1) := by decide +kernel
theorem d_Mo_divide_0 : decode b_Mo_divide 0 = .ok (.aload_n 0, 1) := by decide +kernel
theorem d_Mo_divide_1 : decode b_Mo_divide 1 = .ok (.iconst 0, 1) := by decide +kernel
theorem d_Mo_divide_2 : decode b_Mo_divide 2 = .ok (.putfield 82, 3) := by decide +kernel
theorem d_Mo_divide_5 : decode b_Mo_divide 5 = .ok (.aload_n 0, 1) := by decide +kernel
theorem d_Mo_divide_6 : decode b_Mo_divide 6 = .ok (.iload_n 1, 1) := by decide +kernel
theorem d_Mo_divide_7 : decode b_Mo_divide 7 = .ok (.invokevirtual 110, 3) := by decide +kernel
theorem d_Mo_divide_10 : decode b_Mo_divide 10 = .ok (.ifCond .ne 7, 3) := by decide +kernel
theorem d_Mo_divide_13 : decode b_Mo_divide 13 = .ok (.ldc2_w 178, 3) := by decide +kernel
theorem d_Mo_divide_16 : decode b_Mo_divide 16 = .ok (.lreturn, 1) := by decide +kernel
theorem d_Mo_divide_17 : decode b_Mo_divide 17 = .ok (.aload_n 0, 1) := by decide +kernel
theorem d_Mo_divide_18 : decode b_Mo_divide 18 = .ok (.lload 4, 2) := by decide +kernel
theorem d_Mo_divide_20 : decode b_Mo_divide 20 = .ok (.lconst 0, 1) := by decide +kernel
theorem d_Mo_divide_21 : decode b_Mo_divide 21 = .ok (.lcmp, 1) := by decide +kernel
theorem d_Mo_divide_22 : decode b_Mo_divide 22 = .ok (.ifCond .ne 7, 3) := by decide +kernel
theorem d_Mo_divide_25 : decode b_Mo_divide 25 = .ok (.iconst 1, 1) := by decide +kernel
theorem d_Mo_divide_26 : decode b_Mo_divide 26 = .ok (.goto 4, 3) := by decide +kernel
theorem d_Mo_divide_29 : decode b_Mo_divide 29 = .ok (.iconst 0, 1) := by decide +kernel
theorem d_Mo_divide_30 : decode b_Mo_divide 30 = .ok (.putfield 82, 3) := by decide +kernel
theorem d_Mo_divide_33 : decode b_Mo_divide 33 = .ok (.lload 4, 2) := by decide +kernel
theorem d_Mo_divide_35 : decode b_Mo_divide 35 = .ok (.lconst 0, 1) := by decide +kernel
theorem d_Mo_divide_36 : decode b_Mo_divide 36 = .ok (.lcmp, 1) := by decide +kernel
theorem d_Mo_divide_37 : decode b_Mo_divide 37 = .ok (.ifCond .ne 7, 3) := by decide +kernel
theorem d_Mo_divide_40 : decode b_Mo_divide 40 = .ok (.lconst 0, 1) := by decide +kernel
theorem d_Mo_divide_41 : decode b_Mo_divide 41 = .ok (.goto 7, 3) := by decide +kernel
theorem d_Mo_divide_44 : decode b_Mo_divide 44 = .ok (.lload_n 2, 1) := by decide +kernel
theorem d_Mo_divide_45 : decode b_Mo_divide 45 = .ok (.lload 4, 2) := by decide +kernel
theorem d_Mo_divide_47 : decode b_Mo_divide 47 = .ok (.ldiv, 1) := by decide +kernel
theorem d_Mo_divide_48 : decode b_Mo_divide 48 = .ok (.lreturn, 1) := by decide +kernel
theorem d_Mo_handle_0 : decode b_Mo_handle 0 = .ok (.aload_n 0, 1) := by decide +kernel
theorem d_Mo_handle_1 : decode b_Mo_handle 1 = .ok (.iload_n 1, 1) := by decide +kernel
theorem d_Mo_handle_2 : decode b_Mo_handle 2 = .ok (.i2l, 1) := by decide +kernel
theorem d_Mo_handle_3 : decode b_Mo_handle 3 = .ok (.lconst 0, 1) := by decide +kernel
theorem d_Mo_handle_4 : decode b_Mo_handle 4 = .ok (.aload_n 0, 1) := by decide +kernel
theorem d_Mo_handle_5 : decode b_Mo_handle 5 = .ok (.getfield 145, 3) := by decide +kernel
theorem d_Mo_handle_8 : decode b_Mo_handle 8 = .ok (.iconst 1, 1) := by decide +kernel
theorem d_Mo_handle_9 : decode b_Mo_handle 9 = .ok (.isub, 1) := by decide +kernel
theorem d_Mo_handle_10 : decode b_Mo_handle 10 = .ok (.i2l, 1) := by decide +kernel
theorem d_Mo_handle_11 : decode b_Mo_handle 11 = .ok (.invokestatic 88, 3) := by decide +kernel
theorem d_Mo_handle_14 : decode b_Mo_handle 14 = .ok (.ifCond .eq 7, 3) := by decide +kernel
theorem d_Mo_handle_17 : decode b_Mo_handle 17 = .ok (.iconst 1, 1) := by decide +kernel
theorem d_Mo_handle_18 : decode b_Mo_handle 18 = .ok (.goto 4, 3) := by decide +kernel
theorem d_Mo_handle_21 : decode b_Mo_handle 21 = .ok (.iconst 0, 1) := by decide +kernel
theorem d_Mo_handle_22 : decode b_Mo_handle 22 = .ok (.putfield 82, 3) := by decide +kernel
theorem d_Mo_handle_25 : decode b_Mo_handle 25 = .ok (.aload_n 0, 1) := by decide +kernel
theorem d_Mo_handle_26 : decode b_Mo_handle 26 = .ok (.getfield 82, 3) := by decide +kernel
theorem d_Mo_handle_29 : decode b_Mo_handle 29 = .ok (.ifCond .le 7, 3) := by decide +kernel
theorem d_Mo_handle_32 : decode b_Mo_handle 32 = .ok (.iconst 0, 1) := by decide +kernel
theorem d_Mo_handle_33 : decode b_Mo_handle 33 = .ok (.goto 5, 3) := by decide +kernel
theorem d_Mo_handle_36 : decode b_Mo_handle 36 = .ok (.bipush (-102), 2) := by decide +kernel
theorem d_Mo_handle_38 : decode b_Mo_handle 38 = .ok (.ireturn, 1) := by decide +kernel
end
section
theorem d_La_cell_0 : decode b_La_cell 0 = .ok (.iload_n 1, 1) := by decide +kernel
theorem d_La_cell_1 : decode b_La_cell 1 = .ok (.aload_n 0, 1) := by decide +kernel
theorem d_La_cell_2 : decode b_La_cell 2 = .ok (.arraylength, 1) := by decide +kernel
theorem d_La_cell_3 : decode b_La_cell 3 = .ok (.if_icmp .ge 9, 3) := by decide +kernel
theorem d_La_cell_6 : decode b_La_cell 6 = .ok (.aload_n 0, 1) := by decide +kernel
theorem d_La_cell_7 : decode b_La_cell 7 = .ok (.iload_n 1, 1) := by decide +kernel
theorem d_La_cell_8 : decode b_La_cell 8 = .ok (.iaload, 1) := by decide +kernel
theorem d_La_cell_9 : decode b_La_cell 9 = .ok (.goto 4, 3) := by decide +kernel
theorem d_La_cell_12 : decode b_La_cell 12 = .ok (.iconst 0, 1) := by decide +kernel
theorem d_La_cell_13 : decode b_La_cell 13 = .ok (.ireturn, 1) := by decide +kernel
theorem d_La_divide_0 : decode b_La_divide 0 = .ok (.aload 6, 2) := by decide +kernel
theorem d_La_divide_2 : decode b_La_divide 2 = .ok (.iconst 0, 1) := by decide +kernel
theorem d_La_divide_3 : decode b_La_divide 3 = .ok (.aload_n 0, 1) := by decide +kernel
theorem d_La_divide_4 : decode b_La_divide 4 = .ok (.iload_n 1, 1) := by decide +kernel
theorem d_La_divide_5 : decode b_La_divide 5 = .ok (.lload_n 2, 1) := by decide +kernel
theorem d_La_divide_6 : decode b_La_divide 6 = .ok (.lload 4, 2) := by decide +kernel
theorem d_La_divide_8 : decode b_La_divide 8 = .ok (.invokevirtual 7, 3) := by decide +kernel
theorem d_La_divide_11 : decode b_La_divide 11 = .ok (.lastore, 1) := by decide +kernel
theorem d_La_divide_12 : decode b_La_divide 12 = .ok (.goto 7, 3) := by decide +kernel
theorem d_La_divide_15 : decode b_La_divide 15 = .ok (.astore 7, 2) := by decide +kernel
theorem d_La_divide_17 : decode b_La_divide 17 = .ok (.iconst 1, 1) := by decide +kernel
theorem d_La_divide_18 : decode b_La_divide 18 = .ok (.ireturn, 1) := by decide +kernel
theorem d_La_divide_19 : decode b_La_divide 19 = .ok (.iconst 0, 1) := by decide +kernel
theorem d_La_divide_20 : decode b_La_divide 20 = .ok (.ireturn, 1) := by decide +kernel
theorem d_La_handle_0 : decode b_La_handle 0 = .ok (.aload_n 2, 1) := by decide +kernel
theorem d_La_handle_1 : decode b_La_handle 1 = .ok (.iconst 0, 1) := by decide +kernel
theorem d_La_handle_2 : decode b_La_handle 2 = .ok (.aload_n 0, 1) := by decide +kernel
theorem d_La_handle_3 : decode b_La_handle 3 = .ok (.iload_n 1, 1) := by decide +kernel
theorem d_La_handle_4 : decode b_La_handle 4 = .ok (.invokevirtual 15, 3) := by decide +kernel
theorem d_La_handle_7 : decode b_La_handle 7 = .ok (.i2l, 1) := by decide +kernel
theorem d_La_handle_8 : decode b_La_handle 8 = .ok (.lastore, 1) := by decide +kernel
theorem d_La_handle_9 : decode b_La_handle 9 = .ok (.goto 6, 3) := by decide +kernel
theorem d_La_handle_12 : decode b_La_handle 12 = .ok (.astore_n 3, 1) := by decide +kernel
theorem d_La_handle_13 : decode b_La_handle 13 = .ok (.iconst 1, 1) := by decide +kernel
theorem d_La_handle_14 : decode b_La_handle 14 = .ok (.ireturn, 1) := by decide +kernel
theorem d_La_handle_15 : decode b_La_handle 15 = .ok (.iconst 0, 1) := by decide +kernel
theorem d_La_handle_16 : decode b_La_handle 16 = .ok (.ireturn, 1) := by decide +kernel
theorem d_La_law_0 : decode b_La_law 0 = .ok (.new 8, 3) := by decide +kernel
theorem d_La_law_3 : decode b_La_law 3 = .ok (.dup, 1) := by decide +kernel
theorem d_La_law_4 : decode b_La_law 4 = .ok (.aload_n 0, 1) := by decide +kernel
theorem d_La_law_5 : decode b_La_law 5 = .ok (.iconst 0, 1) := by decide +kernel
theorem d_La_law_6 : decode b_La_law 6 = .ok (.invokestatic 21, 3) := by decide +kernel
theorem d_La_law_9 : decode b_La_law 9 = .ok (.invokespecial 27, 3) := by decide +kernel
theorem d_La_law_12 : decode b_La_law 12 = .ok (.astore_n 1, 1) := by decide +kernel
theorem d_La_law_13 : decode b_La_law 13 = .ok (.new 30, 3) := by decide +kernel
theorem d_La_law_16 : decode b_La_law 16 = .ok (.dup, 1) := by decide +kernel
theorem d_La_law_17 : decode b_La_law 17 = .ok (.aload_n 0, 1) := by decide +kernel
theorem d_La_law_18 : decode b_La_law 18 = .ok (.iconst 0, 1) := by decide +kernel
theorem d_La_law_19 : decode b_La_law 19 = .ok (.invokestatic 21, 3) := by decide +kernel
theorem d_La_law_22 : decode b_La_law 22 = .ok (.invokespecial 32, 3) := by decide +kernel
theorem d_La_law_25 : decode b_La_law 25 = .ok (.astore_n 2, 1) := by decide +kernel
theorem d_La_law_26 : decode b_La_law 26 = .ok (.iconst 1, 1) := by decide +kernel
theorem d_La_law_27 : decode b_La_law 27 = .ok (.newarray .long, 2) := by decide +kernel
theorem d_La_law_29 : decode b_La_law 29 = .ok (.astore_n 3, 1) := by decide +kernel
theorem d_La_law_30 : decode b_La_law 30 = .ok (.iconst 1, 1) := by decide +kernel
theorem d_La_law_31 : decode b_La_law 31 = .ok (.istore 4, 2) := by decide +kernel
theorem d_La_law_33 : decode b_La_law 33 = .ok (.iload 4, 2) := by decide +kernel
theorem d_La_law_35 : decode b_La_law 35 = .ok (.aload_n 0, 1) := by decide +kernel
theorem d_La_law_36 : decode b_La_law 36 = .ok (.arraylength, 1) := by decide +kernel
theorem d_La_law_37 : decode b_La_law 37 = .ok (.bipush 6, 2) := by decide +kernel
theorem d_La_law_39 : decode b_La_law 39 = .ok (.isub, 1) := by decide +kernel
theorem d_La_law_40 : decode b_La_law 40 = .ok (.if_icmp .gt 844, 3) := by decide +kernel
theorem d_La_law_43 : decode b_La_law 43 = .ok (.aload_n 0, 1) := by decide +kernel
theorem d_La_law_44 : decode b_La_law 44 = .ok (.iload 4, 2) := by decide +kernel
theorem d_La_law_46 : decode b_La_law 46 = .ok (.iaload, 1) := by decide +kernel
theorem d_La_law_47 : decode b_La_law 47 = .ok (.bipush 15, 2) := by decide +kernel
theorem d_La_law_49 : decode b_La_law 49 = .ok (.iand, 1) := by decide +kernel
theorem d_La_law_50 : decode b_La_law 50 = .ok (.tableswitch 828 0 14 #[74, 123, 204, 285, 354, 379, 416, 441, 467, 492, 529, 555, 592, 629, 772], 74) := by decide +kernel
theorem d_La_law_124 : decode b_La_law 124 = .ok (.aload_n 1, 1) := by decide +kernel
theorem d_La_law_125 : decode b_La_law 125 = .ok (.aload_n 0, 1) := by decide +kernel
theorem d_La_law_126 : decode b_La_law 126 = .ok (.iload 4, 2) := by decide +kernel
theorem d_La_law_128 : decode b_La_law 128 = .ok (.iconst 1, 1) := by decide +kernel
theorem d_La_law_129 : decode b_La_law 129 = .ok (.iadd, 1) := by decide +kernel
theorem d_La_law_130 : decode b_La_law 130 = .ok (.iaload, 1) := by decide +kernel
theorem d_La_law_131 : decode b_La_law 131 = .ok (.aload_n 0, 1) := by decide +kernel
theorem d_La_law_132 : decode b_La_law 132 = .ok (.iload 4, 2) := by decide +kernel
theorem d_La_law_134 : decode b_La_law 134 = .ok (.iconst 2, 1) := by decide +kernel
theorem d_La_law_135 : decode b_La_law 135 = .ok (.iadd, 1) := by decide +kernel
theorem d_La_law_136 : decode b_La_law 136 = .ok (.iaload, 1) := by decide +kernel
theorem d_La_law_137 : decode b_La_law 137 = .ok (.aload_n 0, 1) := by decide +kernel
theorem d_La_law_138 : decode b_La_law 138 = .ok (.iload 4, 2) := by decide +kernel
theorem d_La_law_140 : decode b_La_law 140 = .ok (.iconst 3, 1) := by decide +kernel
theorem d_La_law_141 : decode b_La_law 141 = .ok (.iadd, 1) := by decide +kernel
theorem d_La_law_142 : decode b_La_law 142 = .ok (.iaload, 1) := by decide +kernel
theorem d_La_law_143 : decode b_La_law 143 = .ok (.invokevirtual 33, 3) := by decide +kernel
theorem d_La_law_146 : decode b_La_law 146 = .ok (.aload_n 2, 1) := by decide +kernel
theorem d_La_law_147 : decode b_La_law 147 = .ok (.aload_n 0, 1) := by decide +kernel
theorem d_La_law_148 : decode b_La_law 148 = .ok (.iload 4, 2) := by decide +kernel
theorem d_La_law_150 : decode b_La_law 150 = .ok (.iconst 1, 1) := by decide +kernel
theorem d_La_law_151 : decode b_La_law 151 = .ok (.iadd, 1) := by decide +kernel
theorem d_La_law_152 : decode b_La_law 152 = .ok (.iaload, 1) := by decide +kernel
theorem d_La_law_153 : decode b_La_law 153 = .ok (.aload_n 0, 1) := by decide +kernel
theorem d_La_law_154 : decode b_La_law 154 = .ok (.iload 4, 2) := by decide +kernel
theorem d_La_law_156 : decode b_La_law 156 = .ok (.iconst 2, 1) := by decide +kernel
theorem d_La_law_157 : decode b_La_law 157 = .ok (.iadd, 1) := by decide +kernel
theorem d_La_law_158 : decode b_La_law 158 = .ok (.iaload, 1) := by decide +kernel
theorem d_La_law_159 : decode b_La_law 159 = .ok (.aload_n 0, 1) := by decide +kernel
theorem d_La_law_160 : decode b_La_law 160 = .ok (.iload 4, 2) := by decide +kernel
theorem d_La_law_162 : decode b_La_law 162 = .ok (.iconst 3, 1) := by decide +kernel
theorem d_La_law_163 : decode b_La_law 163 = .ok (.iadd, 1) := by decide +kernel
theorem d_La_law_164 : decode b_La_law 164 = .ok (.iaload, 1) := by decide +kernel
theorem d_La_law_165 : decode b_La_law 165 = .ok (.invokevirtual 37, 3) := by decide +kernel
theorem d_La_law_168 : decode b_La_law 168 = .ok (.if_icmp .eq 710, 3) := by decide +kernel
theorem d_La_law_171 : decode b_La_law 171 = .ok (.iconst 0, 1) := by decide +kernel
theorem d_La_law_172 : decode b_La_law 172 = .ok (.ireturn, 1) := by decide +kernel
theorem d_La_law_173 : decode b_La_law 173 = .ok (.aload_n 1, 1) := by decide +kernel
theorem d_La_law_174 : decode b_La_law 174 = .ok (.aload_n 0, 1) := by decide +kernel
theorem d_La_law_175 : decode b_La_law 175 = .ok (.iload 4, 2) := by decide +kernel
theorem d_La_law_177 : decode b_La_law 177 = .ok (.iconst 1, 1) := by decide +kernel
theorem d_La_law_178 : decode b_La_law 178 = .ok (.iadd, 1) := by decide +kernel
theorem d_La_law_179 : decode b_La_law 179 = .ok (.iaload, 1) := by decide +kernel
theorem d_La_law_180 : decode b_La_law 180 = .ok (.aload_n 0, 1) := by decide +kernel
theorem d_La_law_181 : decode b_La_law 181 = .ok (.iload 4, 2) := by decide +kernel
theorem d_La_law_183 : decode b_La_law 183 = .ok (.iconst 2, 1) := by decide +kernel
theorem d_La_law_184 : decode b_La_law 184 = .ok (.iadd, 1) := by decide +kernel
theorem d_La_law_185 : decode b_La_law 185 = .ok (.iaload, 1) := by decide +kernel
theorem d_La_law_186 : decode b_La_law 186 = .ok (.aload_n 0, 1) := by decide +kernel
theorem d_La_law_187 : decode b_La_law 187 = .ok (.iload 4, 2) := by decide +kernel
theorem d_La_law_189 : decode b_La_law 189 = .ok (.iconst 3, 1) := by decide +kernel
theorem d_La_law_190 : decode b_La_law 190 = .ok (.iadd, 1) := by decide +kernel
theorem d_La_law_191 : decode b_La_law 191 = .ok (.iaload, 1) := by decide +kernel
theorem d_La_law_192 : decode b_La_law 192 = .ok (.i2l, 1) := by decide +kernel
theorem d_La_law_193 : decode b_La_law 193 = .ok (.bipush 32, 2) := by decide +kernel
theorem d_La_law_195 : decode b_La_law 195 = .ok (.lshl, 1) := by decide +kernel
theorem d_La_law_196 : decode b_La_law 196 = .ok (.aload_n 0, 1) := by decide +kernel
theorem d_La_law_197 : decode b_La_law 197 = .ok (.iload 4, 2) := by decide +kernel
theorem d_La_law_199 : decode b_La_law 199 = .ok (.iconst 4, 1) := by decide +kernel
theorem d_La_law_200 : decode b_La_law 200 = .ok (.iadd, 1) := by decide +kernel
theorem d_La_law_201 : decode b_La_law 201 = .ok (.iaload, 1) := by decide +kernel
theorem d_La_law_202 : decode b_La_law 202 = .ok (.i2l, 1) := by decide +kernel
theorem d_La_law_203 : decode b_La_law 203 = .ok (.ldc2_w 38, 3) := by decide +kernel
theorem d_La_law_206 : decode b_La_law 206 = .ok (.land, 1) := by decide +kernel
theorem d_La_law_207 : decode b_La_law 207 = .ok (.lor, 1) := by decide +kernel
theorem d_La_law_208 : decode b_La_law 208 = .ok (.invokevirtual 40, 3) := by decide +kernel
theorem d_La_law_211 : decode b_La_law 211 = .ok (.aload_n 2, 1) := by decide +kernel
theorem d_La_law_212 : decode b_La_law 212 = .ok (.aload_n 0, 1) := by decide +kernel
theorem d_La_law_213 : decode b_La_law 213 = .ok (.iload 4, 2) := by decide +kernel
theorem d_La_law_215 : decode b_La_law 215 = .ok (.iconst 1, 1) := by decide +kernel
theorem d_La_law_216 : decode b_La_law 216 = .ok (.iadd, 1) := by decide +kernel
theorem d_La_law_217 : decode b_La_law 217 = .ok (.iaload, 1) := by decide +kernel
theorem d_La_law_218 : decode b_La_law 218 = .ok (.aload_n 0, 1) := by decide +kernel
theorem d_La_law_219 : decode b_La_law 219 = .ok (.iload 4, 2) := by decide +kernel
theorem d_La_law_221 : decode b_La_law 221 = .ok (.iconst 2, 1) := by decide +kernel
theorem d_La_law_222 : decode b_La_law 222 = .ok (.iadd, 1) := by decide +kernel
theorem d_La_law_223 : decode b_La_law 223 = .ok (.iaload, 1) := by decide +kernel
theorem d_La_law_224 : decode b_La_law 224 = .ok (.aload_n 0, 1) := by decide +kernel
theorem d_La_law_225 : decode b_La_law 225 = .ok (.iload 4, 2) := by decide +kernel
theorem d_La_law_227 : decode b_La_law 227 = .ok (.iconst 3, 1) := by decide +kernel
theorem d_La_law_228 : decode b_La_law 228 = .ok (.iadd, 1) := by decide +kernel
theorem d_La_law_229 : decode b_La_law 229 = .ok (.iaload, 1) := by decide +kernel
theorem d_La_law_230 : decode b_La_law 230 = .ok (.i2l, 1) := by decide +kernel
theorem d_La_law_231 : decode b_La_law 231 = .ok (.bipush 32, 2) := by decide +kernel
theorem d_La_law_233 : decode b_La_law 233 = .ok (.lshl, 1) := by decide +kernel
theorem d_La_law_234 : decode b_La_law 234 = .ok (.aload_n 0, 1) := by decide +kernel
theorem d_La_law_235 : decode b_La_law 235 = .ok (.iload 4, 2) := by decide +kernel
theorem d_La_law_237 : decode b_La_law 237 = .ok (.iconst 4, 1) := by decide +kernel
theorem d_La_law_238 : decode b_La_law 238 = .ok (.iadd, 1) := by decide +kernel
theorem d_La_law_239 : decode b_La_law 239 = .ok (.iaload, 1) := by decide +kernel
theorem d_La_law_240 : decode b_La_law 240 = .ok (.i2l, 1) := by decide +kernel
theorem d_La_law_241 : decode b_La_law 241 = .ok (.ldc2_w 38, 3) := by decide +kernel
theorem d_La_law_244 : decode b_La_law 244 = .ok (.land, 1) := by decide +kernel
theorem d_La_law_245 : decode b_La_law 245 = .ok (.lor, 1) := by decide +kernel
theorem d_La_law_246 : decode b_La_law 246 = .ok (.invokevirtual 44, 3) := by decide +kernel
theorem d_La_law_249 : decode b_La_law 249 = .ok (.if_icmp .eq 629, 3) := by decide +kernel
theorem d_La_law_252 : decode b_La_law 252 = .ok (.iconst 0, 1) := by decide +kernel
theorem d_La_law_253 : decode b_La_law 253 = .ok (.ireturn, 1) := by decide +kernel
theorem d_La_law_254 : decode b_La_law 254 = .ok (.aload_n 1, 1) := by decide +kernel
theorem d_La_law_255 : decode b_La_law 255 = .ok (.aload_n 0, 1) := by decide +kernel
theorem d_La_law_256 : decode b_La_law 256 = .ok (.iload 4, 2) := by decide +kernel
theorem d_La_law_258 : decode b_La_law 258 = .ok (.iconst 1, 1) := by decide +kernel
theorem d_La_law_259 : decode b_La_law 259 = .ok (.iadd, 1) := by decide +kernel
theorem d_La_law_260 : decode b_La_law 260 = .ok (.iaload, 1) := by decide +kernel
theorem d_La_law_261 : decode b_La_law 261 = .ok (.aload_n 0, 1) := by decide +kernel
theorem d_La_law_262 : decode b_La_law 262 = .ok (.iload 4, 2) := by decide +kernel
theorem d_La_law_264 : decode b_La_law 264 = .ok (.iconst 2, 1) := by decide +kernel
theorem d_La_law_265 : decode b_La_law 265 = .ok (.iadd, 1) := by decide +kernel
theorem d_La_law_266 : decode b_La_law 266 = .ok (.iaload, 1) := by decide +kernel
theorem d_La_law_267 : decode b_La_law 267 = .ok (.aload_n 0, 1) := by decide +kernel
theorem d_La_law_268 : decode b_La_law 268 = .ok (.iload 4, 2) := by decide +kernel
theorem d_La_law_270 : decode b_La_law 270 = .ok (.iconst 3, 1) := by decide +kernel
theorem d_La_law_271 : decode b_La_law 271 = .ok (.iadd, 1) := by decide +kernel
theorem d_La_law_272 : decode b_La_law 272 = .ok (.iaload, 1) := by decide +kernel
theorem d_La_law_273 : decode b_La_law 273 = .ok (.i2l, 1) := by decide +kernel
theorem d_La_law_274 : decode b_La_law 274 = .ok (.bipush 32, 2) := by decide +kernel
theorem d_La_law_276 : decode b_La_law 276 = .ok (.lshl, 1) := by decide +kernel
theorem d_La_law_277 : decode b_La_law 277 = .ok (.aload_n 0, 1) := by decide +kernel
theorem d_La_law_278 : decode b_La_law 278 = .ok (.iload 4, 2) := by decide +kernel
theorem d_La_law_280 : decode b_La_law 280 = .ok (.iconst 4, 1) := by decide +kernel
theorem d_La_law_281 : decode b_La_law 281 = .ok (.iadd, 1) := by decide +kernel
theorem d_La_law_282 : decode b_La_law 282 = .ok (.iaload, 1) := by decide +kernel
theorem d_La_law_283 : decode b_La_law 283 = .ok (.i2l, 1) := by decide +kernel
theorem d_La_law_284 : decode b_La_law 284 = .ok (.ldc2_w 38, 3) := by decide +kernel
theorem d_La_law_287 : decode b_La_law 287 = .ok (.land, 1) := by decide +kernel
theorem d_La_law_288 : decode b_La_law 288 = .ok (.lor, 1) := by decide +kernel
theorem d_La_law_289 : decode b_La_law 289 = .ok (.invokevirtual 45, 3) := by decide +kernel
theorem d_La_law_292 : decode b_La_law 292 = .ok (.aload_n 2, 1) := by decide +kernel
theorem d_La_law_293 : decode b_La_law 293 = .ok (.aload_n 0, 1) := by decide +kernel
theorem d_La_law_294 : decode b_La_law 294 = .ok (.iload 4, 2) := by decide +kernel
theorem d_La_law_296 : decode b_La_law 296 = .ok (.iconst 1, 1) := by decide +kernel
theorem d_La_law_297 : decode b_La_law 297 = .ok (.iadd, 1) := by decide +kernel
theorem d_La_law_298 : decode b_La_law 298 = .ok (.iaload, 1) := by decide +kernel
theorem d_La_law_299 : decode b_La_law 299 = .ok (.aload_n 0, 1) := by decide +kernel
theorem d_La_law_300 : decode b_La_law 300 = .ok (.iload 4, 2) := by decide +kernel
theorem d_La_law_302 : decode b_La_law 302 = .ok (.iconst 2, 1) := by decide +kernel
theorem d_La_law_303 : decode b_La_law 303 = .ok (.iadd, 1) := by decide +kernel
theorem d_La_law_304 : decode b_La_law 304 = .ok (.iaload, 1) := by decide +kernel
theorem d_La_law_305 : decode b_La_law 305 = .ok (.aload_n 0, 1) := by decide +kernel
theorem d_La_law_306 : decode b_La_law 306 = .ok (.iload 4, 2) := by decide +kernel
theorem d_La_law_308 : decode b_La_law 308 = .ok (.iconst 3, 1) := by decide +kernel
theorem d_La_law_309 : decode b_La_law 309 = .ok (.iadd, 1) := by decide +kernel
theorem d_La_law_310 : decode b_La_law 310 = .ok (.iaload, 1) := by decide +kernel
theorem d_La_law_311 : decode b_La_law 311 = .ok (.i2l, 1) := by decide +kernel
theorem d_La_law_312 : decode b_La_law 312 = .ok (.bipush 32, 2) := by decide +kernel
theorem d_La_law_314 : decode b_La_law 314 = .ok (.lshl, 1) := by decide +kernel
theorem d_La_law_315 : decode b_La_law 315 = .ok (.aload_n 0, 1) := by decide +kernel
theorem d_La_law_316 : decode b_La_law 316 = .ok (.iload 4, 2) := by decide +kernel
theorem d_La_law_318 : decode b_La_law 318 = .ok (.iconst 4, 1) := by decide +kernel
theorem d_La_law_319 : decode b_La_law 319 = .ok (.iadd, 1) := by decide +kernel
theorem d_La_law_320 : decode b_La_law 320 = .ok (.iaload, 1) := by decide +kernel
theorem d_La_law_321 : decode b_La_law 321 = .ok (.i2l, 1) := by decide +kernel
theorem d_La_law_322 : decode b_La_law 322 = .ok (.ldc2_w 38, 3) := by decide +kernel
theorem d_La_law_325 : decode b_La_law 325 = .ok (.land, 1) := by decide +kernel
theorem d_La_law_326 : decode b_La_law 326 = .ok (.lor, 1) := by decide +kernel
theorem d_La_law_327 : decode b_La_law 327 = .ok (.invokevirtual 48, 3) := by decide +kernel
theorem d_La_law_330 : decode b_La_law 330 = .ok (.if_icmp .eq 548, 3) := by decide +kernel
theorem d_La_law_333 : decode b_La_law 333 = .ok (.iconst 0, 1) := by decide +kernel
theorem d_La_law_334 : decode b_La_law 334 = .ok (.ireturn, 1) := by decide +kernel
theorem d_La_law_335 : decode b_La_law 335 = .ok (.aload_n 1, 1) := by decide +kernel
theorem d_La_law_336 : decode b_La_law 336 = .ok (.aload_n 0, 1) := by decide +kernel
theorem d_La_law_337 : decode b_La_law 337 = .ok (.iload 4, 2) := by decide +kernel
theorem d_La_law_339 : decode b_La_law 339 = .ok (.iconst 1, 1) := by decide +kernel
theorem d_La_law_340 : decode b_La_law 340 = .ok (.iadd, 1) := by decide +kernel
theorem d_La_law_341 : decode b_La_law 341 = .ok (.iaload, 1) := by decide +kernel
theorem d_La_law_342 : decode b_La_law 342 = .ok (.aload_n 0, 1) := by decide +kernel
theorem d_La_law_343 : decode b_La_law 343 = .ok (.iload 4, 2) := by decide +kernel
theorem d_La_law_345 : decode b_La_law 345 = .ok (.iconst 2, 1) := by decide +kernel
theorem d_La_law_346 : decode b_La_law 346 = .ok (.iadd, 1) := by decide +kernel
theorem d_La_law_347 : decode b_La_law 347 = .ok (.iaload, 1) := by decide +kernel
theorem d_La_law_348 : decode b_La_law 348 = .ok (.i2l, 1) := by decide +kernel
theorem d_La_law_349 : decode b_La_law 349 = .ok (.bipush 32, 2) := by decide +kernel
theorem d_La_law_351 : decode b_La_law 351 = .ok (.lshl, 1) := by decide +kernel
theorem d_La_law_352 : decode b_La_law 352 = .ok (.aload_n 0, 1) := by decide +kernel
theorem d_La_law_353 : decode b_La_law 353 = .ok (.iload 4, 2) := by decide +kernel
theorem d_La_law_355 : decode b_La_law 355 = .ok (.iconst 3, 1) := by decide +kernel
theorem d_La_law_356 : decode b_La_law 356 = .ok (.iadd, 1) := by decide +kernel
theorem d_La_law_357 : decode b_La_law 357 = .ok (.iaload, 1) := by decide +kernel
theorem d_La_law_358 : decode b_La_law 358 = .ok (.i2l, 1) := by decide +kernel
theorem d_La_law_359 : decode b_La_law 359 = .ok (.ldc2_w 38, 3) := by decide +kernel
theorem d_La_law_362 : decode b_La_law 362 = .ok (.land, 1) := by decide +kernel
theorem d_La_law_363 : decode b_La_law 363 = .ok (.lor, 1) := by decide +kernel
theorem d_La_law_364 : decode b_La_law 364 = .ok (.invokevirtual 49, 3) := by decide +kernel
theorem d_La_law_367 : decode b_La_law 367 = .ok (.aload_n 2, 1) := by decide +kernel
theorem d_La_law_368 : decode b_La_law 368 = .ok (.aload_n 0, 1) := by decide +kernel
theorem d_La_law_369 : decode b_La_law 369 = .ok (.iload 4, 2) := by decide +kernel
theorem d_La_law_371 : decode b_La_law 371 = .ok (.iconst 1, 1) := by decide +kernel
theorem d_La_law_372 : decode b_La_law 372 = .ok (.iadd, 1) := by decide +kernel
theorem d_La_law_373 : decode b_La_law 373 = .ok (.iaload, 1) := by decide +kernel
theorem d_La_law_374 : decode b_La_law 374 = .ok (.aload_n 0, 1) := by decide +kernel
theorem d_La_law_375 : decode b_La_law 375 = .ok (.iload 4, 2) := by decide +kernel
theorem d_La_law_377 : decode b_La_law 377 = .ok (.iconst 2, 1) := by decide +kernel
theorem d_La_law_378 : decode b_La_law 378 = .ok (.iadd, 1) := by decide +kernel
theorem d_La_law_379 : decode b_La_law 379 = .ok (.iaload, 1) := by decide +kernel
theorem d_La_law_380 : decode b_La_law 380 = .ok (.i2l, 1) := by decide +kernel
theorem d_La_law_381 : decode b_La_law 381 = .ok (.bipush 32, 2) := by decide +kernel
theorem d_La_law_383 : decode b_La_law 383 = .ok (.lshl, 1) := by decide +kernel
theorem d_La_law_384 : decode b_La_law 384 = .ok (.aload_n 0, 1) := by decide +kernel
theorem d_La_law_385 : decode b_La_law 385 = .ok (.iload 4, 2) := by decide +kernel
theorem d_La_law_387 : decode b_La_law 387 = .ok (.iconst 3, 1) := by decide +kernel
theorem d_La_law_388 : decode b_La_law 388 = .ok (.iadd, 1) := by decide +kernel
theorem d_La_law_389 : decode b_La_law 389 = .ok (.iaload, 1) := by decide +kernel
theorem d_La_law_390 : decode b_La_law 390 = .ok (.i2l, 1) := by decide +kernel
theorem d_La_law_391 : decode b_La_law 391 = .ok (.ldc2_w 38, 3) := by decide +kernel
theorem d_La_law_394 : decode b_La_law 394 = .ok (.land, 1) := by decide +kernel
theorem d_La_law_395 : decode b_La_law 395 = .ok (.lor, 1) := by decide +kernel
theorem d_La_law_396 : decode b_La_law 396 = .ok (.invokevirtual 53, 3) := by decide +kernel
theorem d_La_law_399 : decode b_La_law 399 = .ok (.if_icmp .eq 479, 3) := by decide +kernel
theorem d_La_law_402 : decode b_La_law 402 = .ok (.iconst 0, 1) := by decide +kernel
theorem d_La_law_403 : decode b_La_law 403 = .ok (.ireturn, 1) := by decide +kernel
theorem d_La_law_404 : decode b_La_law 404 = .ok (.aload_n 1, 1) := by decide +kernel
theorem d_La_law_405 : decode b_La_law 405 = .ok (.aload_n 0, 1) := by decide +kernel
theorem d_La_law_406 : decode b_La_law 406 = .ok (.iload 4, 2) := by decide +kernel
theorem d_La_law_408 : decode b_La_law 408 = .ok (.iconst 1, 1) := by decide +kernel
theorem d_La_law_409 : decode b_La_law 409 = .ok (.iadd, 1) := by decide +kernel
theorem d_La_law_410 : decode b_La_law 410 = .ok (.iaload, 1) := by decide +kernel
theorem d_La_law_411 : decode b_La_law 411 = .ok (.invokevirtual 54, 3) := by decide +kernel
theorem d_La_law_414 : decode b_La_law 414 = .ok (.aload_n 2, 1) := by decide +kernel
theorem d_La_law_415 : decode b_La_law 415 = .ok (.aload_n 0, 1) := by decide +kernel
theorem d_La_law_416 : decode b_La_law 416 = .ok (.iload 4, 2) := by decide +kernel
theorem d_La_law_418 : decode b_La_law 418 = .ok (.iconst 1, 1) := by decide +kernel
theorem d_La_law_419 : decode b_La_law 419 = .ok (.iadd, 1) := by decide +kernel
theorem d_La_law_420 : decode b_La_law 420 = .ok (.iaload, 1) := by decide +kernel
theorem d_La_law_421 : decode b_La_law 421 = .ok (.invokevirtual 57, 3) := by decide +kernel
theorem d_La_law_424 : decode b_La_law 424 = .ok (.if_icmp .eq 454, 3) := by decide +kernel
theorem d_La_law_427 : decode b_La_law 427 = .ok (.iconst 0, 1) := by decide +kernel
theorem d_La_law_428 : decode b_La_law 428 = .ok (.ireturn, 1) := by decide +kernel
theorem d_La_law_429 : decode b_La_law 429 = .ok (.aload_n 1, 1) := by decide +kernel
theorem d_La_law_430 : decode b_La_law 430 = .ok (.aload_n 0, 1) := by decide +kernel
theorem d_La_law_431 : decode b_La_law 431 = .ok (.iload 4, 2) := by decide +kernel
theorem d_La_law_433 : decode b_La_law 433 = .ok (.iconst 1, 1) := by decide +kernel
theorem d_La_law_434 : decode b_La_law 434 = .ok (.iadd, 1) := by decide +kernel
theorem d_La_law_435 : decode b_La_law 435 = .ok (.iaload, 1) := by decide +kernel
theorem d_La_law_436 : decode b_La_law 436 = .ok (.aload_n 0, 1) := by decide +kernel
theorem d_La_law_437 : decode b_La_law 437 = .ok (.iload 4, 2) := by decide +kernel
theorem d_La_law_439 : decode b_La_law 439 = .ok (.iconst 2, 1) := by decide +kernel
theorem d_La_law_440 : decode b_La_law 440 = .ok (.iadd, 1) := by decide +kernel
theorem d_La_law_441 : decode b_La_law 441 = .ok (.iaload, 1) := by decide +kernel
theorem d_La_law_442 : decode b_La_law 442 = .ok (.invokevirtual 58, 3) := by decide +kernel
end
section
theorem d_La_law_445 : decode b_La_law 445 = .ok (.aload_n 2, 1) := by decide +kernel
theorem d_La_law_446 : decode b_La_law 446 = .ok (.aload_n 0, 1) := by decide +kernel
theorem d_La_law_447 : decode b_La_law 447 = .ok (.iload 4, 2) := by decide +kernel
theorem d_La_law_449 : decode b_La_law 449 = .ok (.iconst 1, 1) := by decide +kernel
theorem d_La_law_450 : decode b_La_law 450 = .ok (.iadd, 1) := by decide +kernel
theorem d_La_law_451 : decode b_La_law 451 = .ok (.iaload, 1) := by decide +kernel
theorem d_La_law_452 : decode b_La_law 452 = .ok (.aload_n 0, 1) := by decide +kernel
theorem d_La_law_453 : decode b_La_law 453 = .ok (.iload 4, 2) := by decide +kernel
theorem d_La_law_455 : decode b_La_law 455 = .ok (.iconst 2, 1) := by decide +kernel
theorem d_La_law_456 : decode b_La_law 456 = .ok (.iadd, 1) := by decide +kernel
theorem d_La_law_457 : decode b_La_law 457 = .ok (.iaload, 1) := by decide +kernel
theorem d_La_law_458 : decode b_La_law 458 = .ok (.invokevirtual 62, 3) := by decide +kernel
theorem d_La_law_461 : decode b_La_law 461 = .ok (.if_icmp .eq 417, 3) := by decide +kernel
theorem d_La_law_464 : decode b_La_law 464 = .ok (.iconst 0, 1) := by decide +kernel
theorem d_La_law_465 : decode b_La_law 465 = .ok (.ireturn, 1) := by decide +kernel
theorem d_La_law_466 : decode b_La_law 466 = .ok (.aload_n 1, 1) := by decide +kernel
theorem d_La_law_467 : decode b_La_law 467 = .ok (.aload_n 0, 1) := by decide +kernel
theorem d_La_law_468 : decode b_La_law 468 = .ok (.iload 4, 2) := by decide +kernel
theorem d_La_law_470 : decode b_La_law 470 = .ok (.iconst 1, 1) := by decide +kernel
theorem d_La_law_471 : decode b_La_law 471 = .ok (.iadd, 1) := by decide +kernel
theorem d_La_law_472 : decode b_La_law 472 = .ok (.iaload, 1) := by decide +kernel
theorem d_La_law_473 : decode b_La_law 473 = .ok (.invokevirtual 63, 3) := by decide +kernel
theorem d_La_law_476 : decode b_La_law 476 = .ok (.aload_n 2, 1) := by decide +kernel
theorem d_La_law_477 : decode b_La_law 477 = .ok (.aload_n 0, 1) := by decide +kernel
theorem d_La_law_478 : decode b_La_law 478 = .ok (.iload 4, 2) := by decide +kernel
theorem d_La_law_480 : decode b_La_law 480 = .ok (.iconst 1, 1) := by decide +kernel
theorem d_La_law_481 : decode b_La_law 481 = .ok (.iadd, 1) := by decide +kernel
theorem d_La_law_482 : decode b_La_law 482 = .ok (.iaload, 1) := by decide +kernel
theorem d_La_law_483 : decode b_La_law 483 = .ok (.invokevirtual 66, 3) := by decide +kernel
theorem d_La_law_486 : decode b_La_law 486 = .ok (.if_icmp .eq 392, 3) := by decide +kernel
theorem d_La_law_489 : decode b_La_law 489 = .ok (.iconst 0, 1) := by decide +kernel
theorem d_La_law_490 : decode b_La_law 490 = .ok (.ireturn, 1) := by decide +kernel
theorem d_La_law_491 : decode b_La_law 491 = .ok (.aload_n 1, 1) := by decide +kernel
theorem d_La_law_492 : decode b_La_law 492 = .ok (.aload_n 0, 1) := by decide +kernel
theorem d_La_law_493 : decode b_La_law 493 = .ok (.iload 4, 2) := by decide +kernel
theorem d_La_law_495 : decode b_La_law 495 = .ok (.iconst 1, 1) := by decide +kernel
theorem d_La_law_496 : decode b_La_law 496 = .ok (.iadd, 1) := by decide +kernel
theorem d_La_law_497 : decode b_La_law 497 = .ok (.iaload, 1) := by decide +kernel
theorem d_La_law_498 : decode b_La_law 498 = .ok (.invokevirtual 67, 3) := by decide +kernel
theorem d_La_law_501 : decode b_La_law 501 = .ok (.aload_n 2, 1) := by decide +kernel
theorem d_La_law_502 : decode b_La_law 502 = .ok (.aload_n 0, 1) := by decide +kernel
theorem d_La_law_503 : decode b_La_law 503 = .ok (.iload 4, 2) := by decide +kernel
theorem d_La_law_505 : decode b_La_law 505 = .ok (.iconst 1, 1) := by decide +kernel
theorem d_La_law_506 : decode b_La_law 506 = .ok (.iadd, 1) := by decide +kernel
theorem d_La_law_507 : decode b_La_law 507 = .ok (.iaload, 1) := by decide +kernel
theorem d_La_law_508 : decode b_La_law 508 = .ok (.invokevirtual 71, 3) := by decide +kernel
theorem d_La_law_511 : decode b_La_law 511 = .ok (.lcmp, 1) := by decide +kernel
theorem d_La_law_512 : decode b_La_law 512 = .ok (.ifCond .eq 366, 3) := by decide +kernel
theorem d_La_law_515 : decode b_La_law 515 = .ok (.iconst 0, 1) := by decide +kernel
theorem d_La_law_516 : decode b_La_law 516 = .ok (.ireturn, 1) := by decide +kernel
theorem d_La_law_517 : decode b_La_law 517 = .ok (.aload_n 1, 1) := by decide +kernel
theorem d_La_law_518 : decode b_La_law 518 = .ok (.aload_n 0, 1) := by decide +kernel
theorem d_La_law_519 : decode b_La_law 519 = .ok (.iload 4, 2) := by decide +kernel
theorem d_La_law_521 : decode b_La_law 521 = .ok (.iconst 1, 1) := by decide +kernel
theorem d_La_law_522 : decode b_La_law 522 = .ok (.iadd, 1) := by decide +kernel
theorem d_La_law_523 : decode b_La_law 523 = .ok (.iaload, 1) := by decide +kernel
theorem d_La_law_524 : decode b_La_law 524 = .ok (.invokevirtual 72, 3) := by decide +kernel
theorem d_La_law_527 : decode b_La_law 527 = .ok (.aload_n 2, 1) := by decide +kernel
theorem d_La_law_528 : decode b_La_law 528 = .ok (.aload_n 0, 1) := by decide +kernel
theorem d_La_law_529 : decode b_La_law 529 = .ok (.iload 4, 2) := by decide +kernel
theorem d_La_law_531 : decode b_La_law 531 = .ok (.iconst 1, 1) := by decide +kernel
theorem d_La_law_532 : decode b_La_law 532 = .ok (.iadd, 1) := by decide +kernel
theorem d_La_law_533 : decode b_La_law 533 = .ok (.iaload, 1) := by decide +kernel
theorem d_La_law_534 : decode b_La_law 534 = .ok (.invokevirtual 75, 3) := by decide +kernel
theorem d_La_law_537 : decode b_La_law 537 = .ok (.if_icmp .eq 341, 3) := by decide +kernel
theorem d_La_law_540 : decode b_La_law 540 = .ok (.iconst 0, 1) := by decide +kernel
theorem d_La_law_541 : decode b_La_law 541 = .ok (.ireturn, 1) := by decide +kernel
theorem d_La_law_542 : decode b_La_law 542 = .ok (.aload_n 1, 1) := by decide +kernel
theorem d_La_law_543 : decode b_La_law 543 = .ok (.aload_n 0, 1) := by decide +kernel
theorem d_La_law_544 : decode b_La_law 544 = .ok (.iload 4, 2) := by decide +kernel
theorem d_La_law_546 : decode b_La_law 546 = .ok (.iconst 1, 1) := by decide +kernel
theorem d_La_law_547 : decode b_La_law 547 = .ok (.iadd, 1) := by decide +kernel
theorem d_La_law_548 : decode b_La_law 548 = .ok (.iaload, 1) := by decide +kernel
theorem d_La_law_549 : decode b_La_law 549 = .ok (.aload_n 0, 1) := by decide +kernel
theorem d_La_law_550 : decode b_La_law 550 = .ok (.iload 4, 2) := by decide +kernel
theorem d_La_law_552 : decode b_La_law 552 = .ok (.iconst 2, 1) := by decide +kernel
theorem d_La_law_553 : decode b_La_law 553 = .ok (.iadd, 1) := by decide +kernel
theorem d_La_law_554 : decode b_La_law 554 = .ok (.iaload, 1) := by decide +kernel
theorem d_La_law_555 : decode b_La_law 555 = .ok (.invokevirtual 76, 3) := by decide +kernel
theorem d_La_law_558 : decode b_La_law 558 = .ok (.aload_n 2, 1) := by decide +kernel
theorem d_La_law_559 : decode b_La_law 559 = .ok (.aload_n 0, 1) := by decide +kernel
theorem d_La_law_560 : decode b_La_law 560 = .ok (.iload 4, 2) := by decide +kernel
theorem d_La_law_562 : decode b_La_law 562 = .ok (.iconst 1, 1) := by decide +kernel
theorem d_La_law_563 : decode b_La_law 563 = .ok (.iadd, 1) := by decide +kernel
theorem d_La_law_564 : decode b_La_law 564 = .ok (.iaload, 1) := by decide +kernel
theorem d_La_law_565 : decode b_La_law 565 = .ok (.aload_n 0, 1) := by decide +kernel
theorem d_La_law_566 : decode b_La_law 566 = .ok (.iload 4, 2) := by decide +kernel
theorem d_La_law_568 : decode b_La_law 568 = .ok (.iconst 2, 1) := by decide +kernel
theorem d_La_law_569 : decode b_La_law 569 = .ok (.iadd, 1) := by decide +kernel
theorem d_La_law_570 : decode b_La_law 570 = .ok (.iaload, 1) := by decide +kernel
theorem d_La_law_571 : decode b_La_law 571 = .ok (.invokevirtual 79, 3) := by decide +kernel
theorem d_La_law_574 : decode b_La_law 574 = .ok (.if_icmp .eq 304, 3) := by decide +kernel
theorem d_La_law_577 : decode b_La_law 577 = .ok (.iconst 0, 1) := by decide +kernel
theorem d_La_law_578 : decode b_La_law 578 = .ok (.ireturn, 1) := by decide +kernel
theorem d_La_law_579 : decode b_La_law 579 = .ok (.aload_n 1, 1) := by decide +kernel
theorem d_La_law_580 : decode b_La_law 580 = .ok (.aload_n 0, 1) := by decide +kernel
theorem d_La_law_581 : decode b_La_law 581 = .ok (.iload 4, 2) := by decide +kernel
theorem d_La_law_583 : decode b_La_law 583 = .ok (.iconst 1, 1) := by decide +kernel
theorem d_La_law_584 : decode b_La_law 584 = .ok (.iadd, 1) := by decide +kernel
theorem d_La_law_585 : decode b_La_law 585 = .ok (.iaload, 1) := by decide +kernel
theorem d_La_law_586 : decode b_La_law 586 = .ok (.invokevirtual 80, 3) := by decide +kernel
theorem d_La_law_589 : decode b_La_law 589 = .ok (.aload_n 2, 1) := by decide +kernel
theorem d_La_law_590 : decode b_La_law 590 = .ok (.aload_n 0, 1) := by decide +kernel
theorem d_La_law_591 : decode b_La_law 591 = .ok (.iload 4, 2) := by decide +kernel
theorem d_La_law_593 : decode b_La_law 593 = .ok (.iconst 1, 1) := by decide +kernel
theorem d_La_law_594 : decode b_La_law 594 = .ok (.iadd, 1) := by decide +kernel
theorem d_La_law_595 : decode b_La_law 595 = .ok (.iaload, 1) := by decide +kernel
theorem d_La_law_596 : decode b_La_law 596 = .ok (.invokevirtual 82, 3) := by decide +kernel
theorem d_La_law_599 : decode b_La_law 599 = .ok (.lcmp, 1) := by decide +kernel
theorem d_La_law_600 : decode b_La_law 600 = .ok (.ifCond .eq 278, 3) := by decide +kernel
theorem d_La_law_603 : decode b_La_law 603 = .ok (.iconst 0, 1) := by decide +kernel
theorem d_La_law_604 : decode b_La_law 604 = .ok (.ireturn, 1) := by decide +kernel
theorem d_La_law_605 : decode b_La_law 605 = .ok (.aload_n 1, 1) := by decide +kernel
theorem d_La_law_606 : decode b_La_law 606 = .ok (.aload_n 0, 1) := by decide +kernel
theorem d_La_law_607 : decode b_La_law 607 = .ok (.iload 4, 2) := by decide +kernel
theorem d_La_law_609 : decode b_La_law 609 = .ok (.iconst 1, 1) := by decide +kernel
theorem d_La_law_610 : decode b_La_law 610 = .ok (.iadd, 1) := by decide +kernel
theorem d_La_law_611 : decode b_La_law 611 = .ok (.iaload, 1) := by decide +kernel
theorem d_La_law_612 : decode b_La_law 612 = .ok (.aload_n 0, 1) := by decide +kernel
theorem d_La_law_613 : decode b_La_law 613 = .ok (.iload 4, 2) := by decide +kernel
theorem d_La_law_615 : decode b_La_law 615 = .ok (.iconst 2, 1) := by decide +kernel
theorem d_La_law_616 : decode b_La_law 616 = .ok (.iadd, 1) := by decide +kernel
theorem d_La_law_617 : decode b_La_law 617 = .ok (.iaload, 1) := by decide +kernel
theorem d_La_law_618 : decode b_La_law 618 = .ok (.invokevirtual 83, 3) := by decide +kernel
theorem d_La_law_621 : decode b_La_law 621 = .ok (.aload_n 2, 1) := by decide +kernel
theorem d_La_law_622 : decode b_La_law 622 = .ok (.aload_n 0, 1) := by decide +kernel
theorem d_La_law_623 : decode b_La_law 623 = .ok (.iload 4, 2) := by decide +kernel
theorem d_La_law_625 : decode b_La_law 625 = .ok (.iconst 1, 1) := by decide +kernel
theorem d_La_law_626 : decode b_La_law 626 = .ok (.iadd, 1) := by decide +kernel
theorem d_La_law_627 : decode b_La_law 627 = .ok (.iaload, 1) := by decide +kernel
theorem d_La_law_628 : decode b_La_law 628 = .ok (.aload_n 0, 1) := by decide +kernel
theorem d_La_law_629 : decode b_La_law 629 = .ok (.iload 4, 2) := by decide +kernel
theorem d_La_law_631 : decode b_La_law 631 = .ok (.iconst 2, 1) := by decide +kernel
theorem d_La_law_632 : decode b_La_law 632 = .ok (.iadd, 1) := by decide +kernel
theorem d_La_law_633 : decode b_La_law 633 = .ok (.iaload, 1) := by decide +kernel
theorem d_La_law_634 : decode b_La_law 634 = .ok (.invokevirtual 86, 3) := by decide +kernel
theorem d_La_law_637 : decode b_La_law 637 = .ok (.if_icmp .eq 241, 3) := by decide +kernel
theorem d_La_law_640 : decode b_La_law 640 = .ok (.iconst 0, 1) := by decide +kernel
theorem d_La_law_641 : decode b_La_law 641 = .ok (.ireturn, 1) := by decide +kernel
theorem d_La_law_642 : decode b_La_law 642 = .ok (.aload_n 1, 1) := by decide +kernel
theorem d_La_law_643 : decode b_La_law 643 = .ok (.aload_n 0, 1) := by decide +kernel
theorem d_La_law_644 : decode b_La_law 644 = .ok (.iload 4, 2) := by decide +kernel
theorem d_La_law_646 : decode b_La_law 646 = .ok (.iconst 1, 1) := by decide +kernel
theorem d_La_law_647 : decode b_La_law 647 = .ok (.iadd, 1) := by decide +kernel
theorem d_La_law_648 : decode b_La_law 648 = .ok (.iaload, 1) := by decide +kernel
theorem d_La_law_649 : decode b_La_law 649 = .ok (.aload_n 0, 1) := by decide +kernel
theorem d_La_law_650 : decode b_La_law 650 = .ok (.iload 4, 2) := by decide +kernel
theorem d_La_law_652 : decode b_La_law 652 = .ok (.iconst 2, 1) := by decide +kernel
theorem d_La_law_653 : decode b_La_law 653 = .ok (.iadd, 1) := by decide +kernel
theorem d_La_law_654 : decode b_La_law 654 = .ok (.iaload, 1) := by decide +kernel
theorem d_La_law_655 : decode b_La_law 655 = .ok (.invokevirtual 87, 3) := by decide +kernel
theorem d_La_law_658 : decode b_La_law 658 = .ok (.aload_n 2, 1) := by decide +kernel
theorem d_La_law_659 : decode b_La_law 659 = .ok (.aload_n 0, 1) := by decide +kernel
theorem d_La_law_660 : decode b_La_law 660 = .ok (.iload 4, 2) := by decide +kernel
theorem d_La_law_662 : decode b_La_law 662 = .ok (.iconst 1, 1) := by decide +kernel
theorem d_La_law_663 : decode b_La_law 663 = .ok (.iadd, 1) := by decide +kernel
theorem d_La_law_664 : decode b_La_law 664 = .ok (.iaload, 1) := by decide +kernel
theorem d_La_law_665 : decode b_La_law 665 = .ok (.aload_n 0, 1) := by decide +kernel
theorem d_La_law_666 : decode b_La_law 666 = .ok (.iload 4, 2) := by decide +kernel
theorem d_La_law_668 : decode b_La_law 668 = .ok (.iconst 2, 1) := by decide +kernel
theorem d_La_law_669 : decode b_La_law 669 = .ok (.iadd, 1) := by decide +kernel
theorem d_La_law_670 : decode b_La_law 670 = .ok (.iaload, 1) := by decide +kernel
theorem d_La_law_671 : decode b_La_law 671 = .ok (.invokevirtual 91, 3) := by decide +kernel
theorem d_La_law_674 : decode b_La_law 674 = .ok (.if_icmp .eq 204, 3) := by decide +kernel
theorem d_La_law_677 : decode b_La_law 677 = .ok (.iconst 0, 1) := by decide +kernel
theorem d_La_law_678 : decode b_La_law 678 = .ok (.ireturn, 1) := by decide +kernel
theorem d_La_law_679 : decode b_La_law 679 = .ok (.aload_n 1, 1) := by decide +kernel
theorem d_La_law_680 : decode b_La_law 680 = .ok (.aload_n 0, 1) := by decide +kernel
theorem d_La_law_681 : decode b_La_law 681 = .ok (.iload 4, 2) := by decide +kernel
theorem d_La_law_683 : decode b_La_law 683 = .ok (.iconst 1, 1) := by decide +kernel
theorem d_La_law_684 : decode b_La_law 684 = .ok (.iadd, 1) := by decide +kernel
theorem d_La_law_685 : decode b_La_law 685 = .ok (.iaload, 1) := by decide +kernel
theorem d_La_law_686 : decode b_La_law 686 = .ok (.aload_n 0, 1) := by decide +kernel
theorem d_La_law_687 : decode b_La_law 687 = .ok (.iload 4, 2) := by decide +kernel
theorem d_La_law_689 : decode b_La_law 689 = .ok (.iconst 2, 1) := by decide +kernel
theorem d_La_law_690 : decode b_La_law 690 = .ok (.iadd, 1) := by decide +kernel
theorem d_La_law_691 : decode b_La_law 691 = .ok (.iaload, 1) := by decide +kernel
theorem d_La_law_692 : decode b_La_law 692 = .ok (.i2l, 1) := by decide +kernel
theorem d_La_law_693 : decode b_La_law 693 = .ok (.bipush 32, 2) := by decide +kernel
theorem d_La_law_695 : decode b_La_law 695 = .ok (.lshl, 1) := by decide +kernel
theorem d_La_law_696 : decode b_La_law 696 = .ok (.aload_n 0, 1) := by decide +kernel
theorem d_La_law_697 : decode b_La_law 697 = .ok (.iload 4, 2) := by decide +kernel
theorem d_La_law_699 : decode b_La_law 699 = .ok (.iconst 3, 1) := by decide +kernel
theorem d_La_law_700 : decode b_La_law 700 = .ok (.iadd, 1) := by decide +kernel
theorem d_La_law_701 : decode b_La_law 701 = .ok (.iaload, 1) := by decide +kernel
theorem d_La_law_702 : decode b_La_law 702 = .ok (.i2l, 1) := by decide +kernel
theorem d_La_law_703 : decode b_La_law 703 = .ok (.ldc2_w 38, 3) := by decide +kernel
theorem d_La_law_706 : decode b_La_law 706 = .ok (.land, 1) := by decide +kernel
theorem d_La_law_707 : decode b_La_law 707 = .ok (.lor, 1) := by decide +kernel
theorem d_La_law_708 : decode b_La_law 708 = .ok (.aload_n 0, 1) := by decide +kernel
theorem d_La_law_709 : decode b_La_law 709 = .ok (.iload 4, 2) := by decide +kernel
theorem d_La_law_711 : decode b_La_law 711 = .ok (.iconst 4, 1) := by decide +kernel
theorem d_La_law_712 : decode b_La_law 712 = .ok (.iadd, 1) := by decide +kernel
theorem d_La_law_713 : decode b_La_law 713 = .ok (.iaload, 1) := by decide +kernel
theorem d_La_law_714 : decode b_La_law 714 = .ok (.i2l, 1) := by decide +kernel
theorem d_La_law_715 : decode b_La_law 715 = .ok (.bipush 32, 2) := by decide +kernel
theorem d_La_law_717 : decode b_La_law 717 = .ok (.lshl, 1) := by decide +kernel
theorem d_La_law_718 : decode b_La_law 718 = .ok (.aload_n 0, 1) := by decide +kernel
theorem d_La_law_719 : decode b_La_law 719 = .ok (.iload 4, 2) := by decide +kernel
theorem d_La_law_721 : decode b_La_law 721 = .ok (.iconst 5, 1) := by decide +kernel
theorem d_La_law_722 : decode b_La_law 722 = .ok (.iadd, 1) := by decide +kernel
theorem d_La_law_723 : decode b_La_law 723 = .ok (.iaload, 1) := by decide +kernel
theorem d_La_law_724 : decode b_La_law 724 = .ok (.i2l, 1) := by decide +kernel
theorem d_La_law_725 : decode b_La_law 725 = .ok (.ldc2_w 38, 3) := by decide +kernel
theorem d_La_law_728 : decode b_La_law 728 = .ok (.land, 1) := by decide +kernel
theorem d_La_law_729 : decode b_La_law 729 = .ok (.lor, 1) := by decide +kernel
theorem d_La_law_730 : decode b_La_law 730 = .ok (.aload_n 3, 1) := by decide +kernel
theorem d_La_law_731 : decode b_La_law 731 = .ok (.invokestatic 92, 3) := by decide +kernel
theorem d_La_law_734 : decode b_La_law 734 = .ok (.istore 5, 2) := by decide +kernel
theorem d_La_law_736 : decode b_La_law 736 = .ok (.aload_n 2, 1) := by decide +kernel
theorem d_La_law_737 : decode b_La_law 737 = .ok (.aload_n 0, 1) := by decide +kernel
theorem d_La_law_738 : decode b_La_law 738 = .ok (.iload 4, 2) := by decide +kernel
theorem d_La_law_740 : decode b_La_law 740 = .ok (.iconst 1, 1) := by decide +kernel
theorem d_La_law_741 : decode b_La_law 741 = .ok (.iadd, 1) := by decide +kernel
theorem d_La_law_742 : decode b_La_law 742 = .ok (.iaload, 1) := by decide +kernel
theorem d_La_law_743 : decode b_La_law 743 = .ok (.aload_n 0, 1) := by decide +kernel
theorem d_La_law_744 : decode b_La_law 744 = .ok (.iload 4, 2) := by decide +kernel
theorem d_La_law_746 : decode b_La_law 746 = .ok (.iconst 2, 1) := by decide +kernel
theorem d_La_law_747 : decode b_La_law 747 = .ok (.iadd, 1) := by decide +kernel
theorem d_La_law_748 : decode b_La_law 748 = .ok (.iaload, 1) := by decide +kernel
theorem d_La_law_749 : decode b_La_law 749 = .ok (.i2l, 1) := by decide +kernel
theorem d_La_law_750 : decode b_La_law 750 = .ok (.bipush 32, 2) := by decide +kernel
theorem d_La_law_752 : decode b_La_law 752 = .ok (.lshl, 1) := by decide +kernel
theorem d_La_law_753 : decode b_La_law 753 = .ok (.aload_n 0, 1) := by decide +kernel
theorem d_La_law_754 : decode b_La_law 754 = .ok (.iload 4, 2) := by decide +kernel
theorem d_La_law_756 : decode b_La_law 756 = .ok (.iconst 3, 1) := by decide +kernel
theorem d_La_law_757 : decode b_La_law 757 = .ok (.iadd, 1) := by decide +kernel
theorem d_La_law_758 : decode b_La_law 758 = .ok (.iaload, 1) := by decide +kernel
theorem d_La_law_759 : decode b_La_law 759 = .ok (.i2l, 1) := by decide +kernel
theorem d_La_law_760 : decode b_La_law 760 = .ok (.ldc2_w 38, 3) := by decide +kernel
theorem d_La_law_763 : decode b_La_law 763 = .ok (.land, 1) := by decide +kernel
theorem d_La_law_764 : decode b_La_law 764 = .ok (.lor, 1) := by decide +kernel
theorem d_La_law_765 : decode b_La_law 765 = .ok (.aload_n 0, 1) := by decide +kernel
theorem d_La_law_766 : decode b_La_law 766 = .ok (.iload 4, 2) := by decide +kernel
theorem d_La_law_768 : decode b_La_law 768 = .ok (.iconst 4, 1) := by decide +kernel
theorem d_La_law_769 : decode b_La_law 769 = .ok (.iadd, 1) := by decide +kernel
theorem d_La_law_770 : decode b_La_law 770 = .ok (.iaload, 1) := by decide +kernel
theorem d_La_law_771 : decode b_La_law 771 = .ok (.i2l, 1) := by decide +kernel
theorem d_La_law_772 : decode b_La_law 772 = .ok (.bipush 32, 2) := by decide +kernel
theorem d_La_law_774 : decode b_La_law 774 = .ok (.lshl, 1) := by decide +kernel
theorem d_La_law_775 : decode b_La_law 775 = .ok (.aload_n 0, 1) := by decide +kernel
theorem d_La_law_776 : decode b_La_law 776 = .ok (.iload 4, 2) := by decide +kernel
theorem d_La_law_778 : decode b_La_law 778 = .ok (.iconst 5, 1) := by decide +kernel
theorem d_La_law_779 : decode b_La_law 779 = .ok (.iadd, 1) := by decide +kernel
theorem d_La_law_780 : decode b_La_law 780 = .ok (.iaload, 1) := by decide +kernel
theorem d_La_law_781 : decode b_La_law 781 = .ok (.i2l, 1) := by decide +kernel
theorem d_La_law_782 : decode b_La_law 782 = .ok (.ldc2_w 38, 3) := by decide +kernel
theorem d_La_law_785 : decode b_La_law 785 = .ok (.land, 1) := by decide +kernel
theorem d_La_law_786 : decode b_La_law 786 = .ok (.lor, 1) := by decide +kernel
theorem d_La_law_787 : decode b_La_law 787 = .ok (.invokevirtual 95, 3) := by decide +kernel
theorem d_La_law_790 : decode b_La_law 790 = .ok (.lstore 6, 2) := by decide +kernel
theorem d_La_law_792 : decode b_La_law 792 = .ok (.aload_n 2, 1) := by decide +kernel
theorem d_La_law_793 : decode b_La_law 793 = .ok (.invokevirtual 96, 3) := by decide +kernel
theorem d_La_law_796 : decode b_La_law 796 = .ok (.iload 5, 2) := by decide +kernel
theorem d_La_law_798 : decode b_La_law 798 = .ok (.if_icmp .eq 5, 3) := by decide +kernel
theorem d_La_law_801 : decode b_La_law 801 = .ok (.iconst 0, 1) := by decide +kernel
theorem d_La_law_802 : decode b_La_law 802 = .ok (.ireturn, 1) := by decide +kernel
theorem d_La_law_803 : decode b_La_law 803 = .ok (.iload 5, 2) := by decide +kernel
theorem d_La_law_805 : decode b_La_law 805 = .ok (.ifCond .ne 14, 3) := by decide +kernel
theorem d_La_law_808 : decode b_La_law 808 = .ok (.aload_n 3, 1) := by decide +kernel
theorem d_La_law_809 : decode b_La_law 809 = .ok (.iconst 0, 1) := by decide +kernel
theorem d_La_law_810 : decode b_La_law 810 = .ok (.laload, 1) := by decide +kernel
theorem d_La_law_811 : decode b_La_law 811 = .ok (.lload 6, 2) := by decide +kernel
theorem d_La_law_813 : decode b_La_law 813 = .ok (.lcmp, 1) := by decide +kernel
theorem d_La_law_814 : decode b_La_law 814 = .ok (.ifCond .eq 5, 3) := by decide +kernel
theorem d_La_law_817 : decode b_La_law 817 = .ok (.iconst 0, 1) := by decide +kernel
theorem d_La_law_818 : decode b_La_law 818 = .ok (.ireturn, 1) := by decide +kernel
theorem d_La_law_819 : decode b_La_law 819 = .ok (.goto 59, 3) := by decide +kernel
theorem d_La_law_822 : decode b_La_law 822 = .ok (.aload_n 1, 1) := by decide +kernel
theorem d_La_law_823 : decode b_La_law 823 = .ok (.aload_n 0, 1) := by decide +kernel
theorem d_La_law_824 : decode b_La_law 824 = .ok (.iload 4, 2) := by decide +kernel
theorem d_La_law_826 : decode b_La_law 826 = .ok (.iconst 1, 1) := by decide +kernel
theorem d_La_law_827 : decode b_La_law 827 = .ok (.iadd, 1) := by decide +kernel
theorem d_La_law_828 : decode b_La_law 828 = .ok (.iaload, 1) := by decide +kernel
theorem d_La_law_829 : decode b_La_law 829 = .ok (.aload_n 3, 1) := by decide +kernel
theorem d_La_law_830 : decode b_La_law 830 = .ok (.invokestatic 100, 3) := by decide +kernel
theorem d_La_law_833 : decode b_La_law 833 = .ok (.istore 5, 2) := by decide +kernel
theorem d_La_law_835 : decode b_La_law 835 = .ok (.aload_n 2, 1) := by decide +kernel
theorem d_La_law_836 : decode b_La_law 836 = .ok (.aload_n 0, 1) := by decide +kernel
theorem d_La_law_837 : decode b_La_law 837 = .ok (.iload 4, 2) := by decide +kernel
theorem d_La_law_839 : decode b_La_law 839 = .ok (.iconst 1, 1) := by decide +kernel
theorem d_La_law_840 : decode b_La_law 840 = .ok (.iadd, 1) := by decide +kernel
theorem d_La_law_841 : decode b_La_law 841 = .ok (.iaload, 1) := by decide +kernel
theorem d_La_law_842 : decode b_La_law 842 = .ok (.invokevirtual 103, 3) := by decide +kernel
theorem d_La_law_845 : decode b_La_law 845 = .ok (.istore 6, 2) := by decide +kernel
theorem d_La_law_847 : decode b_La_law 847 = .ok (.aload_n 2, 1) := by decide +kernel
theorem d_La_law_848 : decode b_La_law 848 = .ok (.invokevirtual 96, 3) := by decide +kernel
theorem d_La_law_851 : decode b_La_law 851 = .ok (.iload 5, 2) := by decide +kernel
theorem d_La_law_853 : decode b_La_law 853 = .ok (.if_icmp .eq 5, 3) := by decide +kernel
theorem d_La_law_856 : decode b_La_law 856 = .ok (.iconst 0, 1) := by decide +kernel
theorem d_La_law_857 : decode b_La_law 857 = .ok (.ireturn, 1) := by decide +kernel
theorem d_La_law_858 : decode b_La_law 858 = .ok (.iload 5, 2) := by decide +kernel
theorem d_La_law_860 : decode b_La_law 860 = .ok (.ifCond .ne 15, 3) := by decide +kernel
theorem d_La_law_863 : decode b_La_law 863 = .ok (.aload_n 3, 1) := by decide +kernel
theorem d_La_law_864 : decode b_La_law 864 = .ok (.iconst 0, 1) := by decide +kernel
theorem d_La_law_865 : decode b_La_law 865 = .ok (.laload, 1) := by decide +kernel
theorem d_La_law_866 : decode b_La_law 866 = .ok (.iload 6, 2) := by decide +kernel
theorem d_La_law_868 : decode b_La_law 868 = .ok (.i2l, 1) := by decide +kernel
theorem d_La_law_869 : decode b_La_law 869 = .ok (.lcmp, 1) := by decide +kernel
theorem d_La_law_870 : decode b_La_law 870 = .ok (.ifCond .eq 5, 3) := by decide +kernel
theorem d_La_law_873 : decode b_La_law 873 = .ok (.iconst 0, 1) := by decide +kernel
theorem d_La_law_874 : decode b_La_law 874 = .ok (.ireturn, 1) := by decide +kernel
theorem d_La_law_875 : decode b_La_law 875 = .ok (.goto 3, 3) := by decide +kernel
theorem d_La_law_878 : decode b_La_law 878 = .ok (.iinc 4 6, 3) := by decide +kernel
theorem d_La_law_881 : decode b_La_law 881 = .ok (.goto (-848), 3) := by decide +kernel
theorem d_La_law_884 : decode b_La_law 884 = .ok (.iconst 1, 1) := by decide +kernel
theorem d_La_law_885 : decode b_La_law 885 = .ok (.ireturn, 1) := by decide +kernel
end
section
theorem kw_51 : (.methodLink R_An 3 objectInit : Cond) ∈ GW := gw_of 51 (by decide +kernel) rfl
theorem kw_52 : (.fieldLink R_An 9 "HandlingRules$Answers" "values" "[J" : Cond) ∈ GW := gw_of 52 (by decide +kernel) rfl
theorem kw_53 : (.fieldLink R_An 15 "HandlingRules$Answers" "givers" "[I" : Cond) ∈ GW := gw_of 53 (by decide +kernel) rfl
theorem kw_353 : (.constantLong R_An 19 3 : Cond) ∈ GW := gw_of 353 (by decide +kernel) rfl
theorem kw_179 : (.static y_Hr_isWithin : Cond) ∈ GW := gw_of 179 (by decide +kernel) rfl
theorem kw_15 : (.initialized R_Hr : Cond) ∈ GW := gw_of 15 (by decide +kernel) rfl
theorem kw_180 : (.code y_Hr_isWithin b_Hr_isWithin 6 (some .boolean) : Cond) ∈ GW := gw_of 180 (by decide +kernel) rfl
theorem kw_398 : (.methodLink R_An 25 y_An_isGiven : Cond) ∈ GW := gw_of 398 (by decide +kernel) rfl
theorem kw_399 : (.instanceMethod y_An_isGiven : Cond) ∈ GW := gw_of 399 (by decide +kernel) rfl
theorem kw_400 : (.selects R_An y_An_isGiven y_An_isGiven : Cond) ∈ GW := gw_of 400 (by decide +kernel) rfl
theorem kw_17 : (.initialized R_An : Cond) ∈ GW := gw_of 17 (by decide +kernel) rfl
theorem kw_401 : (.code y_An_isGiven b_An_isGiven 2 (some .boolean) : Cond) ∈ GW := gw_of 401 (by decide +kernel) rfl
theorem kw_406 : (.methodLink R_An 29 y_An_valueOf : Cond) ∈ GW := gw_of 406 (by decide +kernel) rfl
theorem kw_407 : (.instanceMethod y_An_valueOf : Cond) ∈ GW := gw_of 407 (by decide +kernel) rfl
theorem kw_408 : (.selects R_An y_An_valueOf y_An_valueOf : Cond) ∈ GW := gw_of 408 (by decide +kernel) rfl
theorem kw_409 : (.code y_An_valueOf b_An_valueOf 2 (some .long) : Cond) ∈ GW := gw_of 409 (by decide +kernel) rfl
theorem kw_402 : (.methodLink R_An 33 y_An_giverOf : Cond) ∈ GW := gw_of 402 (by decide +kernel) rfl
theorem kw_403 : (.instanceMethod y_An_giverOf : Cond) ∈ GW := gw_of 403 (by decide +kernel) rfl
theorem kw_404 : (.selects R_An y_An_giverOf y_An_giverOf : Cond) ∈ GW := gw_of 404 (by decide +kernel) rfl
theorem kw_405 : (.code y_An_giverOf b_An_giverOf 2 (some .int) : Cond) ∈ GW := gw_of 405 (by decide +kernel) rfl
theorem kw_410 : (.methodLink R_An 37 y_An_give : Cond) ∈ GW := gw_of 410 (by decide +kernel) rfl
theorem kw_350 : (.instanceMethod y_An_give : Cond) ∈ GW := gw_of 350 (by decide +kernel) rfl
theorem kw_351 : (.selects R_An y_An_give y_An_give : Cond) ∈ GW := gw_of 351 (by decide +kernel) rfl
theorem kw_352 : (.code y_An_give b_An_give 6 none : Cond) ∈ GW := gw_of 352 (by decide +kernel) rfl
theorem kw_122 : (.methodLink R_Ed 3 objectInit : Cond) ∈ GW := gw_of 122 (by decide +kernel) rfl
theorem kw_124 : (.fieldLink R_Ed 9 "HandlingRules$Edition" "state" "I" : Cond) ∈ GW := gw_of 124 (by decide +kernel) rfl
theorem kw_126 : (.fieldLink R_Ed 15 "HandlingRules$Edition" "count" "I" : Cond) ∈ GW := gw_of 126 (by decide +kernel) rfl
theorem kw_128 : (.fieldLink R_Ed 18 "HandlingRules$Edition" "from" "I" : Cond) ∈ GW := gw_of 128 (by decide +kernel) rfl
theorem kw_130 : (.fieldLink R_Ed 21 "HandlingRules$Edition" "toldAs" "I" : Cond) ∈ GW := gw_of 130 (by decide +kernel) rfl
theorem kw_123 : (.classLink R_Ed 24 R_Ru : Cond) ∈ GW := gw_of 123 (by decide +kernel) rfl
theorem kw_132 : (.fieldLink R_Ed 26 "HandlingRules$Edition" "order" "[LHandlingRules$Rule;" : Cond) ∈ GW := gw_of 132 (by decide +kernel) rfl
theorem kw_233 : (.methodLink R_Ed 30 y_Ru_goesBefore : Cond) ∈ GW := gw_of 233 (by decide +kernel) rfl
theorem kw_234 : (.instanceMethod y_Ru_goesBefore : Cond) ∈ GW := gw_of 234 (by decide +kernel) rfl
theorem kw_235 : (.selects R_Ru y_Ru_goesBefore y_Ru_goesBefore : Cond) ∈ GW := gw_of 235 (by decide +kernel) rfl
theorem kw_22 : (.initialized R_Ru : Cond) ∈ GW := gw_of 22 (by decide +kernel) rfl
theorem kw_236 : (.code y_Ru_goesBefore b_Ru_goesBefore 2 (some .boolean) : Cond) ∈ GW := gw_of 236 (by decide +kernel) rfl
theorem kw_100 : (.methodLink R_Fa 3 objectInit : Cond) ∈ GW := gw_of 100 (by decide +kernel) rfl
theorem kw_101 : (.fieldLink R_Fa 9 "HandlingRules$Failures" "ruleNumbers" "[I" : Cond) ∈ GW := gw_of 101 (by decide +kernel) rfl
theorem kw_102 : (.fieldLink R_Fa 15 "HandlingRules$Failures" "hows" "[I" : Cond) ∈ GW := gw_of 102 (by decide +kernel) rfl
theorem kw_103 : (.fieldLink R_Fa 18 "HandlingRules$Failures" "count" "I" : Cond) ∈ GW := gw_of 103 (by decide +kernel) rfl
theorem kw_186 : (.methodLink R_Ru 3 objectInit : Cond) ∈ GW := gw_of 186 (by decide +kernel) rfl
theorem kw_194 : (.fieldLink R_Ru 9 "HandlingRules$Rule" "ops" "[I" : Cond) ∈ GW := gw_of 194 (by decide +kernel) rfl
theorem kw_196 : (.fieldLink R_Ru 15 "HandlingRules$Rule" "numbers" "[J" : Cond) ∈ GW := gw_of 196 (by decide +kernel) rfl
theorem kw_198 : (.fieldLink R_Ru 19 "HandlingRules$Rule" "length" "I" : Cond) ∈ GW := gw_of 198 (by decide +kernel) rfl
theorem kw_201 : (.fieldLink R_Ru 23 "HandlingRules$Rule" "cell" "J" : Cond) ∈ GW := gw_of 201 (by decide +kernel) rfl
theorem kw_204 : (.fieldLink R_Ru 27 "HandlingRules$Rule" "fallbackKind" "I" : Cond) ∈ GW := gw_of 204 (by decide +kernel) rfl
theorem kw_206 : (.fieldLink R_Ru 30 "HandlingRules$Rule" "fallbackValue" "J" : Cond) ∈ GW := gw_of 206 (by decide +kernel) rfl
theorem kw_187 : (.fieldLink R_Ru 33 "HandlingRules$Rule" "number" "I" : Cond) ∈ GW := gw_of 187 (by decide +kernel) rfl
theorem kw_190 : (.fieldLink R_Ru 36 "HandlingRules$Rule" "home" "LHandlingRules$Edition;" : Cond) ∈ GW := gw_of 190 (by decide +kernel) rfl
theorem kw_192 : (.fieldLink R_Ru 40 "HandlingRules$Rule" "rank" "I" : Cond) ∈ GW := gw_of 192 (by decide +kernel) rfl
theorem kw_193 : (.fieldLink R_Ru 43 "HandlingRules$Rule" "name" "I" : Cond) ∈ GW := gw_of 193 (by decide +kernel) rfl
theorem kw_45 : (.methodLink R_Rn 3 objectInit : Cond) ∈ GW := gw_of 45 (by decide +kernel) rfl
theorem kw_61 : (.fieldLink R_Rn 9 "HandlingRules$Runner" "facts" "[J" : Cond) ∈ GW := gw_of 61 (by decide +kernel) rfl
theorem kw_62 : (.fieldLink R_Rn 15 "HandlingRules$Runner" "stack" "[J" : Cond) ∈ GW := gw_of 62 (by decide +kernel) rfl
theorem kw_63 : (.fieldLink R_Rn 18 "HandlingRules$Runner" "handleFacts" "[I" : Cond) ∈ GW := gw_of 63 (by decide +kernel) rfl
theorem kw_46 : (.classLink R_Rn 22 R_An : Cond) ∈ GW := gw_of 46 (by decide +kernel) rfl
theorem kw_48 : (.methodLink R_Rn 24 y_An_init : Cond) ∈ GW := gw_of 48 (by decide +kernel) rfl
theorem kw_49 : (.instanceMethod y_An_init : Cond) ∈ GW := gw_of 49 (by decide +kernel) rfl
theorem kw_50 : (.code y_An_init b_An_init 2 none : Cond) ∈ GW := gw_of 50 (by decide +kernel) rfl
theorem kw_64 : (.fieldLink R_Rn 25 "HandlingRules$Runner" "given" "LHandlingRules$Answers;" : Cond) ∈ GW := gw_of 64 (by decide +kernel) rfl
theorem kw_66 : (.fieldLink R_Rn 29 "HandlingRules$Runner" "handleCount" "I" : Cond) ∈ GW := gw_of 66 (by decide +kernel) rfl
theorem kw_68 : (.fieldLink R_Rn 33 "HandlingRules$Runner" "height" "I" : Cond) ∈ GW := gw_of 68 (by decide +kernel) rfl
theorem kw_69 : (.fieldLink R_Rn 36 "HandlingRules$Runner" "position" "I" : Cond) ∈ GW := gw_of 69 (by decide +kernel) rfl
theorem kw_70 : (.fieldLink R_Rn 39 "HandlingRules$Runner" "fault" "I" : Cond) ∈ GW := gw_of 70 (by decide +kernel) rfl
theorem kw_72 : (.fieldLink R_Rn 42 "HandlingRules$Runner" "cell" "J" : Cond) ∈ GW := gw_of 72 (by decide +kernel) rfl
theorem kw_292 : (.methodLink R_Rn 46 y_Rn_begin : Cond) ∈ GW := gw_of 292 (by decide +kernel) rfl
theorem kw_293 : (.instanceMethod y_Rn_begin : Cond) ∈ GW := gw_of 293 (by decide +kernel) rfl
theorem kw_294 : (.selects R_Rn y_Rn_begin y_Rn_begin : Cond) ∈ GW := gw_of 294 (by decide +kernel) rfl
theorem kw_16 : (.initialized R_Rn : Cond) ∈ GW := gw_of 16 (by decide +kernel) rfl
theorem kw_295 : (.code y_Rn_begin b_Rn_begin 2 none : Cond) ∈ GW := gw_of 295 (by decide +kernel) rfl
theorem kw_300 : (.methodLink R_Rn 50 y_Rn_isInside : Cond) ∈ GW := gw_of 300 (by decide +kernel) rfl
theorem kw_301 : (.instanceMethod y_Rn_isInside : Cond) ∈ GW := gw_of 301 (by decide +kernel) rfl
theorem kw_302 : (.selects R_Rn y_Rn_isInside y_Rn_isInside : Cond) ∈ GW := gw_of 302 (by decide +kernel) rfl
theorem kw_303 : (.code y_Rn_isInside b_Rn_isInside 2 (some .boolean) : Cond) ∈ GW := gw_of 303 (by decide +kernel) rfl
theorem kw_195 : (.fieldLink R_Rn 54 "HandlingRules$Rule" "ops" "[I" : Cond) ∈ GW := gw_of 195 (by decide +kernel) rfl
theorem kw_197 : (.fieldLink R_Rn 59 "HandlingRules$Rule" "numbers" "[J" : Cond) ∈ GW := gw_of 197 (by decide +kernel) rfl
theorem kw_304 : (.methodLink R_Rn 62 y_Rn_perform : Cond) ∈ GW := gw_of 304 (by decide +kernel) rfl
theorem kw_305 : (.instanceMethod y_Rn_perform : Cond) ∈ GW := gw_of 305 (by decide +kernel) rfl
theorem kw_306 : (.selects R_Rn y_Rn_perform y_Rn_perform : Cond) ∈ GW := gw_of 306 (by decide +kernel) rfl
theorem kw_307 : (.code y_Rn_perform b_Rn_perform 10 none : Cond) ∈ GW := gw_of 307 (by decide +kernel) rfl
theorem kw_296 : (.methodLink R_Rn 66 y_An_clear : Cond) ∈ GW := gw_of 296 (by decide +kernel) rfl
theorem kw_297 : (.instanceMethod y_An_clear : Cond) ∈ GW := gw_of 297 (by decide +kernel) rfl
theorem kw_298 : (.selects R_An y_An_clear y_An_clear : Cond) ∈ GW := gw_of 298 (by decide +kernel) rfl
theorem kw_299 : (.code y_An_clear b_An_clear 2 none : Cond) ∈ GW := gw_of 299 (by decide +kernel) rfl
theorem kw_202 : (.fieldLink R_Rn 69 "HandlingRules$Rule" "cell" "J" : Cond) ∈ GW := gw_of 202 (by decide +kernel) rfl
theorem kw_200 : (.fieldLink R_Rn 70 "HandlingRules$Rule" "length" "I" : Cond) ∈ GW := gw_of 200 (by decide +kernel) rfl
theorem kw_308 : (.methodLink R_Rn 73 y_Rn_faultOf : Cond) ∈ GW := gw_of 308 (by decide +kernel) rfl
theorem kw_309 : (.instanceMethod y_Rn_faultOf : Cond) ∈ GW := gw_of 309 (by decide +kernel) rfl
theorem kw_310 : (.selects R_Rn y_Rn_faultOf y_Rn_faultOf : Cond) ∈ GW := gw_of 310 (by decide +kernel) rfl
theorem kw_311 : (.code y_Rn_faultOf b_Rn_faultOf 5 (some .int) : Cond) ∈ GW := gw_of 311 (by decide +kernel) rfl
theorem kw_316 : (.static y_Hr_takesTwo : Cond) ∈ GW := gw_of 316 (by decide +kernel) rfl
theorem kw_317 : (.code y_Hr_takesTwo b_Hr_takesTwo 1 (some .boolean) : Cond) ∈ GW := gw_of 317 (by decide +kernel) rfl
theorem kw_327 : (.methodLink R_Rn 81 y_Rn_pop : Cond) ∈ GW := gw_of 327 (by decide +kernel) rfl
theorem kw_328 : (.instanceMethod y_Rn_pop : Cond) ∈ GW := gw_of 328 (by decide +kernel) rfl
theorem kw_329 : (.selects R_Rn y_Rn_pop y_Rn_pop : Cond) ∈ GW := gw_of 329 (by decide +kernel) rfl
theorem kw_330 : (.code y_Rn_pop b_Rn_pop 3 (some .long) : Cond) ∈ GW := gw_of 330 (by decide +kernel) rfl
theorem kw_332 : (.static y_Hr_combine : Cond) ∈ GW := gw_of 332 (by decide +kernel) rfl
theorem kw_333 : (.code y_Hr_combine b_Hr_combine 5 (some .long) : Cond) ∈ GW := gw_of 333 (by decide +kernel) rfl
theorem kw_334 : (.methodLink R_Rn 89 y_Rn_push : Cond) ∈ GW := gw_of 334 (by decide +kernel) rfl
theorem kw_335 : (.instanceMethod y_Rn_push : Cond) ∈ GW := gw_of 335 (by decide +kernel) rfl
theorem kw_336 : (.selects R_Rn y_Rn_push y_Rn_push : Cond) ∈ GW := gw_of 336 (by decide +kernel) rfl
theorem kw_337 : (.code y_Rn_push b_Rn_push 3 none : Cond) ∈ GW := gw_of 337 (by decide +kernel) rfl
theorem kw_338 : (.methodLink R_Rn 93 y_Rn_factOf : Cond) ∈ GW := gw_of 338 (by decide +kernel) rfl
theorem kw_339 : (.instanceMethod y_Rn_factOf : Cond) ∈ GW := gw_of 339 (by decide +kernel) rfl
theorem kw_340 : (.selects R_Rn y_Rn_factOf y_Rn_factOf : Cond) ∈ GW := gw_of 340 (by decide +kernel) rfl
theorem kw_341 : (.code y_Rn_factOf b_Rn_factOf 3 (some .long) : Cond) ∈ GW := gw_of 341 (by decide +kernel) rfl
theorem kw_343 : (.methodLink R_Rn 97 y_Ma_minJ : Cond) ∈ GW := gw_of 343 (by decide +kernel) rfl
theorem kw_344 : (.static y_Ma_minJ : Cond) ∈ GW := gw_of 344 (by decide +kernel) rfl
theorem kw_19 : (.initialized R_Ma : Cond) ∈ GW := gw_of 19 (by decide +kernel) rfl
theorem kw_345 : (.code y_Ma_minJ b_Ma_minJ 4 (some .long) : Cond) ∈ GW := gw_of 345 (by decide +kernel) rfl
theorem kw_346 : (.methodLink R_Rn 103 y_Ma_maxJ : Cond) ∈ GW := gw_of 346 (by decide +kernel) rfl
theorem kw_347 : (.static y_Ma_maxJ : Cond) ∈ GW := gw_of 347 (by decide +kernel) rfl
theorem kw_348 : (.code y_Ma_maxJ b_Ma_maxJ 4 (some .long) : Cond) ∈ GW := gw_of 348 (by decide +kernel) rfl
theorem kw_189 : (.fieldLink R_Rn 106 "HandlingRules$Rule" "number" "I" : Cond) ∈ GW := gw_of 189 (by decide +kernel) rfl
theorem kw_349 : (.methodLink R_Rn 109 y_An_give : Cond) ∈ GW := gw_of 349 (by decide +kernel) rfl
theorem kw_355 : (.methodLink R_Rn 113 y_Rn_keep : Cond) ∈ GW := gw_of 355 (by decide +kernel) rfl
theorem kw_356 : (.instanceMethod y_Rn_keep : Cond) ∈ GW := gw_of 356 (by decide +kernel) rfl
theorem kw_357 : (.selects R_Rn y_Rn_keep y_Rn_keep : Cond) ∈ GW := gw_of 357 (by decide +kernel) rfl
theorem kw_358 : (.code y_Rn_keep b_Rn_keep 4 (some .int) : Cond) ∈ GW := gw_of 358 (by decide +kernel) rfl
theorem kw_359 : (.methodLink R_Rn 117 y_Rn_factBehind : Cond) ∈ GW := gw_of 359 (by decide +kernel) rfl
theorem kw_360 : (.instanceMethod y_Rn_factBehind : Cond) ∈ GW := gw_of 360 (by decide +kernel) rfl
theorem kw_361 : (.selects R_Rn y_Rn_factBehind y_Rn_factBehind : Cond) ∈ GW := gw_of 361 (by decide +kernel) rfl
theorem kw_362 : (.code y_Rn_factBehind b_Rn_factBehind 4 (some .long) : Cond) ∈ GW := gw_of 362 (by decide +kernel) rfl
theorem kw_313 : (.static y_Hr_takes : Cond) ∈ GW := gw_of 313 (by decide +kernel) rfl
theorem kw_314 : (.code y_Hr_takes b_Hr_takes 1 (some .int) : Cond) ∈ GW := gw_of 314 (by decide +kernel) rfl
theorem kw_319 : (.static y_Hr_puts : Cond) ∈ GW := gw_of 319 (by decide +kernel) rfl
theorem kw_320 : (.code y_Hr_puts b_Hr_puts 1 (some .int) : Cond) ∈ GW := gw_of 320 (by decide +kernel) rfl
theorem kw_321 : (.methodLink R_Rn 126 y_Rn_top : Cond) ∈ GW := gw_of 321 (by decide +kernel) rfl
theorem kw_322 : (.instanceMethod y_Rn_top : Cond) ∈ GW := gw_of 322 (by decide +kernel) rfl
theorem kw_323 : (.selects R_Rn y_Rn_top y_Rn_top : Cond) ∈ GW := gw_of 323 (by decide +kernel) rfl
theorem kw_324 : (.code y_Rn_top b_Rn_top 1 (some .long) : Cond) ∈ GW := gw_of 324 (by decide +kernel) rfl
theorem kw_342 : (.constantLong R_Rn 133 7 : Cond) ∈ GW := gw_of 342 (by decide +kernel) rfl
theorem kw_363 : (.constantLong R_Rn 135 16 : Cond) ∈ GW := gw_of 363 (by decide +kernel) rfl
theorem kw_33 : (.methodLink R_Hr 1 objectInit : Cond) ∈ GW := gw_of 33 (by decide +kernel) rfl
theorem kw_36 : (.classLink R_Hr 9 R_Ed : Cond) ∈ GW := gw_of 36 (by decide +kernel) rfl
theorem kw_145 : (.fieldLink R_Hr 11 "HandlingRules" "editions" "[LHandlingRules$Edition;" : Cond) ∈ GW := gw_of 145 (by decide +kernel) rfl
theorem kw_38 : (.classLink R_Hr 15 R_Ru : Cond) ∈ GW := gw_of 38 (by decide +kernel) rfl
theorem kw_146 : (.fieldLink R_Hr 17 "HandlingRules" "rules" "[LHandlingRules$Rule;" : Cond) ∈ GW := gw_of 146 (by decide +kernel) rfl
theorem kw_147 : (.fieldLink R_Hr 21 "HandlingRules" "ruleCount" "I" : Cond) ∈ GW := gw_of 147 (by decide +kernel) rfl
theorem kw_148 : (.fieldLink R_Hr 25 "HandlingRules" "daysTold" "I" : Cond) ∈ GW := gw_of 148 (by decide +kernel) rfl
theorem kw_40 : (.classLink R_Hr 28 R_Rn : Cond) ∈ GW := gw_of 40 (by decide +kernel) rfl
theorem kw_43 : (.instanceMethod y_Rn_init : Cond) ∈ GW := gw_of 43 (by decide +kernel) rfl
theorem kw_44 : (.code y_Rn_init b_Rn_init 1 none : Cond) ∈ GW := gw_of 44 (by decide +kernel) rfl
theorem kw_149 : (.fieldLink R_Hr 31 "HandlingRules" "runner" "LHandlingRules$Runner;" : Cond) ∈ GW := gw_of 149 (by decide +kernel) rfl
theorem kw_93 : (.classLink R_Hr 35 R_An : Cond) ∈ GW := gw_of 93 (by decide +kernel) rfl
theorem kw_94 : (.methodLink R_Hr 37 y_An_init : Cond) ∈ GW := gw_of 94 (by decide +kernel) rfl
theorem kw_150 : (.fieldLink R_Hr 38 "HandlingRules" "answers" "LHandlingRules$Answers;" : Cond) ∈ GW := gw_of 150 (by decide +kernel) rfl
theorem kw_95 : (.classLink R_Hr 42 R_Fa : Cond) ∈ GW := gw_of 95 (by decide +kernel) rfl
theorem kw_98 : (.instanceMethod y_Fa_init : Cond) ∈ GW := gw_of 98 (by decide +kernel) rfl
theorem kw_18 : (.initialized R_Fa : Cond) ∈ GW := gw_of 18 (by decide +kernel) rfl
theorem kw_99 : (.code y_Fa_init b_Fa_init 1 none : Cond) ∈ GW := gw_of 99 (by decide +kernel) rfl
theorem kw_151 : (.fieldLink R_Hr 45 "HandlingRules" "failures" "LHandlingRules$Failures;" : Cond) ∈ GW := gw_of 151 (by decide +kernel) rfl
theorem kw_112 : (.methodLink R_Hr 49 y_Ma_minI : Cond) ∈ GW := gw_of 112 (by decide +kernel) rfl
theorem kw_113 : (.static y_Ma_minI : Cond) ∈ GW := gw_of 113 (by decide +kernel) rfl
theorem kw_114 : (.code y_Ma_minI b_Ma_minI 2 (some .int) : Cond) ∈ GW := gw_of 114 (by decide +kernel) rfl
theorem kw_115 : (.methodLink R_Hr 55 y_Ma_maxI : Cond) ∈ GW := gw_of 115 (by decide +kernel) rfl
theorem kw_116 : (.static y_Ma_maxI : Cond) ∈ GW := gw_of 116 (by decide +kernel) rfl
theorem kw_117 : (.code y_Ma_maxI b_Ma_maxI 2 (some .int) : Cond) ∈ GW := gw_of 117 (by decide +kernel) rfl
theorem kw_144 : (.fieldLink R_Hr 58 "HandlingRules" "steps" "I" : Cond) ∈ GW := gw_of 144 (by decide +kernel) rfl
theorem kw_120 : (.instanceMethod y_Ed_init : Cond) ∈ GW := gw_of 120 (by decide +kernel) rfl
theorem kw_20 : (.initialized R_Ed : Cond) ∈ GW := gw_of 20 (by decide +kernel) rfl
theorem kw_121 : (.code y_Ed_init b_Ed_init 1 none : Cond) ∈ GW := gw_of 121 (by decide +kernel) rfl
theorem kw_173 : (.methodLink R_Hr 62 y_Hr_editionAt : Cond) ∈ GW := gw_of 173 (by decide +kernel) rfl
theorem kw_175 : (.instanceMethod y_Hr_editionAt : Cond) ∈ GW := gw_of 175 (by decide +kernel) rfl
theorem kw_0 : (.selects R_Hr y_Hr_editionAt y_Hr_editionAt : Cond) ∈ GW := gw_of 0 (by decide +kernel) rfl
theorem kw_176 : (.code y_Hr_editionAt b_Hr_editionAt 2 (some (.object "HandlingRules$Edition")) : Cond) ∈ GW := gw_of 176 (by decide +kernel) rfl
theorem kw_177 : (.constantLong R_Hr 66 9 : Cond) ∈ GW := gw_of 177 (by decide +kernel) rfl
theorem kw_178 : (.methodLink R_Hr 68 y_Hr_isWithin : Cond) ∈ GW := gw_of 178 (by decide +kernel) rfl
theorem kw_181 : (.constantLong R_Hr 72 99 : Cond) ∈ GW := gw_of 181 (by decide +kernel) rfl
theorem kw_125 : (.fieldLink R_Hr 74 "HandlingRules$Edition" "state" "I" : Cond) ∈ GW := gw_of 125 (by decide +kernel) rfl
theorem kw_127 : (.fieldLink R_Hr 77 "HandlingRules$Edition" "count" "I" : Cond) ∈ GW := gw_of 127 (by decide +kernel) rfl
theorem kw_183 : (.methodLink R_Hr 80 y_Ru_init : Cond) ∈ GW := gw_of 183 (by decide +kernel) rfl
theorem kw_184 : (.instanceMethod y_Ru_init : Cond) ∈ GW := gw_of 184 (by decide +kernel) rfl
theorem kw_185 : (.code y_Ru_init b_Ru_init 5 none : Cond) ∈ GW := gw_of 185 (by decide +kernel) rfl
theorem kw_229 : (.methodLink R_Hr 83 y_Ed_insert : Cond) ∈ GW := gw_of 229 (by decide +kernel) rfl
theorem kw_230 : (.instanceMethod y_Ed_insert : Cond) ∈ GW := gw_of 230 (by decide +kernel) rfl
theorem kw_231 : (.selects R_Ed y_Ed_insert y_Ed_insert : Cond) ∈ GW := gw_of 231 (by decide +kernel) rfl
theorem kw_232 : (.code y_Ed_insert b_Ed_insert 5 none : Cond) ∈ GW := gw_of 232 (by decide +kernel) rfl
theorem kw_188 : (.fieldLink R_Hr 87 "HandlingRules$Rule" "number" "I" : Cond) ∈ GW := gw_of 188 (by decide +kernel) rfl
theorem kw_241 : (.methodLink R_Hr 90 y_Hr_ruleAt : Cond) ∈ GW := gw_of 241 (by decide +kernel) rfl
theorem kw_243 : (.instanceMethod y_Hr_ruleAt : Cond) ∈ GW := gw_of 243 (by decide +kernel) rfl
theorem kw_1 : (.selects R_Hr y_Hr_ruleAt y_Hr_ruleAt : Cond) ∈ GW := gw_of 1 (by decide +kernel) rfl
theorem kw_244 : (.code y_Hr_ruleAt b_Hr_ruleAt 2 (some (.object "HandlingRules$Rule")) : Cond) ∈ GW := gw_of 244 (by decide +kernel) rfl
theorem kw_245 : (.methodLink R_Hr 94 y_Hr_isInstruction : Cond) ∈ GW := gw_of 245 (by decide +kernel) rfl
theorem kw_246 : (.static y_Hr_isInstruction : Cond) ∈ GW := gw_of 246 (by decide +kernel) rfl
theorem kw_247 : (.code y_Hr_isInstruction b_Hr_isInstruction 3 (some .boolean) : Cond) ∈ GW := gw_of 247 (by decide +kernel) rfl
theorem kw_191 : (.fieldLink R_Hr 98 "HandlingRules$Rule" "home" "LHandlingRules$Edition;" : Cond) ∈ GW := gw_of 191 (by decide +kernel) rfl
theorem kw_199 : (.fieldLink R_Hr 102 "HandlingRules$Rule" "length" "I" : Cond) ∈ GW := gw_of 199 (by decide +kernel) rfl
theorem kw_253 : (.methodLink R_Hr 105 y_Hr_hasNumber : Cond) ∈ GW := gw_of 253 (by decide +kernel) rfl
theorem kw_254 : (.static y_Hr_hasNumber : Cond) ∈ GW := gw_of 254 (by decide +kernel) rfl
theorem kw_255 : (.code y_Hr_hasNumber b_Hr_hasNumber 1 (some .boolean) : Cond) ∈ GW := gw_of 255 (by decide +kernel) rfl
theorem kw_256 : (.methodLink R_Hr 109 y_Ru_append : Cond) ∈ GW := gw_of 256 (by decide +kernel) rfl
theorem kw_257 : (.instanceMethod y_Ru_append : Cond) ∈ GW := gw_of 257 (by decide +kernel) rfl
theorem kw_258 : (.selects R_Ru y_Ru_append y_Ru_append : Cond) ∈ GW := gw_of 258 (by decide +kernel) rfl
theorem kw_259 : (.code y_Ru_append b_Ru_append 4 none : Cond) ∈ GW := gw_of 259 (by decide +kernel) rfl
theorem kw_251 : (.constantLong R_Hr 113 3 : Cond) ∈ GW := gw_of 251 (by decide +kernel) rfl
theorem kw_205 : (.fieldLink R_Hr 115 "HandlingRules$Rule" "fallbackKind" "I" : Cond) ∈ GW := gw_of 205 (by decide +kernel) rfl
theorem kw_207 : (.fieldLink R_Hr 118 "HandlingRules$Rule" "fallbackValue" "J" : Cond) ∈ GW := gw_of 207 (by decide +kernel) rfl
theorem kw_248 : (.constantLong R_Hr 122 7 : Cond) ∈ GW := gw_of 248 (by decide +kernel) rfl
theorem kw_268 : (.methodLink R_Hr 124 y_Rn_setFact : Cond) ∈ GW := gw_of 268 (by decide +kernel) rfl
theorem kw_269 : (.instanceMethod y_Rn_setFact : Cond) ∈ GW := gw_of 269 (by decide +kernel) rfl
theorem kw_270 : (.selects R_Rn y_Rn_setFact y_Rn_setFact : Cond) ∈ GW := gw_of 270 (by decide +kernel) rfl
theorem kw_271 : (.code y_Rn_setFact b_Rn_setFact 4 none : Cond) ∈ GW := gw_of 271 (by decide +kernel) rfl
theorem kw_276 : (.methodLink R_Hr 127 y_Hr_forgetLatestRun : Cond) ∈ GW := gw_of 276 (by decide +kernel) rfl
theorem kw_278 : (.instanceMethod y_Hr_forgetLatestRun : Cond) ∈ GW := gw_of 278 (by decide +kernel) rfl
theorem kw_2 : (.selects R_Hr y_Hr_forgetLatestRun y_Hr_forgetLatestRun : Cond) ∈ GW := gw_of 2 (by decide +kernel) rfl
theorem kw_279 : (.code y_Hr_forgetLatestRun b_Hr_forgetLatestRun 1 none : Cond) ∈ GW := gw_of 279 (by decide +kernel) rfl
theorem kw_280 : (.methodLink R_Hr 130 y_Ed_inOrder : Cond) ∈ GW := gw_of 280 (by decide +kernel) rfl
theorem kw_281 : (.instanceMethod y_Ed_inOrder : Cond) ∈ GW := gw_of 281 (by decide +kernel) rfl
theorem kw_282 : (.selects R_Ed y_Ed_inOrder y_Ed_inOrder : Cond) ∈ GW := gw_of 282 (by decide +kernel) rfl
theorem kw_283 : (.code y_Ed_inOrder b_Ed_inOrder 2 (some (.object "HandlingRules$Rule")) : Cond) ∈ GW := gw_of 283 (by decide +kernel) rfl
theorem kw_284 : (.methodLink R_Hr 133 y_Hr_doRule : Cond) ∈ GW := gw_of 284 (by decide +kernel) rfl
theorem kw_286 : (.instanceMethod y_Hr_doRule : Cond) ∈ GW := gw_of 286 (by decide +kernel) rfl
theorem kw_3 : (.selects R_Hr y_Hr_doRule y_Hr_doRule : Cond) ∈ GW := gw_of 3 (by decide +kernel) rfl
theorem kw_287 : (.code y_Hr_doRule b_Hr_doRule 3 (some .int) : Cond) ∈ GW := gw_of 287 (by decide +kernel) rfl
theorem kw_104 : (.fieldLink R_Hr 137 "HandlingRules$Failures" "count" "I" : Cond) ∈ GW := gw_of 104 (by decide +kernel) rfl
theorem kw_372 : (.constantLong R_Hr 138 100000 : Cond) ∈ GW := gw_of 372 (by decide +kernel) rfl
theorem kw_129 : (.fieldLink R_Hr 140 "HandlingRules$Edition" "from" "I" : Cond) ∈ GW := gw_of 129 (by decide +kernel) rfl
theorem kw_131 : (.fieldLink R_Hr 143 "HandlingRules$Edition" "toldAs" "I" : Cond) ∈ GW := gw_of 131 (by decide +kernel) rfl
theorem kw_377 : (.methodLink R_Hr 146 y_An_clear : Cond) ∈ GW := gw_of 377 (by decide +kernel) rfl
theorem kw_378 : (.methodLink R_Hr 149 y_Hr_inForceOn : Cond) ∈ GW := gw_of 378 (by decide +kernel) rfl
theorem kw_380 : (.instanceMethod y_Hr_inForceOn : Cond) ∈ GW := gw_of 380 (by decide +kernel) rfl
theorem kw_4 : (.selects R_Hr y_Hr_inForceOn y_Hr_inForceOn : Cond) ∈ GW := gw_of 4 (by decide +kernel) rfl
theorem kw_381 : (.code y_Hr_inForceOn b_Hr_inForceOn 5 (some (.object "HandlingRules$Edition")) : Cond) ∈ GW := gw_of 381 (by decide +kernel) rfl
theorem kw_390 : (.methodLink R_Hr 152 y_Hr_settle : Cond) ∈ GW := gw_of 390 (by decide +kernel) rfl
theorem kw_392 : (.instanceMethod y_Hr_settle : Cond) ∈ GW := gw_of 392 (by decide +kernel) rfl
theorem kw_5 : (.selects R_Hr y_Hr_settle y_Hr_settle : Cond) ∈ GW := gw_of 5 (by decide +kernel) rfl
theorem kw_393 : (.code y_Hr_settle b_Hr_settle 2 none : Cond) ∈ GW := gw_of 393 (by decide +kernel) rfl
theorem kw_413 : (.methodLink R_Hr 155 y_An_countGiven : Cond) ∈ GW := gw_of 413 (by decide +kernel) rfl
theorem kw_414 : (.instanceMethod y_An_countGiven : Cond) ∈ GW := gw_of 414 (by decide +kernel) rfl
theorem kw_415 : (.selects R_An y_An_countGiven y_An_countGiven : Cond) ∈ GW := gw_of 415 (by decide +kernel) rfl
theorem kw_416 : (.code y_An_countGiven b_An_countGiven 3 (some .int) : Cond) ∈ GW := gw_of 416 (by decide +kernel) rfl
theorem kw_421 : (.methodLink R_Hr 159 y_An_valueOf : Cond) ∈ GW := gw_of 421 (by decide +kernel) rfl
theorem kw_426 : (.methodLink R_Hr 163 y_An_giverOf : Cond) ∈ GW := gw_of 426 (by decide +kernel) rfl
theorem kw_431 : (.methodLink R_Hr 167 y_Fa_numberAt : Cond) ∈ GW := gw_of 431 (by decide +kernel) rfl
theorem kw_432 : (.instanceMethod y_Fa_numberAt : Cond) ∈ GW := gw_of 432 (by decide +kernel) rfl
theorem kw_433 : (.selects R_Fa y_Fa_numberAt y_Fa_numberAt : Cond) ∈ GW := gw_of 433 (by decide +kernel) rfl
theorem kw_434 : (.code y_Fa_numberAt b_Fa_numberAt 2 (some .int) : Cond) ∈ GW := gw_of 434 (by decide +kernel) rfl
theorem kw_435 : (.methodLink R_Hr 170 y_Fa_howAt : Cond) ∈ GW := gw_of 435 (by decide +kernel) rfl
theorem kw_436 : (.instanceMethod y_Fa_howAt : Cond) ∈ GW := gw_of 436 (by decide +kernel) rfl
theorem kw_437 : (.selects R_Fa y_Fa_howAt y_Fa_howAt : Cond) ∈ GW := gw_of 437 (by decide +kernel) rfl
theorem kw_438 : (.code y_Fa_howAt b_Fa_howAt 2 (some .int) : Cond) ∈ GW := gw_of 438 (by decide +kernel) rfl
theorem kw_203 : (.fieldLink R_Hr 173 "HandlingRules$Rule" "cell" "J" : Cond) ∈ GW := gw_of 203 (by decide +kernel) rfl
theorem kw_451 : (.methodLink R_Hr 176 y_Ru_hasProgramOf : Cond) ∈ GW := gw_of 451 (by decide +kernel) rfl
theorem kw_452 : (.instanceMethod y_Ru_hasProgramOf : Cond) ∈ GW := gw_of 452 (by decide +kernel) rfl
theorem kw_453 : (.selects R_Ru y_Ru_hasProgramOf y_Ru_hasProgramOf : Cond) ∈ GW := gw_of 453 (by decide +kernel) rfl
theorem kw_454 : (.code y_Ru_hasProgramOf b_Ru_hasProgramOf 3 (some .boolean) : Cond) ∈ GW := gw_of 454 (by decide +kernel) rfl
theorem kw_466 : (.constantLong R_Hr 180 (-101) : Cond) ∈ GW := gw_of 466 (by decide +kernel) rfl
theorem kw_534 : (.methodLink R_Hr 189 y_Hr_combine : Cond) ∈ GW := gw_of 534 (by decide +kernel) rfl
theorem kw_67 : (.fieldLink R_Hr 193 "HandlingRules$Runner" "handleCount" "I" : Cond) ∈ GW := gw_of 67 (by decide +kernel) rfl
theorem kw_382 : (.methodLink R_Hr 201 y_Ed_isInForceOn : Cond) ∈ GW := gw_of 382 (by decide +kernel) rfl
theorem kw_383 : (.instanceMethod y_Ed_isInForceOn : Cond) ∈ GW := gw_of 383 (by decide +kernel) rfl
theorem kw_384 : (.selects R_Ed y_Ed_isInForceOn y_Ed_isInForceOn : Cond) ∈ GW := gw_of 384 (by decide +kernel) rfl
theorem kw_385 : (.code y_Ed_isInForceOn b_Ed_isInForceOn 2 (some .boolean) : Cond) ∈ GW := gw_of 385 (by decide +kernel) rfl
theorem kw_386 : (.methodLink R_Hr 204 y_Ed_goesAhead : Cond) ∈ GW := gw_of 386 (by decide +kernel) rfl
theorem kw_387 : (.instanceMethod y_Ed_goesAhead : Cond) ∈ GW := gw_of 387 (by decide +kernel) rfl
theorem kw_388 : (.selects R_Ed y_Ed_goesAhead y_Ed_goesAhead : Cond) ∈ GW := gw_of 388 (by decide +kernel) rfl
theorem kw_389 : (.code y_Ed_goesAhead b_Ed_goesAhead 2 (some .boolean) : Cond) ∈ GW := gw_of 389 (by decide +kernel) rfl
theorem kw_288 : (.methodLink R_Hr 208 y_Rn_run : Cond) ∈ GW := gw_of 288 (by decide +kernel) rfl
theorem kw_289 : (.instanceMethod y_Rn_run : Cond) ∈ GW := gw_of 289 (by decide +kernel) rfl
theorem kw_290 : (.selects R_Rn y_Rn_run y_Rn_run : Cond) ∈ GW := gw_of 290 (by decide +kernel) rfl
theorem kw_291 : (.code y_Rn_run b_Rn_run 4 (some .int) : Cond) ∈ GW := gw_of 291 (by decide +kernel) rfl
theorem kw_71 : (.fieldLink R_Hr 212 "HandlingRules$Runner" "fault" "I" : Cond) ∈ GW := gw_of 71 (by decide +kernel) rfl
theorem kw_364 : (.methodLink R_Hr 215 y_Fa_add : Cond) ∈ GW := gw_of 364 (by decide +kernel) rfl
theorem kw_365 : (.instanceMethod y_Fa_add : Cond) ∈ GW := gw_of 365 (by decide +kernel) rfl
theorem kw_366 : (.selects R_Fa y_Fa_add y_Fa_add : Cond) ∈ GW := gw_of 366 (by decide +kernel) rfl
theorem kw_367 : (.code y_Fa_add b_Fa_add 3 none : Cond) ∈ GW := gw_of 367 (by decide +kernel) rfl
theorem kw_73 : (.fieldLink R_Hr 219 "HandlingRules$Runner" "cell" "J" : Cond) ∈ GW := gw_of 73 (by decide +kernel) rfl
theorem kw_65 : (.fieldLink R_Hr 220 "HandlingRules$Runner" "given" "LHandlingRules$Answers;" : Cond) ∈ GW := gw_of 65 (by decide +kernel) rfl
theorem kw_394 : (.methodLink R_Hr 223 y_An_addMissing : Cond) ∈ GW := gw_of 394 (by decide +kernel) rfl
theorem kw_395 : (.instanceMethod y_An_addMissing : Cond) ∈ GW := gw_of 395 (by decide +kernel) rfl
theorem kw_396 : (.selects R_An y_An_addMissing y_An_addMissing : Cond) ∈ GW := gw_of 396 (by decide +kernel) rfl
theorem kw_397 : (.code y_An_addMissing b_An_addMissing 3 none : Cond) ∈ GW := gw_of 397 (by decide +kernel) rfl
theorem kw_411 : (.methodLink R_Hr 227 y_An_isGiven : Cond) ∈ GW := gw_of 411 (by decide +kernel) rfl
theorem kw_412 : (.methodLink R_Hr 230 y_An_give : Cond) ∈ GW := gw_of 412 (by decide +kernel) rfl
theorem kw_249 : (.constantLong R_Hr 234 (-12) : Cond) ∈ GW := gw_of 249 (by decide +kernel) rfl
theorem kw_250 : (.constantLong R_Hr 236 12 : Cond) ∈ GW := gw_of 250 (by decide +kernel) rfl
theorem kw_252 : (.constantLong R_Hr 238 15 : Cond) ∈ GW := gw_of 252 (by decide +kernel) rfl
theorem kw_315 : (.methodLink R_Hr 240 y_Hr_takesTwo : Cond) ∈ GW := gw_of 315 (by decide +kernel) rfl
theorem kw_564 : (.methodLink R_Mo 1 objectInit : Cond) ∈ GW := gw_of 564 (by decide +kernel) rfl
theorem kw_568 : (.fieldLink R_Mo 7 "HandlingRulesModel" "editions" "[I" : Cond) ∈ GW := gw_of 568 (by decide +kernel) rfl
theorem kw_569 : (.fieldLink R_Mo 13 "HandlingRulesModel" "orders" "[I" : Cond) ∈ GW := gw_of 569 (by decide +kernel) rfl
theorem kw_570 : (.fieldLink R_Mo 16 "HandlingRulesModel" "sizes" "[I" : Cond) ∈ GW := gw_of 570 (by decide +kernel) rfl
theorem kw_571 : (.fieldLink R_Mo 19 "HandlingRulesModel" "ops" "[I" : Cond) ∈ GW := gw_of 571 (by decide +kernel) rfl
theorem kw_572 : (.fieldLink R_Mo 22 "HandlingRulesModel" "numbers" "[J" : Cond) ∈ GW := gw_of 572 (by decide +kernel) rfl
theorem kw_573 : (.fieldLink R_Mo 26 "HandlingRulesModel" "cells" "[J" : Cond) ∈ GW := gw_of 573 (by decide +kernel) rfl
theorem kw_574 : (.fieldLink R_Mo 29 "HandlingRulesModel" "hasFallback" "[Z" : Cond) ∈ GW := gw_of 574 (by decide +kernel) rfl
theorem kw_575 : (.fieldLink R_Mo 33 "HandlingRulesModel" "fallbackKinds" "[I" : Cond) ∈ GW := gw_of 575 (by decide +kernel) rfl
theorem kw_576 : (.fieldLink R_Mo 36 "HandlingRulesModel" "fallbacks" "[J" : Cond) ∈ GW := gw_of 576 (by decide +kernel) rfl
theorem kw_577 : (.fieldLink R_Mo 39 "HandlingRulesModel" "facts" "[J" : Cond) ∈ GW := gw_of 577 (by decide +kernel) rfl
theorem kw_578 : (.fieldLink R_Mo 42 "HandlingRulesModel" "states" "[I" : Cond) ∈ GW := gw_of 578 (by decide +kernel) rfl
theorem kw_579 : (.fieldLink R_Mo 45 "HandlingRulesModel" "counts" "[I" : Cond) ∈ GW := gw_of 579 (by decide +kernel) rfl
theorem kw_580 : (.fieldLink R_Mo 48 "HandlingRulesModel" "days" "[I" : Cond) ∈ GW := gw_of 580 (by decide +kernel) rfl
theorem kw_581 : (.fieldLink R_Mo 51 "HandlingRulesModel" "toldAt" "[I" : Cond) ∈ GW := gw_of 581 (by decide +kernel) rfl
theorem kw_584 : (.fieldLink R_Mo 54 "HandlingRulesModel" "handleFacts" "[I" : Cond) ∈ GW := gw_of 584 (by decide +kernel) rfl
theorem kw_586 : (.fieldLink R_Mo 57 "HandlingRulesModel" "failedRule" "[I" : Cond) ∈ GW := gw_of 586 (by decide +kernel) rfl
theorem kw_587 : (.fieldLink R_Mo 60 "HandlingRulesModel" "failedHow" "[I" : Cond) ∈ GW := gw_of 587 (by decide +kernel) rfl
theorem kw_588 : (.fieldLink R_Mo 63 "HandlingRulesModel" "answers" "[J" : Cond) ∈ GW := gw_of 588 (by decide +kernel) rfl
theorem kw_589 : (.fieldLink R_Mo 66 "HandlingRulesModel" "givers" "[I" : Cond) ∈ GW := gw_of 589 (by decide +kernel) rfl
theorem kw_590 : (.fieldLink R_Mo 69 "HandlingRulesModel" "stack" "[J" : Cond) ∈ GW := gw_of 590 (by decide +kernel) rfl
theorem kw_595 : (.fieldLink R_Mo 72 "HandlingRulesModel" "own" "[J" : Cond) ∈ GW := gw_of 595 (by decide +kernel) rfl
theorem kw_596 : (.fieldLink R_Mo 75 "HandlingRulesModel" "has" "[Z" : Cond) ∈ GW := gw_of 596 (by decide +kernel) rfl
theorem kw_566 : (.fieldLink R_Mo 78 "HandlingRulesModel" "most" "I" : Cond) ∈ GW := gw_of 566 (by decide +kernel) rfl
theorem kw_565 : (.fieldLink R_Mo 82 "HandlingRulesModel" "thrown" "I" : Cond) ∈ GW := gw_of 565 (by decide +kernel) rfl
theorem kw_567 : (.fieldLink R_Mo 85 "HandlingRulesModel" "rules" "I" : Cond) ∈ GW := gw_of 567 (by decide +kernel) rfl
theorem kw_675 : (.methodLink R_Mo 88 y_Mo_within : Cond) ∈ GW := gw_of 675 (by decide +kernel) rfl
theorem kw_676 : (.static y_Mo_within : Cond) ∈ GW := gw_of 676 (by decide +kernel) rfl
theorem kw_21 : (.initialized R_Mo : Cond) ∈ GW := gw_of 21 (by decide +kernel) rfl
theorem kw_677 : (.code y_Mo_within b_Mo_within 6 (some .boolean) : Cond) ∈ GW := gw_of 677 (by decide +kernel) rfl
theorem kw_674 : (.constantLong R_Mo 92 5 : Cond) ∈ GW := gw_of 674 (by decide +kernel) rfl
theorem kw_671 : (.methodLink R_Mo 94 y_Mo_isEdition : Cond) ∈ GW := gw_of 671 (by decide +kernel) rfl
theorem kw_672 : (.static y_Mo_isEdition : Cond) ∈ GW := gw_of 672 (by decide +kernel) rfl
theorem kw_673 : (.code y_Mo_isEdition b_Mo_isEdition 1 (some .boolean) : Cond) ∈ GW := gw_of 673 (by decide +kernel) rfl
theorem kw_678 : (.constantLong R_Mo 98 9 : Cond) ∈ GW := gw_of 678 (by decide +kernel) rfl
theorem kw_679 : (.constantLong R_Mo 100 99 : Cond) ∈ GW := gw_of 679 (by decide +kernel) rfl
theorem kw_692 : (.constantLong R_Mo 102 7 : Cond) ∈ GW := gw_of 692 (by decide +kernel) rfl
theorem kw_693 : (.constantLong R_Mo 104 (-12) : Cond) ∈ GW := gw_of 693 (by decide +kernel) rfl
theorem kw_694 : (.constantLong R_Mo 106 12 : Cond) ∈ GW := gw_of 694 (by decide +kernel) rfl
theorem kw_695 : (.constantLong R_Mo 108 3 : Cond) ∈ GW := gw_of 695 (by decide +kernel) rfl
theorem kw_684 : (.methodLink R_Mo 110 y_Mo_isRule : Cond) ∈ GW := gw_of 684 (by decide +kernel) rfl
theorem kw_686 : (.instanceMethod y_Mo_isRule : Cond) ∈ GW := gw_of 686 (by decide +kernel) rfl
theorem kw_7 : (.selects R_Mo y_Mo_isRule y_Mo_isRule : Cond) ∈ GW := gw_of 7 (by decide +kernel) rfl
theorem kw_687 : (.code y_Mo_isRule b_Mo_isRule 2 (some .boolean) : Cond) ∈ GW := gw_of 687 (by decide +kernel) rfl
theorem kw_688 : (.constantLong R_Mo 113 15 : Cond) ∈ GW := gw_of 688 (by decide +kernel) rfl
theorem kw_689 : (.methodLink R_Mo 115 y_Mo_isNumber : Cond) ∈ GW := gw_of 689 (by decide +kernel) rfl
theorem kw_690 : (.static y_Mo_isNumber : Cond) ∈ GW := gw_of 690 (by decide +kernel) rfl
theorem kw_691 : (.code y_Mo_isNumber b_Mo_isNumber 3 (some .boolean) : Cond) ∈ GW := gw_of 691 (by decide +kernel) rfl
theorem kw_591 : (.fieldLink R_Mo 119 "HandlingRulesModel" "high" "I" : Cond) ∈ GW := gw_of 591 (by decide +kernel) rfl
theorem kw_593 : (.fieldLink R_Mo 122 "HandlingRulesModel" "how" "I" : Cond) ∈ GW := gw_of 593 (by decide +kernel) rfl
theorem kw_720 : (.methodLink R_Mo 125 y_Mo_needs : Cond) ∈ GW := gw_of 720 (by decide +kernel) rfl
theorem kw_721 : (.static y_Mo_needs : Cond) ∈ GW := gw_of 721 (by decide +kernel) rfl
theorem kw_722 : (.code y_Mo_needs b_Mo_needs 1 (some .int) : Cond) ∈ GW := gw_of 722 (by decide +kernel) rfl
theorem kw_723 : (.methodLink R_Mo 129 y_Mo_push : Cond) ∈ GW := gw_of 723 (by decide +kernel) rfl
theorem kw_725 : (.instanceMethod y_Mo_push : Cond) ∈ GW := gw_of 725 (by decide +kernel) rfl
theorem kw_11 : (.selects R_Mo y_Mo_push y_Mo_push : Cond) ∈ GW := gw_of 11 (by decide +kernel) rfl
theorem kw_726 : (.code y_Mo_push b_Mo_push 3 none : Cond) ∈ GW := gw_of 726 (by decide +kernel) rfl
theorem kw_727 : (.methodLink R_Mo 133 y_Mo_two : Cond) ∈ GW := gw_of 727 (by decide +kernel) rfl
theorem kw_728 : (.static y_Mo_two : Cond) ∈ GW := gw_of 728 (by decide +kernel) rfl
theorem kw_729 : (.code y_Mo_two b_Mo_two 5 (some .long) : Cond) ∈ GW := gw_of 729 (by decide +kernel) rfl
theorem kw_594 : (.fieldLink R_Mo 137 "HandlingRulesModel" "cellNow" "J" : Cond) ∈ GW := gw_of 594 (by decide +kernel) rfl
theorem kw_730 : (.methodLink R_Mo 141 y_Mo_keepHandle : Cond) ∈ GW := gw_of 730 (by decide +kernel) rfl
theorem kw_732 : (.instanceMethod y_Mo_keepHandle : Cond) ∈ GW := gw_of 732 (by decide +kernel) rfl
theorem kw_12 : (.selects R_Mo y_Mo_keepHandle y_Mo_keepHandle : Cond) ∈ GW := gw_of 12 (by decide +kernel) rfl
theorem kw_733 : (.code y_Mo_keepHandle b_Mo_keepHandle 2 none : Cond) ∈ GW := gw_of 733 (by decide +kernel) rfl
theorem kw_583 : (.fieldLink R_Mo 145 "HandlingRulesModel" "handles" "I" : Cond) ∈ GW := gw_of 583 (by decide +kernel) rfl
theorem kw_592 : (.fieldLink R_Mo 148 "HandlingRulesModel" "steps" "I" : Cond) ∈ GW := gw_of 592 (by decide +kernel) rfl
theorem kw_716 : (.methodLink R_Mo 151 y_Mo_perform : Cond) ∈ GW := gw_of 716 (by decide +kernel) rfl
theorem kw_718 : (.instanceMethod y_Mo_perform : Cond) ∈ GW := gw_of 718 (by decide +kernel) rfl
theorem kw_10 : (.selects R_Mo y_Mo_perform y_Mo_perform : Cond) ∈ GW := gw_of 10 (by decide +kernel) rfl
theorem kw_719 : (.code y_Mo_perform b_Mo_perform 11 (some .int) : Cond) ∈ GW := gw_of 719 (by decide +kernel) rfl
theorem kw_585 : (.fieldLink R_Mo 155 "HandlingRulesModel" "failures" "I" : Cond) ∈ GW := gw_of 585 (by decide +kernel) rfl
theorem kw_708 : (.methodLink R_Mo 158 y_Mo_behind : Cond) ∈ GW := gw_of 708 (by decide +kernel) rfl
theorem kw_710 : (.instanceMethod y_Mo_behind : Cond) ∈ GW := gw_of 710 (by decide +kernel) rfl
theorem kw_8 : (.selects R_Mo y_Mo_behind y_Mo_behind : Cond) ∈ GW := gw_of 8 (by decide +kernel) rfl
theorem kw_711 : (.code y_Mo_behind b_Mo_behind 6 (some .int) : Cond) ∈ GW := gw_of 711 (by decide +kernel) rfl
theorem kw_712 : (.methodLink R_Mo 161 y_Mo_doAll : Cond) ∈ GW := gw_of 712 (by decide +kernel) rfl
theorem kw_714 : (.instanceMethod y_Mo_doAll : Cond) ∈ GW := gw_of 714 (by decide +kernel) rfl
theorem kw_9 : (.selects R_Mo y_Mo_doAll y_Mo_doAll : Cond) ∈ GW := gw_of 9 (by decide +kernel) rfl
theorem kw_715 : (.code y_Mo_doAll b_Mo_doAll 3 none : Cond) ∈ GW := gw_of 715 (by decide +kernel) rfl
theorem kw_738 : (.constantLong R_Mo 164 100000 : Cond) ∈ GW := gw_of 738 (by decide +kernel) rfl
theorem kw_582 : (.fieldLink R_Mo 166 "HandlingRulesModel" "tells" "I" : Cond) ∈ GW := gw_of 582 (by decide +kernel) rfl
theorem kw_743 : (.methodLink R_Mo 169 y_Mo_give : Cond) ∈ GW := gw_of 743 (by decide +kernel) rfl
theorem kw_745 : (.instanceMethod y_Mo_give : Cond) ∈ GW := gw_of 745 (by decide +kernel) rfl
theorem kw_13 : (.selects R_Mo y_Mo_give y_Mo_give : Cond) ∈ GW := gw_of 13 (by decide +kernel) rfl
theorem kw_746 : (.code y_Mo_give b_Mo_give 5 none : Cond) ∈ GW := gw_of 746 (by decide +kernel) rfl
theorem kw_767 : (.constantLong R_Mo 173 2 : Cond) ∈ GW := gw_of 767 (by decide +kernel) rfl
theorem kw_772 : (.methodLink R_Mo 175 y_Mo_hasNumber : Cond) ∈ GW := gw_of 772 (by decide +kernel) rfl
theorem kw_773 : (.static y_Mo_hasNumber : Cond) ∈ GW := gw_of 773 (by decide +kernel) rfl
theorem kw_774 : (.code y_Mo_hasNumber b_Mo_hasNumber 1 (some .boolean) : Cond) ∈ GW := gw_of 774 (by decide +kernel) rfl
theorem kw_779 : (.constantLong R_Mo 178 (-101) : Cond) ∈ GW := gw_of 779 (by decide +kernel) rfl
theorem kw_462 : (.methodLink R_La 7 y_Hr_divide : Cond) ∈ GW := gw_of 462 (by decide +kernel) rfl
theorem kw_463 : (.instanceMethod y_Hr_divide : Cond) ∈ GW := gw_of 463 (by decide +kernel) rfl
theorem kw_464 : (.selects R_Hr y_Hr_divide y_Hr_divide : Cond) ∈ GW := gw_of 464 (by decide +kernel) rfl
theorem kw_465 : (.code y_Hr_divide b_Hr_divide 6 (some .long) : Cond) ∈ GW := gw_of 465 (by decide +kernel) rfl
theorem kw_539 : (.methodLink R_La 15 y_Hr_handle : Cond) ∈ GW := gw_of 539 (by decide +kernel) rfl
theorem kw_540 : (.instanceMethod y_Hr_handle : Cond) ∈ GW := gw_of 540 (by decide +kernel) rfl
theorem kw_541 : (.selects R_Hr y_Hr_handle y_Hr_handle : Cond) ∈ GW := gw_of 541 (by decide +kernel) rfl
theorem kw_542 : (.code y_Hr_handle b_Hr_handle 2 (some .int) : Cond) ∈ GW := gw_of 542 (by decide +kernel) rfl
theorem kw_28 : (.classLink R_La 8 R_Hr : Cond) ∈ GW := gw_of 28 (by decide +kernel) rfl
theorem kw_455 : (.methodLink R_La 21 y_La_cell : Cond) ∈ GW := gw_of 455 (by decide +kernel) rfl
theorem kw_456 : (.static y_La_cell : Cond) ∈ GW := gw_of 456 (by decide +kernel) rfl
theorem kw_14 : (.initialized R_La : Cond) ∈ GW := gw_of 14 (by decide +kernel) rfl
theorem kw_457 : (.code y_La_cell b_La_cell 2 (some .int) : Cond) ∈ GW := gw_of 457 (by decide +kernel) rfl
theorem kw_30 : (.methodLink R_La 27 y_Hr_init : Cond) ∈ GW := gw_of 30 (by decide +kernel) rfl
theorem kw_31 : (.instanceMethod y_Hr_init : Cond) ∈ GW := gw_of 31 (by decide +kernel) rfl
theorem kw_32 : (.code y_Hr_init b_Hr_init 3 none : Cond) ∈ GW := gw_of 32 (by decide +kernel) rfl
theorem kw_559 : (.classLink R_La 30 R_Mo : Cond) ∈ GW := gw_of 559 (by decide +kernel) rfl
theorem kw_561 : (.methodLink R_La 32 y_Mo_init : Cond) ∈ GW := gw_of 561 (by decide +kernel) rfl
theorem kw_562 : (.instanceMethod y_Mo_init : Cond) ∈ GW := gw_of 562 (by decide +kernel) rfl
theorem kw_563 : (.code y_Mo_init b_Mo_init 2 none : Cond) ∈ GW := gw_of 563 (by decide +kernel) rfl
theorem kw_169 : (.methodLink R_La 33 y_Hr_rule : Cond) ∈ GW := gw_of 169 (by decide +kernel) rfl
theorem kw_170 : (.instanceMethod y_Hr_rule : Cond) ∈ GW := gw_of 170 (by decide +kernel) rfl
theorem kw_171 : (.selects R_Hr y_Hr_rule y_Hr_rule : Cond) ∈ GW := gw_of 171 (by decide +kernel) rfl
theorem kw_172 : (.code y_Hr_rule b_Hr_rule 6 (some .int) : Cond) ∈ GW := gw_of 172 (by decide +kernel) rfl
theorem kw_667 : (.methodLink R_La 37 y_Mo_rule : Cond) ∈ GW := gw_of 667 (by decide +kernel) rfl
theorem kw_668 : (.instanceMethod y_Mo_rule : Cond) ∈ GW := gw_of 668 (by decide +kernel) rfl
theorem kw_669 : (.selects R_Mo y_Mo_rule y_Mo_rule : Cond) ∈ GW := gw_of 669 (by decide +kernel) rfl
theorem kw_670 : (.code y_Mo_rule b_Mo_rule 4 (some .int) : Cond) ∈ GW := gw_of 670 (by decide +kernel) rfl
theorem kw_784 : (.constantLong R_La 38 4294967295 : Cond) ∈ GW := gw_of 784 (by decide +kernel) rfl
theorem kw_237 : (.methodLink R_La 40 y_Hr_code : Cond) ∈ GW := gw_of 237 (by decide +kernel) rfl
theorem kw_238 : (.instanceMethod y_Hr_code : Cond) ∈ GW := gw_of 238 (by decide +kernel) rfl
theorem kw_239 : (.selects R_Hr y_Hr_code y_Hr_code : Cond) ∈ GW := gw_of 239 (by decide +kernel) rfl
theorem kw_240 : (.code y_Hr_code b_Hr_code 6 (some .int) : Cond) ∈ GW := gw_of 240 (by decide +kernel) rfl
theorem kw_680 : (.methodLink R_La 44 y_Mo_code : Cond) ∈ GW := gw_of 680 (by decide +kernel) rfl
theorem kw_681 : (.instanceMethod y_Mo_code : Cond) ∈ GW := gw_of 681 (by decide +kernel) rfl
theorem kw_682 : (.selects R_Mo y_Mo_code y_Mo_code : Cond) ∈ GW := gw_of 682 (by decide +kernel) rfl
theorem kw_683 : (.code y_Mo_code b_Mo_code 5 (some .int) : Cond) ∈ GW := gw_of 683 (by decide +kernel) rfl
theorem kw_260 : (.methodLink R_La 45 y_Hr_fallback : Cond) ∈ GW := gw_of 260 (by decide +kernel) rfl
theorem kw_261 : (.instanceMethod y_Hr_fallback : Cond) ∈ GW := gw_of 261 (by decide +kernel) rfl
theorem kw_262 : (.selects R_Hr y_Hr_fallback y_Hr_fallback : Cond) ∈ GW := gw_of 262 (by decide +kernel) rfl
theorem kw_263 : (.code y_Hr_fallback b_Hr_fallback 6 (some .int) : Cond) ∈ GW := gw_of 263 (by decide +kernel) rfl
theorem kw_696 : (.methodLink R_La 48 y_Mo_fallback : Cond) ∈ GW := gw_of 696 (by decide +kernel) rfl
theorem kw_697 : (.instanceMethod y_Mo_fallback : Cond) ∈ GW := gw_of 697 (by decide +kernel) rfl
theorem kw_698 : (.selects R_Mo y_Mo_fallback y_Mo_fallback : Cond) ∈ GW := gw_of 698 (by decide +kernel) rfl
theorem kw_699 : (.code y_Mo_fallback b_Mo_fallback 5 (some .int) : Cond) ∈ GW := gw_of 699 (by decide +kernel) rfl
theorem kw_264 : (.methodLink R_La 49 y_Hr_fact : Cond) ∈ GW := gw_of 264 (by decide +kernel) rfl
theorem kw_265 : (.instanceMethod y_Hr_fact : Cond) ∈ GW := gw_of 265 (by decide +kernel) rfl
theorem kw_266 : (.selects R_Hr y_Hr_fact y_Hr_fact : Cond) ∈ GW := gw_of 266 (by decide +kernel) rfl
theorem kw_267 : (.code y_Hr_fact b_Hr_fact 4 (some .int) : Cond) ∈ GW := gw_of 267 (by decide +kernel) rfl
theorem kw_700 : (.methodLink R_La 53 y_Mo_fact : Cond) ∈ GW := gw_of 700 (by decide +kernel) rfl
theorem kw_701 : (.instanceMethod y_Mo_fact : Cond) ∈ GW := gw_of 701 (by decide +kernel) rfl
theorem kw_702 : (.selects R_Mo y_Mo_fact y_Mo_fact : Cond) ∈ GW := gw_of 702 (by decide +kernel) rfl
theorem kw_703 : (.code y_Mo_fact b_Mo_fact 4 (some .int) : Cond) ∈ GW := gw_of 703 (by decide +kernel) rfl
theorem kw_272 : (.methodLink R_La 54 y_Hr_test : Cond) ∈ GW := gw_of 272 (by decide +kernel) rfl
theorem kw_273 : (.instanceMethod y_Hr_test : Cond) ∈ GW := gw_of 273 (by decide +kernel) rfl
theorem kw_274 : (.selects R_Hr y_Hr_test y_Hr_test : Cond) ∈ GW := gw_of 274 (by decide +kernel) rfl
theorem kw_275 : (.code y_Hr_test b_Hr_test 6 (some .int) : Cond) ∈ GW := gw_of 275 (by decide +kernel) rfl
theorem kw_704 : (.methodLink R_La 57 y_Mo_test : Cond) ∈ GW := gw_of 704 (by decide +kernel) rfl
theorem kw_705 : (.instanceMethod y_Mo_test : Cond) ∈ GW := gw_of 705 (by decide +kernel) rfl
theorem kw_706 : (.selects R_Mo y_Mo_test y_Mo_test : Cond) ∈ GW := gw_of 706 (by decide +kernel) rfl
theorem kw_707 : (.code y_Mo_test b_Mo_test 4 (some .int) : Cond) ∈ GW := gw_of 707 (by decide +kernel) rfl
theorem kw_368 : (.methodLink R_La 58 y_Hr_day : Cond) ∈ GW := gw_of 368 (by decide +kernel) rfl
theorem kw_369 : (.instanceMethod y_Hr_day : Cond) ∈ GW := gw_of 369 (by decide +kernel) rfl
theorem kw_370 : (.selects R_Hr y_Hr_day y_Hr_day : Cond) ∈ GW := gw_of 370 (by decide +kernel) rfl
theorem kw_371 : (.code y_Hr_day b_Hr_day 4 (some .int) : Cond) ∈ GW := gw_of 371 (by decide +kernel) rfl
theorem kw_734 : (.methodLink R_La 62 y_Mo_day : Cond) ∈ GW := gw_of 734 (by decide +kernel) rfl
theorem kw_735 : (.instanceMethod y_Mo_day : Cond) ∈ GW := gw_of 735 (by decide +kernel) rfl
theorem kw_736 : (.selects R_Mo y_Mo_day y_Mo_day : Cond) ∈ GW := gw_of 736 (by decide +kernel) rfl
theorem kw_737 : (.code y_Mo_day b_Mo_day 3 (some .int) : Cond) ∈ GW := gw_of 737 (by decide +kernel) rfl
theorem kw_373 : (.methodLink R_La 63 y_Hr_ask : Cond) ∈ GW := gw_of 373 (by decide +kernel) rfl
theorem kw_374 : (.instanceMethod y_Hr_ask : Cond) ∈ GW := gw_of 374 (by decide +kernel) rfl
theorem kw_375 : (.selects R_Hr y_Hr_ask y_Hr_ask : Cond) ∈ GW := gw_of 375 (by decide +kernel) rfl
theorem kw_376 : (.code y_Hr_ask b_Hr_ask 5 (some .int) : Cond) ∈ GW := gw_of 376 (by decide +kernel) rfl
theorem kw_739 : (.methodLink R_La 66 y_Mo_ask : Cond) ∈ GW := gw_of 739 (by decide +kernel) rfl
theorem kw_740 : (.instanceMethod y_Mo_ask : Cond) ∈ GW := gw_of 740 (by decide +kernel) rfl
theorem kw_741 : (.selects R_Mo y_Mo_ask y_Mo_ask : Cond) ∈ GW := gw_of 741 (by decide +kernel) rfl
theorem kw_742 : (.code y_Mo_ask b_Mo_ask 6 (some .int) : Cond) ∈ GW := gw_of 742 (by decide +kernel) rfl
theorem kw_417 : (.methodLink R_La 67 y_Hr_answer : Cond) ∈ GW := gw_of 417 (by decide +kernel) rfl
theorem kw_418 : (.instanceMethod y_Hr_answer : Cond) ∈ GW := gw_of 418 (by decide +kernel) rfl
theorem kw_419 : (.selects R_Hr y_Hr_answer y_Hr_answer : Cond) ∈ GW := gw_of 419 (by decide +kernel) rfl
theorem kw_420 : (.code y_Hr_answer b_Hr_answer 2 (some .long) : Cond) ∈ GW := gw_of 420 (by decide +kernel) rfl
theorem kw_747 : (.methodLink R_La 71 y_Mo_answer : Cond) ∈ GW := gw_of 747 (by decide +kernel) rfl
theorem kw_748 : (.instanceMethod y_Mo_answer : Cond) ∈ GW := gw_of 748 (by decide +kernel) rfl
theorem kw_749 : (.selects R_Mo y_Mo_answer y_Mo_answer : Cond) ∈ GW := gw_of 749 (by decide +kernel) rfl
theorem kw_750 : (.code y_Mo_answer b_Mo_answer 2 (some .long) : Cond) ∈ GW := gw_of 750 (by decide +kernel) rfl
theorem kw_422 : (.methodLink R_La 72 y_Hr_by : Cond) ∈ GW := gw_of 422 (by decide +kernel) rfl
theorem kw_423 : (.instanceMethod y_Hr_by : Cond) ∈ GW := gw_of 423 (by decide +kernel) rfl
theorem kw_424 : (.selects R_Hr y_Hr_by y_Hr_by : Cond) ∈ GW := gw_of 424 (by decide +kernel) rfl
theorem kw_425 : (.code y_Hr_by b_Hr_by 2 (some .int) : Cond) ∈ GW := gw_of 425 (by decide +kernel) rfl
theorem kw_751 : (.methodLink R_La 75 y_Mo_by : Cond) ∈ GW := gw_of 751 (by decide +kernel) rfl
theorem kw_752 : (.instanceMethod y_Mo_by : Cond) ∈ GW := gw_of 752 (by decide +kernel) rfl
theorem kw_753 : (.selects R_Mo y_Mo_by y_Mo_by : Cond) ∈ GW := gw_of 753 (by decide +kernel) rfl
theorem kw_754 : (.code y_Mo_by b_Mo_by 2 (some .int) : Cond) ∈ GW := gw_of 754 (by decide +kernel) rfl
theorem kw_427 : (.methodLink R_La 76 y_Hr_failed : Cond) ∈ GW := gw_of 427 (by decide +kernel) rfl
theorem kw_428 : (.instanceMethod y_Hr_failed : Cond) ∈ GW := gw_of 428 (by decide +kernel) rfl
theorem kw_429 : (.selects R_Hr y_Hr_failed y_Hr_failed : Cond) ∈ GW := gw_of 429 (by decide +kernel) rfl
theorem kw_430 : (.code y_Hr_failed b_Hr_failed 3 (some .int) : Cond) ∈ GW := gw_of 430 (by decide +kernel) rfl
theorem kw_755 : (.methodLink R_La 79 y_Mo_failed : Cond) ∈ GW := gw_of 755 (by decide +kernel) rfl
theorem kw_756 : (.instanceMethod y_Mo_failed : Cond) ∈ GW := gw_of 756 (by decide +kernel) rfl
theorem kw_757 : (.selects R_Mo y_Mo_failed y_Mo_failed : Cond) ∈ GW := gw_of 757 (by decide +kernel) rfl
theorem kw_758 : (.code y_Mo_failed b_Mo_failed 3 (some .int) : Cond) ∈ GW := gw_of 758 (by decide +kernel) rfl
theorem kw_439 : (.methodLink R_La 80 y_Hr_cell : Cond) ∈ GW := gw_of 439 (by decide +kernel) rfl
theorem kw_440 : (.instanceMethod y_Hr_cell : Cond) ∈ GW := gw_of 440 (by decide +kernel) rfl
theorem kw_441 : (.selects R_Hr y_Hr_cell y_Hr_cell : Cond) ∈ GW := gw_of 441 (by decide +kernel) rfl
theorem kw_442 : (.code y_Hr_cell b_Hr_cell 3 (some .long) : Cond) ∈ GW := gw_of 442 (by decide +kernel) rfl
theorem kw_759 : (.methodLink R_La 82 y_Mo_cell : Cond) ∈ GW := gw_of 759 (by decide +kernel) rfl
theorem kw_760 : (.instanceMethod y_Mo_cell : Cond) ∈ GW := gw_of 760 (by decide +kernel) rfl
theorem kw_761 : (.selects R_Mo y_Mo_cell y_Mo_cell : Cond) ∈ GW := gw_of 761 (by decide +kernel) rfl
theorem kw_762 : (.code y_Mo_cell b_Mo_cell 2 (some .long) : Cond) ∈ GW := gw_of 762 (by decide +kernel) rfl
theorem kw_443 : (.methodLink R_La 83 y_Hr_edition : Cond) ∈ GW := gw_of 443 (by decide +kernel) rfl
theorem kw_444 : (.instanceMethod y_Hr_edition : Cond) ∈ GW := gw_of 444 (by decide +kernel) rfl
theorem kw_445 : (.selects R_Hr y_Hr_edition y_Hr_edition : Cond) ∈ GW := gw_of 445 (by decide +kernel) rfl
theorem kw_446 : (.code y_Hr_edition b_Hr_edition 4 (some .int) : Cond) ∈ GW := gw_of 446 (by decide +kernel) rfl
theorem kw_763 : (.methodLink R_La 86 y_Mo_edition : Cond) ∈ GW := gw_of 763 (by decide +kernel) rfl
theorem kw_764 : (.instanceMethod y_Mo_edition : Cond) ∈ GW := gw_of 764 (by decide +kernel) rfl
theorem kw_765 : (.selects R_Mo y_Mo_edition y_Mo_edition : Cond) ∈ GW := gw_of 765 (by decide +kernel) rfl
theorem kw_766 : (.code y_Mo_edition b_Mo_edition 3 (some .int) : Cond) ∈ GW := gw_of 766 (by decide +kernel) rfl
theorem kw_447 : (.methodLink R_La 87 y_Hr_same : Cond) ∈ GW := gw_of 447 (by decide +kernel) rfl
theorem kw_448 : (.instanceMethod y_Hr_same : Cond) ∈ GW := gw_of 448 (by decide +kernel) rfl
theorem kw_449 : (.selects R_Hr y_Hr_same y_Hr_same : Cond) ∈ GW := gw_of 449 (by decide +kernel) rfl
theorem kw_450 : (.code y_Hr_same b_Hr_same 5 (some .boolean) : Cond) ∈ GW := gw_of 450 (by decide +kernel) rfl
theorem kw_768 : (.methodLink R_La 91 y_Mo_same : Cond) ∈ GW := gw_of 768 (by decide +kernel) rfl
theorem kw_769 : (.instanceMethod y_Mo_same : Cond) ∈ GW := gw_of 769 (by decide +kernel) rfl
theorem kw_770 : (.selects R_Mo y_Mo_same y_Mo_same : Cond) ∈ GW := gw_of 770 (by decide +kernel) rfl
theorem kw_771 : (.code y_Mo_same b_Mo_same 6 (some .boolean) : Cond) ∈ GW := gw_of 771 (by decide +kernel) rfl
theorem kw_458 : (.methodLink R_La 92 y_La_divide : Cond) ∈ GW := gw_of 458 (by decide +kernel) rfl
theorem kw_459 : (.static y_La_divide : Cond) ∈ GW := gw_of 459 (by decide +kernel) rfl
theorem kw_775 : (.methodLink R_La 95 y_Mo_divide : Cond) ∈ GW := gw_of 775 (by decide +kernel) rfl
theorem kw_776 : (.instanceMethod y_Mo_divide : Cond) ∈ GW := gw_of 776 (by decide +kernel) rfl
theorem kw_777 : (.selects R_Mo y_Mo_divide y_Mo_divide : Cond) ∈ GW := gw_of 777 (by decide +kernel) rfl
theorem kw_778 : (.code y_Mo_divide b_Mo_divide 6 (some .long) : Cond) ∈ GW := gw_of 778 (by decide +kernel) rfl
theorem kw_663 : (.methodLink R_La 96 y_Mo_thrown : Cond) ∈ GW := gw_of 663 (by decide +kernel) rfl
theorem kw_664 : (.instanceMethod y_Mo_thrown : Cond) ∈ GW := gw_of 664 (by decide +kernel) rfl
theorem kw_665 : (.selects R_Mo y_Mo_thrown y_Mo_thrown : Cond) ∈ GW := gw_of 665 (by decide +kernel) rfl
theorem kw_666 : (.code y_Mo_thrown b_Mo_thrown 1 (some .int) : Cond) ∈ GW := gw_of 666 (by decide +kernel) rfl
theorem kw_535 : (.methodLink R_La 100 y_La_handle : Cond) ∈ GW := gw_of 535 (by decide +kernel) rfl
theorem kw_536 : (.static y_La_handle : Cond) ∈ GW := gw_of 536 (by decide +kernel) rfl
theorem kw_780 : (.methodLink R_La 103 y_Mo_handle : Cond) ∈ GW := gw_of 780 (by decide +kernel) rfl
theorem kw_781 : (.instanceMethod y_Mo_handle : Cond) ∈ GW := gw_of 781 (by decide +kernel) rfl
theorem kw_782 : (.selects R_Mo y_Mo_handle y_Mo_handle : Cond) ∈ GW := gw_of 782 (by decide +kernel) rfl
theorem kw_783 : (.code y_Mo_handle b_Mo_handle 2 (some .int) : Cond) ∈ GW := gw_of 783 (by decide +kernel) rfl
theorem kw_47 : (.instantiable R_An 2 : Cond) ∈ GW := gw_of 47 (by decide +kernel) rfl
theorem kw_118 : (.instantiable R_Ed 5 : Cond) ∈ GW := gw_of 118 (by decide +kernel) rfl
theorem kw_96 : (.instantiable R_Fa 3 : Cond) ∈ GW := gw_of 96 (by decide +kernel) rfl
theorem kw_182 : (.instantiable R_Ru 10 : Cond) ∈ GW := gw_of 182 (by decide +kernel) rfl
theorem kw_41 : (.instantiable R_Rn 9 : Cond) ∈ GW := gw_of 41 (by decide +kernel) rfl
theorem kw_29 : (.instantiable R_Hr 8 : Cond) ∈ GW := gw_of 29 (by decide +kernel) rfl
theorem kw_560 : (.instantiable R_Mo 32 : Cond) ∈ GW := gw_of 560 (by decide +kernel) rfl
theorem kw_34 : (.instanceMethod objectInit : Cond) ∈ GW := gw_of 34 (by decide +kernel) rfl
theorem kw_60 : (.arrayClass .int : Cond) ∈ GW := gw_of 60 (by decide +kernel) rfl
theorem kw_59 : (.arrayClass .long : Cond) ∈ GW := gw_of 59 (by decide +kernel) rfl
theorem kw_662 : (.arrayClass .boolean : Cond) ∈ GW := gw_of 662 (by decide +kernel) rfl
theorem kw_oc : (Cond.code objectInit ⟨#[0xb1]⟩ 1 none : Cond) ∈ GW := gw_of 35 (by decide +kernel) rfl
def nestL : List (String × Nat × MethodName × String) := [(R_An, 21, y_Hr_isWithin, R_Hr), (R_Rn, 77, y_Hr_takesTwo, R_Hr), (R_Rn, 85, y_Hr_combine, R_Hr), (R_Rn, 120, y_Hr_takes, R_Hr), (R_Rn, 123, y_Hr_puts, R_Hr), (R_Rn, 129, y_Hr_isWithin, R_Hr), (R_Hr, 30, y_Rn_init, R_Hr), (R_Hr, 44, y_Fa_init, R_Hr), (R_Hr, 61, y_Ed_init, R_Hr)]
theorem nw_0 : (R_An, 21, y_Hr_isWithin, R_Hr) ∈ nestL := List.mem_of_getElem? (i := 0) rfl
theorem nw_1 : (R_Rn, 77, y_Hr_takesTwo, R_Hr) ∈ nestL := List.mem_of_getElem? (i := 1) rfl
theorem nw_2 : (R_Rn, 85, y_Hr_combine, R_Hr) ∈ nestL := List.mem_of_getElem? (i := 2) rfl
theorem nw_3 : (R_Rn, 120, y_Hr_takes, R_Hr) ∈ nestL := List.mem_of_getElem? (i := 3) rfl
theorem nw_4 : (R_Rn, 123, y_Hr_puts, R_Hr) ∈ nestL := List.mem_of_getElem? (i := 4) rfl
theorem nw_5 : (R_Rn, 129, y_Hr_isWithin, R_Hr) ∈ nestL := List.mem_of_getElem? (i := 5) rfl
theorem nw_6 : (R_Hr, 30, y_Rn_init, R_Hr) ∈ nestL := List.mem_of_getElem? (i := 6) rfl
theorem nw_7 : (R_Hr, 44, y_Fa_init, R_Hr) ∈ nestL := List.mem_of_getElem? (i := 7) rfl
theorem nw_8 : (R_Hr, 61, y_Ed_init, R_Hr) ∈ nestL := List.mem_of_getElem? (i := 8) rfl
end
section
-- own rows over the kit: contracts' starts and ends, calls with their frame, branches on longs, switches
theorem gC {c : Cond} {y : MethodName} {b : ByteArray} {mx : Nat} {rt : Option FieldType} (h5 : Cond.code y b mx rt ∈ GW) : GoodIn (c :: GW) (Cond.code y b mx rt :: GW) := fun w hw => by
  rcases List.mem_cons.mp hw with rfl | hw
  · exact gw_good _ h5
  · exact gw_good _ hw
theorem gV {c : Cond} {own C : String} {idx : Nat} {y : MethodName} {b : ByteArray} {mx : Nat} {rt : Option FieldType} (h1 : Cond.methodLink own idx y ∈ GW) (h2 : Cond.instanceMethod y ∈ GW) (h3 : Cond.selects C y y ∈ GW) (h4 : Cond.initialized C ∈ GW) (h5 : Cond.code y b mx rt ∈ GW) : GoodIn (c :: GW) (wsV own idx C y (Cond.code y b mx rt :: GW)) := fun w hw => by
  unfold wsV at hw
  rcases List.mem_append.mp hw with hw | hw
  · simp only [List.mem_cons, List.not_mem_nil, or_false] at hw
    rcases hw with rfl | rfl | rfl | rfl
    · exact gw_good _ h1
    · exact gw_good _ h2
    · exact gw_good _ h3
    · exact gw_good _ h4
  · exact gC h5 w hw
theorem gS {c : Cond} {own : String} {idx : Nat} {y : MethodName} {b : ByteArray} {mx : Nat} {rt : Option FieldType} (h1 : Cond.methodLink own idx y ∈ GW) (h2 : Cond.static y ∈ GW) (h4 : Cond.initialized y.cls ∈ GW) (h5 : Cond.code y b mx rt ∈ GW) : GoodIn (c :: GW) (va_wsS own idx y (Cond.code y b mx rt :: GW)) := fun w hw => by
  unfold va_wsS at hw
  rcases List.mem_append.mp hw with hw | hw
  · simp only [List.mem_cons, List.not_mem_nil, or_false] at hw
    rcases hw with rfl | rfl | rfl
    · exact gw_good _ h1
    · exact gw_good _ h2
    · exact gw_good _ h4
  · exact gC h5 w hw
/-- words of nest mates, and of arrays over own classes: they hold at every state that a call comes to -/
def NW (U : State) : Prop := (∀ q ∈ nestL, va_Nw (.methodLinkNest q.1 q.2.1 q.2.2.1 q.2.2.2) U) ∧ va_AO R_Ru U ∧ va_AO R_Ed U
theorem NW.warm {s U : State} (hW : s.WarmedH U.vm) (h : NW s) : NW U := ⟨fun q hq => va_Nw.warmM hW (h.1 q hq), va_AO.moved hW.alike h.2.1, va_AO.moved hW.alike h.2.2⟩
theorem NW.calling {U : State} {g : JFrame} {mk : MethodId} {a : Array Value} (h : NW U) : NW (U.calling g mk a) := ⟨fun q hq => va_Nw.same rfl (u := U) rfl (h.1 q hq), va_AO.moved (u := U) (Vm.Alike.refl U.vm) h.2.1, va_AO.moved (u := U) (Vm.Alike.refl U.vm) h.2.2⟩
abbrev preR (G : va_G) (tys : List (ClassId × FieldType)) (av : List Value) (ws : va_W) : Array Value → State → Prop := va_Pc av (fun U => va_P G vwCl ws U.heap ∧ va_K G vwCl tys U ∧ NW U)
abbrev preW (G : va_G) (tys : List (ClassId × FieldType)) (av : List Value) (sz : Nat) (ws : va_W) : Array Value → State → Prop := va_Pc av (fun U => U.heap.size = sz ∧ va_P G vwCl ws U.heap ∧ va_K G vwCl tys U ∧ va_D (fun _ => True) ws ∧ NW U)
theorem preR_blind {G : va_G} {tys : List (ClassId × FieldType)} {av : List Value} {ws : va_W} : FrameBlind (preR G tys av ws) := fun a U g mk q => by
  obtain ⟨q0, qP, qK, qN⟩ := q
  exact ⟨q0, qP, va_K.moved (u := U) (U := U.calling g mk a) (Vm.Alike.refl U.vm) qK, qN.calling⟩
theorem preW_blind {G : va_G} {tys : List (ClassId × FieldType)} {av : List Value} {sz : Nat} {ws : va_W} : FrameBlind (preW G tys av sz ws) := fun a U g mk q => by
  obtain ⟨q0, q1, qP, qK, qD, qN⟩ := q
  exact ⟨q0, q1, qP, va_K.moved (u := U) (U := U.calling g mk a) (Vm.Alike.refl U.vm) qK, qD, qN.calling⟩
theorem preRS_of {G : va_G} {tys : List (ClassId × FieldType)} {s : State} {H : Heap} {ws cx : va_W} {As : List Value} (hN : NW s) (hK : va_K G vwCl tys s) (hP : va_P G vwCl ws H) (is : List Nat) (hs : is.filterMap (fun i => ws[i]?) = cx) : PreS s H (preR G tys As cx) As :=
  ⟨preR_blind, fun U hU hW => ⟨rfl, by rw [hU]; exact hP.sub is hs, va_K.moved hW.alike hK, hN.warm hW⟩⟩
theorem preRV_of {G : va_G} {tys : List (ClassId × FieldType)} {s : State} {H : Heap} {ws cx : va_W} {As : List Value} {b ci : Nat} {q : vw_C} {fs : List Value} (hN : NW s) (hK : va_K G vwCl tys s) (hP : va_P G vwCl ws H) (is : List Nat) (hs : is.filterMap (fun i => ws[i]?) = cx) (hc : vwCl[ci]? = some q) (he : cx[0]? = some (b, .inr (ci, fs))) : PreV s H q.1 b (preR G tys (.ref b :: As) cx) As :=
  ⟨preR_blind, va_recv hK (hP.sub is hs) hc he, fun U hU hW => ⟨rfl, by rw [hU]; exact hP.sub is hs, va_K.moved hW.alike hK, hN.warm hW⟩⟩
theorem preWS_of {G : va_G} {tys : List (ClassId × FieldType)} {s : State} {H : Heap} {A : Nat → Prop} {ws cx : va_W} {As : List Value} (hN : NW s) (hK : va_K G vwCl tys s) (hP : va_P G vwCl ws H) (hD : va_D A ws) (is : List Nat) (hn : va_nd is = true) (hs : is.map (fun i => ws[i]?) = cx.map some) : PreS s H (preW G tys As H.size cx) As :=
  ⟨preW_blind, fun U hU hW => ⟨rfl, by rw [hU], by
    rw [hU]
    intro k x hk
    obtain ⟨i, -, hi⟩ := va_in_of is hs hk
    exact hP i x hi, va_K.moved hW.alike hK, (hD.sub is hn hs).weaken (fun _ _ _ _ => trivial), hN.warm hW⟩⟩
theorem preWV_of {G : va_G} {tys : List (ClassId × FieldType)} {s : State} {H : Heap} {A : Nat → Prop} {ws cx : va_W} {As : List Value} {b ci : Nat} {q : vw_C} {fs : List Value} (hN : NW s) (hK : va_K G vwCl tys s) (hP : va_P G vwCl ws H) (hD : va_D A ws) (is : List Nat) (hn : va_nd is = true) (hs : is.map (fun i => ws[i]?) = cx.map some) (hc : vwCl[ci]? = some q) (he : cx[0]? = some (b, .inr (ci, fs))) : PreV s H q.1 b (preW G tys (.ref b :: As) H.size cx) As := by
  have hPc : va_P G vwCl cx H := by
    intro k x hk
    obtain ⟨i, -, hi⟩ := va_in_of is hs hk
    exact hP i x hi
  exact ⟨preW_blind, va_recv hK hPc hc he, fun U hU hW => ⟨rfl, by rw [hU], by rw [hU]; exact hPc, va_K.moved hW.alike hK, (hD.sub is hn hs).weaken (fun _ _ _ _ => trivial), hN.warm hW⟩⟩
section LIBC
variable {p : Program} {l : Launch} {e : Env} {R : Room} {s : State} {m : MethodId} {args : Array Value} {below : List Frame} {meth : Method} {c : Code} {H : Heap} {locs : List Loc} {cells slots : Nat} {Q : State → Prop}
variable {pc : Nat} {ls : Array Slot} {rest st0 : List Value} {a : Array Value} {A0 : Nat → Prop} {H0 : Heap} {mc ms : Nat}
variable {G : va_G} {tys : List (ClassId × FieldType)} {X cx : va_W}
theorem run_of {g : JFrame} {Qa : State → Outcome → State → Prop} {free : Addr → Prop} (h : va_Run p l e R s m args below meth c H locs cells slots mc ms g rest Qa free) : CallRun p l e R s m args below meth c H locs cells slots mc ms g rest Qa free := by
  intro T hT X
  obtain ⟨v, st₀, t, T', L, h0, X', hL, e1, e2, hq, st⟩ := h T hT X
  exact ⟨v, st₀, t, T', L, h0, X', hL, e1, hq, st⟩
theorem cl_i {S : Type} {post : Int32 → S → Prop} {WS : S → va_W} (hK : va_K G vwCl tys s) (hP : va_P G vwCl X H) (hD : va_D A0 X) (hS : va_S A0 H0 H locs) (hA : ∀ q, H0.size ≤ q → A0 q)
    (hr : va_Run p l e R s m args below meth c H locs cells slots mc ms (F0 m pc ls st0) rest (va_Qi post (fun u t => va_P G vwCl (WS u) t.heap ∧ va_K G vwCl tys t ∧ va_D (va_A cx H.size) (WS u)) (va_A cx H.size) a) (va_A cx H.size))
    (isC isR : List Nat) (hC : isC.map (fun i => X[i]?) = cx.map some) (hR : isR.map (fun i => X[i]?) = (isR.filterMap (fun i => X[i]?)).map some) (hn : va_nd isR = true) (hdis : ∀ i ∈ isR, i ∉ isC)
    (kk : ∀ (r : Int32) (u : S) (H1 : Heap) (locs1 : List Loc), post r u → va_P G vwCl (isR.filterMap (fun i => X[i]?) ++ WS u) H1 → va_D A0 (isR.filterMap (fun i => X[i]?) ++ WS u) → va_S A0 H0 H1 locs1 → W p l e R s m args below meth c H1 locs1 (cells + mc) (slots + ms) Q (F0 m (pc + 3) ls (.int r :: rest))) : W p l e R s m args below meth c H locs cells slots Q (F0 m pc ls st0) := by
  have hF := va_free hD hS hA isC hC
  refine va_calli hr hS (fun q _ h => hF q h) hF (fun r u t H1 locs1 ht hvm hw hB hz1 hk1 hS1 => ?_)
  obtain ⟨hP1, -, hD1⟩ := hB
  rw [ht] at hP1
  obtain ⟨hP2, hD2⟩ := va_join hP hD isC isR hC hR hn hdis hk1 hF hP1 hD1
  exact kk r u H1 locs1 hw hP2 hD2 hS1
theorem cl_l {S : Type} {post : Int64 → S → Prop} {WS : S → va_W} (hK : va_K G vwCl tys s) (hP : va_P G vwCl X H) (hD : va_D A0 X) (hS : va_S A0 H0 H locs) (hA : ∀ q, H0.size ≤ q → A0 q)
    (hr : va_Run p l e R s m args below meth c H locs cells slots mc ms (F0 m pc ls st0) rest (va_Ql post (fun u t => va_P G vwCl (WS u) t.heap ∧ va_K G vwCl tys t ∧ va_D (va_A cx H.size) (WS u)) (va_A cx H.size) a) (va_A cx H.size))
    (isC isR : List Nat) (hC : isC.map (fun i => X[i]?) = cx.map some) (hR : isR.map (fun i => X[i]?) = (isR.filterMap (fun i => X[i]?)).map some) (hn : va_nd isR = true) (hdis : ∀ i ∈ isR, i ∉ isC)
    (kk : ∀ (r : Int64) (u : S) (H1 : Heap) (locs1 : List Loc), post r u → va_P G vwCl (isR.filterMap (fun i => X[i]?) ++ WS u) H1 → va_D A0 (isR.filterMap (fun i => X[i]?) ++ WS u) → va_S A0 H0 H1 locs1 → W p l e R s m args below meth c H1 locs1 (cells + mc) (slots + ms) Q (F0 m (pc + 3) ls (.long r :: rest))) : W p l e R s m args below meth c H locs cells slots Q (F0 m pc ls st0) := by
  have hF := va_free hD hS hA isC hC
  refine va_calll hr hS (fun q _ h => hF q h) hF (fun r u t H1 locs1 ht hvm hw hB hz1 hk1 hS1 => ?_)
  obtain ⟨hP1, -, hD1⟩ := hB
  rw [ht] at hP1
  obtain ⟨hP2, hD2⟩ := va_join hP hD isC isR hC hR hn hdis hk1 hF hP1 hD1
  exact kk r u H1 locs1 hw hP2 hD2 hS1
theorem cl_v {S : Type} {post : S → Prop} {WS : S → va_W} (hK : va_K G vwCl tys s) (hP : va_P G vwCl X H) (hD : va_D A0 X) (hS : va_S A0 H0 H locs) (hA : ∀ q, H0.size ≤ q → A0 q)
    (hr : va_Run p l e R s m args below meth c H locs cells slots mc ms (F0 m pc ls st0) rest (va_Qv post (fun u t => va_P G vwCl (WS u) t.heap ∧ va_K G vwCl tys t ∧ va_D (va_A cx H.size) (WS u)) (va_A cx H.size) a) (va_A cx H.size))
    (isC isR : List Nat) (hC : isC.map (fun i => X[i]?) = cx.map some) (hR : isR.map (fun i => X[i]?) = (isR.filterMap (fun i => X[i]?)).map some) (hn : va_nd isR = true) (hdis : ∀ i ∈ isR, i ∉ isC)
    (kk : ∀ (u : S) (H1 : Heap) (locs1 : List Loc), post u → va_P G vwCl (isR.filterMap (fun i => X[i]?) ++ WS u) H1 → va_D A0 (isR.filterMap (fun i => X[i]?) ++ WS u) → va_S A0 H0 H1 locs1 → W p l e R s m args below meth c H1 locs1 (cells + mc) (slots + ms) Q (F0 m (pc + 3) ls rest)) : W p l e R s m args below meth c H locs cells slots Q (F0 m pc ls st0) := by
  have hF := va_free hD hS hA isC hC
  refine va_callv hr hS (fun q _ h => hF q h) hF (fun u t H1 locs1 ht hvm hw hB hz1 hk1 hS1 => ?_)
  obtain ⟨hP1, -, hD1⟩ := hB
  rw [ht] at hP1
  obtain ⟨hP2, hD2⟩ := va_join hP hD isC isR hC hR hn hdis hk1 hF hP1 hD1
  exact kk u H1 locs1 hw hP2 hD2 hS1
end LIBC
theorem i32_nn {x : Int32} (h : 0 ≤ x) : ¬ x < 0 := by
  rw [Int32.le_iff_toInt_le] at h
  rw [Int32.lt_iff_toInt_lt]
  omega
theorem i32_nl {x y : Int32} (h : x < y) : ¬ y ≤ x := by
  rw [Int32.lt_iff_toInt_lt] at h
  rw [Int32.le_iff_toInt_le]
  omega
theorem ix_of {x b : Int32} {n : Nat} (h1 : ¬ x < 0) (h2 : ¬ b ≤ x) (hb : b.toInt = (n : Int)) : vp_in x n := by
  rw [vp_in_iff]
  rw [Int32.lt_iff_toInt_lt] at h1
  rw [Int32.le_iff_toInt_le] at h2
  have h0 : (0 : Int32).toInt = 0 := rfl
  omega
section LIBL
variable {p : Program} {l : Launch} {e : Env} {R : Room} {s : State} {m : MethodId} {args : Array Value} {below : List Frame} {meth : Method} {c : Code} {H : Heap} {locs : List Loc} {cells slots : Nat} {Q : State → Prop}
variable {pc : Nat} {ls : Array Slot} {rest : List Value} {cc : ByteArray}
theorem lg_cases (x y : Int64) : (y < x ∧ lg_cmp x y = 1) ∨ (x = y ∧ lg_cmp x y = 0) ∨ (x < y ∧ lg_cmp x y = -1) := by
  by_cases h1 : y < x
  · exact Or.inl ⟨h1, by simp [lg_cmp, h1]⟩
  · by_cases h2 : x = y
    · exact Or.inr (Or.inl ⟨h2, by simp [lg_cmp, h2]⟩)
    · refine Or.inr (Or.inr ⟨?_, by simp [lg_cmp, h1, h2]⟩)
      rw [Int64.lt_iff_toInt_lt] at h1 ⊢
      have : x.toInt ≠ y.toInt := fun q => h2 (Int64.toInt_inj.mp q)
      omega
theorem lc_lt (x y : Int64) (hexec : p.tables.exec = Jvm.exec) (hb : c.code = cc) {off : Int} {tgt : Nat} (hd1 : decode cc pc = .ok (.lcmp, 1)) (hd2 : decode cc (pc + 1) = .ok (.ifCond .lt off, 3)) (ht : ((pc + 1 : Nat) : Int) + off = (tgt : Int))
    (kt : x < y → W p l e R s m args below meth c H locs cells slots Q (F0 m tgt ls rest)) (kf : ¬ x < y → W p l e R s m args below meth c H locs cells slots Q (F0 m (pc + 1 + 3) ls rest)) : W p l e R s m args below meth c H locs cells slots Q (F0 m pc ls (.long y :: .long x :: rest)) := by
  refine W.lcmp hexec hb hd1 ?_
  refine lv_if_lt (tgt := tgt) hexec hb hd2 ht (fun h => kt ?_) (fun h => kf ?_)
  · rcases lg_cases x y with ⟨h1, h2⟩ | ⟨h1, h2⟩ | ⟨h1, h2⟩
    · rw [h2] at h; exact absurd h (by decide)
    · rw [h2] at h; exact absurd h (by decide)
    · exact h1
  · rcases lg_cases x y with ⟨h1, h2⟩ | ⟨h1, h2⟩ | ⟨h1, h2⟩
    · rw [Int64.lt_iff_toInt_lt] at h1 ⊢; omega
    · subst h1; rw [Int64.lt_iff_toInt_lt]; omega
    · rw [h2] at h; exact absurd (by decide) h
theorem lc_ge (x y : Int64) (hexec : p.tables.exec = Jvm.exec) (hb : c.code = cc) {off : Int} {tgt : Nat} (hd1 : decode cc pc = .ok (.lcmp, 1)) (hd2 : decode cc (pc + 1) = .ok (.ifCond .ge off, 3)) (ht : ((pc + 1 : Nat) : Int) + off = (tgt : Int))
    (kt : y ≤ x → W p l e R s m args below meth c H locs cells slots Q (F0 m tgt ls rest)) (kf : ¬ y ≤ x → W p l e R s m args below meth c H locs cells slots Q (F0 m (pc + 1 + 3) ls rest)) : W p l e R s m args below meth c H locs cells slots Q (F0 m pc ls (.long y :: .long x :: rest)) := by
  refine W.lcmp hexec hb hd1 ?_
  refine lv_if_ge (tgt := tgt) hexec hb hd2 ht (fun h => kt ?_) (fun h => kf ?_)
  · rcases lg_cases x y with ⟨h1, h2⟩ | ⟨h1, h2⟩ | ⟨h1, h2⟩
    · rw [Int64.lt_iff_toInt_lt] at h1; rw [Int64.le_iff_toInt_le]; omega
    · subst h1; rw [Int64.le_iff_toInt_le]; omega
    · rw [h2] at h; exact absurd h (by decide)
  · rcases lg_cases x y with ⟨h1, h2⟩ | ⟨h1, h2⟩ | ⟨h1, h2⟩
    · rw [h2] at h; exact absurd (by decide) h
    · rw [h2] at h; exact absurd (by decide) h
    · rw [Int64.lt_iff_toInt_lt] at h1; rw [Int64.le_iff_toInt_le]; omega
theorem lc_gt (x y : Int64) (hexec : p.tables.exec = Jvm.exec) (hb : c.code = cc) {off : Int} {tgt : Nat} (hd1 : decode cc pc = .ok (.lcmp, 1)) (hd2 : decode cc (pc + 1) = .ok (.ifCond .gt off, 3)) (ht : ((pc + 1 : Nat) : Int) + off = (tgt : Int))
    (kt : y < x → W p l e R s m args below meth c H locs cells slots Q (F0 m tgt ls rest)) (kf : ¬ y < x → W p l e R s m args below meth c H locs cells slots Q (F0 m (pc + 1 + 3) ls rest)) : W p l e R s m args below meth c H locs cells slots Q (F0 m pc ls (.long y :: .long x :: rest)) := by
  refine W.lcmp hexec hb hd1 ?_
  refine lv_if_gt (tgt := tgt) hexec hb hd2 ht (fun h => kt ?_) (fun h => kf ?_)
  · rcases lg_cases x y with ⟨h1, h2⟩ | ⟨h1, h2⟩ | ⟨h1, h2⟩
    · exact h1
    · rw [h2] at h; exact absurd h (by decide)
    · rw [h2] at h; exact absurd h (by decide)
  · rcases lg_cases x y with ⟨h1, h2⟩ | ⟨h1, h2⟩ | ⟨h1, h2⟩
    · rw [h2] at h; exact absurd (by decide) h
    · subst h1; rw [Int64.lt_iff_toInt_lt]; omega
    · rw [Int64.lt_iff_toInt_lt] at h1 ⊢; omega
theorem lc_le (x y : Int64) (hexec : p.tables.exec = Jvm.exec) (hb : c.code = cc) {off : Int} {tgt : Nat} (hd1 : decode cc pc = .ok (.lcmp, 1)) (hd2 : decode cc (pc + 1) = .ok (.ifCond .le off, 3)) (ht : ((pc + 1 : Nat) : Int) + off = (tgt : Int))
    (kt : x ≤ y → W p l e R s m args below meth c H locs cells slots Q (F0 m tgt ls rest)) (kf : ¬ x ≤ y → W p l e R s m args below meth c H locs cells slots Q (F0 m (pc + 1 + 3) ls rest)) : W p l e R s m args below meth c H locs cells slots Q (F0 m pc ls (.long y :: .long x :: rest)) := by
  refine W.lcmp hexec hb hd1 ?_
  refine lv_if_le (tgt := tgt) hexec hb hd2 ht (fun h => kt ?_) (fun h => kf ?_)
  · rcases lg_cases x y with ⟨h1, h2⟩ | ⟨h1, h2⟩ | ⟨h1, h2⟩
    · rw [h2] at h; exact absurd h (by decide)
    · subst h1; rw [Int64.le_iff_toInt_le]; omega
    · rw [Int64.lt_iff_toInt_lt] at h1; rw [Int64.le_iff_toInt_le]; omega
  · rcases lg_cases x y with ⟨h1, h2⟩ | ⟨h1, h2⟩ | ⟨h1, h2⟩
    · rw [Int64.lt_iff_toInt_lt] at h1; rw [Int64.le_iff_toInt_le]; omega
    · rw [h2] at h; exact absurd (by decide) h
    · rw [h2] at h; exact absurd (by decide) h
theorem lc_eq (x y : Int64) (hexec : p.tables.exec = Jvm.exec) (hb : c.code = cc) {off : Int} {tgt : Nat} (hd1 : decode cc pc = .ok (.lcmp, 1)) (hd2 : decode cc (pc + 1) = .ok (.ifCond .eq off, 3)) (ht : ((pc + 1 : Nat) : Int) + off = (tgt : Int))
    (kt : x = y → W p l e R s m args below meth c H locs cells slots Q (F0 m tgt ls rest)) (kf : ¬ x = y → W p l e R s m args below meth c H locs cells slots Q (F0 m (pc + 1 + 3) ls rest)) : W p l e R s m args below meth c H locs cells slots Q (F0 m pc ls (.long y :: .long x :: rest)) := by
  refine W.lcmp hexec hb hd1 ?_
  refine lv_if_eq (tgt := tgt) hexec hb hd2 ht (fun h => kt ?_) (fun h => kf ?_)
  · rcases lg_cases x y with ⟨h1, h2⟩ | ⟨h1, h2⟩ | ⟨h1, h2⟩
    · rw [h2] at h; exact absurd h (by decide)
    · exact h1
    · rw [h2] at h; exact absurd h (by decide)
  · rcases lg_cases x y with ⟨h1, h2⟩ | ⟨h1, h2⟩ | ⟨h1, h2⟩
    · intro q; subst q; rw [Int64.lt_iff_toInt_lt] at h1; omega
    · exact absurd h2 h
    · intro q; subst q; rw [Int64.lt_iff_toInt_lt] at h1; omega
theorem lc_ne (x y : Int64) (hexec : p.tables.exec = Jvm.exec) (hb : c.code = cc) {off : Int} {tgt : Nat} (hd1 : decode cc pc = .ok (.lcmp, 1)) (hd2 : decode cc (pc + 1) = .ok (.ifCond .ne off, 3)) (ht : ((pc + 1 : Nat) : Int) + off = (tgt : Int))
    (kt : ¬ x = y → W p l e R s m args below meth c H locs cells slots Q (F0 m tgt ls rest)) (kf : x = y → W p l e R s m args below meth c H locs cells slots Q (F0 m (pc + 1 + 3) ls rest)) : W p l e R s m args below meth c H locs cells slots Q (F0 m pc ls (.long y :: .long x :: rest)) := by
  refine W.lcmp hexec hb hd1 ?_
  refine lv_if_ne (tgt := tgt) hexec hb hd2 ht (fun h => kt ?_) (fun h => kf ?_)
  · rcases lg_cases x y with ⟨h1, h2⟩ | ⟨h1, h2⟩ | ⟨h1, h2⟩
    · intro q; subst q; rw [Int64.lt_iff_toInt_lt] at h1; omega
    · exact absurd h2 h
    · intro q; subst q; rw [Int64.lt_iff_toInt_lt] at h1; omega
  · rcases lg_cases x y with ⟨h1, h2⟩ | ⟨h1, h2⟩ | ⟨h1, h2⟩
    · rw [h2] at h; exact absurd h (by decide)
    · exact h1
    · rw [h2] at h; exact absurd h (by decide)
theorem W_join {α : Type} {P : Prop} [Decidable P] {A B : α} {g : JFrame} {fr : α → JFrame} (fork : (P → W p l e R s m args below meth c H locs cells slots Q (fr A)) → (¬ P → W p l e R s m args below meth c H locs cells slots Q (fr B)) → W p l e R s m args below meth c H locs cells slots Q g) (cont : W p l e R s m args below meth c H locs cells slots Q (fr (if P then A else B))) : W p l e R s m args below meth c H locs cells slots Q g := by
  refine fork (fun h => ?_) (fun h => ?_)
  · rw [if_pos h] at cont; exact cont
  · rw [if_neg h] at cont; exact cont
/-- where a tableswitch goes -/
def sw_at (dflt lo hi : Int) (offs : Array Int) (x : Int) : Option Int := if x < lo ∨ hi < x then some dflt else offs[(x - lo).toNat]?
theorem sw_t (x : Int32) (hexec : p.tables.exec = Jvm.exec) (hb : c.code = cc) {dflt lo hi : Int} {offs : Array Int} {len tgt : Nat} (hdg : decode cc pc = .ok (.tableswitch dflt lo hi offs, len)) (ht : (sw_at dflt lo hi offs x.toInt).map (fun o => (pc : Int) + o) = some (tgt : Int))
    (k : W p l e R s m args below meth c H locs cells slots Q (F0 m tgt ls rest)) : W p l e R s m args below meth c H locs cells slots Q (F0 m pc ls (.int x :: rest)) := by
  unfold sw_at at ht
  by_cases h : x.toInt < lo ∨ hi < x.toInt
  · rw [if_pos h] at ht
    exact lv_tableOut hexec hb hdg h (Option.some.inj ht) k
  · rw [if_neg h] at ht
    cases ho : offs[(x.toInt - lo).toNat]? with
    | none => rw [ho] at ht; cases ht
    | some off =>
      rw [ho] at ht
      exact lv_tableIn hexec hb hdg (fun q => h (Or.inl q)) (fun q => h (Or.inr q)) ho (Option.some.inj ht) k
/-- the default: none of the live keys -/
theorem sw_d {dflt lo hi : Int} {offs : Array Int} {pc : Nat} {tgt : Int} {x : Int} (ht : (pc : Int) + dflt = tgt) (live : List Int) (hall : ∀ n : Nat, n ≤ (hi - lo).toNat → (lo + (n : Int) ∈ live ∨ offs[n]? = some dflt)) (hx : ∀ k ∈ live, x ≠ k) : (sw_at dflt lo hi offs x).map (fun o => (pc : Int) + o) = some tgt := by
  unfold sw_at
  by_cases h : x < lo ∨ hi < x
  · rw [if_pos h]; exact congrArg some ht
  · rw [if_neg h]
    rcases hall (x - lo).toNat (by omega) with h1 | h1
    · exact absurd rfl (hx x (by rw [show lo + ((x - lo).toNat : Int) = x by omega] at h1; exact h1))
    · rw [h1]; exact congrArg some ht
theorem sw_off : ∀ (l : List (Int × Int)) (d k : Int), (∀ a ∈ l.map Prod.fst, k ≠ a) → Op.lookupswitch.offset l d k = d
  | [], _, _, _ => rfl
  | (a, o) :: l, d, k, h => by
    rw [Op.lookupswitch.offset_cons, if_neg (fun q => h a List.mem_cons_self q.symm)]
    exact sw_off l d k (fun b hb => h b (List.mem_cons_of_mem _ hb))
theorem sw_l (x : Int32) (hexec : p.tables.exec = Jvm.exec) (hb : c.code = cc) {dflt : Int} {ps : Array (Int × Int)} {len tgt : Nat} (hdg : decode cc pc = .ok (.lookupswitch dflt ps, len)) (hp : (ps.toList.zip (ps.toList.drop 1)).all (fun (a, next) => a.1 < next.1) = true) (ht : (pc : Int) + Op.lookupswitch.offset ps.toList dflt x.toInt = (tgt : Int))
    (k : W p l e R s m args below meth c H locs cells slots Q (F0 m tgt ls rest)) : W p l e R s m args below meth c H locs cells slots Q (F0 m pc ls (.int x :: rest)) :=
  lv_lookup hexec hb hdg hp rfl ht k
theorem sw_ld {dflt : Int} {ps : Array (Int × Int)} {pc : Nat} {tgt x : Int} (live : List Int) (hk : ps.toList.map Prod.fst = live) (ht : (pc : Int) + dflt = tgt) (hx : ∀ k ∈ live, x ≠ k) : (pc : Int) + Op.lookupswitch.offset ps.toList dflt x = tgt := by
  rw [sw_off _ _ _ (by rw [hk]; exact hx)]; exact ht
theorem sw_ne {x : Int32} {k : Int32} {n : Int} (h : ¬ x = k) (hk : k.toInt = n) : x.toInt ≠ n := fun q => h (Int32.toInt_inj.mp (q.trans hk.symm))
end LIBL
-- numbers: steps of int loops, indices out of tests
theorem i32_add {x y : Int32} (h1 : -2147483648 ≤ x.toInt + y.toInt) (h2 : x.toInt + y.toInt < 2147483648) : (x + y).toInt = x.toInt + y.toInt := by
  rw [Int32.toInt_add]
  exact Int.bmod_eq_of_le (by omega) (by omega)
theorem i32_sub {x y : Int32} (h1 : -2147483648 ≤ x.toInt - y.toInt) (h2 : x.toInt - y.toInt < 2147483648) : (x - y).toInt = x.toInt - y.toInt := by
  rw [Int32.toInt_sub]
  exact Int.bmod_eq_of_le (by omega) (by omega)
theorem i32_inc {x : Int32} (h : x.toInt < 2147483647) : (x + 1).toInt = x.toInt + 1 := by
  have h0 : (1 : Int32).toInt = 1 := rfl
  have h3 := Int32.minValue_le_toInt x
  have h4 : Int32.minValue.toInt = -2147483648 := rfl
  rw [i32_add (by omega) (by omega), h0]
theorem i_step {i K : Int32} {n : Nat} {k : Int} (hI : 0 ≤ i.toInt ∧ i.toInt ≤ k ∧ k + 1 ≤ i.toInt + ((n + 1 : Nat) : Int)) (c : ¬ K ≤ i) (hK : K.toInt = k) (hk : k < 2147483647) : 0 ≤ (i + 1).toInt ∧ (i + 1).toInt ≤ k ∧ k + 1 ≤ (i + 1).toInt + (n : Int) := by
  rw [Int32.le_iff_toInt_le] at c
  rw [i32_inc (by omega)]
  omega
theorem i_step_le {i K : Int32} {n : Nat} (hK : K.toInt ≤ 100) (hI : 0 ≤ i.toInt ∧ i.toInt ≤ 100 ∧ 101 ≤ i.toInt + ((n + 1 : Nat) : Int)) (c : ¬ K ≤ i) : 0 ≤ (i + 1).toInt ∧ (i + 1).toInt ≤ 100 ∧ 101 ≤ (i + 1).toInt + (n : Int) := by
  rw [Int32.le_iff_toInt_le] at c
  rw [i32_inc (by omega)]
  omega
theorem ix_pred {x b : Int32} {n : Nat} (h1 : ¬ x ≤ 0) (h2 : ¬ b < x) (hb : b.toInt = (n : Int)) : vp_in (x - 1) n := by
  rw [vp_in_iff]
  rw [Int32.le_iff_toInt_le] at h1
  rw [Int32.lt_iff_toInt_lt] at h2
  have h0 : (0 : Int32).toInt = 0 := rfl
  have h3 : (1 : Int32).toInt = 1 := rfl
  have h4 := Int32.toInt_le x
  have h5 : Int32.maxValue.toInt = 2147483647 := rfl
  rw [i32_sub (by omega) (by omega)]
  omega
theorem l2i_small {k : Int64} (h1 : 0 ≤ k.toInt) (h2 : k.toInt < 2147483648) : k.toInt32.toInt = k.toInt := by
  rw [Int64.toInt_toInt32]
  exact Int.bmod_eq_of_le (by omega) (by omega)
theorem nar01 {x : Int32} (h : x = 0 ∨ x = 1) : narrow .boolean (.int x) = .int x := by
  rcases h with h | h <;> rw [h] <;> rfl
end
section
abbrev TYS (cI cL cZ cR cE : ClassId) : List (ClassId × FieldType) := [(cI, .int), (cL, .long), (cZ, .boolean), (cR, .object R_Ru), (cE, .object R_Ed)]
abbrev W_Ans (cI cL cZ cR cE : ClassId) (a0 a1 a2 : Nat) (c_values : Nat → Int64) (c_givers : Nat → Int32) : va_W := [(a0, .inr (0, [.ref a1, .ref a2])), (a1, .inl (cL, 4, .inr (.inl c_values))), (a2, .inl (cI, 4, .inl c_givers))]
abbrev W_Fai (cI cL cZ cR cE : ClassId) (a0 a1 a2 : Nat) (c_ruleNumbers : Nat → Int32) (c_hows : Nat → Int32) (c_count : Int32) : va_W := [(a0, .inr (2, [.ref a1, .ref a2, .int c_count])), (a1, .inl (cI, 8, .inl c_ruleNumbers)), (a2, .inl (cI, 8, .inl c_hows))]
abbrev W_Rul (cI cL cZ cR cE : ClassId) (a0 a1 a2 : Nat) (c_number : Int32) (c_home : Nat) (c_rank : Int32) (c_name : Int32) (c_ops : Nat → Int32) (c_numbers : Nat → Int64) (c_length : Int32) (c_cell : Int64) (c_fallbackKind : Int32) (c_fallbackValue : Int64) : va_W := [(a0, .inr (3, [.int c_number, .ref c_home, .int c_rank, .int c_name, .ref a1, .ref a2, .int c_length, .long c_cell, .int c_fallbackKind, .long c_fallbackValue])), (a1, .inl (cI, 12, .inl c_ops)), (a2, .inl (cL, 12, .inr (.inl c_numbers)))]
abbrev W_Edi (cI cL cZ cR cE : ClassId) (a0 a1 : Nat) (c_state : Int32) (c_count : Int32) (c_from : Int32) (c_toldAs : Int32) (c_order : Nat → Option Nat) : va_W := [(a0, .inr (1, [.int c_state, .int c_count, .int c_from, .int c_toldAs, .ref a1])), (a1, .inl (cR, 8, .inr (.inr (.inr (.inr c_order)))))]
abbrev W_Run (cI cL cZ cR cE : ClassId) (a0 a1 a2 a3 a4 a5 a6 : Nat) (c_facts : Nat → Int64) (c_stack : Nat → Int64) (c_handleFacts : Nat → Int32) (c_given_values : Nat → Int64) (c_given_givers : Nat → Int32) (c_handleCount : Int32) (c_height : Int32) (c_position : Int32) (c_fault : Int32) (c_cell : Int64) : va_W := [(a0, .inr (4, [.ref a1, .ref a2, .ref a3, .ref a4, .int c_handleCount, .int c_height, .int c_position, .int c_fault, .long c_cell])), (a1, .inl (cL, 8, .inr (.inl c_facts))), (a2, .inl (cL, 8, .inr (.inl c_stack))), (a3, .inl (cI, 16, .inl c_handleFacts)), (a4, .inr (0, [.ref a5, .ref a6])), (a5, .inl (cL, 4, .inr (.inl c_given_values))), (a6, .inl (cI, 4, .inl c_given_givers))]
end
section
def f_isWithin (v : Int64) (lo : Int64) (hi : Int64) : Int32 := if v < lo then 0 else (if hi < v then 0 else 1)
set_option maxHeartbeats 4000000 in
set_option maxRecDepth 100000 in
theorem c_isWithin (l : Launch) (G : va_G) (cI cL cZ cR cE : ClassId)  (v : Int64) (lo : Int64) (hi : Int64) : Met l y_Hr_isWithin w_Hr_isWithin ({ frames := 0, cells := 0, slots := 0, locals := 0 }) (preR G (TYS cI cL cZ cR cE) [.long v, .long lo, .long hi] (([] : va_W))) (vp_Si (fun r => r = f_isWithin v lo hi)) 0 0 (fun _ => False) := by
  refine Met.ofW (cc := b_Hr_isWithin) (maxL := 6) (ret := (some .boolean)) (by decide) rfl ?_
  intro p e s m args below meth c s₁ B hml hv
  obtain ⟨rfl, hP, hK, hN⟩ := hv
  have hx := B.exec
  have hb := B.bytes
  have hr := B.returns
  have hts := atoms_spec (ws := w_Hr_isWithin) B.pre
  have hown : s.vm.findClass R_Hr = some m.cls := findClass_of_methodNamed B.named
  have hlocks := B.notSynchronized
  obtain ⟨H, hH⟩ : ∃ H, H = s.heap := ⟨_, rfl⟩
  rw [← hH] at hP
  rw [← hH]
  have hl := lv_entry ([.long v, .long lo, .long hi]) (n := 6) (Nat.le_of_ble_eq_true rfl)
  rw [lg_entry_eq]
  generalize (lg_sl ([.long v, .long lo, .long hi]) ++ List.replicate (6 - (lg_sl ([.long v, .long lo, .long hi])).length) Slot.unset).toArray = ls at hl ⊢
  replace hl : lv_has ls 6 [(0, .long v), (2, .long lo), (4, .long hi)] := hl
  generalize hT : f_isWithin v lo hi = T
  refine lv_lload_n hx hb d_Hr_isWithin_0 rfl (lv_at hl 0 rfl) ?_
  refine lv_lload_n hx hb d_Hr_isWithin_1 rfl (lv_at hl 1 rfl) ?_
  refine lc_lt (x := v) (y := lo) (tgt := 17) hx hb d_Hr_isWithin_2 d_Hr_isWithin_3 (by decide) (fun c_1 => ?_) (fun c_1 => ?_)
  · refine lv_iconst (v := 0) hx hb d_Hr_isWithin_17 (by decide) ?_
    exact W.zret (v := 0) hx hb hr rfl (fun t ht hW => ⟨0, rfl, (by rw [← hT]; simp only [f_isWithin, if_pos c_1]), by rw [ht, hH]⟩) (fun _ h => by cases h) d_Hr_isWithin_18
  · refine lv_lload_n hx hb d_Hr_isWithin_6 rfl (lv_at hl 0 rfl) ?_
    refine lv_lload hx hb d_Hr_isWithin_7 (lv_at hl 2 rfl) ?_
    refine lc_gt (x := v) (y := hi) (tgt := 17) hx hb d_Hr_isWithin_9 d_Hr_isWithin_10 (by decide) (fun c_2 => ?_) (fun c_2 => ?_)
    · refine lv_iconst (v := 0) hx hb d_Hr_isWithin_17 (by decide) ?_
      exact W.zret (v := 0) hx hb hr rfl (fun t ht hW => ⟨0, rfl, (by rw [← hT]; simp only [f_isWithin, if_neg c_1, if_pos c_2]), by rw [ht, hH]⟩) (fun _ h => by cases h) d_Hr_isWithin_18
    · refine lv_iconst (v := 1) hx hb d_Hr_isWithin_13 (by decide) ?_
      refine lv_goto (tgt := 18) hx hb d_Hr_isWithin_14 (by decide) ?_
      exact W.zret (v := 1) hx hb hr rfl (fun t ht hW => ⟨1, rfl, (by rw [← hT]; simp only [f_isWithin, if_neg c_1, if_neg c_2]), by rw [ht, hH]⟩) (fun _ h => by cases h) d_Hr_isWithin_18
theorem f_isWithin_01 (v lo hi : Int64) : f_isWithin v lo hi = 0 ∨ f_isWithin v lo hi = 1 := by
  unfold f_isWithin
  split
  · exact Or.inl rfl
  · split
    · exact Or.inl rfl
    · exact Or.inr rfl
theorem f_isWithin_iff (v lo hi : Int64) : ¬ f_isWithin v lo hi = 0 ↔ lo.toInt ≤ v.toInt ∧ v.toInt ≤ hi.toInt := by
  unfold f_isWithin
  by_cases c1 : v < lo
  · rw [if_pos c1]
    rw [Int64.lt_iff_toInt_lt] at c1
    constructor
    · intro h; exact absurd rfl h
    · intro h; omega
  · rw [if_neg c1]
    rw [Int64.lt_iff_toInt_lt] at c1
    by_cases c2 : hi < v
    · rw [if_pos c2]
      rw [Int64.lt_iff_toInt_lt] at c2
      constructor
      · intro h; exact absurd rfl h
      · intro h; omega
    · rw [if_neg c2]
      rw [Int64.lt_iff_toInt_lt] at c2
      exact ⟨fun _ => by omega, fun _ => by decide⟩
theorem ix_w {k b : Int64} {n : Nat} (h : ¬ f_isWithin k 0 b = 0) (hb : b.toInt + 1 = (n : Int)) (hn : n ≤ 2147483648) : vp_in k.toInt32 n := by
  obtain ⟨h1, h2⟩ := (f_isWithin_iff k 0 b).mp h
  have h0 : (0 : Int64).toInt = 0 := rfl
  rw [vp_in_iff, l2i_small (by omega) (by omega)]
  omega
theorem ix_lw {k b B : Int64} {n : Nat} (h : ¬ f_isWithin k 0 b = 0) (h3 : ¬ B ≤ k) (hb : B.toInt = (n : Int)) (hn : n ≤ 2147483648) : vp_in k.toInt32 n := by
  obtain ⟨h1, h2⟩ := (f_isWithin_iff k 0 b).mp h
  have h0 : (0 : Int64).toInt = 0 := rfl
  rw [Int64.le_iff_toInt_le] at h3
  rw [vp_in_iff, l2i_small (by omega) (by omega)]
  omega
def f_isInstruction (op : Int32) (n : Int64) : Int32 := if op = 1 then (f_isWithin n 0 7) else (if op = 9 then (if n = 0 then 0 else (if (f_isWithin n (-12) 12) = 0 then 0 else 1)) else (if op = 10 then (f_isWithin n 0 3) else (if op = 13 then (f_isWithin n 0 7) else (f_isWithin op.toInt64 0 15))))
set_option maxHeartbeats 4000000 in
set_option maxRecDepth 100000 in
theorem c_isInstruction (l : Launch) (G : va_G) (cI cL cZ cR cE : ClassId)  (op : Int32) (n : Int64) : Met l y_Hr_isInstruction w_Hr_isInstruction ({ frames := 1, cells := 0, slots := 0, locals := 25 }) (preR G (TYS cI cL cZ cR cE) [.int op, .long n] (([] : va_W))) (vp_Si (fun r => r = f_isInstruction op n)) 0 0 (fun _ => False) := by
  refine Met.ofW (cc := b_Hr_isInstruction) (maxL := 3) (ret := (some .boolean)) (by decide) rfl ?_
  intro p e s m args below meth c s₁ B hml hv
  obtain ⟨rfl, hP, hK, hN⟩ := hv
  have hx := B.exec
  have hb := B.bytes
  have hr := B.returns
  have hts := atoms_spec (ws := w_Hr_isInstruction) B.pre
  have hown : s.vm.findClass R_Hr = some m.cls := findClass_of_methodNamed B.named
  have hlocks := B.notSynchronized
  obtain ⟨H, hH⟩ : ∃ H, H = s.heap := ⟨_, rfl⟩
  rw [← hH] at hP
  rw [← hH]
  have hk_1 := hts (.constantLong R_Hr 122 7) (List.mem_cons_of_mem _ kw_248)
  have hk_2 := hts (.constantLong R_Hr 234 (-12)) (List.mem_cons_of_mem _ kw_249)
  have hk_3 := hts (.constantLong R_Hr 236 12) (List.mem_cons_of_mem _ kw_250)
  have hk_4 := hts (.constantLong R_Hr 113 3) (List.mem_cons_of_mem _ kw_251)
  have hk_5 := hts (.constantLong R_Hr 238 15) (List.mem_cons_of_mem _ kw_252)
  have hl := lv_entry ([.int op, .long n]) (n := 3) (Nat.le_of_ble_eq_true rfl)
  rw [lg_entry_eq]
  generalize (lg_sl ([.int op, .long n]) ++ List.replicate (3 - (lg_sl ([.int op, .long n])).length) Slot.unset).toArray = ls at hl ⊢
  replace hl : lv_has ls 3 [(0, .int op), (1, .long n)] := hl
  generalize hT : f_isInstruction op n = T
  refine lv_iload_n hx hb d_Hr_isInstruction_0 rfl (lv_at hl 0 rfl) ?_
  by_cases c_1 : op = 1
  · refine sw_l (x := op) (tgt := 44) hx hb d_Hr_isInstruction_1 (by decide) (by rw [c_1]; decide) ?_
    refine lv_lload_n hx hb d_Hr_isInstruction_44 rfl (lv_at hl 1 rfl) ?_
    refine lv_lconst (v := 0) hx hb d_Hr_isInstruction_45 (by decide) ?_
    refine lv_ldc2 (v := 7) hx hb hown hk_1 d_Hr_isInstruction_46 ?_
    refine vp_callSi (W.runS (As := [.long n, .long 0, .long 7]) (rest := []) ⟨hx, hb, hml, hown, hts⟩ (c_isWithin l G cI cL cZ cR cE  n 0 7) (va_cwS 3 hts (gS kw_178 kw_179 kw_15 kw_180) rfl rfl rfl (by decide +kernel) ⟨Nat.le_of_ble_eq_true rfl, Nat.le_of_ble_eq_true rfl⟩) (preRS_of hN hK hP [] rfl) rfl rfl hl.1 rfl (lv_room (Nat.le_of_ble_eq_true rfl)) d_Hr_isInstruction_49 ⟨Nat.zero_le _, Nat.zero_le _⟩) (fun r_2 hw => ?_)
    subst hw
    exact W.zret (v := f_isWithin n 0 7) hx hb hr (nar01 (f_isWithin_01 _ _ _)) (fun t ht hW => ⟨f_isWithin n 0 7, rfl, (by rw [← hT]; simp only [f_isInstruction, if_pos c_1]), by rw [ht, hH]⟩) (fun _ h => by cases h) d_Hr_isInstruction_52
  ·
    by_cases c_3 : op = 9
    · refine sw_l (x := op) (tgt := 53) hx hb d_Hr_isInstruction_1 (by decide) (by rw [c_3]; decide) ?_
      refine lv_lload_n hx hb d_Hr_isInstruction_53 rfl (lv_at hl 1 rfl) ?_
      refine lv_lconst (v := 0) hx hb d_Hr_isInstruction_54 (by decide) ?_
      refine lc_eq (x := n) (y := 0) (tgt := 76) hx hb d_Hr_isInstruction_55 d_Hr_isInstruction_56 (by decide) (fun c_4 => ?_) (fun c_4 => ?_)
      · refine lv_iconst (v := 0) hx hb d_Hr_isInstruction_76 (by decide) ?_
        exact W.zret (v := 0) hx hb hr rfl (fun t ht hW => ⟨0, rfl, (by rw [← hT]; simp only [f_isInstruction, if_neg c_1, if_pos c_3, if_pos c_4]), by rw [ht, hH]⟩) (fun _ h => by cases h) d_Hr_isInstruction_77
      · refine lv_lload_n hx hb d_Hr_isInstruction_59 rfl (lv_at hl 1 rfl) ?_
        refine lv_ldc2 (v := (-12)) hx hb hown hk_2 d_Hr_isInstruction_60 ?_
        refine lv_ldc2 (v := 12) hx hb hown hk_3 d_Hr_isInstruction_63 ?_
        refine vp_callSi (W.runS (As := [.long n, .long (-12), .long 12]) (rest := []) ⟨hx, hb, hml, hown, hts⟩ (c_isWithin l G cI cL cZ cR cE  n (-12) 12) (va_cwS 3 hts (gS kw_178 kw_179 kw_15 kw_180) rfl rfl rfl (by decide +kernel) ⟨Nat.le_of_ble_eq_true rfl, Nat.le_of_ble_eq_true rfl⟩) (preRS_of hN hK hP [] rfl) rfl rfl hl.1 rfl (lv_room (Nat.le_of_ble_eq_true rfl)) d_Hr_isInstruction_66 ⟨Nat.zero_le _, Nat.zero_le _⟩) (fun r_5 hw => ?_)
        subst hw
        refine lv_if_eq (tgt := 76) hx hb d_Hr_isInstruction_69 (by decide) (fun c_6 => ?_) (fun c_6 => ?_)
        · refine lv_iconst (v := 0) hx hb d_Hr_isInstruction_76 (by decide) ?_
          exact W.zret (v := 0) hx hb hr rfl (fun t ht hW => ⟨0, rfl, (by rw [← hT]; simp only [f_isInstruction, if_neg c_1, if_pos c_3, if_neg c_4, if_pos c_6]), by rw [ht, hH]⟩) (fun _ h => by cases h) d_Hr_isInstruction_77
        · refine lv_iconst (v := 1) hx hb d_Hr_isInstruction_72 (by decide) ?_
          refine lv_goto (tgt := 77) hx hb d_Hr_isInstruction_73 (by decide) ?_
          exact W.zret (v := 1) hx hb hr rfl (fun t ht hW => ⟨1, rfl, (by rw [← hT]; simp only [f_isInstruction, if_neg c_1, if_pos c_3, if_neg c_4, if_neg c_6]), by rw [ht, hH]⟩) (fun _ h => by cases h) d_Hr_isInstruction_77
    ·
      by_cases c_7 : op = 10
      · refine sw_l (x := op) (tgt := 78) hx hb d_Hr_isInstruction_1 (by decide) (by rw [c_7]; decide) ?_
        refine lv_lload_n hx hb d_Hr_isInstruction_78 rfl (lv_at hl 1 rfl) ?_
        refine lv_lconst (v := 0) hx hb d_Hr_isInstruction_79 (by decide) ?_
        refine lv_ldc2 (v := 3) hx hb hown hk_4 d_Hr_isInstruction_80 ?_
        refine vp_callSi (W.runS (As := [.long n, .long 0, .long 3]) (rest := []) ⟨hx, hb, hml, hown, hts⟩ (c_isWithin l G cI cL cZ cR cE  n 0 3) (va_cwS 3 hts (gS kw_178 kw_179 kw_15 kw_180) rfl rfl rfl (by decide +kernel) ⟨Nat.le_of_ble_eq_true rfl, Nat.le_of_ble_eq_true rfl⟩) (preRS_of hN hK hP [] rfl) rfl rfl hl.1 rfl (lv_room (Nat.le_of_ble_eq_true rfl)) d_Hr_isInstruction_83 ⟨Nat.zero_le _, Nat.zero_le _⟩) (fun r_8 hw => ?_)
        subst hw
        exact W.zret (v := f_isWithin n 0 3) hx hb hr (nar01 (f_isWithin_01 _ _ _)) (fun t ht hW => ⟨f_isWithin n 0 3, rfl, (by rw [← hT]; simp only [f_isInstruction, if_neg c_1, if_neg c_3, if_pos c_7]), by rw [ht, hH]⟩) (fun _ h => by cases h) d_Hr_isInstruction_86
      ·
        by_cases c_9 : op = 13
        · refine sw_l (x := op) (tgt := 44) hx hb d_Hr_isInstruction_1 (by decide) (by rw [c_9]; decide) ?_
          refine lv_lload_n hx hb d_Hr_isInstruction_44 rfl (lv_at hl 1 rfl) ?_
          refine lv_lconst (v := 0) hx hb d_Hr_isInstruction_45 (by decide) ?_
          refine lv_ldc2 (v := 7) hx hb hown hk_1 d_Hr_isInstruction_46 ?_
          refine vp_callSi (W.runS (As := [.long n, .long 0, .long 7]) (rest := []) ⟨hx, hb, hml, hown, hts⟩ (c_isWithin l G cI cL cZ cR cE  n 0 7) (va_cwS 3 hts (gS kw_178 kw_179 kw_15 kw_180) rfl rfl rfl (by decide +kernel) ⟨Nat.le_of_ble_eq_true rfl, Nat.le_of_ble_eq_true rfl⟩) (preRS_of hN hK hP [] rfl) rfl rfl hl.1 rfl (lv_room (Nat.le_of_ble_eq_true rfl)) d_Hr_isInstruction_49 ⟨Nat.zero_le _, Nat.zero_le _⟩) (fun r_10 hw => ?_)
          subst hw
          exact W.zret (v := f_isWithin n 0 7) hx hb hr (nar01 (f_isWithin_01 _ _ _)) (fun t ht hW => ⟨f_isWithin n 0 7, rfl, (by rw [← hT]; simp only [f_isInstruction, if_neg c_1, if_neg c_3, if_neg c_7, if_pos c_9]), by rw [ht, hH]⟩) (fun _ h => by cases h) d_Hr_isInstruction_52
        ·
          refine sw_l (x := op) (tgt := 87) hx hb d_Hr_isInstruction_1 (by decide) (sw_ld [1, 9, 10, 13] (by decide) (by decide) (List.forall_mem_cons.mpr ⟨sw_ne c_1 rfl, (List.forall_mem_cons.mpr ⟨sw_ne c_3 rfl, (List.forall_mem_cons.mpr ⟨sw_ne c_7 rfl, (List.forall_mem_cons.mpr ⟨sw_ne c_9 rfl, (fun _ h => nomatch h)⟩)⟩)⟩)⟩)) ?_
          refine lv_iload_n hx hb d_Hr_isInstruction_87 rfl (lv_at hl 0 rfl) ?_
          refine lv_i2l (v := op.toInt64) hx hb d_Hr_isInstruction_88 rfl ?_
          refine lv_lconst (v := 0) hx hb d_Hr_isInstruction_89 (by decide) ?_
          refine lv_ldc2 (v := 15) hx hb hown hk_5 d_Hr_isInstruction_90 ?_
          refine vp_callSi (W.runS (As := [.long op.toInt64, .long 0, .long 15]) (rest := []) ⟨hx, hb, hml, hown, hts⟩ (c_isWithin l G cI cL cZ cR cE  op.toInt64 0 15) (va_cwS 3 hts (gS kw_178 kw_179 kw_15 kw_180) rfl rfl rfl (by decide +kernel) ⟨Nat.le_of_ble_eq_true rfl, Nat.le_of_ble_eq_true rfl⟩) (preRS_of hN hK hP [] rfl) rfl rfl hl.1 rfl (lv_room (Nat.le_of_ble_eq_true rfl)) d_Hr_isInstruction_93 ⟨Nat.zero_le _, Nat.zero_le _⟩) (fun r_11 hw => ?_)
          subst hw
          exact W.zret (v := f_isWithin op.toInt64 0 15) hx hb hr (nar01 (f_isWithin_01 _ _ _)) (fun t ht hW => ⟨f_isWithin op.toInt64 0 15, rfl, (by rw [← hT]; simp only [f_isInstruction, if_neg c_1, if_neg c_3, if_neg c_7, if_neg c_9]), by rw [ht, hH]⟩) (fun _ h => by cases h) d_Hr_isInstruction_96
def f_hasNumber (op : Int32) : Int32 := if op = 0 then 1 else (if op = 1 then 1 else (if op = 9 then 1 else (if op = 10 then 1 else (if op = 13 then 1 else 0))))
set_option maxHeartbeats 4000000 in
set_option maxRecDepth 100000 in
theorem c_hasNumber (l : Launch) (G : va_G) (cI cL cZ cR cE : ClassId)  (op : Int32) : Met l y_Hr_hasNumber w_Hr_hasNumber ({ frames := 0, cells := 0, slots := 0, locals := 0 }) (preR G (TYS cI cL cZ cR cE) [.int op] (([] : va_W))) (vp_Si (fun r => r = f_hasNumber op)) 0 0 (fun _ => False) := by
  refine Met.ofW (cc := b_Hr_hasNumber) (maxL := 1) (ret := (some .boolean)) (by decide) rfl ?_
  intro p e s m args below meth c s₁ B hml hv
  obtain ⟨rfl, hP, hK, hN⟩ := hv
  have hx := B.exec
  have hb := B.bytes
  have hr := B.returns
  have hts := atoms_spec (ws := w_Hr_hasNumber) B.pre
  have hown : s.vm.findClass R_Hr = some m.cls := findClass_of_methodNamed B.named
  have hlocks := B.notSynchronized
  obtain ⟨H, hH⟩ : ∃ H, H = s.heap := ⟨_, rfl⟩
  rw [← hH] at hP
  rw [← hH]
  have hl := lv_entry ([.int op]) (n := 1) (Nat.le_of_ble_eq_true rfl)
  rw [lg_entry_eq]
  generalize (lg_sl ([.int op]) ++ List.replicate (1 - (lg_sl ([.int op])).length) Slot.unset).toArray = ls at hl ⊢
  replace hl : lv_has ls 1 [(0, .int op)] := hl
  generalize hT : f_hasNumber op = T
  refine lv_iload_n hx hb d_Hr_hasNumber_0 rfl (lv_at hl 0 rfl) ?_
  refine lv_if_eq (tgt := 27) hx hb d_Hr_hasNumber_1 (by decide) (fun c_1 => ?_) (fun c_1 => ?_)
  · refine lv_iconst (v := 1) hx hb d_Hr_hasNumber_27 (by decide) ?_
    refine lv_goto (tgt := 32) hx hb d_Hr_hasNumber_28 (by decide) ?_
    exact W.zret (v := 1) hx hb hr rfl (fun t ht hW => ⟨1, rfl, (by rw [← hT]; simp only [f_hasNumber, if_pos c_1]), by rw [ht, hH]⟩) (fun _ h => by cases h) d_Hr_hasNumber_32
  · refine lv_iload_n hx hb d_Hr_hasNumber_4 rfl (lv_at hl 0 rfl) ?_
    refine lv_iconst (v := 1) hx hb d_Hr_hasNumber_5 (by decide) ?_
    refine lv_icmp_eq (tgt := 27) hx hb d_Hr_hasNumber_6 (by decide) (fun c_2 => ?_) (fun c_2 => ?_)
    · refine lv_iconst (v := 1) hx hb d_Hr_hasNumber_27 (by decide) ?_
      refine lv_goto (tgt := 32) hx hb d_Hr_hasNumber_28 (by decide) ?_
      exact W.zret (v := 1) hx hb hr rfl (fun t ht hW => ⟨1, rfl, (by rw [← hT]; simp only [f_hasNumber, if_neg c_1, if_pos c_2]), by rw [ht, hH]⟩) (fun _ h => by cases h) d_Hr_hasNumber_32
    · refine lv_iload_n hx hb d_Hr_hasNumber_9 rfl (lv_at hl 0 rfl) ?_
      refine lv_bipush (v := 9) hx hb d_Hr_hasNumber_10 (by decide) ?_
      refine lv_icmp_eq (tgt := 27) hx hb d_Hr_hasNumber_12 (by decide) (fun c_3 => ?_) (fun c_3 => ?_)
      · refine lv_iconst (v := 1) hx hb d_Hr_hasNumber_27 (by decide) ?_
        refine lv_goto (tgt := 32) hx hb d_Hr_hasNumber_28 (by decide) ?_
        exact W.zret (v := 1) hx hb hr rfl (fun t ht hW => ⟨1, rfl, (by rw [← hT]; simp only [f_hasNumber, if_neg c_1, if_neg c_2, if_pos c_3]), by rw [ht, hH]⟩) (fun _ h => by cases h) d_Hr_hasNumber_32
      · refine lv_iload_n hx hb d_Hr_hasNumber_15 rfl (lv_at hl 0 rfl) ?_
        refine lv_bipush (v := 10) hx hb d_Hr_hasNumber_16 (by decide) ?_
        refine lv_icmp_eq (tgt := 27) hx hb d_Hr_hasNumber_18 (by decide) (fun c_4 => ?_) (fun c_4 => ?_)
        · refine lv_iconst (v := 1) hx hb d_Hr_hasNumber_27 (by decide) ?_
          refine lv_goto (tgt := 32) hx hb d_Hr_hasNumber_28 (by decide) ?_
          exact W.zret (v := 1) hx hb hr rfl (fun t ht hW => ⟨1, rfl, (by rw [← hT]; simp only [f_hasNumber, if_neg c_1, if_neg c_2, if_neg c_3, if_pos c_4]), by rw [ht, hH]⟩) (fun _ h => by cases h) d_Hr_hasNumber_32
        · refine lv_iload_n hx hb d_Hr_hasNumber_21 rfl (lv_at hl 0 rfl) ?_
          refine lv_bipush (v := 13) hx hb d_Hr_hasNumber_22 (by decide) ?_
          refine lv_icmp_ne (tgt := 31) hx hb d_Hr_hasNumber_24 (by decide) (fun c_5 => ?_) (fun c_5 => ?_)
          · refine lv_iconst (v := 0) hx hb d_Hr_hasNumber_31 (by decide) ?_
            exact W.zret (v := 0) hx hb hr rfl (fun t ht hW => ⟨0, rfl, (by rw [← hT]; simp only [f_hasNumber, if_neg c_1, if_neg c_2, if_neg c_3, if_neg c_4, if_neg c_5]), by rw [ht, hH]⟩) (fun _ h => by cases h) d_Hr_hasNumber_32
          · refine lv_iconst (v := 1) hx hb d_Hr_hasNumber_27 (by decide) ?_
            refine lv_goto (tgt := 32) hx hb d_Hr_hasNumber_28 (by decide) ?_
            exact W.zret (v := 1) hx hb hr rfl (fun t ht hW => ⟨1, rfl, (by rw [← hT]; simp only [f_hasNumber, if_neg c_1, if_neg c_2, if_neg c_3, if_neg c_4, if_pos c_5]), by rw [ht, hH]⟩) (fun _ h => by cases h) d_Hr_hasNumber_32
def f_takesTwo (op : Int32) : Int32 := if op < 2 then 0 else (if 7 < op then 0 else 1)
set_option maxHeartbeats 4000000 in
set_option maxRecDepth 100000 in
theorem c_takesTwo (l : Launch) (G : va_G) (cI cL cZ cR cE : ClassId)  (op : Int32) : Met l y_Hr_takesTwo w_Hr_takesTwo ({ frames := 0, cells := 0, slots := 0, locals := 0 }) (preR G (TYS cI cL cZ cR cE) [.int op] (([] : va_W))) (vp_Si (fun r => r = f_takesTwo op)) 0 0 (fun _ => False) := by
  refine Met.ofW (cc := b_Hr_takesTwo) (maxL := 1) (ret := (some .boolean)) (by decide) rfl ?_
  intro p e s m args below meth c s₁ B hml hv
  obtain ⟨rfl, hP, hK, hN⟩ := hv
  have hx := B.exec
  have hb := B.bytes
  have hr := B.returns
  have hts := atoms_spec (ws := w_Hr_takesTwo) B.pre
  have hown : s.vm.findClass R_Hr = some m.cls := findClass_of_methodNamed B.named
  have hlocks := B.notSynchronized
  obtain ⟨H, hH⟩ : ∃ H, H = s.heap := ⟨_, rfl⟩
  rw [← hH] at hP
  rw [← hH]
  have hl := lv_entry ([.int op]) (n := 1) (Nat.le_of_ble_eq_true rfl)
  rw [lg_entry_eq]
  generalize (lg_sl ([.int op]) ++ List.replicate (1 - (lg_sl ([.int op])).length) Slot.unset).toArray = ls at hl ⊢
  replace hl : lv_has ls 1 [(0, .int op)] := hl
  generalize hT : f_takesTwo op = T
  refine lv_iload_n hx hb d_Hr_takesTwo_0 rfl (lv_at hl 0 rfl) ?_
  refine lv_iconst (v := 2) hx hb d_Hr_takesTwo_1 (by decide) ?_
  refine lv_icmp_lt (tgt := 15) hx hb d_Hr_takesTwo_2 (by decide) (fun c_1 => ?_) (fun c_1 => ?_)
  · refine lv_iconst (v := 0) hx hb d_Hr_takesTwo_15 (by decide) ?_
    exact W.zret (v := 0) hx hb hr rfl (fun t ht hW => ⟨0, rfl, (by rw [← hT]; simp only [f_takesTwo, if_pos c_1]), by rw [ht, hH]⟩) (fun _ h => by cases h) d_Hr_takesTwo_16
  · refine lv_iload_n hx hb d_Hr_takesTwo_5 rfl (lv_at hl 0 rfl) ?_
    refine lv_bipush (v := 7) hx hb d_Hr_takesTwo_6 (by decide) ?_
    refine lv_icmp_gt (tgt := 15) hx hb d_Hr_takesTwo_8 (by decide) (fun c_2 => ?_) (fun c_2 => ?_)
    · refine lv_iconst (v := 0) hx hb d_Hr_takesTwo_15 (by decide) ?_
      exact W.zret (v := 0) hx hb hr rfl (fun t ht hW => ⟨0, rfl, (by rw [← hT]; simp only [f_takesTwo, if_neg c_1, if_pos c_2]), by rw [ht, hH]⟩) (fun _ h => by cases h) d_Hr_takesTwo_16
    · refine lv_iconst (v := 1) hx hb d_Hr_takesTwo_11 (by decide) ?_
      refine lv_goto (tgt := 16) hx hb d_Hr_takesTwo_12 (by decide) ?_
      exact W.zret (v := 1) hx hb hr rfl (fun t ht hW => ⟨1, rfl, (by rw [← hT]; simp only [f_takesTwo, if_neg c_1, if_neg c_2]), by rw [ht, hH]⟩) (fun _ h => by cases h) d_Hr_takesTwo_16
def f_takes (op : Int32) : Int32 := if (f_takesTwo op) = 0 then (if op < 8 then (if op = 14 then 1 else 0) else (if op ≤ 11 then 1 else (if op = 14 then 1 else 0))) else 2
set_option maxHeartbeats 4000000 in
set_option maxRecDepth 100000 in
theorem c_takes (l : Launch) (G : va_G) (cI cL cZ cR cE : ClassId)  (op : Int32) : Met l y_Hr_takes w_Hr_takes ({ frames := 1, cells := 0, slots := 0, locals := 20 }) (preR G (TYS cI cL cZ cR cE) [.int op] (([] : va_W))) (vp_Si (fun r => r = f_takes op)) 0 0 (fun _ => False) := by
  refine Met.ofW (cc := b_Hr_takes) (maxL := 1) (ret := (some .int)) (by decide) rfl ?_
  intro p e s m args below meth c s₁ B hml hv
  obtain ⟨rfl, hP, hK, hN⟩ := hv
  have hx := B.exec
  have hb := B.bytes
  have hr := B.returns
  have hts := atoms_spec (ws := w_Hr_takes) B.pre
  have hown : s.vm.findClass R_Hr = some m.cls := findClass_of_methodNamed B.named
  have hlocks := B.notSynchronized
  obtain ⟨H, hH⟩ : ∃ H, H = s.heap := ⟨_, rfl⟩
  rw [← hH] at hP
  rw [← hH]
  have hl := lv_entry ([.int op]) (n := 1) (Nat.le_of_ble_eq_true rfl)
  rw [lg_entry_eq]
  generalize (lg_sl ([.int op]) ++ List.replicate (1 - (lg_sl ([.int op])).length) Slot.unset).toArray = ls at hl ⊢
  replace hl : lv_has ls 1 [(0, .int op)] := hl
  generalize hT : f_takes op = T
  refine lv_iload_n hx hb d_Hr_takes_0 rfl (lv_at hl 0 rfl) ?_
  refine vp_callSi (W.runS (As := [.int op]) (rest := []) ⟨hx, hb, hml, hown, hts⟩ (c_takesTwo l G cI cL cZ cR cE  op) (va_cwS 1 hts (gS kw_315 kw_316 kw_15 kw_317) rfl rfl rfl (by decide +kernel) ⟨Nat.le_of_ble_eq_true rfl, Nat.le_of_ble_eq_true rfl⟩) (preRS_of hN hK hP [] rfl) rfl rfl hl.1 rfl (lv_room (Nat.le_of_ble_eq_true rfl)) d_Hr_takes_1 ⟨Nat.zero_le _, Nat.zero_le _⟩) (fun r_1 hw => ?_)
  subst hw
  refine lv_if_eq (tgt := 9) hx hb d_Hr_takes_4 (by decide) (fun c_2 => ?_) (fun c_2 => ?_)
  · refine lv_iload_n hx hb d_Hr_takes_9 rfl (lv_at hl 0 rfl) ?_
    refine lv_bipush (v := 8) hx hb d_Hr_takes_10 (by decide) ?_
    refine lv_icmp_lt (tgt := 21) hx hb d_Hr_takes_12 (by decide) (fun c_3 => ?_) (fun c_3 => ?_)
    · refine lv_iload_n hx hb d_Hr_takes_21 rfl (lv_at hl 0 rfl) ?_
      refine lv_bipush (v := 14) hx hb d_Hr_takes_22 (by decide) ?_
      refine lv_icmp_ne (tgt := 31) hx hb d_Hr_takes_24 (by decide) (fun c_4 => ?_) (fun c_4 => ?_)
      · refine lv_iconst (v := 0) hx hb d_Hr_takes_31 (by decide) ?_
        exact W.iret (v := 0) hx hb hr (fun t ht hW => ⟨0, rfl, (by rw [← hT]; simp only [f_takes, if_pos c_2, if_pos c_3, if_neg c_4]), by rw [ht, hH]⟩) (fun _ h => by cases h) d_Hr_takes_32
      · refine lv_iconst (v := 1) hx hb d_Hr_takes_27 (by decide) ?_
        refine lv_goto (tgt := 32) hx hb d_Hr_takes_28 (by decide) ?_
        exact W.iret (v := 1) hx hb hr (fun t ht hW => ⟨1, rfl, (by rw [← hT]; simp only [f_takes, if_pos c_2, if_pos c_3, if_pos c_4]), by rw [ht, hH]⟩) (fun _ h => by cases h) d_Hr_takes_32
    · refine lv_iload_n hx hb d_Hr_takes_15 rfl (lv_at hl 0 rfl) ?_
      refine lv_bipush (v := 11) hx hb d_Hr_takes_16 (by decide) ?_
      refine lv_icmp_le (tgt := 27) hx hb d_Hr_takes_18 (by decide) (fun c_5 => ?_) (fun c_5 => ?_)
      · refine lv_iconst (v := 1) hx hb d_Hr_takes_27 (by decide) ?_
        refine lv_goto (tgt := 32) hx hb d_Hr_takes_28 (by decide) ?_
        exact W.iret (v := 1) hx hb hr (fun t ht hW => ⟨1, rfl, (by rw [← hT]; simp only [f_takes, if_pos c_2, if_neg c_3, if_pos c_5]), by rw [ht, hH]⟩) (fun _ h => by cases h) d_Hr_takes_32
      · refine lv_iload_n hx hb d_Hr_takes_21 rfl (lv_at hl 0 rfl) ?_
        refine lv_bipush (v := 14) hx hb d_Hr_takes_22 (by decide) ?_
        refine lv_icmp_ne (tgt := 31) hx hb d_Hr_takes_24 (by decide) (fun c_6 => ?_) (fun c_6 => ?_)
        · refine lv_iconst (v := 0) hx hb d_Hr_takes_31 (by decide) ?_
          exact W.iret (v := 0) hx hb hr (fun t ht hW => ⟨0, rfl, (by rw [← hT]; simp only [f_takes, if_pos c_2, if_neg c_3, if_neg c_5, if_neg c_6]), by rw [ht, hH]⟩) (fun _ h => by cases h) d_Hr_takes_32
        · refine lv_iconst (v := 1) hx hb d_Hr_takes_27 (by decide) ?_
          refine lv_goto (tgt := 32) hx hb d_Hr_takes_28 (by decide) ?_
          exact W.iret (v := 1) hx hb hr (fun t ht hW => ⟨1, rfl, (by rw [← hT]; simp only [f_takes, if_pos c_2, if_neg c_3, if_neg c_5, if_pos c_6]), by rw [ht, hH]⟩) (fun _ h => by cases h) d_Hr_takes_32
  · refine lv_iconst (v := 2) hx hb d_Hr_takes_7 (by decide) ?_
    exact W.iret (v := 2) hx hb hr (fun t ht hW => ⟨2, rfl, (by rw [← hT]; simp only [f_takes, if_neg c_2]), by rw [ht, hH]⟩) (fun _ h => by cases h) d_Hr_takes_8
def f_puts (op : Int32) : Int32 := if op < 9 then (if op = 15 then 0 else 1) else (if op ≤ 11 then 0 else (if op = 15 then 0 else 1))
set_option maxHeartbeats 4000000 in
set_option maxRecDepth 100000 in
theorem c_puts (l : Launch) (G : va_G) (cI cL cZ cR cE : ClassId)  (op : Int32) : Met l y_Hr_puts w_Hr_puts ({ frames := 0, cells := 0, slots := 0, locals := 0 }) (preR G (TYS cI cL cZ cR cE) [.int op] (([] : va_W))) (vp_Si (fun r => r = f_puts op)) 0 0 (fun _ => False) := by
  refine Met.ofW (cc := b_Hr_puts) (maxL := 1) (ret := (some .int)) (by decide) rfl ?_
  intro p e s m args below meth c s₁ B hml hv
  obtain ⟨rfl, hP, hK, hN⟩ := hv
  have hx := B.exec
  have hb := B.bytes
  have hr := B.returns
  have hts := atoms_spec (ws := w_Hr_puts) B.pre
  have hown : s.vm.findClass R_Hr = some m.cls := findClass_of_methodNamed B.named
  have hlocks := B.notSynchronized
  obtain ⟨H, hH⟩ : ∃ H, H = s.heap := ⟨_, rfl⟩
  rw [← hH] at hP
  rw [← hH]
  have hl := lv_entry ([.int op]) (n := 1) (Nat.le_of_ble_eq_true rfl)
  rw [lg_entry_eq]
  generalize (lg_sl ([.int op]) ++ List.replicate (1 - (lg_sl ([.int op])).length) Slot.unset).toArray = ls at hl ⊢
  replace hl : lv_has ls 1 [(0, .int op)] := hl
  generalize hT : f_puts op = T
  refine lv_iload_n hx hb d_Hr_puts_0 rfl (lv_at hl 0 rfl) ?_
  refine lv_bipush (v := 9) hx hb d_Hr_puts_1 (by decide) ?_
  refine lv_icmp_lt (tgt := 12) hx hb d_Hr_puts_3 (by decide) (fun c_1 => ?_) (fun c_1 => ?_)
  · refine lv_iload_n hx hb d_Hr_puts_12 rfl (lv_at hl 0 rfl) ?_
    refine lv_bipush (v := 15) hx hb d_Hr_puts_13 (by decide) ?_
    refine lv_icmp_ne (tgt := 22) hx hb d_Hr_puts_15 (by decide) (fun c_2 => ?_) (fun c_2 => ?_)
    · refine lv_iconst (v := 1) hx hb d_Hr_puts_22 (by decide) ?_
      exact W.iret (v := 1) hx hb hr (fun t ht hW => ⟨1, rfl, (by rw [← hT]; simp only [f_puts, if_pos c_1, if_neg c_2]), by rw [ht, hH]⟩) (fun _ h => by cases h) d_Hr_puts_23
    · refine lv_iconst (v := 0) hx hb d_Hr_puts_18 (by decide) ?_
      refine lv_goto (tgt := 23) hx hb d_Hr_puts_19 (by decide) ?_
      exact W.iret (v := 0) hx hb hr (fun t ht hW => ⟨0, rfl, (by rw [← hT]; simp only [f_puts, if_pos c_1, if_pos c_2]), by rw [ht, hH]⟩) (fun _ h => by cases h) d_Hr_puts_23
  · refine lv_iload_n hx hb d_Hr_puts_6 rfl (lv_at hl 0 rfl) ?_
    refine lv_bipush (v := 11) hx hb d_Hr_puts_7 (by decide) ?_
    refine lv_icmp_le (tgt := 18) hx hb d_Hr_puts_9 (by decide) (fun c_3 => ?_) (fun c_3 => ?_)
    · refine lv_iconst (v := 0) hx hb d_Hr_puts_18 (by decide) ?_
      refine lv_goto (tgt := 23) hx hb d_Hr_puts_19 (by decide) ?_
      exact W.iret (v := 0) hx hb hr (fun t ht hW => ⟨0, rfl, (by rw [← hT]; simp only [f_puts, if_neg c_1, if_pos c_3]), by rw [ht, hH]⟩) (fun _ h => by cases h) d_Hr_puts_23
    · refine lv_iload_n hx hb d_Hr_puts_12 rfl (lv_at hl 0 rfl) ?_
      refine lv_bipush (v := 15) hx hb d_Hr_puts_13 (by decide) ?_
      refine lv_icmp_ne (tgt := 22) hx hb d_Hr_puts_15 (by decide) (fun c_4 => ?_) (fun c_4 => ?_)
      · refine lv_iconst (v := 1) hx hb d_Hr_puts_22 (by decide) ?_
        exact W.iret (v := 1) hx hb hr (fun t ht hW => ⟨1, rfl, (by rw [← hT]; simp only [f_puts, if_neg c_1, if_neg c_3, if_neg c_4]), by rw [ht, hH]⟩) (fun _ h => by cases h) d_Hr_puts_23
      · refine lv_iconst (v := 0) hx hb d_Hr_puts_18 (by decide) ?_
        refine lv_goto (tgt := 23) hx hb d_Hr_puts_19 (by decide) ?_
        exact W.iret (v := 0) hx hb hr (fun t ht hW => ⟨0, rfl, (by rw [← hT]; simp only [f_puts, if_neg c_1, if_neg c_3, if_pos c_4]), by rw [ht, hH]⟩) (fun _ h => by cases h) d_Hr_puts_23
def f_combine (op : Int32) (x : Int64) (y : Int64) : Int64 := if op = 2 then (x + y) else (if op = 3 then (x - y) else (if op = 4 then (x * y) else (if op = 5 then (if y = 0 then 0 else (x / y)) else (if op = 6 then (if y ≤ x then 0 else 1) else (if x = y then 1 else 0)))))
set_option maxHeartbeats 4000000 in
set_option maxRecDepth 100000 in
theorem c_combine (l : Launch) (G : va_G) (cI cL cZ cR cE : ClassId)  (op : Int32) (x : Int64) (y : Int64) : Met l y_Hr_combine w_Hr_combine ({ frames := 0, cells := 0, slots := 0, locals := 0 }) (preR G (TYS cI cL cZ cR cE) [.int op, .long x, .long y] (([] : va_W))) (vp_Sl (fun r => r = f_combine op x y)) 0 0 (fun _ => False) := by
  refine Met.ofW (cc := b_Hr_combine) (maxL := 5) (ret := (some .long)) (by decide) rfl ?_
  intro p e s m args below meth c s₁ B hml hv
  obtain ⟨rfl, hP, hK, hN⟩ := hv
  have hx := B.exec
  have hb := B.bytes
  have hr := B.returns
  have hts := atoms_spec (ws := w_Hr_combine) B.pre
  have hown : s.vm.findClass R_Hr = some m.cls := findClass_of_methodNamed B.named
  have hlocks := B.notSynchronized
  obtain ⟨H, hH⟩ : ∃ H, H = s.heap := ⟨_, rfl⟩
  rw [← hH] at hP
  rw [← hH]
  have hl := lv_entry ([.int op, .long x, .long y]) (n := 5) (Nat.le_of_ble_eq_true rfl)
  rw [lg_entry_eq]
  generalize (lg_sl ([.int op, .long x, .long y]) ++ List.replicate (5 - (lg_sl ([.int op, .long x, .long y])).length) Slot.unset).toArray = ls at hl ⊢
  replace hl : lv_has ls 5 [(0, .int op), (1, .long x), (3, .long y)] := hl
  generalize hT : f_combine op x y = T
  refine lv_iload_n hx hb d_Hr_combine_0 rfl (lv_at hl 0 rfl) ?_
  by_cases c_1 : op = 2
  · refine sw_t (x := op) (tgt := 36) hx hb d_Hr_combine_1 (by rw [c_1]; decide) ?_
    refine lv_lload_n hx hb d_Hr_combine_36 rfl (lv_at hl 1 rfl) ?_
    refine lv_lload_n hx hb d_Hr_combine_37 rfl (lv_at hl 2 rfl) ?_
    refine lv_ladd hx hb d_Hr_combine_38 ?_
    exact W.lret (v := x + y) hx hb hr (fun t ht hW => ⟨x + y, rfl, (by rw [← hT]; simp only [f_combine, if_pos c_1]), by rw [ht, hH]⟩) (fun _ h => by cases h) d_Hr_combine_39
  ·
    by_cases c_2 : op = 3
    · refine sw_t (x := op) (tgt := 40) hx hb d_Hr_combine_1 (by rw [c_2]; decide) ?_
      refine lv_lload_n hx hb d_Hr_combine_40 rfl (lv_at hl 1 rfl) ?_
      refine lv_lload_n hx hb d_Hr_combine_41 rfl (lv_at hl 2 rfl) ?_
      refine lv_lsub hx hb d_Hr_combine_42 ?_
      exact W.lret (v := x - y) hx hb hr (fun t ht hW => ⟨x - y, rfl, (by rw [← hT]; simp only [f_combine, if_neg c_1, if_pos c_2]), by rw [ht, hH]⟩) (fun _ h => by cases h) d_Hr_combine_43
    ·
      by_cases c_3 : op = 4
      · refine sw_t (x := op) (tgt := 44) hx hb d_Hr_combine_1 (by rw [c_3]; decide) ?_
        refine lv_lload_n hx hb d_Hr_combine_44 rfl (lv_at hl 1 rfl) ?_
        refine lv_lload_n hx hb d_Hr_combine_45 rfl (lv_at hl 2 rfl) ?_
        refine lv_lmul hx hb d_Hr_combine_46 ?_
        exact W.lret (v := x * y) hx hb hr (fun t ht hW => ⟨x * y, rfl, (by rw [← hT]; simp only [f_combine, if_neg c_1, if_neg c_2, if_pos c_3]), by rw [ht, hH]⟩) (fun _ h => by cases h) d_Hr_combine_47
      ·
        by_cases c_4 : op = 5
        · refine sw_t (x := op) (tgt := 48) hx hb d_Hr_combine_1 (by rw [c_4]; decide) ?_
          refine lv_lload_n hx hb d_Hr_combine_48 rfl (lv_at hl 2 rfl) ?_
          refine lv_lconst (v := 0) hx hb d_Hr_combine_49 (by decide) ?_
          refine lc_ne (x := y) (y := 0) (tgt := 58) hx hb d_Hr_combine_50 d_Hr_combine_51 (by decide) (fun c_5 => ?_) (fun c_5 => ?_)
          · refine lv_lload_n hx hb d_Hr_combine_58 rfl (lv_at hl 1 rfl) ?_
            refine lv_lload_n hx hb d_Hr_combine_59 rfl (lv_at hl 2 rfl) ?_
            refine lv_ldiv hx hb d_Hr_combine_60 c_5 ?_
            exact W.lret (v := x / y) hx hb hr (fun t ht hW => ⟨x / y, rfl, (by rw [← hT]; simp only [f_combine, if_neg c_1, if_neg c_2, if_neg c_3, if_pos c_4, if_neg c_5]), by rw [ht, hH]⟩) (fun _ h => by cases h) d_Hr_combine_61
          · refine lv_lconst (v := 0) hx hb d_Hr_combine_54 (by decide) ?_
            refine lv_goto (tgt := 61) hx hb d_Hr_combine_55 (by decide) ?_
            exact W.lret (v := 0) hx hb hr (fun t ht hW => ⟨0, rfl, (by rw [← hT]; simp only [f_combine, if_neg c_1, if_neg c_2, if_neg c_3, if_pos c_4, if_pos c_5]), by rw [ht, hH]⟩) (fun _ h => by cases h) d_Hr_combine_61
        ·
          by_cases c_6 : op = 6
          · refine sw_t (x := op) (tgt := 62) hx hb d_Hr_combine_1 (by rw [c_6]; decide) ?_
            refine lv_lload_n hx hb d_Hr_combine_62 rfl (lv_at hl 1 rfl) ?_
            refine lv_lload_n hx hb d_Hr_combine_63 rfl (lv_at hl 2 rfl) ?_
            refine lc_ge (x := x) (y := y) (tgt := 72) hx hb d_Hr_combine_64 d_Hr_combine_65 (by decide) (fun c_7 => ?_) (fun c_7 => ?_)
            · refine lv_lconst (v := 0) hx hb d_Hr_combine_72 (by decide) ?_
              exact W.lret (v := 0) hx hb hr (fun t ht hW => ⟨0, rfl, (by rw [← hT]; simp only [f_combine, if_neg c_1, if_neg c_2, if_neg c_3, if_neg c_4, if_pos c_6, if_pos c_7]), by rw [ht, hH]⟩) (fun _ h => by cases h) d_Hr_combine_73
            · refine lv_lconst (v := 1) hx hb d_Hr_combine_68 (by decide) ?_
              refine lv_goto (tgt := 73) hx hb d_Hr_combine_69 (by decide) ?_
              exact W.lret (v := 1) hx hb hr (fun t ht hW => ⟨1, rfl, (by rw [← hT]; simp only [f_combine, if_neg c_1, if_neg c_2, if_neg c_3, if_neg c_4, if_pos c_6, if_neg c_7]), by rw [ht, hH]⟩) (fun _ h => by cases h) d_Hr_combine_73
          ·
            refine sw_t (x := op) (tgt := 74) hx hb d_Hr_combine_1 (sw_d (by decide) [2, 3, 4, 5, 6] (by decide) (List.forall_mem_cons.mpr ⟨sw_ne c_1 rfl, (List.forall_mem_cons.mpr ⟨sw_ne c_2 rfl, (List.forall_mem_cons.mpr ⟨sw_ne c_3 rfl, (List.forall_mem_cons.mpr ⟨sw_ne c_4 rfl, (List.forall_mem_cons.mpr ⟨sw_ne c_6 rfl, (fun _ h => nomatch h)⟩)⟩)⟩)⟩)⟩)) ?_
            refine lv_lload_n hx hb d_Hr_combine_74 rfl (lv_at hl 1 rfl) ?_
            refine lv_lload_n hx hb d_Hr_combine_75 rfl (lv_at hl 2 rfl) ?_
            refine lc_ne (x := x) (y := y) (tgt := 84) hx hb d_Hr_combine_76 d_Hr_combine_77 (by decide) (fun c_8 => ?_) (fun c_8 => ?_)
            · refine lv_lconst (v := 0) hx hb d_Hr_combine_84 (by decide) ?_
              exact W.lret (v := 0) hx hb hr (fun t ht hW => ⟨0, rfl, (by rw [← hT]; simp only [f_combine, if_neg c_1, if_neg c_2, if_neg c_3, if_neg c_4, if_neg c_6, if_neg c_8]), by rw [ht, hH]⟩) (fun _ h => by cases h) d_Hr_combine_85
            · refine lv_lconst (v := 1) hx hb d_Hr_combine_80 (by decide) ?_
              refine lv_goto (tgt := 85) hx hb d_Hr_combine_81 (by decide) ?_
              exact W.lret (v := 1) hx hb hr (fun t ht hW => ⟨1, rfl, (by rw [← hT]; simp only [f_combine, if_neg c_1, if_neg c_2, if_neg c_3, if_neg c_4, if_neg c_6, if_pos c_8]), by rw [ht, hH]⟩) (fun _ h => by cases h) d_Hr_combine_85
end
section
def f_giverOf (givers : Nat → Int32) (k : Int32) : Int32 := if k < 0 then (-1) else (if 4 ≤ k then (-1) else (givers k.toNatClampNeg))
set_option maxHeartbeats 4000000 in
set_option maxRecDepth 100000 in
theorem c_giverOf (l : Launch) (G : va_G) (cI cL cZ cR cE : ClassId) (a0 a1 a2 : Nat) (values : Nat → Int64) (givers : Nat → Int32) (k : Int32) : Met l y_An_giverOf w_An_giverOf ({ frames := 0, cells := 0, slots := 0, locals := 0 }) (preR G (TYS cI cL cZ cR cE) [.ref a0, .int k] (W_Ans cI cL cZ cR cE a0 a1 a2 values givers)) (vp_Si (fun r => r = f_giverOf givers k)) 0 0 (fun _ => False) := by
  refine Met.ofW (cc := b_An_giverOf) (maxL := 2) (ret := (some .int)) (by decide) rfl ?_
  intro p e s m args below meth c s₁ B hml hv
  obtain ⟨rfl, hP, hK, hN⟩ := hv
  have hx := B.exec
  have hb := B.bytes
  have hr := B.returns
  have hts := atoms_spec (ws := w_An_giverOf) B.pre
  have hown : s.vm.findClass R_An = some m.cls := findClass_of_methodNamed B.named
  have hlocks := B.notSynchronized
  obtain ⟨H, hH⟩ : ∃ H, H = s.heap := ⟨_, rfl⟩
  rw [← hH] at hP
  rw [← hH]
  have hi_2 : ∀ w ∈ u_ws R_An T_An 2, w ∈ w_An_giverOf := fun w h => List.mem_cons_of_mem _ (iu_An w h)
  have hk_1 := hts (.fieldLink R_An 15 "HandlingRules$Answers" "givers" "[I") (List.mem_cons_of_mem _ kw_53)
  have hl := lv_entry ([.ref a0, .int k]) (n := 2) (Nat.le_of_ble_eq_true rfl)
  rw [lg_entry_eq]
  generalize (lg_sl ([.ref a0, .int k]) ++ List.replicate (2 - (lg_sl ([.ref a0, .int k])).length) Slot.unset).toArray = ls at hl ⊢
  replace hl : lv_has ls 2 [(0, .ref a0), (1, .int k)] := hl
  generalize hT : f_giverOf givers k = T
  refine lv_iload_n hx hb d_An_giverOf_0 rfl (lv_at hl 1 rfl) ?_
  refine lv_if_lt (tgt := 18) hx hb d_An_giverOf_1 (by decide) (fun c_1 => ?_) (fun c_1 => ?_)
  · refine lv_iconst (v := (-1)) hx hb d_An_giverOf_18 (by decide) ?_
    exact W.iret (v := (-1)) hx hb hr (fun t ht hW => ⟨(-1), rfl, (by rw [← hT]; simp only [f_giverOf, if_pos c_1]), by rw [ht, hH]⟩) (fun _ h => by cases h) d_An_giverOf_19
  · refine lv_iload_n hx hb d_An_giverOf_4 rfl (lv_at hl 1 rfl) ?_
    refine lv_iconst (v := 4) hx hb d_An_giverOf_5 (by decide) ?_
    refine lv_icmp_ge (tgt := 18) hx hb d_An_giverOf_6 (by decide) (fun c_2 => ?_) (fun c_2 => ?_)
    · refine lv_iconst (v := (-1)) hx hb d_An_giverOf_18 (by decide) ?_
      exact W.iret (v := (-1)) hx hb hr (fun t ht hW => ⟨(-1), rfl, (by rw [← hT]; simp only [f_giverOf, if_neg c_1, if_pos c_2]), by rw [ht, hH]⟩) (fun _ h => by cases h) d_An_giverOf_19
    · refine lv_aload_n hx hb d_An_giverOf_9 rfl (lv_at hl 0 rfl) ?_
      refine va_get (D := G) (ci := 0) (v := .ref a2) (C := R_An) (T := T_An) (N := 2) hx hb hts hi_2 hown hK hP 0 rfl rfl 1 (by decide) hk_1 (fun _ h9 => h9) rfl d_An_giverOf_10 ?_
      refine lv_iload_n hx hb d_An_giverOf_13 rfl (lv_at hl 1 rfl) ?_
      refine va_iald hx hb hK hP 2 0 rfl rfl (ix_of c_1 c_2 rfl) d_An_giverOf_14 ?_
      refine lv_goto (tgt := 19) hx hb d_An_giverOf_15 (by decide) ?_
      exact W.iret (v := givers k.toNatClampNeg) hx hb hr (fun t ht hW => ⟨givers k.toNatClampNeg, rfl, (by rw [← hT]; simp only [f_giverOf, if_neg c_1, if_neg c_2]), by rw [ht, hH]⟩) (fun _ h => by cases h) d_An_giverOf_19
def f_valueOf (values : Nat → Int64) (k : Int32) : Int64 := if k < 0 then 0 else (if 4 ≤ k then 0 else (values k.toNatClampNeg))
set_option maxHeartbeats 4000000 in
set_option maxRecDepth 100000 in
theorem c_valueOf (l : Launch) (G : va_G) (cI cL cZ cR cE : ClassId) (a0 a1 a2 : Nat) (values : Nat → Int64) (givers : Nat → Int32) (k : Int32) : Met l y_An_valueOf w_An_valueOf ({ frames := 0, cells := 0, slots := 0, locals := 0 }) (preR G (TYS cI cL cZ cR cE) [.ref a0, .int k] (W_Ans cI cL cZ cR cE a0 a1 a2 values givers)) (vp_Sl (fun r => r = f_valueOf values k)) 0 0 (fun _ => False) := by
  refine Met.ofW (cc := b_An_valueOf) (maxL := 2) (ret := (some .long)) (by decide) rfl ?_
  intro p e s m args below meth c s₁ B hml hv
  obtain ⟨rfl, hP, hK, hN⟩ := hv
  have hx := B.exec
  have hb := B.bytes
  have hr := B.returns
  have hts := atoms_spec (ws := w_An_valueOf) B.pre
  have hown : s.vm.findClass R_An = some m.cls := findClass_of_methodNamed B.named
  have hlocks := B.notSynchronized
  obtain ⟨H, hH⟩ : ∃ H, H = s.heap := ⟨_, rfl⟩
  rw [← hH] at hP
  rw [← hH]
  have hi_2 : ∀ w ∈ u_ws R_An T_An 2, w ∈ w_An_valueOf := fun w h => List.mem_cons_of_mem _ (iu_An w h)
  have hk_1 := hts (.fieldLink R_An 9 "HandlingRules$Answers" "values" "[J") (List.mem_cons_of_mem _ kw_52)
  have hl := lv_entry ([.ref a0, .int k]) (n := 2) (Nat.le_of_ble_eq_true rfl)
  rw [lg_entry_eq]
  generalize (lg_sl ([.ref a0, .int k]) ++ List.replicate (2 - (lg_sl ([.ref a0, .int k])).length) Slot.unset).toArray = ls at hl ⊢
  replace hl : lv_has ls 2 [(0, .ref a0), (1, .int k)] := hl
  generalize hT : f_valueOf values k = T
  refine lv_iload_n hx hb d_An_valueOf_0 rfl (lv_at hl 1 rfl) ?_
  refine lv_if_lt (tgt := 18) hx hb d_An_valueOf_1 (by decide) (fun c_1 => ?_) (fun c_1 => ?_)
  · refine lv_lconst (v := 0) hx hb d_An_valueOf_18 (by decide) ?_
    exact W.lret (v := 0) hx hb hr (fun t ht hW => ⟨0, rfl, (by rw [← hT]; simp only [f_valueOf, if_pos c_1]), by rw [ht, hH]⟩) (fun _ h => by cases h) d_An_valueOf_19
  · refine lv_iload_n hx hb d_An_valueOf_4 rfl (lv_at hl 1 rfl) ?_
    refine lv_iconst (v := 4) hx hb d_An_valueOf_5 (by decide) ?_
    refine lv_icmp_ge (tgt := 18) hx hb d_An_valueOf_6 (by decide) (fun c_2 => ?_) (fun c_2 => ?_)
    · refine lv_lconst (v := 0) hx hb d_An_valueOf_18 (by decide) ?_
      exact W.lret (v := 0) hx hb hr (fun t ht hW => ⟨0, rfl, (by rw [← hT]; simp only [f_valueOf, if_neg c_1, if_pos c_2]), by rw [ht, hH]⟩) (fun _ h => by cases h) d_An_valueOf_19
    · refine lv_aload_n hx hb d_An_valueOf_9 rfl (lv_at hl 0 rfl) ?_
      refine va_get (D := G) (ci := 0) (v := .ref a1) (C := R_An) (T := T_An) (N := 2) hx hb hts hi_2 hown hK hP 0 rfl rfl 0 (by decide) hk_1 (fun _ h9 => h9) rfl d_An_valueOf_10 ?_
      refine lv_iload_n hx hb d_An_valueOf_13 rfl (lv_at hl 1 rfl) ?_
      refine va_lald hx hb hK hP 1 1 rfl rfl (ix_of c_1 c_2 rfl) d_An_valueOf_14 ?_
      refine lv_goto (tgt := 19) hx hb d_An_valueOf_15 (by decide) ?_
      exact W.lret (v := values k.toNatClampNeg) hx hb hr (fun t ht hW => ⟨values k.toNatClampNeg, rfl, (by rw [← hT]; simp only [f_valueOf, if_neg c_1, if_neg c_2]), by rw [ht, hH]⟩) (fun _ h => by cases h) d_An_valueOf_19
def f_isGiven (givers : Nat → Int32) (k : Int32) : Int32 := if (f_giverOf givers k) = (-1) then 0 else 1
set_option maxHeartbeats 4000000 in
set_option maxRecDepth 100000 in
theorem c_isGiven (l : Launch) (G : va_G) (cI cL cZ cR cE : ClassId) (a0 a1 a2 : Nat) (values : Nat → Int64) (givers : Nat → Int32) (k : Int32) : Met l y_An_isGiven w_An_isGiven ({ frames := 1, cells := 0, slots := 0, locals := 21 }) (preR G (TYS cI cL cZ cR cE) [.ref a0, .int k] (W_Ans cI cL cZ cR cE a0 a1 a2 values givers)) (vp_Si (fun r => r = f_isGiven givers k)) 0 0 (fun _ => False) := by
  refine Met.ofW (cc := b_An_isGiven) (maxL := 2) (ret := (some .boolean)) (by decide) rfl ?_
  intro p e s m args below meth c s₁ B hml hv
  obtain ⟨rfl, hP, hK, hN⟩ := hv
  have hx := B.exec
  have hb := B.bytes
  have hr := B.returns
  have hts := atoms_spec (ws := w_An_isGiven) B.pre
  have hown : s.vm.findClass R_An = some m.cls := findClass_of_methodNamed B.named
  have hlocks := B.notSynchronized
  obtain ⟨H, hH⟩ : ∃ H, H = s.heap := ⟨_, rfl⟩
  rw [← hH] at hP
  rw [← hH]
  have hl := lv_entry ([.ref a0, .int k]) (n := 2) (Nat.le_of_ble_eq_true rfl)
  rw [lg_entry_eq]
  generalize (lg_sl ([.ref a0, .int k]) ++ List.replicate (2 - (lg_sl ([.ref a0, .int k])).length) Slot.unset).toArray = ls at hl ⊢
  replace hl : lv_has ls 2 [(0, .ref a0), (1, .int k)] := hl
  generalize hT : f_isGiven givers k = T
  refine lv_aload_n hx hb d_An_isGiven_0 rfl (lv_at hl 0 rfl) ?_
  refine lv_iload_n hx hb d_An_isGiven_1 rfl (lv_at hl 1 rfl) ?_
  refine vp_callSi (W.runV (As := [.int k]) (rest := []) ⟨hx, hb, hml, hown, hts⟩ (c_giverOf l G cI cL cZ cR cE a0 a1 a2 values givers k) (cwV 1 hts (gV kw_402 kw_403 kw_404 kw_17 kw_405) rfl rfl rfl (by decide +kernel) ⟨Nat.le_of_ble_eq_true rfl, Nat.le_of_ble_eq_true rfl⟩) (preRV_of (ci := 0) hN hK hP [0, 1, 2] rfl rfl rfl) rfl rfl hl.1 rfl (lv_room (Nat.le_of_ble_eq_true rfl)) d_An_isGiven_2 ⟨Nat.zero_le _, Nat.zero_le _⟩) (fun r_1 hw => ?_)
  subst hw
  refine lv_iconst (v := (-1)) hx hb d_An_isGiven_5 (by decide) ?_
  refine lv_icmp_eq (tgt := 13) hx hb d_An_isGiven_6 (by decide) (fun c_2 => ?_) (fun c_2 => ?_)
  · refine lv_iconst (v := 0) hx hb d_An_isGiven_13 (by decide) ?_
    exact W.zret (v := 0) hx hb hr rfl (fun t ht hW => ⟨0, rfl, (by rw [← hT]; simp only [f_isGiven, if_pos c_2]), by rw [ht, hH]⟩) (fun _ h => by cases h) d_An_isGiven_14
  · refine lv_iconst (v := 1) hx hb d_An_isGiven_9 (by decide) ?_
    refine lv_goto (tgt := 14) hx hb d_An_isGiven_10 (by decide) ?_
    exact W.zret (v := 1) hx hb hr rfl (fun t ht hW => ⟨1, rfl, (by rw [← hT]; simp only [f_isGiven, if_neg c_2]), by rw [ht, hH]⟩) (fun _ h => by cases h) d_An_isGiven_14
def L_countGiven (givers : Nat → Int32) : Nat → Int32 → Int32 → Int32
  | 0, _, _ => 0
  | n + 1, g, i => if 4 ≤ i then g else (if (f_isGiven givers i) = 0 then (L_countGiven givers n g (i + 1)) else (L_countGiven givers n (g + 1) (i + 1)))
def f_countGiven (givers : Nat → Int32) : Int32 := L_countGiven givers 5 0 0
set_option maxHeartbeats 4000000 in
set_option maxRecDepth 100000 in
theorem c_countGiven (l : Launch) (G : va_G) (cI cL cZ cR cE : ClassId) (a0 a1 a2 : Nat) (values : Nat → Int64) (givers : Nat → Int32) : Met l y_An_countGiven w_An_countGiven ({ frames := 2, cells := 0, slots := 0, locals := 42 }) (preR G (TYS cI cL cZ cR cE) [.ref a0] (W_Ans cI cL cZ cR cE a0 a1 a2 values givers)) (vp_Si (fun r => r = f_countGiven givers)) 0 0 (fun _ => False) := by
  refine Met.ofW (cc := b_An_countGiven) (maxL := 3) (ret := (some .int)) (by decide) rfl ?_
  intro p e s m args below meth c s₁ B hml hv
  obtain ⟨rfl, hP, hK, hN⟩ := hv
  have hx := B.exec
  have hb := B.bytes
  have hr := B.returns
  have hts := atoms_spec (ws := w_An_countGiven) B.pre
  have hown : s.vm.findClass R_An = some m.cls := findClass_of_methodNamed B.named
  have hlocks := B.notSynchronized
  obtain ⟨H, hH⟩ : ∃ H, H = s.heap := ⟨_, rfl⟩
  rw [← hH] at hP
  rw [← hH]
  have hl := lv_entry ([.ref a0]) (n := 3) (Nat.le_of_ble_eq_true rfl)
  rw [lg_entry_eq]
  generalize (lg_sl ([.ref a0]) ++ List.replicate (3 - (lg_sl ([.ref a0])).length) Slot.unset).toArray = ls at hl ⊢
  replace hl : lv_has ls 3 [(0, .ref a0)] := hl
  generalize hT : f_countGiven givers = T
  refine lv_iconst (v := 0) hx hb d_An_countGiven_0 (by decide) ?_
  refine lv_istore_n (lv' := [(1, .int 0), (0, .ref a0)]) hx hb d_An_countGiven_1 rfl hl (by decide) rfl (fun ls hl => ?_)
  refine lv_iconst (v := 0) hx hb d_An_countGiven_2 (by decide) ?_
  refine lv_istore_n (lv' := [(2, .int 0), (1, .int 0), (0, .ref a0)]) hx hb d_An_countGiven_3 rfl hl (by decide) rfl (fun ls hl => ?_)
  obtain ⟨n, hn⟩ : ∃ n : Nat, n = 5 := ⟨_, rfl⟩
  obtain ⟨g, h_g⟩ : ∃ z : Int32, z = 0 := ⟨_, rfl⟩
  obtain ⟨i, h_i⟩ : ∃ z : Int32, z = 0 := ⟨_, rfl⟩
  replace hl : lv_has ls 3 [(2, .int i), (1, .int g), (0, .ref a0)] := by rw [h_g, h_i]; exact hl
  have hI : 0 ≤ i.toInt ∧ i.toInt ≤ 4 ∧ 5 ≤ i.toInt + (n : Int) := by rw [hn, h_i]; decide
  replace hT : L_countGiven givers n g i = T := by rw [← hT, hn, h_g, h_i]; simp only [f_countGiven]
  clear hn h_g h_i
  revert hT
  revert hI
  revert hl
  revert i
  revert g
  revert ls
  induction n with
  | zero =>
    intro ls g i hl hI hT
    exact absurd hI (by omega)
  | succ n ih =>
    intro ls g i hl hI hT
    refine lv_iload_n hx hb d_An_countGiven_4 rfl (lv_at hl 0 rfl) ?_
    refine lv_iconst (v := 4) hx hb d_An_countGiven_5 (by decide) ?_
    refine lv_icmp_ge (tgt := 26) hx hb d_An_countGiven_6 (by decide) (fun c_1 => ?_) (fun c_1 => ?_)
    · refine lv_iload_n hx hb d_An_countGiven_26 rfl (lv_at hl 1 rfl) ?_
      exact W.iret (v := g) hx hb hr (fun t ht hW => ⟨g, rfl, (by rw [← hT]; simp only [L_countGiven, if_pos c_1]), by rw [ht, hH]⟩) (fun _ h => by cases h) d_An_countGiven_27
    · refine lv_aload_n hx hb d_An_countGiven_9 rfl (lv_at hl 2 rfl) ?_
      refine lv_iload_n hx hb d_An_countGiven_10 rfl (lv_at hl 0 rfl) ?_
      refine vp_callSi (W.runV (As := [.int i]) (rest := []) ⟨hx, hb, hml, hown, hts⟩ (c_isGiven l G cI cL cZ cR cE a0 a1 a2 values givers i) (cwV 1 hts (gV kw_398 kw_399 kw_400 kw_17 kw_401) rfl rfl rfl (by decide +kernel) ⟨Nat.le_of_ble_eq_true rfl, Nat.le_of_ble_eq_true rfl⟩) (preRV_of (ci := 0) hN hK hP [0, 1, 2] rfl rfl rfl) rfl rfl hl.1 rfl (lv_room (Nat.le_of_ble_eq_true rfl)) d_An_countGiven_11 ⟨Nat.zero_le _, Nat.zero_le _⟩) (fun r_2 hw => ?_)
      subst hw
      refine lv_if_eq (tgt := 20) hx hb d_An_countGiven_14 (by decide) (fun c_3 => ?_) (fun c_3 => ?_)
      · refine lv_iinc (v := i + 1) (lv' := [(2, .int (i + 1)), (1, .int g), (0, .ref a0)]) hx hb d_An_countGiven_20 hl (k := 0) rfl rfl (by decide) rfl (fun ls hl => ?_)
        refine lv_goto (tgt := 4) hx hb d_An_countGiven_23 (by decide) ?_
        exact ih ls g (i + 1) (lv_sub hl [0, 1, 2] rfl) (by exact i_step hI (by assumption) rfl (by decide)) (by rw [← hT]; simp only [L_countGiven, if_neg c_1, if_pos c_3])
      · refine lv_iinc (v := g + 1) (lv' := [(1, .int (g + 1)), (2, .int i), (0, .ref a0)]) hx hb d_An_countGiven_17 hl (k := 1) rfl rfl (by decide) rfl (fun ls hl => ?_)
        refine lv_iinc (v := i + 1) (lv' := [(2, .int (i + 1)), (1, .int (g + 1)), (0, .ref a0)]) hx hb d_An_countGiven_20 hl (k := 1) rfl rfl (by decide) rfl (fun ls hl => ?_)
        refine lv_goto (tgt := 4) hx hb d_An_countGiven_23 (by decide) ?_
        exact ih ls (g + 1) (i + 1) (lv_sub hl [0, 1, 2] rfl) (by exact i_step hI (by assumption) rfl (by decide)) (by rw [← hT]; simp only [L_countGiven, if_neg c_1, if_neg c_3])
def f_clear (values : Nat → Int64) (givers : Nat → Int32) : (Nat → Int64) × (Nat → Int32) := (vp_updL (vp_updL (vp_updL (vp_updL values (0 : Int32).toNatClampNeg 0) (1 : Int32).toNatClampNeg 0) (2 : Int32).toNatClampNeg 0) (3 : Int32).toNatClampNeg 0, upd (upd (upd (upd givers (0 : Int32).toNatClampNeg (-1)) (1 : Int32).toNatClampNeg (-1)) (2 : Int32).toNatClampNeg (-1)) (3 : Int32).toNatClampNeg (-1))
set_option maxHeartbeats 4000000 in
set_option maxRecDepth 100000 in
theorem c_clear (l : Launch) (G : va_G) (cI cL cZ cR cE : ClassId) (sz : Nat) (a0 a1 a2 : Nat) (values : Nat → Int64) (givers : Nat → Int32) : Met l y_An_clear w_An_clear ({ frames := 0, cells := 0, slots := 0, locals := 0 }) (preW G (TYS cI cL cZ cR cE) [.ref a0] sz (W_Ans cI cL cZ cR cE a0 a1 a2 values givers)) (va_Qv (fun u : (Nat → Int64) × (Nat → Int32) => u = f_clear values givers) (fun u t => va_P G vwCl (W_Ans cI cL cZ cR cE a0 a1 a2 u.1 u.2) t.heap ∧ va_K G vwCl (TYS cI cL cZ cR cE) t ∧ va_D (va_A (W_Ans cI cL cZ cR cE a0 a1 a2 values givers) sz) (W_Ans cI cL cZ cR cE a0 a1 a2 u.1 u.2)) (va_A (W_Ans cI cL cZ cR cE a0 a1 a2 values givers) sz)) 0 0 (va_A (W_Ans cI cL cZ cR cE a0 a1 a2 values givers) sz) := by
  refine Met.ofW (cc := b_An_clear) (maxL := 2) (ret := none) (by decide) rfl ?_
  intro p e s m args below meth c s₁ B hml hv
  obtain ⟨rfl, hsz, hP, hK, hD0, hN⟩ := hv
  have hx := B.exec
  have hb := B.bytes
  have hr := B.returns
  have hts := atoms_spec (ws := w_An_clear) B.pre
  have hown : s.vm.findClass R_An = some m.cls := findClass_of_methodNamed B.named
  have hlocks := B.notSynchronized
  subst hsz
  have hD := hD0.self (sz := s.heap.size)
  clear hD0
  generalize hAe : va_A (W_Ans cI cL cZ cR cE a0 a1 a2 values givers) s.heap.size = A at hD ⊢
  have hA : ∀ q : Nat, s.heap.size ≤ q → A q := fun q h => by rw [← hAe]; exact Or.inr h
  clear hAe
  have hS : va_S A s.heap s.heap [] := va_S.rf
  obtain ⟨H, hH⟩ : ∃ H, H = s.heap := ⟨_, rfl⟩
  rw [← hH] at hP
  replace hS : va_S A s.heap H [] := by rw [hH]; exact hS
  rw [← hH]
  clear hH
  have hi_2 : ∀ w ∈ u_ws R_An T_An 2, w ∈ w_An_clear := fun w h => List.mem_cons_of_mem _ (iu_An w h)
  have hk_1 := hts (.fieldLink R_An 9 "HandlingRules$Answers" "values" "[J") (List.mem_cons_of_mem _ kw_52)
  have hk_3 := hts (.fieldLink R_An 15 "HandlingRules$Answers" "givers" "[I") (List.mem_cons_of_mem _ kw_53)
  have hl := lv_entry ([.ref a0]) (n := 2) (Nat.le_of_ble_eq_true rfl)
  rw [lg_entry_eq]
  generalize (lg_sl ([.ref a0]) ++ List.replicate (2 - (lg_sl ([.ref a0])).length) Slot.unset).toArray = ls at hl ⊢
  replace hl : lv_has ls 2 [(0, .ref a0)] := hl
  generalize hT : f_clear values givers = T
  refine lv_iconst (v := 0) hx hb d_An_clear_0 (by decide) ?_
  refine lv_istore_n (lv' := [(1, .int 0), (0, .ref a0)]) hx hb d_An_clear_1 rfl hl (by decide) rfl (fun ls hl => ?_)
  refine lv_iload_n hx hb d_An_clear_2 rfl (lv_at hl 0 rfl) ?_
  refine lv_iconst (v := 4) hx hb d_An_clear_3 (by decide) ?_
  refine lv_icmp_ge (tgt := 27) hx hb d_An_clear_4 (by decide) (fun k_1 => absurd k_1 (by decide)) (fun _ => ?_)
  refine lv_aload_n hx hb d_An_clear_7 rfl (lv_at hl 1 rfl) ?_
  refine va_get (D := G) (ci := 0) (v := .ref a1) (C := R_An) (T := T_An) (N := 2) hx hb hts hi_2 hown hK hP 0 rfl rfl 0 (by decide) hk_1 (fun _ h9 => h9) rfl d_An_clear_8 ?_
  refine lv_iload_n hx hb d_An_clear_11 rfl (lv_at hl 0 rfl) ?_
  refine lv_lconst (v := 0) hx hb d_An_clear_12 (by decide) ?_
  refine va_last hx hb hK hP hD hS 1 1 rfl rfl (by unfold vp_in; decide) d_An_clear_13 (fun H locs hP hD hS => ?_)
  replace hP : va_P G vwCl (W_Ans cI cL cZ cR cE a0 a1 a2 (vp_updL values (0 : Int32).toNatClampNeg 0) givers) H := hP
  replace hD : va_D A (W_Ans cI cL cZ cR cE a0 a1 a2 (vp_updL values (0 : Int32).toNatClampNeg 0) givers) := hD
  refine lv_aload_n hx hb d_An_clear_14 rfl (lv_at hl 1 rfl) ?_
  refine va_get (D := G) (ci := 0) (v := .ref a2) (C := R_An) (T := T_An) (N := 2) hx hb hts hi_2 hown hK hP 0 rfl rfl 1 (by decide) hk_3 (fun _ h9 => h9) rfl d_An_clear_15 ?_
  refine lv_iload_n hx hb d_An_clear_18 rfl (lv_at hl 0 rfl) ?_
  refine lv_iconst (v := (-1)) hx hb d_An_clear_19 (by decide) ?_
  refine va_iast hx hb hK hP hD hS 2 0 rfl rfl (by unfold vp_in; decide) d_An_clear_20 (fun H locs hP hD hS => ?_)
  replace hP : va_P G vwCl (W_Ans cI cL cZ cR cE a0 a1 a2 (vp_updL values (0 : Int32).toNatClampNeg 0) (upd givers (0 : Int32).toNatClampNeg (-1))) H := hP
  replace hD : va_D A (W_Ans cI cL cZ cR cE a0 a1 a2 (vp_updL values (0 : Int32).toNatClampNeg 0) (upd givers (0 : Int32).toNatClampNeg (-1))) := hD
  refine lv_iinc (v := 1) (lv' := [(1, .int 1), (0, .ref a0)]) hx hb d_An_clear_21 hl (k := 0) rfl (by decide) (by decide) rfl (fun ls hl => ?_)
  refine lv_goto (tgt := 2) hx hb d_An_clear_24 (by decide) ?_
  refine lv_iload_n hx hb d_An_clear_2 rfl (lv_at hl 0 rfl) ?_
  refine lv_iconst (v := 4) hx hb d_An_clear_3 (by decide) ?_
  refine lv_icmp_ge (tgt := 27) hx hb d_An_clear_4 (by decide) (fun k_2 => absurd k_2 (by decide)) (fun _ => ?_)
  refine lv_aload_n hx hb d_An_clear_7 rfl (lv_at hl 1 rfl) ?_
  refine va_get (D := G) (ci := 0) (v := .ref a1) (C := R_An) (T := T_An) (N := 2) hx hb hts hi_2 hown hK hP 0 rfl rfl 0 (by decide) hk_1 (fun _ h9 => h9) rfl d_An_clear_8 ?_
  refine lv_iload_n hx hb d_An_clear_11 rfl (lv_at hl 0 rfl) ?_
  refine lv_lconst (v := 0) hx hb d_An_clear_12 (by decide) ?_
  refine va_last hx hb hK hP hD hS 1 1 rfl rfl (by unfold vp_in; decide) d_An_clear_13 (fun H locs hP hD hS => ?_)
  replace hP : va_P G vwCl (W_Ans cI cL cZ cR cE a0 a1 a2 (vp_updL (vp_updL values (0 : Int32).toNatClampNeg 0) (1 : Int32).toNatClampNeg 0) (upd givers (0 : Int32).toNatClampNeg (-1))) H := hP
  replace hD : va_D A (W_Ans cI cL cZ cR cE a0 a1 a2 (vp_updL (vp_updL values (0 : Int32).toNatClampNeg 0) (1 : Int32).toNatClampNeg 0) (upd givers (0 : Int32).toNatClampNeg (-1))) := hD
  refine lv_aload_n hx hb d_An_clear_14 rfl (lv_at hl 1 rfl) ?_
  refine va_get (D := G) (ci := 0) (v := .ref a2) (C := R_An) (T := T_An) (N := 2) hx hb hts hi_2 hown hK hP 0 rfl rfl 1 (by decide) hk_3 (fun _ h9 => h9) rfl d_An_clear_15 ?_
  refine lv_iload_n hx hb d_An_clear_18 rfl (lv_at hl 0 rfl) ?_
  refine lv_iconst (v := (-1)) hx hb d_An_clear_19 (by decide) ?_
  refine va_iast hx hb hK hP hD hS 2 0 rfl rfl (by unfold vp_in; decide) d_An_clear_20 (fun H locs hP hD hS => ?_)
  replace hP : va_P G vwCl (W_Ans cI cL cZ cR cE a0 a1 a2 (vp_updL (vp_updL values (0 : Int32).toNatClampNeg 0) (1 : Int32).toNatClampNeg 0) (upd (upd givers (0 : Int32).toNatClampNeg (-1)) (1 : Int32).toNatClampNeg (-1))) H := hP
  replace hD : va_D A (W_Ans cI cL cZ cR cE a0 a1 a2 (vp_updL (vp_updL values (0 : Int32).toNatClampNeg 0) (1 : Int32).toNatClampNeg 0) (upd (upd givers (0 : Int32).toNatClampNeg (-1)) (1 : Int32).toNatClampNeg (-1))) := hD
  refine lv_iinc (v := 2) (lv' := [(1, .int 2), (0, .ref a0)]) hx hb d_An_clear_21 hl (k := 0) rfl (by decide) (by decide) rfl (fun ls hl => ?_)
  refine lv_goto (tgt := 2) hx hb d_An_clear_24 (by decide) ?_
  refine lv_iload_n hx hb d_An_clear_2 rfl (lv_at hl 0 rfl) ?_
  refine lv_iconst (v := 4) hx hb d_An_clear_3 (by decide) ?_
  refine lv_icmp_ge (tgt := 27) hx hb d_An_clear_4 (by decide) (fun k_3 => absurd k_3 (by decide)) (fun _ => ?_)
  refine lv_aload_n hx hb d_An_clear_7 rfl (lv_at hl 1 rfl) ?_
  refine va_get (D := G) (ci := 0) (v := .ref a1) (C := R_An) (T := T_An) (N := 2) hx hb hts hi_2 hown hK hP 0 rfl rfl 0 (by decide) hk_1 (fun _ h9 => h9) rfl d_An_clear_8 ?_
  refine lv_iload_n hx hb d_An_clear_11 rfl (lv_at hl 0 rfl) ?_
  refine lv_lconst (v := 0) hx hb d_An_clear_12 (by decide) ?_
  refine va_last hx hb hK hP hD hS 1 1 rfl rfl (by unfold vp_in; decide) d_An_clear_13 (fun H locs hP hD hS => ?_)
  replace hP : va_P G vwCl (W_Ans cI cL cZ cR cE a0 a1 a2 (vp_updL (vp_updL (vp_updL values (0 : Int32).toNatClampNeg 0) (1 : Int32).toNatClampNeg 0) (2 : Int32).toNatClampNeg 0) (upd (upd givers (0 : Int32).toNatClampNeg (-1)) (1 : Int32).toNatClampNeg (-1))) H := hP
  replace hD : va_D A (W_Ans cI cL cZ cR cE a0 a1 a2 (vp_updL (vp_updL (vp_updL values (0 : Int32).toNatClampNeg 0) (1 : Int32).toNatClampNeg 0) (2 : Int32).toNatClampNeg 0) (upd (upd givers (0 : Int32).toNatClampNeg (-1)) (1 : Int32).toNatClampNeg (-1))) := hD
  refine lv_aload_n hx hb d_An_clear_14 rfl (lv_at hl 1 rfl) ?_
  refine va_get (D := G) (ci := 0) (v := .ref a2) (C := R_An) (T := T_An) (N := 2) hx hb hts hi_2 hown hK hP 0 rfl rfl 1 (by decide) hk_3 (fun _ h9 => h9) rfl d_An_clear_15 ?_
  refine lv_iload_n hx hb d_An_clear_18 rfl (lv_at hl 0 rfl) ?_
  refine lv_iconst (v := (-1)) hx hb d_An_clear_19 (by decide) ?_
  refine va_iast hx hb hK hP hD hS 2 0 rfl rfl (by unfold vp_in; decide) d_An_clear_20 (fun H locs hP hD hS => ?_)
  replace hP : va_P G vwCl (W_Ans cI cL cZ cR cE a0 a1 a2 (vp_updL (vp_updL (vp_updL values (0 : Int32).toNatClampNeg 0) (1 : Int32).toNatClampNeg 0) (2 : Int32).toNatClampNeg 0) (upd (upd (upd givers (0 : Int32).toNatClampNeg (-1)) (1 : Int32).toNatClampNeg (-1)) (2 : Int32).toNatClampNeg (-1))) H := hP
  replace hD : va_D A (W_Ans cI cL cZ cR cE a0 a1 a2 (vp_updL (vp_updL (vp_updL values (0 : Int32).toNatClampNeg 0) (1 : Int32).toNatClampNeg 0) (2 : Int32).toNatClampNeg 0) (upd (upd (upd givers (0 : Int32).toNatClampNeg (-1)) (1 : Int32).toNatClampNeg (-1)) (2 : Int32).toNatClampNeg (-1))) := hD
  refine lv_iinc (v := 3) (lv' := [(1, .int 3), (0, .ref a0)]) hx hb d_An_clear_21 hl (k := 0) rfl (by decide) (by decide) rfl (fun ls hl => ?_)
  refine lv_goto (tgt := 2) hx hb d_An_clear_24 (by decide) ?_
  refine lv_iload_n hx hb d_An_clear_2 rfl (lv_at hl 0 rfl) ?_
  refine lv_iconst (v := 4) hx hb d_An_clear_3 (by decide) ?_
  refine lv_icmp_ge (tgt := 27) hx hb d_An_clear_4 (by decide) (fun k_4 => absurd k_4 (by decide)) (fun _ => ?_)
  refine lv_aload_n hx hb d_An_clear_7 rfl (lv_at hl 1 rfl) ?_
  refine va_get (D := G) (ci := 0) (v := .ref a1) (C := R_An) (T := T_An) (N := 2) hx hb hts hi_2 hown hK hP 0 rfl rfl 0 (by decide) hk_1 (fun _ h9 => h9) rfl d_An_clear_8 ?_
  refine lv_iload_n hx hb d_An_clear_11 rfl (lv_at hl 0 rfl) ?_
  refine lv_lconst (v := 0) hx hb d_An_clear_12 (by decide) ?_
  refine va_last hx hb hK hP hD hS 1 1 rfl rfl (by unfold vp_in; decide) d_An_clear_13 (fun H locs hP hD hS => ?_)
  replace hP : va_P G vwCl (W_Ans cI cL cZ cR cE a0 a1 a2 (vp_updL (vp_updL (vp_updL (vp_updL values (0 : Int32).toNatClampNeg 0) (1 : Int32).toNatClampNeg 0) (2 : Int32).toNatClampNeg 0) (3 : Int32).toNatClampNeg 0) (upd (upd (upd givers (0 : Int32).toNatClampNeg (-1)) (1 : Int32).toNatClampNeg (-1)) (2 : Int32).toNatClampNeg (-1))) H := hP
  replace hD : va_D A (W_Ans cI cL cZ cR cE a0 a1 a2 (vp_updL (vp_updL (vp_updL (vp_updL values (0 : Int32).toNatClampNeg 0) (1 : Int32).toNatClampNeg 0) (2 : Int32).toNatClampNeg 0) (3 : Int32).toNatClampNeg 0) (upd (upd (upd givers (0 : Int32).toNatClampNeg (-1)) (1 : Int32).toNatClampNeg (-1)) (2 : Int32).toNatClampNeg (-1))) := hD
  refine lv_aload_n hx hb d_An_clear_14 rfl (lv_at hl 1 rfl) ?_
  refine va_get (D := G) (ci := 0) (v := .ref a2) (C := R_An) (T := T_An) (N := 2) hx hb hts hi_2 hown hK hP 0 rfl rfl 1 (by decide) hk_3 (fun _ h9 => h9) rfl d_An_clear_15 ?_
  refine lv_iload_n hx hb d_An_clear_18 rfl (lv_at hl 0 rfl) ?_
  refine lv_iconst (v := (-1)) hx hb d_An_clear_19 (by decide) ?_
  refine va_iast hx hb hK hP hD hS 2 0 rfl rfl (by unfold vp_in; decide) d_An_clear_20 (fun H locs hP hD hS => ?_)
  replace hP : va_P G vwCl (W_Ans cI cL cZ cR cE a0 a1 a2 (vp_updL (vp_updL (vp_updL (vp_updL values (0 : Int32).toNatClampNeg 0) (1 : Int32).toNatClampNeg 0) (2 : Int32).toNatClampNeg 0) (3 : Int32).toNatClampNeg 0) (upd (upd (upd (upd givers (0 : Int32).toNatClampNeg (-1)) (1 : Int32).toNatClampNeg (-1)) (2 : Int32).toNatClampNeg (-1)) (3 : Int32).toNatClampNeg (-1))) H := hP
  replace hD : va_D A (W_Ans cI cL cZ cR cE a0 a1 a2 (vp_updL (vp_updL (vp_updL (vp_updL values (0 : Int32).toNatClampNeg 0) (1 : Int32).toNatClampNeg 0) (2 : Int32).toNatClampNeg 0) (3 : Int32).toNatClampNeg 0) (upd (upd (upd (upd givers (0 : Int32).toNatClampNeg (-1)) (1 : Int32).toNatClampNeg (-1)) (2 : Int32).toNatClampNeg (-1)) (3 : Int32).toNatClampNeg (-1))) := hD
  refine lv_iinc (v := 4) (lv' := [(1, .int 4), (0, .ref a0)]) hx hb d_An_clear_21 hl (k := 0) rfl (by decide) (by decide) rfl (fun ls hl => ?_)
  refine lv_goto (tgt := 2) hx hb d_An_clear_24 (by decide) ?_
  refine lv_iload_n hx hb d_An_clear_2 rfl (lv_at hl 0 rfl) ?_
  refine lv_iconst (v := 4) hx hb d_An_clear_3 (by decide) ?_
  refine lv_icmp_ge (tgt := 27) hx hb d_An_clear_4 (by decide) (fun _ => ?_) (fun k_5 => absurd (by decide) k_5)
  exact W.vret hx hb hr (fun t ht hW => ⟨⟨(vp_updL (vp_updL (vp_updL (vp_updL values (0 : Int32).toNatClampNeg 0) (1 : Int32).toNatClampNeg 0) (2 : Int32).toNatClampNeg 0) (3 : Int32).toNatClampNeg 0, upd (upd (upd (upd givers (0 : Int32).toNatClampNeg (-1)) (1 : Int32).toNatClampNeg (-1)) (2 : Int32).toNatClampNeg (-1)) (3 : Int32).toNatClampNeg (-1)), rfl, (by rw [← hT]; simp only [f_clear]), by rw [ht]; exact hP, va_K.moved hW.alike hK, hD⟩, hS.F ht⟩) hS.2.2 d_An_clear_27
def f_give (values : Nat → Int64) (givers : Nat → Int32) (k : Int64) (w : Int64) (by_ : Int32) : (Nat → Int64) × (Nat → Int32) := if (f_isWithin k 0 3) = 0 then (values, givers) else (vp_updL values k.toInt32.toNatClampNeg w, upd givers k.toInt32.toNatClampNeg by_)
set_option maxHeartbeats 4000000 in
set_option maxRecDepth 100000 in
theorem c_give (l : Launch) (G : va_G) (cI cL cZ cR cE : ClassId) (sz : Nat) (a0 a1 a2 : Nat) (values : Nat → Int64) (givers : Nat → Int32) (k : Int64) (w : Int64) (by_ : Int32) : Met l y_An_give w_An_give ({ frames := 1, cells := 0, slots := 0, locals := 25 }) (preW G (TYS cI cL cZ cR cE) [.ref a0, .long k, .long w, .int by_] sz (W_Ans cI cL cZ cR cE a0 a1 a2 values givers)) (va_Qv (fun u : (Nat → Int64) × (Nat → Int32) => u = f_give values givers k w by_) (fun u t => va_P G vwCl (W_Ans cI cL cZ cR cE a0 a1 a2 u.1 u.2) t.heap ∧ va_K G vwCl (TYS cI cL cZ cR cE) t ∧ va_D (va_A (W_Ans cI cL cZ cR cE a0 a1 a2 values givers) sz) (W_Ans cI cL cZ cR cE a0 a1 a2 u.1 u.2)) (va_A (W_Ans cI cL cZ cR cE a0 a1 a2 values givers) sz)) 0 0 (va_A (W_Ans cI cL cZ cR cE a0 a1 a2 values givers) sz) := by
  refine Met.ofW (cc := b_An_give) (maxL := 6) (ret := none) (by decide) rfl ?_
  intro p e s m args below meth c s₁ B hml hv
  obtain ⟨rfl, hsz, hP, hK, hD0, hN⟩ := hv
  have hx := B.exec
  have hb := B.bytes
  have hr := B.returns
  have hts := atoms_spec (ws := w_An_give) B.pre
  have hown : s.vm.findClass R_An = some m.cls := findClass_of_methodNamed B.named
  have hlocks := B.notSynchronized
  subst hsz
  have hD := hD0.self (sz := s.heap.size)
  clear hD0
  generalize hAe : va_A (W_Ans cI cL cZ cR cE a0 a1 a2 values givers) s.heap.size = A at hD ⊢
  have hA : ∀ q : Nat, s.heap.size ≤ q → A q := fun q h => by rw [← hAe]; exact Or.inr h
  clear hAe
  have hS : va_S A s.heap s.heap [] := va_S.rf
  obtain ⟨H, hH⟩ : ∃ H, H = s.heap := ⟨_, rfl⟩
  rw [← hH] at hP
  replace hS : va_S A s.heap H [] := by rw [hH]; exact hS
  rw [← hH]
  clear hH
  have hi_3 : ∀ w ∈ u_ws R_An T_An 2, w ∈ w_An_give := fun w h => List.mem_cons_of_mem _ (iu_An w h)
  have hk_1 := hts (.constantLong R_An 19 3) (List.mem_cons_of_mem _ kw_353)
  have hk_2 := hts (.fieldLink R_An 9 "HandlingRules$Answers" "values" "[J") (List.mem_cons_of_mem _ kw_52)
  have hk_4 := hts (.fieldLink R_An 15 "HandlingRules$Answers" "givers" "[I") (List.mem_cons_of_mem _ kw_53)
  have hl := lv_entry ([.ref a0, .long k, .long w, .int by_]) (n := 6) (Nat.le_of_ble_eq_true rfl)
  rw [lg_entry_eq]
  generalize (lg_sl ([.ref a0, .long k, .long w, .int by_]) ++ List.replicate (6 - (lg_sl ([.ref a0, .long k, .long w, .int by_])).length) Slot.unset).toArray = ls at hl ⊢
  replace hl : lv_has ls 6 [(0, .ref a0), (1, .long k), (3, .long w), (5, .int by_)] := hl
  generalize hT : f_give values givers k w by_ = T
  refine lv_lload_n hx hb d_An_give_0 rfl (lv_at hl 1 rfl) ?_
  refine lv_lconst (v := 0) hx hb d_An_give_1 (by decide) ?_
  refine lv_ldc2 (v := 3) hx hb hown hk_1 d_An_give_2 ?_
  refine vp_callSi (run_of (va_runSN (As := [.long k, .long 0, .long 3]) (rest := []) ⟨hx, hb, hml, hown, hts⟩ (c_isWithin l G cI cL cZ cR cE  k 0 3) ⟨va_cnB 3 hts (gC kw_180) rfl rfl rfl (hN.1 _ nw_0) (hts _ (List.mem_cons_of_mem _ kw_15)) (by decide +kernel) ⟨Nat.le_of_ble_eq_true rfl, Nat.le_of_ble_eq_true rfl⟩, hts _ (List.mem_cons_of_mem _ kw_179), trivial⟩ (preRS_of hN hK hP [] rfl) rfl rfl hl.1 rfl (lv_room (Nat.le_of_ble_eq_true rfl)) d_An_give_5 ⟨Nat.zero_le _, Nat.zero_le _⟩)) (fun r_1 hw => ?_)
  subst hw
  refine lv_if_eq (tgt := 28) hx hb d_An_give_8 (by decide) (fun c_2 => ?_) (fun c_2 => ?_)
  · exact W.vret hx hb hr (fun t ht hW => ⟨⟨(values, givers), rfl, (by rw [← hT]; simp only [f_give, if_pos c_2]), by rw [ht]; exact hP, va_K.moved hW.alike hK, hD⟩, hS.F ht⟩) hS.2.2 d_An_give_28
  · refine lv_aload_n hx hb d_An_give_11 rfl (lv_at hl 0 rfl) ?_
    refine va_get (D := G) (ci := 0) (v := .ref a1) (C := R_An) (T := T_An) (N := 2) hx hb hts hi_3 hown hK hP 0 rfl rfl 0 (by decide) hk_2 (fun _ h9 => h9) rfl d_An_give_12 ?_
    refine lv_lload_n hx hb d_An_give_15 rfl (lv_at hl 1 rfl) ?_
    refine lv_l2i (v := k.toInt32) hx hb d_An_give_16 rfl ?_
    refine lv_lload_n hx hb d_An_give_17 rfl (lv_at hl 2 rfl) ?_
    refine va_last hx hb hK hP hD hS 1 1 rfl rfl (ix_w c_2 rfl (by decide)) d_An_give_18 (fun H locs hP hD hS => ?_)
    replace hP : va_P G vwCl (W_Ans cI cL cZ cR cE a0 a1 a2 (vp_updL values k.toInt32.toNatClampNeg w) givers) H := hP
    replace hD : va_D A (W_Ans cI cL cZ cR cE a0 a1 a2 (vp_updL values k.toInt32.toNatClampNeg w) givers) := hD
    refine lv_aload_n hx hb d_An_give_19 rfl (lv_at hl 0 rfl) ?_
    refine va_get (D := G) (ci := 0) (v := .ref a2) (C := R_An) (T := T_An) (N := 2) hx hb hts hi_3 hown hK hP 0 rfl rfl 1 (by decide) hk_4 (fun _ h9 => h9) rfl d_An_give_20 ?_
    refine lv_lload_n hx hb d_An_give_23 rfl (lv_at hl 1 rfl) ?_
    refine lv_l2i (v := k.toInt32) hx hb d_An_give_24 rfl ?_
    refine lv_iload hx hb d_An_give_25 (lv_at hl 3 rfl) ?_
    refine va_iast hx hb hK hP hD hS 2 0 rfl rfl (ix_w c_2 rfl (by decide)) d_An_give_27 (fun H locs hP hD hS => ?_)
    replace hP : va_P G vwCl (W_Ans cI cL cZ cR cE a0 a1 a2 (vp_updL values k.toInt32.toNatClampNeg w) (upd givers k.toInt32.toNatClampNeg by_)) H := hP
    replace hD : va_D A (W_Ans cI cL cZ cR cE a0 a1 a2 (vp_updL values k.toInt32.toNatClampNeg w) (upd givers k.toInt32.toNatClampNeg by_)) := hD
    exact W.vret hx hb hr (fun t ht hW => ⟨⟨(vp_updL values k.toInt32.toNatClampNeg w, upd givers k.toInt32.toNatClampNeg by_), rfl, (by rw [← hT]; simp only [f_give, if_neg c_2]), by rw [ht]; exact hP, va_K.moved hW.alike hK, hD⟩, hS.F ht⟩) hS.2.2 d_An_give_28
end
section
def f_addFail (ruleNumbers : Nat → Int32) (hows : Nat → Int32) (count : Int32) (num : Int32) (how : Int32) : (Nat → Int32) × (Nat → Int32) × Int32 := if 8 ≤ count then (ruleNumbers, hows, count) else (upd ruleNumbers count.toNatClampNeg num, upd hows count.toNatClampNeg how, count + 1)
set_option maxHeartbeats 4000000 in
set_option maxRecDepth 100000 in
theorem c_addFail (l : Launch) (G : va_G) (cI cL cZ cR cE : ClassId) (sz : Nat) (a0 a1 a2 : Nat) (ruleNumbers : Nat → Int32) (hows : Nat → Int32) (count : Int32) (num : Int32) (how : Int32) (hc0 : ¬ count < 0) : Met l y_Fa_add w_Fa_add ({ frames := 0, cells := 0, slots := 0, locals := 0 }) (preW G (TYS cI cL cZ cR cE) [.ref a0, .int num, .int how] sz (W_Fai cI cL cZ cR cE a0 a1 a2 ruleNumbers hows count)) (va_Qv (fun u : (Nat → Int32) × (Nat → Int32) × Int32 => u = f_addFail ruleNumbers hows count num how) (fun u t => va_P G vwCl (W_Fai cI cL cZ cR cE a0 a1 a2 u.1 u.2.1 u.2.2) t.heap ∧ va_K G vwCl (TYS cI cL cZ cR cE) t ∧ va_D (va_A (W_Fai cI cL cZ cR cE a0 a1 a2 ruleNumbers hows count) sz) (W_Fai cI cL cZ cR cE a0 a1 a2 u.1 u.2.1 u.2.2)) (va_A (W_Fai cI cL cZ cR cE a0 a1 a2 ruleNumbers hows count) sz)) 0 0 (va_A (W_Fai cI cL cZ cR cE a0 a1 a2 ruleNumbers hows count) sz) := by
  refine Met.ofW (cc := b_Fa_add) (maxL := 3) (ret := none) (by decide) rfl ?_
  intro p e s m args below meth c s₁ B hml hv
  obtain ⟨rfl, hsz, hP, hK, hD0, hN⟩ := hv
  have hx := B.exec
  have hb := B.bytes
  have hr := B.returns
  have hts := atoms_spec (ws := w_Fa_add) B.pre
  have hown : s.vm.findClass R_Fa = some m.cls := findClass_of_methodNamed B.named
  have hlocks := B.notSynchronized
  subst hsz
  have hD := hD0.self (sz := s.heap.size)
  clear hD0
  generalize hAe : va_A (W_Fai cI cL cZ cR cE a0 a1 a2 ruleNumbers hows count) s.heap.size = A at hD ⊢
  have hA : ∀ q : Nat, s.heap.size ≤ q → A q := fun q h => by rw [← hAe]; exact Or.inr h
  clear hAe
  have hS : va_S A s.heap s.heap [] := va_S.rf
  obtain ⟨H, hH⟩ : ∃ H, H = s.heap := ⟨_, rfl⟩
  rw [← hH] at hP
  replace hS : va_S A s.heap H [] := by rw [hH]; exact hS
  rw [← hH]
  clear hH
  have hi_2 : ∀ w ∈ u_ws R_Fa T_Fa 3, w ∈ w_Fa_add := fun w h => List.mem_cons_of_mem _ (iu_Fa w h)
  have hk_1 := hts (.fieldLink R_Fa 18 "HandlingRules$Failures" "count" "I") (List.mem_cons_of_mem _ kw_103)
  have hk_3 := hts (.fieldLink R_Fa 9 "HandlingRules$Failures" "ruleNumbers" "[I") (List.mem_cons_of_mem _ kw_101)
  have hk_4 := hts (.fieldLink R_Fa 15 "HandlingRules$Failures" "hows" "[I") (List.mem_cons_of_mem _ kw_102)
  have hl := lv_entry ([.ref a0, .int num, .int how]) (n := 3) (Nat.le_of_ble_eq_true rfl)
  rw [lg_entry_eq]
  generalize (lg_sl ([.ref a0, .int num, .int how]) ++ List.replicate (3 - (lg_sl ([.ref a0, .int num, .int how])).length) Slot.unset).toArray = ls at hl ⊢
  replace hl : lv_has ls 3 [(0, .ref a0), (1, .int num), (2, .int how)] := hl
  generalize hT : f_addFail ruleNumbers hows count num how = T
  refine lv_aload_n hx hb d_Fa_add_0 rfl (lv_at hl 0 rfl) ?_
  refine va_get (D := G) (ci := 2) (v := .int count) (C := R_Fa) (T := T_Fa) (N := 3) hx hb hts hi_2 hown hK hP 0 rfl rfl 2 (by decide) hk_1 (fun _ h9 => h9) rfl d_Fa_add_1 ?_
  refine lv_bipush (v := 8) hx hb d_Fa_add_4 (by decide) ?_
  refine lv_icmp_ge (tgt := 39) hx hb d_Fa_add_6 (by decide) (fun c_1 => ?_) (fun c_1 => ?_)
  · exact W.vret hx hb hr (fun t ht hW => ⟨⟨(ruleNumbers, hows, count), rfl, (by rw [← hT]; simp only [f_addFail, if_pos c_1]), by rw [ht]; exact hP, va_K.moved hW.alike hK, hD⟩, hS.F ht⟩) hS.2.2 d_Fa_add_39
  · refine lv_aload_n hx hb d_Fa_add_9 rfl (lv_at hl 0 rfl) ?_
    refine va_get (D := G) (ci := 2) (v := .ref a1) (C := R_Fa) (T := T_Fa) (N := 3) hx hb hts hi_2 hown hK hP 0 rfl rfl 0 (by decide) hk_3 (fun _ h9 => h9) rfl d_Fa_add_10 ?_
    refine lv_aload_n hx hb d_Fa_add_13 rfl (lv_at hl 0 rfl) ?_
    refine va_get (D := G) (ci := 2) (v := .int count) (C := R_Fa) (T := T_Fa) (N := 3) hx hb hts hi_2 hown hK hP 0 rfl rfl 2 (by decide) hk_1 (fun _ h9 => h9) rfl d_Fa_add_14 ?_
    refine lv_iload_n hx hb d_Fa_add_17 rfl (lv_at hl 1 rfl) ?_
    refine va_iast hx hb hK hP hD hS 1 0 rfl rfl (ix_of hc0 c_1 rfl) d_Fa_add_18 (fun H locs hP hD hS => ?_)
    replace hP : va_P G vwCl (W_Fai cI cL cZ cR cE a0 a1 a2 (upd ruleNumbers count.toNatClampNeg num) hows count) H := hP
    replace hD : va_D A (W_Fai cI cL cZ cR cE a0 a1 a2 (upd ruleNumbers count.toNatClampNeg num) hows count) := hD
    refine lv_aload_n hx hb d_Fa_add_19 rfl (lv_at hl 0 rfl) ?_
    refine va_get (D := G) (ci := 2) (v := .ref a2) (C := R_Fa) (T := T_Fa) (N := 3) hx hb hts hi_2 hown hK hP 0 rfl rfl 1 (by decide) hk_4 (fun _ h9 => h9) rfl d_Fa_add_20 ?_
    refine lv_aload_n hx hb d_Fa_add_23 rfl (lv_at hl 0 rfl) ?_
    refine va_get (D := G) (ci := 2) (v := .int count) (C := R_Fa) (T := T_Fa) (N := 3) hx hb hts hi_2 hown hK hP 0 rfl rfl 2 (by decide) hk_1 (fun _ h9 => h9) rfl d_Fa_add_24 ?_
    refine lv_iload_n hx hb d_Fa_add_27 rfl (lv_at hl 2 rfl) ?_
    refine va_iast hx hb hK hP hD hS 2 0 rfl rfl (ix_of hc0 c_1 rfl) d_Fa_add_28 (fun H locs hP hD hS => ?_)
    replace hP : va_P G vwCl (W_Fai cI cL cZ cR cE a0 a1 a2 (upd ruleNumbers count.toNatClampNeg num) (upd hows count.toNatClampNeg how) count) H := hP
    replace hD : va_D A (W_Fai cI cL cZ cR cE a0 a1 a2 (upd ruleNumbers count.toNatClampNeg num) (upd hows count.toNatClampNeg how) count) := hD
    refine lv_aload_n hx hb d_Fa_add_29 rfl (lv_at hl 0 rfl) ?_
    refine lv_dup hx hb d_Fa_add_30 rfl ?_
    refine va_get (D := G) (ci := 2) (v := .int count) (C := R_Fa) (T := T_Fa) (N := 3) hx hb hts hi_2 hown hK hP 0 rfl rfl 2 (by decide) hk_1 (fun _ h9 => h9) rfl d_Fa_add_31 ?_
    refine lv_iconst (v := 1) hx hb d_Fa_add_34 (by decide) ?_
    refine lv_iadd hx hb d_Fa_add_35 ?_
    refine va_put (D := G) (ci := 2) (v := .int (count + 1)) (ty := (.int)) (C := R_Fa) (T := T_Fa) (N := 3) hx hb hts hi_2 ty_Fa tyk_Fa nm_Fa hown hK hP hD hS 0 rfl rfl 2 (by decide) hk_1 (fun _ h9 => h9) rfl (by decide +kernel) rfl rfl (Nat.le_of_ble_eq_true rfl) d_Fa_add_36 (fun H locs hP hD hS => ?_)
    replace hP : va_P G vwCl (W_Fai cI cL cZ cR cE a0 a1 a2 (upd ruleNumbers count.toNatClampNeg num) (upd hows count.toNatClampNeg how) (count + 1)) H := hP
    replace hD : va_D A (W_Fai cI cL cZ cR cE a0 a1 a2 (upd ruleNumbers count.toNatClampNeg num) (upd hows count.toNatClampNeg how) (count + 1)) := hD
    exact W.vret hx hb hr (fun t ht hW => ⟨⟨(upd ruleNumbers count.toNatClampNeg num, upd hows count.toNatClampNeg how, count + 1), rfl, (by rw [← hT]; simp only [f_addFail, if_neg c_1]), by rw [ht]; exact hP, va_K.moved hW.alike hK, hD⟩, hS.F ht⟩) hS.2.2 d_Fa_add_39
def f_numberAt (ruleNumbers : Nat → Int32) (count : Int32) (i : Int32) : Int32 := if i < 0 then (-1) else (if count ≤ i then (-1) else (if 8 ≤ i then (-1) else (ruleNumbers i.toNatClampNeg)))
set_option maxHeartbeats 4000000 in
set_option maxRecDepth 100000 in
theorem c_numberAt (l : Launch) (G : va_G) (cI cL cZ cR cE : ClassId) (a0 a1 a2 : Nat) (ruleNumbers : Nat → Int32) (hows : Nat → Int32) (count : Int32) (i : Int32) : Met l y_Fa_numberAt w_Fa_numberAt ({ frames := 0, cells := 0, slots := 0, locals := 0 }) (preR G (TYS cI cL cZ cR cE) [.ref a0, .int i] (W_Fai cI cL cZ cR cE a0 a1 a2 ruleNumbers hows count)) (vp_Si (fun r => r = f_numberAt ruleNumbers count i)) 0 0 (fun _ => False) := by
  refine Met.ofW (cc := b_Fa_numberAt) (maxL := 2) (ret := (some .int)) (by decide) rfl ?_
  intro p e s m args below meth c s₁ B hml hv
  obtain ⟨rfl, hP, hK, hN⟩ := hv
  have hx := B.exec
  have hb := B.bytes
  have hr := B.returns
  have hts := atoms_spec (ws := w_Fa_numberAt) B.pre
  have hown : s.vm.findClass R_Fa = some m.cls := findClass_of_methodNamed B.named
  have hlocks := B.notSynchronized
  obtain ⟨H, hH⟩ : ∃ H, H = s.heap := ⟨_, rfl⟩
  rw [← hH] at hP
  rw [← hH]
  have hi_2 : ∀ w ∈ u_ws R_Fa T_Fa 3, w ∈ w_Fa_numberAt := fun w h => List.mem_cons_of_mem _ (iu_Fa w h)
  have hk_1 := hts (.fieldLink R_Fa 18 "HandlingRules$Failures" "count" "I") (List.mem_cons_of_mem _ kw_103)
  have hk_3 := hts (.fieldLink R_Fa 9 "HandlingRules$Failures" "ruleNumbers" "[I") (List.mem_cons_of_mem _ kw_101)
  have hl := lv_entry ([.ref a0, .int i]) (n := 2) (Nat.le_of_ble_eq_true rfl)
  rw [lg_entry_eq]
  generalize (lg_sl ([.ref a0, .int i]) ++ List.replicate (2 - (lg_sl ([.ref a0, .int i])).length) Slot.unset).toArray = ls at hl ⊢
  replace hl : lv_has ls 2 [(0, .ref a0), (1, .int i)] := hl
  generalize hT : f_numberAt ruleNumbers count i = T
  refine lv_iload_n hx hb d_Fa_numberAt_0 rfl (lv_at hl 1 rfl) ?_
  refine lv_if_lt (tgt := 27) hx hb d_Fa_numberAt_1 (by decide) (fun c_1 => ?_) (fun c_1 => ?_)
  · refine lv_iconst (v := (-1)) hx hb d_Fa_numberAt_27 (by decide) ?_
    exact W.iret (v := (-1)) hx hb hr (fun t ht hW => ⟨(-1), rfl, (by rw [← hT]; simp only [f_numberAt, if_pos c_1]), by rw [ht, hH]⟩) (fun _ h => by cases h) d_Fa_numberAt_28
  · refine lv_iload_n hx hb d_Fa_numberAt_4 rfl (lv_at hl 1 rfl) ?_
    refine lv_aload_n hx hb d_Fa_numberAt_5 rfl (lv_at hl 0 rfl) ?_
    refine va_get (D := G) (ci := 2) (v := .int count) (C := R_Fa) (T := T_Fa) (N := 3) hx hb hts hi_2 hown hK hP 0 rfl rfl 2 (by decide) hk_1 (fun _ h9 => h9) rfl d_Fa_numberAt_6 ?_
    refine lv_icmp_ge (tgt := 27) hx hb d_Fa_numberAt_9 (by decide) (fun c_2 => ?_) (fun c_2 => ?_)
    · refine lv_iconst (v := (-1)) hx hb d_Fa_numberAt_27 (by decide) ?_
      exact W.iret (v := (-1)) hx hb hr (fun t ht hW => ⟨(-1), rfl, (by rw [← hT]; simp only [f_numberAt, if_neg c_1, if_pos c_2]), by rw [ht, hH]⟩) (fun _ h => by cases h) d_Fa_numberAt_28
    · refine lv_iload_n hx hb d_Fa_numberAt_12 rfl (lv_at hl 1 rfl) ?_
      refine lv_bipush (v := 8) hx hb d_Fa_numberAt_13 (by decide) ?_
      refine lv_icmp_ge (tgt := 27) hx hb d_Fa_numberAt_15 (by decide) (fun c_3 => ?_) (fun c_3 => ?_)
      · refine lv_iconst (v := (-1)) hx hb d_Fa_numberAt_27 (by decide) ?_
        exact W.iret (v := (-1)) hx hb hr (fun t ht hW => ⟨(-1), rfl, (by rw [← hT]; simp only [f_numberAt, if_neg c_1, if_neg c_2, if_pos c_3]), by rw [ht, hH]⟩) (fun _ h => by cases h) d_Fa_numberAt_28
      · refine lv_aload_n hx hb d_Fa_numberAt_18 rfl (lv_at hl 0 rfl) ?_
        refine va_get (D := G) (ci := 2) (v := .ref a1) (C := R_Fa) (T := T_Fa) (N := 3) hx hb hts hi_2 hown hK hP 0 rfl rfl 0 (by decide) hk_3 (fun _ h9 => h9) rfl d_Fa_numberAt_19 ?_
        refine lv_iload_n hx hb d_Fa_numberAt_22 rfl (lv_at hl 1 rfl) ?_
        refine va_iald hx hb hK hP 1 0 rfl rfl (ix_of c_1 c_3 rfl) d_Fa_numberAt_23 ?_
        refine lv_goto (tgt := 28) hx hb d_Fa_numberAt_24 (by decide) ?_
        exact W.iret (v := ruleNumbers i.toNatClampNeg) hx hb hr (fun t ht hW => ⟨ruleNumbers i.toNatClampNeg, rfl, (by rw [← hT]; simp only [f_numberAt, if_neg c_1, if_neg c_2, if_neg c_3]), by rw [ht, hH]⟩) (fun _ h => by cases h) d_Fa_numberAt_28
def f_howAt (hows : Nat → Int32) (count : Int32) (i : Int32) : Int32 := if i < 0 then (-1) else (if count ≤ i then (-1) else (if 8 ≤ i then (-1) else (hows i.toNatClampNeg)))
set_option maxHeartbeats 4000000 in
set_option maxRecDepth 100000 in
theorem c_howAt (l : Launch) (G : va_G) (cI cL cZ cR cE : ClassId) (a0 a1 a2 : Nat) (ruleNumbers : Nat → Int32) (hows : Nat → Int32) (count : Int32) (i : Int32) : Met l y_Fa_howAt w_Fa_howAt ({ frames := 0, cells := 0, slots := 0, locals := 0 }) (preR G (TYS cI cL cZ cR cE) [.ref a0, .int i] (W_Fai cI cL cZ cR cE a0 a1 a2 ruleNumbers hows count)) (vp_Si (fun r => r = f_howAt hows count i)) 0 0 (fun _ => False) := by
  refine Met.ofW (cc := b_Fa_howAt) (maxL := 2) (ret := (some .int)) (by decide) rfl ?_
  intro p e s m args below meth c s₁ B hml hv
  obtain ⟨rfl, hP, hK, hN⟩ := hv
  have hx := B.exec
  have hb := B.bytes
  have hr := B.returns
  have hts := atoms_spec (ws := w_Fa_howAt) B.pre
  have hown : s.vm.findClass R_Fa = some m.cls := findClass_of_methodNamed B.named
  have hlocks := B.notSynchronized
  obtain ⟨H, hH⟩ : ∃ H, H = s.heap := ⟨_, rfl⟩
  rw [← hH] at hP
  rw [← hH]
  have hi_2 : ∀ w ∈ u_ws R_Fa T_Fa 3, w ∈ w_Fa_howAt := fun w h => List.mem_cons_of_mem _ (iu_Fa w h)
  have hk_1 := hts (.fieldLink R_Fa 18 "HandlingRules$Failures" "count" "I") (List.mem_cons_of_mem _ kw_103)
  have hk_3 := hts (.fieldLink R_Fa 15 "HandlingRules$Failures" "hows" "[I") (List.mem_cons_of_mem _ kw_102)
  have hl := lv_entry ([.ref a0, .int i]) (n := 2) (Nat.le_of_ble_eq_true rfl)
  rw [lg_entry_eq]
  generalize (lg_sl ([.ref a0, .int i]) ++ List.replicate (2 - (lg_sl ([.ref a0, .int i])).length) Slot.unset).toArray = ls at hl ⊢
  replace hl : lv_has ls 2 [(0, .ref a0), (1, .int i)] := hl
  generalize hT : f_howAt hows count i = T
  refine lv_iload_n hx hb d_Fa_howAt_0 rfl (lv_at hl 1 rfl) ?_
  refine lv_if_lt (tgt := 27) hx hb d_Fa_howAt_1 (by decide) (fun c_1 => ?_) (fun c_1 => ?_)
  · refine lv_iconst (v := (-1)) hx hb d_Fa_howAt_27 (by decide) ?_
    exact W.iret (v := (-1)) hx hb hr (fun t ht hW => ⟨(-1), rfl, (by rw [← hT]; simp only [f_howAt, if_pos c_1]), by rw [ht, hH]⟩) (fun _ h => by cases h) d_Fa_howAt_28
  · refine lv_iload_n hx hb d_Fa_howAt_4 rfl (lv_at hl 1 rfl) ?_
    refine lv_aload_n hx hb d_Fa_howAt_5 rfl (lv_at hl 0 rfl) ?_
    refine va_get (D := G) (ci := 2) (v := .int count) (C := R_Fa) (T := T_Fa) (N := 3) hx hb hts hi_2 hown hK hP 0 rfl rfl 2 (by decide) hk_1 (fun _ h9 => h9) rfl d_Fa_howAt_6 ?_
    refine lv_icmp_ge (tgt := 27) hx hb d_Fa_howAt_9 (by decide) (fun c_2 => ?_) (fun c_2 => ?_)
    · refine lv_iconst (v := (-1)) hx hb d_Fa_howAt_27 (by decide) ?_
      exact W.iret (v := (-1)) hx hb hr (fun t ht hW => ⟨(-1), rfl, (by rw [← hT]; simp only [f_howAt, if_neg c_1, if_pos c_2]), by rw [ht, hH]⟩) (fun _ h => by cases h) d_Fa_howAt_28
    · refine lv_iload_n hx hb d_Fa_howAt_12 rfl (lv_at hl 1 rfl) ?_
      refine lv_bipush (v := 8) hx hb d_Fa_howAt_13 (by decide) ?_
      refine lv_icmp_ge (tgt := 27) hx hb d_Fa_howAt_15 (by decide) (fun c_3 => ?_) (fun c_3 => ?_)
      · refine lv_iconst (v := (-1)) hx hb d_Fa_howAt_27 (by decide) ?_
        exact W.iret (v := (-1)) hx hb hr (fun t ht hW => ⟨(-1), rfl, (by rw [← hT]; simp only [f_howAt, if_neg c_1, if_neg c_2, if_pos c_3]), by rw [ht, hH]⟩) (fun _ h => by cases h) d_Fa_howAt_28
      · refine lv_aload_n hx hb d_Fa_howAt_18 rfl (lv_at hl 0 rfl) ?_
        refine va_get (D := G) (ci := 2) (v := .ref a2) (C := R_Fa) (T := T_Fa) (N := 3) hx hb hts hi_2 hown hK hP 0 rfl rfl 1 (by decide) hk_3 (fun _ h9 => h9) rfl d_Fa_howAt_19 ?_
        refine lv_iload_n hx hb d_Fa_howAt_22 rfl (lv_at hl 1 rfl) ?_
        refine va_iald hx hb hK hP 2 0 rfl rfl (ix_of c_1 c_3 rfl) d_Fa_howAt_23 ?_
        refine lv_goto (tgt := 28) hx hb d_Fa_howAt_24 (by decide) ?_
        exact W.iret (v := hows i.toNatClampNeg) hx hb hr (fun t ht hW => ⟨hows i.toNatClampNeg, rfl, (by rw [← hT]; simp only [f_howAt, if_neg c_1, if_neg c_2, if_neg c_3]), by rw [ht, hH]⟩) (fun _ h => by cases h) d_Fa_howAt_28
end
section
def f_append (ops : Nat → Int32) (numbers : Nat → Int64) (length : Int32) (op : Int32) (n : Int64) : (Nat → Int32) × (Nat → Int64) × Int32 := if 12 ≤ length then (ops, numbers, length) else (upd ops length.toNatClampNeg op, vp_updL numbers length.toNatClampNeg n, length + 1)
set_option maxHeartbeats 4000000 in
set_option maxRecDepth 100000 in
theorem c_append (l : Launch) (G : va_G) (cI cL cZ cR cE : ClassId) (sz : Nat) (a0 a1 a2 : Nat) (number : Int32) (home : Nat) (rank : Int32) (name : Int32) (ops : Nat → Int32) (numbers : Nat → Int64) (length : Int32) (cell : Int64) (fallbackKind : Int32) (fallbackValue : Int64) (op : Int32) (n : Int64) (hc0 : ¬ length < 0) : Met l y_Ru_append w_Ru_append ({ frames := 0, cells := 0, slots := 0, locals := 0 }) (preW G (TYS cI cL cZ cR cE) [.ref a0, .int op, .long n] sz (W_Rul cI cL cZ cR cE a0 a1 a2 number home rank name ops numbers length cell fallbackKind fallbackValue)) (va_Qv (fun u : (Nat → Int32) × (Nat → Int64) × Int32 => u = f_append ops numbers length op n) (fun u t => va_P G vwCl (W_Rul cI cL cZ cR cE a0 a1 a2 number home rank name u.1 u.2.1 u.2.2 cell fallbackKind fallbackValue) t.heap ∧ va_K G vwCl (TYS cI cL cZ cR cE) t ∧ va_D (va_A (W_Rul cI cL cZ cR cE a0 a1 a2 number home rank name ops numbers length cell fallbackKind fallbackValue) sz) (W_Rul cI cL cZ cR cE a0 a1 a2 number home rank name u.1 u.2.1 u.2.2 cell fallbackKind fallbackValue)) (va_A (W_Rul cI cL cZ cR cE a0 a1 a2 number home rank name ops numbers length cell fallbackKind fallbackValue) sz)) 0 0 (va_A (W_Rul cI cL cZ cR cE a0 a1 a2 number home rank name ops numbers length cell fallbackKind fallbackValue) sz) := by
  refine Met.ofW (cc := b_Ru_append) (maxL := 4) (ret := none) (by decide) rfl ?_
  intro p e s m args below meth c s₁ B hml hv
  obtain ⟨rfl, hsz, hP, hK, hD0, hN⟩ := hv
  have hx := B.exec
  have hb := B.bytes
  have hr := B.returns
  have hts := atoms_spec (ws := w_Ru_append) B.pre
  have hown : s.vm.findClass R_Ru = some m.cls := findClass_of_methodNamed B.named
  have hlocks := B.notSynchronized
  subst hsz
  have hD := hD0.self (sz := s.heap.size)
  clear hD0
  generalize hAe : va_A (W_Rul cI cL cZ cR cE a0 a1 a2 number home rank name ops numbers length cell fallbackKind fallbackValue) s.heap.size = A at hD ⊢
  have hA : ∀ q : Nat, s.heap.size ≤ q → A q := fun q h => by rw [← hAe]; exact Or.inr h
  clear hAe
  have hS : va_S A s.heap s.heap [] := va_S.rf
  obtain ⟨H, hH⟩ : ∃ H, H = s.heap := ⟨_, rfl⟩
  rw [← hH] at hP
  replace hS : va_S A s.heap H [] := by rw [hH]; exact hS
  rw [← hH]
  clear hH
  have hi_2 : ∀ w ∈ u_ws R_Ru T_Ru 10, w ∈ w_Ru_append := fun w h => List.mem_cons_of_mem _ (iu_Ru w h)
  have hk_1 := hts (.fieldLink R_Ru 19 "HandlingRules$Rule" "length" "I") (List.mem_cons_of_mem _ kw_198)
  have hk_3 := hts (.fieldLink R_Ru 9 "HandlingRules$Rule" "ops" "[I") (List.mem_cons_of_mem _ kw_194)
  have hk_4 := hts (.fieldLink R_Ru 15 "HandlingRules$Rule" "numbers" "[J") (List.mem_cons_of_mem _ kw_196)
  have hl := lv_entry ([.ref a0, .int op, .long n]) (n := 4) (Nat.le_of_ble_eq_true rfl)
  rw [lg_entry_eq]
  generalize (lg_sl ([.ref a0, .int op, .long n]) ++ List.replicate (4 - (lg_sl ([.ref a0, .int op, .long n])).length) Slot.unset).toArray = ls at hl ⊢
  replace hl : lv_has ls 4 [(0, .ref a0), (1, .int op), (2, .long n)] := hl
  generalize hT : f_append ops numbers length op n = T
  refine lv_aload_n hx hb d_Ru_append_0 rfl (lv_at hl 0 rfl) ?_
  refine va_get (D := G) (ci := 3) (v := .int length) (C := R_Ru) (T := T_Ru) (N := 10) hx hb hts hi_2 hown hK hP 0 rfl rfl 6 (by decide) hk_1 (fun _ h9 => h9) rfl d_Ru_append_1 ?_
  refine lv_bipush (v := 12) hx hb d_Ru_append_4 (by decide) ?_
  refine lv_icmp_ge (tgt := 39) hx hb d_Ru_append_6 (by decide) (fun c_1 => ?_) (fun c_1 => ?_)
  · exact W.vret hx hb hr (fun t ht hW => ⟨⟨(ops, numbers, length), rfl, (by rw [← hT]; simp only [f_append, if_pos c_1]), by rw [ht]; exact hP, va_K.moved hW.alike hK, hD⟩, hS.F ht⟩) hS.2.2 d_Ru_append_39
  · refine lv_aload_n hx hb d_Ru_append_9 rfl (lv_at hl 0 rfl) ?_
    refine va_get (D := G) (ci := 3) (v := .ref a1) (C := R_Ru) (T := T_Ru) (N := 10) hx hb hts hi_2 hown hK hP 0 rfl rfl 4 (by decide) hk_3 (fun _ h9 => h9) rfl d_Ru_append_10 ?_
    refine lv_aload_n hx hb d_Ru_append_13 rfl (lv_at hl 0 rfl) ?_
    refine va_get (D := G) (ci := 3) (v := .int length) (C := R_Ru) (T := T_Ru) (N := 10) hx hb hts hi_2 hown hK hP 0 rfl rfl 6 (by decide) hk_1 (fun _ h9 => h9) rfl d_Ru_append_14 ?_
    refine lv_iload_n hx hb d_Ru_append_17 rfl (lv_at hl 1 rfl) ?_
    refine va_iast hx hb hK hP hD hS 1 0 rfl rfl (ix_of hc0 c_1 rfl) d_Ru_append_18 (fun H locs hP hD hS => ?_)
    replace hP : va_P G vwCl (W_Rul cI cL cZ cR cE a0 a1 a2 number home rank name (upd ops length.toNatClampNeg op) numbers length cell fallbackKind fallbackValue) H := hP
    replace hD : va_D A (W_Rul cI cL cZ cR cE a0 a1 a2 number home rank name (upd ops length.toNatClampNeg op) numbers length cell fallbackKind fallbackValue) := hD
    refine lv_aload_n hx hb d_Ru_append_19 rfl (lv_at hl 0 rfl) ?_
    refine va_get (D := G) (ci := 3) (v := .ref a2) (C := R_Ru) (T := T_Ru) (N := 10) hx hb hts hi_2 hown hK hP 0 rfl rfl 5 (by decide) hk_4 (fun _ h9 => h9) rfl d_Ru_append_20 ?_
    refine lv_aload_n hx hb d_Ru_append_23 rfl (lv_at hl 0 rfl) ?_
    refine va_get (D := G) (ci := 3) (v := .int length) (C := R_Ru) (T := T_Ru) (N := 10) hx hb hts hi_2 hown hK hP 0 rfl rfl 6 (by decide) hk_1 (fun _ h9 => h9) rfl d_Ru_append_24 ?_
    refine lv_lload_n hx hb d_Ru_append_27 rfl (lv_at hl 2 rfl) ?_
    refine va_last hx hb hK hP hD hS 2 1 rfl rfl (ix_of hc0 c_1 rfl) d_Ru_append_28 (fun H locs hP hD hS => ?_)
    replace hP : va_P G vwCl (W_Rul cI cL cZ cR cE a0 a1 a2 number home rank name (upd ops length.toNatClampNeg op) (vp_updL numbers length.toNatClampNeg n) length cell fallbackKind fallbackValue) H := hP
    replace hD : va_D A (W_Rul cI cL cZ cR cE a0 a1 a2 number home rank name (upd ops length.toNatClampNeg op) (vp_updL numbers length.toNatClampNeg n) length cell fallbackKind fallbackValue) := hD
    refine lv_aload_n hx hb d_Ru_append_29 rfl (lv_at hl 0 rfl) ?_
    refine lv_dup hx hb d_Ru_append_30 rfl ?_
    refine va_get (D := G) (ci := 3) (v := .int length) (C := R_Ru) (T := T_Ru) (N := 10) hx hb hts hi_2 hown hK hP 0 rfl rfl 6 (by decide) hk_1 (fun _ h9 => h9) rfl d_Ru_append_31 ?_
    refine lv_iconst (v := 1) hx hb d_Ru_append_34 (by decide) ?_
    refine lv_iadd hx hb d_Ru_append_35 ?_
    refine va_put (D := G) (ci := 3) (v := .int (length + 1)) (ty := (.int)) (C := R_Ru) (T := T_Ru) (N := 10) hx hb hts hi_2 ty_Ru tyk_Ru nm_Ru hown hK hP hD hS 0 rfl rfl 6 (by decide) hk_1 (fun _ h9 => h9) rfl (by decide +kernel) rfl rfl (Nat.le_of_ble_eq_true rfl) d_Ru_append_36 (fun H locs hP hD hS => ?_)
    replace hP : va_P G vwCl (W_Rul cI cL cZ cR cE a0 a1 a2 number home rank name (upd ops length.toNatClampNeg op) (vp_updL numbers length.toNatClampNeg n) (length + 1) cell fallbackKind fallbackValue) H := hP
    replace hD : va_D A (W_Rul cI cL cZ cR cE a0 a1 a2 number home rank name (upd ops length.toNatClampNeg op) (vp_updL numbers length.toNatClampNeg n) (length + 1) cell fallbackKind fallbackValue) := hD
    exact W.vret hx hb hr (fun t ht hW => ⟨⟨(upd ops length.toNatClampNeg op, vp_updL numbers length.toNatClampNeg n, length + 1), rfl, (by rw [← hT]; simp only [f_append, if_neg c_1]), by rw [ht]; exact hP, va_K.moved hW.alike hK, hD⟩, hS.F ht⟩) hS.2.2 d_Ru_append_39
def f_goesBefore (number : Int32) (rank : Int32) (name : Int32) (znumber : Int32) (zrank : Int32) (zname : Int32) : Int32 := if rank = zrank then (if name = zname then (if znumber ≤ number then 0 else 1) else (if zname ≤ name then 0 else 1)) else (if zrank ≤ rank then 0 else 1)
set_option maxHeartbeats 4000000 in
set_option maxRecDepth 100000 in
theorem c_goesBefore (l : Launch) (G : va_G) (cI cL cZ cR cE : ClassId) (a0 a1 a2 : Nat) (za0 za1 za2 : Nat) (number : Int32) (home : Nat) (rank : Int32) (name : Int32) (ops : Nat → Int32) (numbers : Nat → Int64) (length : Int32) (cell : Int64) (fallbackKind : Int32) (fallbackValue : Int64) (znumber : Int32) (zhome : Nat) (zrank : Int32) (zname : Int32) (zops : Nat → Int32) (znumbers : Nat → Int64) (zlength : Int32) (zcell : Int64) (zfallbackKind : Int32) (zfallbackValue : Int64) : Met l y_Ru_goesBefore w_Ru_goesBefore ({ frames := 0, cells := 0, slots := 0, locals := 0 }) (preR G (TYS cI cL cZ cR cE) [.ref a0, .ref za0] (W_Rul cI cL cZ cR cE a0 a1 a2 number home rank name ops numbers length cell fallbackKind fallbackValue ++ W_Rul cI cL cZ cR cE za0 za1 za2 znumber zhome zrank zname zops znumbers zlength zcell zfallbackKind zfallbackValue)) (vp_Si (fun r => r = f_goesBefore number rank name znumber zrank zname)) 0 0 (fun _ => False) := by
  refine Met.ofW (cc := b_Ru_goesBefore) (maxL := 2) (ret := (some .boolean)) (by decide) rfl ?_
  intro p e s m args below meth c s₁ B hml hv
  obtain ⟨rfl, hP, hK, hN⟩ := hv
  have hx := B.exec
  have hb := B.bytes
  have hr := B.returns
  have hts := atoms_spec (ws := w_Ru_goesBefore) B.pre
  have hown : s.vm.findClass R_Ru = some m.cls := findClass_of_methodNamed B.named
  have hlocks := B.notSynchronized
  obtain ⟨H, hH⟩ : ∃ H, H = s.heap := ⟨_, rfl⟩
  rw [← hH] at hP
  rw [← hH]
  have hi_2 : ∀ w ∈ u_ws R_Ru T_Ru 10, w ∈ w_Ru_goesBefore := fun w h => List.mem_cons_of_mem _ (iu_Ru w h)
  have hk_1 := hts (.fieldLink R_Ru 40 "HandlingRules$Rule" "rank" "I") (List.mem_cons_of_mem _ kw_192)
  have hk_3 := hts (.fieldLink R_Ru 43 "HandlingRules$Rule" "name" "I") (List.mem_cons_of_mem _ kw_193)
  have hk_4 := hts (.fieldLink R_Ru 33 "HandlingRules$Rule" "number" "I") (List.mem_cons_of_mem _ kw_187)
  have hl := lv_entry ([.ref a0, .ref za0]) (n := 2) (Nat.le_of_ble_eq_true rfl)
  rw [lg_entry_eq]
  generalize (lg_sl ([.ref a0, .ref za0]) ++ List.replicate (2 - (lg_sl ([.ref a0, .ref za0])).length) Slot.unset).toArray = ls at hl ⊢
  replace hl : lv_has ls 2 [(0, .ref a0), (1, .ref za0)] := hl
  generalize hT : f_goesBefore number rank name znumber zrank zname = T
  refine lv_aload_n hx hb d_Ru_goesBefore_0 rfl (lv_at hl 0 rfl) ?_
  refine va_get (D := G) (ci := 3) (v := .int rank) (C := R_Ru) (T := T_Ru) (N := 10) hx hb hts hi_2 hown hK hP 0 rfl rfl 2 (by decide) hk_1 (fun _ h9 => h9) rfl d_Ru_goesBefore_1 ?_
  refine lv_aload_n hx hb d_Ru_goesBefore_4 rfl (lv_at hl 1 rfl) ?_
  refine va_get (D := G) (ci := 3) (v := .int zrank) (C := R_Ru) (T := T_Ru) (N := 10) hx hb hts hi_2 hown hK hP 3 rfl rfl 2 (by decide) hk_1 (fun _ h9 => h9) rfl d_Ru_goesBefore_5 ?_
  refine lv_icmp_eq (tgt := 28) hx hb d_Ru_goesBefore_8 (by decide) (fun c_1 => ?_) (fun c_1 => ?_)
  · refine lv_aload_n hx hb d_Ru_goesBefore_28 rfl (lv_at hl 0 rfl) ?_
    refine va_get (D := G) (ci := 3) (v := .int name) (C := R_Ru) (T := T_Ru) (N := 10) hx hb hts hi_2 hown hK hP 0 rfl rfl 3 (by decide) hk_3 (fun _ h9 => h9) rfl d_Ru_goesBefore_29 ?_
    refine lv_aload_n hx hb d_Ru_goesBefore_32 rfl (lv_at hl 1 rfl) ?_
    refine va_get (D := G) (ci := 3) (v := .int zname) (C := R_Ru) (T := T_Ru) (N := 10) hx hb hts hi_2 hown hK hP 3 rfl rfl 3 (by decide) hk_3 (fun _ h9 => h9) rfl d_Ru_goesBefore_33 ?_
    refine lv_icmp_eq (tgt := 58) hx hb d_Ru_goesBefore_36 (by decide) (fun c_2 => ?_) (fun c_2 => ?_)
    · refine lv_aload_n hx hb d_Ru_goesBefore_58 rfl (lv_at hl 0 rfl) ?_
      refine va_get (D := G) (ci := 3) (v := .int number) (C := R_Ru) (T := T_Ru) (N := 10) hx hb hts hi_2 hown hK hP 0 rfl rfl 0 (by decide) hk_4 (fun _ h9 => h9) rfl d_Ru_goesBefore_59 ?_
      refine lv_aload_n hx hb d_Ru_goesBefore_62 rfl (lv_at hl 1 rfl) ?_
      refine va_get (D := G) (ci := 3) (v := .int znumber) (C := R_Ru) (T := T_Ru) (N := 10) hx hb hts hi_2 hown hK hP 3 rfl rfl 0 (by decide) hk_4 (fun _ h9 => h9) rfl d_Ru_goesBefore_63 ?_
      refine lv_icmp_ge (tgt := 73) hx hb d_Ru_goesBefore_66 (by decide) (fun c_3 => ?_) (fun c_3 => ?_)
      · refine lv_iconst (v := 0) hx hb d_Ru_goesBefore_73 (by decide) ?_
        exact W.zret (v := 0) hx hb hr rfl (fun t ht hW => ⟨0, rfl, (by rw [← hT]; simp only [f_goesBefore, if_pos c_1, if_pos c_2, if_pos c_3]), by rw [ht, hH]⟩) (fun _ h => by cases h) d_Ru_goesBefore_74
      · refine lv_iconst (v := 1) hx hb d_Ru_goesBefore_69 (by decide) ?_
        refine lv_goto (tgt := 74) hx hb d_Ru_goesBefore_70 (by decide) ?_
        exact W.zret (v := 1) hx hb hr rfl (fun t ht hW => ⟨1, rfl, (by rw [← hT]; simp only [f_goesBefore, if_pos c_1, if_pos c_2, if_neg c_3]), by rw [ht, hH]⟩) (fun _ h => by cases h) d_Ru_goesBefore_74
    · refine lv_aload_n hx hb d_Ru_goesBefore_39 rfl (lv_at hl 0 rfl) ?_
      refine va_get (D := G) (ci := 3) (v := .int name) (C := R_Ru) (T := T_Ru) (N := 10) hx hb hts hi_2 hown hK hP 0 rfl rfl 3 (by decide) hk_3 (fun _ h9 => h9) rfl d_Ru_goesBefore_40 ?_
      refine lv_aload_n hx hb d_Ru_goesBefore_43 rfl (lv_at hl 1 rfl) ?_
      refine va_get (D := G) (ci := 3) (v := .int zname) (C := R_Ru) (T := T_Ru) (N := 10) hx hb hts hi_2 hown hK hP 3 rfl rfl 3 (by decide) hk_3 (fun _ h9 => h9) rfl d_Ru_goesBefore_44 ?_
      refine lv_icmp_ge (tgt := 54) hx hb d_Ru_goesBefore_47 (by decide) (fun c_4 => ?_) (fun c_4 => ?_)
      · refine lv_iconst (v := 0) hx hb d_Ru_goesBefore_54 (by decide) ?_
        refine lv_goto (tgt := 74) hx hb d_Ru_goesBefore_55 (by decide) ?_
        exact W.zret (v := 0) hx hb hr rfl (fun t ht hW => ⟨0, rfl, (by rw [← hT]; simp only [f_goesBefore, if_pos c_1, if_neg c_2, if_pos c_4]), by rw [ht, hH]⟩) (fun _ h => by cases h) d_Ru_goesBefore_74
      · refine lv_iconst (v := 1) hx hb d_Ru_goesBefore_50 (by decide) ?_
        refine lv_goto (tgt := 74) hx hb d_Ru_goesBefore_51 (by decide) ?_
        exact W.zret (v := 1) hx hb hr rfl (fun t ht hW => ⟨1, rfl, (by rw [← hT]; simp only [f_goesBefore, if_pos c_1, if_neg c_2, if_neg c_4]), by rw [ht, hH]⟩) (fun _ h => by cases h) d_Ru_goesBefore_74
  · refine lv_aload_n hx hb d_Ru_goesBefore_11 rfl (lv_at hl 0 rfl) ?_
    refine va_get (D := G) (ci := 3) (v := .int rank) (C := R_Ru) (T := T_Ru) (N := 10) hx hb hts hi_2 hown hK hP 0 rfl rfl 2 (by decide) hk_1 (fun _ h9 => h9) rfl d_Ru_goesBefore_12 ?_
    refine lv_aload_n hx hb d_Ru_goesBefore_15 rfl (lv_at hl 1 rfl) ?_
    refine va_get (D := G) (ci := 3) (v := .int zrank) (C := R_Ru) (T := T_Ru) (N := 10) hx hb hts hi_2 hown hK hP 3 rfl rfl 2 (by decide) hk_1 (fun _ h9 => h9) rfl d_Ru_goesBefore_16 ?_
    refine lv_icmp_ge (tgt := 26) hx hb d_Ru_goesBefore_19 (by decide) (fun c_5 => ?_) (fun c_5 => ?_)
    · refine lv_iconst (v := 0) hx hb d_Ru_goesBefore_26 (by decide) ?_
      exact W.zret (v := 0) hx hb hr rfl (fun t ht hW => ⟨0, rfl, (by rw [← hT]; simp only [f_goesBefore, if_neg c_1, if_pos c_5]), by rw [ht, hH]⟩) (fun _ h => by cases h) d_Ru_goesBefore_27
    · refine lv_iconst (v := 1) hx hb d_Ru_goesBefore_22 (by decide) ?_
      refine lv_goto (tgt := 27) hx hb d_Ru_goesBefore_23 (by decide) ?_
      exact W.zret (v := 1) hx hb hr rfl (fun t ht hW => ⟨1, rfl, (by rw [← hT]; simp only [f_goesBefore, if_neg c_1, if_neg c_5]), by rw [ht, hH]⟩) (fun _ h => by cases h) d_Ru_goesBefore_27
end
section
def f_top (stack : Nat → Int64) (height : Int32) : Int64 := if height ≤ 0 then 0 else (if 8 < height then 0 else (stack (height - 1).toNatClampNeg))
set_option maxHeartbeats 4000000 in
set_option maxRecDepth 100000 in
theorem c_top (l : Launch) (G : va_G) (cI cL cZ cR cE : ClassId) (a0 a1 a2 a3 a4 a5 a6 : Nat) (facts : Nat → Int64) (stack : Nat → Int64) (handleFacts : Nat → Int32) (given_values : Nat → Int64) (given_givers : Nat → Int32) (handleCount : Int32) (height : Int32) (position : Int32) (fault : Int32) (cell : Int64) : Met l y_Rn_top w_Rn_top ({ frames := 0, cells := 0, slots := 0, locals := 0 }) (preR G (TYS cI cL cZ cR cE) [.ref a0] (W_Run cI cL cZ cR cE a0 a1 a2 a3 a4 a5 a6 facts stack handleFacts given_values given_givers handleCount height position fault cell)) (vp_Sl (fun r => r = f_top stack height)) 0 0 (fun _ => False) := by
  refine Met.ofW (cc := b_Rn_top) (maxL := 1) (ret := (some .long)) (by decide) rfl ?_
  intro p e s m args below meth c s₁ B hml hv
  obtain ⟨rfl, hP, hK, hN⟩ := hv
  have hx := B.exec
  have hb := B.bytes
  have hr := B.returns
  have hts := atoms_spec (ws := w_Rn_top) B.pre
  have hown : s.vm.findClass R_Rn = some m.cls := findClass_of_methodNamed B.named
  have hlocks := B.notSynchronized
  obtain ⟨H, hH⟩ : ∃ H, H = s.heap := ⟨_, rfl⟩
  rw [← hH] at hP
  rw [← hH]
  have hi_2 : ∀ w ∈ u_ws R_Rn T_Rn 9, w ∈ w_Rn_top := fun w h => List.mem_cons_of_mem _ (iu_Rn w h)
  have hk_1 := hts (.fieldLink R_Rn 33 "HandlingRules$Runner" "height" "I") (List.mem_cons_of_mem _ kw_68)
  have hk_3 := hts (.fieldLink R_Rn 15 "HandlingRules$Runner" "stack" "[J") (List.mem_cons_of_mem _ kw_62)
  have hl := lv_entry ([.ref a0]) (n := 1) (Nat.le_of_ble_eq_true rfl)
  rw [lg_entry_eq]
  generalize (lg_sl ([.ref a0]) ++ List.replicate (1 - (lg_sl ([.ref a0])).length) Slot.unset).toArray = ls at hl ⊢
  replace hl : lv_has ls 1 [(0, .ref a0)] := hl
  generalize hT : f_top stack height = T
  refine lv_aload_n hx hb d_Rn_top_0 rfl (lv_at hl 0 rfl) ?_
  refine va_get (D := G) (ci := 4) (v := .int height) (C := R_Rn) (T := T_Rn) (N := 9) hx hb hts hi_2 hown hK hP 0 rfl rfl 5 (by decide) hk_1 (fun _ h9 => h9) rfl d_Rn_top_1 ?_
  refine lv_if_le (tgt := 30) hx hb d_Rn_top_4 (by decide) (fun c_1 => ?_) (fun c_1 => ?_)
  · refine lv_lconst (v := 0) hx hb d_Rn_top_30 (by decide) ?_
    exact W.lret (v := 0) hx hb hr (fun t ht hW => ⟨0, rfl, (by rw [← hT]; simp only [f_top, if_pos c_1]), by rw [ht, hH]⟩) (fun _ h => by cases h) d_Rn_top_31
  · refine lv_aload_n hx hb d_Rn_top_7 rfl (lv_at hl 0 rfl) ?_
    refine va_get (D := G) (ci := 4) (v := .int height) (C := R_Rn) (T := T_Rn) (N := 9) hx hb hts hi_2 hown hK hP 0 rfl rfl 5 (by decide) hk_1 (fun _ h9 => h9) rfl d_Rn_top_8 ?_
    refine lv_bipush (v := 8) hx hb d_Rn_top_11 (by decide) ?_
    refine lv_icmp_gt (tgt := 30) hx hb d_Rn_top_13 (by decide) (fun c_2 => ?_) (fun c_2 => ?_)
    · refine lv_lconst (v := 0) hx hb d_Rn_top_30 (by decide) ?_
      exact W.lret (v := 0) hx hb hr (fun t ht hW => ⟨0, rfl, (by rw [← hT]; simp only [f_top, if_neg c_1, if_pos c_2]), by rw [ht, hH]⟩) (fun _ h => by cases h) d_Rn_top_31
    · refine lv_aload_n hx hb d_Rn_top_16 rfl (lv_at hl 0 rfl) ?_
      refine va_get (D := G) (ci := 4) (v := .ref a2) (C := R_Rn) (T := T_Rn) (N := 9) hx hb hts hi_2 hown hK hP 0 rfl rfl 1 (by decide) hk_3 (fun _ h9 => h9) rfl d_Rn_top_17 ?_
      refine lv_aload_n hx hb d_Rn_top_20 rfl (lv_at hl 0 rfl) ?_
      refine va_get (D := G) (ci := 4) (v := .int height) (C := R_Rn) (T := T_Rn) (N := 9) hx hb hts hi_2 hown hK hP 0 rfl rfl 5 (by decide) hk_1 (fun _ h9 => h9) rfl d_Rn_top_21 ?_
      refine lv_iconst (v := 1) hx hb d_Rn_top_24 (by decide) ?_
      refine lv_isub hx hb d_Rn_top_25 ?_
      refine va_lald hx hb hK hP 2 1 rfl rfl (ix_pred c_1 c_2 rfl) d_Rn_top_26 ?_
      refine lv_goto (tgt := 31) hx hb d_Rn_top_27 (by decide) ?_
      exact W.lret (v := stack (height - 1).toNatClampNeg) hx hb hr (fun t ht hW => ⟨stack (height - 1).toNatClampNeg, rfl, (by rw [← hT]; simp only [f_top, if_neg c_1, if_neg c_2]), by rw [ht, hH]⟩) (fun _ h => by cases h) d_Rn_top_31
def f_push (stack : Nat → Int64) (height : Int32) (w : Int64) : (Nat → Int64) × Int32 := if height < 0 then (stack, height) else (if 8 ≤ height then (stack, height) else (vp_updL stack height.toNatClampNeg w, height + 1))
set_option maxHeartbeats 4000000 in
set_option maxRecDepth 100000 in
theorem c_push (l : Launch) (G : va_G) (cI cL cZ cR cE : ClassId) (sz : Nat) (a0 a1 a2 a3 a4 a5 a6 : Nat) (facts : Nat → Int64) (stack : Nat → Int64) (handleFacts : Nat → Int32) (given_values : Nat → Int64) (given_givers : Nat → Int32) (handleCount : Int32) (height : Int32) (position : Int32) (fault : Int32) (cell : Int64) (w : Int64) : Met l y_Rn_push w_Rn_push ({ frames := 0, cells := 0, slots := 0, locals := 0 }) (preW G (TYS cI cL cZ cR cE) [.ref a0, .long w] sz (W_Run cI cL cZ cR cE a0 a1 a2 a3 a4 a5 a6 facts stack handleFacts given_values given_givers handleCount height position fault cell)) (va_Qv (fun u : (Nat → Int64) × Int32 => u = f_push stack height w) (fun u t => va_P G vwCl (W_Run cI cL cZ cR cE a0 a1 a2 a3 a4 a5 a6 facts u.1 handleFacts given_values given_givers handleCount u.2 position fault cell) t.heap ∧ va_K G vwCl (TYS cI cL cZ cR cE) t ∧ va_D (va_A (W_Run cI cL cZ cR cE a0 a1 a2 a3 a4 a5 a6 facts stack handleFacts given_values given_givers handleCount height position fault cell) sz) (W_Run cI cL cZ cR cE a0 a1 a2 a3 a4 a5 a6 facts u.1 handleFacts given_values given_givers handleCount u.2 position fault cell)) (va_A (W_Run cI cL cZ cR cE a0 a1 a2 a3 a4 a5 a6 facts stack handleFacts given_values given_givers handleCount height position fault cell) sz)) 0 0 (va_A (W_Run cI cL cZ cR cE a0 a1 a2 a3 a4 a5 a6 facts stack handleFacts given_values given_givers handleCount height position fault cell) sz) := by
  refine Met.ofW (cc := b_Rn_push) (maxL := 3) (ret := none) (by decide) rfl ?_
  intro p e s m args below meth c s₁ B hml hv
  obtain ⟨rfl, hsz, hP, hK, hD0, hN⟩ := hv
  have hx := B.exec
  have hb := B.bytes
  have hr := B.returns
  have hts := atoms_spec (ws := w_Rn_push) B.pre
  have hown : s.vm.findClass R_Rn = some m.cls := findClass_of_methodNamed B.named
  have hlocks := B.notSynchronized
  subst hsz
  have hD := hD0.self (sz := s.heap.size)
  clear hD0
  generalize hAe : va_A (W_Run cI cL cZ cR cE a0 a1 a2 a3 a4 a5 a6 facts stack handleFacts given_values given_givers handleCount height position fault cell) s.heap.size = A at hD ⊢
  have hA : ∀ q : Nat, s.heap.size ≤ q → A q := fun q h => by rw [← hAe]; exact Or.inr h
  clear hAe
  have hS : va_S A s.heap s.heap [] := va_S.rf
  obtain ⟨H, hH⟩ : ∃ H, H = s.heap := ⟨_, rfl⟩
  rw [← hH] at hP
  replace hS : va_S A s.heap H [] := by rw [hH]; exact hS
  rw [← hH]
  clear hH
  have hi_2 : ∀ w ∈ u_ws R_Rn T_Rn 9, w ∈ w_Rn_push := fun w h => List.mem_cons_of_mem _ (iu_Rn w h)
  have hk_1 := hts (.fieldLink R_Rn 33 "HandlingRules$Runner" "height" "I") (List.mem_cons_of_mem _ kw_68)
  have hk_3 := hts (.fieldLink R_Rn 15 "HandlingRules$Runner" "stack" "[J") (List.mem_cons_of_mem _ kw_62)
  have hl := lv_entry ([.ref a0, .long w]) (n := 3) (Nat.le_of_ble_eq_true rfl)
  rw [lg_entry_eq]
  generalize (lg_sl ([.ref a0, .long w]) ++ List.replicate (3 - (lg_sl ([.ref a0, .long w])).length) Slot.unset).toArray = ls at hl ⊢
  replace hl : lv_has ls 3 [(0, .ref a0), (1, .long w)] := hl
  generalize hT : f_push stack height w = T
  refine lv_aload_n hx hb d_Rn_push_0 rfl (lv_at hl 0 rfl) ?_
  refine va_get (D := G) (ci := 4) (v := .int height) (C := R_Rn) (T := T_Rn) (N := 9) hx hb hts hi_2 hown hK hP 0 rfl rfl 5 (by decide) hk_1 (fun _ h9 => h9) rfl d_Rn_push_1 ?_
  refine lv_if_lt (tgt := 36) hx hb d_Rn_push_4 (by decide) (fun c_1 => ?_) (fun c_1 => ?_)
  · exact W.vret hx hb hr (fun t ht hW => ⟨⟨(stack, height), rfl, (by rw [← hT]; simp only [f_push, if_pos c_1]), by rw [ht]; exact hP, va_K.moved hW.alike hK, hD⟩, hS.F ht⟩) hS.2.2 d_Rn_push_36
  · refine lv_aload_n hx hb d_Rn_push_7 rfl (lv_at hl 0 rfl) ?_
    refine va_get (D := G) (ci := 4) (v := .int height) (C := R_Rn) (T := T_Rn) (N := 9) hx hb hts hi_2 hown hK hP 0 rfl rfl 5 (by decide) hk_1 (fun _ h9 => h9) rfl d_Rn_push_8 ?_
    refine lv_bipush (v := 8) hx hb d_Rn_push_11 (by decide) ?_
    refine lv_icmp_ge (tgt := 36) hx hb d_Rn_push_13 (by decide) (fun c_2 => ?_) (fun c_2 => ?_)
    · exact W.vret hx hb hr (fun t ht hW => ⟨⟨(stack, height), rfl, (by rw [← hT]; simp only [f_push, if_neg c_1, if_pos c_2]), by rw [ht]; exact hP, va_K.moved hW.alike hK, hD⟩, hS.F ht⟩) hS.2.2 d_Rn_push_36
    · refine lv_aload_n hx hb d_Rn_push_16 rfl (lv_at hl 0 rfl) ?_
      refine va_get (D := G) (ci := 4) (v := .ref a2) (C := R_Rn) (T := T_Rn) (N := 9) hx hb hts hi_2 hown hK hP 0 rfl rfl 1 (by decide) hk_3 (fun _ h9 => h9) rfl d_Rn_push_17 ?_
      refine lv_aload_n hx hb d_Rn_push_20 rfl (lv_at hl 0 rfl) ?_
      refine va_get (D := G) (ci := 4) (v := .int height) (C := R_Rn) (T := T_Rn) (N := 9) hx hb hts hi_2 hown hK hP 0 rfl rfl 5 (by decide) hk_1 (fun _ h9 => h9) rfl d_Rn_push_21 ?_
      refine lv_lload_n hx hb d_Rn_push_24 rfl (lv_at hl 1 rfl) ?_
      refine va_last hx hb hK hP hD hS 2 1 rfl rfl (ix_of c_1 c_2 rfl) d_Rn_push_25 (fun H locs hP hD hS => ?_)
      replace hP : va_P G vwCl (W_Run cI cL cZ cR cE a0 a1 a2 a3 a4 a5 a6 facts (vp_updL stack height.toNatClampNeg w) handleFacts given_values given_givers handleCount height position fault cell) H := hP
      replace hD : va_D A (W_Run cI cL cZ cR cE a0 a1 a2 a3 a4 a5 a6 facts (vp_updL stack height.toNatClampNeg w) handleFacts given_values given_givers handleCount height position fault cell) := hD
      refine lv_aload_n hx hb d_Rn_push_26 rfl (lv_at hl 0 rfl) ?_
      refine lv_dup hx hb d_Rn_push_27 rfl ?_
      refine va_get (D := G) (ci := 4) (v := .int height) (C := R_Rn) (T := T_Rn) (N := 9) hx hb hts hi_2 hown hK hP 0 rfl rfl 5 (by decide) hk_1 (fun _ h9 => h9) rfl d_Rn_push_28 ?_
      refine lv_iconst (v := 1) hx hb d_Rn_push_31 (by decide) ?_
      refine lv_iadd hx hb d_Rn_push_32 ?_
      refine va_put (D := G) (ci := 4) (v := .int (height + 1)) (ty := (.int)) (C := R_Rn) (T := T_Rn) (N := 9) hx hb hts hi_2 ty_Rn tyk_Rn nm_Rn hown hK hP hD hS 0 rfl rfl 5 (by decide) hk_1 (fun _ h9 => h9) rfl (by decide +kernel) rfl rfl (Nat.le_of_ble_eq_true rfl) d_Rn_push_33 (fun H locs hP hD hS => ?_)
      replace hP : va_P G vwCl (W_Run cI cL cZ cR cE a0 a1 a2 a3 a4 a5 a6 facts (vp_updL stack height.toNatClampNeg w) handleFacts given_values given_givers handleCount (height + 1) position fault cell) H := hP
      replace hD : va_D A (W_Run cI cL cZ cR cE a0 a1 a2 a3 a4 a5 a6 facts (vp_updL stack height.toNatClampNeg w) handleFacts given_values given_givers handleCount (height + 1) position fault cell) := hD
      exact W.vret hx hb hr (fun t ht hW => ⟨⟨(vp_updL stack height.toNatClampNeg w, height + 1), rfl, (by rw [← hT]; simp only [f_push, if_neg c_1, if_neg c_2]), by rw [ht]; exact hP, va_K.moved hW.alike hK, hD⟩, hS.F ht⟩) hS.2.2 d_Rn_push_36
def f_pop (stack : Nat → Int64) (height : Int32) : Int64 × Int32 := if height ≤ 0 then (f_top stack height, height) else (f_top stack height, height - 1)
set_option maxHeartbeats 4000000 in
set_option maxRecDepth 100000 in
theorem c_pop (l : Launch) (G : va_G) (cI cL cZ cR cE : ClassId) (sz : Nat) (a0 a1 a2 a3 a4 a5 a6 : Nat) (facts : Nat → Int64) (stack : Nat → Int64) (handleFacts : Nat → Int32) (given_values : Nat → Int64) (given_givers : Nat → Int32) (handleCount : Int32) (height : Int32) (position : Int32) (fault : Int32) (cell : Int64) : Met l y_Rn_pop w_Rn_pop ({ frames := 1, cells := 0, slots := 0, locals := 20 }) (preW G (TYS cI cL cZ cR cE) [.ref a0] sz (W_Run cI cL cZ cR cE a0 a1 a2 a3 a4 a5 a6 facts stack handleFacts given_values given_givers handleCount height position fault cell)) (va_Ql (fun (r : Int64) (u : Int32) => (r, u) = f_pop stack height) (fun u t => va_P G vwCl (W_Run cI cL cZ cR cE a0 a1 a2 a3 a4 a5 a6 facts stack handleFacts given_values given_givers handleCount u position fault cell) t.heap ∧ va_K G vwCl (TYS cI cL cZ cR cE) t ∧ va_D (va_A (W_Run cI cL cZ cR cE a0 a1 a2 a3 a4 a5 a6 facts stack handleFacts given_values given_givers handleCount height position fault cell) sz) (W_Run cI cL cZ cR cE a0 a1 a2 a3 a4 a5 a6 facts stack handleFacts given_values given_givers handleCount u position fault cell)) (va_A (W_Run cI cL cZ cR cE a0 a1 a2 a3 a4 a5 a6 facts stack handleFacts given_values given_givers handleCount height position fault cell) sz)) 0 0 (va_A (W_Run cI cL cZ cR cE a0 a1 a2 a3 a4 a5 a6 facts stack handleFacts given_values given_givers handleCount height position fault cell) sz) := by
  refine Met.ofW (cc := b_Rn_pop) (maxL := 3) (ret := (some .long)) (by decide) rfl ?_
  intro p e s m args below meth c s₁ B hml hv
  obtain ⟨rfl, hsz, hP, hK, hD0, hN⟩ := hv
  have hx := B.exec
  have hb := B.bytes
  have hr := B.returns
  have hts := atoms_spec (ws := w_Rn_pop) B.pre
  have hown : s.vm.findClass R_Rn = some m.cls := findClass_of_methodNamed B.named
  have hlocks := B.notSynchronized
  subst hsz
  have hD := hD0.self (sz := s.heap.size)
  clear hD0
  generalize hAe : va_A (W_Run cI cL cZ cR cE a0 a1 a2 a3 a4 a5 a6 facts stack handleFacts given_values given_givers handleCount height position fault cell) s.heap.size = A at hD ⊢
  have hA : ∀ q : Nat, s.heap.size ≤ q → A q := fun q h => by rw [← hAe]; exact Or.inr h
  clear hAe
  have hS : va_S A s.heap s.heap [] := va_S.rf
  obtain ⟨H, hH⟩ : ∃ H, H = s.heap := ⟨_, rfl⟩
  rw [← hH] at hP
  replace hS : va_S A s.heap H [] := by rw [hH]; exact hS
  rw [← hH]
  clear hH
  have hi_2 : ∀ w ∈ u_ws R_Rn T_Rn 9, w ∈ w_Rn_pop := fun w h => List.mem_cons_of_mem _ (iu_Rn w h)
  have hk_1 := hts (.fieldLink R_Rn 33 "HandlingRules$Runner" "height" "I") (List.mem_cons_of_mem _ kw_68)
  have hl := lv_entry ([.ref a0]) (n := 3) (Nat.le_of_ble_eq_true rfl)
  rw [lg_entry_eq]
  generalize (lg_sl ([.ref a0]) ++ List.replicate (3 - (lg_sl ([.ref a0])).length) Slot.unset).toArray = ls at hl ⊢
  replace hl : lv_has ls 3 [(0, .ref a0)] := hl
  generalize hT : f_pop stack height = T
  refine lv_aload_n hx hb d_Rn_pop_0 rfl (lv_at hl 0 rfl) ?_
  refine vp_callSl (W.runV (As := []) (rest := []) ⟨hx, hb, hml, hown, hts⟩ (c_top l G cI cL cZ cR cE a0 a1 a2 a3 a4 a5 a6 facts stack handleFacts given_values given_givers handleCount height position fault cell) (cwV 0 hts (gV kw_321 kw_322 kw_323 kw_16 kw_324) rfl rfl rfl (by decide +kernel) ⟨Nat.le_of_ble_eq_true rfl, Nat.le_of_ble_eq_true rfl⟩) (preRV_of (ci := 4) hN hK hP [0, 1, 2, 3, 4, 5, 6] rfl rfl rfl) rfl rfl hl.1 rfl (lv_room (Nat.le_of_ble_eq_true rfl)) d_Rn_pop_1 ⟨Nat.zero_le _, Nat.zero_le _⟩) (fun r_1 hw => ?_)
  subst hw
  refine lv_lstore_n (lv' := [(1, .long (f_top stack height)), (0, .ref a0)]) hx hb d_Rn_pop_4 rfl hl (by decide) rfl (fun ls hl => ?_)
  refine lv_aload_n hx hb d_Rn_pop_5 rfl (lv_at hl 1 rfl) ?_
  refine va_get (D := G) (ci := 4) (v := .int height) (C := R_Rn) (T := T_Rn) (N := 9) hx hb hts hi_2 hown hK hP 0 rfl rfl 5 (by decide) hk_1 (fun _ h9 => h9) rfl d_Rn_pop_6 ?_
  refine lv_if_le (tgt := 22) hx hb d_Rn_pop_9 (by decide) (fun c_2 => ?_) (fun c_2 => ?_)
  · refine lv_lload_n hx hb d_Rn_pop_22 rfl (lv_at hl 0 rfl) ?_
    exact W.lret (v := f_top stack height) hx hb hr (fun t ht hW => ⟨⟨f_top stack height, height, rfl, (by rw [← hT]; simp only [f_pop, if_pos c_2]), by rw [ht]; exact hP, va_K.moved hW.alike hK, hD⟩, hS.F ht⟩) hS.2.2 d_Rn_pop_23
  · refine lv_aload_n hx hb d_Rn_pop_12 rfl (lv_at hl 1 rfl) ?_
    refine lv_dup hx hb d_Rn_pop_13 rfl ?_
    refine va_get (D := G) (ci := 4) (v := .int height) (C := R_Rn) (T := T_Rn) (N := 9) hx hb hts hi_2 hown hK hP 0 rfl rfl 5 (by decide) hk_1 (fun _ h9 => h9) rfl d_Rn_pop_14 ?_
    refine lv_iconst (v := 1) hx hb d_Rn_pop_17 (by decide) ?_
    refine lv_isub hx hb d_Rn_pop_18 ?_
    refine va_put (D := G) (ci := 4) (v := .int (height - 1)) (ty := (.int)) (C := R_Rn) (T := T_Rn) (N := 9) hx hb hts hi_2 ty_Rn tyk_Rn nm_Rn hown hK hP hD hS 0 rfl rfl 5 (by decide) hk_1 (fun _ h9 => h9) rfl (by decide +kernel) rfl rfl (Nat.le_of_ble_eq_true rfl) d_Rn_pop_19 (fun H locs hP hD hS => ?_)
    replace hP : va_P G vwCl (W_Run cI cL cZ cR cE a0 a1 a2 a3 a4 a5 a6 facts stack handleFacts given_values given_givers handleCount (height - 1) position fault cell) H := hP
    replace hD : va_D A (W_Run cI cL cZ cR cE a0 a1 a2 a3 a4 a5 a6 facts stack handleFacts given_values given_givers handleCount (height - 1) position fault cell) := hD
    refine lv_lload_n hx hb d_Rn_pop_22 rfl (lv_at hl 0 rfl) ?_
    exact W.lret (v := f_top stack height) hx hb hr (fun t ht hW => ⟨⟨f_top stack height, height - 1, rfl, (by rw [← hT]; simp only [f_pop, if_neg c_2]), by rw [ht]; exact hP, va_K.moved hW.alike hK, hD⟩, hS.F ht⟩) hS.2.2 d_Rn_pop_23
def f_setFact (facts : Nat → Int64) (k : Int32) (w : Int64) : (Nat → Int64) := if k < 0 then facts else (if 8 ≤ k then facts else (vp_updL facts k.toNatClampNeg w))
set_option maxHeartbeats 4000000 in
set_option maxRecDepth 100000 in
theorem c_setFact (l : Launch) (G : va_G) (cI cL cZ cR cE : ClassId) (sz : Nat) (a0 a1 a2 a3 a4 a5 a6 : Nat) (facts : Nat → Int64) (stack : Nat → Int64) (handleFacts : Nat → Int32) (given_values : Nat → Int64) (given_givers : Nat → Int32) (handleCount : Int32) (height : Int32) (position : Int32) (fault : Int32) (cell : Int64) (k : Int32) (w : Int64) : Met l y_Rn_setFact w_Rn_setFact ({ frames := 0, cells := 0, slots := 0, locals := 0 }) (preW G (TYS cI cL cZ cR cE) [.ref a0, .int k, .long w] sz (W_Run cI cL cZ cR cE a0 a1 a2 a3 a4 a5 a6 facts stack handleFacts given_values given_givers handleCount height position fault cell)) (va_Qv (fun u : (Nat → Int64) => u = f_setFact facts k w) (fun u t => va_P G vwCl (W_Run cI cL cZ cR cE a0 a1 a2 a3 a4 a5 a6 u stack handleFacts given_values given_givers handleCount height position fault cell) t.heap ∧ va_K G vwCl (TYS cI cL cZ cR cE) t ∧ va_D (va_A (W_Run cI cL cZ cR cE a0 a1 a2 a3 a4 a5 a6 facts stack handleFacts given_values given_givers handleCount height position fault cell) sz) (W_Run cI cL cZ cR cE a0 a1 a2 a3 a4 a5 a6 u stack handleFacts given_values given_givers handleCount height position fault cell)) (va_A (W_Run cI cL cZ cR cE a0 a1 a2 a3 a4 a5 a6 facts stack handleFacts given_values given_givers handleCount height position fault cell) sz)) 0 0 (va_A (W_Run cI cL cZ cR cE a0 a1 a2 a3 a4 a5 a6 facts stack handleFacts given_values given_givers handleCount height position fault cell) sz) := by
  refine Met.ofW (cc := b_Rn_setFact) (maxL := 4) (ret := none) (by decide) rfl ?_
  intro p e s m args below meth c s₁ B hml hv
  obtain ⟨rfl, hsz, hP, hK, hD0, hN⟩ := hv
  have hx := B.exec
  have hb := B.bytes
  have hr := B.returns
  have hts := atoms_spec (ws := w_Rn_setFact) B.pre
  have hown : s.vm.findClass R_Rn = some m.cls := findClass_of_methodNamed B.named
  have hlocks := B.notSynchronized
  subst hsz
  have hD := hD0.self (sz := s.heap.size)
  clear hD0
  generalize hAe : va_A (W_Run cI cL cZ cR cE a0 a1 a2 a3 a4 a5 a6 facts stack handleFacts given_values given_givers handleCount height position fault cell) s.heap.size = A at hD ⊢
  have hA : ∀ q : Nat, s.heap.size ≤ q → A q := fun q h => by rw [← hAe]; exact Or.inr h
  clear hAe
  have hS : va_S A s.heap s.heap [] := va_S.rf
  obtain ⟨H, hH⟩ : ∃ H, H = s.heap := ⟨_, rfl⟩
  rw [← hH] at hP
  replace hS : va_S A s.heap H [] := by rw [hH]; exact hS
  rw [← hH]
  clear hH
  have hi_2 : ∀ w ∈ u_ws R_Rn T_Rn 9, w ∈ w_Rn_setFact := fun w h => List.mem_cons_of_mem _ (iu_Rn w h)
  have hk_1 := hts (.fieldLink R_Rn 9 "HandlingRules$Runner" "facts" "[J") (List.mem_cons_of_mem _ kw_61)
  have hl := lv_entry ([.ref a0, .int k, .long w]) (n := 4) (Nat.le_of_ble_eq_true rfl)
  rw [lg_entry_eq]
  generalize (lg_sl ([.ref a0, .int k, .long w]) ++ List.replicate (4 - (lg_sl ([.ref a0, .int k, .long w])).length) Slot.unset).toArray = ls at hl ⊢
  replace hl : lv_has ls 4 [(0, .ref a0), (1, .int k), (2, .long w)] := hl
  generalize hT : f_setFact facts k w = T
  refine lv_iload_n hx hb d_Rn_setFact_0 rfl (lv_at hl 1 rfl) ?_
  refine lv_if_lt (tgt := 17) hx hb d_Rn_setFact_1 (by decide) (fun c_1 => ?_) (fun c_1 => ?_)
  · exact W.vret hx hb hr (fun t ht hW => ⟨⟨facts, rfl, (by rw [← hT]; simp only [f_setFact, if_pos c_1]), by rw [ht]; exact hP, va_K.moved hW.alike hK, hD⟩, hS.F ht⟩) hS.2.2 d_Rn_setFact_17
  · refine lv_iload_n hx hb d_Rn_setFact_4 rfl (lv_at hl 1 rfl) ?_
    refine lv_bipush (v := 8) hx hb d_Rn_setFact_5 (by decide) ?_
    refine lv_icmp_ge (tgt := 17) hx hb d_Rn_setFact_7 (by decide) (fun c_2 => ?_) (fun c_2 => ?_)
    · exact W.vret hx hb hr (fun t ht hW => ⟨⟨facts, rfl, (by rw [← hT]; simp only [f_setFact, if_neg c_1, if_pos c_2]), by rw [ht]; exact hP, va_K.moved hW.alike hK, hD⟩, hS.F ht⟩) hS.2.2 d_Rn_setFact_17
    · refine lv_aload_n hx hb d_Rn_setFact_10 rfl (lv_at hl 0 rfl) ?_
      refine va_get (D := G) (ci := 4) (v := .ref a1) (C := R_Rn) (T := T_Rn) (N := 9) hx hb hts hi_2 hown hK hP 0 rfl rfl 0 (by decide) hk_1 (fun _ h9 => h9) rfl d_Rn_setFact_11 ?_
      refine lv_iload_n hx hb d_Rn_setFact_14 rfl (lv_at hl 1 rfl) ?_
      refine lv_lload_n hx hb d_Rn_setFact_15 rfl (lv_at hl 2 rfl) ?_
      refine va_last hx hb hK hP hD hS 1 1 rfl rfl (ix_of c_1 c_2 rfl) d_Rn_setFact_16 (fun H locs hP hD hS => ?_)
      replace hP : va_P G vwCl (W_Run cI cL cZ cR cE a0 a1 a2 a3 a4 a5 a6 (vp_updL facts k.toNatClampNeg w) stack handleFacts given_values given_givers handleCount height position fault cell) H := hP
      replace hD : va_D A (W_Run cI cL cZ cR cE a0 a1 a2 a3 a4 a5 a6 (vp_updL facts k.toNatClampNeg w) stack handleFacts given_values given_givers handleCount height position fault cell) := hD
      exact W.vret hx hb hr (fun t ht hW => ⟨⟨vp_updL facts k.toNatClampNeg w, rfl, (by rw [← hT]; simp only [f_setFact, if_neg c_1, if_neg c_2]), by rw [ht]; exact hP, va_K.moved hW.alike hK, hD⟩, hS.F ht⟩) hS.2.2 d_Rn_setFact_17
def f_factOf (facts : Nat → Int64) (k : Int64) : Int64 := if (f_isWithin k 0 7) = 0 then 0 else (facts k.toInt32.toNatClampNeg)
set_option maxHeartbeats 4000000 in
set_option maxRecDepth 100000 in
theorem c_factOf (l : Launch) (G : va_G) (cI cL cZ cR cE : ClassId) (a0 a1 a2 a3 a4 a5 a6 : Nat) (facts : Nat → Int64) (stack : Nat → Int64) (handleFacts : Nat → Int32) (given_values : Nat → Int64) (given_givers : Nat → Int32) (handleCount : Int32) (height : Int32) (position : Int32) (fault : Int32) (cell : Int64) (k : Int64) : Met l y_Rn_factOf w_Rn_factOf ({ frames := 1, cells := 0, slots := 0, locals := 25 }) (preR G (TYS cI cL cZ cR cE) [.ref a0, .long k] (W_Run cI cL cZ cR cE a0 a1 a2 a3 a4 a5 a6 facts stack handleFacts given_values given_givers handleCount height position fault cell)) (vp_Sl (fun r => r = f_factOf facts k)) 0 0 (fun _ => False) := by
  refine Met.ofW (cc := b_Rn_factOf) (maxL := 3) (ret := (some .long)) (by decide) rfl ?_
  intro p e s m args below meth c s₁ B hml hv
  obtain ⟨rfl, hP, hK, hN⟩ := hv
  have hx := B.exec
  have hb := B.bytes
  have hr := B.returns
  have hts := atoms_spec (ws := w_Rn_factOf) B.pre
  have hown : s.vm.findClass R_Rn = some m.cls := findClass_of_methodNamed B.named
  have hlocks := B.notSynchronized
  obtain ⟨H, hH⟩ : ∃ H, H = s.heap := ⟨_, rfl⟩
  rw [← hH] at hP
  rw [← hH]
  have hi_3 : ∀ w ∈ u_ws R_Rn T_Rn 9, w ∈ w_Rn_factOf := fun w h => List.mem_cons_of_mem _ (iu_Rn w h)
  have hk_1 := hts (.constantLong R_Rn 133 7) (List.mem_cons_of_mem _ kw_342)
  have hk_2 := hts (.fieldLink R_Rn 9 "HandlingRules$Runner" "facts" "[J") (List.mem_cons_of_mem _ kw_61)
  have hl := lv_entry ([.ref a0, .long k]) (n := 3) (Nat.le_of_ble_eq_true rfl)
  rw [lg_entry_eq]
  generalize (lg_sl ([.ref a0, .long k]) ++ List.replicate (3 - (lg_sl ([.ref a0, .long k])).length) Slot.unset).toArray = ls at hl ⊢
  replace hl : lv_has ls 3 [(0, .ref a0), (1, .long k)] := hl
  generalize hT : f_factOf facts k = T
  refine lv_lload_n hx hb d_Rn_factOf_0 rfl (lv_at hl 1 rfl) ?_
  refine lv_lconst (v := 0) hx hb d_Rn_factOf_1 (by decide) ?_
  refine lv_ldc2 (v := 7) hx hb hown hk_1 d_Rn_factOf_2 ?_
  refine vp_callSi (run_of (va_runSN (As := [.long k, .long 0, .long 7]) (rest := []) ⟨hx, hb, hml, hown, hts⟩ (c_isWithin l G cI cL cZ cR cE  k 0 7) ⟨va_cnB 3 hts (gC kw_180) rfl rfl rfl (hN.1 _ nw_5) (hts _ (List.mem_cons_of_mem _ kw_15)) (by decide +kernel) ⟨Nat.le_of_ble_eq_true rfl, Nat.le_of_ble_eq_true rfl⟩, hts _ (List.mem_cons_of_mem _ kw_179), trivial⟩ (preRS_of hN hK hP [] rfl) rfl rfl hl.1 rfl (lv_room (Nat.le_of_ble_eq_true rfl)) d_Rn_factOf_5 ⟨Nat.zero_le _, Nat.zero_le _⟩)) (fun r_1 hw => ?_)
  subst hw
  refine lv_if_eq (tgt := 21) hx hb d_Rn_factOf_8 (by decide) (fun c_2 => ?_) (fun c_2 => ?_)
  · refine lv_lconst (v := 0) hx hb d_Rn_factOf_21 (by decide) ?_
    exact W.lret (v := 0) hx hb hr (fun t ht hW => ⟨0, rfl, (by rw [← hT]; simp only [f_factOf, if_pos c_2]), by rw [ht, hH]⟩) (fun _ h => by cases h) d_Rn_factOf_22
  · refine lv_aload_n hx hb d_Rn_factOf_11 rfl (lv_at hl 0 rfl) ?_
    refine va_get (D := G) (ci := 4) (v := .ref a1) (C := R_Rn) (T := T_Rn) (N := 9) hx hb hts hi_3 hown hK hP 0 rfl rfl 0 (by decide) hk_2 (fun _ h9 => h9) rfl d_Rn_factOf_12 ?_
    refine lv_lload_n hx hb d_Rn_factOf_15 rfl (lv_at hl 1 rfl) ?_
    refine lv_l2i (v := k.toInt32) hx hb d_Rn_factOf_16 rfl ?_
    refine va_lald hx hb hK hP 1 1 rfl rfl (ix_w c_2 rfl (by decide)) d_Rn_factOf_17 ?_
    refine lv_goto (tgt := 22) hx hb d_Rn_factOf_18 (by decide) ?_
    exact W.lret (v := facts k.toInt32.toNatClampNeg) hx hb hr (fun t ht hW => ⟨facts k.toInt32.toNatClampNeg, rfl, (by rw [← hT]; simp only [f_factOf, if_neg c_2]), by rw [ht, hH]⟩) (fun _ h => by cases h) d_Rn_factOf_22
def f_keep (handleFacts : Nat → Int32) (handleCount : Int32) (k : Int64) : Int32 × (Nat → Int32) × Int32 := if handleCount < 0 then (handleCount, (handleFacts, handleCount)) else (if 16 ≤ handleCount then (handleCount, (handleFacts, handleCount)) else (handleCount, (upd handleFacts handleCount.toNatClampNeg k.toInt32, handleCount + 1)))
set_option maxHeartbeats 4000000 in
set_option maxRecDepth 100000 in
theorem c_keep (l : Launch) (G : va_G) (cI cL cZ cR cE : ClassId) (sz : Nat) (a0 a1 a2 a3 a4 a5 a6 : Nat) (facts : Nat → Int64) (stack : Nat → Int64) (handleFacts : Nat → Int32) (given_values : Nat → Int64) (given_givers : Nat → Int32) (handleCount : Int32) (height : Int32) (position : Int32) (fault : Int32) (cell : Int64) (k : Int64) : Met l y_Rn_keep w_Rn_keep ({ frames := 0, cells := 0, slots := 0, locals := 0 }) (preW G (TYS cI cL cZ cR cE) [.ref a0, .long k] sz (W_Run cI cL cZ cR cE a0 a1 a2 a3 a4 a5 a6 facts stack handleFacts given_values given_givers handleCount height position fault cell)) (va_Qi (fun (r : Int32) (u : (Nat → Int32) × Int32) => (r, u) = f_keep handleFacts handleCount k) (fun u t => va_P G vwCl (W_Run cI cL cZ cR cE a0 a1 a2 a3 a4 a5 a6 facts stack u.1 given_values given_givers u.2 height position fault cell) t.heap ∧ va_K G vwCl (TYS cI cL cZ cR cE) t ∧ va_D (va_A (W_Run cI cL cZ cR cE a0 a1 a2 a3 a4 a5 a6 facts stack handleFacts given_values given_givers handleCount height position fault cell) sz) (W_Run cI cL cZ cR cE a0 a1 a2 a3 a4 a5 a6 facts stack u.1 given_values given_givers u.2 height position fault cell)) (va_A (W_Run cI cL cZ cR cE a0 a1 a2 a3 a4 a5 a6 facts stack handleFacts given_values given_givers handleCount height position fault cell) sz)) 0 0 (va_A (W_Run cI cL cZ cR cE a0 a1 a2 a3 a4 a5 a6 facts stack handleFacts given_values given_givers handleCount height position fault cell) sz) := by
  refine Met.ofW (cc := b_Rn_keep) (maxL := 4) (ret := (some .int)) (by decide) rfl ?_
  intro p e s m args below meth c s₁ B hml hv
  obtain ⟨rfl, hsz, hP, hK, hD0, hN⟩ := hv
  have hx := B.exec
  have hb := B.bytes
  have hr := B.returns
  have hts := atoms_spec (ws := w_Rn_keep) B.pre
  have hown : s.vm.findClass R_Rn = some m.cls := findClass_of_methodNamed B.named
  have hlocks := B.notSynchronized
  subst hsz
  have hD := hD0.self (sz := s.heap.size)
  clear hD0
  generalize hAe : va_A (W_Run cI cL cZ cR cE a0 a1 a2 a3 a4 a5 a6 facts stack handleFacts given_values given_givers handleCount height position fault cell) s.heap.size = A at hD ⊢
  have hA : ∀ q : Nat, s.heap.size ≤ q → A q := fun q h => by rw [← hAe]; exact Or.inr h
  clear hAe
  have hS : va_S A s.heap s.heap [] := va_S.rf
  obtain ⟨H, hH⟩ : ∃ H, H = s.heap := ⟨_, rfl⟩
  rw [← hH] at hP
  replace hS : va_S A s.heap H [] := by rw [hH]; exact hS
  rw [← hH]
  clear hH
  have hi_2 : ∀ w ∈ u_ws R_Rn T_Rn 9, w ∈ w_Rn_keep := fun w h => List.mem_cons_of_mem _ (iu_Rn w h)
  have hk_1 := hts (.fieldLink R_Rn 29 "HandlingRules$Runner" "handleCount" "I") (List.mem_cons_of_mem _ kw_66)
  have hk_3 := hts (.fieldLink R_Rn 18 "HandlingRules$Runner" "handleFacts" "[I") (List.mem_cons_of_mem _ kw_63)
  have hl := lv_entry ([.ref a0, .long k]) (n := 4) (Nat.le_of_ble_eq_true rfl)
  rw [lg_entry_eq]
  generalize (lg_sl ([.ref a0, .long k]) ++ List.replicate (4 - (lg_sl ([.ref a0, .long k])).length) Slot.unset).toArray = ls at hl ⊢
  replace hl : lv_has ls 4 [(0, .ref a0), (1, .long k)] := hl
  generalize hT : f_keep handleFacts handleCount k = T
  refine lv_aload_n hx hb d_Rn_keep_0 rfl (lv_at hl 0 rfl) ?_
  refine va_get (D := G) (ci := 4) (v := .int handleCount) (C := R_Rn) (T := T_Rn) (N := 9) hx hb hts hi_2 hown hK hP 0 rfl rfl 4 (by decide) hk_1 (fun _ h9 => h9) rfl d_Rn_keep_1 ?_
  refine lv_istore_n (lv' := [(3, .int handleCount), (0, .ref a0), (1, .long k)]) hx hb d_Rn_keep_4 rfl hl (by decide) rfl (fun ls hl => ?_)
  refine lv_iload_n hx hb d_Rn_keep_5 rfl (lv_at hl 0 rfl) ?_
  refine lv_if_lt (tgt := 33) hx hb d_Rn_keep_6 (by decide) (fun c_1 => ?_) (fun c_1 => ?_)
  · refine lv_iload_n hx hb d_Rn_keep_33 rfl (lv_at hl 0 rfl) ?_
    exact W.iret (v := handleCount) hx hb hr (fun t ht hW => ⟨⟨handleCount, (handleFacts, handleCount), rfl, (by rw [← hT]; simp only [f_keep, if_pos c_1]), by rw [ht]; exact hP, va_K.moved hW.alike hK, hD⟩, hS.F ht⟩) hS.2.2 d_Rn_keep_34
  · refine lv_iload_n hx hb d_Rn_keep_9 rfl (lv_at hl 0 rfl) ?_
    refine lv_bipush (v := 16) hx hb d_Rn_keep_10 (by decide) ?_
    refine lv_icmp_ge (tgt := 33) hx hb d_Rn_keep_12 (by decide) (fun c_2 => ?_) (fun c_2 => ?_)
    · refine lv_iload_n hx hb d_Rn_keep_33 rfl (lv_at hl 0 rfl) ?_
      exact W.iret (v := handleCount) hx hb hr (fun t ht hW => ⟨⟨handleCount, (handleFacts, handleCount), rfl, (by rw [← hT]; simp only [f_keep, if_neg c_1, if_pos c_2]), by rw [ht]; exact hP, va_K.moved hW.alike hK, hD⟩, hS.F ht⟩) hS.2.2 d_Rn_keep_34
    · refine lv_aload_n hx hb d_Rn_keep_15 rfl (lv_at hl 1 rfl) ?_
      refine va_get (D := G) (ci := 4) (v := .ref a3) (C := R_Rn) (T := T_Rn) (N := 9) hx hb hts hi_2 hown hK hP 0 rfl rfl 2 (by decide) hk_3 (fun _ h9 => h9) rfl d_Rn_keep_16 ?_
      refine lv_iload_n hx hb d_Rn_keep_19 rfl (lv_at hl 0 rfl) ?_
      refine lv_lload_n hx hb d_Rn_keep_20 rfl (lv_at hl 2 rfl) ?_
      refine lv_l2i (v := k.toInt32) hx hb d_Rn_keep_21 rfl ?_
      refine va_iast hx hb hK hP hD hS 3 0 rfl rfl (ix_of c_1 c_2 rfl) d_Rn_keep_22 (fun H locs hP hD hS => ?_)
      replace hP : va_P G vwCl (W_Run cI cL cZ cR cE a0 a1 a2 a3 a4 a5 a6 facts stack (upd handleFacts handleCount.toNatClampNeg k.toInt32) given_values given_givers handleCount height position fault cell) H := hP
      replace hD : va_D A (W_Run cI cL cZ cR cE a0 a1 a2 a3 a4 a5 a6 facts stack (upd handleFacts handleCount.toNatClampNeg k.toInt32) given_values given_givers handleCount height position fault cell) := hD
      refine lv_aload_n hx hb d_Rn_keep_23 rfl (lv_at hl 1 rfl) ?_
      refine lv_dup hx hb d_Rn_keep_24 rfl ?_
      refine va_get (D := G) (ci := 4) (v := .int handleCount) (C := R_Rn) (T := T_Rn) (N := 9) hx hb hts hi_2 hown hK hP 0 rfl rfl 4 (by decide) hk_1 (fun _ h9 => h9) rfl d_Rn_keep_25 ?_
      refine lv_iconst (v := 1) hx hb d_Rn_keep_28 (by decide) ?_
      refine lv_iadd hx hb d_Rn_keep_29 ?_
      refine va_put (D := G) (ci := 4) (v := .int (handleCount + 1)) (ty := (.int)) (C := R_Rn) (T := T_Rn) (N := 9) hx hb hts hi_2 ty_Rn tyk_Rn nm_Rn hown hK hP hD hS 0 rfl rfl 4 (by decide) hk_1 (fun _ h9 => h9) rfl (by decide +kernel) rfl rfl (Nat.le_of_ble_eq_true rfl) d_Rn_keep_30 (fun H locs hP hD hS => ?_)
      replace hP : va_P G vwCl (W_Run cI cL cZ cR cE a0 a1 a2 a3 a4 a5 a6 facts stack (upd handleFacts handleCount.toNatClampNeg k.toInt32) given_values given_givers (handleCount + 1) height position fault cell) H := hP
      replace hD : va_D A (W_Run cI cL cZ cR cE a0 a1 a2 a3 a4 a5 a6 facts stack (upd handleFacts handleCount.toNatClampNeg k.toInt32) given_values given_givers (handleCount + 1) height position fault cell) := hD
      refine lv_iload_n hx hb d_Rn_keep_33 rfl (lv_at hl 0 rfl) ?_
      exact W.iret (v := handleCount) hx hb hr (fun t ht hW => ⟨⟨handleCount, (upd handleFacts handleCount.toNatClampNeg k.toInt32, handleCount + 1), rfl, (by rw [← hT]; simp only [f_keep, if_neg c_1, if_neg c_2]), by rw [ht]; exact hP, va_K.moved hW.alike hK, hD⟩, hS.F ht⟩) hS.2.2 d_Rn_keep_34
def f_factBehind (facts : Nat → Int64) (handleFacts : Nat → Int32) (handleCount : Int32) (k : Int64) : Int64 := if (f_isWithin k 0 ((handleCount - 1).toInt64)) = 0 then 0 else (if 16 ≤ k then 0 else (f_factOf facts ((handleFacts k.toInt32.toNatClampNeg).toInt64)))
set_option maxHeartbeats 4000000 in
set_option maxRecDepth 100000 in
theorem c_factBehind (l : Launch) (G : va_G) (cI cL cZ cR cE : ClassId) (a0 a1 a2 a3 a4 a5 a6 : Nat) (facts : Nat → Int64) (stack : Nat → Int64) (handleFacts : Nat → Int32) (given_values : Nat → Int64) (given_givers : Nat → Int32) (handleCount : Int32) (height : Int32) (position : Int32) (fault : Int32) (cell : Int64) (k : Int64) : Met l y_Rn_factBehind w_Rn_factBehind ({ frames := 2, cells := 0, slots := 0, locals := 47 }) (preR G (TYS cI cL cZ cR cE) [.ref a0, .long k] (W_Run cI cL cZ cR cE a0 a1 a2 a3 a4 a5 a6 facts stack handleFacts given_values given_givers handleCount height position fault cell)) (vp_Sl (fun r => r = f_factBehind facts handleFacts handleCount k)) 0 0 (fun _ => False) := by
  refine Met.ofW (cc := b_Rn_factBehind) (maxL := 4) (ret := (some .long)) (by decide) rfl ?_
  intro p e s m args below meth c s₁ B hml hv
  obtain ⟨rfl, hP, hK, hN⟩ := hv
  have hx := B.exec
  have hb := B.bytes
  have hr := B.returns
  have hts := atoms_spec (ws := w_Rn_factBehind) B.pre
  have hown : s.vm.findClass R_Rn = some m.cls := findClass_of_methodNamed B.named
  have hlocks := B.notSynchronized
  obtain ⟨H, hH⟩ : ∃ H, H = s.heap := ⟨_, rfl⟩
  rw [← hH] at hP
  rw [← hH]
  have hi_2 : ∀ w ∈ u_ws R_Rn T_Rn 9, w ∈ w_Rn_factBehind := fun w h => List.mem_cons_of_mem _ (iu_Rn w h)
  have hk_1 := hts (.fieldLink R_Rn 29 "HandlingRules$Runner" "handleCount" "I") (List.mem_cons_of_mem _ kw_66)
  have hk_3 := hts (.constantLong R_Rn 135 16) (List.mem_cons_of_mem _ kw_363)
  have hk_4 := hts (.fieldLink R_Rn 18 "HandlingRules$Runner" "handleFacts" "[I") (List.mem_cons_of_mem _ kw_63)
  have hl := lv_entry ([.ref a0, .long k]) (n := 4) (Nat.le_of_ble_eq_true rfl)
  rw [lg_entry_eq]
  generalize (lg_sl ([.ref a0, .long k]) ++ List.replicate (4 - (lg_sl ([.ref a0, .long k])).length) Slot.unset).toArray = ls at hl ⊢
  replace hl : lv_has ls 4 [(0, .ref a0), (1, .long k)] := hl
  generalize hT : f_factBehind facts handleFacts handleCount k = T
  refine lv_lload_n hx hb d_Rn_factBehind_0 rfl (lv_at hl 1 rfl) ?_
  refine lv_lconst (v := 0) hx hb d_Rn_factBehind_1 (by decide) ?_
  refine lv_aload_n hx hb d_Rn_factBehind_2 rfl (lv_at hl 0 rfl) ?_
  refine va_get (D := G) (ci := 4) (v := .int handleCount) (C := R_Rn) (T := T_Rn) (N := 9) hx hb hts hi_2 hown hK hP 0 rfl rfl 4 (by decide) hk_1 (fun _ h9 => h9) rfl d_Rn_factBehind_3 ?_
  refine lv_iconst (v := 1) hx hb d_Rn_factBehind_6 (by decide) ?_
  refine lv_isub hx hb d_Rn_factBehind_7 ?_
  refine lv_i2l (v := (handleCount - 1).toInt64) hx hb d_Rn_factBehind_8 rfl ?_
  refine vp_callSi (run_of (va_runSN (As := [.long k, .long 0, .long ((handleCount - 1).toInt64)]) (rest := []) ⟨hx, hb, hml, hown, hts⟩ (c_isWithin l G cI cL cZ cR cE  k 0 ((handleCount - 1).toInt64)) ⟨va_cnB 3 hts (gC kw_180) rfl rfl rfl (hN.1 _ nw_5) (hts _ (List.mem_cons_of_mem _ kw_15)) (by decide +kernel) ⟨Nat.le_of_ble_eq_true rfl, Nat.le_of_ble_eq_true rfl⟩, hts _ (List.mem_cons_of_mem _ kw_179), trivial⟩ (preRS_of hN hK hP [] rfl) rfl rfl hl.1 rfl (lv_room (Nat.le_of_ble_eq_true rfl)) d_Rn_factBehind_9 ⟨Nat.zero_le _, Nat.zero_le _⟩)) (fun r_1 hw => ?_)
  subst hw
  refine lv_if_eq (tgt := 27) hx hb d_Rn_factBehind_12 (by decide) (fun c_2 => ?_) (fun c_2 => ?_)
  · refine lv_iconst (v := 0) hx hb d_Rn_factBehind_27 (by decide) ?_
    refine lv_istore_n (lv' := [(3, .int 0), (0, .ref a0), (1, .long k)]) hx hb d_Rn_factBehind_28 rfl hl (by decide) rfl (fun ls hl => ?_)
    refine lv_iload_n hx hb d_Rn_factBehind_29 rfl (lv_at hl 0 rfl) ?_
    refine lv_if_eq (tgt := 48) hx hb d_Rn_factBehind_30 (by decide) (fun _ => ?_) (fun k_3 => absurd (by decide) k_3)
    refine lv_lconst (v := 0) hx hb d_Rn_factBehind_48 (by decide) ?_
    exact W.lret (v := 0) hx hb hr (fun t ht hW => ⟨0, rfl, (by rw [← hT]; simp only [f_factBehind, if_pos c_2]), by rw [ht, hH]⟩) (fun _ h => by cases h) d_Rn_factBehind_49
  · refine lv_lload_n hx hb d_Rn_factBehind_15 rfl (lv_at hl 1 rfl) ?_
    refine lv_ldc2 (v := 16) hx hb hown hk_3 d_Rn_factBehind_16 ?_
    refine lc_ge (x := k) (y := 16) (tgt := 27) hx hb d_Rn_factBehind_19 d_Rn_factBehind_20 (by decide) (fun c_4 => ?_) (fun c_4 => ?_)
    · refine lv_iconst (v := 0) hx hb d_Rn_factBehind_27 (by decide) ?_
      refine lv_istore_n (lv' := [(3, .int 0), (0, .ref a0), (1, .long k)]) hx hb d_Rn_factBehind_28 rfl hl (by decide) rfl (fun ls hl => ?_)
      refine lv_iload_n hx hb d_Rn_factBehind_29 rfl (lv_at hl 0 rfl) ?_
      refine lv_if_eq (tgt := 48) hx hb d_Rn_factBehind_30 (by decide) (fun _ => ?_) (fun k_5 => absurd (by decide) k_5)
      refine lv_lconst (v := 0) hx hb d_Rn_factBehind_48 (by decide) ?_
      exact W.lret (v := 0) hx hb hr (fun t ht hW => ⟨0, rfl, (by rw [← hT]; simp only [f_factBehind, if_neg c_2, if_pos c_4]), by rw [ht, hH]⟩) (fun _ h => by cases h) d_Rn_factBehind_49
    · refine lv_iconst (v := 1) hx hb d_Rn_factBehind_23 (by decide) ?_
      refine lv_goto (tgt := 28) hx hb d_Rn_factBehind_24 (by decide) ?_
      refine lv_istore_n (lv' := [(3, .int 1), (0, .ref a0), (1, .long k)]) hx hb d_Rn_factBehind_28 rfl hl (by decide) rfl (fun ls hl => ?_)
      refine lv_iload_n hx hb d_Rn_factBehind_29 rfl (lv_at hl 0 rfl) ?_
      refine lv_if_eq (tgt := 48) hx hb d_Rn_factBehind_30 (by decide) (fun k_6 => absurd k_6 (by decide)) (fun _ => ?_)
      refine lv_aload_n hx hb d_Rn_factBehind_33 rfl (lv_at hl 1 rfl) ?_
      refine lv_aload_n hx hb d_Rn_factBehind_34 rfl (lv_at hl 1 rfl) ?_
      refine va_get (D := G) (ci := 4) (v := .ref a3) (C := R_Rn) (T := T_Rn) (N := 9) hx hb hts hi_2 hown hK hP 0 rfl rfl 2 (by decide) hk_4 (fun _ h9 => h9) rfl d_Rn_factBehind_35 ?_
      refine lv_lload_n hx hb d_Rn_factBehind_38 rfl (lv_at hl 2 rfl) ?_
      refine lv_l2i (v := k.toInt32) hx hb d_Rn_factBehind_39 rfl ?_
      refine va_iald hx hb hK hP 3 0 rfl rfl (ix_lw c_2 c_4 rfl (by decide)) d_Rn_factBehind_40 ?_
      refine lv_i2l (v := (handleFacts k.toInt32.toNatClampNeg).toInt64) hx hb d_Rn_factBehind_41 rfl ?_
      refine vp_callSl (W.runV (As := [.long ((handleFacts k.toInt32.toNatClampNeg).toInt64)]) (rest := []) ⟨hx, hb, hml, hown, hts⟩ (c_factOf l G cI cL cZ cR cE a0 a1 a2 a3 a4 a5 a6 facts stack handleFacts given_values given_givers handleCount height position fault cell ((handleFacts k.toInt32.toNatClampNeg).toInt64)) (cwV 1 hts (gV kw_338 kw_339 kw_340 kw_16 kw_341) rfl rfl rfl (by decide +kernel) ⟨Nat.le_of_ble_eq_true rfl, Nat.le_of_ble_eq_true rfl⟩) (preRV_of (ci := 4) hN hK hP [0, 1, 2, 3, 4, 5, 6] rfl rfl rfl) rfl rfl hl.1 rfl (lv_room (Nat.le_of_ble_eq_true rfl)) d_Rn_factBehind_42 ⟨Nat.zero_le _, Nat.zero_le _⟩) (fun r_7 hw => ?_)
      subst hw
      refine lv_goto (tgt := 49) hx hb d_Rn_factBehind_45 (by decide) ?_
      exact W.lret (v := f_factOf facts ((handleFacts k.toInt32.toNatClampNeg).toInt64)) hx hb hr (fun t ht hW => ⟨f_factOf facts ((handleFacts k.toInt32.toNatClampNeg).toInt64), rfl, (by rw [← hT]; simp only [f_factBehind, if_neg c_2, if_neg c_4]), by rw [ht, hH]⟩) (fun _ h => by cases h) d_Rn_factBehind_49
def f_isInside (position : Int32) (zlength : Int32) : Int32 := if position < 0 then 0 else (if zlength ≤ position then 0 else (if 12 ≤ position then 0 else 1))
set_option maxHeartbeats 4000000 in
set_option maxRecDepth 100000 in
theorem c_isInside (l : Launch) (G : va_G) (cI cL cZ cR cE : ClassId) (a0 a1 a2 a3 a4 a5 a6 : Nat) (za0 za1 za2 : Nat) (facts : Nat → Int64) (stack : Nat → Int64) (handleFacts : Nat → Int32) (given_values : Nat → Int64) (given_givers : Nat → Int32) (handleCount : Int32) (height : Int32) (position : Int32) (fault : Int32) (cell : Int64) (znumber : Int32) (zhome : Nat) (zrank : Int32) (zname : Int32) (zops : Nat → Int32) (znumbers : Nat → Int64) (zlength : Int32) (zcell : Int64) (zfallbackKind : Int32) (zfallbackValue : Int64) : Met l y_Rn_isInside w_Rn_isInside ({ frames := 0, cells := 0, slots := 0, locals := 0 }) (preR G (TYS cI cL cZ cR cE) [.ref a0, .ref za0] (W_Run cI cL cZ cR cE a0 a1 a2 a3 a4 a5 a6 facts stack handleFacts given_values given_givers handleCount height position fault cell ++ W_Rul cI cL cZ cR cE za0 za1 za2 znumber zhome zrank zname zops znumbers zlength zcell zfallbackKind zfallbackValue)) (vp_Si (fun r => r = f_isInside position zlength)) 0 0 (fun _ => False) := by
  refine Met.ofW (cc := b_Rn_isInside) (maxL := 2) (ret := (some .boolean)) (by decide) rfl ?_
  intro p e s m args below meth c s₁ B hml hv
  obtain ⟨rfl, hP, hK, hN⟩ := hv
  have hx := B.exec
  have hb := B.bytes
  have hr := B.returns
  have hts := atoms_spec (ws := w_Rn_isInside) B.pre
  have hown : s.vm.findClass R_Rn = some m.cls := findClass_of_methodNamed B.named
  have hlocks := B.notSynchronized
  obtain ⟨H, hH⟩ : ∃ H, H = s.heap := ⟨_, rfl⟩
  rw [← hH] at hP
  rw [← hH]
  have hi_2 : ∀ w ∈ u_ws R_Rn T_Rn 9, w ∈ w_Rn_isInside := fun w h => List.mem_cons_of_mem _ (iu_Rn w h)
  have hi_4 : ∀ w ∈ u_ws R_Ru T_Ru 10, w ∈ w_Rn_isInside := fun w h => List.mem_cons_of_mem _ (iu_Ru w h)
  have hk_1 := hts (.fieldLink R_Rn 36 "HandlingRules$Runner" "position" "I") (List.mem_cons_of_mem _ kw_69)
  have hk_3 := hts (.fieldLink R_Rn 70 "HandlingRules$Rule" "length" "I") (List.mem_cons_of_mem _ kw_200)
  have hl := lv_entry ([.ref a0, .ref za0]) (n := 2) (Nat.le_of_ble_eq_true rfl)
  rw [lg_entry_eq]
  generalize (lg_sl ([.ref a0, .ref za0]) ++ List.replicate (2 - (lg_sl ([.ref a0, .ref za0])).length) Slot.unset).toArray = ls at hl ⊢
  replace hl : lv_has ls 2 [(0, .ref a0), (1, .ref za0)] := hl
  generalize hT : f_isInside position zlength = T
  refine lv_aload_n hx hb d_Rn_isInside_0 rfl (lv_at hl 0 rfl) ?_
  refine va_get (D := G) (ci := 4) (v := .int position) (C := R_Rn) (T := T_Rn) (N := 9) hx hb hts hi_2 hown hK hP 0 rfl rfl 6 (by decide) hk_1 (fun _ h9 => h9) rfl d_Rn_isInside_1 ?_
  refine lv_if_lt (tgt := 31) hx hb d_Rn_isInside_4 (by decide) (fun c_1 => ?_) (fun c_1 => ?_)
  · refine lv_iconst (v := 0) hx hb d_Rn_isInside_31 (by decide) ?_
    exact W.zret (v := 0) hx hb hr rfl (fun t ht hW => ⟨0, rfl, (by rw [← hT]; simp only [f_isInside, if_pos c_1]), by rw [ht, hH]⟩) (fun _ h => by cases h) d_Rn_isInside_32
  · refine lv_aload_n hx hb d_Rn_isInside_7 rfl (lv_at hl 0 rfl) ?_
    refine va_get (D := G) (ci := 4) (v := .int position) (C := R_Rn) (T := T_Rn) (N := 9) hx hb hts hi_2 hown hK hP 0 rfl rfl 6 (by decide) hk_1 (fun _ h9 => h9) rfl d_Rn_isInside_8 ?_
    refine lv_aload_n hx hb d_Rn_isInside_11 rfl (lv_at hl 1 rfl) ?_
    refine va_get (D := G) (ci := 3) (v := .int zlength) (C := R_Ru) (T := T_Ru) (N := 10) hx hb hts hi_4 hown hK hP 7 rfl rfl 6 (by decide) hk_3 (fun _ h9 => h9) rfl d_Rn_isInside_12 ?_
    refine lv_icmp_ge (tgt := 31) hx hb d_Rn_isInside_15 (by decide) (fun c_2 => ?_) (fun c_2 => ?_)
    · refine lv_iconst (v := 0) hx hb d_Rn_isInside_31 (by decide) ?_
      exact W.zret (v := 0) hx hb hr rfl (fun t ht hW => ⟨0, rfl, (by rw [← hT]; simp only [f_isInside, if_neg c_1, if_pos c_2]), by rw [ht, hH]⟩) (fun _ h => by cases h) d_Rn_isInside_32
    · refine lv_aload_n hx hb d_Rn_isInside_18 rfl (lv_at hl 0 rfl) ?_
      refine va_get (D := G) (ci := 4) (v := .int position) (C := R_Rn) (T := T_Rn) (N := 9) hx hb hts hi_2 hown hK hP 0 rfl rfl 6 (by decide) hk_1 (fun _ h9 => h9) rfl d_Rn_isInside_19 ?_
      refine lv_bipush (v := 12) hx hb d_Rn_isInside_22 (by decide) ?_
      refine lv_icmp_ge (tgt := 31) hx hb d_Rn_isInside_24 (by decide) (fun c_3 => ?_) (fun c_3 => ?_)
      · refine lv_iconst (v := 0) hx hb d_Rn_isInside_31 (by decide) ?_
        exact W.zret (v := 0) hx hb hr rfl (fun t ht hW => ⟨0, rfl, (by rw [← hT]; simp only [f_isInside, if_neg c_1, if_neg c_2, if_pos c_3]), by rw [ht, hH]⟩) (fun _ h => by cases h) d_Rn_isInside_32
      · refine lv_iconst (v := 1) hx hb d_Rn_isInside_27 (by decide) ?_
        refine lv_goto (tgt := 32) hx hb d_Rn_isInside_28 (by decide) ?_
        exact W.zret (v := 1) hx hb hr rfl (fun t ht hW => ⟨1, rfl, (by rw [← hT]; simp only [f_isInside, if_neg c_1, if_neg c_2, if_neg c_3]), by rw [ht, hH]⟩) (fun _ h => by cases h) d_Rn_isInside_32
theorem ix_inside {position : Int32} {zlength : Int32} (h : ¬ f_isInside position zlength = 0) : vp_in position 12 := by
  unfold f_isInside at h
  by_cases c1 : position < 0
  · rw [if_pos c1] at h; exact absurd rfl h
  · rw [if_neg c1] at h
    by_cases c2 : zlength ≤ position
    · rw [if_pos c2] at h; exact absurd rfl h
    · rw [if_neg c2] at h
      by_cases c3 : 12 ≤ position
      · rw [if_pos c3] at h; exact absurd rfl h
      · exact ix_of c1 c3 rfl
def f_begin (given_values : Nat → Int64) (given_givers : Nat → Int32) (zcell : Int64) : (Nat → Int64) × (Nat → Int32) × Int32 × Int32 × Int32 × Int64 := match f_clear given_values given_givers with | (x_values_4, x_givers_5) => (x_values_4, x_givers_5, 0, 0, 0, zcell)
set_option maxHeartbeats 4000000 in
set_option maxRecDepth 100000 in
theorem c_begin (l : Launch) (G : va_G) (cI cL cZ cR cE : ClassId) (sz : Nat) (a0 a1 a2 a3 a4 a5 a6 : Nat) (za0 za1 za2 : Nat) (facts : Nat → Int64) (stack : Nat → Int64) (handleFacts : Nat → Int32) (given_values : Nat → Int64) (given_givers : Nat → Int32) (handleCount : Int32) (height : Int32) (position : Int32) (fault : Int32) (cell : Int64) (znumber : Int32) (zhome : Nat) (zrank : Int32) (zname : Int32) (zops : Nat → Int32) (znumbers : Nat → Int64) (zlength : Int32) (zcell : Int64) (zfallbackKind : Int32) (zfallbackValue : Int64) : Met l y_Rn_begin w_Rn_begin ({ frames := 1, cells := 0, slots := 0, locals := 21 }) (preW G (TYS cI cL cZ cR cE) [.ref a0, .ref za0] sz (W_Run cI cL cZ cR cE a0 a1 a2 a3 a4 a5 a6 facts stack handleFacts given_values given_givers handleCount height position fault cell ++ W_Rul cI cL cZ cR cE za0 za1 za2 znumber zhome zrank zname zops znumbers zlength zcell zfallbackKind zfallbackValue)) (va_Qv (fun u : (Nat → Int64) × (Nat → Int32) × Int32 × Int32 × Int32 × Int64 => u = f_begin given_values given_givers zcell) (fun u t => va_P G vwCl (W_Run cI cL cZ cR cE a0 a1 a2 a3 a4 a5 a6 facts stack handleFacts u.1 u.2.1 handleCount u.2.2.1 u.2.2.2.1 u.2.2.2.2.1 u.2.2.2.2.2 ++ W_Rul cI cL cZ cR cE za0 za1 za2 znumber zhome zrank zname zops znumbers zlength zcell zfallbackKind zfallbackValue) t.heap ∧ va_K G vwCl (TYS cI cL cZ cR cE) t ∧ va_D (va_A (W_Run cI cL cZ cR cE a0 a1 a2 a3 a4 a5 a6 facts stack handleFacts given_values given_givers handleCount height position fault cell ++ W_Rul cI cL cZ cR cE za0 za1 za2 znumber zhome zrank zname zops znumbers zlength zcell zfallbackKind zfallbackValue) sz) (W_Run cI cL cZ cR cE a0 a1 a2 a3 a4 a5 a6 facts stack handleFacts u.1 u.2.1 handleCount u.2.2.1 u.2.2.2.1 u.2.2.2.2.1 u.2.2.2.2.2 ++ W_Rul cI cL cZ cR cE za0 za1 za2 znumber zhome zrank zname zops znumbers zlength zcell zfallbackKind zfallbackValue)) (va_A (W_Run cI cL cZ cR cE a0 a1 a2 a3 a4 a5 a6 facts stack handleFacts given_values given_givers handleCount height position fault cell ++ W_Rul cI cL cZ cR cE za0 za1 za2 znumber zhome zrank zname zops znumbers zlength zcell zfallbackKind zfallbackValue) sz)) 0 0 (va_A (W_Run cI cL cZ cR cE a0 a1 a2 a3 a4 a5 a6 facts stack handleFacts given_values given_givers handleCount height position fault cell ++ W_Rul cI cL cZ cR cE za0 za1 za2 znumber zhome zrank zname zops znumbers zlength zcell zfallbackKind zfallbackValue) sz) := by
  refine Met.ofW (cc := b_Rn_begin) (maxL := 2) (ret := none) (by decide) rfl ?_
  intro p e s m args below meth c s₁ B hml hv
  obtain ⟨rfl, hsz, hP, hK, hD0, hN⟩ := hv
  have hx := B.exec
  have hb := B.bytes
  have hr := B.returns
  have hts := atoms_spec (ws := w_Rn_begin) B.pre
  have hown : s.vm.findClass R_Rn = some m.cls := findClass_of_methodNamed B.named
  have hlocks := B.notSynchronized
  subst hsz
  have hD := hD0.self (sz := s.heap.size)
  clear hD0
  generalize hAe : va_A (W_Run cI cL cZ cR cE a0 a1 a2 a3 a4 a5 a6 facts stack handleFacts given_values given_givers handleCount height position fault cell ++ W_Rul cI cL cZ cR cE za0 za1 za2 znumber zhome zrank zname zops znumbers zlength zcell zfallbackKind zfallbackValue) s.heap.size = A at hD ⊢
  have hA : ∀ q : Nat, s.heap.size ≤ q → A q := fun q h => by rw [← hAe]; exact Or.inr h
  clear hAe
  have hS : va_S A s.heap s.heap [] := va_S.rf
  obtain ⟨H, hH⟩ : ∃ H, H = s.heap := ⟨_, rfl⟩
  rw [← hH] at hP
  replace hS : va_S A s.heap H [] := by rw [hH]; exact hS
  rw [← hH]
  clear hH
  have hi_2 : ∀ w ∈ u_ws R_Rn T_Rn 9, w ∈ w_Rn_begin := fun w h => List.mem_cons_of_mem _ (iu_Rn w h)
  have hi_7 : ∀ w ∈ u_ws R_Ru T_Ru 10, w ∈ w_Rn_begin := fun w h => List.mem_cons_of_mem _ (iu_Ru w h)
  have hk_1 := hts (.fieldLink R_Rn 25 "HandlingRules$Runner" "given" "LHandlingRules$Answers;") (List.mem_cons_of_mem _ kw_64)
  have hk_3 := hts (.fieldLink R_Rn 33 "HandlingRules$Runner" "height" "I") (List.mem_cons_of_mem _ kw_68)
  have hk_4 := hts (.fieldLink R_Rn 36 "HandlingRules$Runner" "position" "I") (List.mem_cons_of_mem _ kw_69)
  have hk_5 := hts (.fieldLink R_Rn 39 "HandlingRules$Runner" "fault" "I") (List.mem_cons_of_mem _ kw_70)
  have hk_6 := hts (.fieldLink R_Rn 69 "HandlingRules$Rule" "cell" "J") (List.mem_cons_of_mem _ kw_202)
  have hk_8 := hts (.fieldLink R_Rn 42 "HandlingRules$Runner" "cell" "J") (List.mem_cons_of_mem _ kw_72)
  have hl := lv_entry ([.ref a0, .ref za0]) (n := 2) (Nat.le_of_ble_eq_true rfl)
  rw [lg_entry_eq]
  generalize (lg_sl ([.ref a0, .ref za0]) ++ List.replicate (2 - (lg_sl ([.ref a0, .ref za0])).length) Slot.unset).toArray = ls at hl ⊢
  replace hl : lv_has ls 2 [(0, .ref a0), (1, .ref za0)] := hl
  generalize hT : f_begin given_values given_givers zcell = T
  refine lv_aload_n hx hb d_Rn_begin_0 rfl (lv_at hl 0 rfl) ?_
  refine va_get (D := G) (ci := 4) (v := .ref a4) (C := R_Rn) (T := T_Rn) (N := 9) hx hb hts hi_2 hown hK hP 0 rfl rfl 3 (by decide) hk_1 (fun _ h9 => h9) rfl d_Rn_begin_1 ?_
  refine cl_v hK hP hD hS hA (va_runV (As := []) (rest := []) ⟨hx, hb, hml, hown, hts⟩ (c_clear l G cI cL cZ cR cE H.size a4 a5 a6 given_values given_givers) (cwV 0 hts (gV kw_296 kw_297 kw_298 kw_17 kw_299) rfl rfl rfl (by decide +kernel) ⟨Nat.le_of_ble_eq_true rfl, Nat.le_of_ble_eq_true rfl⟩) (preWV_of (ci := 0) hN hK hP hD [4, 5, 6] (by decide) rfl rfl rfl) rfl rfl hl.1 rfl (lv_room (Nat.le_of_ble_eq_true rfl)) d_Rn_begin_4 ⟨Nat.le_of_ble_eq_true rfl, Nat.le_of_ble_eq_true rfl⟩) [4, 5, 6] [0, 1, 2, 3, 7, 8, 9] rfl rfl (by decide) (by decide) (fun u H locs hw_3 hP hD hS => ?_)
  obtain ⟨x_values_4, x_givers_5⟩ := u
  replace hP : va_P G vwCl (W_Run cI cL cZ cR cE a0 a1 a2 a3 a4 a5 a6 facts stack handleFacts x_values_4 x_givers_5 handleCount height position fault cell ++ W_Rul cI cL cZ cR cE za0 za1 za2 znumber zhome zrank zname zops znumbers zlength zcell zfallbackKind zfallbackValue) H := hP.sub [0, 1, 2, 3, 7, 8, 9, 4, 5, 6] rfl
  replace hD : va_D A (W_Run cI cL cZ cR cE a0 a1 a2 a3 a4 a5 a6 facts stack handleFacts x_values_4 x_givers_5 handleCount height position fault cell ++ W_Rul cI cL cZ cR cE za0 za1 za2 znumber zhome zrank zname zops znumbers zlength zcell zfallbackKind zfallbackValue) := hD.sub [0, 1, 2, 3, 7, 8, 9, 4, 5, 6] (by decide) rfl
  refine lv_aload_n hx hb d_Rn_begin_7 rfl (lv_at hl 0 rfl) ?_
  refine lv_iconst (v := 0) hx hb d_Rn_begin_8 (by decide) ?_
  refine va_put (D := G) (ci := 4) (v := .int 0) (ty := (.int)) (C := R_Rn) (T := T_Rn) (N := 9) hx hb hts hi_2 ty_Rn tyk_Rn nm_Rn hown hK hP hD hS 0 rfl rfl 5 (by decide) hk_3 (fun _ h9 => h9) rfl (by decide +kernel) rfl rfl (Nat.le_of_ble_eq_true rfl) d_Rn_begin_9 (fun H locs hP hD hS => ?_)
  replace hP : va_P G vwCl (W_Run cI cL cZ cR cE a0 a1 a2 a3 a4 a5 a6 facts stack handleFacts x_values_4 x_givers_5 handleCount 0 position fault cell ++ W_Rul cI cL cZ cR cE za0 za1 za2 znumber zhome zrank zname zops znumbers zlength zcell zfallbackKind zfallbackValue) H := hP
  replace hD : va_D A (W_Run cI cL cZ cR cE a0 a1 a2 a3 a4 a5 a6 facts stack handleFacts x_values_4 x_givers_5 handleCount 0 position fault cell ++ W_Rul cI cL cZ cR cE za0 za1 za2 znumber zhome zrank zname zops znumbers zlength zcell zfallbackKind zfallbackValue) := hD
  refine lv_aload_n hx hb d_Rn_begin_12 rfl (lv_at hl 0 rfl) ?_
  refine lv_iconst (v := 0) hx hb d_Rn_begin_13 (by decide) ?_
  refine va_put (D := G) (ci := 4) (v := .int 0) (ty := (.int)) (C := R_Rn) (T := T_Rn) (N := 9) hx hb hts hi_2 ty_Rn tyk_Rn nm_Rn hown hK hP hD hS 0 rfl rfl 6 (by decide) hk_4 (fun _ h9 => h9) rfl (by decide +kernel) rfl rfl (Nat.le_of_ble_eq_true rfl) d_Rn_begin_14 (fun H locs hP hD hS => ?_)
  replace hP : va_P G vwCl (W_Run cI cL cZ cR cE a0 a1 a2 a3 a4 a5 a6 facts stack handleFacts x_values_4 x_givers_5 handleCount 0 0 fault cell ++ W_Rul cI cL cZ cR cE za0 za1 za2 znumber zhome zrank zname zops znumbers zlength zcell zfallbackKind zfallbackValue) H := hP
  replace hD : va_D A (W_Run cI cL cZ cR cE a0 a1 a2 a3 a4 a5 a6 facts stack handleFacts x_values_4 x_givers_5 handleCount 0 0 fault cell ++ W_Rul cI cL cZ cR cE za0 za1 za2 znumber zhome zrank zname zops znumbers zlength zcell zfallbackKind zfallbackValue) := hD
  refine lv_aload_n hx hb d_Rn_begin_17 rfl (lv_at hl 0 rfl) ?_
  refine lv_iconst (v := 0) hx hb d_Rn_begin_18 (by decide) ?_
  refine va_put (D := G) (ci := 4) (v := .int 0) (ty := (.int)) (C := R_Rn) (T := T_Rn) (N := 9) hx hb hts hi_2 ty_Rn tyk_Rn nm_Rn hown hK hP hD hS 0 rfl rfl 7 (by decide) hk_5 (fun _ h9 => h9) rfl (by decide +kernel) rfl rfl (Nat.le_of_ble_eq_true rfl) d_Rn_begin_19 (fun H locs hP hD hS => ?_)
  replace hP : va_P G vwCl (W_Run cI cL cZ cR cE a0 a1 a2 a3 a4 a5 a6 facts stack handleFacts x_values_4 x_givers_5 handleCount 0 0 0 cell ++ W_Rul cI cL cZ cR cE za0 za1 za2 znumber zhome zrank zname zops znumbers zlength zcell zfallbackKind zfallbackValue) H := hP
  replace hD : va_D A (W_Run cI cL cZ cR cE a0 a1 a2 a3 a4 a5 a6 facts stack handleFacts x_values_4 x_givers_5 handleCount 0 0 0 cell ++ W_Rul cI cL cZ cR cE za0 za1 za2 znumber zhome zrank zname zops znumbers zlength zcell zfallbackKind zfallbackValue) := hD
  refine lv_aload_n hx hb d_Rn_begin_22 rfl (lv_at hl 0 rfl) ?_
  refine lv_aload_n hx hb d_Rn_begin_23 rfl (lv_at hl 1 rfl) ?_
  refine va_get (D := G) (ci := 3) (v := .long zcell) (C := R_Ru) (T := T_Ru) (N := 10) hx hb hts hi_7 hown hK hP 7 rfl rfl 7 (by decide) hk_6 (fun _ h9 => h9) rfl d_Rn_begin_24 ?_
  refine va_put (D := G) (ci := 4) (v := .long zcell) (ty := (.long)) (C := R_Rn) (T := T_Rn) (N := 9) hx hb hts hi_2 ty_Rn tyk_Rn nm_Rn hown hK hP hD hS 0 rfl rfl 8 (by decide) hk_8 (fun _ h9 => h9) rfl (by decide +kernel) rfl rfl (Nat.le_of_ble_eq_true rfl) d_Rn_begin_27 (fun H locs hP hD hS => ?_)
  replace hP : va_P G vwCl (W_Run cI cL cZ cR cE a0 a1 a2 a3 a4 a5 a6 facts stack handleFacts x_values_4 x_givers_5 handleCount 0 0 0 zcell ++ W_Rul cI cL cZ cR cE za0 za1 za2 znumber zhome zrank zname zops znumbers zlength zcell zfallbackKind zfallbackValue) H := hP
  replace hD : va_D A (W_Run cI cL cZ cR cE a0 a1 a2 a3 a4 a5 a6 facts stack handleFacts x_values_4 x_givers_5 handleCount 0 0 0 zcell ++ W_Rul cI cL cZ cR cE za0 za1 za2 znumber zhome zrank zname zops znumbers zlength zcell zfallbackKind zfallbackValue) := hD
  exact W.vret hx hb hr (fun t ht hW => ⟨⟨(x_values_4, x_givers_5, 0, 0, 0, zcell), rfl, (by rw [← hT]; simp only [f_begin, ← hw_3]), by rw [ht]; exact hP, va_K.moved hW.alike hK, hD⟩, hS.F ht⟩) hS.2.2 d_Rn_begin_30
end
section
def f_faultOf (stack : Nat → Int64) (handleCount : Int32) (height : Int32) (op : Int32) : Int32 := if (height - (f_takes op)) < 0 then 3 else (if ((height - (f_takes op)) + (f_puts op)) ≤ 8 then (if op = 5 then (if (f_top stack height) = 0 then 2 else (if (if op = 13 then ((if handleCount < 16 then (0 : Int32) else 1) : Int32) else 0) = 0 then (if (if op = 14 then ((if (f_isWithin (f_top stack height) 0 ((handleCount - 1).toInt64)) = 0 then (1 : Int32) else 0) : Int32) else 0) = 0 then 0 else 4) else 4)) else (if (if op = 13 then ((if handleCount < 16 then (0 : Int32) else 1) : Int32) else 0) = 0 then (if (if op = 14 then ((if (f_isWithin (f_top stack height) 0 ((handleCount - 1).toInt64)) = 0 then (1 : Int32) else 0) : Int32) else 0) = 0 then 0 else 4) else 4)) else 3)
set_option maxHeartbeats 4000000 in
set_option maxRecDepth 100000 in
theorem c_faultOf (l : Launch) (G : va_G) (cI cL cZ cR cE : ClassId) (a0 a1 a2 a3 a4 a5 a6 : Nat) (facts : Nat → Int64) (stack : Nat → Int64) (handleFacts : Nat → Int32) (given_values : Nat → Int64) (given_givers : Nat → Int32) (handleCount : Int32) (height : Int32) (position : Int32) (fault : Int32) (cell : Int64) (op : Int32) : Met l y_Rn_faultOf w_Rn_faultOf ({ frames := 2, cells := 0, slots := 0, locals := 40 }) (preR G (TYS cI cL cZ cR cE) [.ref a0, .int op] (W_Run cI cL cZ cR cE a0 a1 a2 a3 a4 a5 a6 facts stack handleFacts given_values given_givers handleCount height position fault cell)) (vp_Si (fun r => r = f_faultOf stack handleCount height op)) 0 0 (fun _ => False) := by
  refine Met.ofW (cc := b_Rn_faultOf) (maxL := 5) (ret := (some .int)) (by decide) rfl ?_
  intro p e s m args below meth c s₁ B hml hv
  obtain ⟨rfl, hP, hK, hN⟩ := hv
  have hx := B.exec
  have hb := B.bytes
  have hr := B.returns
  have hts := atoms_spec (ws := w_Rn_faultOf) B.pre
  have hown : s.vm.findClass R_Rn = some m.cls := findClass_of_methodNamed B.named
  have hlocks := B.notSynchronized
  obtain ⟨H, hH⟩ : ∃ H, H = s.heap := ⟨_, rfl⟩
  rw [← hH] at hP
  rw [← hH]
  have hi_2 : ∀ w ∈ u_ws R_Rn T_Rn 9, w ∈ w_Rn_faultOf := fun w h => List.mem_cons_of_mem _ (iu_Rn w h)
  have hk_1 := hts (.fieldLink R_Rn 33 "HandlingRules$Runner" "height" "I") (List.mem_cons_of_mem _ kw_68)
  have hk_3 := hts (.fieldLink R_Rn 29 "HandlingRules$Runner" "handleCount" "I") (List.mem_cons_of_mem _ kw_66)
  have hl := lv_entry ([.ref a0, .int op]) (n := 5) (Nat.le_of_ble_eq_true rfl)
  rw [lg_entry_eq]
  generalize (lg_sl ([.ref a0, .int op]) ++ List.replicate (5 - (lg_sl ([.ref a0, .int op])).length) Slot.unset).toArray = ls at hl ⊢
  replace hl : lv_has ls 5 [(0, .ref a0), (1, .int op)] := hl
  generalize hT : f_faultOf stack handleCount height op = T
  refine lv_aload_n hx hb d_Rn_faultOf_0 rfl (lv_at hl 0 rfl) ?_
  refine va_get (D := G) (ci := 4) (v := .int height) (C := R_Rn) (T := T_Rn) (N := 9) hx hb hts hi_2 hown hK hP 0 rfl rfl 5 (by decide) hk_1 (fun _ h9 => h9) rfl d_Rn_faultOf_1 ?_
  refine lv_iload_n hx hb d_Rn_faultOf_4 rfl (lv_at hl 1 rfl) ?_
  refine vp_callSi (run_of (va_runSN (As := [.int op]) (rest := [.int height]) ⟨hx, hb, hml, hown, hts⟩ (c_takes l G cI cL cZ cR cE  op) ⟨va_cnB 1 hts (gC kw_314) rfl rfl rfl (hN.1 _ nw_3) (hts _ (List.mem_cons_of_mem _ kw_15)) (by decide +kernel) ⟨Nat.le_of_ble_eq_true rfl, Nat.le_of_ble_eq_true rfl⟩, hts _ (List.mem_cons_of_mem _ kw_313), trivial⟩ (preRS_of hN hK hP [] rfl) rfl rfl hl.1 rfl (lv_room (Nat.le_of_ble_eq_true rfl)) d_Rn_faultOf_5 ⟨Nat.zero_le _, Nat.zero_le _⟩)) (fun r_1 hw => ?_)
  subst hw
  refine lv_isub hx hb d_Rn_faultOf_8 ?_
  refine lv_istore_n (lv' := [(2, .int (height - (f_takes op))), (0, .ref a0), (1, .int op)]) hx hb d_Rn_faultOf_9 rfl hl (by decide) rfl (fun ls hl => ?_)
  refine lv_iload_n hx hb d_Rn_faultOf_10 rfl (lv_at hl 0 rfl) ?_
  refine lv_if_lt (tgt := 25) hx hb d_Rn_faultOf_11 (by decide) (fun c_2 => ?_) (fun c_2 => ?_)
  · refine lv_iconst (v := 3) hx hb d_Rn_faultOf_25 (by decide) ?_
    exact W.iret (v := 3) hx hb hr (fun t ht hW => ⟨3, rfl, (by rw [← hT]; simp only [f_faultOf, if_pos c_2]), by rw [ht, hH]⟩) (fun _ h => by cases h) d_Rn_faultOf_26
  · refine lv_iload_n hx hb d_Rn_faultOf_14 rfl (lv_at hl 0 rfl) ?_
    refine lv_iload_n hx hb d_Rn_faultOf_15 rfl (lv_at hl 2 rfl) ?_
    refine vp_callSi (run_of (va_runSN (As := [.int op]) (rest := [.int (height - (f_takes op))]) ⟨hx, hb, hml, hown, hts⟩ (c_puts l G cI cL cZ cR cE  op) ⟨va_cnB 1 hts (gC kw_320) rfl rfl rfl (hN.1 _ nw_4) (hts _ (List.mem_cons_of_mem _ kw_15)) (by decide +kernel) ⟨Nat.le_of_ble_eq_true rfl, Nat.le_of_ble_eq_true rfl⟩, hts _ (List.mem_cons_of_mem _ kw_319), trivial⟩ (preRS_of hN hK hP [] rfl) rfl rfl hl.1 rfl (lv_room (Nat.le_of_ble_eq_true rfl)) d_Rn_faultOf_16 ⟨Nat.zero_le _, Nat.zero_le _⟩)) (fun r_3 hw => ?_)
    subst hw
    refine lv_iadd hx hb d_Rn_faultOf_19 ?_
    refine lv_bipush (v := 8) hx hb d_Rn_faultOf_20 (by decide) ?_
    refine lv_icmp_le (tgt := 27) hx hb d_Rn_faultOf_22 (by decide) (fun c_4 => ?_) (fun c_4 => ?_)
    · refine lv_iload_n hx hb d_Rn_faultOf_27 rfl (lv_at hl 2 rfl) ?_
      refine lv_iconst (v := 5) hx hb d_Rn_faultOf_28 (by decide) ?_
      refine lv_icmp_ne (tgt := 43) hx hb d_Rn_faultOf_29 (by decide) (fun c_5 => ?_) (fun c_5 => ?_)
      · refine lv_iload_n hx hb d_Rn_faultOf_43 rfl (lv_at hl 2 rfl) ?_
        refine lv_bipush (v := 13) hx hb d_Rn_faultOf_44 (by decide) ?_
        refine W_join (P := op = 13) (A := ((if handleCount < 16 then (0 : Int32) else 1) : Int32)) (B := 0) (fr := (fun v : Int32 => F0 m 63 ls (.int v :: []))) (fun hA_7 hB_8 => ?_) ?_
        · refine lv_icmp_ne (tgt := 62) hx hb d_Rn_faultOf_46 (by decide) (fun c_6 => ?_) (fun c_6 => ?_)
          · refine lv_iconst (v := 0) hx hb d_Rn_faultOf_62 (by decide) ?_
            exact hB_8 c_6
          · refine lv_aload_n hx hb d_Rn_faultOf_49 rfl (lv_at hl 1 rfl) ?_
            refine va_get (D := G) (ci := 4) (v := .int handleCount) (C := R_Rn) (T := T_Rn) (N := 9) hx hb hts hi_2 hown hK hP 0 rfl rfl 4 (by decide) hk_3 (fun _ h9 => h9) rfl d_Rn_faultOf_50 ?_
            refine lv_bipush (v := 16) hx hb d_Rn_faultOf_53 (by decide) ?_
            refine W_join (P := handleCount < 16) (A := (0 : Int32)) (B := 1) (fr := (fun v : Int32 => F0 m 63 ls (.int v :: []))) (fun hA_10 hB_11 => ?_) ?_
            · refine lv_icmp_lt (tgt := 62) hx hb d_Rn_faultOf_55 (by decide) (fun c_9 => ?_) (fun c_9 => ?_)
              · refine lv_iconst (v := 0) hx hb d_Rn_faultOf_62 (by decide) ?_
                exact hA_10 c_9
              · refine lv_iconst (v := 1) hx hb d_Rn_faultOf_58 (by decide) ?_
                refine lv_goto (tgt := 63) hx hb d_Rn_faultOf_59 (by decide) ?_
                exact hB_11 c_9
            exact hA_7 c_6
        refine lv_istore_n (lv' := [(3, .int (if op = 13 then ((if handleCount < 16 then (0 : Int32) else 1) : Int32) else 0)), (2, .int (height - (f_takes op))), (0, .ref a0), (1, .int op)]) hx hb d_Rn_faultOf_63 rfl hl (by decide) rfl (fun ls hl => ?_)
        refine lv_iload_n hx hb d_Rn_faultOf_64 rfl (lv_at hl 3 rfl) ?_
        refine lv_bipush (v := 14) hx hb d_Rn_faultOf_65 (by decide) ?_
        refine W_join (P := op = 14) (A := ((if (f_isWithin (f_top stack height) 0 ((handleCount - 1).toInt64)) = 0 then (1 : Int32) else 0) : Int32)) (B := 0) (fr := (fun v : Int32 => F0 m 93 ls (.int v :: []))) (fun hA_13 hB_14 => ?_) ?_
        · refine lv_icmp_ne (tgt := 92) hx hb d_Rn_faultOf_67 (by decide) (fun c_12 => ?_) (fun c_12 => ?_)
          · refine lv_iconst (v := 0) hx hb d_Rn_faultOf_92 (by decide) ?_
            exact hB_14 c_12
          · refine lv_aload_n hx hb d_Rn_faultOf_70 rfl (lv_at hl 2 rfl) ?_
            refine vp_callSl (W.runV (As := []) (rest := []) ⟨hx, hb, hml, hown, hts⟩ (c_top l G cI cL cZ cR cE a0 a1 a2 a3 a4 a5 a6 facts stack handleFacts given_values given_givers handleCount height position fault cell) (cwV 0 hts (gV kw_321 kw_322 kw_323 kw_16 kw_324) rfl rfl rfl (by decide +kernel) ⟨Nat.le_of_ble_eq_true rfl, Nat.le_of_ble_eq_true rfl⟩) (preRV_of (ci := 4) hN hK hP [0, 1, 2, 3, 4, 5, 6] rfl rfl rfl) rfl rfl hl.1 rfl (lv_room (Nat.le_of_ble_eq_true rfl)) d_Rn_faultOf_71 ⟨Nat.zero_le _, Nat.zero_le _⟩) (fun r_15 hw => ?_)
            subst hw
            refine lv_lconst (v := 0) hx hb d_Rn_faultOf_74 (by decide) ?_
            refine lv_aload_n hx hb d_Rn_faultOf_75 rfl (lv_at hl 2 rfl) ?_
            refine va_get (D := G) (ci := 4) (v := .int handleCount) (C := R_Rn) (T := T_Rn) (N := 9) hx hb hts hi_2 hown hK hP 0 rfl rfl 4 (by decide) hk_3 (fun _ h9 => h9) rfl d_Rn_faultOf_76 ?_
            refine lv_iconst (v := 1) hx hb d_Rn_faultOf_79 (by decide) ?_
            refine lv_isub hx hb d_Rn_faultOf_80 ?_
            refine lv_i2l (v := (handleCount - 1).toInt64) hx hb d_Rn_faultOf_81 rfl ?_
            refine vp_callSi (run_of (va_runSN (As := [.long (f_top stack height), .long 0, .long ((handleCount - 1).toInt64)]) (rest := []) ⟨hx, hb, hml, hown, hts⟩ (c_isWithin l G cI cL cZ cR cE  (f_top stack height) 0 ((handleCount - 1).toInt64)) ⟨va_cnB 3 hts (gC kw_180) rfl rfl rfl (hN.1 _ nw_5) (hts _ (List.mem_cons_of_mem _ kw_15)) (by decide +kernel) ⟨Nat.le_of_ble_eq_true rfl, Nat.le_of_ble_eq_true rfl⟩, hts _ (List.mem_cons_of_mem _ kw_179), trivial⟩ (preRS_of hN hK hP [] rfl) rfl rfl hl.1 rfl (lv_room (Nat.le_of_ble_eq_true rfl)) d_Rn_faultOf_82 ⟨Nat.zero_le _, Nat.zero_le _⟩)) (fun r_16 hw => ?_)
            subst hw
            refine W_join (P := (f_isWithin (f_top stack height) 0 ((handleCount - 1).toInt64)) = 0) (A := (1 : Int32)) (B := 0) (fr := (fun v : Int32 => F0 m 93 ls (.int v :: []))) (fun hA_18 hB_19 => ?_) ?_
            · refine lv_if_ne (tgt := 92) hx hb d_Rn_faultOf_85 (by decide) (fun c_17 => ?_) (fun c_17 => ?_)
              · refine lv_iconst (v := 0) hx hb d_Rn_faultOf_92 (by decide) ?_
                exact hB_19 c_17
              · refine lv_iconst (v := 1) hx hb d_Rn_faultOf_88 (by decide) ?_
                refine lv_goto (tgt := 93) hx hb d_Rn_faultOf_89 (by decide) ?_
                exact hA_18 c_17
            exact hA_13 c_12
        refine lv_istore (lv' := [(4, .int (if op = 14 then ((if (f_isWithin (f_top stack height) 0 ((handleCount - 1).toInt64)) = 0 then (1 : Int32) else 0) : Int32) else 0)), (3, .int (if op = 13 then ((if handleCount < 16 then (0 : Int32) else 1) : Int32) else 0)), (2, .int (height - (f_takes op))), (0, .ref a0), (1, .int op)]) hx hb d_Rn_faultOf_93 hl (by decide) rfl (fun ls hl => ?_)
        refine lv_iload_n hx hb d_Rn_faultOf_95 rfl (lv_at hl 1 rfl) ?_
        refine lv_if_ne (tgt := 104) hx hb d_Rn_faultOf_96 (by decide) (fun c_20 => ?_) (fun c_20 => ?_)
        · refine lv_iconst (v := 4) hx hb d_Rn_faultOf_104 (by decide) ?_
          refine lv_goto (tgt := 109) hx hb d_Rn_faultOf_105 (by decide) ?_
          exact W.iret (v := 4) hx hb hr (fun t ht hW => ⟨4, rfl, (by rw [← hT]; simp only [f_faultOf, if_neg c_2, if_pos c_4, if_neg c_5, if_neg c_20]), by rw [ht, hH]⟩) (fun _ h => by cases h) d_Rn_faultOf_109
        · refine lv_iload hx hb d_Rn_faultOf_99 (lv_at hl 0 rfl) ?_
          refine lv_if_eq (tgt := 108) hx hb d_Rn_faultOf_101 (by decide) (fun c_21 => ?_) (fun c_21 => ?_)
          · refine lv_iconst (v := 0) hx hb d_Rn_faultOf_108 (by decide) ?_
            exact W.iret (v := 0) hx hb hr (fun t ht hW => ⟨0, rfl, (by rw [← hT]; simp only [f_faultOf, if_neg c_2, if_pos c_4, if_neg c_5, if_pos c_20, if_pos c_21]), by rw [ht, hH]⟩) (fun _ h => by cases h) d_Rn_faultOf_109
          · refine lv_iconst (v := 4) hx hb d_Rn_faultOf_104 (by decide) ?_
            refine lv_goto (tgt := 109) hx hb d_Rn_faultOf_105 (by decide) ?_
            exact W.iret (v := 4) hx hb hr (fun t ht hW => ⟨4, rfl, (by rw [← hT]; simp only [f_faultOf, if_neg c_2, if_pos c_4, if_neg c_5, if_pos c_20, if_neg c_21]), by rw [ht, hH]⟩) (fun _ h => by cases h) d_Rn_faultOf_109
      · refine lv_aload_n hx hb d_Rn_faultOf_32 rfl (lv_at hl 1 rfl) ?_
        refine vp_callSl (W.runV (As := []) (rest := []) ⟨hx, hb, hml, hown, hts⟩ (c_top l G cI cL cZ cR cE a0 a1 a2 a3 a4 a5 a6 facts stack handleFacts given_values given_givers handleCount height position fault cell) (cwV 0 hts (gV kw_321 kw_322 kw_323 kw_16 kw_324) rfl rfl rfl (by decide +kernel) ⟨Nat.le_of_ble_eq_true rfl, Nat.le_of_ble_eq_true rfl⟩) (preRV_of (ci := 4) hN hK hP [0, 1, 2, 3, 4, 5, 6] rfl rfl rfl) rfl rfl hl.1 rfl (lv_room (Nat.le_of_ble_eq_true rfl)) d_Rn_faultOf_33 ⟨Nat.zero_le _, Nat.zero_le _⟩) (fun r_22 hw => ?_)
        subst hw
        refine lv_lconst (v := 0) hx hb d_Rn_faultOf_36 (by decide) ?_
        refine lc_ne (x := f_top stack height) (y := 0) (tgt := 43) hx hb d_Rn_faultOf_37 d_Rn_faultOf_38 (by decide) (fun c_23 => ?_) (fun c_23 => ?_)
        · refine lv_iload_n hx hb d_Rn_faultOf_43 rfl (lv_at hl 2 rfl) ?_
          refine lv_bipush (v := 13) hx hb d_Rn_faultOf_44 (by decide) ?_
          refine W_join (P := op = 13) (A := ((if handleCount < 16 then (0 : Int32) else 1) : Int32)) (B := 0) (fr := (fun v : Int32 => F0 m 63 ls (.int v :: []))) (fun hA_25 hB_26 => ?_) ?_
          · refine lv_icmp_ne (tgt := 62) hx hb d_Rn_faultOf_46 (by decide) (fun c_24 => ?_) (fun c_24 => ?_)
            · refine lv_iconst (v := 0) hx hb d_Rn_faultOf_62 (by decide) ?_
              exact hB_26 c_24
            · refine lv_aload_n hx hb d_Rn_faultOf_49 rfl (lv_at hl 1 rfl) ?_
              refine va_get (D := G) (ci := 4) (v := .int handleCount) (C := R_Rn) (T := T_Rn) (N := 9) hx hb hts hi_2 hown hK hP 0 rfl rfl 4 (by decide) hk_3 (fun _ h9 => h9) rfl d_Rn_faultOf_50 ?_
              refine lv_bipush (v := 16) hx hb d_Rn_faultOf_53 (by decide) ?_
              refine W_join (P := handleCount < 16) (A := (0 : Int32)) (B := 1) (fr := (fun v : Int32 => F0 m 63 ls (.int v :: []))) (fun hA_28 hB_29 => ?_) ?_
              · refine lv_icmp_lt (tgt := 62) hx hb d_Rn_faultOf_55 (by decide) (fun c_27 => ?_) (fun c_27 => ?_)
                · refine lv_iconst (v := 0) hx hb d_Rn_faultOf_62 (by decide) ?_
                  exact hA_28 c_27
                · refine lv_iconst (v := 1) hx hb d_Rn_faultOf_58 (by decide) ?_
                  refine lv_goto (tgt := 63) hx hb d_Rn_faultOf_59 (by decide) ?_
                  exact hB_29 c_27
              exact hA_25 c_24
          refine lv_istore_n (lv' := [(3, .int (if op = 13 then ((if handleCount < 16 then (0 : Int32) else 1) : Int32) else 0)), (2, .int (height - (f_takes op))), (0, .ref a0), (1, .int op)]) hx hb d_Rn_faultOf_63 rfl hl (by decide) rfl (fun ls hl => ?_)
          refine lv_iload_n hx hb d_Rn_faultOf_64 rfl (lv_at hl 3 rfl) ?_
          refine lv_bipush (v := 14) hx hb d_Rn_faultOf_65 (by decide) ?_
          refine W_join (P := op = 14) (A := ((if (f_isWithin (f_top stack height) 0 ((handleCount - 1).toInt64)) = 0 then (1 : Int32) else 0) : Int32)) (B := 0) (fr := (fun v : Int32 => F0 m 93 ls (.int v :: []))) (fun hA_31 hB_32 => ?_) ?_
          · refine lv_icmp_ne (tgt := 92) hx hb d_Rn_faultOf_67 (by decide) (fun c_30 => ?_) (fun c_30 => ?_)
            · refine lv_iconst (v := 0) hx hb d_Rn_faultOf_92 (by decide) ?_
              exact hB_32 c_30
            · refine lv_aload_n hx hb d_Rn_faultOf_70 rfl (lv_at hl 2 rfl) ?_
              refine vp_callSl (W.runV (As := []) (rest := []) ⟨hx, hb, hml, hown, hts⟩ (c_top l G cI cL cZ cR cE a0 a1 a2 a3 a4 a5 a6 facts stack handleFacts given_values given_givers handleCount height position fault cell) (cwV 0 hts (gV kw_321 kw_322 kw_323 kw_16 kw_324) rfl rfl rfl (by decide +kernel) ⟨Nat.le_of_ble_eq_true rfl, Nat.le_of_ble_eq_true rfl⟩) (preRV_of (ci := 4) hN hK hP [0, 1, 2, 3, 4, 5, 6] rfl rfl rfl) rfl rfl hl.1 rfl (lv_room (Nat.le_of_ble_eq_true rfl)) d_Rn_faultOf_71 ⟨Nat.zero_le _, Nat.zero_le _⟩) (fun r_33 hw => ?_)
              subst hw
              refine lv_lconst (v := 0) hx hb d_Rn_faultOf_74 (by decide) ?_
              refine lv_aload_n hx hb d_Rn_faultOf_75 rfl (lv_at hl 2 rfl) ?_
              refine va_get (D := G) (ci := 4) (v := .int handleCount) (C := R_Rn) (T := T_Rn) (N := 9) hx hb hts hi_2 hown hK hP 0 rfl rfl 4 (by decide) hk_3 (fun _ h9 => h9) rfl d_Rn_faultOf_76 ?_
              refine lv_iconst (v := 1) hx hb d_Rn_faultOf_79 (by decide) ?_
              refine lv_isub hx hb d_Rn_faultOf_80 ?_
              refine lv_i2l (v := (handleCount - 1).toInt64) hx hb d_Rn_faultOf_81 rfl ?_
              refine vp_callSi (run_of (va_runSN (As := [.long (f_top stack height), .long 0, .long ((handleCount - 1).toInt64)]) (rest := []) ⟨hx, hb, hml, hown, hts⟩ (c_isWithin l G cI cL cZ cR cE  (f_top stack height) 0 ((handleCount - 1).toInt64)) ⟨va_cnB 3 hts (gC kw_180) rfl rfl rfl (hN.1 _ nw_5) (hts _ (List.mem_cons_of_mem _ kw_15)) (by decide +kernel) ⟨Nat.le_of_ble_eq_true rfl, Nat.le_of_ble_eq_true rfl⟩, hts _ (List.mem_cons_of_mem _ kw_179), trivial⟩ (preRS_of hN hK hP [] rfl) rfl rfl hl.1 rfl (lv_room (Nat.le_of_ble_eq_true rfl)) d_Rn_faultOf_82 ⟨Nat.zero_le _, Nat.zero_le _⟩)) (fun r_34 hw => ?_)
              subst hw
              refine W_join (P := (f_isWithin (f_top stack height) 0 ((handleCount - 1).toInt64)) = 0) (A := (1 : Int32)) (B := 0) (fr := (fun v : Int32 => F0 m 93 ls (.int v :: []))) (fun hA_36 hB_37 => ?_) ?_
              · refine lv_if_ne (tgt := 92) hx hb d_Rn_faultOf_85 (by decide) (fun c_35 => ?_) (fun c_35 => ?_)
                · refine lv_iconst (v := 0) hx hb d_Rn_faultOf_92 (by decide) ?_
                  exact hB_37 c_35
                · refine lv_iconst (v := 1) hx hb d_Rn_faultOf_88 (by decide) ?_
                  refine lv_goto (tgt := 93) hx hb d_Rn_faultOf_89 (by decide) ?_
                  exact hA_36 c_35
              exact hA_31 c_30
          refine lv_istore (lv' := [(4, .int (if op = 14 then ((if (f_isWithin (f_top stack height) 0 ((handleCount - 1).toInt64)) = 0 then (1 : Int32) else 0) : Int32) else 0)), (3, .int (if op = 13 then ((if handleCount < 16 then (0 : Int32) else 1) : Int32) else 0)), (2, .int (height - (f_takes op))), (0, .ref a0), (1, .int op)]) hx hb d_Rn_faultOf_93 hl (by decide) rfl (fun ls hl => ?_)
          refine lv_iload_n hx hb d_Rn_faultOf_95 rfl (lv_at hl 1 rfl) ?_
          refine lv_if_ne (tgt := 104) hx hb d_Rn_faultOf_96 (by decide) (fun c_38 => ?_) (fun c_38 => ?_)
          · refine lv_iconst (v := 4) hx hb d_Rn_faultOf_104 (by decide) ?_
            refine lv_goto (tgt := 109) hx hb d_Rn_faultOf_105 (by decide) ?_
            exact W.iret (v := 4) hx hb hr (fun t ht hW => ⟨4, rfl, (by rw [← hT]; simp only [f_faultOf, if_neg c_2, if_pos c_4, if_pos c_5, if_neg c_23, if_neg c_38]), by rw [ht, hH]⟩) (fun _ h => by cases h) d_Rn_faultOf_109
          · refine lv_iload hx hb d_Rn_faultOf_99 (lv_at hl 0 rfl) ?_
            refine lv_if_eq (tgt := 108) hx hb d_Rn_faultOf_101 (by decide) (fun c_39 => ?_) (fun c_39 => ?_)
            · refine lv_iconst (v := 0) hx hb d_Rn_faultOf_108 (by decide) ?_
              exact W.iret (v := 0) hx hb hr (fun t ht hW => ⟨0, rfl, (by rw [← hT]; simp only [f_faultOf, if_neg c_2, if_pos c_4, if_pos c_5, if_neg c_23, if_pos c_38, if_pos c_39]), by rw [ht, hH]⟩) (fun _ h => by cases h) d_Rn_faultOf_109
            · refine lv_iconst (v := 4) hx hb d_Rn_faultOf_104 (by decide) ?_
              refine lv_goto (tgt := 109) hx hb d_Rn_faultOf_105 (by decide) ?_
              exact W.iret (v := 4) hx hb hr (fun t ht hW => ⟨4, rfl, (by rw [← hT]; simp only [f_faultOf, if_neg c_2, if_pos c_4, if_pos c_5, if_neg c_23, if_pos c_38, if_neg c_39]), by rw [ht, hH]⟩) (fun _ h => by cases h) d_Rn_faultOf_109
        · refine lv_iconst (v := 2) hx hb d_Rn_faultOf_41 (by decide) ?_
          exact W.iret (v := 2) hx hb hr (fun t ht hW => ⟨2, rfl, (by rw [← hT]; simp only [f_faultOf, if_neg c_2, if_pos c_4, if_pos c_5, if_pos c_23]), by rw [ht, hH]⟩) (fun _ h => by cases h) d_Rn_faultOf_42
    · refine lv_iconst (v := 3) hx hb d_Rn_faultOf_25 (by decide) ?_
      exact W.iret (v := 3) hx hb hr (fun t ht hW => ⟨3, rfl, (by rw [← hT]; simp only [f_faultOf, if_neg c_2, if_neg c_4]), by rw [ht, hH]⟩) (fun _ h => by cases h) d_Rn_faultOf_26
end
section
def f_perform (facts : Nat → Int64) (stack : Nat → Int64) (handleFacts : Nat → Int32) (given_values : Nat → Int64) (given_givers : Nat → Int32) (handleCount : Int32) (height : Int32) (position : Int32) (cell : Int64) (znumber : Int32) (zlength : Int32) (op : Int32) (n_ : Int64) : (Nat → Int64) × (Nat → Int32) × (Nat → Int64) × (Nat → Int32) × Int32 × Int32 × Int32 × Int32 × Int64 := if (f_faultOf stack handleCount height op) = 0 then (if (f_takesTwo op) = 0 then (if op = 0 then (match f_push stack height n_ with | (x_stack_9, x_height_10) => (x_stack_9, handleFacts, given_values, given_givers, handleCount, x_height_10, position + 1, f_faultOf stack handleCount height op, cell)) else (if op = 1 then (match f_push stack height (f_factOf facts n_) with | (x_stack_16, x_height_17) => (x_stack_16, handleFacts, given_values, given_givers, handleCount, x_height_17, position + 1, f_faultOf stack handleCount height op, cell)) else (if op = 8 then (match f_pop stack height with | (r_20, x_height_22) => (if r_20 = 0 then (match f_push stack x_height_22 1 with | (x_stack_32, x_height_33) => (x_stack_32, handleFacts, given_values, given_givers, handleCount, x_height_33, position + 1, f_faultOf stack handleCount height op, cell)) else (match f_push stack x_height_22 0 with | (x_stack_27, x_height_28) => (x_stack_27, handleFacts, given_values, given_givers, handleCount, x_height_28, position + 1, f_faultOf stack handleCount height op, cell)))) else (if op = 9 then (match f_pop stack height with | (r_36, x_height_38) => (if r_36 = 0 then (stack, handleFacts, given_values, given_givers, handleCount, x_height_38, (if (if (position.toInt64 + n_) < zlength.toInt64 then position.toInt64 + n_ else zlength.toInt64) < 0 then 0 else (if (position.toInt64 + n_) < zlength.toInt64 then position.toInt64 + n_ else zlength.toInt64)).toInt32, f_faultOf stack handleCount height op, cell) else (stack, handleFacts, given_values, given_givers, handleCount, x_height_38, position + 1, f_faultOf stack handleCount height op, cell))) else (if op = 10 then (match f_pop stack height with | (r_42, x_height_44) => (match f_give given_values given_givers n_ r_42 znumber with | (x_values_48, x_givers_49) => (stack, handleFacts, x_values_48, x_givers_49, handleCount, x_height_44, position + 1, f_faultOf stack handleCount height op, cell))) else (if op = 11 then (match f_pop stack height with | (r_52, x_height_54) => (stack, handleFacts, given_values, given_givers, handleCount, x_height_54, position + 1, f_faultOf stack handleCount height op, cell + r_52)) else (if op = 12 then (match f_push stack height cell with | (x_stack_59, x_height_60) => (x_stack_59, handleFacts, given_values, given_givers, handleCount, x_height_60, position + 1, f_faultOf stack handleCount height op, cell)) else (if op = 13 then (match f_keep handleFacts handleCount n_ with | (r_63, x_handleFacts_65, x_handleCount_66) => (match f_push stack height r_63.toInt64 with | (x_stack_70, x_height_71) => (x_stack_70, x_handleFacts_65, given_values, given_givers, x_handleCount_66, x_height_71, position + 1, f_faultOf stack handleCount height op, cell))) else (if op = 14 then (match f_pop stack height with | (r_74, x_height_76) => (match f_push stack x_height_76 (f_factBehind facts handleFacts handleCount r_74) with | (x_stack_81, x_height_82) => (x_stack_81, handleFacts, given_values, given_givers, handleCount, x_height_82, position + 1, f_faultOf stack handleCount height op, cell))) else (stack, handleFacts, given_values, given_givers, handleCount, height, zlength, f_faultOf stack handleCount height op, cell)))))))))) else (match f_pop stack height with | (r_84, x_height_86) => (match f_pop stack x_height_86 with | (r_88, x_height_90) => (match f_push stack x_height_90 (f_combine op r_88 r_84) with | (x_stack_95, x_height_96) => (x_stack_95, handleFacts, given_values, given_givers, handleCount, x_height_96, position + 1, f_faultOf stack handleCount height op, cell))))) else (stack, handleFacts, given_values, given_givers, handleCount, height, position, f_faultOf stack handleCount height op, cell)
set_option maxHeartbeats 4000000 in
set_option maxRecDepth 100000 in
theorem c_perform (l : Launch) (G : va_G) (cI cL cZ cR cE : ClassId) (sz : Nat) (a0 a1 a2 a3 a4 a5 a6 : Nat) (za0 za1 za2 : Nat) (facts : Nat → Int64) (stack : Nat → Int64) (handleFacts : Nat → Int32) (given_values : Nat → Int64) (given_givers : Nat → Int32) (handleCount : Int32) (height : Int32) (position : Int32) (fault : Int32) (cell : Int64) (znumber : Int32) (zhome : Nat) (zrank : Int32) (zname : Int32) (zops : Nat → Int32) (znumbers : Nat → Int64) (zlength : Int32) (zcell : Int64) (zfallbackKind : Int32) (zfallbackValue : Int64) (op : Int32) (n_ : Int64) : Met l y_Rn_perform w_Rn_perform ({ frames := 3, cells := 0, slots := 0, locals := 70 }) (preW G (TYS cI cL cZ cR cE) [.ref a0, .ref za0, .int op, .long n_] sz (W_Run cI cL cZ cR cE a0 a1 a2 a3 a4 a5 a6 facts stack handleFacts given_values given_givers handleCount height position fault cell ++ W_Rul cI cL cZ cR cE za0 za1 za2 znumber zhome zrank zname zops znumbers zlength zcell zfallbackKind zfallbackValue)) (va_Qv (fun u : (Nat → Int64) × (Nat → Int32) × (Nat → Int64) × (Nat → Int32) × Int32 × Int32 × Int32 × Int32 × Int64 => u = f_perform facts stack handleFacts given_values given_givers handleCount height position cell znumber zlength op n_) (fun u t => va_P G vwCl (W_Run cI cL cZ cR cE a0 a1 a2 a3 a4 a5 a6 facts u.1 u.2.1 u.2.2.1 u.2.2.2.1 u.2.2.2.2.1 u.2.2.2.2.2.1 u.2.2.2.2.2.2.1 u.2.2.2.2.2.2.2.1 u.2.2.2.2.2.2.2.2 ++ W_Rul cI cL cZ cR cE za0 za1 za2 znumber zhome zrank zname zops znumbers zlength zcell zfallbackKind zfallbackValue) t.heap ∧ va_K G vwCl (TYS cI cL cZ cR cE) t ∧ va_D (va_A (W_Run cI cL cZ cR cE a0 a1 a2 a3 a4 a5 a6 facts stack handleFacts given_values given_givers handleCount height position fault cell ++ W_Rul cI cL cZ cR cE za0 za1 za2 znumber zhome zrank zname zops znumbers zlength zcell zfallbackKind zfallbackValue) sz) (W_Run cI cL cZ cR cE a0 a1 a2 a3 a4 a5 a6 facts u.1 u.2.1 u.2.2.1 u.2.2.2.1 u.2.2.2.2.1 u.2.2.2.2.2.1 u.2.2.2.2.2.2.1 u.2.2.2.2.2.2.2.1 u.2.2.2.2.2.2.2.2 ++ W_Rul cI cL cZ cR cE za0 za1 za2 znumber zhome zrank zname zops znumbers zlength zcell zfallbackKind zfallbackValue)) (va_A (W_Run cI cL cZ cR cE a0 a1 a2 a3 a4 a5 a6 facts stack handleFacts given_values given_givers handleCount height position fault cell ++ W_Rul cI cL cZ cR cE za0 za1 za2 znumber zhome zrank zname zops znumbers zlength zcell zfallbackKind zfallbackValue) sz)) 0 0 (va_A (W_Run cI cL cZ cR cE a0 a1 a2 a3 a4 a5 a6 facts stack handleFacts given_values given_givers handleCount height position fault cell ++ W_Rul cI cL cZ cR cE za0 za1 za2 znumber zhome zrank zname zops znumbers zlength zcell zfallbackKind zfallbackValue) sz) := by
  refine Met.ofW (cc := b_Rn_perform) (maxL := 10) (ret := none) (by decide) rfl ?_
  intro p e s m args below meth c s₁ B hml hv
  obtain ⟨rfl, hsz, hP, hK, hD0, hN⟩ := hv
  have hx := B.exec
  have hb := B.bytes
  have hr := B.returns
  have hts := atoms_spec (ws := w_Rn_perform) B.pre
  have hown : s.vm.findClass R_Rn = some m.cls := findClass_of_methodNamed B.named
  have hlocks := B.notSynchronized
  subst hsz
  have hD := hD0.self (sz := s.heap.size)
  clear hD0
  generalize hAe : va_A (W_Run cI cL cZ cR cE a0 a1 a2 a3 a4 a5 a6 facts stack handleFacts given_values given_givers handleCount height position fault cell ++ W_Rul cI cL cZ cR cE za0 za1 za2 znumber zhome zrank zname zops znumbers zlength zcell zfallbackKind zfallbackValue) s.heap.size = A at hD ⊢
  have hA : ∀ q : Nat, s.heap.size ≤ q → A q := fun q h => by rw [← hAe]; exact Or.inr h
  clear hAe
  have hS : va_S A s.heap s.heap [] := va_S.rf
  obtain ⟨H, hH⟩ : ∃ H, H = s.heap := ⟨_, rfl⟩
  rw [← hH] at hP
  replace hS : va_S A s.heap H [] := by rw [hH]; exact hS
  rw [← hH]
  clear hH
  have hi_2 : ∀ w ∈ u_ws R_Rn T_Rn 9, w ∈ w_Rn_perform := fun w h => List.mem_cons_of_mem _ (iu_Rn w h)
  have hi_5 : ∀ w ∈ u_ws R_Ru T_Ru 10, w ∈ w_Rn_perform := fun w h => List.mem_cons_of_mem _ (iu_Ru w h)
  have hk_1 := hts (.fieldLink R_Rn 39 "HandlingRules$Runner" "fault" "I") (List.mem_cons_of_mem _ kw_70)
  have hk_10 := hts (.methodLink R_Rn 103 Lib.MathLoose.max_long.x) (List.mem_cons_of_mem _ kw_346)
  have hk_11 := hts (.static Lib.MathLoose.max_long.x) (List.mem_cons_of_mem _ kw_347)
  have hk_12 := hts (.code Lib.MathLoose.max_long.x Lib.MathLoose.max_long.code 4 (some .long)) (List.mem_cons_of_mem _ kw_348)
  have hk_13 := hts (.fieldLink R_Rn 25 "HandlingRules$Runner" "given" "LHandlingRules$Answers;") (List.mem_cons_of_mem _ kw_64)
  have hk_14 := hts (.fieldLink R_Rn 106 "HandlingRules$Rule" "number" "I") (List.mem_cons_of_mem _ kw_189)
  have hk_15 := hts (.fieldLink R_Rn 42 "HandlingRules$Runner" "cell" "J") (List.mem_cons_of_mem _ kw_72)
  have hk_3 := hts (.fieldLink R_Rn 36 "HandlingRules$Runner" "position" "I") (List.mem_cons_of_mem _ kw_69)
  have hk_4 := hts (.fieldLink R_Rn 70 "HandlingRules$Rule" "length" "I") (List.mem_cons_of_mem _ kw_200)
  have hk_6 := hts (.methodLink R_Rn 97 Lib.MathLoose.min_long.x) (List.mem_cons_of_mem _ kw_343)
  have hk_7 := hts (.static Lib.MathLoose.min_long.x) (List.mem_cons_of_mem _ kw_344)
  have hk_8 := hts (.initialized "java/lang/Math") (List.mem_cons_of_mem _ kw_19)
  have hk_9 := hts (.code Lib.MathLoose.min_long.x Lib.MathLoose.min_long.code 4 (some .long)) (List.mem_cons_of_mem _ kw_345)
  have hl := lv_entry ([.ref a0, .ref za0, .int op, .long n_]) (n := 10) (Nat.le_of_ble_eq_true rfl)
  rw [lg_entry_eq]
  generalize (lg_sl ([.ref a0, .ref za0, .int op, .long n_]) ++ List.replicate (10 - (lg_sl ([.ref a0, .ref za0, .int op, .long n_])).length) Slot.unset).toArray = ls at hl ⊢
  replace hl : lv_has ls 10 [(0, .ref a0), (1, .ref za0), (2, .int op), (3, .long n_)] := hl
  generalize hT : f_perform facts stack handleFacts given_values given_givers handleCount height position cell znumber zlength op n_ = T
  refine lv_aload_n hx hb d_Rn_perform_0 rfl (lv_at hl 0 rfl) ?_
  refine lv_aload_n hx hb d_Rn_perform_1 rfl (lv_at hl 0 rfl) ?_
  refine lv_iload_n hx hb d_Rn_perform_2 rfl (lv_at hl 2 rfl) ?_
  refine vp_callSi (W.runV (As := [.int op]) (rest := [.ref a0]) ⟨hx, hb, hml, hown, hts⟩ (c_faultOf l G cI cL cZ cR cE a0 a1 a2 a3 a4 a5 a6 facts stack handleFacts given_values given_givers handleCount height position fault cell op) (cwV 1 hts (gV kw_308 kw_309 kw_310 kw_16 kw_311) rfl rfl rfl (by decide +kernel) ⟨Nat.le_of_ble_eq_true rfl, Nat.le_of_ble_eq_true rfl⟩) (preRV_of (ci := 4) hN hK hP [0, 1, 2, 3, 4, 5, 6] rfl rfl rfl) rfl rfl hl.1 rfl (lv_room (Nat.le_of_ble_eq_true rfl)) d_Rn_perform_3 ⟨Nat.zero_le _, Nat.zero_le _⟩) (fun r_1 hw => ?_)
  subst hw
  refine va_put (D := G) (ci := 4) (v := .int (f_faultOf stack handleCount height op)) (ty := (.int)) (C := R_Rn) (T := T_Rn) (N := 9) hx hb hts hi_2 ty_Rn tyk_Rn nm_Rn hown hK hP hD hS 0 rfl rfl 7 (by decide) hk_1 (fun _ h9 => h9) rfl (by decide +kernel) rfl rfl (Nat.le_of_ble_eq_true rfl) d_Rn_perform_6 (fun H locs hP hD hS => ?_)
  replace hP : va_P G vwCl (W_Run cI cL cZ cR cE a0 a1 a2 a3 a4 a5 a6 facts stack handleFacts given_values given_givers handleCount height position (f_faultOf stack handleCount height op) cell ++ W_Rul cI cL cZ cR cE za0 za1 za2 znumber zhome zrank zname zops znumbers zlength zcell zfallbackKind zfallbackValue) H := hP
  replace hD : va_D A (W_Run cI cL cZ cR cE a0 a1 a2 a3 a4 a5 a6 facts stack handleFacts given_values given_givers handleCount height position (f_faultOf stack handleCount height op) cell ++ W_Rul cI cL cZ cR cE za0 za1 za2 znumber zhome zrank zname zops znumbers zlength zcell zfallbackKind zfallbackValue) := hD
  refine lv_aload_n hx hb d_Rn_perform_9 rfl (lv_at hl 0 rfl) ?_
  refine va_get (D := G) (ci := 4) (v := .int (f_faultOf stack handleCount height op)) (C := R_Rn) (T := T_Rn) (N := 9) hx hb hts hi_2 hown hK hP 0 rfl rfl 7 (by decide) hk_1 (fun _ h9 => h9) rfl d_Rn_perform_10 ?_
  refine lv_if_eq (tgt := 17) hx hb d_Rn_perform_13 (by decide) (fun c_2 => ?_) (fun c_2 => ?_)
  · refine lv_aload_n hx hb d_Rn_perform_17 rfl (lv_at hl 0 rfl) ?_
    refine va_get (D := G) (ci := 4) (v := .int position) (C := R_Rn) (T := T_Rn) (N := 9) hx hb hts hi_2 hown hK hP 0 rfl rfl 6 (by decide) hk_3 (fun _ h9 => h9) rfl d_Rn_perform_18 ?_
    refine lv_istore (lv' := [(5, .int position), (0, .ref a0), (1, .ref za0), (2, .int op), (3, .long n_)]) hx hb d_Rn_perform_21 hl (by decide) rfl (fun ls hl => ?_)
    refine lv_aload_n hx hb d_Rn_perform_23 rfl (lv_at hl 1 rfl) ?_
    refine lv_dup hx hb d_Rn_perform_24 rfl ?_
    refine va_get (D := G) (ci := 4) (v := .int position) (C := R_Rn) (T := T_Rn) (N := 9) hx hb hts hi_2 hown hK hP 0 rfl rfl 6 (by decide) hk_3 (fun _ h9 => h9) rfl d_Rn_perform_25 ?_
    refine lv_iconst (v := 1) hx hb d_Rn_perform_28 (by decide) ?_
    refine lv_iadd hx hb d_Rn_perform_29 ?_
    refine va_put (D := G) (ci := 4) (v := .int (position + 1)) (ty := (.int)) (C := R_Rn) (T := T_Rn) (N := 9) hx hb hts hi_2 ty_Rn tyk_Rn nm_Rn hown hK hP hD hS 0 rfl rfl 6 (by decide) hk_3 (fun _ h9 => h9) rfl (by decide +kernel) rfl rfl (Nat.le_of_ble_eq_true rfl) d_Rn_perform_30 (fun H locs hP hD hS => ?_)
    replace hP : va_P G vwCl (W_Run cI cL cZ cR cE a0 a1 a2 a3 a4 a5 a6 facts stack handleFacts given_values given_givers handleCount height (position + 1) (f_faultOf stack handleCount height op) cell ++ W_Rul cI cL cZ cR cE za0 za1 za2 znumber zhome zrank zname zops znumbers zlength zcell zfallbackKind zfallbackValue) H := hP
    replace hD : va_D A (W_Run cI cL cZ cR cE a0 a1 a2 a3 a4 a5 a6 facts stack handleFacts given_values given_givers handleCount height (position + 1) (f_faultOf stack handleCount height op) cell ++ W_Rul cI cL cZ cR cE za0 za1 za2 znumber zhome zrank zname zops znumbers zlength zcell zfallbackKind zfallbackValue) := hD
    refine lv_iload_n hx hb d_Rn_perform_33 rfl (lv_at hl 3 rfl) ?_
    refine vp_callSi (run_of (va_runSN (As := [.int op]) (rest := []) ⟨hx, hb, hml, hown, hts⟩ (c_takesTwo l G cI cL cZ cR cE  op) ⟨va_cnB 1 hts (gC kw_317) rfl rfl rfl (hN.1 _ nw_1) (hts _ (List.mem_cons_of_mem _ kw_15)) (by decide +kernel) ⟨Nat.le_of_ble_eq_true rfl, Nat.le_of_ble_eq_true rfl⟩, hts _ (List.mem_cons_of_mem _ kw_316), trivial⟩ (preRS_of hN hK hP [] rfl) rfl rfl hl.1 rfl (lv_room (Nat.le_of_ble_eq_true rfl)) d_Rn_perform_34 ⟨Nat.zero_le _, Nat.zero_le _⟩)) (fun r_3 hw => ?_)
    subst hw
    refine lv_if_eq (tgt := 65) hx hb d_Rn_perform_37 (by decide) (fun c_4 => ?_) (fun c_4 => ?_)
    · refine lv_iload_n hx hb d_Rn_perform_65 rfl (lv_at hl 3 rfl) ?_
      by_cases c_5 : op = 0
      · refine sw_t (x := op) (tgt := 144) hx hb d_Rn_perform_66 (by rw [c_5]; decide) ?_
        refine lv_aload_n hx hb d_Rn_perform_144 rfl (lv_at hl 1 rfl) ?_
        refine lv_lload_n hx hb d_Rn_perform_145 rfl (lv_at hl 4 rfl) ?_
        refine cl_v hK hP hD hS hA (va_runV (As := [.long n_]) (rest := []) ⟨hx, hb, hml, hown, hts⟩ (c_push l G cI cL cZ cR cE H.size a0 a1 a2 a3 a4 a5 a6 facts stack handleFacts given_values given_givers handleCount height (position + 1) (f_faultOf stack handleCount height op) cell n_) (cwV 1 hts (gV kw_334 kw_335 kw_336 kw_16 kw_337) rfl rfl rfl (by decide +kernel) ⟨Nat.le_of_ble_eq_true rfl, Nat.le_of_ble_eq_true rfl⟩) (preWV_of (ci := 4) hN hK hP hD [0, 1, 2, 3, 4, 5, 6] (by decide) rfl rfl rfl) rfl rfl hl.1 rfl (lv_room (Nat.le_of_ble_eq_true rfl)) d_Rn_perform_146 ⟨Nat.le_of_ble_eq_true rfl, Nat.le_of_ble_eq_true rfl⟩) [0, 1, 2, 3, 4, 5, 6] [7, 8, 9] rfl rfl (by decide) (by decide) (fun u H locs hw_8 hP hD hS => ?_)
        obtain ⟨x_stack_9, x_height_10⟩ := u
        replace hP : va_P G vwCl (W_Run cI cL cZ cR cE a0 a1 a2 a3 a4 a5 a6 facts x_stack_9 handleFacts given_values given_givers handleCount x_height_10 (position + 1) (f_faultOf stack handleCount height op) cell ++ W_Rul cI cL cZ cR cE za0 za1 za2 znumber zhome zrank zname zops znumbers zlength zcell zfallbackKind zfallbackValue) H := hP.sub [3, 4, 5, 6, 7, 8, 9, 0, 1, 2] rfl
        replace hD : va_D A (W_Run cI cL cZ cR cE a0 a1 a2 a3 a4 a5 a6 facts x_stack_9 handleFacts given_values given_givers handleCount x_height_10 (position + 1) (f_faultOf stack handleCount height op) cell ++ W_Rul cI cL cZ cR cE za0 za1 za2 znumber zhome zrank zname zops znumbers zlength zcell zfallbackKind zfallbackValue) := hD.sub [3, 4, 5, 6, 7, 8, 9, 0, 1, 2] (by decide) rfl
        refine lv_goto (tgt := 301) hx hb d_Rn_perform_149 (by decide) ?_
        exact W.vret hx hb hr (fun t ht hW => ⟨⟨(x_stack_9, handleFacts, given_values, given_givers, handleCount, x_height_10, position + 1, f_faultOf stack handleCount height op, cell), rfl, (by rw [← hT]; simp only [f_perform, if_pos c_2, if_pos c_4, if_pos c_5, ← hw_8]), by rw [ht]; exact hP, va_K.moved hW.alike hK, hD⟩, hS.F ht⟩) hS.2.2 d_Rn_perform_301
      ·
        by_cases c_11 : op = 1
        · refine sw_t (x := op) (tgt := 152) hx hb d_Rn_perform_66 (by rw [c_11]; decide) ?_
          refine lv_aload_n hx hb d_Rn_perform_152 rfl (lv_at hl 1 rfl) ?_
          refine lv_aload_n hx hb d_Rn_perform_153 rfl (lv_at hl 1 rfl) ?_
          refine lv_lload_n hx hb d_Rn_perform_154 rfl (lv_at hl 4 rfl) ?_
          refine vp_callSl (W.runV (As := [.long n_]) (rest := [.ref a0]) ⟨hx, hb, hml, hown, hts⟩ (c_factOf l G cI cL cZ cR cE a0 a1 a2 a3 a4 a5 a6 facts stack handleFacts given_values given_givers handleCount height (position + 1) (f_faultOf stack handleCount height op) cell n_) (cwV 1 hts (gV kw_338 kw_339 kw_340 kw_16 kw_341) rfl rfl rfl (by decide +kernel) ⟨Nat.le_of_ble_eq_true rfl, Nat.le_of_ble_eq_true rfl⟩) (preRV_of (ci := 4) hN hK hP [0, 1, 2, 3, 4, 5, 6] rfl rfl rfl) rfl rfl hl.1 rfl (lv_room (Nat.le_of_ble_eq_true rfl)) d_Rn_perform_155 ⟨Nat.zero_le _, Nat.zero_le _⟩) (fun r_12 hw => ?_)
          subst hw
          refine cl_v hK hP hD hS hA (va_runV (As := [.long (f_factOf facts n_)]) (rest := []) ⟨hx, hb, hml, hown, hts⟩ (c_push l G cI cL cZ cR cE H.size a0 a1 a2 a3 a4 a5 a6 facts stack handleFacts given_values given_givers handleCount height (position + 1) (f_faultOf stack handleCount height op) cell (f_factOf facts n_)) (cwV 1 hts (gV kw_334 kw_335 kw_336 kw_16 kw_337) rfl rfl rfl (by decide +kernel) ⟨Nat.le_of_ble_eq_true rfl, Nat.le_of_ble_eq_true rfl⟩) (preWV_of (ci := 4) hN hK hP hD [0, 1, 2, 3, 4, 5, 6] (by decide) rfl rfl rfl) rfl rfl hl.1 rfl (lv_room (Nat.le_of_ble_eq_true rfl)) d_Rn_perform_158 ⟨Nat.le_of_ble_eq_true rfl, Nat.le_of_ble_eq_true rfl⟩) [0, 1, 2, 3, 4, 5, 6] [7, 8, 9] rfl rfl (by decide) (by decide) (fun u H locs hw_15 hP hD hS => ?_)
          obtain ⟨x_stack_16, x_height_17⟩ := u
          replace hP : va_P G vwCl (W_Run cI cL cZ cR cE a0 a1 a2 a3 a4 a5 a6 facts x_stack_16 handleFacts given_values given_givers handleCount x_height_17 (position + 1) (f_faultOf stack handleCount height op) cell ++ W_Rul cI cL cZ cR cE za0 za1 za2 znumber zhome zrank zname zops znumbers zlength zcell zfallbackKind zfallbackValue) H := hP.sub [3, 4, 5, 6, 7, 8, 9, 0, 1, 2] rfl
          replace hD : va_D A (W_Run cI cL cZ cR cE a0 a1 a2 a3 a4 a5 a6 facts x_stack_16 handleFacts given_values given_givers handleCount x_height_17 (position + 1) (f_faultOf stack handleCount height op) cell ++ W_Rul cI cL cZ cR cE za0 za1 za2 znumber zhome zrank zname zops znumbers zlength zcell zfallbackKind zfallbackValue) := hD.sub [3, 4, 5, 6, 7, 8, 9, 0, 1, 2] (by decide) rfl
          refine lv_goto (tgt := 301) hx hb d_Rn_perform_161 (by decide) ?_
          exact W.vret hx hb hr (fun t ht hW => ⟨⟨(x_stack_16, handleFacts, given_values, given_givers, handleCount, x_height_17, position + 1, f_faultOf stack handleCount height op, cell), rfl, (by rw [← hT]; simp only [f_perform, if_pos c_2, if_pos c_4, if_neg c_5, if_pos c_11, ← hw_15]), by rw [ht]; exact hP, va_K.moved hW.alike hK, hD⟩, hS.F ht⟩) hS.2.2 d_Rn_perform_301
        ·
          by_cases c_18 : op = 8
          · refine sw_t (x := op) (tgt := 164) hx hb d_Rn_perform_66 (by rw [c_18]; decide) ?_
            refine lv_aload_n hx hb d_Rn_perform_164 rfl (lv_at hl 1 rfl) ?_
            refine lv_aload_n hx hb d_Rn_perform_165 rfl (lv_at hl 1 rfl) ?_
            refine cl_l hK hP hD hS hA (va_runV (As := []) (rest := [.ref a0]) ⟨hx, hb, hml, hown, hts⟩ (c_pop l G cI cL cZ cR cE H.size a0 a1 a2 a3 a4 a5 a6 facts stack handleFacts given_values given_givers handleCount height (position + 1) (f_faultOf stack handleCount height op) cell) (cwV 0 hts (gV kw_327 kw_328 kw_329 kw_16 kw_330) rfl rfl rfl (by decide +kernel) ⟨Nat.le_of_ble_eq_true rfl, Nat.le_of_ble_eq_true rfl⟩) (preWV_of (ci := 4) hN hK hP hD [0, 1, 2, 3, 4, 5, 6] (by decide) rfl rfl rfl) rfl rfl hl.1 rfl (lv_room (Nat.le_of_ble_eq_true rfl)) d_Rn_perform_166 ⟨Nat.le_of_ble_eq_true rfl, Nat.le_of_ble_eq_true rfl⟩) [0, 1, 2, 3, 4, 5, 6] [7, 8, 9] rfl rfl (by decide) (by decide) (fun r_20 u H locs hw_21 hP hD hS => ?_)
            obtain ⟨x_height_22, rfl⟩ : ∃ z, z = u := ⟨_, rfl⟩
            replace hP : va_P G vwCl (W_Run cI cL cZ cR cE a0 a1 a2 a3 a4 a5 a6 facts stack handleFacts given_values given_givers handleCount x_height_22 (position + 1) (f_faultOf stack handleCount height op) cell ++ W_Rul cI cL cZ cR cE za0 za1 za2 znumber zhome zrank zname zops znumbers zlength zcell zfallbackKind zfallbackValue) H := hP.sub [3, 4, 5, 6, 7, 8, 9, 0, 1, 2] rfl
            replace hD : va_D A (W_Run cI cL cZ cR cE a0 a1 a2 a3 a4 a5 a6 facts stack handleFacts given_values given_givers handleCount x_height_22 (position + 1) (f_faultOf stack handleCount height op) cell ++ W_Rul cI cL cZ cR cE za0 za1 za2 znumber zhome zrank zname zops znumbers zlength zcell zfallbackKind zfallbackValue) := hD.sub [3, 4, 5, 6, 7, 8, 9, 0, 1, 2] (by decide) rfl
            refine lv_lconst (v := 0) hx hb d_Rn_perform_169 (by decide) ?_
            refine lc_ne (x := r_20) (y := 0) (tgt := 178) hx hb d_Rn_perform_170 d_Rn_perform_171 (by decide) (fun c_23 => ?_) (fun c_23 => ?_)
            · refine lv_lconst (v := 0) hx hb d_Rn_perform_178 (by decide) ?_
              refine cl_v hK hP hD hS hA (va_runV (As := [.long 0]) (rest := []) ⟨hx, hb, hml, hown, hts⟩ (c_push l G cI cL cZ cR cE H.size a0 a1 a2 a3 a4 a5 a6 facts stack handleFacts given_values given_givers handleCount x_height_22 (position + 1) (f_faultOf stack handleCount height op) cell 0) (cwV 1 hts (gV kw_334 kw_335 kw_336 kw_16 kw_337) rfl rfl rfl (by decide +kernel) ⟨Nat.le_of_ble_eq_true rfl, Nat.le_of_ble_eq_true rfl⟩) (preWV_of (ci := 4) hN hK hP hD [0, 1, 2, 3, 4, 5, 6] (by decide) rfl rfl rfl) rfl rfl hl.1 rfl (lv_room (Nat.le_of_ble_eq_true rfl)) d_Rn_perform_179 ⟨Nat.le_of_ble_eq_true rfl, Nat.le_of_ble_eq_true rfl⟩) [0, 1, 2, 3, 4, 5, 6] [7, 8, 9] rfl rfl (by decide) (by decide) (fun u H locs hw_26 hP hD hS => ?_)
              obtain ⟨x_stack_27, x_height_28⟩ := u
              replace hP : va_P G vwCl (W_Run cI cL cZ cR cE a0 a1 a2 a3 a4 a5 a6 facts x_stack_27 handleFacts given_values given_givers handleCount x_height_28 (position + 1) (f_faultOf stack handleCount height op) cell ++ W_Rul cI cL cZ cR cE za0 za1 za2 znumber zhome zrank zname zops znumbers zlength zcell zfallbackKind zfallbackValue) H := hP.sub [3, 4, 5, 6, 7, 8, 9, 0, 1, 2] rfl
              replace hD : va_D A (W_Run cI cL cZ cR cE a0 a1 a2 a3 a4 a5 a6 facts x_stack_27 handleFacts given_values given_givers handleCount x_height_28 (position + 1) (f_faultOf stack handleCount height op) cell ++ W_Rul cI cL cZ cR cE za0 za1 za2 znumber zhome zrank zname zops znumbers zlength zcell zfallbackKind zfallbackValue) := hD.sub [3, 4, 5, 6, 7, 8, 9, 0, 1, 2] (by decide) rfl
              refine lv_goto (tgt := 301) hx hb d_Rn_perform_182 (by decide) ?_
              exact W.vret hx hb hr (fun t ht hW => ⟨⟨(x_stack_27, handleFacts, given_values, given_givers, handleCount, x_height_28, position + 1, f_faultOf stack handleCount height op, cell), rfl, (by rw [← hT]; simp only [f_perform, if_pos c_2, if_pos c_4, if_neg c_5, if_neg c_11, if_pos c_18, ← hw_21, if_neg c_23, ← hw_26]), by rw [ht]; exact hP, va_K.moved hW.alike hK, hD⟩, hS.F ht⟩) hS.2.2 d_Rn_perform_301
            · refine lv_lconst (v := 1) hx hb d_Rn_perform_174 (by decide) ?_
              refine lv_goto (tgt := 179) hx hb d_Rn_perform_175 (by decide) ?_
              refine cl_v hK hP hD hS hA (va_runV (As := [.long 1]) (rest := []) ⟨hx, hb, hml, hown, hts⟩ (c_push l G cI cL cZ cR cE H.size a0 a1 a2 a3 a4 a5 a6 facts stack handleFacts given_values given_givers handleCount x_height_22 (position + 1) (f_faultOf stack handleCount height op) cell 1) (cwV 1 hts (gV kw_334 kw_335 kw_336 kw_16 kw_337) rfl rfl rfl (by decide +kernel) ⟨Nat.le_of_ble_eq_true rfl, Nat.le_of_ble_eq_true rfl⟩) (preWV_of (ci := 4) hN hK hP hD [0, 1, 2, 3, 4, 5, 6] (by decide) rfl rfl rfl) rfl rfl hl.1 rfl (lv_room (Nat.le_of_ble_eq_true rfl)) d_Rn_perform_179 ⟨Nat.le_of_ble_eq_true rfl, Nat.le_of_ble_eq_true rfl⟩) [0, 1, 2, 3, 4, 5, 6] [7, 8, 9] rfl rfl (by decide) (by decide) (fun u H locs hw_31 hP hD hS => ?_)
              obtain ⟨x_stack_32, x_height_33⟩ := u
              replace hP : va_P G vwCl (W_Run cI cL cZ cR cE a0 a1 a2 a3 a4 a5 a6 facts x_stack_32 handleFacts given_values given_givers handleCount x_height_33 (position + 1) (f_faultOf stack handleCount height op) cell ++ W_Rul cI cL cZ cR cE za0 za1 za2 znumber zhome zrank zname zops znumbers zlength zcell zfallbackKind zfallbackValue) H := hP.sub [3, 4, 5, 6, 7, 8, 9, 0, 1, 2] rfl
              replace hD : va_D A (W_Run cI cL cZ cR cE a0 a1 a2 a3 a4 a5 a6 facts x_stack_32 handleFacts given_values given_givers handleCount x_height_33 (position + 1) (f_faultOf stack handleCount height op) cell ++ W_Rul cI cL cZ cR cE za0 za1 za2 znumber zhome zrank zname zops znumbers zlength zcell zfallbackKind zfallbackValue) := hD.sub [3, 4, 5, 6, 7, 8, 9, 0, 1, 2] (by decide) rfl
              refine lv_goto (tgt := 301) hx hb d_Rn_perform_182 (by decide) ?_
              exact W.vret hx hb hr (fun t ht hW => ⟨⟨(x_stack_32, handleFacts, given_values, given_givers, handleCount, x_height_33, position + 1, f_faultOf stack handleCount height op, cell), rfl, (by rw [← hT]; simp only [f_perform, if_pos c_2, if_pos c_4, if_neg c_5, if_neg c_11, if_pos c_18, ← hw_21, if_pos c_23, ← hw_31]), by rw [ht]; exact hP, va_K.moved hW.alike hK, hD⟩, hS.F ht⟩) hS.2.2 d_Rn_perform_301
          ·
            by_cases c_34 : op = 9
            · refine sw_t (x := op) (tgt := 185) hx hb d_Rn_perform_66 (by rw [c_34]; decide) ?_
              refine lv_aload_n hx hb d_Rn_perform_185 rfl (lv_at hl 1 rfl) ?_
              refine cl_l hK hP hD hS hA (va_runV (As := []) (rest := []) ⟨hx, hb, hml, hown, hts⟩ (c_pop l G cI cL cZ cR cE H.size a0 a1 a2 a3 a4 a5 a6 facts stack handleFacts given_values given_givers handleCount height (position + 1) (f_faultOf stack handleCount height op) cell) (cwV 0 hts (gV kw_327 kw_328 kw_329 kw_16 kw_330) rfl rfl rfl (by decide +kernel) ⟨Nat.le_of_ble_eq_true rfl, Nat.le_of_ble_eq_true rfl⟩) (preWV_of (ci := 4) hN hK hP hD [0, 1, 2, 3, 4, 5, 6] (by decide) rfl rfl rfl) rfl rfl hl.1 rfl (lv_room (Nat.le_of_ble_eq_true rfl)) d_Rn_perform_186 ⟨Nat.le_of_ble_eq_true rfl, Nat.le_of_ble_eq_true rfl⟩) [0, 1, 2, 3, 4, 5, 6] [7, 8, 9] rfl rfl (by decide) (by decide) (fun r_36 u H locs hw_37 hP hD hS => ?_)
              obtain ⟨x_height_38, rfl⟩ : ∃ z, z = u := ⟨_, rfl⟩
              replace hP : va_P G vwCl (W_Run cI cL cZ cR cE a0 a1 a2 a3 a4 a5 a6 facts stack handleFacts given_values given_givers handleCount x_height_38 (position + 1) (f_faultOf stack handleCount height op) cell ++ W_Rul cI cL cZ cR cE za0 za1 za2 znumber zhome zrank zname zops znumbers zlength zcell zfallbackKind zfallbackValue) H := hP.sub [3, 4, 5, 6, 7, 8, 9, 0, 1, 2] rfl
              replace hD : va_D A (W_Run cI cL cZ cR cE a0 a1 a2 a3 a4 a5 a6 facts stack handleFacts given_values given_givers handleCount x_height_38 (position + 1) (f_faultOf stack handleCount height op) cell ++ W_Rul cI cL cZ cR cE za0 za1 za2 znumber zhome zrank zname zops znumbers zlength zcell zfallbackKind zfallbackValue) := hD.sub [3, 4, 5, 6, 7, 8, 9, 0, 1, 2] (by decide) rfl
              refine lv_lconst (v := 0) hx hb d_Rn_perform_189 (by decide) ?_
              refine lc_ne (x := r_36) (y := 0) (tgt := 301) hx hb d_Rn_perform_190 d_Rn_perform_191 (by decide) (fun c_39 => ?_) (fun c_39 => ?_)
              · exact W.vret hx hb hr (fun t ht hW => ⟨⟨(stack, handleFacts, given_values, given_givers, handleCount, x_height_38, position + 1, f_faultOf stack handleCount height op, cell), rfl, (by rw [← hT]; simp only [f_perform, if_pos c_2, if_pos c_4, if_neg c_5, if_neg c_11, if_neg c_18, if_pos c_34, ← hw_37, if_neg c_39]), by rw [ht]; exact hP, va_K.moved hW.alike hK, hD⟩, hS.F ht⟩) hS.2.2 d_Rn_perform_301
              · refine lv_aload_n hx hb d_Rn_perform_194 rfl (lv_at hl 1 rfl) ?_
                refine lv_lconst (v := 0) hx hb d_Rn_perform_195 (by decide) ?_
                refine lv_aload_n hx hb d_Rn_perform_196 rfl (lv_at hl 2 rfl) ?_
                refine va_get (D := G) (ci := 3) (v := .int zlength) (C := R_Ru) (T := T_Ru) (N := 10) hx hb hts hi_5 hown hK hP 7 rfl rfl 6 (by decide) hk_4 (fun _ h9 => h9) rfl d_Rn_perform_197 ?_
                refine lv_i2l (v := zlength.toInt64) hx hb d_Rn_perform_200 rfl ?_
                refine lv_iload hx hb d_Rn_perform_201 (lv_at hl 0 rfl) ?_
                refine lv_i2l (v := position.toInt64) hx hb d_Rn_perform_203 rfl ?_
                refine lv_lload_n hx hb d_Rn_perform_204 rfl (lv_at hl 4 rfl) ?_
                refine lv_ladd hx hb d_Rn_perform_205 ?_
                refine va_mmin_long hx hb (hml.trans hl.1.symm) hown hk_6 hk_7 hk_8 hk_9 (Nat.le_of_ble_eq_true rfl) (Nat.le_of_ble_eq_true rfl) (Nat.le_of_ble_eq_true rfl) (Nat.le_of_ble_eq_true rfl) d_Rn_perform_206 ?_
                refine va_mmax_long hx hb (hml.trans hl.1.symm) hown hk_10 hk_11 hk_8 hk_12 (Nat.le_of_ble_eq_true rfl) (Nat.le_of_ble_eq_true rfl) (Nat.le_of_ble_eq_true rfl) (Nat.le_of_ble_eq_true rfl) d_Rn_perform_209 ?_
                refine lv_l2i (v := (if (if (position.toInt64 + n_) < zlength.toInt64 then position.toInt64 + n_ else zlength.toInt64) < 0 then 0 else (if (position.toInt64 + n_) < zlength.toInt64 then position.toInt64 + n_ else zlength.toInt64)).toInt32) hx hb d_Rn_perform_212 rfl ?_
                refine va_put (D := G) (ci := 4) (v := .int ((if (if (position.toInt64 + n_) < zlength.toInt64 then position.toInt64 + n_ else zlength.toInt64) < 0 then 0 else (if (position.toInt64 + n_) < zlength.toInt64 then position.toInt64 + n_ else zlength.toInt64)).toInt32)) (ty := (.int)) (C := R_Rn) (T := T_Rn) (N := 9) hx hb hts hi_2 ty_Rn tyk_Rn nm_Rn hown hK hP hD hS 0 rfl rfl 6 (by decide) hk_3 (fun _ h9 => h9) rfl (by decide +kernel) rfl rfl (Nat.le_of_ble_eq_true rfl) d_Rn_perform_213 (fun H locs hP hD hS => ?_)
                replace hP : va_P G vwCl (W_Run cI cL cZ cR cE a0 a1 a2 a3 a4 a5 a6 facts stack handleFacts given_values given_givers handleCount x_height_38 ((if (if (position.toInt64 + n_) < zlength.toInt64 then position.toInt64 + n_ else zlength.toInt64) < 0 then 0 else (if (position.toInt64 + n_) < zlength.toInt64 then position.toInt64 + n_ else zlength.toInt64)).toInt32) (f_faultOf stack handleCount height op) cell ++ W_Rul cI cL cZ cR cE za0 za1 za2 znumber zhome zrank zname zops znumbers zlength zcell zfallbackKind zfallbackValue) H := hP
                replace hD : va_D A (W_Run cI cL cZ cR cE a0 a1 a2 a3 a4 a5 a6 facts stack handleFacts given_values given_givers handleCount x_height_38 ((if (if (position.toInt64 + n_) < zlength.toInt64 then position.toInt64 + n_ else zlength.toInt64) < 0 then 0 else (if (position.toInt64 + n_) < zlength.toInt64 then position.toInt64 + n_ else zlength.toInt64)).toInt32) (f_faultOf stack handleCount height op) cell ++ W_Rul cI cL cZ cR cE za0 za1 za2 znumber zhome zrank zname zops znumbers zlength zcell zfallbackKind zfallbackValue) := hD
                refine lv_goto (tgt := 301) hx hb d_Rn_perform_216 (by decide) ?_
                exact W.vret hx hb hr (fun t ht hW => ⟨⟨(stack, handleFacts, given_values, given_givers, handleCount, x_height_38, (if (if (position.toInt64 + n_) < zlength.toInt64 then position.toInt64 + n_ else zlength.toInt64) < 0 then 0 else (if (position.toInt64 + n_) < zlength.toInt64 then position.toInt64 + n_ else zlength.toInt64)).toInt32, f_faultOf stack handleCount height op, cell), rfl, (by rw [← hT]; simp only [f_perform, if_pos c_2, if_pos c_4, if_neg c_5, if_neg c_11, if_neg c_18, if_pos c_34, ← hw_37, if_pos c_39]), by rw [ht]; exact hP, va_K.moved hW.alike hK, hD⟩, hS.F ht⟩) hS.2.2 d_Rn_perform_301
            ·
              by_cases c_40 : op = 10
              · refine sw_t (x := op) (tgt := 219) hx hb d_Rn_perform_66 (by rw [c_40]; decide) ?_
                refine lv_aload_n hx hb d_Rn_perform_219 rfl (lv_at hl 1 rfl) ?_
                refine va_get (D := G) (ci := 4) (v := .ref a4) (C := R_Rn) (T := T_Rn) (N := 9) hx hb hts hi_2 hown hK hP 0 rfl rfl 3 (by decide) hk_13 (fun _ h9 => h9) rfl d_Rn_perform_220 ?_
                refine lv_lload_n hx hb d_Rn_perform_223 rfl (lv_at hl 4 rfl) ?_
                refine lv_aload_n hx hb d_Rn_perform_224 rfl (lv_at hl 1 rfl) ?_
                refine cl_l hK hP hD hS hA (va_runV (As := []) (rest := [.long n_, .ref a4]) ⟨hx, hb, hml, hown, hts⟩ (c_pop l G cI cL cZ cR cE H.size a0 a1 a2 a3 a4 a5 a6 facts stack handleFacts given_values given_givers handleCount height (position + 1) (f_faultOf stack handleCount height op) cell) (cwV 0 hts (gV kw_327 kw_328 kw_329 kw_16 kw_330) rfl rfl rfl (by decide +kernel) ⟨Nat.le_of_ble_eq_true rfl, Nat.le_of_ble_eq_true rfl⟩) (preWV_of (ci := 4) hN hK hP hD [0, 1, 2, 3, 4, 5, 6] (by decide) rfl rfl rfl) rfl rfl hl.1 rfl (lv_room (Nat.le_of_ble_eq_true rfl)) d_Rn_perform_225 ⟨Nat.le_of_ble_eq_true rfl, Nat.le_of_ble_eq_true rfl⟩) [0, 1, 2, 3, 4, 5, 6] [7, 8, 9] rfl rfl (by decide) (by decide) (fun r_42 u H locs hw_43 hP hD hS => ?_)
                obtain ⟨x_height_44, rfl⟩ : ∃ z, z = u := ⟨_, rfl⟩
                replace hP : va_P G vwCl (W_Run cI cL cZ cR cE a0 a1 a2 a3 a4 a5 a6 facts stack handleFacts given_values given_givers handleCount x_height_44 (position + 1) (f_faultOf stack handleCount height op) cell ++ W_Rul cI cL cZ cR cE za0 za1 za2 znumber zhome zrank zname zops znumbers zlength zcell zfallbackKind zfallbackValue) H := hP.sub [3, 4, 5, 6, 7, 8, 9, 0, 1, 2] rfl
                replace hD : va_D A (W_Run cI cL cZ cR cE a0 a1 a2 a3 a4 a5 a6 facts stack handleFacts given_values given_givers handleCount x_height_44 (position + 1) (f_faultOf stack handleCount height op) cell ++ W_Rul cI cL cZ cR cE za0 za1 za2 znumber zhome zrank zname zops znumbers zlength zcell zfallbackKind zfallbackValue) := hD.sub [3, 4, 5, 6, 7, 8, 9, 0, 1, 2] (by decide) rfl
                refine lv_aload_n hx hb d_Rn_perform_228 rfl (lv_at hl 2 rfl) ?_
                refine va_get (D := G) (ci := 3) (v := .int znumber) (C := R_Ru) (T := T_Ru) (N := 10) hx hb hts hi_5 hown hK hP 7 rfl rfl 0 (by decide) hk_14 (fun _ h9 => h9) rfl d_Rn_perform_229 ?_
                refine cl_v hK hP hD hS hA (va_runV (As := [.long n_, .long r_42, .int znumber]) (rest := []) ⟨hx, hb, hml, hown, hts⟩ (c_give l G cI cL cZ cR cE H.size a4 a5 a6 given_values given_givers n_ r_42 znumber) (cwV 3 hts (gV kw_349 kw_350 kw_351 kw_17 kw_352) rfl rfl rfl (by decide +kernel) ⟨Nat.le_of_ble_eq_true rfl, Nat.le_of_ble_eq_true rfl⟩) (preWV_of (ci := 0) hN hK hP hD [4, 5, 6] (by decide) rfl rfl rfl) rfl rfl hl.1 rfl (lv_room (Nat.le_of_ble_eq_true rfl)) d_Rn_perform_232 ⟨Nat.le_of_ble_eq_true rfl, Nat.le_of_ble_eq_true rfl⟩) [4, 5, 6] [0, 1, 2, 3, 7, 8, 9] rfl rfl (by decide) (by decide) (fun u H locs hw_47 hP hD hS => ?_)
                obtain ⟨x_values_48, x_givers_49⟩ := u
                replace hP : va_P G vwCl (W_Run cI cL cZ cR cE a0 a1 a2 a3 a4 a5 a6 facts stack handleFacts x_values_48 x_givers_49 handleCount x_height_44 (position + 1) (f_faultOf stack handleCount height op) cell ++ W_Rul cI cL cZ cR cE za0 za1 za2 znumber zhome zrank zname zops znumbers zlength zcell zfallbackKind zfallbackValue) H := hP.sub [0, 1, 2, 3, 7, 8, 9, 4, 5, 6] rfl
                replace hD : va_D A (W_Run cI cL cZ cR cE a0 a1 a2 a3 a4 a5 a6 facts stack handleFacts x_values_48 x_givers_49 handleCount x_height_44 (position + 1) (f_faultOf stack handleCount height op) cell ++ W_Rul cI cL cZ cR cE za0 za1 za2 znumber zhome zrank zname zops znumbers zlength zcell zfallbackKind zfallbackValue) := hD.sub [0, 1, 2, 3, 7, 8, 9, 4, 5, 6] (by decide) rfl
                refine lv_goto (tgt := 301) hx hb d_Rn_perform_235 (by decide) ?_
                exact W.vret hx hb hr (fun t ht hW => ⟨⟨(stack, handleFacts, x_values_48, x_givers_49, handleCount, x_height_44, position + 1, f_faultOf stack handleCount height op, cell), rfl, (by rw [← hT]; simp only [f_perform, if_pos c_2, if_pos c_4, if_neg c_5, if_neg c_11, if_neg c_18, if_neg c_34, if_pos c_40, ← hw_43, ← hw_47]), by rw [ht]; exact hP, va_K.moved hW.alike hK, hD⟩, hS.F ht⟩) hS.2.2 d_Rn_perform_301
              ·
                by_cases c_50 : op = 11
                · refine sw_t (x := op) (tgt := 238) hx hb d_Rn_perform_66 (by rw [c_50]; decide) ?_
                  refine lv_aload_n hx hb d_Rn_perform_238 rfl (lv_at hl 1 rfl) ?_
                  refine lv_dup hx hb d_Rn_perform_239 rfl ?_
                  refine va_get (D := G) (ci := 4) (v := .long cell) (C := R_Rn) (T := T_Rn) (N := 9) hx hb hts hi_2 hown hK hP 0 rfl rfl 8 (by decide) hk_15 (fun _ h9 => h9) rfl d_Rn_perform_240 ?_
                  refine lv_aload_n hx hb d_Rn_perform_243 rfl (lv_at hl 1 rfl) ?_
                  refine cl_l hK hP hD hS hA (va_runV (As := []) (rest := [.long cell, .ref a0]) ⟨hx, hb, hml, hown, hts⟩ (c_pop l G cI cL cZ cR cE H.size a0 a1 a2 a3 a4 a5 a6 facts stack handleFacts given_values given_givers handleCount height (position + 1) (f_faultOf stack handleCount height op) cell) (cwV 0 hts (gV kw_327 kw_328 kw_329 kw_16 kw_330) rfl rfl rfl (by decide +kernel) ⟨Nat.le_of_ble_eq_true rfl, Nat.le_of_ble_eq_true rfl⟩) (preWV_of (ci := 4) hN hK hP hD [0, 1, 2, 3, 4, 5, 6] (by decide) rfl rfl rfl) rfl rfl hl.1 rfl (lv_room (Nat.le_of_ble_eq_true rfl)) d_Rn_perform_244 ⟨Nat.le_of_ble_eq_true rfl, Nat.le_of_ble_eq_true rfl⟩) [0, 1, 2, 3, 4, 5, 6] [7, 8, 9] rfl rfl (by decide) (by decide) (fun r_52 u H locs hw_53 hP hD hS => ?_)
                  obtain ⟨x_height_54, rfl⟩ : ∃ z, z = u := ⟨_, rfl⟩
                  replace hP : va_P G vwCl (W_Run cI cL cZ cR cE a0 a1 a2 a3 a4 a5 a6 facts stack handleFacts given_values given_givers handleCount x_height_54 (position + 1) (f_faultOf stack handleCount height op) cell ++ W_Rul cI cL cZ cR cE za0 za1 za2 znumber zhome zrank zname zops znumbers zlength zcell zfallbackKind zfallbackValue) H := hP.sub [3, 4, 5, 6, 7, 8, 9, 0, 1, 2] rfl
                  replace hD : va_D A (W_Run cI cL cZ cR cE a0 a1 a2 a3 a4 a5 a6 facts stack handleFacts given_values given_givers handleCount x_height_54 (position + 1) (f_faultOf stack handleCount height op) cell ++ W_Rul cI cL cZ cR cE za0 za1 za2 znumber zhome zrank zname zops znumbers zlength zcell zfallbackKind zfallbackValue) := hD.sub [3, 4, 5, 6, 7, 8, 9, 0, 1, 2] (by decide) rfl
                  refine lv_ladd hx hb d_Rn_perform_247 ?_
                  refine va_put (D := G) (ci := 4) (v := .long (cell + r_52)) (ty := (.long)) (C := R_Rn) (T := T_Rn) (N := 9) hx hb hts hi_2 ty_Rn tyk_Rn nm_Rn hown hK hP hD hS 0 rfl rfl 8 (by decide) hk_15 (fun _ h9 => h9) rfl (by decide +kernel) rfl rfl (Nat.le_of_ble_eq_true rfl) d_Rn_perform_248 (fun H locs hP hD hS => ?_)
                  replace hP : va_P G vwCl (W_Run cI cL cZ cR cE a0 a1 a2 a3 a4 a5 a6 facts stack handleFacts given_values given_givers handleCount x_height_54 (position + 1) (f_faultOf stack handleCount height op) (cell + r_52) ++ W_Rul cI cL cZ cR cE za0 za1 za2 znumber zhome zrank zname zops znumbers zlength zcell zfallbackKind zfallbackValue) H := hP
                  replace hD : va_D A (W_Run cI cL cZ cR cE a0 a1 a2 a3 a4 a5 a6 facts stack handleFacts given_values given_givers handleCount x_height_54 (position + 1) (f_faultOf stack handleCount height op) (cell + r_52) ++ W_Rul cI cL cZ cR cE za0 za1 za2 znumber zhome zrank zname zops znumbers zlength zcell zfallbackKind zfallbackValue) := hD
                  refine lv_goto (tgt := 301) hx hb d_Rn_perform_251 (by decide) ?_
                  exact W.vret hx hb hr (fun t ht hW => ⟨⟨(stack, handleFacts, given_values, given_givers, handleCount, x_height_54, position + 1, f_faultOf stack handleCount height op, cell + r_52), rfl, (by rw [← hT]; simp only [f_perform, if_pos c_2, if_pos c_4, if_neg c_5, if_neg c_11, if_neg c_18, if_neg c_34, if_neg c_40, if_pos c_50, ← hw_53]), by rw [ht]; exact hP, va_K.moved hW.alike hK, hD⟩, hS.F ht⟩) hS.2.2 d_Rn_perform_301
                ·
                  by_cases c_55 : op = 12
                  · refine sw_t (x := op) (tgt := 254) hx hb d_Rn_perform_66 (by rw [c_55]; decide) ?_
                    refine lv_aload_n hx hb d_Rn_perform_254 rfl (lv_at hl 1 rfl) ?_
                    refine lv_aload_n hx hb d_Rn_perform_255 rfl (lv_at hl 1 rfl) ?_
                    refine va_get (D := G) (ci := 4) (v := .long cell) (C := R_Rn) (T := T_Rn) (N := 9) hx hb hts hi_2 hown hK hP 0 rfl rfl 8 (by decide) hk_15 (fun _ h9 => h9) rfl d_Rn_perform_256 ?_
                    refine cl_v hK hP hD hS hA (va_runV (As := [.long cell]) (rest := []) ⟨hx, hb, hml, hown, hts⟩ (c_push l G cI cL cZ cR cE H.size a0 a1 a2 a3 a4 a5 a6 facts stack handleFacts given_values given_givers handleCount height (position + 1) (f_faultOf stack handleCount height op) cell cell) (cwV 1 hts (gV kw_334 kw_335 kw_336 kw_16 kw_337) rfl rfl rfl (by decide +kernel) ⟨Nat.le_of_ble_eq_true rfl, Nat.le_of_ble_eq_true rfl⟩) (preWV_of (ci := 4) hN hK hP hD [0, 1, 2, 3, 4, 5, 6] (by decide) rfl rfl rfl) rfl rfl hl.1 rfl (lv_room (Nat.le_of_ble_eq_true rfl)) d_Rn_perform_259 ⟨Nat.le_of_ble_eq_true rfl, Nat.le_of_ble_eq_true rfl⟩) [0, 1, 2, 3, 4, 5, 6] [7, 8, 9] rfl rfl (by decide) (by decide) (fun u H locs hw_58 hP hD hS => ?_)
                    obtain ⟨x_stack_59, x_height_60⟩ := u
                    replace hP : va_P G vwCl (W_Run cI cL cZ cR cE a0 a1 a2 a3 a4 a5 a6 facts x_stack_59 handleFacts given_values given_givers handleCount x_height_60 (position + 1) (f_faultOf stack handleCount height op) cell ++ W_Rul cI cL cZ cR cE za0 za1 za2 znumber zhome zrank zname zops znumbers zlength zcell zfallbackKind zfallbackValue) H := hP.sub [3, 4, 5, 6, 7, 8, 9, 0, 1, 2] rfl
                    replace hD : va_D A (W_Run cI cL cZ cR cE a0 a1 a2 a3 a4 a5 a6 facts x_stack_59 handleFacts given_values given_givers handleCount x_height_60 (position + 1) (f_faultOf stack handleCount height op) cell ++ W_Rul cI cL cZ cR cE za0 za1 za2 znumber zhome zrank zname zops znumbers zlength zcell zfallbackKind zfallbackValue) := hD.sub [3, 4, 5, 6, 7, 8, 9, 0, 1, 2] (by decide) rfl
                    refine lv_goto (tgt := 301) hx hb d_Rn_perform_262 (by decide) ?_
                    exact W.vret hx hb hr (fun t ht hW => ⟨⟨(x_stack_59, handleFacts, given_values, given_givers, handleCount, x_height_60, position + 1, f_faultOf stack handleCount height op, cell), rfl, (by rw [← hT]; simp only [f_perform, if_pos c_2, if_pos c_4, if_neg c_5, if_neg c_11, if_neg c_18, if_neg c_34, if_neg c_40, if_neg c_50, if_pos c_55, ← hw_58]), by rw [ht]; exact hP, va_K.moved hW.alike hK, hD⟩, hS.F ht⟩) hS.2.2 d_Rn_perform_301
                  ·
                    by_cases c_61 : op = 13
                    · refine sw_t (x := op) (tgt := 265) hx hb d_Rn_perform_66 (by rw [c_61]; decide) ?_
                      refine lv_aload_n hx hb d_Rn_perform_265 rfl (lv_at hl 1 rfl) ?_
                      refine lv_aload_n hx hb d_Rn_perform_266 rfl (lv_at hl 1 rfl) ?_
                      refine lv_lload_n hx hb d_Rn_perform_267 rfl (lv_at hl 4 rfl) ?_
                      refine cl_i hK hP hD hS hA (va_runV (As := [.long n_]) (rest := [.ref a0]) ⟨hx, hb, hml, hown, hts⟩ (c_keep l G cI cL cZ cR cE H.size a0 a1 a2 a3 a4 a5 a6 facts stack handleFacts given_values given_givers handleCount height (position + 1) (f_faultOf stack handleCount height op) cell n_) (cwV 1 hts (gV kw_355 kw_356 kw_357 kw_16 kw_358) rfl rfl rfl (by decide +kernel) ⟨Nat.le_of_ble_eq_true rfl, Nat.le_of_ble_eq_true rfl⟩) (preWV_of (ci := 4) hN hK hP hD [0, 1, 2, 3, 4, 5, 6] (by decide) rfl rfl rfl) rfl rfl hl.1 rfl (lv_room (Nat.le_of_ble_eq_true rfl)) d_Rn_perform_268 ⟨Nat.le_of_ble_eq_true rfl, Nat.le_of_ble_eq_true rfl⟩) [0, 1, 2, 3, 4, 5, 6] [7, 8, 9] rfl rfl (by decide) (by decide) (fun r_63 u H locs hw_64 hP hD hS => ?_)
                      obtain ⟨x_handleFacts_65, x_handleCount_66⟩ := u
                      replace hP : va_P G vwCl (W_Run cI cL cZ cR cE a0 a1 a2 a3 a4 a5 a6 facts stack x_handleFacts_65 given_values given_givers x_handleCount_66 height (position + 1) (f_faultOf stack handleCount height op) cell ++ W_Rul cI cL cZ cR cE za0 za1 za2 znumber zhome zrank zname zops znumbers zlength zcell zfallbackKind zfallbackValue) H := hP.sub [3, 4, 5, 6, 7, 8, 9, 0, 1, 2] rfl
                      replace hD : va_D A (W_Run cI cL cZ cR cE a0 a1 a2 a3 a4 a5 a6 facts stack x_handleFacts_65 given_values given_givers x_handleCount_66 height (position + 1) (f_faultOf stack handleCount height op) cell ++ W_Rul cI cL cZ cR cE za0 za1 za2 znumber zhome zrank zname zops znumbers zlength zcell zfallbackKind zfallbackValue) := hD.sub [3, 4, 5, 6, 7, 8, 9, 0, 1, 2] (by decide) rfl
                      refine lv_i2l (v := r_63.toInt64) hx hb d_Rn_perform_271 rfl ?_
                      refine cl_v hK hP hD hS hA (va_runV (As := [.long r_63.toInt64]) (rest := []) ⟨hx, hb, hml, hown, hts⟩ (c_push l G cI cL cZ cR cE H.size a0 a1 a2 a3 a4 a5 a6 facts stack x_handleFacts_65 given_values given_givers x_handleCount_66 height (position + 1) (f_faultOf stack handleCount height op) cell r_63.toInt64) (cwV 1 hts (gV kw_334 kw_335 kw_336 kw_16 kw_337) rfl rfl rfl (by decide +kernel) ⟨Nat.le_of_ble_eq_true rfl, Nat.le_of_ble_eq_true rfl⟩) (preWV_of (ci := 4) hN hK hP hD [0, 1, 2, 3, 4, 5, 6] (by decide) rfl rfl rfl) rfl rfl hl.1 rfl (lv_room (Nat.le_of_ble_eq_true rfl)) d_Rn_perform_272 ⟨Nat.le_of_ble_eq_true rfl, Nat.le_of_ble_eq_true rfl⟩) [0, 1, 2, 3, 4, 5, 6] [7, 8, 9] rfl rfl (by decide) (by decide) (fun u H locs hw_69 hP hD hS => ?_)
                      obtain ⟨x_stack_70, x_height_71⟩ := u
                      replace hP : va_P G vwCl (W_Run cI cL cZ cR cE a0 a1 a2 a3 a4 a5 a6 facts x_stack_70 x_handleFacts_65 given_values given_givers x_handleCount_66 x_height_71 (position + 1) (f_faultOf stack handleCount height op) cell ++ W_Rul cI cL cZ cR cE za0 za1 za2 znumber zhome zrank zname zops znumbers zlength zcell zfallbackKind zfallbackValue) H := hP.sub [3, 4, 5, 6, 7, 8, 9, 0, 1, 2] rfl
                      replace hD : va_D A (W_Run cI cL cZ cR cE a0 a1 a2 a3 a4 a5 a6 facts x_stack_70 x_handleFacts_65 given_values given_givers x_handleCount_66 x_height_71 (position + 1) (f_faultOf stack handleCount height op) cell ++ W_Rul cI cL cZ cR cE za0 za1 za2 znumber zhome zrank zname zops znumbers zlength zcell zfallbackKind zfallbackValue) := hD.sub [3, 4, 5, 6, 7, 8, 9, 0, 1, 2] (by decide) rfl
                      refine lv_goto (tgt := 301) hx hb d_Rn_perform_275 (by decide) ?_
                      exact W.vret hx hb hr (fun t ht hW => ⟨⟨(x_stack_70, x_handleFacts_65, given_values, given_givers, x_handleCount_66, x_height_71, position + 1, f_faultOf stack handleCount height op, cell), rfl, (by rw [← hT]; simp only [f_perform, if_pos c_2, if_pos c_4, if_neg c_5, if_neg c_11, if_neg c_18, if_neg c_34, if_neg c_40, if_neg c_50, if_neg c_55, if_pos c_61, ← hw_64, ← hw_69]), by rw [ht]; exact hP, va_K.moved hW.alike hK, hD⟩, hS.F ht⟩) hS.2.2 d_Rn_perform_301
                    ·
                      by_cases c_72 : op = 14
                      · refine sw_t (x := op) (tgt := 278) hx hb d_Rn_perform_66 (by rw [c_72]; decide) ?_
                        refine lv_aload_n hx hb d_Rn_perform_278 rfl (lv_at hl 1 rfl) ?_
                        refine lv_aload_n hx hb d_Rn_perform_279 rfl (lv_at hl 1 rfl) ?_
                        refine lv_aload_n hx hb d_Rn_perform_280 rfl (lv_at hl 1 rfl) ?_
                        refine cl_l hK hP hD hS hA (va_runV (As := []) (rest := [.ref a0, .ref a0]) ⟨hx, hb, hml, hown, hts⟩ (c_pop l G cI cL cZ cR cE H.size a0 a1 a2 a3 a4 a5 a6 facts stack handleFacts given_values given_givers handleCount height (position + 1) (f_faultOf stack handleCount height op) cell) (cwV 0 hts (gV kw_327 kw_328 kw_329 kw_16 kw_330) rfl rfl rfl (by decide +kernel) ⟨Nat.le_of_ble_eq_true rfl, Nat.le_of_ble_eq_true rfl⟩) (preWV_of (ci := 4) hN hK hP hD [0, 1, 2, 3, 4, 5, 6] (by decide) rfl rfl rfl) rfl rfl hl.1 rfl (lv_room (Nat.le_of_ble_eq_true rfl)) d_Rn_perform_281 ⟨Nat.le_of_ble_eq_true rfl, Nat.le_of_ble_eq_true rfl⟩) [0, 1, 2, 3, 4, 5, 6] [7, 8, 9] rfl rfl (by decide) (by decide) (fun r_74 u H locs hw_75 hP hD hS => ?_)
                        obtain ⟨x_height_76, rfl⟩ : ∃ z, z = u := ⟨_, rfl⟩
                        replace hP : va_P G vwCl (W_Run cI cL cZ cR cE a0 a1 a2 a3 a4 a5 a6 facts stack handleFacts given_values given_givers handleCount x_height_76 (position + 1) (f_faultOf stack handleCount height op) cell ++ W_Rul cI cL cZ cR cE za0 za1 za2 znumber zhome zrank zname zops znumbers zlength zcell zfallbackKind zfallbackValue) H := hP.sub [3, 4, 5, 6, 7, 8, 9, 0, 1, 2] rfl
                        replace hD : va_D A (W_Run cI cL cZ cR cE a0 a1 a2 a3 a4 a5 a6 facts stack handleFacts given_values given_givers handleCount x_height_76 (position + 1) (f_faultOf stack handleCount height op) cell ++ W_Rul cI cL cZ cR cE za0 za1 za2 znumber zhome zrank zname zops znumbers zlength zcell zfallbackKind zfallbackValue) := hD.sub [3, 4, 5, 6, 7, 8, 9, 0, 1, 2] (by decide) rfl
                        refine vp_callSl (W.runV (As := [.long r_74]) (rest := [.ref a0]) ⟨hx, hb, hml, hown, hts⟩ (c_factBehind l G cI cL cZ cR cE a0 a1 a2 a3 a4 a5 a6 facts stack handleFacts given_values given_givers handleCount x_height_76 (position + 1) (f_faultOf stack handleCount height op) cell r_74) (cwV 1 hts (gV kw_359 kw_360 kw_361 kw_16 kw_362) rfl rfl rfl (by decide +kernel) ⟨Nat.le_of_ble_eq_true rfl, Nat.le_of_ble_eq_true rfl⟩) (preRV_of (ci := 4) hN hK hP [0, 1, 2, 3, 4, 5, 6] rfl rfl rfl) rfl rfl hl.1 rfl (lv_room (Nat.le_of_ble_eq_true rfl)) d_Rn_perform_284 ⟨Nat.zero_le _, Nat.zero_le _⟩) (fun r_77 hw => ?_)
                        subst hw
                        refine cl_v hK hP hD hS hA (va_runV (As := [.long (f_factBehind facts handleFacts handleCount r_74)]) (rest := []) ⟨hx, hb, hml, hown, hts⟩ (c_push l G cI cL cZ cR cE H.size a0 a1 a2 a3 a4 a5 a6 facts stack handleFacts given_values given_givers handleCount x_height_76 (position + 1) (f_faultOf stack handleCount height op) cell (f_factBehind facts handleFacts handleCount r_74)) (cwV 1 hts (gV kw_334 kw_335 kw_336 kw_16 kw_337) rfl rfl rfl (by decide +kernel) ⟨Nat.le_of_ble_eq_true rfl, Nat.le_of_ble_eq_true rfl⟩) (preWV_of (ci := 4) hN hK hP hD [0, 1, 2, 3, 4, 5, 6] (by decide) rfl rfl rfl) rfl rfl hl.1 rfl (lv_room (Nat.le_of_ble_eq_true rfl)) d_Rn_perform_287 ⟨Nat.le_of_ble_eq_true rfl, Nat.le_of_ble_eq_true rfl⟩) [0, 1, 2, 3, 4, 5, 6] [7, 8, 9] rfl rfl (by decide) (by decide) (fun u H locs hw_80 hP hD hS => ?_)
                        obtain ⟨x_stack_81, x_height_82⟩ := u
                        replace hP : va_P G vwCl (W_Run cI cL cZ cR cE a0 a1 a2 a3 a4 a5 a6 facts x_stack_81 handleFacts given_values given_givers handleCount x_height_82 (position + 1) (f_faultOf stack handleCount height op) cell ++ W_Rul cI cL cZ cR cE za0 za1 za2 znumber zhome zrank zname zops znumbers zlength zcell zfallbackKind zfallbackValue) H := hP.sub [3, 4, 5, 6, 7, 8, 9, 0, 1, 2] rfl
                        replace hD : va_D A (W_Run cI cL cZ cR cE a0 a1 a2 a3 a4 a5 a6 facts x_stack_81 handleFacts given_values given_givers handleCount x_height_82 (position + 1) (f_faultOf stack handleCount height op) cell ++ W_Rul cI cL cZ cR cE za0 za1 za2 znumber zhome zrank zname zops znumbers zlength zcell zfallbackKind zfallbackValue) := hD.sub [3, 4, 5, 6, 7, 8, 9, 0, 1, 2] (by decide) rfl
                        refine lv_goto (tgt := 301) hx hb d_Rn_perform_290 (by decide) ?_
                        exact W.vret hx hb hr (fun t ht hW => ⟨⟨(x_stack_81, handleFacts, given_values, given_givers, handleCount, x_height_82, position + 1, f_faultOf stack handleCount height op, cell), rfl, (by rw [← hT]; simp only [f_perform, if_pos c_2, if_pos c_4, if_neg c_5, if_neg c_11, if_neg c_18, if_neg c_34, if_neg c_40, if_neg c_50, if_neg c_55, if_neg c_61, if_pos c_72, ← hw_75, ← hw_80]), by rw [ht]; exact hP, va_K.moved hW.alike hK, hD⟩, hS.F ht⟩) hS.2.2 d_Rn_perform_301
                      ·
                        refine sw_t (x := op) (tgt := 293) hx hb d_Rn_perform_66 (sw_d (by decide) [0, 1, 8, 9, 10, 11, 12, 13, 14] (by decide) (List.forall_mem_cons.mpr ⟨sw_ne c_5 rfl, (List.forall_mem_cons.mpr ⟨sw_ne c_11 rfl, (List.forall_mem_cons.mpr ⟨sw_ne c_18 rfl, (List.forall_mem_cons.mpr ⟨sw_ne c_34 rfl, (List.forall_mem_cons.mpr ⟨sw_ne c_40 rfl, (List.forall_mem_cons.mpr ⟨sw_ne c_50 rfl, (List.forall_mem_cons.mpr ⟨sw_ne c_55 rfl, (List.forall_mem_cons.mpr ⟨sw_ne c_61 rfl, (List.forall_mem_cons.mpr ⟨sw_ne c_72 rfl, (fun _ h => nomatch h)⟩)⟩)⟩)⟩)⟩)⟩)⟩)⟩)⟩)) ?_
                        refine lv_aload_n hx hb d_Rn_perform_293 rfl (lv_at hl 1 rfl) ?_
                        refine lv_aload_n hx hb d_Rn_perform_294 rfl (lv_at hl 2 rfl) ?_
                        refine va_get (D := G) (ci := 3) (v := .int zlength) (C := R_Ru) (T := T_Ru) (N := 10) hx hb hts hi_5 hown hK hP 7 rfl rfl 6 (by decide) hk_4 (fun _ h9 => h9) rfl d_Rn_perform_295 ?_
                        refine va_put (D := G) (ci := 4) (v := .int zlength) (ty := (.int)) (C := R_Rn) (T := T_Rn) (N := 9) hx hb hts hi_2 ty_Rn tyk_Rn nm_Rn hown hK hP hD hS 0 rfl rfl 6 (by decide) hk_3 (fun _ h9 => h9) rfl (by decide +kernel) rfl rfl (Nat.le_of_ble_eq_true rfl) d_Rn_perform_298 (fun H locs hP hD hS => ?_)
                        replace hP : va_P G vwCl (W_Run cI cL cZ cR cE a0 a1 a2 a3 a4 a5 a6 facts stack handleFacts given_values given_givers handleCount height zlength (f_faultOf stack handleCount height op) cell ++ W_Rul cI cL cZ cR cE za0 za1 za2 znumber zhome zrank zname zops znumbers zlength zcell zfallbackKind zfallbackValue) H := hP
                        replace hD : va_D A (W_Run cI cL cZ cR cE a0 a1 a2 a3 a4 a5 a6 facts stack handleFacts given_values given_givers handleCount height zlength (f_faultOf stack handleCount height op) cell ++ W_Rul cI cL cZ cR cE za0 za1 za2 znumber zhome zrank zname zops znumbers zlength zcell zfallbackKind zfallbackValue) := hD
                        exact W.vret hx hb hr (fun t ht hW => ⟨⟨(stack, handleFacts, given_values, given_givers, handleCount, height, zlength, f_faultOf stack handleCount height op, cell), rfl, (by rw [← hT]; simp only [f_perform, if_pos c_2, if_pos c_4, if_neg c_5, if_neg c_11, if_neg c_18, if_neg c_34, if_neg c_40, if_neg c_50, if_neg c_55, if_neg c_61, if_neg c_72]), by rw [ht]; exact hP, va_K.moved hW.alike hK, hD⟩, hS.F ht⟩) hS.2.2 d_Rn_perform_301
    · refine lv_aload_n hx hb d_Rn_perform_40 rfl (lv_at hl 1 rfl) ?_
      refine cl_l hK hP hD hS hA (va_runV (As := []) (rest := []) ⟨hx, hb, hml, hown, hts⟩ (c_pop l G cI cL cZ cR cE H.size a0 a1 a2 a3 a4 a5 a6 facts stack handleFacts given_values given_givers handleCount height (position + 1) (f_faultOf stack handleCount height op) cell) (cwV 0 hts (gV kw_327 kw_328 kw_329 kw_16 kw_330) rfl rfl rfl (by decide +kernel) ⟨Nat.le_of_ble_eq_true rfl, Nat.le_of_ble_eq_true rfl⟩) (preWV_of (ci := 4) hN hK hP hD [0, 1, 2, 3, 4, 5, 6] (by decide) rfl rfl rfl) rfl rfl hl.1 rfl (lv_room (Nat.le_of_ble_eq_true rfl)) d_Rn_perform_41 ⟨Nat.le_of_ble_eq_true rfl, Nat.le_of_ble_eq_true rfl⟩) [0, 1, 2, 3, 4, 5, 6] [7, 8, 9] rfl rfl (by decide) (by decide) (fun r_84 u H locs hw_85 hP hD hS => ?_)
      obtain ⟨x_height_86, rfl⟩ : ∃ z, z = u := ⟨_, rfl⟩
      replace hP : va_P G vwCl (W_Run cI cL cZ cR cE a0 a1 a2 a3 a4 a5 a6 facts stack handleFacts given_values given_givers handleCount x_height_86 (position + 1) (f_faultOf stack handleCount height op) cell ++ W_Rul cI cL cZ cR cE za0 za1 za2 znumber zhome zrank zname zops znumbers zlength zcell zfallbackKind zfallbackValue) H := hP.sub [3, 4, 5, 6, 7, 8, 9, 0, 1, 2] rfl
      replace hD : va_D A (W_Run cI cL cZ cR cE a0 a1 a2 a3 a4 a5 a6 facts stack handleFacts given_values given_givers handleCount x_height_86 (position + 1) (f_faultOf stack handleCount height op) cell ++ W_Rul cI cL cZ cR cE za0 za1 za2 znumber zhome zrank zname zops znumbers zlength zcell zfallbackKind zfallbackValue) := hD.sub [3, 4, 5, 6, 7, 8, 9, 0, 1, 2] (by decide) rfl
      refine lv_lstore (lv' := [(6, .long r_84), (5, .int position), (0, .ref a0), (1, .ref za0), (2, .int op), (3, .long n_)]) hx hb d_Rn_perform_44 hl (by decide) rfl (fun ls hl => ?_)
      refine lv_aload_n hx hb d_Rn_perform_46 rfl (lv_at hl 2 rfl) ?_
      refine cl_l hK hP hD hS hA (va_runV (As := []) (rest := []) ⟨hx, hb, hml, hown, hts⟩ (c_pop l G cI cL cZ cR cE H.size a0 a1 a2 a3 a4 a5 a6 facts stack handleFacts given_values given_givers handleCount x_height_86 (position + 1) (f_faultOf stack handleCount height op) cell) (cwV 0 hts (gV kw_327 kw_328 kw_329 kw_16 kw_330) rfl rfl rfl (by decide +kernel) ⟨Nat.le_of_ble_eq_true rfl, Nat.le_of_ble_eq_true rfl⟩) (preWV_of (ci := 4) hN hK hP hD [0, 1, 2, 3, 4, 5, 6] (by decide) rfl rfl rfl) rfl rfl hl.1 rfl (lv_room (Nat.le_of_ble_eq_true rfl)) d_Rn_perform_47 ⟨Nat.le_of_ble_eq_true rfl, Nat.le_of_ble_eq_true rfl⟩) [0, 1, 2, 3, 4, 5, 6] [7, 8, 9] rfl rfl (by decide) (by decide) (fun r_88 u H locs hw_89 hP hD hS => ?_)
      obtain ⟨x_height_90, rfl⟩ : ∃ z, z = u := ⟨_, rfl⟩
      replace hP : va_P G vwCl (W_Run cI cL cZ cR cE a0 a1 a2 a3 a4 a5 a6 facts stack handleFacts given_values given_givers handleCount x_height_90 (position + 1) (f_faultOf stack handleCount height op) cell ++ W_Rul cI cL cZ cR cE za0 za1 za2 znumber zhome zrank zname zops znumbers zlength zcell zfallbackKind zfallbackValue) H := hP.sub [3, 4, 5, 6, 7, 8, 9, 0, 1, 2] rfl
      replace hD : va_D A (W_Run cI cL cZ cR cE a0 a1 a2 a3 a4 a5 a6 facts stack handleFacts given_values given_givers handleCount x_height_90 (position + 1) (f_faultOf stack handleCount height op) cell ++ W_Rul cI cL cZ cR cE za0 za1 za2 znumber zhome zrank zname zops znumbers zlength zcell zfallbackKind zfallbackValue) := hD.sub [3, 4, 5, 6, 7, 8, 9, 0, 1, 2] (by decide) rfl
      refine lv_lstore (lv' := [(8, .long r_88), (6, .long r_84), (5, .int position), (0, .ref a0), (1, .ref za0), (2, .int op), (3, .long n_)]) hx hb d_Rn_perform_50 hl (by decide) rfl (fun ls hl => ?_)
      refine lv_aload_n hx hb d_Rn_perform_52 rfl (lv_at hl 3 rfl) ?_
      refine lv_iload_n hx hb d_Rn_perform_53 rfl (lv_at hl 5 rfl) ?_
      refine lv_lload hx hb d_Rn_perform_54 (lv_at hl 0 rfl) ?_
      refine lv_lload hx hb d_Rn_perform_56 (lv_at hl 1 rfl) ?_
      refine vp_callSl (run_of (va_runSN (As := [.int op, .long r_88, .long r_84]) (rest := [.ref a0]) ⟨hx, hb, hml, hown, hts⟩ (c_combine l G cI cL cZ cR cE  op r_88 r_84) ⟨va_cnB 3 hts (gC kw_333) rfl rfl rfl (hN.1 _ nw_2) (hts _ (List.mem_cons_of_mem _ kw_15)) (by decide +kernel) ⟨Nat.le_of_ble_eq_true rfl, Nat.le_of_ble_eq_true rfl⟩, hts _ (List.mem_cons_of_mem _ kw_332), trivial⟩ (preRS_of hN hK hP [] rfl) rfl rfl hl.1 rfl (lv_room (Nat.le_of_ble_eq_true rfl)) d_Rn_perform_58 ⟨Nat.zero_le _, Nat.zero_le _⟩)) (fun r_91 hw => ?_)
      subst hw
      refine cl_v hK hP hD hS hA (va_runV (As := [.long (f_combine op r_88 r_84)]) (rest := []) ⟨hx, hb, hml, hown, hts⟩ (c_push l G cI cL cZ cR cE H.size a0 a1 a2 a3 a4 a5 a6 facts stack handleFacts given_values given_givers handleCount x_height_90 (position + 1) (f_faultOf stack handleCount height op) cell (f_combine op r_88 r_84)) (cwV 1 hts (gV kw_334 kw_335 kw_336 kw_16 kw_337) rfl rfl rfl (by decide +kernel) ⟨Nat.le_of_ble_eq_true rfl, Nat.le_of_ble_eq_true rfl⟩) (preWV_of (ci := 4) hN hK hP hD [0, 1, 2, 3, 4, 5, 6] (by decide) rfl rfl rfl) rfl rfl hl.1 rfl (lv_room (Nat.le_of_ble_eq_true rfl)) d_Rn_perform_61 ⟨Nat.le_of_ble_eq_true rfl, Nat.le_of_ble_eq_true rfl⟩) [0, 1, 2, 3, 4, 5, 6] [7, 8, 9] rfl rfl (by decide) (by decide) (fun u H locs hw_94 hP hD hS => ?_)
      obtain ⟨x_stack_95, x_height_96⟩ := u
      replace hP : va_P G vwCl (W_Run cI cL cZ cR cE a0 a1 a2 a3 a4 a5 a6 facts x_stack_95 handleFacts given_values given_givers handleCount x_height_96 (position + 1) (f_faultOf stack handleCount height op) cell ++ W_Rul cI cL cZ cR cE za0 za1 za2 znumber zhome zrank zname zops znumbers zlength zcell zfallbackKind zfallbackValue) H := hP.sub [3, 4, 5, 6, 7, 8, 9, 0, 1, 2] rfl
      replace hD : va_D A (W_Run cI cL cZ cR cE a0 a1 a2 a3 a4 a5 a6 facts x_stack_95 handleFacts given_values given_givers handleCount x_height_96 (position + 1) (f_faultOf stack handleCount height op) cell ++ W_Rul cI cL cZ cR cE za0 za1 za2 znumber zhome zrank zname zops znumbers zlength zcell zfallbackKind zfallbackValue) := hD.sub [3, 4, 5, 6, 7, 8, 9, 0, 1, 2] (by decide) rfl
      exact W.vret hx hb hr (fun t ht hW => ⟨⟨(x_stack_95, handleFacts, given_values, given_givers, handleCount, x_height_96, position + 1, f_faultOf stack handleCount height op, cell), rfl, (by rw [← hT]; simp only [f_perform, if_pos c_2, if_neg c_4, ← hw_85, ← hw_89, ← hw_94]), by rw [ht]; exact hP, va_K.moved hW.alike hK, hD⟩, hS.F ht⟩) hS.2.2 d_Rn_perform_64
  · exact W.vret hx hb hr (fun t ht hW => ⟨⟨(stack, handleFacts, given_values, given_givers, handleCount, height, position, f_faultOf stack handleCount height op, cell), rfl, (by rw [← hT]; simp only [f_perform, if_neg c_2]), by rw [ht]; exact hP, va_K.moved hW.alike hK, hD⟩, hS.F ht⟩) hS.2.2 d_Rn_perform_16
end
section
def L_run (facts : Nat → Int64) (znumber : Int32) (zops : Nat → Int32) (znumbers : Nat → Int64) (zlength : Int32) (limit : Int32) : Nat → Int32 → (Nat → Int64) → (Nat → Int32) → (Nat → Int64) → (Nat → Int32) → Int32 → Int32 → Int32 → Int32 → Int64 → Int32 × (Nat → Int64) × (Nat → Int32) × (Nat → Int64) × (Nat → Int32) × Int32 × Int32 × Int32 × Int32 × Int64
  | 0, _, y_stack, y_handleFacts, y_given_values, y_given_givers, y_handleCount, y_height, y_position, y_fault, y_cell => (0, (y_stack, y_handleFacts, y_given_values, y_given_givers, y_handleCount, y_height, y_position, y_fault, y_cell))
  | n + 1, made, y_stack, y_handleFacts, y_given_values, y_given_givers, y_handleCount, y_height, y_position, y_fault, y_cell => if limit ≤ made then (if y_fault = 0 then (if (f_isInside y_position zlength) = 0 then (made, (y_stack, y_handleFacts, y_given_values, y_given_givers, y_handleCount, y_height, y_position, y_fault, y_cell)) else (made, (y_stack, y_handleFacts, y_given_values, y_given_givers, y_handleCount, y_height, y_position, 1, y_cell))) else (made, (y_stack, y_handleFacts, y_given_values, y_given_givers, y_handleCount, y_height, y_position, y_fault, y_cell))) else (if y_fault = 0 then (if (f_isInside y_position zlength) = 0 then (made, (y_stack, y_handleFacts, y_given_values, y_given_givers, y_handleCount, y_height, y_position, y_fault, y_cell)) else (match f_perform facts y_stack y_handleFacts y_given_values y_given_givers y_handleCount y_height y_position y_cell znumber zlength (zops y_position.toNatClampNeg) (znumbers y_position.toNatClampNeg) with | (x_stack_24, x_handleFacts_25, x_given_values_26, x_given_givers_27, x_handleCount_28, x_height_29, x_position_30, x_fault_31, x_cell_32) => (L_run facts znumber zops znumbers zlength limit n (made + 1) x_stack_24 x_handleFacts_25 x_given_values_26 x_given_givers_27 x_handleCount_28 x_height_29 x_position_30 x_fault_31 x_cell_32))) else (made, (y_stack, y_handleFacts, y_given_values, y_given_givers, y_handleCount, y_height, y_position, y_fault, y_cell)))
def f_run (facts : Nat → Int64) (stack : Nat → Int64) (handleFacts : Nat → Int32) (given_values : Nat → Int64) (given_givers : Nat → Int32) (handleCount : Int32) (znumber : Int32) (zops : Nat → Int32) (znumbers : Nat → Int64) (zlength : Int32) (zcell : Int64) (limit : Int32) : Int32 × (Nat → Int64) × (Nat → Int32) × (Nat → Int64) × (Nat → Int32) × Int32 × Int32 × Int32 × Int32 × Int64 := match f_begin given_values given_givers zcell with | (x_given_values_4, x_given_givers_5, x_height_6, x_position_7, x_fault_8, x_cell_9) => (L_run facts znumber zops znumbers zlength limit 101 0 stack handleFacts x_given_values_4 x_given_givers_5 handleCount x_height_6 x_position_7 x_fault_8 x_cell_9)
set_option maxHeartbeats 4000000 in
set_option maxRecDepth 100000 in
theorem c_run (l : Launch) (G : va_G) (cI cL cZ cR cE : ClassId) (sz : Nat) (a0 a1 a2 a3 a4 a5 a6 : Nat) (za0 za1 za2 : Nat) (facts : Nat → Int64) (stack : Nat → Int64) (handleFacts : Nat → Int32) (given_values : Nat → Int64) (given_givers : Nat → Int32) (handleCount : Int32) (height : Int32) (position : Int32) (fault : Int32) (cell : Int64) (znumber : Int32) (zhome : Nat) (zrank : Int32) (zname : Int32) (zops : Nat → Int32) (znumbers : Nat → Int64) (zlength : Int32) (zcell : Int64) (zfallbackKind : Int32) (zfallbackValue : Int64) (limit : Int32) (hlim : limit.toInt ≤ 100) : Met l y_Rn_run w_Rn_run ({ frames := 4, cells := 0, slots := 0, locals := 99 }) (preW G (TYS cI cL cZ cR cE) [.ref a0, .ref za0, .int limit] sz (W_Run cI cL cZ cR cE a0 a1 a2 a3 a4 a5 a6 facts stack handleFacts given_values given_givers handleCount height position fault cell ++ W_Rul cI cL cZ cR cE za0 za1 za2 znumber zhome zrank zname zops znumbers zlength zcell zfallbackKind zfallbackValue)) (va_Qi (fun (r : Int32) (u : (Nat → Int64) × (Nat → Int32) × (Nat → Int64) × (Nat → Int32) × Int32 × Int32 × Int32 × Int32 × Int64) => (r, u) = f_run facts stack handleFacts given_values given_givers handleCount znumber zops znumbers zlength zcell limit) (fun u t => va_P G vwCl (W_Run cI cL cZ cR cE a0 a1 a2 a3 a4 a5 a6 facts u.1 u.2.1 u.2.2.1 u.2.2.2.1 u.2.2.2.2.1 u.2.2.2.2.2.1 u.2.2.2.2.2.2.1 u.2.2.2.2.2.2.2.1 u.2.2.2.2.2.2.2.2 ++ W_Rul cI cL cZ cR cE za0 za1 za2 znumber zhome zrank zname zops znumbers zlength zcell zfallbackKind zfallbackValue) t.heap ∧ va_K G vwCl (TYS cI cL cZ cR cE) t ∧ va_D (va_A (W_Run cI cL cZ cR cE a0 a1 a2 a3 a4 a5 a6 facts stack handleFacts given_values given_givers handleCount height position fault cell ++ W_Rul cI cL cZ cR cE za0 za1 za2 znumber zhome zrank zname zops znumbers zlength zcell zfallbackKind zfallbackValue) sz) (W_Run cI cL cZ cR cE a0 a1 a2 a3 a4 a5 a6 facts u.1 u.2.1 u.2.2.1 u.2.2.2.1 u.2.2.2.2.1 u.2.2.2.2.2.1 u.2.2.2.2.2.2.1 u.2.2.2.2.2.2.2.1 u.2.2.2.2.2.2.2.2 ++ W_Rul cI cL cZ cR cE za0 za1 za2 znumber zhome zrank zname zops znumbers zlength zcell zfallbackKind zfallbackValue)) (va_A (W_Run cI cL cZ cR cE a0 a1 a2 a3 a4 a5 a6 facts stack handleFacts given_values given_givers handleCount height position fault cell ++ W_Rul cI cL cZ cR cE za0 za1 za2 znumber zhome zrank zname zops znumbers zlength zcell zfallbackKind zfallbackValue) sz)) 0 0 (va_A (W_Run cI cL cZ cR cE a0 a1 a2 a3 a4 a5 a6 facts stack handleFacts given_values given_givers handleCount height position fault cell ++ W_Rul cI cL cZ cR cE za0 za1 za2 znumber zhome zrank zname zops znumbers zlength zcell zfallbackKind zfallbackValue) sz) := by
  refine Met.ofW (cc := b_Rn_run) (maxL := 4) (ret := (some .int)) (by decide) rfl ?_
  intro p e s m args below meth c s₁ B hml hv
  obtain ⟨rfl, hsz, hP, hK, hD0, hN⟩ := hv
  have hx := B.exec
  have hb := B.bytes
  have hr := B.returns
  have hts := atoms_spec (ws := w_Rn_run) B.pre
  have hown : s.vm.findClass R_Rn = some m.cls := findClass_of_methodNamed B.named
  have hlocks := B.notSynchronized
  subst hsz
  have hD := hD0.self (sz := s.heap.size)
  clear hD0
  generalize hAe : va_A (W_Run cI cL cZ cR cE a0 a1 a2 a3 a4 a5 a6 facts stack handleFacts given_values given_givers handleCount height position fault cell ++ W_Rul cI cL cZ cR cE za0 za1 za2 znumber zhome zrank zname zops znumbers zlength zcell zfallbackKind zfallbackValue) s.heap.size = A at hD ⊢
  have hA : ∀ q : Nat, s.heap.size ≤ q → A q := fun q h => by rw [← hAe]; exact Or.inr h
  clear hAe
  have hS : va_S A s.heap s.heap [] := va_S.rf
  obtain ⟨H, hH⟩ : ∃ H, H = s.heap := ⟨_, rfl⟩
  rw [← hH] at hP
  replace hS : va_S A s.heap H [] := by rw [hH]; exact hS
  rw [← hH]
  clear hH
  have hi_2 : ∀ w ∈ u_ws R_Rn T_Rn 9, w ∈ w_Rn_run := fun w h => List.mem_cons_of_mem _ (iu_Rn w h)
  have hi_4 : ∀ w ∈ u_ws R_Ru T_Ru 10, w ∈ w_Rn_run := fun w h => List.mem_cons_of_mem _ (iu_Ru w h)
  have hk_1 := hts (.fieldLink R_Rn 39 "HandlingRules$Runner" "fault" "I") (List.mem_cons_of_mem _ kw_70)
  have hk_3 := hts (.fieldLink R_Rn 54 "HandlingRules$Rule" "ops" "[I") (List.mem_cons_of_mem _ kw_195)
  have hk_5 := hts (.fieldLink R_Rn 36 "HandlingRules$Runner" "position" "I") (List.mem_cons_of_mem _ kw_69)
  have hk_6 := hts (.fieldLink R_Rn 59 "HandlingRules$Rule" "numbers" "[J") (List.mem_cons_of_mem _ kw_197)
  have hl := lv_entry ([.ref a0, .ref za0, .int limit]) (n := 4) (Nat.le_of_ble_eq_true rfl)
  rw [lg_entry_eq]
  generalize (lg_sl ([.ref a0, .ref za0, .int limit]) ++ List.replicate (4 - (lg_sl ([.ref a0, .ref za0, .int limit])).length) Slot.unset).toArray = ls at hl ⊢
  replace hl : lv_has ls 4 [(0, .ref a0), (1, .ref za0), (2, .int limit)] := hl
  generalize hT : f_run facts stack handleFacts given_values given_givers handleCount znumber zops znumbers zlength zcell limit = T
  refine lv_aload_n hx hb d_Rn_run_0 rfl (lv_at hl 0 rfl) ?_
  refine lv_aload_n hx hb d_Rn_run_1 rfl (lv_at hl 1 rfl) ?_
  refine cl_v hK hP hD hS hA (va_runV (As := [.ref za0]) (rest := []) ⟨hx, hb, hml, hown, hts⟩ (c_begin l G cI cL cZ cR cE H.size a0 a1 a2 a3 a4 a5 a6 za0 za1 za2 facts stack handleFacts given_values given_givers handleCount height position fault cell znumber zhome zrank zname zops znumbers zlength zcell zfallbackKind zfallbackValue) (cwV 1 hts (gV kw_292 kw_293 kw_294 kw_16 kw_295) rfl rfl rfl (by decide +kernel) ⟨Nat.le_of_ble_eq_true rfl, Nat.le_of_ble_eq_true rfl⟩) (preWV_of (ci := 4) hN hK hP hD [0, 1, 2, 3, 4, 5, 6, 7, 8, 9] (by decide) rfl rfl rfl) rfl rfl hl.1 rfl (lv_room (Nat.le_of_ble_eq_true rfl)) d_Rn_run_2 ⟨Nat.le_of_ble_eq_true rfl, Nat.le_of_ble_eq_true rfl⟩) [0, 1, 2, 3, 4, 5, 6, 7, 8, 9] [] rfl rfl (by decide) (by decide) (fun u H locs hw_3 hP hD hS => ?_)
  obtain ⟨x_given_values_4, x_given_givers_5, x_height_6, x_position_7, x_fault_8, x_cell_9⟩ := u
  replace hP : va_P G vwCl (W_Run cI cL cZ cR cE a0 a1 a2 a3 a4 a5 a6 facts stack handleFacts x_given_values_4 x_given_givers_5 handleCount x_height_6 x_position_7 x_fault_8 x_cell_9 ++ W_Rul cI cL cZ cR cE za0 za1 za2 znumber zhome zrank zname zops znumbers zlength zcell zfallbackKind zfallbackValue) H := hP.sub [0, 1, 2, 3, 4, 5, 6, 7, 8, 9] rfl
  replace hD : va_D A (W_Run cI cL cZ cR cE a0 a1 a2 a3 a4 a5 a6 facts stack handleFacts x_given_values_4 x_given_givers_5 handleCount x_height_6 x_position_7 x_fault_8 x_cell_9 ++ W_Rul cI cL cZ cR cE za0 za1 za2 znumber zhome zrank zname zops znumbers zlength zcell zfallbackKind zfallbackValue) := hD.sub [0, 1, 2, 3, 4, 5, 6, 7, 8, 9] (by decide) rfl
  refine lv_iconst (v := 0) hx hb d_Rn_run_5 (by decide) ?_
  refine lv_istore_n (lv' := [(3, .int 0), (0, .ref a0), (1, .ref za0), (2, .int limit)]) hx hb d_Rn_run_6 rfl hl (by decide) rfl (fun ls hl => ?_)
  obtain ⟨n, hn⟩ : ∃ n : Nat, n = 101 := ⟨_, rfl⟩
  obtain ⟨made, h_made⟩ : ∃ z : Int32, z = 0 := ⟨_, rfl⟩
  obtain ⟨y_stack, h_y_stack⟩ : ∃ z : Nat → Int64, z = stack := ⟨_, rfl⟩
  obtain ⟨y_handleFacts, h_y_handleFacts⟩ : ∃ z : Nat → Int32, z = handleFacts := ⟨_, rfl⟩
  obtain ⟨y_given_values, h_y_given_values⟩ : ∃ z : Nat → Int64, z = x_given_values_4 := ⟨_, rfl⟩
  obtain ⟨y_given_givers, h_y_given_givers⟩ : ∃ z : Nat → Int32, z = x_given_givers_5 := ⟨_, rfl⟩
  obtain ⟨y_handleCount, h_y_handleCount⟩ : ∃ z : Int32, z = handleCount := ⟨_, rfl⟩
  obtain ⟨y_height, h_y_height⟩ : ∃ z : Int32, z = x_height_6 := ⟨_, rfl⟩
  obtain ⟨y_position, h_y_position⟩ : ∃ z : Int32, z = x_position_7 := ⟨_, rfl⟩
  obtain ⟨y_fault, h_y_fault⟩ : ∃ z : Int32, z = x_fault_8 := ⟨_, rfl⟩
  obtain ⟨y_cell, h_y_cell⟩ : ∃ z : Int64, z = x_cell_9 := ⟨_, rfl⟩
  replace hl : lv_has ls 4 [(3, .int made), (0, .ref a0), (1, .ref za0), (2, .int limit)] := by rw [h_made]; exact hl
  replace hP : va_P G vwCl (W_Run cI cL cZ cR cE a0 a1 a2 a3 a4 a5 a6 facts y_stack y_handleFacts y_given_values y_given_givers y_handleCount y_height y_position y_fault y_cell ++ W_Rul cI cL cZ cR cE za0 za1 za2 znumber zhome zrank zname zops znumbers zlength zcell zfallbackKind zfallbackValue) H := by rw [h_y_stack, h_y_handleFacts, h_y_given_values, h_y_given_givers, h_y_handleCount, h_y_height, h_y_position, h_y_fault, h_y_cell]; exact hP
  replace hD : va_D A (W_Run cI cL cZ cR cE a0 a1 a2 a3 a4 a5 a6 facts y_stack y_handleFacts y_given_values y_given_givers y_handleCount y_height y_position y_fault y_cell ++ W_Rul cI cL cZ cR cE za0 za1 za2 znumber zhome zrank zname zops znumbers zlength zcell zfallbackKind zfallbackValue) := by rw [h_y_stack, h_y_handleFacts, h_y_given_values, h_y_given_givers, h_y_handleCount, h_y_height, h_y_position, h_y_fault, h_y_cell]; exact hD
  have hI : 0 ≤ made.toInt ∧ made.toInt ≤ 100 ∧ 101 ≤ made.toInt + (n : Int) := by rw [hn, h_made]; decide
  replace hT : L_run facts znumber zops znumbers zlength limit n made y_stack y_handleFacts y_given_values y_given_givers y_handleCount y_height y_position y_fault y_cell = T := by rw [← hT, hn, h_made, h_y_stack, h_y_handleFacts, h_y_given_values, h_y_given_givers, h_y_handleCount, h_y_height, h_y_position, h_y_fault, h_y_cell]; simp only [f_run, ← hw_3]
  clear hn h_made h_y_stack h_y_handleFacts h_y_given_values h_y_given_givers h_y_handleCount h_y_height h_y_position h_y_fault h_y_cell
  revert hT
  revert hI
  revert hl
  revert hS
  revert hD
  revert hP
  revert y_cell
  revert y_fault
  revert y_position
  revert y_height
  revert y_handleCount
  revert y_given_givers
  revert y_given_values
  revert y_handleFacts
  revert y_stack
  revert made
  revert ls
  skip
  revert locs
  revert H
  induction n with
  | zero =>
    intro H locs ls made y_stack y_handleFacts y_given_values y_given_givers y_handleCount y_height y_position y_fault y_cell hP hD hS hl hI hT
    exact absurd hI (by omega)
  | succ n ih =>
    intro H locs ls made y_stack y_handleFacts y_given_values y_given_givers y_handleCount y_height y_position y_fault y_cell hP hD hS hl hI hT
    refine lv_iload_n hx hb d_Rn_run_7 rfl (lv_at hl 0 rfl) ?_
    refine lv_iload_n hx hb d_Rn_run_8 rfl (lv_at hl 3 rfl) ?_
    refine lv_icmp_ge (tgt := 56) hx hb d_Rn_run_9 (by decide) (fun c_10 => ?_) (fun c_10 => ?_)
    · refine lv_aload_n hx hb d_Rn_run_56 rfl (lv_at hl 1 rfl) ?_
      refine va_get (D := G) (ci := 4) (v := .int y_fault) (C := R_Rn) (T := T_Rn) (N := 9) hx hb hts hi_2 hown hK hP 0 rfl rfl 7 (by decide) hk_1 (fun _ h9 => h9) rfl d_Rn_run_57 ?_
      refine lv_if_ne (tgt := 76) hx hb d_Rn_run_60 (by decide) (fun c_11 => ?_) (fun c_11 => ?_)
      · refine lv_iload_n hx hb d_Rn_run_76 rfl (lv_at hl 0 rfl) ?_
        exact W.iret (v := made) hx hb hr (fun t ht hW => ⟨⟨made, (y_stack, y_handleFacts, y_given_values, y_given_givers, y_handleCount, y_height, y_position, y_fault, y_cell), rfl, (by rw [← hT]; simp only [L_run, if_pos c_10, if_neg c_11]), by rw [ht]; exact hP, va_K.moved hW.alike hK, hD⟩, hS.F ht⟩) hS.2.2 d_Rn_run_77
      · refine lv_aload_n hx hb d_Rn_run_63 rfl (lv_at hl 1 rfl) ?_
        refine lv_aload_n hx hb d_Rn_run_64 rfl (lv_at hl 2 rfl) ?_
        refine vp_callSi (W.runV (As := [.ref za0]) (rest := []) ⟨hx, hb, hml, hown, hts⟩ (c_isInside l G cI cL cZ cR cE a0 a1 a2 a3 a4 a5 a6 za0 za1 za2 facts y_stack y_handleFacts y_given_values y_given_givers y_handleCount y_height y_position y_fault y_cell znumber zhome zrank zname zops znumbers zlength zcell zfallbackKind zfallbackValue) (cwV 1 hts (gV kw_300 kw_301 kw_302 kw_16 kw_303) rfl rfl rfl (by decide +kernel) ⟨Nat.le_of_ble_eq_true rfl, Nat.le_of_ble_eq_true rfl⟩) (preRV_of (ci := 4) hN hK hP [0, 1, 2, 3, 4, 5, 6, 7, 8, 9] rfl rfl rfl) rfl rfl hl.1 rfl (lv_room (Nat.le_of_ble_eq_true rfl)) d_Rn_run_65 ⟨Nat.zero_le _, Nat.zero_le _⟩) (fun r_12 hw => ?_)
        subst hw
        refine lv_if_eq (tgt := 76) hx hb d_Rn_run_68 (by decide) (fun c_13 => ?_) (fun c_13 => ?_)
        · refine lv_iload_n hx hb d_Rn_run_76 rfl (lv_at hl 0 rfl) ?_
          exact W.iret (v := made) hx hb hr (fun t ht hW => ⟨⟨made, (y_stack, y_handleFacts, y_given_values, y_given_givers, y_handleCount, y_height, y_position, y_fault, y_cell), rfl, (by rw [← hT]; simp only [L_run, if_pos c_10, if_pos c_11, if_pos c_13]), by rw [ht]; exact hP, va_K.moved hW.alike hK, hD⟩, hS.F ht⟩) hS.2.2 d_Rn_run_77
        · refine lv_aload_n hx hb d_Rn_run_71 rfl (lv_at hl 1 rfl) ?_
          refine lv_iconst (v := 1) hx hb d_Rn_run_72 (by decide) ?_
          refine va_put (D := G) (ci := 4) (v := .int 1) (ty := (.int)) (C := R_Rn) (T := T_Rn) (N := 9) hx hb hts hi_2 ty_Rn tyk_Rn nm_Rn hown hK hP hD hS 0 rfl rfl 7 (by decide) hk_1 (fun _ h9 => h9) rfl (by decide +kernel) rfl rfl (Nat.le_of_ble_eq_true rfl) d_Rn_run_73 (fun H locs hP hD hS => ?_)
          replace hP : va_P G vwCl (W_Run cI cL cZ cR cE a0 a1 a2 a3 a4 a5 a6 facts y_stack y_handleFacts y_given_values y_given_givers y_handleCount y_height y_position 1 y_cell ++ W_Rul cI cL cZ cR cE za0 za1 za2 znumber zhome zrank zname zops znumbers zlength zcell zfallbackKind zfallbackValue) H := hP
          replace hD : va_D A (W_Run cI cL cZ cR cE a0 a1 a2 a3 a4 a5 a6 facts y_stack y_handleFacts y_given_values y_given_givers y_handleCount y_height y_position 1 y_cell ++ W_Rul cI cL cZ cR cE za0 za1 za2 znumber zhome zrank zname zops znumbers zlength zcell zfallbackKind zfallbackValue) := hD
          refine lv_iload_n hx hb d_Rn_run_76 rfl (lv_at hl 0 rfl) ?_
          exact W.iret (v := made) hx hb hr (fun t ht hW => ⟨⟨made, (y_stack, y_handleFacts, y_given_values, y_given_givers, y_handleCount, y_height, y_position, 1, y_cell), rfl, (by rw [← hT]; simp only [L_run, if_pos c_10, if_pos c_11, if_neg c_13]), by rw [ht]; exact hP, va_K.moved hW.alike hK, hD⟩, hS.F ht⟩) hS.2.2 d_Rn_run_77
    · refine lv_aload_n hx hb d_Rn_run_12 rfl (lv_at hl 1 rfl) ?_
      refine va_get (D := G) (ci := 4) (v := .int y_fault) (C := R_Rn) (T := T_Rn) (N := 9) hx hb hts hi_2 hown hK hP 0 rfl rfl 7 (by decide) hk_1 (fun _ h9 => h9) rfl d_Rn_run_13 ?_
      refine lv_if_ne (tgt := 56) hx hb d_Rn_run_16 (by decide) (fun c_14 => ?_) (fun c_14 => ?_)
      · refine lv_aload_n hx hb d_Rn_run_56 rfl (lv_at hl 1 rfl) ?_
        refine va_get (D := G) (ci := 4) (v := .int y_fault) (C := R_Rn) (T := T_Rn) (N := 9) hx hb hts hi_2 hown hK hP 0 rfl rfl 7 (by decide) hk_1 (fun _ h9 => h9) rfl d_Rn_run_57 ?_
        refine lv_if_ne (tgt := 76) hx hb d_Rn_run_60 (by decide) (fun _ => ?_) (fun k_15 => absurd k_15 c_14)
        refine lv_iload_n hx hb d_Rn_run_76 rfl (lv_at hl 0 rfl) ?_
        exact W.iret (v := made) hx hb hr (fun t ht hW => ⟨⟨made, (y_stack, y_handleFacts, y_given_values, y_given_givers, y_handleCount, y_height, y_position, y_fault, y_cell), rfl, (by rw [← hT]; simp only [L_run, if_neg c_10, if_neg c_14]), by rw [ht]; exact hP, va_K.moved hW.alike hK, hD⟩, hS.F ht⟩) hS.2.2 d_Rn_run_77
      · refine lv_aload_n hx hb d_Rn_run_19 rfl (lv_at hl 1 rfl) ?_
        refine lv_aload_n hx hb d_Rn_run_20 rfl (lv_at hl 2 rfl) ?_
        refine vp_callSi (W.runV (As := [.ref za0]) (rest := []) ⟨hx, hb, hml, hown, hts⟩ (c_isInside l G cI cL cZ cR cE a0 a1 a2 a3 a4 a5 a6 za0 za1 za2 facts y_stack y_handleFacts y_given_values y_given_givers y_handleCount y_height y_position y_fault y_cell znumber zhome zrank zname zops znumbers zlength zcell zfallbackKind zfallbackValue) (cwV 1 hts (gV kw_300 kw_301 kw_302 kw_16 kw_303) rfl rfl rfl (by decide +kernel) ⟨Nat.le_of_ble_eq_true rfl, Nat.le_of_ble_eq_true rfl⟩) (preRV_of (ci := 4) hN hK hP [0, 1, 2, 3, 4, 5, 6, 7, 8, 9] rfl rfl rfl) rfl rfl hl.1 rfl (lv_room (Nat.le_of_ble_eq_true rfl)) d_Rn_run_21 ⟨Nat.zero_le _, Nat.zero_le _⟩) (fun r_16 hw => ?_)
        subst hw
        refine lv_if_eq (tgt := 56) hx hb d_Rn_run_24 (by decide) (fun c_17 => ?_) (fun c_17 => ?_)
        · refine lv_aload_n hx hb d_Rn_run_56 rfl (lv_at hl 1 rfl) ?_
          refine va_get (D := G) (ci := 4) (v := .int y_fault) (C := R_Rn) (T := T_Rn) (N := 9) hx hb hts hi_2 hown hK hP 0 rfl rfl 7 (by decide) hk_1 (fun _ h9 => h9) rfl d_Rn_run_57 ?_
          refine lv_if_ne (tgt := 76) hx hb d_Rn_run_60 (by decide) (fun k_18 => absurd c_14 k_18) (fun _ => ?_)
          refine lv_aload_n hx hb d_Rn_run_63 rfl (lv_at hl 1 rfl) ?_
          refine lv_aload_n hx hb d_Rn_run_64 rfl (lv_at hl 2 rfl) ?_
          refine vp_callSi (W.runV (As := [.ref za0]) (rest := []) ⟨hx, hb, hml, hown, hts⟩ (c_isInside l G cI cL cZ cR cE a0 a1 a2 a3 a4 a5 a6 za0 za1 za2 facts y_stack y_handleFacts y_given_values y_given_givers y_handleCount y_height y_position y_fault y_cell znumber zhome zrank zname zops znumbers zlength zcell zfallbackKind zfallbackValue) (cwV 1 hts (gV kw_300 kw_301 kw_302 kw_16 kw_303) rfl rfl rfl (by decide +kernel) ⟨Nat.le_of_ble_eq_true rfl, Nat.le_of_ble_eq_true rfl⟩) (preRV_of (ci := 4) hN hK hP [0, 1, 2, 3, 4, 5, 6, 7, 8, 9] rfl rfl rfl) rfl rfl hl.1 rfl (lv_room (Nat.le_of_ble_eq_true rfl)) d_Rn_run_65 ⟨Nat.zero_le _, Nat.zero_le _⟩) (fun r_19 hw => ?_)
          subst hw
          refine lv_if_eq (tgt := 76) hx hb d_Rn_run_68 (by decide) (fun _ => ?_) (fun k_20 => absurd c_17 k_20)
          refine lv_iload_n hx hb d_Rn_run_76 rfl (lv_at hl 0 rfl) ?_
          exact W.iret (v := made) hx hb hr (fun t ht hW => ⟨⟨made, (y_stack, y_handleFacts, y_given_values, y_given_givers, y_handleCount, y_height, y_position, y_fault, y_cell), rfl, (by rw [← hT]; simp only [L_run, if_neg c_10, if_pos c_14, if_pos c_17]), by rw [ht]; exact hP, va_K.moved hW.alike hK, hD⟩, hS.F ht⟩) hS.2.2 d_Rn_run_77
        · refine lv_aload_n hx hb d_Rn_run_27 rfl (lv_at hl 1 rfl) ?_
          refine lv_aload_n hx hb d_Rn_run_28 rfl (lv_at hl 2 rfl) ?_
          refine lv_aload_n hx hb d_Rn_run_29 rfl (lv_at hl 2 rfl) ?_
          refine va_get (D := G) (ci := 3) (v := .ref za1) (C := R_Ru) (T := T_Ru) (N := 10) hx hb hts hi_4 hown hK hP 7 rfl rfl 4 (by decide) hk_3 (fun _ h9 => h9) rfl d_Rn_run_30 ?_
          refine lv_aload_n hx hb d_Rn_run_33 rfl (lv_at hl 1 rfl) ?_
          refine va_get (D := G) (ci := 4) (v := .int y_position) (C := R_Rn) (T := T_Rn) (N := 9) hx hb hts hi_2 hown hK hP 0 rfl rfl 6 (by decide) hk_5 (fun _ h9 => h9) rfl d_Rn_run_34 ?_
          refine va_iald hx hb hK hP 8 0 rfl rfl (ix_inside c_17) d_Rn_run_37 ?_
          refine lv_aload_n hx hb d_Rn_run_38 rfl (lv_at hl 2 rfl) ?_
          refine va_get (D := G) (ci := 3) (v := .ref za2) (C := R_Ru) (T := T_Ru) (N := 10) hx hb hts hi_4 hown hK hP 7 rfl rfl 5 (by decide) hk_6 (fun _ h9 => h9) rfl d_Rn_run_39 ?_
          refine lv_aload_n hx hb d_Rn_run_42 rfl (lv_at hl 1 rfl) ?_
          refine va_get (D := G) (ci := 4) (v := .int y_position) (C := R_Rn) (T := T_Rn) (N := 9) hx hb hts hi_2 hown hK hP 0 rfl rfl 6 (by decide) hk_5 (fun _ h9 => h9) rfl d_Rn_run_43 ?_
          refine va_lald hx hb hK hP 9 1 rfl rfl (ix_inside c_17) d_Rn_run_46 ?_
          refine cl_v hK hP hD hS hA (va_runV (As := [.ref za0, .int (zops y_position.toNatClampNeg), .long (znumbers y_position.toNatClampNeg)]) (rest := []) ⟨hx, hb, hml, hown, hts⟩ (c_perform l G cI cL cZ cR cE H.size a0 a1 a2 a3 a4 a5 a6 za0 za1 za2 facts y_stack y_handleFacts y_given_values y_given_givers y_handleCount y_height y_position y_fault y_cell znumber zhome zrank zname zops znumbers zlength zcell zfallbackKind zfallbackValue (zops y_position.toNatClampNeg) (znumbers y_position.toNatClampNeg)) (cwV 3 hts (gV kw_304 kw_305 kw_306 kw_16 kw_307) rfl rfl rfl (by decide +kernel) ⟨Nat.le_of_ble_eq_true rfl, Nat.le_of_ble_eq_true rfl⟩) (preWV_of (ci := 4) hN hK hP hD [0, 1, 2, 3, 4, 5, 6, 7, 8, 9] (by decide) rfl rfl rfl) rfl rfl hl.1 rfl (lv_room (Nat.le_of_ble_eq_true rfl)) d_Rn_run_47 ⟨Nat.le_of_ble_eq_true rfl, Nat.le_of_ble_eq_true rfl⟩) [0, 1, 2, 3, 4, 5, 6, 7, 8, 9] [] rfl rfl (by decide) (by decide) (fun u H locs hw_23 hP hD hS => ?_)
          obtain ⟨x_stack_24, x_handleFacts_25, x_given_values_26, x_given_givers_27, x_handleCount_28, x_height_29, x_position_30, x_fault_31, x_cell_32⟩ := u
          replace hP : va_P G vwCl (W_Run cI cL cZ cR cE a0 a1 a2 a3 a4 a5 a6 facts x_stack_24 x_handleFacts_25 x_given_values_26 x_given_givers_27 x_handleCount_28 x_height_29 x_position_30 x_fault_31 x_cell_32 ++ W_Rul cI cL cZ cR cE za0 za1 za2 znumber zhome zrank zname zops znumbers zlength zcell zfallbackKind zfallbackValue) H := hP.sub [0, 1, 2, 3, 4, 5, 6, 7, 8, 9] rfl
          replace hD : va_D A (W_Run cI cL cZ cR cE a0 a1 a2 a3 a4 a5 a6 facts x_stack_24 x_handleFacts_25 x_given_values_26 x_given_givers_27 x_handleCount_28 x_height_29 x_position_30 x_fault_31 x_cell_32 ++ W_Rul cI cL cZ cR cE za0 za1 za2 znumber zhome zrank zname zops znumbers zlength zcell zfallbackKind zfallbackValue) := hD.sub [0, 1, 2, 3, 4, 5, 6, 7, 8, 9] (by decide) rfl
          refine lv_iinc (v := made + 1) (lv' := [(3, .int (made + 1)), (0, .ref a0), (1, .ref za0), (2, .int limit)]) hx hb d_Rn_run_50 hl (k := 0) rfl rfl (by decide) rfl (fun ls hl => ?_)
          refine lv_goto (tgt := 7) hx hb d_Rn_run_53 (by decide) ?_
          exact ih H _ ls (made + 1) x_stack_24 x_handleFacts_25 x_given_values_26 x_given_givers_27 x_handleCount_28 x_height_29 x_position_30 x_fault_31 x_cell_32 hP hD hS (lv_sub hl [0, 1, 2, 3] rfl) (by exact i_step_le hlim hI (by assumption)) (by rw [← hT]; simp only [L_run, if_neg c_10, if_pos c_14, if_neg c_17, ← hw_23])
end
section
abbrev W_Mod (cI cL cZ cR cE : ClassId) (a0 a1 a2 a3 a4 a5 a6 a7 a8 a9 a10 a11 a12 a13 a14 a15 a16 a17 a18 a19 a20 a21 a22 : Nat) (c_thrown : Int32) (c_most : Int32) (c_rules : Int32) (c_editions : Nat → Int32) (c_orders : Nat → Int32) (c_sizes : Nat → Int32) (c_ops : Nat → Int32) (c_numbers : Nat → Int64) (c_cells : Nat → Int64) (c_hasFallback : Nat → Int32) (c_fallbackKinds : Nat → Int32) (c_fallbacks : Nat → Int64) (c_facts : Nat → Int64) (c_states : Nat → Int32) (c_counts : Nat → Int32) (c_days : Nat → Int32) (c_toldAt : Nat → Int32) (c_tells : Int32) (c_handles : Int32) (c_handleFacts : Nat → Int32) (c_failures : Int32) (c_failedRule : Nat → Int32) (c_failedHow : Nat → Int32) (c_answers : Nat → Int64) (c_givers : Nat → Int32) (c_stack : Nat → Int64) (c_high : Int32) (c_steps : Int32) (c_how : Int32) (c_cellNow : Int64) (c_own : Nat → Int64) (c_has : Nat → Int32) : va_W := [(a0, .inr (6, [.int c_thrown, .int c_most, .int c_rules, .ref a1, .ref a2, .ref a3, .ref a4, .ref a5, .ref a6, .ref a7, .ref a8, .ref a9, .ref a10, .ref a11, .ref a12, .ref a13, .ref a14, .int c_tells, .int c_handles, .ref a15, .int c_failures, .ref a16, .ref a17, .ref a18, .ref a19, .ref a20, .int c_high, .int c_steps, .int c_how, .long c_cellNow, .ref a21, .ref a22])), (a1, .inl (cI, 40, .inl c_editions)), (a2, .inl (cI, 40, .inl c_orders)), (a3, .inl (cI, 40, .inl c_sizes)), (a4, .inl (cI, 480, .inl c_ops)), (a5, .inl (cL, 480, .inr (.inl c_numbers))), (a6, .inl (cL, 40, .inr (.inl c_cells))), (a7, .inl (cZ, 40, .inl c_hasFallback)), (a8, .inl (cI, 40, .inl c_fallbackKinds)), (a9, .inl (cL, 40, .inr (.inl c_fallbacks))), (a10, .inl (cL, 8, .inr (.inl c_facts))), (a11, .inl (cI, 6, .inl c_states)), (a12, .inl (cI, 6, .inl c_counts)), (a13, .inl (cI, 6, .inl c_days)), (a14, .inl (cI, 6, .inl c_toldAt)), (a15, .inl (cI, 16, .inl c_handleFacts)), (a16, .inl (cI, 8, .inl c_failedRule)), (a17, .inl (cI, 8, .inl c_failedHow)), (a18, .inl (cL, 4, .inr (.inl c_answers))), (a19, .inl (cI, 4, .inl c_givers)), (a20, .inl (cL, 8, .inr (.inl c_stack))), (a21, .inl (cL, 4, .inr (.inl c_own))), (a22, .inl (cZ, 4, .inl c_has))]
end
section
def f_mwithin (v : Int64) (lo : Int64) (hi : Int64) : Int32 := if v < lo then 0 else (if hi < v then 0 else 1)
set_option maxHeartbeats 4000000 in
set_option maxRecDepth 100000 in
theorem c_mwithin (l : Launch) (G : va_G) (cI cL cZ cR cE : ClassId)  (v : Int64) (lo : Int64) (hi : Int64) : Met l y_Mo_within w_Mo_within ({ frames := 0, cells := 0, slots := 0, locals := 0 }) (preR G (TYS cI cL cZ cR cE) [.long v, .long lo, .long hi] (([] : va_W))) (vp_Si (fun r => r = f_mwithin v lo hi)) 0 0 (fun _ => False) := by
  refine Met.ofW (cc := b_Mo_within) (maxL := 6) (ret := (some .boolean)) (by decide) rfl ?_
  intro p e s m args below meth c s₁ B hml hv
  obtain ⟨rfl, hP, hK, hN⟩ := hv
  have hx := B.exec
  have hb := B.bytes
  have hr := B.returns
  have hts := atoms_spec (ws := w_Mo_within) B.pre
  have hown : s.vm.findClass R_Mo = some m.cls := findClass_of_methodNamed B.named
  have hlocks := B.notSynchronized
  obtain ⟨H, hH⟩ : ∃ H, H = s.heap := ⟨_, rfl⟩
  rw [← hH] at hP
  rw [← hH]
  have hl := lv_entry ([.long v, .long lo, .long hi]) (n := 6) (Nat.le_of_ble_eq_true rfl)
  rw [lg_entry_eq]
  generalize (lg_sl ([.long v, .long lo, .long hi]) ++ List.replicate (6 - (lg_sl ([.long v, .long lo, .long hi])).length) Slot.unset).toArray = ls at hl ⊢
  replace hl : lv_has ls 6 [(0, .long v), (2, .long lo), (4, .long hi)] := hl
  generalize hT : f_mwithin v lo hi = T
  refine lv_lload_n hx hb d_Mo_within_0 rfl (lv_at hl 0 rfl) ?_
  refine lv_lload_n hx hb d_Mo_within_1 rfl (lv_at hl 1 rfl) ?_
  refine lc_lt (x := v) (y := lo) (tgt := 17) hx hb d_Mo_within_2 d_Mo_within_3 (by decide) (fun c_1 => ?_) (fun c_1 => ?_)
  · refine lv_iconst (v := 0) hx hb d_Mo_within_17 (by decide) ?_
    exact W.zret (v := 0) hx hb hr rfl (fun t ht hW => ⟨0, rfl, (by rw [← hT]; simp only [f_mwithin, if_pos c_1]), by rw [ht, hH]⟩) (fun _ h => by cases h) d_Mo_within_18
  · refine lv_lload_n hx hb d_Mo_within_6 rfl (lv_at hl 0 rfl) ?_
    refine lv_lload hx hb d_Mo_within_7 (lv_at hl 2 rfl) ?_
    refine lc_gt (x := v) (y := hi) (tgt := 17) hx hb d_Mo_within_9 d_Mo_within_10 (by decide) (fun c_2 => ?_) (fun c_2 => ?_)
    · refine lv_iconst (v := 0) hx hb d_Mo_within_17 (by decide) ?_
      exact W.zret (v := 0) hx hb hr rfl (fun t ht hW => ⟨0, rfl, (by rw [← hT]; simp only [f_mwithin, if_neg c_1, if_pos c_2]), by rw [ht, hH]⟩) (fun _ h => by cases h) d_Mo_within_18
    · refine lv_iconst (v := 1) hx hb d_Mo_within_13 (by decide) ?_
      refine lv_goto (tgt := 18) hx hb d_Mo_within_14 (by decide) ?_
      exact W.zret (v := 1) hx hb hr rfl (fun t ht hW => ⟨1, rfl, (by rw [← hT]; simp only [f_mwithin, if_neg c_1, if_neg c_2]), by rw [ht, hH]⟩) (fun _ h => by cases h) d_Mo_within_18
theorem f_mwithin_01 (v lo hi : Int64) : f_mwithin v lo hi = 0 ∨ f_mwithin v lo hi = 1 := by
  unfold f_mwithin
  split
  · exact Or.inl rfl
  · split
    · exact Or.inl rfl
    · exact Or.inr rfl
theorem mwithin_eq (v lo hi : Int64) : f_mwithin v lo hi = f_isWithin v lo hi := rfl
theorem f_mwithin_iff (v lo hi : Int64) : ¬ f_mwithin v lo hi = 0 ↔ lo.toInt ≤ v.toInt ∧ v.toInt ≤ hi.toInt := f_isWithin_iff v lo hi
theorem ix_mw {k : Int32} {b : Int64} {n : Nat} (h : ¬ f_mwithin k.toInt64 0 b = 0) (hb : b.toInt + 1 = (n : Int)) (hn : n ≤ 2147483648) : vp_in k n := by
  obtain ⟨h1, h2⟩ := (f_mwithin_iff _ _ _).mp h
  have h0 : (0 : Int64).toInt = 0 := rfl
  rw [Int32.toInt_toInt64] at h1 h2
  rw [vp_in_iff]
  omega
theorem ix_le {x b : Int32} {n : Nat} (h : 0 ≤ x.toInt ∧ x.toInt ≤ (n : Int)) (h2 : ¬ x = b) (hb : b.toInt = (n : Int)) : vp_in x n := by
  rw [vp_in_iff]
  have h3 : x.toInt ≠ b.toInt := fun q => h2 (Int32.toInt_inj.mp q)
  omega
def f_misEdition (ed : Int32) : Int32 := f_mwithin ed.toInt64 0 5
set_option maxHeartbeats 4000000 in
set_option maxRecDepth 100000 in
theorem c_misEdition (l : Launch) (G : va_G) (cI cL cZ cR cE : ClassId)  (ed : Int32) : Met l y_Mo_isEdition w_Mo_isEdition ({ frames := 1, cells := 0, slots := 0, locals := 25 }) (preR G (TYS cI cL cZ cR cE) [.int ed] (([] : va_W))) (vp_Si (fun r => r = f_misEdition ed)) 0 0 (fun _ => False) := by
  refine Met.ofW (cc := b_Mo_isEdition) (maxL := 1) (ret := (some .boolean)) (by decide) rfl ?_
  intro p e s m args below meth c s₁ B hml hv
  obtain ⟨rfl, hP, hK, hN⟩ := hv
  have hx := B.exec
  have hb := B.bytes
  have hr := B.returns
  have hts := atoms_spec (ws := w_Mo_isEdition) B.pre
  have hown : s.vm.findClass R_Mo = some m.cls := findClass_of_methodNamed B.named
  have hlocks := B.notSynchronized
  obtain ⟨H, hH⟩ : ∃ H, H = s.heap := ⟨_, rfl⟩
  rw [← hH] at hP
  rw [← hH]
  have hk_1 := hts (.constantLong R_Mo 92 5) (List.mem_cons_of_mem _ kw_674)
  have hl := lv_entry ([.int ed]) (n := 1) (Nat.le_of_ble_eq_true rfl)
  rw [lg_entry_eq]
  generalize (lg_sl ([.int ed]) ++ List.replicate (1 - (lg_sl ([.int ed])).length) Slot.unset).toArray = ls at hl ⊢
  replace hl : lv_has ls 1 [(0, .int ed)] := hl
  generalize hT : f_misEdition ed = T
  refine lv_iload_n hx hb d_Mo_isEdition_0 rfl (lv_at hl 0 rfl) ?_
  refine lv_i2l (v := ed.toInt64) hx hb d_Mo_isEdition_1 rfl ?_
  refine lv_lconst (v := 0) hx hb d_Mo_isEdition_2 (by decide) ?_
  refine lv_ldc2 (v := 5) hx hb hown hk_1 d_Mo_isEdition_3 ?_
  refine vp_callSi (W.runS (As := [.long ed.toInt64, .long 0, .long 5]) (rest := []) ⟨hx, hb, hml, hown, hts⟩ (c_mwithin l G cI cL cZ cR cE  ed.toInt64 0 5) (va_cwS 3 hts (gS kw_675 kw_676 kw_21 kw_677) rfl rfl rfl (by decide +kernel) ⟨Nat.le_of_ble_eq_true rfl, Nat.le_of_ble_eq_true rfl⟩) (preRS_of hN hK hP [] rfl) rfl rfl hl.1 rfl (lv_room (Nat.le_of_ble_eq_true rfl)) d_Mo_isEdition_6 ⟨Nat.zero_le _, Nat.zero_le _⟩) (fun r_1 hw => ?_)
  subst hw
  exact W.zret (v := f_mwithin ed.toInt64 0 5) hx hb hr (nar01 (f_mwithin_01 _ _ _)) (fun t ht hW => ⟨f_mwithin ed.toInt64 0 5, rfl, (by rw [← hT]; simp only [f_misEdition]), by rw [ht, hH]⟩) (fun _ h => by cases h) d_Mo_isEdition_9
def f_misNumber (op : Int32) (n : Int64) : Int32 := if op = 1 then (f_mwithin n 0 7) else (if op = 9 then (if (f_mwithin n (-12) 12) = 0 then 0 else (if n = 0 then 0 else 1)) else (if op = 10 then (f_mwithin n 0 3) else (if op = 13 then (f_mwithin n 0 7) else 1)))
set_option maxHeartbeats 4000000 in
set_option maxRecDepth 100000 in
theorem c_misNumber (l : Launch) (G : va_G) (cI cL cZ cR cE : ClassId)  (op : Int32) (n : Int64) : Met l y_Mo_isNumber w_Mo_isNumber ({ frames := 1, cells := 0, slots := 0, locals := 25 }) (preR G (TYS cI cL cZ cR cE) [.int op, .long n] (([] : va_W))) (vp_Si (fun r => r = f_misNumber op n)) 0 0 (fun _ => False) := by
  refine Met.ofW (cc := b_Mo_isNumber) (maxL := 3) (ret := (some .boolean)) (by decide) rfl ?_
  intro p e s m args below meth c s₁ B hml hv
  obtain ⟨rfl, hP, hK, hN⟩ := hv
  have hx := B.exec
  have hb := B.bytes
  have hr := B.returns
  have hts := atoms_spec (ws := w_Mo_isNumber) B.pre
  have hown : s.vm.findClass R_Mo = some m.cls := findClass_of_methodNamed B.named
  have hlocks := B.notSynchronized
  obtain ⟨H, hH⟩ : ∃ H, H = s.heap := ⟨_, rfl⟩
  rw [← hH] at hP
  rw [← hH]
  have hk_1 := hts (.constantLong R_Mo 102 7) (List.mem_cons_of_mem _ kw_692)
  have hk_2 := hts (.constantLong R_Mo 104 (-12)) (List.mem_cons_of_mem _ kw_693)
  have hk_3 := hts (.constantLong R_Mo 106 12) (List.mem_cons_of_mem _ kw_694)
  have hk_4 := hts (.constantLong R_Mo 108 3) (List.mem_cons_of_mem _ kw_695)
  have hl := lv_entry ([.int op, .long n]) (n := 3) (Nat.le_of_ble_eq_true rfl)
  rw [lg_entry_eq]
  generalize (lg_sl ([.int op, .long n]) ++ List.replicate (3 - (lg_sl ([.int op, .long n])).length) Slot.unset).toArray = ls at hl ⊢
  replace hl : lv_has ls 3 [(0, .int op), (1, .long n)] := hl
  generalize hT : f_misNumber op n = T
  refine lv_iload_n hx hb d_Mo_isNumber_0 rfl (lv_at hl 0 rfl) ?_
  by_cases c_1 : op = 1
  · refine sw_l (x := op) (tgt := 44) hx hb d_Mo_isNumber_1 (by decide) (by rw [c_1]; decide) ?_
    refine lv_lload_n hx hb d_Mo_isNumber_44 rfl (lv_at hl 1 rfl) ?_
    refine lv_lconst (v := 0) hx hb d_Mo_isNumber_45 (by decide) ?_
    refine lv_ldc2 (v := 7) hx hb hown hk_1 d_Mo_isNumber_46 ?_
    refine vp_callSi (W.runS (As := [.long n, .long 0, .long 7]) (rest := []) ⟨hx, hb, hml, hown, hts⟩ (c_mwithin l G cI cL cZ cR cE  n 0 7) (va_cwS 3 hts (gS kw_675 kw_676 kw_21 kw_677) rfl rfl rfl (by decide +kernel) ⟨Nat.le_of_ble_eq_true rfl, Nat.le_of_ble_eq_true rfl⟩) (preRS_of hN hK hP [] rfl) rfl rfl hl.1 rfl (lv_room (Nat.le_of_ble_eq_true rfl)) d_Mo_isNumber_49 ⟨Nat.zero_le _, Nat.zero_le _⟩) (fun r_2 hw => ?_)
    subst hw
    exact W.zret (v := f_mwithin n 0 7) hx hb hr (nar01 (f_mwithin_01 _ _ _)) (fun t ht hW => ⟨f_mwithin n 0 7, rfl, (by rw [← hT]; simp only [f_misNumber, if_pos c_1]), by rw [ht, hH]⟩) (fun _ h => by cases h) d_Mo_isNumber_52
  ·
    by_cases c_3 : op = 9
    · refine sw_l (x := op) (tgt := 53) hx hb d_Mo_isNumber_1 (by decide) (by rw [c_3]; decide) ?_
      refine lv_lload_n hx hb d_Mo_isNumber_53 rfl (lv_at hl 1 rfl) ?_
      refine lv_ldc2 (v := (-12)) hx hb hown hk_2 d_Mo_isNumber_54 ?_
      refine lv_ldc2 (v := 12) hx hb hown hk_3 d_Mo_isNumber_57 ?_
      refine vp_callSi (W.runS (As := [.long n, .long (-12), .long 12]) (rest := []) ⟨hx, hb, hml, hown, hts⟩ (c_mwithin l G cI cL cZ cR cE  n (-12) 12) (va_cwS 3 hts (gS kw_675 kw_676 kw_21 kw_677) rfl rfl rfl (by decide +kernel) ⟨Nat.le_of_ble_eq_true rfl, Nat.le_of_ble_eq_true rfl⟩) (preRS_of hN hK hP [] rfl) rfl rfl hl.1 rfl (lv_room (Nat.le_of_ble_eq_true rfl)) d_Mo_isNumber_60 ⟨Nat.zero_le _, Nat.zero_le _⟩) (fun r_4 hw => ?_)
      subst hw
      refine lv_if_eq (tgt := 76) hx hb d_Mo_isNumber_63 (by decide) (fun c_5 => ?_) (fun c_5 => ?_)
      · refine lv_iconst (v := 0) hx hb d_Mo_isNumber_76 (by decide) ?_
        exact W.zret (v := 0) hx hb hr rfl (fun t ht hW => ⟨0, rfl, (by rw [← hT]; simp only [f_misNumber, if_neg c_1, if_pos c_3, if_pos c_5]), by rw [ht, hH]⟩) (fun _ h => by cases h) d_Mo_isNumber_77
      · refine lv_lload_n hx hb d_Mo_isNumber_66 rfl (lv_at hl 1 rfl) ?_
        refine lv_lconst (v := 0) hx hb d_Mo_isNumber_67 (by decide) ?_
        refine lc_eq (x := n) (y := 0) (tgt := 76) hx hb d_Mo_isNumber_68 d_Mo_isNumber_69 (by decide) (fun c_6 => ?_) (fun c_6 => ?_)
        · refine lv_iconst (v := 0) hx hb d_Mo_isNumber_76 (by decide) ?_
          exact W.zret (v := 0) hx hb hr rfl (fun t ht hW => ⟨0, rfl, (by rw [← hT]; simp only [f_misNumber, if_neg c_1, if_pos c_3, if_neg c_5, if_pos c_6]), by rw [ht, hH]⟩) (fun _ h => by cases h) d_Mo_isNumber_77
        · refine lv_iconst (v := 1) hx hb d_Mo_isNumber_72 (by decide) ?_
          refine lv_goto (tgt := 77) hx hb d_Mo_isNumber_73 (by decide) ?_
          exact W.zret (v := 1) hx hb hr rfl (fun t ht hW => ⟨1, rfl, (by rw [← hT]; simp only [f_misNumber, if_neg c_1, if_pos c_3, if_neg c_5, if_neg c_6]), by rw [ht, hH]⟩) (fun _ h => by cases h) d_Mo_isNumber_77
    ·
      by_cases c_7 : op = 10
      · refine sw_l (x := op) (tgt := 78) hx hb d_Mo_isNumber_1 (by decide) (by rw [c_7]; decide) ?_
        refine lv_lload_n hx hb d_Mo_isNumber_78 rfl (lv_at hl 1 rfl) ?_
        refine lv_lconst (v := 0) hx hb d_Mo_isNumber_79 (by decide) ?_
        refine lv_ldc2 (v := 3) hx hb hown hk_4 d_Mo_isNumber_80 ?_
        refine vp_callSi (W.runS (As := [.long n, .long 0, .long 3]) (rest := []) ⟨hx, hb, hml, hown, hts⟩ (c_mwithin l G cI cL cZ cR cE  n 0 3) (va_cwS 3 hts (gS kw_675 kw_676 kw_21 kw_677) rfl rfl rfl (by decide +kernel) ⟨Nat.le_of_ble_eq_true rfl, Nat.le_of_ble_eq_true rfl⟩) (preRS_of hN hK hP [] rfl) rfl rfl hl.1 rfl (lv_room (Nat.le_of_ble_eq_true rfl)) d_Mo_isNumber_83 ⟨Nat.zero_le _, Nat.zero_le _⟩) (fun r_8 hw => ?_)
        subst hw
        exact W.zret (v := f_mwithin n 0 3) hx hb hr (nar01 (f_mwithin_01 _ _ _)) (fun t ht hW => ⟨f_mwithin n 0 3, rfl, (by rw [← hT]; simp only [f_misNumber, if_neg c_1, if_neg c_3, if_pos c_7]), by rw [ht, hH]⟩) (fun _ h => by cases h) d_Mo_isNumber_86
      ·
        by_cases c_9 : op = 13
        · refine sw_l (x := op) (tgt := 44) hx hb d_Mo_isNumber_1 (by decide) (by rw [c_9]; decide) ?_
          refine lv_lload_n hx hb d_Mo_isNumber_44 rfl (lv_at hl 1 rfl) ?_
          refine lv_lconst (v := 0) hx hb d_Mo_isNumber_45 (by decide) ?_
          refine lv_ldc2 (v := 7) hx hb hown hk_1 d_Mo_isNumber_46 ?_
          refine vp_callSi (W.runS (As := [.long n, .long 0, .long 7]) (rest := []) ⟨hx, hb, hml, hown, hts⟩ (c_mwithin l G cI cL cZ cR cE  n 0 7) (va_cwS 3 hts (gS kw_675 kw_676 kw_21 kw_677) rfl rfl rfl (by decide +kernel) ⟨Nat.le_of_ble_eq_true rfl, Nat.le_of_ble_eq_true rfl⟩) (preRS_of hN hK hP [] rfl) rfl rfl hl.1 rfl (lv_room (Nat.le_of_ble_eq_true rfl)) d_Mo_isNumber_49 ⟨Nat.zero_le _, Nat.zero_le _⟩) (fun r_10 hw => ?_)
          subst hw
          exact W.zret (v := f_mwithin n 0 7) hx hb hr (nar01 (f_mwithin_01 _ _ _)) (fun t ht hW => ⟨f_mwithin n 0 7, rfl, (by rw [← hT]; simp only [f_misNumber, if_neg c_1, if_neg c_3, if_neg c_7, if_pos c_9]), by rw [ht, hH]⟩) (fun _ h => by cases h) d_Mo_isNumber_52
        ·
          refine sw_l (x := op) (tgt := 87) hx hb d_Mo_isNumber_1 (by decide) (sw_ld [1, 9, 10, 13] (by decide) (by decide) (List.forall_mem_cons.mpr ⟨sw_ne c_1 rfl, (List.forall_mem_cons.mpr ⟨sw_ne c_3 rfl, (List.forall_mem_cons.mpr ⟨sw_ne c_7 rfl, (List.forall_mem_cons.mpr ⟨sw_ne c_9 rfl, (fun _ h => nomatch h)⟩)⟩)⟩)⟩)) ?_
          refine lv_iconst (v := 1) hx hb d_Mo_isNumber_87 (by decide) ?_
          exact W.zret (v := 1) hx hb hr rfl (fun t ht hW => ⟨1, rfl, (by rw [← hT]; simp only [f_misNumber, if_neg c_1, if_neg c_3, if_neg c_7, if_neg c_9]), by rw [ht, hH]⟩) (fun _ h => by cases h) d_Mo_isNumber_88
def f_mtwo (op : Int32) (x : Int64) (y : Int64) : Int64 := if op = 2 then (x + y) else (if op = 3 then (x - y) else (if op = 4 then (x * y) else (if op = 5 then (x / y) else (if op = 6 then (if y ≤ x then 0 else 1) else (if x = y then 1 else 0)))))
set_option maxHeartbeats 4000000 in
set_option maxRecDepth 100000 in
theorem c_mtwo (l : Launch) (G : va_G) (cI cL cZ cR cE : ClassId)  (op : Int32) (x : Int64) (y : Int64) (hy0 : op = 5 → ¬ y = 0) : Met l y_Mo_two w_Mo_two ({ frames := 0, cells := 0, slots := 0, locals := 0 }) (preR G (TYS cI cL cZ cR cE) [.int op, .long x, .long y] (([] : va_W))) (vp_Sl (fun r => r = f_mtwo op x y)) 0 0 (fun _ => False) := by
  refine Met.ofW (cc := b_Mo_two) (maxL := 5) (ret := (some .long)) (by decide) rfl ?_
  intro p e s m args below meth c s₁ B hml hv
  obtain ⟨rfl, hP, hK, hN⟩ := hv
  have hx := B.exec
  have hb := B.bytes
  have hr := B.returns
  have hts := atoms_spec (ws := w_Mo_two) B.pre
  have hown : s.vm.findClass R_Mo = some m.cls := findClass_of_methodNamed B.named
  have hlocks := B.notSynchronized
  obtain ⟨H, hH⟩ : ∃ H, H = s.heap := ⟨_, rfl⟩
  rw [← hH] at hP
  rw [← hH]
  have hl := lv_entry ([.int op, .long x, .long y]) (n := 5) (Nat.le_of_ble_eq_true rfl)
  rw [lg_entry_eq]
  generalize (lg_sl ([.int op, .long x, .long y]) ++ List.replicate (5 - (lg_sl ([.int op, .long x, .long y])).length) Slot.unset).toArray = ls at hl ⊢
  replace hl : lv_has ls 5 [(0, .int op), (1, .long x), (3, .long y)] := hl
  generalize hT : f_mtwo op x y = T
  refine lv_iload_n hx hb d_Mo_two_0 rfl (lv_at hl 0 rfl) ?_
  by_cases c_1 : op = 2
  · refine sw_t (x := op) (tgt := 36) hx hb d_Mo_two_1 (by rw [c_1]; decide) ?_
    refine lv_lload_n hx hb d_Mo_two_36 rfl (lv_at hl 1 rfl) ?_
    refine lv_lload_n hx hb d_Mo_two_37 rfl (lv_at hl 2 rfl) ?_
    refine lv_ladd hx hb d_Mo_two_38 ?_
    exact W.lret (v := x + y) hx hb hr (fun t ht hW => ⟨x + y, rfl, (by rw [← hT]; simp only [f_mtwo, if_pos c_1]), by rw [ht, hH]⟩) (fun _ h => by cases h) d_Mo_two_39
  ·
    by_cases c_2 : op = 3
    · refine sw_t (x := op) (tgt := 40) hx hb d_Mo_two_1 (by rw [c_2]; decide) ?_
      refine lv_lload_n hx hb d_Mo_two_40 rfl (lv_at hl 1 rfl) ?_
      refine lv_lload_n hx hb d_Mo_two_41 rfl (lv_at hl 2 rfl) ?_
      refine lv_lsub hx hb d_Mo_two_42 ?_
      exact W.lret (v := x - y) hx hb hr (fun t ht hW => ⟨x - y, rfl, (by rw [← hT]; simp only [f_mtwo, if_neg c_1, if_pos c_2]), by rw [ht, hH]⟩) (fun _ h => by cases h) d_Mo_two_43
    ·
      by_cases c_3 : op = 4
      · refine sw_t (x := op) (tgt := 44) hx hb d_Mo_two_1 (by rw [c_3]; decide) ?_
        refine lv_lload_n hx hb d_Mo_two_44 rfl (lv_at hl 1 rfl) ?_
        refine lv_lload_n hx hb d_Mo_two_45 rfl (lv_at hl 2 rfl) ?_
        refine lv_lmul hx hb d_Mo_two_46 ?_
        exact W.lret (v := x * y) hx hb hr (fun t ht hW => ⟨x * y, rfl, (by rw [← hT]; simp only [f_mtwo, if_neg c_1, if_neg c_2, if_pos c_3]), by rw [ht, hH]⟩) (fun _ h => by cases h) d_Mo_two_47
      ·
        by_cases c_4 : op = 5
        · refine sw_t (x := op) (tgt := 48) hx hb d_Mo_two_1 (by rw [c_4]; decide) ?_
          refine lv_lload_n hx hb d_Mo_two_48 rfl (lv_at hl 1 rfl) ?_
          refine lv_lload_n hx hb d_Mo_two_49 rfl (lv_at hl 2 rfl) ?_
          refine lv_ldiv hx hb d_Mo_two_50 (hy0 c_4) ?_
          exact W.lret (v := x / y) hx hb hr (fun t ht hW => ⟨x / y, rfl, (by rw [← hT]; simp only [f_mtwo, if_neg c_1, if_neg c_2, if_neg c_3, if_pos c_4]), by rw [ht, hH]⟩) (fun _ h => by cases h) d_Mo_two_51
        ·
          by_cases c_5 : op = 6
          · refine sw_t (x := op) (tgt := 52) hx hb d_Mo_two_1 (by rw [c_5]; decide) ?_
            refine lv_lload_n hx hb d_Mo_two_52 rfl (lv_at hl 1 rfl) ?_
            refine lv_lload_n hx hb d_Mo_two_53 rfl (lv_at hl 2 rfl) ?_
            refine lc_ge (x := x) (y := y) (tgt := 62) hx hb d_Mo_two_54 d_Mo_two_55 (by decide) (fun c_6 => ?_) (fun c_6 => ?_)
            · refine lv_lconst (v := 0) hx hb d_Mo_two_62 (by decide) ?_
              exact W.lret (v := 0) hx hb hr (fun t ht hW => ⟨0, rfl, (by rw [← hT]; simp only [f_mtwo, if_neg c_1, if_neg c_2, if_neg c_3, if_neg c_4, if_pos c_5, if_pos c_6]), by rw [ht, hH]⟩) (fun _ h => by cases h) d_Mo_two_63
            · refine lv_lconst (v := 1) hx hb d_Mo_two_58 (by decide) ?_
              refine lv_goto (tgt := 63) hx hb d_Mo_two_59 (by decide) ?_
              exact W.lret (v := 1) hx hb hr (fun t ht hW => ⟨1, rfl, (by rw [← hT]; simp only [f_mtwo, if_neg c_1, if_neg c_2, if_neg c_3, if_neg c_4, if_pos c_5, if_neg c_6]), by rw [ht, hH]⟩) (fun _ h => by cases h) d_Mo_two_63
          ·
            refine sw_t (x := op) (tgt := 64) hx hb d_Mo_two_1 (sw_d (by decide) [2, 3, 4, 5, 6] (by decide) (List.forall_mem_cons.mpr ⟨sw_ne c_1 rfl, (List.forall_mem_cons.mpr ⟨sw_ne c_2 rfl, (List.forall_mem_cons.mpr ⟨sw_ne c_3 rfl, (List.forall_mem_cons.mpr ⟨sw_ne c_4 rfl, (List.forall_mem_cons.mpr ⟨sw_ne c_5 rfl, (fun _ h => nomatch h)⟩)⟩)⟩)⟩)⟩)) ?_
            refine lv_lload_n hx hb d_Mo_two_64 rfl (lv_at hl 1 rfl) ?_
            refine lv_lload_n hx hb d_Mo_two_65 rfl (lv_at hl 2 rfl) ?_
            refine lc_ne (x := x) (y := y) (tgt := 74) hx hb d_Mo_two_66 d_Mo_two_67 (by decide) (fun c_7 => ?_) (fun c_7 => ?_)
            · refine lv_lconst (v := 0) hx hb d_Mo_two_74 (by decide) ?_
              exact W.lret (v := 0) hx hb hr (fun t ht hW => ⟨0, rfl, (by rw [← hT]; simp only [f_mtwo, if_neg c_1, if_neg c_2, if_neg c_3, if_neg c_4, if_neg c_5, if_neg c_7]), by rw [ht, hH]⟩) (fun _ h => by cases h) d_Mo_two_75
            · refine lv_lconst (v := 1) hx hb d_Mo_two_70 (by decide) ?_
              refine lv_goto (tgt := 75) hx hb d_Mo_two_71 (by decide) ?_
              exact W.lret (v := 1) hx hb hr (fun t ht hW => ⟨1, rfl, (by rw [← hT]; simp only [f_mtwo, if_neg c_1, if_neg c_2, if_neg c_3, if_neg c_4, if_neg c_5, if_pos c_7]), by rw [ht, hH]⟩) (fun _ h => by cases h) d_Mo_two_75
def f_mneeds (op : Int32) : Int32 := if op ≤ 1 then (if op ≤ 7 then (if op = 14 then 1 else 0) else (if op < 12 then 1 else (if op = 14 then 1 else 0))) else (if 8 ≤ op then (if op ≤ 7 then (if op = 14 then 1 else 0) else (if op < 12 then 1 else (if op = 14 then 1 else 0))) else 2)
set_option maxHeartbeats 4000000 in
set_option maxRecDepth 100000 in
theorem c_mneeds (l : Launch) (G : va_G) (cI cL cZ cR cE : ClassId)  (op : Int32) : Met l y_Mo_needs w_Mo_needs ({ frames := 0, cells := 0, slots := 0, locals := 0 }) (preR G (TYS cI cL cZ cR cE) [.int op] (([] : va_W))) (vp_Si (fun r => r = f_mneeds op)) 0 0 (fun _ => False) := by
  refine Met.ofW (cc := b_Mo_needs) (maxL := 1) (ret := (some .int)) (by decide) rfl ?_
  intro p e s m args below meth c s₁ B hml hv
  obtain ⟨rfl, hP, hK, hN⟩ := hv
  have hx := B.exec
  have hb := B.bytes
  have hr := B.returns
  have hts := atoms_spec (ws := w_Mo_needs) B.pre
  have hown : s.vm.findClass R_Mo = some m.cls := findClass_of_methodNamed B.named
  have hlocks := B.notSynchronized
  obtain ⟨H, hH⟩ : ∃ H, H = s.heap := ⟨_, rfl⟩
  rw [← hH] at hP
  rw [← hH]
  have hl := lv_entry ([.int op]) (n := 1) (Nat.le_of_ble_eq_true rfl)
  rw [lg_entry_eq]
  generalize (lg_sl ([.int op]) ++ List.replicate (1 - (lg_sl ([.int op])).length) Slot.unset).toArray = ls at hl ⊢
  replace hl : lv_has ls 1 [(0, .int op)] := hl
  generalize hT : f_mneeds op = T
  refine lv_iload_n hx hb d_Mo_needs_0 rfl (lv_at hl 0 rfl) ?_
  refine lv_iconst (v := 1) hx hb d_Mo_needs_1 (by decide) ?_
  refine lv_icmp_le (tgt := 15) hx hb d_Mo_needs_2 (by decide) (fun c_1 => ?_) (fun c_1 => ?_)
  · refine lv_iload_n hx hb d_Mo_needs_15 rfl (lv_at hl 0 rfl) ?_
    refine lv_bipush (v := 7) hx hb d_Mo_needs_16 (by decide) ?_
    refine lv_icmp_le (tgt := 27) hx hb d_Mo_needs_18 (by decide) (fun c_2 => ?_) (fun c_2 => ?_)
    · refine lv_iload_n hx hb d_Mo_needs_27 rfl (lv_at hl 0 rfl) ?_
      refine lv_bipush (v := 14) hx hb d_Mo_needs_28 (by decide) ?_
      refine lv_icmp_ne (tgt := 37) hx hb d_Mo_needs_30 (by decide) (fun c_3 => ?_) (fun c_3 => ?_)
      · refine lv_iconst (v := 0) hx hb d_Mo_needs_37 (by decide) ?_
        exact W.iret (v := 0) hx hb hr (fun t ht hW => ⟨0, rfl, (by rw [← hT]; simp only [f_mneeds, if_pos c_1, if_pos c_2, if_neg c_3]), by rw [ht, hH]⟩) (fun _ h => by cases h) d_Mo_needs_38
      · refine lv_iconst (v := 1) hx hb d_Mo_needs_33 (by decide) ?_
        refine lv_goto (tgt := 38) hx hb d_Mo_needs_34 (by decide) ?_
        exact W.iret (v := 1) hx hb hr (fun t ht hW => ⟨1, rfl, (by rw [← hT]; simp only [f_mneeds, if_pos c_1, if_pos c_2, if_pos c_3]), by rw [ht, hH]⟩) (fun _ h => by cases h) d_Mo_needs_38
    · refine lv_iload_n hx hb d_Mo_needs_21 rfl (lv_at hl 0 rfl) ?_
      refine lv_bipush (v := 12) hx hb d_Mo_needs_22 (by decide) ?_
      refine lv_icmp_lt (tgt := 33) hx hb d_Mo_needs_24 (by decide) (fun c_4 => ?_) (fun c_4 => ?_)
      · refine lv_iconst (v := 1) hx hb d_Mo_needs_33 (by decide) ?_
        refine lv_goto (tgt := 38) hx hb d_Mo_needs_34 (by decide) ?_
        exact W.iret (v := 1) hx hb hr (fun t ht hW => ⟨1, rfl, (by rw [← hT]; simp only [f_mneeds, if_pos c_1, if_neg c_2, if_pos c_4]), by rw [ht, hH]⟩) (fun _ h => by cases h) d_Mo_needs_38
      · refine lv_iload_n hx hb d_Mo_needs_27 rfl (lv_at hl 0 rfl) ?_
        refine lv_bipush (v := 14) hx hb d_Mo_needs_28 (by decide) ?_
        refine lv_icmp_ne (tgt := 37) hx hb d_Mo_needs_30 (by decide) (fun c_5 => ?_) (fun c_5 => ?_)
        · refine lv_iconst (v := 0) hx hb d_Mo_needs_37 (by decide) ?_
          exact W.iret (v := 0) hx hb hr (fun t ht hW => ⟨0, rfl, (by rw [← hT]; simp only [f_mneeds, if_pos c_1, if_neg c_2, if_neg c_4, if_neg c_5]), by rw [ht, hH]⟩) (fun _ h => by cases h) d_Mo_needs_38
        · refine lv_iconst (v := 1) hx hb d_Mo_needs_33 (by decide) ?_
          refine lv_goto (tgt := 38) hx hb d_Mo_needs_34 (by decide) ?_
          exact W.iret (v := 1) hx hb hr (fun t ht hW => ⟨1, rfl, (by rw [← hT]; simp only [f_mneeds, if_pos c_1, if_neg c_2, if_neg c_4, if_pos c_5]), by rw [ht, hH]⟩) (fun _ h => by cases h) d_Mo_needs_38
  · refine lv_iload_n hx hb d_Mo_needs_5 rfl (lv_at hl 0 rfl) ?_
    refine lv_bipush (v := 8) hx hb d_Mo_needs_6 (by decide) ?_
    refine lv_icmp_ge (tgt := 15) hx hb d_Mo_needs_8 (by decide) (fun c_6 => ?_) (fun c_6 => ?_)
    · refine lv_iload_n hx hb d_Mo_needs_15 rfl (lv_at hl 0 rfl) ?_
      refine lv_bipush (v := 7) hx hb d_Mo_needs_16 (by decide) ?_
      refine lv_icmp_le (tgt := 27) hx hb d_Mo_needs_18 (by decide) (fun c_7 => ?_) (fun c_7 => ?_)
      · refine lv_iload_n hx hb d_Mo_needs_27 rfl (lv_at hl 0 rfl) ?_
        refine lv_bipush (v := 14) hx hb d_Mo_needs_28 (by decide) ?_
        refine lv_icmp_ne (tgt := 37) hx hb d_Mo_needs_30 (by decide) (fun c_8 => ?_) (fun c_8 => ?_)
        · refine lv_iconst (v := 0) hx hb d_Mo_needs_37 (by decide) ?_
          exact W.iret (v := 0) hx hb hr (fun t ht hW => ⟨0, rfl, (by rw [← hT]; simp only [f_mneeds, if_neg c_1, if_pos c_6, if_pos c_7, if_neg c_8]), by rw [ht, hH]⟩) (fun _ h => by cases h) d_Mo_needs_38
        · refine lv_iconst (v := 1) hx hb d_Mo_needs_33 (by decide) ?_
          refine lv_goto (tgt := 38) hx hb d_Mo_needs_34 (by decide) ?_
          exact W.iret (v := 1) hx hb hr (fun t ht hW => ⟨1, rfl, (by rw [← hT]; simp only [f_mneeds, if_neg c_1, if_pos c_6, if_pos c_7, if_pos c_8]), by rw [ht, hH]⟩) (fun _ h => by cases h) d_Mo_needs_38
      · refine lv_iload_n hx hb d_Mo_needs_21 rfl (lv_at hl 0 rfl) ?_
        refine lv_bipush (v := 12) hx hb d_Mo_needs_22 (by decide) ?_
        refine lv_icmp_lt (tgt := 33) hx hb d_Mo_needs_24 (by decide) (fun c_9 => ?_) (fun c_9 => ?_)
        · refine lv_iconst (v := 1) hx hb d_Mo_needs_33 (by decide) ?_
          refine lv_goto (tgt := 38) hx hb d_Mo_needs_34 (by decide) ?_
          exact W.iret (v := 1) hx hb hr (fun t ht hW => ⟨1, rfl, (by rw [← hT]; simp only [f_mneeds, if_neg c_1, if_pos c_6, if_neg c_7, if_pos c_9]), by rw [ht, hH]⟩) (fun _ h => by cases h) d_Mo_needs_38
        · refine lv_iload_n hx hb d_Mo_needs_27 rfl (lv_at hl 0 rfl) ?_
          refine lv_bipush (v := 14) hx hb d_Mo_needs_28 (by decide) ?_
          refine lv_icmp_ne (tgt := 37) hx hb d_Mo_needs_30 (by decide) (fun c_10 => ?_) (fun c_10 => ?_)
          · refine lv_iconst (v := 0) hx hb d_Mo_needs_37 (by decide) ?_
            exact W.iret (v := 0) hx hb hr (fun t ht hW => ⟨0, rfl, (by rw [← hT]; simp only [f_mneeds, if_neg c_1, if_pos c_6, if_neg c_7, if_neg c_9, if_neg c_10]), by rw [ht, hH]⟩) (fun _ h => by cases h) d_Mo_needs_38
          · refine lv_iconst (v := 1) hx hb d_Mo_needs_33 (by decide) ?_
            refine lv_goto (tgt := 38) hx hb d_Mo_needs_34 (by decide) ?_
            exact W.iret (v := 1) hx hb hr (fun t ht hW => ⟨1, rfl, (by rw [← hT]; simp only [f_mneeds, if_neg c_1, if_pos c_6, if_neg c_7, if_neg c_9, if_pos c_10]), by rw [ht, hH]⟩) (fun _ h => by cases h) d_Mo_needs_38
    · refine lv_iconst (v := 2) hx hb d_Mo_needs_11 (by decide) ?_
      refine lv_goto (tgt := 38) hx hb d_Mo_needs_12 (by decide) ?_
      exact W.iret (v := 2) hx hb hr (fun t ht hW => ⟨2, rfl, (by rw [← hT]; simp only [f_mneeds, if_neg c_1, if_neg c_6]), by rw [ht, hH]⟩) (fun _ h => by cases h) d_Mo_needs_38
def f_mhasNumber (op : Int32) : Int32 := if op < 2 then 1 else (if op = 9 then 1 else (if op = 10 then 1 else (if op = 13 then 1 else 0)))
set_option maxHeartbeats 4000000 in
set_option maxRecDepth 100000 in
theorem c_mhasNumber (l : Launch) (G : va_G) (cI cL cZ cR cE : ClassId)  (op : Int32) : Met l y_Mo_hasNumber w_Mo_hasNumber ({ frames := 0, cells := 0, slots := 0, locals := 0 }) (preR G (TYS cI cL cZ cR cE) [.int op] (([] : va_W))) (vp_Si (fun r => r = f_mhasNumber op)) 0 0 (fun _ => False) := by
  refine Met.ofW (cc := b_Mo_hasNumber) (maxL := 1) (ret := (some .boolean)) (by decide) rfl ?_
  intro p e s m args below meth c s₁ B hml hv
  obtain ⟨rfl, hP, hK, hN⟩ := hv
  have hx := B.exec
  have hb := B.bytes
  have hr := B.returns
  have hts := atoms_spec (ws := w_Mo_hasNumber) B.pre
  have hown : s.vm.findClass R_Mo = some m.cls := findClass_of_methodNamed B.named
  have hlocks := B.notSynchronized
  obtain ⟨H, hH⟩ : ∃ H, H = s.heap := ⟨_, rfl⟩
  rw [← hH] at hP
  rw [← hH]
  have hl := lv_entry ([.int op]) (n := 1) (Nat.le_of_ble_eq_true rfl)
  rw [lg_entry_eq]
  generalize (lg_sl ([.int op]) ++ List.replicate (1 - (lg_sl ([.int op])).length) Slot.unset).toArray = ls at hl ⊢
  replace hl : lv_has ls 1 [(0, .int op)] := hl
  generalize hT : f_mhasNumber op = T
  refine lv_iload_n hx hb d_Mo_hasNumber_0 rfl (lv_at hl 0 rfl) ?_
  refine lv_iconst (v := 2) hx hb d_Mo_hasNumber_1 (by decide) ?_
  refine lv_icmp_lt (tgt := 23) hx hb d_Mo_hasNumber_2 (by decide) (fun c_1 => ?_) (fun c_1 => ?_)
  · refine lv_iconst (v := 1) hx hb d_Mo_hasNumber_23 (by decide) ?_
    refine lv_goto (tgt := 28) hx hb d_Mo_hasNumber_24 (by decide) ?_
    exact W.zret (v := 1) hx hb hr rfl (fun t ht hW => ⟨1, rfl, (by rw [← hT]; simp only [f_mhasNumber, if_pos c_1]), by rw [ht, hH]⟩) (fun _ h => by cases h) d_Mo_hasNumber_28
  · refine lv_iload_n hx hb d_Mo_hasNumber_5 rfl (lv_at hl 0 rfl) ?_
    refine lv_bipush (v := 9) hx hb d_Mo_hasNumber_6 (by decide) ?_
    refine lv_icmp_eq (tgt := 23) hx hb d_Mo_hasNumber_8 (by decide) (fun c_2 => ?_) (fun c_2 => ?_)
    · refine lv_iconst (v := 1) hx hb d_Mo_hasNumber_23 (by decide) ?_
      refine lv_goto (tgt := 28) hx hb d_Mo_hasNumber_24 (by decide) ?_
      exact W.zret (v := 1) hx hb hr rfl (fun t ht hW => ⟨1, rfl, (by rw [← hT]; simp only [f_mhasNumber, if_neg c_1, if_pos c_2]), by rw [ht, hH]⟩) (fun _ h => by cases h) d_Mo_hasNumber_28
    · refine lv_iload_n hx hb d_Mo_hasNumber_11 rfl (lv_at hl 0 rfl) ?_
      refine lv_bipush (v := 10) hx hb d_Mo_hasNumber_12 (by decide) ?_
      refine lv_icmp_eq (tgt := 23) hx hb d_Mo_hasNumber_14 (by decide) (fun c_3 => ?_) (fun c_3 => ?_)
      · refine lv_iconst (v := 1) hx hb d_Mo_hasNumber_23 (by decide) ?_
        refine lv_goto (tgt := 28) hx hb d_Mo_hasNumber_24 (by decide) ?_
        exact W.zret (v := 1) hx hb hr rfl (fun t ht hW => ⟨1, rfl, (by rw [← hT]; simp only [f_mhasNumber, if_neg c_1, if_neg c_2, if_pos c_3]), by rw [ht, hH]⟩) (fun _ h => by cases h) d_Mo_hasNumber_28
      · refine lv_iload_n hx hb d_Mo_hasNumber_17 rfl (lv_at hl 0 rfl) ?_
        refine lv_bipush (v := 13) hx hb d_Mo_hasNumber_18 (by decide) ?_
        refine lv_icmp_ne (tgt := 27) hx hb d_Mo_hasNumber_20 (by decide) (fun c_4 => ?_) (fun c_4 => ?_)
        · refine lv_iconst (v := 0) hx hb d_Mo_hasNumber_27 (by decide) ?_
          exact W.zret (v := 0) hx hb hr rfl (fun t ht hW => ⟨0, rfl, (by rw [← hT]; simp only [f_mhasNumber, if_neg c_1, if_neg c_2, if_neg c_3, if_neg c_4]), by rw [ht, hH]⟩) (fun _ h => by cases h) d_Mo_hasNumber_28
        · refine lv_iconst (v := 1) hx hb d_Mo_hasNumber_23 (by decide) ?_
          refine lv_goto (tgt := 28) hx hb d_Mo_hasNumber_24 (by decide) ?_
          exact W.zret (v := 1) hx hb hr rfl (fun t ht hW => ⟨1, rfl, (by rw [← hT]; simp only [f_mhasNumber, if_neg c_1, if_neg c_2, if_neg c_3, if_pos c_4]), by rw [ht, hH]⟩) (fun _ h => by cases h) d_Mo_hasNumber_28
end
section
def f_mthrown (thrown : Int32) : Int32 := thrown
set_option maxHeartbeats 4000000 in
set_option maxRecDepth 100000 in
theorem c_mthrown (l : Launch) (G : va_G) (cI cL cZ cR cE : ClassId) (a0 a1 a2 a3 a4 a5 a6 a7 a8 a9 a10 a11 a12 a13 a14 a15 a16 a17 a18 a19 a20 a21 a22 : Nat) (thrown : Int32) (most : Int32) (rules : Int32) (editions : Nat → Int32) (orders : Nat → Int32) (sizes : Nat → Int32) (ops : Nat → Int32) (numbers : Nat → Int64) (cells : Nat → Int64) (hasFallback : Nat → Int32) (fallbackKinds : Nat → Int32) (fallbacks : Nat → Int64) (facts : Nat → Int64) (states : Nat → Int32) (counts : Nat → Int32) (days : Nat → Int32) (toldAt : Nat → Int32) (tells : Int32) (handles : Int32) (handleFacts : Nat → Int32) (failures : Int32) (failedRule : Nat → Int32) (failedHow : Nat → Int32) (answers : Nat → Int64) (givers : Nat → Int32) (stack : Nat → Int64) (high : Int32) (steps : Int32) (how : Int32) (cellNow : Int64) (own : Nat → Int64) (has : Nat → Int32) : Met l y_Mo_thrown w_Mo_thrown ({ frames := 0, cells := 0, slots := 0, locals := 0 }) (preR G (TYS cI cL cZ cR cE) [.ref a0] (W_Mod cI cL cZ cR cE a0 a1 a2 a3 a4 a5 a6 a7 a8 a9 a10 a11 a12 a13 a14 a15 a16 a17 a18 a19 a20 a21 a22 thrown most rules editions orders sizes ops numbers cells hasFallback fallbackKinds fallbacks facts states counts days toldAt tells handles handleFacts failures failedRule failedHow answers givers stack high steps how cellNow own has)) (vp_Si (fun r => r = f_mthrown thrown)) 0 0 (fun _ => False) := by
  refine Met.ofW (cc := b_Mo_thrown) (maxL := 1) (ret := (some .int)) (by decide) rfl ?_
  intro p e s m args below meth c s₁ B hml hv
  obtain ⟨rfl, hP, hK, hN⟩ := hv
  have hx := B.exec
  have hb := B.bytes
  have hr := B.returns
  have hts := atoms_spec (ws := w_Mo_thrown) B.pre
  have hown : s.vm.findClass R_Mo = some m.cls := findClass_of_methodNamed B.named
  have hlocks := B.notSynchronized
  obtain ⟨H, hH⟩ : ∃ H, H = s.heap := ⟨_, rfl⟩
  rw [← hH] at hP
  rw [← hH]
  have hi_2 : ∀ w ∈ u_ws R_Mo T_Mo 32, w ∈ w_Mo_thrown := fun w h => List.mem_cons_of_mem _ (iu_Mo w h)
  have hk_1 := hts (.fieldLink R_Mo 82 "HandlingRulesModel" "thrown" "I") (List.mem_cons_of_mem _ kw_565)
  have hl := lv_entry ([.ref a0]) (n := 1) (Nat.le_of_ble_eq_true rfl)
  rw [lg_entry_eq]
  generalize (lg_sl ([.ref a0]) ++ List.replicate (1 - (lg_sl ([.ref a0])).length) Slot.unset).toArray = ls at hl ⊢
  replace hl : lv_has ls 1 [(0, .ref a0)] := hl
  generalize hT : f_mthrown thrown = T
  refine lv_aload_n hx hb d_Mo_thrown_0 rfl (lv_at hl 0 rfl) ?_
  refine va_get (D := G) (ci := 6) (v := .int thrown) (C := R_Mo) (T := T_Mo) (N := 32) hx hb hts hi_2 hown hK hP 0 rfl rfl 0 (by decide) hk_1 (fun _ h9 => h9) rfl d_Mo_thrown_1 ?_
  exact W.iret (v := thrown) hx hb hr (fun t ht hW => ⟨thrown, rfl, (by rw [← hT]; simp only [f_mthrown]), by rw [ht, hH]⟩) (fun _ h => by cases h) d_Mo_thrown_4
def f_misRule (rules : Int32) (r : Int32) : Int32 := f_mwithin r.toInt64 0 ((rules - 1).toInt64)
set_option maxHeartbeats 4000000 in
set_option maxRecDepth 100000 in
theorem c_misRule (l : Launch) (G : va_G) (cI cL cZ cR cE : ClassId) (a0 a1 a2 a3 a4 a5 a6 a7 a8 a9 a10 a11 a12 a13 a14 a15 a16 a17 a18 a19 a20 a21 a22 : Nat) (thrown : Int32) (most : Int32) (rules : Int32) (editions : Nat → Int32) (orders : Nat → Int32) (sizes : Nat → Int32) (ops : Nat → Int32) (numbers : Nat → Int64) (cells : Nat → Int64) (hasFallback : Nat → Int32) (fallbackKinds : Nat → Int32) (fallbacks : Nat → Int64) (facts : Nat → Int64) (states : Nat → Int32) (counts : Nat → Int32) (days : Nat → Int32) (toldAt : Nat → Int32) (tells : Int32) (handles : Int32) (handleFacts : Nat → Int32) (failures : Int32) (failedRule : Nat → Int32) (failedHow : Nat → Int32) (answers : Nat → Int64) (givers : Nat → Int32) (stack : Nat → Int64) (high : Int32) (steps : Int32) (how : Int32) (cellNow : Int64) (own : Nat → Int64) (has : Nat → Int32) (r : Int32) : Met l y_Mo_isRule w_Mo_isRule ({ frames := 1, cells := 0, slots := 0, locals := 25 }) (preR G (TYS cI cL cZ cR cE) [.ref a0, .int r] (W_Mod cI cL cZ cR cE a0 a1 a2 a3 a4 a5 a6 a7 a8 a9 a10 a11 a12 a13 a14 a15 a16 a17 a18 a19 a20 a21 a22 thrown most rules editions orders sizes ops numbers cells hasFallback fallbackKinds fallbacks facts states counts days toldAt tells handles handleFacts failures failedRule failedHow answers givers stack high steps how cellNow own has)) (vp_Si (fun r => r = f_misRule rules r)) 0 0 (fun _ => False) := by
  refine Met.ofW (cc := b_Mo_isRule) (maxL := 2) (ret := (some .boolean)) (by decide) rfl ?_
  intro p e s m args below meth c s₁ B hml hv
  obtain ⟨rfl, hP, hK, hN⟩ := hv
  have hx := B.exec
  have hb := B.bytes
  have hr := B.returns
  have hts := atoms_spec (ws := w_Mo_isRule) B.pre
  have hown : s.vm.findClass R_Mo = some m.cls := findClass_of_methodNamed B.named
  have hlocks := B.notSynchronized
  obtain ⟨H, hH⟩ : ∃ H, H = s.heap := ⟨_, rfl⟩
  rw [← hH] at hP
  rw [← hH]
  have hi_2 : ∀ w ∈ u_ws R_Mo T_Mo 32, w ∈ w_Mo_isRule := fun w h => List.mem_cons_of_mem _ (iu_Mo w h)
  have hk_1 := hts (.fieldLink R_Mo 85 "HandlingRulesModel" "rules" "I") (List.mem_cons_of_mem _ kw_567)
  have hl := lv_entry ([.ref a0, .int r]) (n := 2) (Nat.le_of_ble_eq_true rfl)
  rw [lg_entry_eq]
  generalize (lg_sl ([.ref a0, .int r]) ++ List.replicate (2 - (lg_sl ([.ref a0, .int r])).length) Slot.unset).toArray = ls at hl ⊢
  replace hl : lv_has ls 2 [(0, .ref a0), (1, .int r)] := hl
  generalize hT : f_misRule rules r = T
  refine lv_iload_n hx hb d_Mo_isRule_0 rfl (lv_at hl 1 rfl) ?_
  refine lv_i2l (v := r.toInt64) hx hb d_Mo_isRule_1 rfl ?_
  refine lv_lconst (v := 0) hx hb d_Mo_isRule_2 (by decide) ?_
  refine lv_aload_n hx hb d_Mo_isRule_3 rfl (lv_at hl 0 rfl) ?_
  refine va_get (D := G) (ci := 6) (v := .int rules) (C := R_Mo) (T := T_Mo) (N := 32) hx hb hts hi_2 hown hK hP 0 rfl rfl 2 (by decide) hk_1 (fun _ h9 => h9) rfl d_Mo_isRule_4 ?_
  refine lv_iconst (v := 1) hx hb d_Mo_isRule_7 (by decide) ?_
  refine lv_isub hx hb d_Mo_isRule_8 ?_
  refine lv_i2l (v := (rules - 1).toInt64) hx hb d_Mo_isRule_9 rfl ?_
  refine vp_callSi (W.runS (As := [.long r.toInt64, .long 0, .long ((rules - 1).toInt64)]) (rest := []) ⟨hx, hb, hml, hown, hts⟩ (c_mwithin l G cI cL cZ cR cE  r.toInt64 0 ((rules - 1).toInt64)) (va_cwS 3 hts (gS kw_675 kw_676 kw_21 kw_677) rfl rfl rfl (by decide +kernel) ⟨Nat.le_of_ble_eq_true rfl, Nat.le_of_ble_eq_true rfl⟩) (preRS_of hN hK hP [] rfl) rfl rfl hl.1 rfl (lv_room (Nat.le_of_ble_eq_true rfl)) d_Mo_isRule_10 ⟨Nat.zero_le _, Nat.zero_le _⟩) (fun r_1 hw => ?_)
  subst hw
  exact W.zret (v := f_mwithin r.toInt64 0 ((rules - 1).toInt64)) hx hb hr (nar01 (f_mwithin_01 _ _ _)) (fun t ht hW => ⟨f_mwithin r.toInt64 0 ((rules - 1).toInt64), rfl, (by rw [← hT]; simp only [f_misRule]), by rw [ht, hH]⟩) (fun _ h => by cases h) d_Mo_isRule_13
theorem ix_misRule {rules : Int32} {r : Int32} {N : Nat} (h : ¬ f_misRule rules r = 0) (hR : 0 ≤ rules.toInt ∧ rules.toInt ≤ (N : Int)) : vp_in r N := by
  obtain ⟨h1, h2⟩ := (f_mwithin_iff _ _ _).mp h
  rw [vp_in_iff]
  rw [show (0 : Int64).toInt = 0 from rfl, Int32.toInt_toInt64] at h1
  rw [Int32.toInt_toInt64, Int32.toInt_toInt64] at h2
  have h5 : (1 : Int32).toInt = 1 := rfl
  rw [i32_sub (by omega) (by have := Int32.toInt_le rules; have h6 : Int32.maxValue.toInt = 2147483647 := rfl; omega)] at h2
  omega
def f_mfact (facts : Nat → Int64) (k : Int32) (w : Int64) : Int32 × Int32 × (Nat → Int64) := if (f_mwithin k.toInt64 0 7) = 0 then ((-102), (0, facts)) else (1, (0, vp_updL facts k.toNatClampNeg w))
set_option maxHeartbeats 4000000 in
set_option maxRecDepth 100000 in
theorem c_mfact (l : Launch) (G : va_G) (cI cL cZ cR cE : ClassId) (sz : Nat) (a0 a1 a2 a3 a4 a5 a6 a7 a8 a9 a10 a11 a12 a13 a14 a15 a16 a17 a18 a19 a20 a21 a22 : Nat) (thrown : Int32) (most : Int32) (rules : Int32) (editions : Nat → Int32) (orders : Nat → Int32) (sizes : Nat → Int32) (ops : Nat → Int32) (numbers : Nat → Int64) (cells : Nat → Int64) (hasFallback : Nat → Int32) (fallbackKinds : Nat → Int32) (fallbacks : Nat → Int64) (facts : Nat → Int64) (states : Nat → Int32) (counts : Nat → Int32) (days : Nat → Int32) (toldAt : Nat → Int32) (tells : Int32) (handles : Int32) (handleFacts : Nat → Int32) (failures : Int32) (failedRule : Nat → Int32) (failedHow : Nat → Int32) (answers : Nat → Int64) (givers : Nat → Int32) (stack : Nat → Int64) (high : Int32) (steps : Int32) (how : Int32) (cellNow : Int64) (own : Nat → Int64) (has : Nat → Int32) (k : Int32) (w : Int64) : Met l y_Mo_fact w_Mo_fact ({ frames := 1, cells := 0, slots := 0, locals := 25 }) (preW G (TYS cI cL cZ cR cE) [.ref a0, .int k, .long w] sz (W_Mod cI cL cZ cR cE a0 a1 a2 a3 a4 a5 a6 a7 a8 a9 a10 a11 a12 a13 a14 a15 a16 a17 a18 a19 a20 a21 a22 thrown most rules editions orders sizes ops numbers cells hasFallback fallbackKinds fallbacks facts states counts days toldAt tells handles handleFacts failures failedRule failedHow answers givers stack high steps how cellNow own has)) (va_Qi (fun (r : Int32) (u : Int32 × (Nat → Int64)) => (r, u) = f_mfact facts k w) (fun u t => va_P G vwCl (W_Mod cI cL cZ cR cE a0 a1 a2 a3 a4 a5 a6 a7 a8 a9 a10 a11 a12 a13 a14 a15 a16 a17 a18 a19 a20 a21 a22 u.1 most rules editions orders sizes ops numbers cells hasFallback fallbackKinds fallbacks u.2 states counts days toldAt tells handles handleFacts failures failedRule failedHow answers givers stack high steps how cellNow own has) t.heap ∧ va_K G vwCl (TYS cI cL cZ cR cE) t ∧ va_D (va_A (W_Mod cI cL cZ cR cE a0 a1 a2 a3 a4 a5 a6 a7 a8 a9 a10 a11 a12 a13 a14 a15 a16 a17 a18 a19 a20 a21 a22 thrown most rules editions orders sizes ops numbers cells hasFallback fallbackKinds fallbacks facts states counts days toldAt tells handles handleFacts failures failedRule failedHow answers givers stack high steps how cellNow own has) sz) (W_Mod cI cL cZ cR cE a0 a1 a2 a3 a4 a5 a6 a7 a8 a9 a10 a11 a12 a13 a14 a15 a16 a17 a18 a19 a20 a21 a22 u.1 most rules editions orders sizes ops numbers cells hasFallback fallbackKinds fallbacks u.2 states counts days toldAt tells handles handleFacts failures failedRule failedHow answers givers stack high steps how cellNow own has)) (va_A (W_Mod cI cL cZ cR cE a0 a1 a2 a3 a4 a5 a6 a7 a8 a9 a10 a11 a12 a13 a14 a15 a16 a17 a18 a19 a20 a21 a22 thrown most rules editions orders sizes ops numbers cells hasFallback fallbackKinds fallbacks facts states counts days toldAt tells handles handleFacts failures failedRule failedHow answers givers stack high steps how cellNow own has) sz)) 0 0 (va_A (W_Mod cI cL cZ cR cE a0 a1 a2 a3 a4 a5 a6 a7 a8 a9 a10 a11 a12 a13 a14 a15 a16 a17 a18 a19 a20 a21 a22 thrown most rules editions orders sizes ops numbers cells hasFallback fallbackKinds fallbacks facts states counts days toldAt tells handles handleFacts failures failedRule failedHow answers givers stack high steps how cellNow own has) sz) := by
  refine Met.ofW (cc := b_Mo_fact) (maxL := 4) (ret := (some .int)) (by decide) rfl ?_
  intro p e s m args below meth c s₁ B hml hv
  obtain ⟨rfl, hsz, hP, hK, hD0, hN⟩ := hv
  have hx := B.exec
  have hb := B.bytes
  have hr := B.returns
  have hts := atoms_spec (ws := w_Mo_fact) B.pre
  have hown : s.vm.findClass R_Mo = some m.cls := findClass_of_methodNamed B.named
  have hlocks := B.notSynchronized
  subst hsz
  have hD := hD0.self (sz := s.heap.size)
  clear hD0
  generalize hAe : va_A (W_Mod cI cL cZ cR cE a0 a1 a2 a3 a4 a5 a6 a7 a8 a9 a10 a11 a12 a13 a14 a15 a16 a17 a18 a19 a20 a21 a22 thrown most rules editions orders sizes ops numbers cells hasFallback fallbackKinds fallbacks facts states counts days toldAt tells handles handleFacts failures failedRule failedHow answers givers stack high steps how cellNow own has) s.heap.size = A at hD ⊢
  have hA : ∀ q : Nat, s.heap.size ≤ q → A q := fun q h => by rw [← hAe]; exact Or.inr h
  clear hAe
  have hS : va_S A s.heap s.heap [] := va_S.rf
  obtain ⟨H, hH⟩ : ∃ H, H = s.heap := ⟨_, rfl⟩
  rw [← hH] at hP
  replace hS : va_S A s.heap H [] := by rw [hH]; exact hS
  rw [← hH]
  clear hH
  have hi_2 : ∀ w ∈ u_ws R_Mo T_Mo 32, w ∈ w_Mo_fact := fun w h => List.mem_cons_of_mem _ (iu_Mo w h)
  have hk_1 := hts (.fieldLink R_Mo 82 "HandlingRulesModel" "thrown" "I") (List.mem_cons_of_mem _ kw_565)
  have hk_3 := hts (.constantLong R_Mo 102 7) (List.mem_cons_of_mem _ kw_692)
  have hk_4 := hts (.fieldLink R_Mo 39 "HandlingRulesModel" "facts" "[J") (List.mem_cons_of_mem _ kw_577)
  have hl := lv_entry ([.ref a0, .int k, .long w]) (n := 4) (Nat.le_of_ble_eq_true rfl)
  rw [lg_entry_eq]
  generalize (lg_sl ([.ref a0, .int k, .long w]) ++ List.replicate (4 - (lg_sl ([.ref a0, .int k, .long w])).length) Slot.unset).toArray = ls at hl ⊢
  replace hl : lv_has ls 4 [(0, .ref a0), (1, .int k), (2, .long w)] := hl
  generalize hT : f_mfact facts k w = T
  refine lv_aload_n hx hb d_Mo_fact_0 rfl (lv_at hl 0 rfl) ?_
  refine lv_iconst (v := 0) hx hb d_Mo_fact_1 (by decide) ?_
  refine va_put (D := G) (ci := 6) (v := .int 0) (ty := (.int)) (C := R_Mo) (T := T_Mo) (N := 32) hx hb hts hi_2 ty_Mo tyk_Mo nm_Mo hown hK hP hD hS 0 rfl rfl 0 (by decide) hk_1 (fun _ h9 => h9) rfl (by decide +kernel) rfl rfl (Nat.le_of_ble_eq_true rfl) d_Mo_fact_2 (fun H locs hP hD hS => ?_)
  replace hP : va_P G vwCl (W_Mod cI cL cZ cR cE a0 a1 a2 a3 a4 a5 a6 a7 a8 a9 a10 a11 a12 a13 a14 a15 a16 a17 a18 a19 a20 a21 a22 0 most rules editions orders sizes ops numbers cells hasFallback fallbackKinds fallbacks facts states counts days toldAt tells handles handleFacts failures failedRule failedHow answers givers stack high steps how cellNow own has) H := hP
  replace hD : va_D A (W_Mod cI cL cZ cR cE a0 a1 a2 a3 a4 a5 a6 a7 a8 a9 a10 a11 a12 a13 a14 a15 a16 a17 a18 a19 a20 a21 a22 0 most rules editions orders sizes ops numbers cells hasFallback fallbackKinds fallbacks facts states counts days toldAt tells handles handleFacts failures failedRule failedHow answers givers stack high steps how cellNow own has) := hD
  refine lv_iload_n hx hb d_Mo_fact_5 rfl (lv_at hl 1 rfl) ?_
  refine lv_i2l (v := k.toInt64) hx hb d_Mo_fact_6 rfl ?_
  refine lv_lconst (v := 0) hx hb d_Mo_fact_7 (by decide) ?_
  refine lv_ldc2 (v := 7) hx hb hown hk_3 d_Mo_fact_8 ?_
  refine vp_callSi (W.runS (As := [.long k.toInt64, .long 0, .long 7]) (rest := []) ⟨hx, hb, hml, hown, hts⟩ (c_mwithin l G cI cL cZ cR cE  k.toInt64 0 7) (va_cwS 3 hts (gS kw_675 kw_676 kw_21 kw_677) rfl rfl rfl (by decide +kernel) ⟨Nat.le_of_ble_eq_true rfl, Nat.le_of_ble_eq_true rfl⟩) (preRS_of hN hK hP [] rfl) rfl rfl hl.1 rfl (lv_room (Nat.le_of_ble_eq_true rfl)) d_Mo_fact_11 ⟨Nat.zero_le _, Nat.zero_le _⟩) (fun r_1 hw => ?_)
  subst hw
  refine lv_if_ne (tgt := 20) hx hb d_Mo_fact_14 (by decide) (fun c_2 => ?_) (fun c_2 => ?_)
  · refine lv_aload_n hx hb d_Mo_fact_20 rfl (lv_at hl 0 rfl) ?_
    refine va_get (D := G) (ci := 6) (v := .ref a10) (C := R_Mo) (T := T_Mo) (N := 32) hx hb hts hi_2 hown hK hP 0 rfl rfl 12 (by decide) hk_4 (fun _ h9 => h9) rfl d_Mo_fact_21 ?_
    refine lv_iload_n hx hb d_Mo_fact_24 rfl (lv_at hl 1 rfl) ?_
    refine lv_lload_n hx hb d_Mo_fact_25 rfl (lv_at hl 2 rfl) ?_
    refine va_last hx hb hK hP hD hS 10 1 rfl rfl (ix_mw c_2 rfl (by decide)) d_Mo_fact_26 (fun H locs hP hD hS => ?_)
    replace hP : va_P G vwCl (W_Mod cI cL cZ cR cE a0 a1 a2 a3 a4 a5 a6 a7 a8 a9 a10 a11 a12 a13 a14 a15 a16 a17 a18 a19 a20 a21 a22 0 most rules editions orders sizes ops numbers cells hasFallback fallbackKinds fallbacks (vp_updL facts k.toNatClampNeg w) states counts days toldAt tells handles handleFacts failures failedRule failedHow answers givers stack high steps how cellNow own has) H := hP
    replace hD : va_D A (W_Mod cI cL cZ cR cE a0 a1 a2 a3 a4 a5 a6 a7 a8 a9 a10 a11 a12 a13 a14 a15 a16 a17 a18 a19 a20 a21 a22 0 most rules editions orders sizes ops numbers cells hasFallback fallbackKinds fallbacks (vp_updL facts k.toNatClampNeg w) states counts days toldAt tells handles handleFacts failures failedRule failedHow answers givers stack high steps how cellNow own has) := hD
    refine lv_iconst (v := 1) hx hb d_Mo_fact_27 (by decide) ?_
    exact W.iret (v := 1) hx hb hr (fun t ht hW => ⟨⟨1, (0, vp_updL facts k.toNatClampNeg w), rfl, (by rw [← hT]; simp only [f_mfact, if_neg c_2]), by rw [ht]; exact hP, va_K.moved hW.alike hK, hD⟩, hS.F ht⟩) hS.2.2 d_Mo_fact_28
  · refine lv_bipush (v := (-102)) hx hb d_Mo_fact_17 (by decide) ?_
    exact W.iret (v := (-102)) hx hb hr (fun t ht hW => ⟨⟨(-102), (0, facts), rfl, (by rw [← hT]; simp only [f_mfact, if_pos c_2]), by rw [ht]; exact hP, va_K.moved hW.alike hK, hD⟩, hS.F ht⟩) hS.2.2 d_Mo_fact_19
def f_manswer (answers : Nat → Int64) (k : Int32) : Int64 × Int32 := if (f_mwithin k.toInt64 0 3) = 0 then (0, 0) else (answers k.toNatClampNeg, 0)
set_option maxHeartbeats 4000000 in
set_option maxRecDepth 100000 in
theorem c_manswer (l : Launch) (G : va_G) (cI cL cZ cR cE : ClassId) (sz : Nat) (a0 a1 a2 a3 a4 a5 a6 a7 a8 a9 a10 a11 a12 a13 a14 a15 a16 a17 a18 a19 a20 a21 a22 : Nat) (thrown : Int32) (most : Int32) (rules : Int32) (editions : Nat → Int32) (orders : Nat → Int32) (sizes : Nat → Int32) (ops : Nat → Int32) (numbers : Nat → Int64) (cells : Nat → Int64) (hasFallback : Nat → Int32) (fallbackKinds : Nat → Int32) (fallbacks : Nat → Int64) (facts : Nat → Int64) (states : Nat → Int32) (counts : Nat → Int32) (days : Nat → Int32) (toldAt : Nat → Int32) (tells : Int32) (handles : Int32) (handleFacts : Nat → Int32) (failures : Int32) (failedRule : Nat → Int32) (failedHow : Nat → Int32) (answers : Nat → Int64) (givers : Nat → Int32) (stack : Nat → Int64) (high : Int32) (steps : Int32) (how : Int32) (cellNow : Int64) (own : Nat → Int64) (has : Nat → Int32) (k : Int32) : Met l y_Mo_answer w_Mo_answer ({ frames := 1, cells := 0, slots := 0, locals := 25 }) (preW G (TYS cI cL cZ cR cE) [.ref a0, .int k] sz (W_Mod cI cL cZ cR cE a0 a1 a2 a3 a4 a5 a6 a7 a8 a9 a10 a11 a12 a13 a14 a15 a16 a17 a18 a19 a20 a21 a22 thrown most rules editions orders sizes ops numbers cells hasFallback fallbackKinds fallbacks facts states counts days toldAt tells handles handleFacts failures failedRule failedHow answers givers stack high steps how cellNow own has)) (va_Ql (fun (r : Int64) (u : Int32) => (r, u) = f_manswer answers k) (fun u t => va_P G vwCl (W_Mod cI cL cZ cR cE a0 a1 a2 a3 a4 a5 a6 a7 a8 a9 a10 a11 a12 a13 a14 a15 a16 a17 a18 a19 a20 a21 a22 u most rules editions orders sizes ops numbers cells hasFallback fallbackKinds fallbacks facts states counts days toldAt tells handles handleFacts failures failedRule failedHow answers givers stack high steps how cellNow own has) t.heap ∧ va_K G vwCl (TYS cI cL cZ cR cE) t ∧ va_D (va_A (W_Mod cI cL cZ cR cE a0 a1 a2 a3 a4 a5 a6 a7 a8 a9 a10 a11 a12 a13 a14 a15 a16 a17 a18 a19 a20 a21 a22 thrown most rules editions orders sizes ops numbers cells hasFallback fallbackKinds fallbacks facts states counts days toldAt tells handles handleFacts failures failedRule failedHow answers givers stack high steps how cellNow own has) sz) (W_Mod cI cL cZ cR cE a0 a1 a2 a3 a4 a5 a6 a7 a8 a9 a10 a11 a12 a13 a14 a15 a16 a17 a18 a19 a20 a21 a22 u most rules editions orders sizes ops numbers cells hasFallback fallbackKinds fallbacks facts states counts days toldAt tells handles handleFacts failures failedRule failedHow answers givers stack high steps how cellNow own has)) (va_A (W_Mod cI cL cZ cR cE a0 a1 a2 a3 a4 a5 a6 a7 a8 a9 a10 a11 a12 a13 a14 a15 a16 a17 a18 a19 a20 a21 a22 thrown most rules editions orders sizes ops numbers cells hasFallback fallbackKinds fallbacks facts states counts days toldAt tells handles handleFacts failures failedRule failedHow answers givers stack high steps how cellNow own has) sz)) 0 0 (va_A (W_Mod cI cL cZ cR cE a0 a1 a2 a3 a4 a5 a6 a7 a8 a9 a10 a11 a12 a13 a14 a15 a16 a17 a18 a19 a20 a21 a22 thrown most rules editions orders sizes ops numbers cells hasFallback fallbackKinds fallbacks facts states counts days toldAt tells handles handleFacts failures failedRule failedHow answers givers stack high steps how cellNow own has) sz) := by
  refine Met.ofW (cc := b_Mo_answer) (maxL := 2) (ret := (some .long)) (by decide) rfl ?_
  intro p e s m args below meth c s₁ B hml hv
  obtain ⟨rfl, hsz, hP, hK, hD0, hN⟩ := hv
  have hx := B.exec
  have hb := B.bytes
  have hr := B.returns
  have hts := atoms_spec (ws := w_Mo_answer) B.pre
  have hown : s.vm.findClass R_Mo = some m.cls := findClass_of_methodNamed B.named
  have hlocks := B.notSynchronized
  subst hsz
  have hD := hD0.self (sz := s.heap.size)
  clear hD0
  generalize hAe : va_A (W_Mod cI cL cZ cR cE a0 a1 a2 a3 a4 a5 a6 a7 a8 a9 a10 a11 a12 a13 a14 a15 a16 a17 a18 a19 a20 a21 a22 thrown most rules editions orders sizes ops numbers cells hasFallback fallbackKinds fallbacks facts states counts days toldAt tells handles handleFacts failures failedRule failedHow answers givers stack high steps how cellNow own has) s.heap.size = A at hD ⊢
  have hA : ∀ q : Nat, s.heap.size ≤ q → A q := fun q h => by rw [← hAe]; exact Or.inr h
  clear hAe
  have hS : va_S A s.heap s.heap [] := va_S.rf
  obtain ⟨H, hH⟩ : ∃ H, H = s.heap := ⟨_, rfl⟩
  rw [← hH] at hP
  replace hS : va_S A s.heap H [] := by rw [hH]; exact hS
  rw [← hH]
  clear hH
  have hi_2 : ∀ w ∈ u_ws R_Mo T_Mo 32, w ∈ w_Mo_answer := fun w h => List.mem_cons_of_mem _ (iu_Mo w h)
  have hk_1 := hts (.fieldLink R_Mo 82 "HandlingRulesModel" "thrown" "I") (List.mem_cons_of_mem _ kw_565)
  have hk_3 := hts (.constantLong R_Mo 108 3) (List.mem_cons_of_mem _ kw_695)
  have hk_4 := hts (.fieldLink R_Mo 63 "HandlingRulesModel" "answers" "[J") (List.mem_cons_of_mem _ kw_588)
  have hl := lv_entry ([.ref a0, .int k]) (n := 2) (Nat.le_of_ble_eq_true rfl)
  rw [lg_entry_eq]
  generalize (lg_sl ([.ref a0, .int k]) ++ List.replicate (2 - (lg_sl ([.ref a0, .int k])).length) Slot.unset).toArray = ls at hl ⊢
  replace hl : lv_has ls 2 [(0, .ref a0), (1, .int k)] := hl
  generalize hT : f_manswer answers k = T
  refine lv_aload_n hx hb d_Mo_answer_0 rfl (lv_at hl 0 rfl) ?_
  refine lv_iconst (v := 0) hx hb d_Mo_answer_1 (by decide) ?_
  refine va_put (D := G) (ci := 6) (v := .int 0) (ty := (.int)) (C := R_Mo) (T := T_Mo) (N := 32) hx hb hts hi_2 ty_Mo tyk_Mo nm_Mo hown hK hP hD hS 0 rfl rfl 0 (by decide) hk_1 (fun _ h9 => h9) rfl (by decide +kernel) rfl rfl (Nat.le_of_ble_eq_true rfl) d_Mo_answer_2 (fun H locs hP hD hS => ?_)
  replace hP : va_P G vwCl (W_Mod cI cL cZ cR cE a0 a1 a2 a3 a4 a5 a6 a7 a8 a9 a10 a11 a12 a13 a14 a15 a16 a17 a18 a19 a20 a21 a22 0 most rules editions orders sizes ops numbers cells hasFallback fallbackKinds fallbacks facts states counts days toldAt tells handles handleFacts failures failedRule failedHow answers givers stack high steps how cellNow own has) H := hP
  replace hD : va_D A (W_Mod cI cL cZ cR cE a0 a1 a2 a3 a4 a5 a6 a7 a8 a9 a10 a11 a12 a13 a14 a15 a16 a17 a18 a19 a20 a21 a22 0 most rules editions orders sizes ops numbers cells hasFallback fallbackKinds fallbacks facts states counts days toldAt tells handles handleFacts failures failedRule failedHow answers givers stack high steps how cellNow own has) := hD
  refine lv_iload_n hx hb d_Mo_answer_5 rfl (lv_at hl 1 rfl) ?_
  refine lv_i2l (v := k.toInt64) hx hb d_Mo_answer_6 rfl ?_
  refine lv_lconst (v := 0) hx hb d_Mo_answer_7 (by decide) ?_
  refine lv_ldc2 (v := 3) hx hb hown hk_3 d_Mo_answer_8 ?_
  refine vp_callSi (W.runS (As := [.long k.toInt64, .long 0, .long 3]) (rest := []) ⟨hx, hb, hml, hown, hts⟩ (c_mwithin l G cI cL cZ cR cE  k.toInt64 0 3) (va_cwS 3 hts (gS kw_675 kw_676 kw_21 kw_677) rfl rfl rfl (by decide +kernel) ⟨Nat.le_of_ble_eq_true rfl, Nat.le_of_ble_eq_true rfl⟩) (preRS_of hN hK hP [] rfl) rfl rfl hl.1 rfl (lv_room (Nat.le_of_ble_eq_true rfl)) d_Mo_answer_11 ⟨Nat.zero_le _, Nat.zero_le _⟩) (fun r_1 hw => ?_)
  subst hw
  refine lv_if_eq (tgt := 26) hx hb d_Mo_answer_14 (by decide) (fun c_2 => ?_) (fun c_2 => ?_)
  · refine lv_lconst (v := 0) hx hb d_Mo_answer_26 (by decide) ?_
    exact W.lret (v := 0) hx hb hr (fun t ht hW => ⟨⟨0, 0, rfl, (by rw [← hT]; simp only [f_manswer, if_pos c_2]), by rw [ht]; exact hP, va_K.moved hW.alike hK, hD⟩, hS.F ht⟩) hS.2.2 d_Mo_answer_27
  · refine lv_aload_n hx hb d_Mo_answer_17 rfl (lv_at hl 0 rfl) ?_
    refine va_get (D := G) (ci := 6) (v := .ref a18) (C := R_Mo) (T := T_Mo) (N := 32) hx hb hts hi_2 hown hK hP 0 rfl rfl 23 (by decide) hk_4 (fun _ h9 => h9) rfl d_Mo_answer_18 ?_
    refine lv_iload_n hx hb d_Mo_answer_21 rfl (lv_at hl 1 rfl) ?_
    refine va_lald hx hb hK hP 18 1 rfl rfl (ix_mw c_2 rfl (by decide)) d_Mo_answer_22 ?_
    refine lv_goto (tgt := 27) hx hb d_Mo_answer_23 (by decide) ?_
    exact W.lret (v := answers k.toNatClampNeg) hx hb hr (fun t ht hW => ⟨⟨answers k.toNatClampNeg, 0, rfl, (by rw [← hT]; simp only [f_manswer, if_neg c_2]), by rw [ht]; exact hP, va_K.moved hW.alike hK, hD⟩, hS.F ht⟩) hS.2.2 d_Mo_answer_27
def f_mby (givers : Nat → Int32) (k : Int32) : Int32 × Int32 := if (f_mwithin k.toInt64 0 3) = 0 then ((-1), 0) else (givers k.toNatClampNeg, 0)
set_option maxHeartbeats 4000000 in
set_option maxRecDepth 100000 in
theorem c_mby (l : Launch) (G : va_G) (cI cL cZ cR cE : ClassId) (sz : Nat) (a0 a1 a2 a3 a4 a5 a6 a7 a8 a9 a10 a11 a12 a13 a14 a15 a16 a17 a18 a19 a20 a21 a22 : Nat) (thrown : Int32) (most : Int32) (rules : Int32) (editions : Nat → Int32) (orders : Nat → Int32) (sizes : Nat → Int32) (ops : Nat → Int32) (numbers : Nat → Int64) (cells : Nat → Int64) (hasFallback : Nat → Int32) (fallbackKinds : Nat → Int32) (fallbacks : Nat → Int64) (facts : Nat → Int64) (states : Nat → Int32) (counts : Nat → Int32) (days : Nat → Int32) (toldAt : Nat → Int32) (tells : Int32) (handles : Int32) (handleFacts : Nat → Int32) (failures : Int32) (failedRule : Nat → Int32) (failedHow : Nat → Int32) (answers : Nat → Int64) (givers : Nat → Int32) (stack : Nat → Int64) (high : Int32) (steps : Int32) (how : Int32) (cellNow : Int64) (own : Nat → Int64) (has : Nat → Int32) (k : Int32) : Met l y_Mo_by w_Mo_by ({ frames := 1, cells := 0, slots := 0, locals := 25 }) (preW G (TYS cI cL cZ cR cE) [.ref a0, .int k] sz (W_Mod cI cL cZ cR cE a0 a1 a2 a3 a4 a5 a6 a7 a8 a9 a10 a11 a12 a13 a14 a15 a16 a17 a18 a19 a20 a21 a22 thrown most rules editions orders sizes ops numbers cells hasFallback fallbackKinds fallbacks facts states counts days toldAt tells handles handleFacts failures failedRule failedHow answers givers stack high steps how cellNow own has)) (va_Qi (fun (r : Int32) (u : Int32) => (r, u) = f_mby givers k) (fun u t => va_P G vwCl (W_Mod cI cL cZ cR cE a0 a1 a2 a3 a4 a5 a6 a7 a8 a9 a10 a11 a12 a13 a14 a15 a16 a17 a18 a19 a20 a21 a22 u most rules editions orders sizes ops numbers cells hasFallback fallbackKinds fallbacks facts states counts days toldAt tells handles handleFacts failures failedRule failedHow answers givers stack high steps how cellNow own has) t.heap ∧ va_K G vwCl (TYS cI cL cZ cR cE) t ∧ va_D (va_A (W_Mod cI cL cZ cR cE a0 a1 a2 a3 a4 a5 a6 a7 a8 a9 a10 a11 a12 a13 a14 a15 a16 a17 a18 a19 a20 a21 a22 thrown most rules editions orders sizes ops numbers cells hasFallback fallbackKinds fallbacks facts states counts days toldAt tells handles handleFacts failures failedRule failedHow answers givers stack high steps how cellNow own has) sz) (W_Mod cI cL cZ cR cE a0 a1 a2 a3 a4 a5 a6 a7 a8 a9 a10 a11 a12 a13 a14 a15 a16 a17 a18 a19 a20 a21 a22 u most rules editions orders sizes ops numbers cells hasFallback fallbackKinds fallbacks facts states counts days toldAt tells handles handleFacts failures failedRule failedHow answers givers stack high steps how cellNow own has)) (va_A (W_Mod cI cL cZ cR cE a0 a1 a2 a3 a4 a5 a6 a7 a8 a9 a10 a11 a12 a13 a14 a15 a16 a17 a18 a19 a20 a21 a22 thrown most rules editions orders sizes ops numbers cells hasFallback fallbackKinds fallbacks facts states counts days toldAt tells handles handleFacts failures failedRule failedHow answers givers stack high steps how cellNow own has) sz)) 0 0 (va_A (W_Mod cI cL cZ cR cE a0 a1 a2 a3 a4 a5 a6 a7 a8 a9 a10 a11 a12 a13 a14 a15 a16 a17 a18 a19 a20 a21 a22 thrown most rules editions orders sizes ops numbers cells hasFallback fallbackKinds fallbacks facts states counts days toldAt tells handles handleFacts failures failedRule failedHow answers givers stack high steps how cellNow own has) sz) := by
  refine Met.ofW (cc := b_Mo_by) (maxL := 2) (ret := (some .int)) (by decide) rfl ?_
  intro p e s m args below meth c s₁ B hml hv
  obtain ⟨rfl, hsz, hP, hK, hD0, hN⟩ := hv
  have hx := B.exec
  have hb := B.bytes
  have hr := B.returns
  have hts := atoms_spec (ws := w_Mo_by) B.pre
  have hown : s.vm.findClass R_Mo = some m.cls := findClass_of_methodNamed B.named
  have hlocks := B.notSynchronized
  subst hsz
  have hD := hD0.self (sz := s.heap.size)
  clear hD0
  generalize hAe : va_A (W_Mod cI cL cZ cR cE a0 a1 a2 a3 a4 a5 a6 a7 a8 a9 a10 a11 a12 a13 a14 a15 a16 a17 a18 a19 a20 a21 a22 thrown most rules editions orders sizes ops numbers cells hasFallback fallbackKinds fallbacks facts states counts days toldAt tells handles handleFacts failures failedRule failedHow answers givers stack high steps how cellNow own has) s.heap.size = A at hD ⊢
  have hA : ∀ q : Nat, s.heap.size ≤ q → A q := fun q h => by rw [← hAe]; exact Or.inr h
  clear hAe
  have hS : va_S A s.heap s.heap [] := va_S.rf
  obtain ⟨H, hH⟩ : ∃ H, H = s.heap := ⟨_, rfl⟩
  rw [← hH] at hP
  replace hS : va_S A s.heap H [] := by rw [hH]; exact hS
  rw [← hH]
  clear hH
  have hi_2 : ∀ w ∈ u_ws R_Mo T_Mo 32, w ∈ w_Mo_by := fun w h => List.mem_cons_of_mem _ (iu_Mo w h)
  have hk_1 := hts (.fieldLink R_Mo 82 "HandlingRulesModel" "thrown" "I") (List.mem_cons_of_mem _ kw_565)
  have hk_3 := hts (.constantLong R_Mo 108 3) (List.mem_cons_of_mem _ kw_695)
  have hk_4 := hts (.fieldLink R_Mo 66 "HandlingRulesModel" "givers" "[I") (List.mem_cons_of_mem _ kw_589)
  have hl := lv_entry ([.ref a0, .int k]) (n := 2) (Nat.le_of_ble_eq_true rfl)
  rw [lg_entry_eq]
  generalize (lg_sl ([.ref a0, .int k]) ++ List.replicate (2 - (lg_sl ([.ref a0, .int k])).length) Slot.unset).toArray = ls at hl ⊢
  replace hl : lv_has ls 2 [(0, .ref a0), (1, .int k)] := hl
  generalize hT : f_mby givers k = T
  refine lv_aload_n hx hb d_Mo_by_0 rfl (lv_at hl 0 rfl) ?_
  refine lv_iconst (v := 0) hx hb d_Mo_by_1 (by decide) ?_
  refine va_put (D := G) (ci := 6) (v := .int 0) (ty := (.int)) (C := R_Mo) (T := T_Mo) (N := 32) hx hb hts hi_2 ty_Mo tyk_Mo nm_Mo hown hK hP hD hS 0 rfl rfl 0 (by decide) hk_1 (fun _ h9 => h9) rfl (by decide +kernel) rfl rfl (Nat.le_of_ble_eq_true rfl) d_Mo_by_2 (fun H locs hP hD hS => ?_)
  replace hP : va_P G vwCl (W_Mod cI cL cZ cR cE a0 a1 a2 a3 a4 a5 a6 a7 a8 a9 a10 a11 a12 a13 a14 a15 a16 a17 a18 a19 a20 a21 a22 0 most rules editions orders sizes ops numbers cells hasFallback fallbackKinds fallbacks facts states counts days toldAt tells handles handleFacts failures failedRule failedHow answers givers stack high steps how cellNow own has) H := hP
  replace hD : va_D A (W_Mod cI cL cZ cR cE a0 a1 a2 a3 a4 a5 a6 a7 a8 a9 a10 a11 a12 a13 a14 a15 a16 a17 a18 a19 a20 a21 a22 0 most rules editions orders sizes ops numbers cells hasFallback fallbackKinds fallbacks facts states counts days toldAt tells handles handleFacts failures failedRule failedHow answers givers stack high steps how cellNow own has) := hD
  refine lv_iload_n hx hb d_Mo_by_5 rfl (lv_at hl 1 rfl) ?_
  refine lv_i2l (v := k.toInt64) hx hb d_Mo_by_6 rfl ?_
  refine lv_lconst (v := 0) hx hb d_Mo_by_7 (by decide) ?_
  refine lv_ldc2 (v := 3) hx hb hown hk_3 d_Mo_by_8 ?_
  refine vp_callSi (W.runS (As := [.long k.toInt64, .long 0, .long 3]) (rest := []) ⟨hx, hb, hml, hown, hts⟩ (c_mwithin l G cI cL cZ cR cE  k.toInt64 0 3) (va_cwS 3 hts (gS kw_675 kw_676 kw_21 kw_677) rfl rfl rfl (by decide +kernel) ⟨Nat.le_of_ble_eq_true rfl, Nat.le_of_ble_eq_true rfl⟩) (preRS_of hN hK hP [] rfl) rfl rfl hl.1 rfl (lv_room (Nat.le_of_ble_eq_true rfl)) d_Mo_by_11 ⟨Nat.zero_le _, Nat.zero_le _⟩) (fun r_1 hw => ?_)
  subst hw
  refine lv_if_eq (tgt := 26) hx hb d_Mo_by_14 (by decide) (fun c_2 => ?_) (fun c_2 => ?_)
  · refine lv_iconst (v := (-1)) hx hb d_Mo_by_26 (by decide) ?_
    exact W.iret (v := (-1)) hx hb hr (fun t ht hW => ⟨⟨(-1), 0, rfl, (by rw [← hT]; simp only [f_mby, if_pos c_2]), by rw [ht]; exact hP, va_K.moved hW.alike hK, hD⟩, hS.F ht⟩) hS.2.2 d_Mo_by_27
  · refine lv_aload_n hx hb d_Mo_by_17 rfl (lv_at hl 0 rfl) ?_
    refine va_get (D := G) (ci := 6) (v := .ref a19) (C := R_Mo) (T := T_Mo) (N := 32) hx hb hts hi_2 hown hK hP 0 rfl rfl 24 (by decide) hk_4 (fun _ h9 => h9) rfl d_Mo_by_18 ?_
    refine lv_iload_n hx hb d_Mo_by_21 rfl (lv_at hl 1 rfl) ?_
    refine va_iald hx hb hK hP 19 0 rfl rfl (ix_mw c_2 rfl (by decide)) d_Mo_by_22 ?_
    refine lv_goto (tgt := 27) hx hb d_Mo_by_23 (by decide) ?_
    exact W.iret (v := givers k.toNatClampNeg) hx hb hr (fun t ht hW => ⟨⟨givers k.toNatClampNeg, 0, rfl, (by rw [← hT]; simp only [f_mby, if_neg c_2]), by rw [ht]; exact hP, va_K.moved hW.alike hK, hD⟩, hS.F ht⟩) hS.2.2 d_Mo_by_27
def f_mpush (stack : Nat → Int64) (high : Int32) (how : Int32) (w : Int64) : (Nat → Int64) × Int32 × Int32 := if high = 8 then (stack, high, 3) else (vp_updL stack high.toNatClampNeg w, high + 1, how)
set_option maxHeartbeats 4000000 in
set_option maxRecDepth 100000 in
theorem c_mpush (l : Launch) (G : va_G) (cI cL cZ cR cE : ClassId) (sz : Nat) (a0 a1 a2 a3 a4 a5 a6 a7 a8 a9 a10 a11 a12 a13 a14 a15 a16 a17 a18 a19 a20 a21 a22 : Nat) (thrown : Int32) (most : Int32) (rules : Int32) (editions : Nat → Int32) (orders : Nat → Int32) (sizes : Nat → Int32) (ops : Nat → Int32) (numbers : Nat → Int64) (cells : Nat → Int64) (hasFallback : Nat → Int32) (fallbackKinds : Nat → Int32) (fallbacks : Nat → Int64) (facts : Nat → Int64) (states : Nat → Int32) (counts : Nat → Int32) (days : Nat → Int32) (toldAt : Nat → Int32) (tells : Int32) (handles : Int32) (handleFacts : Nat → Int32) (failures : Int32) (failedRule : Nat → Int32) (failedHow : Nat → Int32) (answers : Nat → Int64) (givers : Nat → Int32) (stack : Nat → Int64) (high : Int32) (steps : Int32) (how : Int32) (cellNow : Int64) (own : Nat → Int64) (has : Nat → Int32) (w : Int64) (hh : 0 ≤ high.toInt ∧ high.toInt ≤ 8) : Met l y_Mo_push w_Mo_push ({ frames := 0, cells := 0, slots := 0, locals := 0 }) (preW G (TYS cI cL cZ cR cE) [.ref a0, .long w] sz (W_Mod cI cL cZ cR cE a0 a1 a2 a3 a4 a5 a6 a7 a8 a9 a10 a11 a12 a13 a14 a15 a16 a17 a18 a19 a20 a21 a22 thrown most rules editions orders sizes ops numbers cells hasFallback fallbackKinds fallbacks facts states counts days toldAt tells handles handleFacts failures failedRule failedHow answers givers stack high steps how cellNow own has)) (va_Qv (fun u : (Nat → Int64) × Int32 × Int32 => u = f_mpush stack high how w) (fun u t => va_P G vwCl (W_Mod cI cL cZ cR cE a0 a1 a2 a3 a4 a5 a6 a7 a8 a9 a10 a11 a12 a13 a14 a15 a16 a17 a18 a19 a20 a21 a22 thrown most rules editions orders sizes ops numbers cells hasFallback fallbackKinds fallbacks facts states counts days toldAt tells handles handleFacts failures failedRule failedHow answers givers u.1 u.2.1 steps u.2.2 cellNow own has) t.heap ∧ va_K G vwCl (TYS cI cL cZ cR cE) t ∧ va_D (va_A (W_Mod cI cL cZ cR cE a0 a1 a2 a3 a4 a5 a6 a7 a8 a9 a10 a11 a12 a13 a14 a15 a16 a17 a18 a19 a20 a21 a22 thrown most rules editions orders sizes ops numbers cells hasFallback fallbackKinds fallbacks facts states counts days toldAt tells handles handleFacts failures failedRule failedHow answers givers stack high steps how cellNow own has) sz) (W_Mod cI cL cZ cR cE a0 a1 a2 a3 a4 a5 a6 a7 a8 a9 a10 a11 a12 a13 a14 a15 a16 a17 a18 a19 a20 a21 a22 thrown most rules editions orders sizes ops numbers cells hasFallback fallbackKinds fallbacks facts states counts days toldAt tells handles handleFacts failures failedRule failedHow answers givers u.1 u.2.1 steps u.2.2 cellNow own has)) (va_A (W_Mod cI cL cZ cR cE a0 a1 a2 a3 a4 a5 a6 a7 a8 a9 a10 a11 a12 a13 a14 a15 a16 a17 a18 a19 a20 a21 a22 thrown most rules editions orders sizes ops numbers cells hasFallback fallbackKinds fallbacks facts states counts days toldAt tells handles handleFacts failures failedRule failedHow answers givers stack high steps how cellNow own has) sz)) 0 0 (va_A (W_Mod cI cL cZ cR cE a0 a1 a2 a3 a4 a5 a6 a7 a8 a9 a10 a11 a12 a13 a14 a15 a16 a17 a18 a19 a20 a21 a22 thrown most rules editions orders sizes ops numbers cells hasFallback fallbackKinds fallbacks facts states counts days toldAt tells handles handleFacts failures failedRule failedHow answers givers stack high steps how cellNow own has) sz) := by
  refine Met.ofW (cc := b_Mo_push) (maxL := 3) (ret := none) (by decide) rfl ?_
  intro p e s m args below meth c s₁ B hml hv
  obtain ⟨rfl, hsz, hP, hK, hD0, hN⟩ := hv
  have hx := B.exec
  have hb := B.bytes
  have hr := B.returns
  have hts := atoms_spec (ws := w_Mo_push) B.pre
  have hown : s.vm.findClass R_Mo = some m.cls := findClass_of_methodNamed B.named
  have hlocks := B.notSynchronized
  subst hsz
  have hD := hD0.self (sz := s.heap.size)
  clear hD0
  generalize hAe : va_A (W_Mod cI cL cZ cR cE a0 a1 a2 a3 a4 a5 a6 a7 a8 a9 a10 a11 a12 a13 a14 a15 a16 a17 a18 a19 a20 a21 a22 thrown most rules editions orders sizes ops numbers cells hasFallback fallbackKinds fallbacks facts states counts days toldAt tells handles handleFacts failures failedRule failedHow answers givers stack high steps how cellNow own has) s.heap.size = A at hD ⊢
  have hA : ∀ q : Nat, s.heap.size ≤ q → A q := fun q h => by rw [← hAe]; exact Or.inr h
  clear hAe
  have hS : va_S A s.heap s.heap [] := va_S.rf
  obtain ⟨H, hH⟩ : ∃ H, H = s.heap := ⟨_, rfl⟩
  rw [← hH] at hP
  replace hS : va_S A s.heap H [] := by rw [hH]; exact hS
  rw [← hH]
  clear hH
  have hi_2 : ∀ w ∈ u_ws R_Mo T_Mo 32, w ∈ w_Mo_push := fun w h => List.mem_cons_of_mem _ (iu_Mo w h)
  have hk_1 := hts (.fieldLink R_Mo 119 "HandlingRulesModel" "high" "I") (List.mem_cons_of_mem _ kw_591)
  have hk_3 := hts (.fieldLink R_Mo 69 "HandlingRulesModel" "stack" "[J") (List.mem_cons_of_mem _ kw_590)
  have hk_4 := hts (.fieldLink R_Mo 122 "HandlingRulesModel" "how" "I") (List.mem_cons_of_mem _ kw_593)
  have hl := lv_entry ([.ref a0, .long w]) (n := 3) (Nat.le_of_ble_eq_true rfl)
  rw [lg_entry_eq]
  generalize (lg_sl ([.ref a0, .long w]) ++ List.replicate (3 - (lg_sl ([.ref a0, .long w])).length) Slot.unset).toArray = ls at hl ⊢
  replace hl : lv_has ls 3 [(0, .ref a0), (1, .long w)] := hl
  generalize hT : f_mpush stack high how w = T
  refine lv_aload_n hx hb d_Mo_push_0 rfl (lv_at hl 0 rfl) ?_
  refine va_get (D := G) (ci := 6) (v := .int high) (C := R_Mo) (T := T_Mo) (N := 32) hx hb hts hi_2 hown hK hP 0 rfl rfl 26 (by decide) hk_1 (fun _ h9 => h9) rfl d_Mo_push_1 ?_
  refine lv_bipush (v := 8) hx hb d_Mo_push_4 (by decide) ?_
  refine lv_icmp_ne (tgt := 15) hx hb d_Mo_push_6 (by decide) (fun c_1 => ?_) (fun c_1 => ?_)
  · refine lv_aload_n hx hb d_Mo_push_15 rfl (lv_at hl 0 rfl) ?_
    refine va_get (D := G) (ci := 6) (v := .ref a20) (C := R_Mo) (T := T_Mo) (N := 32) hx hb hts hi_2 hown hK hP 0 rfl rfl 25 (by decide) hk_3 (fun _ h9 => h9) rfl d_Mo_push_16 ?_
    refine lv_aload_n hx hb d_Mo_push_19 rfl (lv_at hl 0 rfl) ?_
    refine va_get (D := G) (ci := 6) (v := .int high) (C := R_Mo) (T := T_Mo) (N := 32) hx hb hts hi_2 hown hK hP 0 rfl rfl 26 (by decide) hk_1 (fun _ h9 => h9) rfl d_Mo_push_20 ?_
    refine lv_lload_n hx hb d_Mo_push_23 rfl (lv_at hl 1 rfl) ?_
    refine va_last hx hb hK hP hD hS 20 1 rfl rfl (ix_le hh c_1 rfl) d_Mo_push_24 (fun H locs hP hD hS => ?_)
    replace hP : va_P G vwCl (W_Mod cI cL cZ cR cE a0 a1 a2 a3 a4 a5 a6 a7 a8 a9 a10 a11 a12 a13 a14 a15 a16 a17 a18 a19 a20 a21 a22 thrown most rules editions orders sizes ops numbers cells hasFallback fallbackKinds fallbacks facts states counts days toldAt tells handles handleFacts failures failedRule failedHow answers givers (vp_updL stack high.toNatClampNeg w) high steps how cellNow own has) H := hP
    replace hD : va_D A (W_Mod cI cL cZ cR cE a0 a1 a2 a3 a4 a5 a6 a7 a8 a9 a10 a11 a12 a13 a14 a15 a16 a17 a18 a19 a20 a21 a22 thrown most rules editions orders sizes ops numbers cells hasFallback fallbackKinds fallbacks facts states counts days toldAt tells handles handleFacts failures failedRule failedHow answers givers (vp_updL stack high.toNatClampNeg w) high steps how cellNow own has) := hD
    refine lv_aload_n hx hb d_Mo_push_25 rfl (lv_at hl 0 rfl) ?_
    refine lv_dup hx hb d_Mo_push_26 rfl ?_
    refine va_get (D := G) (ci := 6) (v := .int high) (C := R_Mo) (T := T_Mo) (N := 32) hx hb hts hi_2 hown hK hP 0 rfl rfl 26 (by decide) hk_1 (fun _ h9 => h9) rfl d_Mo_push_27 ?_
    refine lv_iconst (v := 1) hx hb d_Mo_push_30 (by decide) ?_
    refine lv_iadd hx hb d_Mo_push_31 ?_
    refine va_put (D := G) (ci := 6) (v := .int (high + 1)) (ty := (.int)) (C := R_Mo) (T := T_Mo) (N := 32) hx hb hts hi_2 ty_Mo tyk_Mo nm_Mo hown hK hP hD hS 0 rfl rfl 26 (by decide) hk_1 (fun _ h9 => h9) rfl (by decide +kernel) rfl rfl (Nat.le_of_ble_eq_true rfl) d_Mo_push_32 (fun H locs hP hD hS => ?_)
    replace hP : va_P G vwCl (W_Mod cI cL cZ cR cE a0 a1 a2 a3 a4 a5 a6 a7 a8 a9 a10 a11 a12 a13 a14 a15 a16 a17 a18 a19 a20 a21 a22 thrown most rules editions orders sizes ops numbers cells hasFallback fallbackKinds fallbacks facts states counts days toldAt tells handles handleFacts failures failedRule failedHow answers givers (vp_updL stack high.toNatClampNeg w) (high + 1) steps how cellNow own has) H := hP
    replace hD : va_D A (W_Mod cI cL cZ cR cE a0 a1 a2 a3 a4 a5 a6 a7 a8 a9 a10 a11 a12 a13 a14 a15 a16 a17 a18 a19 a20 a21 a22 thrown most rules editions orders sizes ops numbers cells hasFallback fallbackKinds fallbacks facts states counts days toldAt tells handles handleFacts failures failedRule failedHow answers givers (vp_updL stack high.toNatClampNeg w) (high + 1) steps how cellNow own has) := hD
    exact W.vret hx hb hr (fun t ht hW => ⟨⟨(vp_updL stack high.toNatClampNeg w, high + 1, how), rfl, (by rw [← hT]; simp only [f_mpush, if_neg c_1]), by rw [ht]; exact hP, va_K.moved hW.alike hK, hD⟩, hS.F ht⟩) hS.2.2 d_Mo_push_35
  · refine lv_aload_n hx hb d_Mo_push_9 rfl (lv_at hl 0 rfl) ?_
    refine lv_iconst (v := 3) hx hb d_Mo_push_10 (by decide) ?_
    refine va_put (D := G) (ci := 6) (v := .int 3) (ty := (.int)) (C := R_Mo) (T := T_Mo) (N := 32) hx hb hts hi_2 ty_Mo tyk_Mo nm_Mo hown hK hP hD hS 0 rfl rfl 28 (by decide) hk_4 (fun _ h9 => h9) rfl (by decide +kernel) rfl rfl (Nat.le_of_ble_eq_true rfl) d_Mo_push_11 (fun H locs hP hD hS => ?_)
    replace hP : va_P G vwCl (W_Mod cI cL cZ cR cE a0 a1 a2 a3 a4 a5 a6 a7 a8 a9 a10 a11 a12 a13 a14 a15 a16 a17 a18 a19 a20 a21 a22 thrown most rules editions orders sizes ops numbers cells hasFallback fallbackKinds fallbacks facts states counts days toldAt tells handles handleFacts failures failedRule failedHow answers givers stack high steps 3 cellNow own has) H := hP
    replace hD : va_D A (W_Mod cI cL cZ cR cE a0 a1 a2 a3 a4 a5 a6 a7 a8 a9 a10 a11 a12 a13 a14 a15 a16 a17 a18 a19 a20 a21 a22 thrown most rules editions orders sizes ops numbers cells hasFallback fallbackKinds fallbacks facts states counts days toldAt tells handles handleFacts failures failedRule failedHow answers givers stack high steps 3 cellNow own has) := hD
    exact W.vret hx hb hr (fun t ht hW => ⟨⟨(stack, high, 3), rfl, (by rw [← hT]; simp only [f_mpush, if_pos c_1]), by rw [ht]; exact hP, va_K.moved hW.alike hK, hD⟩, hS.F ht⟩) hS.2.2 d_Mo_push_14
def f_mkeep (handles : Int32) (handleFacts : Nat → Int32) (stack : Nat → Int64) (high : Int32) (how : Int32) (k : Int32) : Int32 × (Nat → Int32) × (Nat → Int64) × Int32 × Int32 := if high = 8 then (handles, handleFacts, stack, high, 3) else (if handles = 16 then (handles, handleFacts, stack, high, 4) else (match f_mpush stack high how handles.toInt64 with | (x_stack_6, x_high_7, x_how_8) => (handles + 1, upd handleFacts handles.toNatClampNeg k, x_stack_6, x_high_7, x_how_8)))
set_option maxHeartbeats 4000000 in
set_option maxRecDepth 100000 in
theorem c_mkeep (l : Launch) (G : va_G) (cI cL cZ cR cE : ClassId) (sz : Nat) (a0 a1 a2 a3 a4 a5 a6 a7 a8 a9 a10 a11 a12 a13 a14 a15 a16 a17 a18 a19 a20 a21 a22 : Nat) (thrown : Int32) (most : Int32) (rules : Int32) (editions : Nat → Int32) (orders : Nat → Int32) (sizes : Nat → Int32) (ops : Nat → Int32) (numbers : Nat → Int64) (cells : Nat → Int64) (hasFallback : Nat → Int32) (fallbackKinds : Nat → Int32) (fallbacks : Nat → Int64) (facts : Nat → Int64) (states : Nat → Int32) (counts : Nat → Int32) (days : Nat → Int32) (toldAt : Nat → Int32) (tells : Int32) (handles : Int32) (handleFacts : Nat → Int32) (failures : Int32) (failedRule : Nat → Int32) (failedHow : Nat → Int32) (answers : Nat → Int64) (givers : Nat → Int32) (stack : Nat → Int64) (high : Int32) (steps : Int32) (how : Int32) (cellNow : Int64) (own : Nat → Int64) (has : Nat → Int32) (k : Int32) (hh : 0 ≤ high.toInt ∧ high.toInt ≤ 8) (hc : 0 ≤ handles.toInt ∧ handles.toInt ≤ 16) : Met l y_Mo_keepHandle w_Mo_keepHandle ({ frames := 1, cells := 0, slots := 0, locals := 22 }) (preW G (TYS cI cL cZ cR cE) [.ref a0, .int k] sz (W_Mod cI cL cZ cR cE a0 a1 a2 a3 a4 a5 a6 a7 a8 a9 a10 a11 a12 a13 a14 a15 a16 a17 a18 a19 a20 a21 a22 thrown most rules editions orders sizes ops numbers cells hasFallback fallbackKinds fallbacks facts states counts days toldAt tells handles handleFacts failures failedRule failedHow answers givers stack high steps how cellNow own has)) (va_Qv (fun u : Int32 × (Nat → Int32) × (Nat → Int64) × Int32 × Int32 => u = f_mkeep handles handleFacts stack high how k) (fun u t => va_P G vwCl (W_Mod cI cL cZ cR cE a0 a1 a2 a3 a4 a5 a6 a7 a8 a9 a10 a11 a12 a13 a14 a15 a16 a17 a18 a19 a20 a21 a22 thrown most rules editions orders sizes ops numbers cells hasFallback fallbackKinds fallbacks facts states counts days toldAt tells u.1 u.2.1 failures failedRule failedHow answers givers u.2.2.1 u.2.2.2.1 steps u.2.2.2.2 cellNow own has) t.heap ∧ va_K G vwCl (TYS cI cL cZ cR cE) t ∧ va_D (va_A (W_Mod cI cL cZ cR cE a0 a1 a2 a3 a4 a5 a6 a7 a8 a9 a10 a11 a12 a13 a14 a15 a16 a17 a18 a19 a20 a21 a22 thrown most rules editions orders sizes ops numbers cells hasFallback fallbackKinds fallbacks facts states counts days toldAt tells handles handleFacts failures failedRule failedHow answers givers stack high steps how cellNow own has) sz) (W_Mod cI cL cZ cR cE a0 a1 a2 a3 a4 a5 a6 a7 a8 a9 a10 a11 a12 a13 a14 a15 a16 a17 a18 a19 a20 a21 a22 thrown most rules editions orders sizes ops numbers cells hasFallback fallbackKinds fallbacks facts states counts days toldAt tells u.1 u.2.1 failures failedRule failedHow answers givers u.2.2.1 u.2.2.2.1 steps u.2.2.2.2 cellNow own has)) (va_A (W_Mod cI cL cZ cR cE a0 a1 a2 a3 a4 a5 a6 a7 a8 a9 a10 a11 a12 a13 a14 a15 a16 a17 a18 a19 a20 a21 a22 thrown most rules editions orders sizes ops numbers cells hasFallback fallbackKinds fallbacks facts states counts days toldAt tells handles handleFacts failures failedRule failedHow answers givers stack high steps how cellNow own has) sz)) 0 0 (va_A (W_Mod cI cL cZ cR cE a0 a1 a2 a3 a4 a5 a6 a7 a8 a9 a10 a11 a12 a13 a14 a15 a16 a17 a18 a19 a20 a21 a22 thrown most rules editions orders sizes ops numbers cells hasFallback fallbackKinds fallbacks facts states counts days toldAt tells handles handleFacts failures failedRule failedHow answers givers stack high steps how cellNow own has) sz) := by
  refine Met.ofW (cc := b_Mo_keepHandle) (maxL := 2) (ret := none) (by decide) rfl ?_
  intro p e s m args below meth c s₁ B hml hv
  obtain ⟨rfl, hsz, hP, hK, hD0, hN⟩ := hv
  have hx := B.exec
  have hb := B.bytes
  have hr := B.returns
  have hts := atoms_spec (ws := w_Mo_keepHandle) B.pre
  have hown : s.vm.findClass R_Mo = some m.cls := findClass_of_methodNamed B.named
  have hlocks := B.notSynchronized
  subst hsz
  have hD := hD0.self (sz := s.heap.size)
  clear hD0
  generalize hAe : va_A (W_Mod cI cL cZ cR cE a0 a1 a2 a3 a4 a5 a6 a7 a8 a9 a10 a11 a12 a13 a14 a15 a16 a17 a18 a19 a20 a21 a22 thrown most rules editions orders sizes ops numbers cells hasFallback fallbackKinds fallbacks facts states counts days toldAt tells handles handleFacts failures failedRule failedHow answers givers stack high steps how cellNow own has) s.heap.size = A at hD ⊢
  have hA : ∀ q : Nat, s.heap.size ≤ q → A q := fun q h => by rw [← hAe]; exact Or.inr h
  clear hAe
  have hS : va_S A s.heap s.heap [] := va_S.rf
  obtain ⟨H, hH⟩ : ∃ H, H = s.heap := ⟨_, rfl⟩
  rw [← hH] at hP
  replace hS : va_S A s.heap H [] := by rw [hH]; exact hS
  rw [← hH]
  clear hH
  have hi_2 : ∀ w ∈ u_ws R_Mo T_Mo 32, w ∈ w_Mo_keepHandle := fun w h => List.mem_cons_of_mem _ (iu_Mo w h)
  have hk_1 := hts (.fieldLink R_Mo 119 "HandlingRulesModel" "high" "I") (List.mem_cons_of_mem _ kw_591)
  have hk_3 := hts (.fieldLink R_Mo 145 "HandlingRulesModel" "handles" "I") (List.mem_cons_of_mem _ kw_583)
  have hk_4 := hts (.fieldLink R_Mo 54 "HandlingRulesModel" "handleFacts" "[I") (List.mem_cons_of_mem _ kw_584)
  have hk_5 := hts (.fieldLink R_Mo 122 "HandlingRulesModel" "how" "I") (List.mem_cons_of_mem _ kw_593)
  have hl := lv_entry ([.ref a0, .int k]) (n := 2) (Nat.le_of_ble_eq_true rfl)
  rw [lg_entry_eq]
  generalize (lg_sl ([.ref a0, .int k]) ++ List.replicate (2 - (lg_sl ([.ref a0, .int k])).length) Slot.unset).toArray = ls at hl ⊢
  replace hl : lv_has ls 2 [(0, .ref a0), (1, .int k)] := hl
  generalize hT : f_mkeep handles handleFacts stack high how k = T
  refine lv_aload_n hx hb d_Mo_keepHandle_0 rfl (lv_at hl 0 rfl) ?_
  refine va_get (D := G) (ci := 6) (v := .int high) (C := R_Mo) (T := T_Mo) (N := 32) hx hb hts hi_2 hown hK hP 0 rfl rfl 26 (by decide) hk_1 (fun _ h9 => h9) rfl d_Mo_keepHandle_1 ?_
  refine lv_bipush (v := 8) hx hb d_Mo_keepHandle_4 (by decide) ?_
  refine lv_icmp_ne (tgt := 17) hx hb d_Mo_keepHandle_6 (by decide) (fun c_1 => ?_) (fun c_1 => ?_)
  · refine lv_aload_n hx hb d_Mo_keepHandle_17 rfl (lv_at hl 0 rfl) ?_
    refine va_get (D := G) (ci := 6) (v := .int handles) (C := R_Mo) (T := T_Mo) (N := 32) hx hb hts hi_2 hown hK hP 0 rfl rfl 18 (by decide) hk_3 (fun _ h9 => h9) rfl d_Mo_keepHandle_18 ?_
    refine lv_bipush (v := 16) hx hb d_Mo_keepHandle_21 (by decide) ?_
    refine lv_icmp_ne (tgt := 34) hx hb d_Mo_keepHandle_23 (by decide) (fun c_2 => ?_) (fun c_2 => ?_)
    · refine lv_aload_n hx hb d_Mo_keepHandle_34 rfl (lv_at hl 0 rfl) ?_
      refine va_get (D := G) (ci := 6) (v := .ref a15) (C := R_Mo) (T := T_Mo) (N := 32) hx hb hts hi_2 hown hK hP 0 rfl rfl 19 (by decide) hk_4 (fun _ h9 => h9) rfl d_Mo_keepHandle_35 ?_
      refine lv_aload_n hx hb d_Mo_keepHandle_38 rfl (lv_at hl 0 rfl) ?_
      refine va_get (D := G) (ci := 6) (v := .int handles) (C := R_Mo) (T := T_Mo) (N := 32) hx hb hts hi_2 hown hK hP 0 rfl rfl 18 (by decide) hk_3 (fun _ h9 => h9) rfl d_Mo_keepHandle_39 ?_
      refine lv_iload_n hx hb d_Mo_keepHandle_42 rfl (lv_at hl 1 rfl) ?_
      refine va_iast hx hb hK hP hD hS 15 0 rfl rfl (ix_le hc c_2 rfl) d_Mo_keepHandle_43 (fun H locs hP hD hS => ?_)
      replace hP : va_P G vwCl (W_Mod cI cL cZ cR cE a0 a1 a2 a3 a4 a5 a6 a7 a8 a9 a10 a11 a12 a13 a14 a15 a16 a17 a18 a19 a20 a21 a22 thrown most rules editions orders sizes ops numbers cells hasFallback fallbackKinds fallbacks facts states counts days toldAt tells handles (upd handleFacts handles.toNatClampNeg k) failures failedRule failedHow answers givers stack high steps how cellNow own has) H := hP
      replace hD : va_D A (W_Mod cI cL cZ cR cE a0 a1 a2 a3 a4 a5 a6 a7 a8 a9 a10 a11 a12 a13 a14 a15 a16 a17 a18 a19 a20 a21 a22 thrown most rules editions orders sizes ops numbers cells hasFallback fallbackKinds fallbacks facts states counts days toldAt tells handles (upd handleFacts handles.toNatClampNeg k) failures failedRule failedHow answers givers stack high steps how cellNow own has) := hD
      refine lv_aload_n hx hb d_Mo_keepHandle_44 rfl (lv_at hl 0 rfl) ?_
      refine lv_aload_n hx hb d_Mo_keepHandle_45 rfl (lv_at hl 0 rfl) ?_
      refine va_get (D := G) (ci := 6) (v := .int handles) (C := R_Mo) (T := T_Mo) (N := 32) hx hb hts hi_2 hown hK hP 0 rfl rfl 18 (by decide) hk_3 (fun _ h9 => h9) rfl d_Mo_keepHandle_46 ?_
      refine lv_i2l (v := handles.toInt64) hx hb d_Mo_keepHandle_49 rfl ?_
      refine cl_v hK hP hD hS hA (va_runV (As := [.long handles.toInt64]) (rest := []) ⟨hx, hb, hml, hown, hts⟩ (c_mpush l G cI cL cZ cR cE H.size a0 a1 a2 a3 a4 a5 a6 a7 a8 a9 a10 a11 a12 a13 a14 a15 a16 a17 a18 a19 a20 a21 a22 thrown most rules editions orders sizes ops numbers cells hasFallback fallbackKinds fallbacks facts states counts days toldAt tells handles (upd handleFacts handles.toNatClampNeg k) failures failedRule failedHow answers givers stack high steps how cellNow own has handles.toInt64 hh) (cwV 1 hts (gV kw_723 kw_725 kw_11 kw_21 kw_726) rfl rfl rfl (by decide +kernel) ⟨Nat.le_of_ble_eq_true rfl, Nat.le_of_ble_eq_true rfl⟩) (preWV_of (ci := 6) hN hK hP hD [0, 1, 2, 3, 4, 5, 6, 7, 8, 9, 10, 11, 12, 13, 14, 15, 16, 17, 18, 19, 20, 21, 22] (by decide) rfl rfl rfl) rfl rfl hl.1 rfl (lv_room (Nat.le_of_ble_eq_true rfl)) d_Mo_keepHandle_50 ⟨Nat.le_of_ble_eq_true rfl, Nat.le_of_ble_eq_true rfl⟩) [0, 1, 2, 3, 4, 5, 6, 7, 8, 9, 10, 11, 12, 13, 14, 15, 16, 17, 18, 19, 20, 21, 22] [] rfl rfl (by decide) (by decide) (fun u H locs hw_5 hP hD hS => ?_)
      obtain ⟨x_stack_6, x_high_7, x_how_8⟩ := u
      replace hP : va_P G vwCl (W_Mod cI cL cZ cR cE a0 a1 a2 a3 a4 a5 a6 a7 a8 a9 a10 a11 a12 a13 a14 a15 a16 a17 a18 a19 a20 a21 a22 thrown most rules editions orders sizes ops numbers cells hasFallback fallbackKinds fallbacks facts states counts days toldAt tells handles (upd handleFacts handles.toNatClampNeg k) failures failedRule failedHow answers givers x_stack_6 x_high_7 steps x_how_8 cellNow own has) H := hP.sub [0, 1, 2, 3, 4, 5, 6, 7, 8, 9, 10, 11, 12, 13, 14, 15, 16, 17, 18, 19, 20, 21, 22] rfl
      replace hD : va_D A (W_Mod cI cL cZ cR cE a0 a1 a2 a3 a4 a5 a6 a7 a8 a9 a10 a11 a12 a13 a14 a15 a16 a17 a18 a19 a20 a21 a22 thrown most rules editions orders sizes ops numbers cells hasFallback fallbackKinds fallbacks facts states counts days toldAt tells handles (upd handleFacts handles.toNatClampNeg k) failures failedRule failedHow answers givers x_stack_6 x_high_7 steps x_how_8 cellNow own has) := hD.sub [0, 1, 2, 3, 4, 5, 6, 7, 8, 9, 10, 11, 12, 13, 14, 15, 16, 17, 18, 19, 20, 21, 22] (by decide) rfl
      refine lv_aload_n hx hb d_Mo_keepHandle_53 rfl (lv_at hl 0 rfl) ?_
      refine lv_dup hx hb d_Mo_keepHandle_54 rfl ?_
      refine va_get (D := G) (ci := 6) (v := .int handles) (C := R_Mo) (T := T_Mo) (N := 32) hx hb hts hi_2 hown hK hP 0 rfl rfl 18 (by decide) hk_3 (fun _ h9 => h9) rfl d_Mo_keepHandle_55 ?_
      refine lv_iconst (v := 1) hx hb d_Mo_keepHandle_58 (by decide) ?_
      refine lv_iadd hx hb d_Mo_keepHandle_59 ?_
      refine va_put (D := G) (ci := 6) (v := .int (handles + 1)) (ty := (.int)) (C := R_Mo) (T := T_Mo) (N := 32) hx hb hts hi_2 ty_Mo tyk_Mo nm_Mo hown hK hP hD hS 0 rfl rfl 18 (by decide) hk_3 (fun _ h9 => h9) rfl (by decide +kernel) rfl rfl (Nat.le_of_ble_eq_true rfl) d_Mo_keepHandle_60 (fun H locs hP hD hS => ?_)
      replace hP : va_P G vwCl (W_Mod cI cL cZ cR cE a0 a1 a2 a3 a4 a5 a6 a7 a8 a9 a10 a11 a12 a13 a14 a15 a16 a17 a18 a19 a20 a21 a22 thrown most rules editions orders sizes ops numbers cells hasFallback fallbackKinds fallbacks facts states counts days toldAt tells (handles + 1) (upd handleFacts handles.toNatClampNeg k) failures failedRule failedHow answers givers x_stack_6 x_high_7 steps x_how_8 cellNow own has) H := hP
      replace hD : va_D A (W_Mod cI cL cZ cR cE a0 a1 a2 a3 a4 a5 a6 a7 a8 a9 a10 a11 a12 a13 a14 a15 a16 a17 a18 a19 a20 a21 a22 thrown most rules editions orders sizes ops numbers cells hasFallback fallbackKinds fallbacks facts states counts days toldAt tells (handles + 1) (upd handleFacts handles.toNatClampNeg k) failures failedRule failedHow answers givers x_stack_6 x_high_7 steps x_how_8 cellNow own has) := hD
      exact W.vret hx hb hr (fun t ht hW => ⟨⟨(handles + 1, upd handleFacts handles.toNatClampNeg k, x_stack_6, x_high_7, x_how_8), rfl, (by rw [← hT]; simp only [f_mkeep, if_neg c_1, if_neg c_2, ← hw_5]), by rw [ht]; exact hP, va_K.moved hW.alike hK, hD⟩, hS.F ht⟩) hS.2.2 d_Mo_keepHandle_63
    · refine lv_aload_n hx hb d_Mo_keepHandle_26 rfl (lv_at hl 0 rfl) ?_
      refine lv_iconst (v := 4) hx hb d_Mo_keepHandle_27 (by decide) ?_
      refine va_put (D := G) (ci := 6) (v := .int 4) (ty := (.int)) (C := R_Mo) (T := T_Mo) (N := 32) hx hb hts hi_2 ty_Mo tyk_Mo nm_Mo hown hK hP hD hS 0 rfl rfl 28 (by decide) hk_5 (fun _ h9 => h9) rfl (by decide +kernel) rfl rfl (Nat.le_of_ble_eq_true rfl) d_Mo_keepHandle_28 (fun H locs hP hD hS => ?_)
      replace hP : va_P G vwCl (W_Mod cI cL cZ cR cE a0 a1 a2 a3 a4 a5 a6 a7 a8 a9 a10 a11 a12 a13 a14 a15 a16 a17 a18 a19 a20 a21 a22 thrown most rules editions orders sizes ops numbers cells hasFallback fallbackKinds fallbacks facts states counts days toldAt tells handles handleFacts failures failedRule failedHow answers givers stack high steps 4 cellNow own has) H := hP
      replace hD : va_D A (W_Mod cI cL cZ cR cE a0 a1 a2 a3 a4 a5 a6 a7 a8 a9 a10 a11 a12 a13 a14 a15 a16 a17 a18 a19 a20 a21 a22 thrown most rules editions orders sizes ops numbers cells hasFallback fallbackKinds fallbacks facts states counts days toldAt tells handles handleFacts failures failedRule failedHow answers givers stack high steps 4 cellNow own has) := hD
      refine lv_goto (tgt := 63) hx hb d_Mo_keepHandle_31 (by decide) ?_
      exact W.vret hx hb hr (fun t ht hW => ⟨⟨(handles, handleFacts, stack, high, 4), rfl, (by rw [← hT]; simp only [f_mkeep, if_neg c_1, if_pos c_2]), by rw [ht]; exact hP, va_K.moved hW.alike hK, hD⟩, hS.F ht⟩) hS.2.2 d_Mo_keepHandle_63
  · refine lv_aload_n hx hb d_Mo_keepHandle_9 rfl (lv_at hl 0 rfl) ?_
    refine lv_iconst (v := 3) hx hb d_Mo_keepHandle_10 (by decide) ?_
    refine va_put (D := G) (ci := 6) (v := .int 3) (ty := (.int)) (C := R_Mo) (T := T_Mo) (N := 32) hx hb hts hi_2 ty_Mo tyk_Mo nm_Mo hown hK hP hD hS 0 rfl rfl 28 (by decide) hk_5 (fun _ h9 => h9) rfl (by decide +kernel) rfl rfl (Nat.le_of_ble_eq_true rfl) d_Mo_keepHandle_11 (fun H locs hP hD hS => ?_)
    replace hP : va_P G vwCl (W_Mod cI cL cZ cR cE a0 a1 a2 a3 a4 a5 a6 a7 a8 a9 a10 a11 a12 a13 a14 a15 a16 a17 a18 a19 a20 a21 a22 thrown most rules editions orders sizes ops numbers cells hasFallback fallbackKinds fallbacks facts states counts days toldAt tells handles handleFacts failures failedRule failedHow answers givers stack high steps 3 cellNow own has) H := hP
    replace hD : va_D A (W_Mod cI cL cZ cR cE a0 a1 a2 a3 a4 a5 a6 a7 a8 a9 a10 a11 a12 a13 a14 a15 a16 a17 a18 a19 a20 a21 a22 thrown most rules editions orders sizes ops numbers cells hasFallback fallbackKinds fallbacks facts states counts days toldAt tells handles handleFacts failures failedRule failedHow answers givers stack high steps 3 cellNow own has) := hD
    refine lv_goto (tgt := 63) hx hb d_Mo_keepHandle_14 (by decide) ?_
    exact W.vret hx hb hr (fun t ht hW => ⟨⟨(handles, handleFacts, stack, high, 3), rfl, (by rw [← hT]; simp only [f_mkeep, if_pos c_1]), by rw [ht]; exact hP, va_K.moved hW.alike hK, hD⟩, hS.F ht⟩) hS.2.2 d_Mo_keepHandle_63
def f_mgive (answers : Nat → Int64) (givers : Nat → Int32) (k : Int32) (w : Int64) (r : Int32) : (Nat → Int64) × (Nat → Int32) := if (givers k.toNatClampNeg) = (-1) then (vp_updL answers k.toNatClampNeg w, upd givers k.toNatClampNeg r) else (answers, givers)
set_option maxHeartbeats 4000000 in
set_option maxRecDepth 100000 in
theorem c_mgive (l : Launch) (G : va_G) (cI cL cZ cR cE : ClassId) (sz : Nat) (a0 a1 a2 a3 a4 a5 a6 a7 a8 a9 a10 a11 a12 a13 a14 a15 a16 a17 a18 a19 a20 a21 a22 : Nat) (thrown : Int32) (most : Int32) (rules : Int32) (editions : Nat → Int32) (orders : Nat → Int32) (sizes : Nat → Int32) (ops : Nat → Int32) (numbers : Nat → Int64) (cells : Nat → Int64) (hasFallback : Nat → Int32) (fallbackKinds : Nat → Int32) (fallbacks : Nat → Int64) (facts : Nat → Int64) (states : Nat → Int32) (counts : Nat → Int32) (days : Nat → Int32) (toldAt : Nat → Int32) (tells : Int32) (handles : Int32) (handleFacts : Nat → Int32) (failures : Int32) (failedRule : Nat → Int32) (failedHow : Nat → Int32) (answers : Nat → Int64) (givers : Nat → Int32) (stack : Nat → Int64) (high : Int32) (steps : Int32) (how : Int32) (cellNow : Int64) (own : Nat → Int64) (has : Nat → Int32) (k : Int32) (w : Int64) (r : Int32) (hk : vp_in k 4) : Met l y_Mo_give w_Mo_give ({ frames := 0, cells := 0, slots := 0, locals := 0 }) (preW G (TYS cI cL cZ cR cE) [.ref a0, .int k, .long w, .int r] sz (W_Mod cI cL cZ cR cE a0 a1 a2 a3 a4 a5 a6 a7 a8 a9 a10 a11 a12 a13 a14 a15 a16 a17 a18 a19 a20 a21 a22 thrown most rules editions orders sizes ops numbers cells hasFallback fallbackKinds fallbacks facts states counts days toldAt tells handles handleFacts failures failedRule failedHow answers givers stack high steps how cellNow own has)) (va_Qv (fun u : (Nat → Int64) × (Nat → Int32) => u = f_mgive answers givers k w r) (fun u t => va_P G vwCl (W_Mod cI cL cZ cR cE a0 a1 a2 a3 a4 a5 a6 a7 a8 a9 a10 a11 a12 a13 a14 a15 a16 a17 a18 a19 a20 a21 a22 thrown most rules editions orders sizes ops numbers cells hasFallback fallbackKinds fallbacks facts states counts days toldAt tells handles handleFacts failures failedRule failedHow u.1 u.2 stack high steps how cellNow own has) t.heap ∧ va_K G vwCl (TYS cI cL cZ cR cE) t ∧ va_D (va_A (W_Mod cI cL cZ cR cE a0 a1 a2 a3 a4 a5 a6 a7 a8 a9 a10 a11 a12 a13 a14 a15 a16 a17 a18 a19 a20 a21 a22 thrown most rules editions orders sizes ops numbers cells hasFallback fallbackKinds fallbacks facts states counts days toldAt tells handles handleFacts failures failedRule failedHow answers givers stack high steps how cellNow own has) sz) (W_Mod cI cL cZ cR cE a0 a1 a2 a3 a4 a5 a6 a7 a8 a9 a10 a11 a12 a13 a14 a15 a16 a17 a18 a19 a20 a21 a22 thrown most rules editions orders sizes ops numbers cells hasFallback fallbackKinds fallbacks facts states counts days toldAt tells handles handleFacts failures failedRule failedHow u.1 u.2 stack high steps how cellNow own has)) (va_A (W_Mod cI cL cZ cR cE a0 a1 a2 a3 a4 a5 a6 a7 a8 a9 a10 a11 a12 a13 a14 a15 a16 a17 a18 a19 a20 a21 a22 thrown most rules editions orders sizes ops numbers cells hasFallback fallbackKinds fallbacks facts states counts days toldAt tells handles handleFacts failures failedRule failedHow answers givers stack high steps how cellNow own has) sz)) 0 0 (va_A (W_Mod cI cL cZ cR cE a0 a1 a2 a3 a4 a5 a6 a7 a8 a9 a10 a11 a12 a13 a14 a15 a16 a17 a18 a19 a20 a21 a22 thrown most rules editions orders sizes ops numbers cells hasFallback fallbackKinds fallbacks facts states counts days toldAt tells handles handleFacts failures failedRule failedHow answers givers stack high steps how cellNow own has) sz) := by
  refine Met.ofW (cc := b_Mo_give) (maxL := 5) (ret := none) (by decide) rfl ?_
  intro p e s m args below meth c s₁ B hml hv
  obtain ⟨rfl, hsz, hP, hK, hD0, hN⟩ := hv
  have hx := B.exec
  have hb := B.bytes
  have hr := B.returns
  have hts := atoms_spec (ws := w_Mo_give) B.pre
  have hown : s.vm.findClass R_Mo = some m.cls := findClass_of_methodNamed B.named
  have hlocks := B.notSynchronized
  subst hsz
  have hD := hD0.self (sz := s.heap.size)
  clear hD0
  generalize hAe : va_A (W_Mod cI cL cZ cR cE a0 a1 a2 a3 a4 a5 a6 a7 a8 a9 a10 a11 a12 a13 a14 a15 a16 a17 a18 a19 a20 a21 a22 thrown most rules editions orders sizes ops numbers cells hasFallback fallbackKinds fallbacks facts states counts days toldAt tells handles handleFacts failures failedRule failedHow answers givers stack high steps how cellNow own has) s.heap.size = A at hD ⊢
  have hA : ∀ q : Nat, s.heap.size ≤ q → A q := fun q h => by rw [← hAe]; exact Or.inr h
  clear hAe
  have hS : va_S A s.heap s.heap [] := va_S.rf
  obtain ⟨H, hH⟩ : ∃ H, H = s.heap := ⟨_, rfl⟩
  rw [← hH] at hP
  replace hS : va_S A s.heap H [] := by rw [hH]; exact hS
  rw [← hH]
  clear hH
  have hi_2 : ∀ w ∈ u_ws R_Mo T_Mo 32, w ∈ w_Mo_give := fun w h => List.mem_cons_of_mem _ (iu_Mo w h)
  have hk_1 := hts (.fieldLink R_Mo 66 "HandlingRulesModel" "givers" "[I") (List.mem_cons_of_mem _ kw_589)
  have hk_3 := hts (.fieldLink R_Mo 63 "HandlingRulesModel" "answers" "[J") (List.mem_cons_of_mem _ kw_588)
  have hl := lv_entry ([.ref a0, .int k, .long w, .int r]) (n := 5) (Nat.le_of_ble_eq_true rfl)
  rw [lg_entry_eq]
  generalize (lg_sl ([.ref a0, .int k, .long w, .int r]) ++ List.replicate (5 - (lg_sl ([.ref a0, .int k, .long w, .int r])).length) Slot.unset).toArray = ls at hl ⊢
  replace hl : lv_has ls 5 [(0, .ref a0), (1, .int k), (2, .long w), (4, .int r)] := hl
  generalize hT : f_mgive answers givers k w r = T
  refine lv_aload_n hx hb d_Mo_give_0 rfl (lv_at hl 0 rfl) ?_
  refine va_get (D := G) (ci := 6) (v := .ref a19) (C := R_Mo) (T := T_Mo) (N := 32) hx hb hts hi_2 hown hK hP 0 rfl rfl 24 (by decide) hk_1 (fun _ h9 => h9) rfl d_Mo_give_1 ?_
  refine lv_iload_n hx hb d_Mo_give_4 rfl (lv_at hl 1 rfl) ?_
  refine va_iald hx hb hK hP 19 0 rfl rfl hk d_Mo_give_5 ?_
  refine lv_iconst (v := (-1)) hx hb d_Mo_give_6 (by decide) ?_
  refine lv_icmp_ne (tgt := 25) hx hb d_Mo_give_7 (by decide) (fun c_1 => ?_) (fun c_1 => ?_)
  · exact W.vret hx hb hr (fun t ht hW => ⟨⟨(answers, givers), rfl, (by rw [← hT]; simp only [f_mgive, if_neg c_1]), by rw [ht]; exact hP, va_K.moved hW.alike hK, hD⟩, hS.F ht⟩) hS.2.2 d_Mo_give_25
  · refine lv_aload_n hx hb d_Mo_give_10 rfl (lv_at hl 0 rfl) ?_
    refine va_get (D := G) (ci := 6) (v := .ref a18) (C := R_Mo) (T := T_Mo) (N := 32) hx hb hts hi_2 hown hK hP 0 rfl rfl 23 (by decide) hk_3 (fun _ h9 => h9) rfl d_Mo_give_11 ?_
    refine lv_iload_n hx hb d_Mo_give_14 rfl (lv_at hl 1 rfl) ?_
    refine lv_lload_n hx hb d_Mo_give_15 rfl (lv_at hl 2 rfl) ?_
    refine va_last hx hb hK hP hD hS 18 1 rfl rfl hk d_Mo_give_16 (fun H locs hP hD hS => ?_)
    replace hP : va_P G vwCl (W_Mod cI cL cZ cR cE a0 a1 a2 a3 a4 a5 a6 a7 a8 a9 a10 a11 a12 a13 a14 a15 a16 a17 a18 a19 a20 a21 a22 thrown most rules editions orders sizes ops numbers cells hasFallback fallbackKinds fallbacks facts states counts days toldAt tells handles handleFacts failures failedRule failedHow (vp_updL answers k.toNatClampNeg w) givers stack high steps how cellNow own has) H := hP
    replace hD : va_D A (W_Mod cI cL cZ cR cE a0 a1 a2 a3 a4 a5 a6 a7 a8 a9 a10 a11 a12 a13 a14 a15 a16 a17 a18 a19 a20 a21 a22 thrown most rules editions orders sizes ops numbers cells hasFallback fallbackKinds fallbacks facts states counts days toldAt tells handles handleFacts failures failedRule failedHow (vp_updL answers k.toNatClampNeg w) givers stack high steps how cellNow own has) := hD
    refine lv_aload_n hx hb d_Mo_give_17 rfl (lv_at hl 0 rfl) ?_
    refine va_get (D := G) (ci := 6) (v := .ref a19) (C := R_Mo) (T := T_Mo) (N := 32) hx hb hts hi_2 hown hK hP 0 rfl rfl 24 (by decide) hk_1 (fun _ h9 => h9) rfl d_Mo_give_18 ?_
    refine lv_iload_n hx hb d_Mo_give_21 rfl (lv_at hl 1 rfl) ?_
    refine lv_iload hx hb d_Mo_give_22 (lv_at hl 3 rfl) ?_
    refine va_iast hx hb hK hP hD hS 19 0 rfl rfl hk d_Mo_give_24 (fun H locs hP hD hS => ?_)
    replace hP : va_P G vwCl (W_Mod cI cL cZ cR cE a0 a1 a2 a3 a4 a5 a6 a7 a8 a9 a10 a11 a12 a13 a14 a15 a16 a17 a18 a19 a20 a21 a22 thrown most rules editions orders sizes ops numbers cells hasFallback fallbackKinds fallbacks facts states counts days toldAt tells handles handleFacts failures failedRule failedHow (vp_updL answers k.toNatClampNeg w) (upd givers k.toNatClampNeg r) stack high steps how cellNow own has) H := hP
    replace hD : va_D A (W_Mod cI cL cZ cR cE a0 a1 a2 a3 a4 a5 a6 a7 a8 a9 a10 a11 a12 a13 a14 a15 a16 a17 a18 a19 a20 a21 a22 thrown most rules editions orders sizes ops numbers cells hasFallback fallbackKinds fallbacks facts states counts days toldAt tells handles handleFacts failures failedRule failedHow (vp_updL answers k.toNatClampNeg w) (upd givers k.toNatClampNeg r) stack high steps how cellNow own has) := hD
    exact W.vret hx hb hr (fun t ht hW => ⟨⟨(vp_updL answers k.toNatClampNeg w, upd givers k.toNatClampNeg r), rfl, (by rw [← hT]; simp only [f_mgive, if_pos c_1]), by rw [ht]; exact hP, va_K.moved hW.alike hK, hD⟩, hS.F ht⟩) hS.2.2 d_Mo_give_25
end
