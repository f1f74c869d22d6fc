/-! ===== BEGIN printed: names, fields, word lists, decode rows ===== -/
def RX0 : String := "NumberCircuits"
/-! ===== ours: the words of a throw whose first constructor names any pool entry ===== -/
def nc_b13 : ByteArray := ⟨#[0x2a, 0x2b, 0xb7, 0x00, 0x0d, 0xb1]⟩
theorem nc_b13_0 : decode nc_b13 0 = .ok (.aload_n 0, 1) := by decide +kernel
theorem nc_b13_1 : decode nc_b13 1 = .ok (.aload_n 1, 1) := by decide +kernel
theorem nc_b13_2 : decode nc_b13 2 = .ok (.invokespecial 13, 3) := by decide +kernel
theorem nc_b13_5 : decode nc_b13 5 = .ok (.return_, 1) := by decide +kernel
/-- the words of the tables that a throw of a new X leans on; idx, bytes: X's own constructor, which hands its message to Y's -/
def nc_thrW (own : String) (ic : Nat) (X Y : String) (idx : Nat) (bytes : ByteArray) (names : List String) : List Cond :=
  Bundle.throwableAtoms ++ Bundle.throwableSAtoms ++ Bundle.passSAtoms X Y idx bytes ++ Bundle.chainSAtoms Y names ++
  [.methodLink own ic (Bundle.initS X), .instantiable X 6, .selects X Bundle.tFill0 Bundle.tFill0, .selects X Bundle.tFill Bundle.tFill,
   .lays X Bundle.tN "cause" "Ljava/lang/Throwable;", .lays X Bundle.tN "stackTrace" Bundle.steD, .lays X Bundle.tN "suppressedExceptions" Bundle.listD, .lays X Bundle.tN "detailMessage" "Ljava/lang/String;",
   .fieldLink Bundle.tN 198 Bundle.tN "backtrace" "Ljava/lang/Object;", .lays Bundle.tN Bundle.tN "backtrace" "Ljava/lang/Object;", .lays X Bundle.tN "backtrace" "Ljava/lang/Object;"]
abbrev nc_thrG : List Cond := ((nc_thrW RX0 49 "java/util/NoSuchElementException" "java/lang/RuntimeException" 13 nc_b13 ["java/lang/Exception"]).filter vx_no).filter goodWord
def TX0 : u_T := fun k => match k with
  | 0 => ("NumberCircuits", "numbers", "[S", true)
  | _ => ("NumberCircuits", "truths", "[I", true)
def tyX0 : Nat → FieldType := fun k => match k with
  | 0 => .array .short
  | _ => .array .int
abbrev wsX00 : List Cond := u_ws RX0 TX0 2
theorem nmX0 : ∀ a, a < 2 → ∀ b, b < 2 → a ≠ b → (TX0 a).2.1 ≠ (TX0 b).2.1 := by decide +kernel
theorem tyX0_ok : ∀ k, k < 2 → parseFieldDescriptor (TX0 k).2.2.1 = some (tyX0 k) := by decide +kernel
abbrev cX0_init : ByteArray := prog_1_method_1_code
def yX0_init : MethodName := ⟨RX0, "<init>", "()V"⟩
abbrev cX0_constant : ByteArray := prog_1_method_2_code
def yX0_constant : MethodName := ⟨RX0, "constant", "(II)V"⟩
abbrev cX0_unknown : ByteArray := prog_1_method_3_code
def yX0_unknown : MethodName := ⟨RX0, "unknown", "(IIII)V"⟩
abbrev cX0_reckon : ByteArray := prog_1_method_4_code
def yX0_reckon : MethodName := ⟨RX0, "reckon", "(IIII)V"⟩
abbrev cX0_compare : ByteArray := prog_1_method_5_code
def yX0_compare : MethodName := ⟨RX0, "compare", "(IIII)I"⟩
abbrev cX0_choose : ByteArray := prog_1_method_6_code
def yX0_choose : MethodName := ⟨RX0, "choose", "(IIII)V"⟩
abbrev cX0_join : ByteArray := prog_1_method_7_code
def yX0_join : MethodName := ⟨RX0, "join", "(IIII)I"⟩
abbrev cX0_value : ByteArray := prog_1_method_8_code
def yX0_value : MethodName := ⟨RX0, "value", "(II)I"⟩
abbrev cX0_way : ByteArray := prog_1_method_9_code
def yX0_way : MethodName := ⟨RX0, "way", "(I)I"⟩
abbrev cX0_same : ByteArray := prog_1_method_10_code
def yX0_same : MethodName := ⟨RX0, "same", "(II)Z"⟩
abbrev cX0_tidy : ByteArray := prog_1_method_11_code
def yX0_tidy : MethodName := ⟨RX0, "tidy", "(I)I"⟩
abbrev cX0_needUpTo : ByteArray := prog_1_method_12_code
def yX0_needUpTo : MethodName := ⟨RX0, "needUpTo", "(II)V"⟩
abbrev cX0_place : ByteArray := prog_1_method_13_code
def yX0_place : MethodName := ⟨RX0, "place", "(II)I"⟩
abbrev cX0_isYes : ByteArray := prog_1_method_14_code
def yX0_isYes : MethodName := ⟨RX0, "isYes", "(II)Z"⟩
abbrev cX0_setTruth : ByteArray := prog_1_method_15_code
def yX0_setTruth : MethodName := ⟨RX0, "setTruth", "(IIZ)V"⟩
abbrev cX0_isZeroEverywhere : ByteArray := prog_1_method_16_code
def yX0_isZeroEverywhere : MethodName := ⟨RX0, "isZeroEverywhere", "(I)Z"⟩
abbrev cX0_reckoned : ByteArray := prog_1_method_17_code
def yX0_reckoned : MethodName := ⟨RX0, "reckoned", "(III)I"⟩
abbrev cX0_compared : ByteArray := prog_1_method_18_code
def yX0_compared : MethodName := ⟨RX0, "compared", "(III)Z"⟩
abbrev cX0_joined : ByteArray := prog_1_method_19_code
def yX0_joined : MethodName := ⟨RX0, "joined", "(IZZ)Z"⟩
def RX1 : String := "NumberCircuitsModel"
def TX1 : u_T := fun k => match k with
  | 0 => ("NumberCircuitsModel", "failed", "I", false)
  | 1 => ("NumberCircuitsModel", "numbers", "[I", true)
  | 2 => ("NumberCircuitsModel", "truths", "[Z", true)
  | _ => ("NumberCircuitsModel", "made", "[I", true)
def tyX1 : Nat → FieldType := fun k => match k with
  | 0 => .int
  | 1 => .array .int
  | 2 => .array .boolean
  | _ => .array .int
abbrev wsX10 : List Cond := u_ws RX1 TX1 4
theorem nmX1 : ∀ a, a < 4 → ∀ b, b < 4 → a ≠ b → (TX1 a).2.1 ≠ (TX1 b).2.1 := by decide +kernel
theorem tyX1_ok : ∀ k, k < 4 → parseFieldDescriptor (TX1 k).2.2.1 = some (tyX1 k) := by decide +kernel
abbrev cX1_init : ByteArray := prog_3_method_1_code
def yX1_init : MethodName := ⟨RX1, "<init>", "()V"⟩
abbrev cX1_thrown : ByteArray := prog_3_method_2_code
def yX1_thrown : MethodName := ⟨RX1, "thrown", "()I"⟩
abbrev cX1_out : ByteArray := prog_3_method_4_code
def yX1_out : MethodName := ⟨RX1, "out", "(II)Z"⟩
abbrev cX1_constant : ByteArray := prog_3_method_5_code
def yX1_constant : MethodName := ⟨RX1, "constant", "(II)V"⟩
def RJ0 : String := "java/lang/String"
def TJ0 : u_T := fun k => match k with
  | _ => ("", "", "", false)
def tyJ0 : Nat → FieldType := fun k => match k with
  | _ => .int
abbrev wsJ00 : List Cond := u_ws RJ0 TJ0 0
theorem nmJ0 : ∀ a, a < 0 → ∀ b, b < 0 → a ≠ b → (TJ0 a).2.1 ≠ (TJ0 b).2.1 := by decide +kernel
theorem tyJ0_ok : ∀ k, k < 0 → parseFieldDescriptor (TJ0 k).2.2.1 = some (tyJ0 k) := by decide +kernel
def RL : String := "NumberCircuitsLaw"
abbrev cL_constant : ByteArray := method_3_code
def yL_constant : MethodName := ⟨RL, "constant", "(LNumberCircuits;II)I"⟩
abbrev cL_unknown : ByteArray := method_4_code
def yL_unknown : MethodName := ⟨RL, "unknown", "(LNumberCircuits;IIII)I"⟩
abbrev cL_reckon : ByteArray := method_5_code
def yL_reckon : MethodName := ⟨RL, "reckon", "(LNumberCircuits;IIII)I"⟩
abbrev cL_compare : ByteArray := method_6_code
def yL_compare : MethodName := ⟨RL, "compare", "(LNumberCircuits;IIII[J)I"⟩
abbrev cL_choose : ByteArray := method_7_code
def yL_choose : MethodName := ⟨RL, "choose", "(LNumberCircuits;IIII)I"⟩
abbrev cL_join : ByteArray := method_8_code
def yL_join : MethodName := ⟨RL, "join", "(LNumberCircuits;IIII[J)I"⟩
abbrev cL_value : ByteArray := method_9_code
def yL_value : MethodName := ⟨RL, "value", "(LNumberCircuits;II[J)I"⟩
abbrev cL_way : ByteArray := method_10_code
def yL_way : MethodName := ⟨RL, "way", "(LNumberCircuits;I[J)I"⟩
abbrev cL_same : ByteArray := method_11_code
def yL_same : MethodName := ⟨RL, "same", "(LNumberCircuits;II[J)I"⟩
abbrev cL_tidy : ByteArray := method_12_code
def yL_tidy : MethodName := ⟨RL, "tidy", "(LNumberCircuits;I[J)I"⟩
abbrev cL_law : ByteArray := code
def yL_law : MethodName := ⟨RL, "law", "([I)Z"⟩
def wsX0_init : List Cond := .code yX0_init cX0_init 1 none :: ([.methodLink RX0 1 objectInit, .instanceMethod objectInit, .code objectInit ⟨#[0xb1]⟩ 1 none, .arrayClass .short, .fieldLink RX0 9 "NumberCircuits" "numbers" "[S", .arrayClass .int, .fieldLink RX0 13 "NumberCircuits" "truths" "[I"] ++ wsX00)
def wsX0_needUpTo : List Cond := .code yX0_needUpTo cX0_needUpTo 2 none :: ([.classLink RX0 56 "java/lang/IllegalArgumentException", .initialized "java/lang/IllegalArgumentException"] ++ (vx_atS RX0 60 "java/lang/IllegalArgumentException" ["java/lang/RuntimeException", "java/lang/Exception"]).filter goodWord)
def wsX0_place : List Cond := .code yX0_place cX0_place 2 (some .int) :: ([])
def wsX0_constant : List Cond := .code yX0_constant cX0_constant 4 none :: ([.fieldLink RX0 9 "NumberCircuits" "numbers" "[S", .methodLink RX0 17 yX0_needUpTo, .static yX0_needUpTo, .initialized RX0, .code yX0_needUpTo cX0_needUpTo 2 none, .classLink RX0 56 "java/lang/IllegalArgumentException", .initialized "java/lang/IllegalArgumentException", .methodLink RX0 21 yX0_place, .static yX0_place, .code yX0_place cX0_place 2 (some .int)] ++ wsX00 ++ (vx_atS RX0 60 "java/lang/IllegalArgumentException" ["java/lang/RuntimeException", "java/lang/Exception"]).filter goodWord)
def wsX0_unknown : List Cond := .code yX0_unknown cX0_unknown 7 none :: ([.fieldLink RX0 9 "NumberCircuits" "numbers" "[S", .methodLink RX0 17 yX0_needUpTo, .static yX0_needUpTo, .initialized RX0, .code yX0_needUpTo cX0_needUpTo 2 none, .classLink RX0 56 "java/lang/IllegalArgumentException", .initialized "java/lang/IllegalArgumentException", .methodLink RX0 21 yX0_place, .static yX0_place, .code yX0_place cX0_place 2 (some .int)] ++ wsX00 ++ (vx_atS RX0 60 "java/lang/IllegalArgumentException" ["java/lang/RuntimeException", "java/lang/Exception"]).filter goodWord)
def wsX0_reckoned : List Cond := .code yX0_reckoned cX0_reckoned 3 (some .int) :: ([])
def wsX0_reckon : List Cond := .code yX0_reckon cX0_reckon 7 none :: ([.fieldLink RX0 9 "NumberCircuits" "numbers" "[S", .methodLink RX0 17 yX0_needUpTo, .static yX0_needUpTo, .initialized RX0, .code yX0_needUpTo cX0_needUpTo 2 none, .classLink RX0 56 "java/lang/IllegalArgumentException", .initialized "java/lang/IllegalArgumentException", .methodLink RX0 21 yX0_place, .static yX0_place, .code yX0_place cX0_place 2 (some .int), .methodLink RX0 25 yX0_reckoned, .static yX0_reckoned, .code yX0_reckoned cX0_reckoned 3 (some .int)] ++ wsX00 ++ (vx_atS RX0 60 "java/lang/IllegalArgumentException" ["java/lang/RuntimeException", "java/lang/Exception"]).filter goodWord)
def wsX0_compared : List Cond := .code yX0_compared cX0_compared 3 (some .boolean) :: ([])
def wsX0_setTruth : List Cond := .code yX0_setTruth cX0_setTruth 5 none :: ([.fieldLink RX0 13 "NumberCircuits" "truths" "[I"] ++ wsX00)
def wsX0_compare : List Cond := .code yX0_compare cX0_compare 8 (some .int) :: ([.fieldLink RX0 9 "NumberCircuits" "numbers" "[S", .methodLink RX0 17 yX0_needUpTo, .static yX0_needUpTo, .initialized RX0, .code yX0_needUpTo cX0_needUpTo 2 none, .classLink RX0 56 "java/lang/IllegalArgumentException", .initialized "java/lang/IllegalArgumentException", .methodLink RX0 21 yX0_place, .static yX0_place, .code yX0_place cX0_place 2 (some .int), .methodLink RX0 29 yX0_compared, .static yX0_compared, .code yX0_compared cX0_compared 3 (some .boolean), .methodLink RX0 33 yX0_setTruth, .instanceMethod yX0_setTruth, .selects RX0 yX0_setTruth yX0_setTruth, .code yX0_setTruth cX0_setTruth 5 none, .fieldLink RX0 13 "NumberCircuits" "truths" "[I"] ++ wsX00 ++ (vx_atS RX0 60 "java/lang/IllegalArgumentException" ["java/lang/RuntimeException", "java/lang/Exception"]).filter goodWord)
def wsX0_isYes : List Cond := .code yX0_isYes cX0_isYes 3 (some .boolean) :: ([.fieldLink RX0 13 "NumberCircuits" "truths" "[I"] ++ wsX00)
def wsX0_choose : List Cond := .code yX0_choose cX0_choose 7 none :: ([.fieldLink RX0 9 "NumberCircuits" "numbers" "[S", .methodLink RX0 17 yX0_needUpTo, .static yX0_needUpTo, .initialized RX0, .code yX0_needUpTo cX0_needUpTo 2 none, .classLink RX0 56 "java/lang/IllegalArgumentException", .initialized "java/lang/IllegalArgumentException", .methodLink RX0 37 yX0_isYes, .instanceMethod yX0_isYes, .selects RX0 yX0_isYes yX0_isYes, .code yX0_isYes cX0_isYes 3 (some .boolean), .fieldLink RX0 13 "NumberCircuits" "truths" "[I", .methodLink RX0 21 yX0_place, .static yX0_place, .code yX0_place cX0_place 2 (some .int)] ++ wsX00 ++ (vx_atS RX0 60 "java/lang/IllegalArgumentException" ["java/lang/RuntimeException", "java/lang/Exception"]).filter goodWord)
def wsX0_joined : List Cond := .code yX0_joined cX0_joined 3 (some .boolean) :: ([])
def wsX0_join : List Cond := .code yX0_join cX0_join 8 (some .int) :: ([.methodLink RX0 17 yX0_needUpTo, .static yX0_needUpTo, .initialized RX0, .code yX0_needUpTo cX0_needUpTo 2 none, .classLink RX0 56 "java/lang/IllegalArgumentException", .initialized "java/lang/IllegalArgumentException", .methodLink RX0 37 yX0_isYes, .instanceMethod yX0_isYes, .selects RX0 yX0_isYes yX0_isYes, .code yX0_isYes cX0_isYes 3 (some .boolean), .fieldLink RX0 13 "NumberCircuits" "truths" "[I", .methodLink RX0 41 yX0_joined, .static yX0_joined, .code yX0_joined cX0_joined 3 (some .boolean), .methodLink RX0 33 yX0_setTruth, .instanceMethod yX0_setTruth, .selects RX0 yX0_setTruth yX0_setTruth, .code yX0_setTruth cX0_setTruth 5 none] ++ wsX00 ++ (vx_atS RX0 60 "java/lang/IllegalArgumentException" ["java/lang/RuntimeException", "java/lang/Exception"]).filter goodWord)
def wsX0_value : List Cond := .code yX0_value cX0_value 3 (some .int) :: ([.fieldLink RX0 9 "NumberCircuits" "numbers" "[S", .methodLink RX0 17 yX0_needUpTo, .static yX0_needUpTo, .initialized RX0, .code yX0_needUpTo cX0_needUpTo 2 none, .classLink RX0 56 "java/lang/IllegalArgumentException", .initialized "java/lang/IllegalArgumentException", .methodLink RX0 21 yX0_place, .static yX0_place, .code yX0_place cX0_place 2 (some .int)] ++ wsX00 ++ (vx_atS RX0 60 "java/lang/IllegalArgumentException" ["java/lang/RuntimeException", "java/lang/Exception"]).filter goodWord)
def wsX0_way : List Cond := .code yX0_way cX0_way 3 (some .int) :: ([.classLink RX0 45 "java/util/NoSuchElementException", .initialized "java/util/NoSuchElementException", .methodLink RX0 17 yX0_needUpTo, .static yX0_needUpTo, .initialized RX0, .code yX0_needUpTo cX0_needUpTo 2 none, .classLink RX0 56 "java/lang/IllegalArgumentException", .initialized "java/lang/IllegalArgumentException", .methodLink RX0 37 yX0_isYes, .instanceMethod yX0_isYes, .selects RX0 yX0_isYes yX0_isYes, .code yX0_isYes cX0_isYes 3 (some .boolean), .fieldLink RX0 13 "NumberCircuits" "truths" "[I"] ++ wsX00 ++ nc_thrG ++ (vx_atS RX0 60 "java/lang/IllegalArgumentException" ["java/lang/RuntimeException", "java/lang/Exception"]).filter goodWord)
def wsX0_same : List Cond := .code yX0_same cX0_same 4 (some .boolean) :: ([.fieldLink RX0 9 "NumberCircuits" "numbers" "[S", .methodLink RX0 17 yX0_needUpTo, .static yX0_needUpTo, .initialized RX0, .code yX0_needUpTo cX0_needUpTo 2 none, .classLink RX0 56 "java/lang/IllegalArgumentException", .initialized "java/lang/IllegalArgumentException", .methodLink RX0 21 yX0_place, .static yX0_place, .code yX0_place cX0_place 2 (some .int)] ++ wsX00 ++ (vx_atS RX0 60 "java/lang/IllegalArgumentException" ["java/lang/RuntimeException", "java/lang/Exception"]).filter goodWord)
def wsX0_isZeroEverywhere : List Cond := .code yX0_isZeroEverywhere cX0_isZeroEverywhere 3 (some .boolean) :: ([.fieldLink RX0 9 "NumberCircuits" "numbers" "[S", .methodLink RX0 21 yX0_place, .static yX0_place, .initialized RX0, .code yX0_place cX0_place 2 (some .int)] ++ wsX00)
def wsX0_tidy : List Cond := .code yX0_tidy cX0_tidy 4 (some .int) :: ([.methodLink RX0 17 yX0_needUpTo, .static yX0_needUpTo, .initialized RX0, .code yX0_needUpTo cX0_needUpTo 2 none, .classLink RX0 56 "java/lang/IllegalArgumentException", .initialized "java/lang/IllegalArgumentException", .methodLink RX0 52 yX0_isZeroEverywhere, .instanceMethod yX0_isZeroEverywhere, .selects RX0 yX0_isZeroEverywhere yX0_isZeroEverywhere, .code yX0_isZeroEverywhere cX0_isZeroEverywhere 3 (some .boolean), .fieldLink RX0 9 "NumberCircuits" "numbers" "[S", .methodLink RX0 21 yX0_place, .static yX0_place, .code yX0_place cX0_place 2 (some .int)] ++ wsX00 ++ (vx_atS RX0 60 "java/lang/IllegalArgumentException" ["java/lang/RuntimeException", "java/lang/Exception"]).filter goodWord)
def wsX1_init : List Cond := .code yX1_init cX1_init 1 none :: ([.methodLink RX1 1 objectInit, .instanceMethod objectInit, .code objectInit ⟨#[0xb1]⟩ 1 none, .arrayClass .int, .fieldLink RX1 7 "NumberCircuitsModel" "numbers" "[I", .arrayClass .boolean, .fieldLink RX1 13 "NumberCircuitsModel" "truths" "[Z", .fieldLink RX1 17 "NumberCircuitsModel" "made" "[I"] ++ wsX10)
def wsX1_thrown : List Cond := .code yX1_thrown cX1_thrown 1 (some .int) :: ([.fieldLink RX1 20 "NumberCircuitsModel" "failed" "I"] ++ wsX10)
def wsX1_out : List Cond := .code yX1_out cX1_out 3 (some .boolean) :: ([])
def wsX1_constant : List Cond := .code yX1_constant cX1_constant 4 none :: ([.fieldLink RX1 20 "NumberCircuitsModel" "failed" "I", .fieldLink RX1 7 "NumberCircuitsModel" "numbers" "[I", .methodLink RX1 24 yX1_out, .instanceMethod yX1_out, .selects RX1 yX1_out yX1_out, .initialized RX1, .code yX1_out cX1_out 3 (some .boolean)] ++ wsX10)
def wsL_constant : List Cond := .codeWith yL_constant cL_constant 4 (some .int) [(0, 6, 9, 13)] :: ([.classLink RL 13 "java/lang/IllegalArgumentException", .methodLink RL 7 yX0_constant, .instanceMethod yX0_constant, .selects RX0 yX0_constant yX0_constant, .initialized RX0, .code yX0_constant cX0_constant 4 none, .fieldLink RX0 9 "NumberCircuits" "numbers" "[S", .methodLink RX0 17 yX0_needUpTo, .static yX0_needUpTo, .code yX0_needUpTo cX0_needUpTo 2 none, .classLink RX0 56 "java/lang/IllegalArgumentException", .initialized "java/lang/IllegalArgumentException", .methodLink RX0 21 yX0_place, .static yX0_place, .code yX0_place cX0_place 2 (some .int)] ++ wsX00 ++ (vx_atS RX0 60 "java/lang/IllegalArgumentException" ["java/lang/RuntimeException", "java/lang/Exception"]).filter goodWord)
def wsL_unknown : List Cond := .codeWith yL_unknown cL_unknown 6 (some .int) [(0, 9, 12, 13)] :: ([.classLink RL 13 "java/lang/IllegalArgumentException", .methodLink RL 15 yX0_unknown, .instanceMethod yX0_unknown, .selects RX0 yX0_unknown yX0_unknown, .initialized RX0, .code yX0_unknown cX0_unknown 7 none, .fieldLink RX0 9 "NumberCircuits" "numbers" "[S", .methodLink RX0 17 yX0_needUpTo, .static yX0_needUpTo, .code yX0_needUpTo cX0_needUpTo 2 none, .classLink RX0 56 "java/lang/IllegalArgumentException", .initialized "java/lang/IllegalArgumentException", .methodLink RX0 21 yX0_place, .static yX0_place, .code yX0_place cX0_place 2 (some .int)] ++ wsX00 ++ (vx_atS RX0 60 "java/lang/IllegalArgumentException" ["java/lang/RuntimeException", "java/lang/Exception"]).filter goodWord)
def wsL_reckon : List Cond := .codeWith yL_reckon cL_reckon 6 (some .int) [(0, 9, 12, 13)] :: ([.classLink RL 13 "java/lang/IllegalArgumentException", .methodLink RL 19 yX0_reckon, .instanceMethod yX0_reckon, .selects RX0 yX0_reckon yX0_reckon, .initialized RX0, .code yX0_reckon cX0_reckon 7 none, .fieldLink RX0 9 "NumberCircuits" "numbers" "[S", .methodLink RX0 17 yX0_needUpTo, .static yX0_needUpTo, .code yX0_needUpTo cX0_needUpTo 2 none, .classLink RX0 56 "java/lang/IllegalArgumentException", .initialized "java/lang/IllegalArgumentException", .methodLink RX0 21 yX0_place, .static yX0_place, .code yX0_place cX0_place 2 (some .int), .methodLink RX0 25 yX0_reckoned, .static yX0_reckoned, .code yX0_reckoned cX0_reckoned 3 (some .int)] ++ wsX00 ++ (vx_atS RX0 60 "java/lang/IllegalArgumentException" ["java/lang/RuntimeException", "java/lang/Exception"]).filter goodWord)
def wsL_compare : List Cond := .codeWith yL_compare cL_compare 7 (some .int) [(0, 14, 17, 13)] :: ([.classLink RL 13 "java/lang/IllegalArgumentException", .methodLink RL 22 yX0_compare, .instanceMethod yX0_compare, .selects RX0 yX0_compare yX0_compare, .initialized RX0, .code yX0_compare cX0_compare 8 (some .int), .fieldLink RX0 9 "NumberCircuits" "numbers" "[S", .methodLink RX0 17 yX0_needUpTo, .static yX0_needUpTo, .code yX0_needUpTo cX0_needUpTo 2 none, .classLink RX0 56 "java/lang/IllegalArgumentException", .initialized "java/lang/IllegalArgumentException", .methodLink RX0 21 yX0_place, .static yX0_place, .code yX0_place cX0_place 2 (some .int), .methodLink RX0 29 yX0_compared, .static yX0_compared, .code yX0_compared cX0_compared 3 (some .boolean), .methodLink RX0 33 yX0_setTruth, .instanceMethod yX0_setTruth, .selects RX0 yX0_setTruth yX0_setTruth, .code yX0_setTruth cX0_setTruth 5 none, .fieldLink RX0 13 "NumberCircuits" "truths" "[I"] ++ wsX00 ++ (vx_atS RX0 60 "java/lang/IllegalArgumentException" ["java/lang/RuntimeException", "java/lang/Exception"]).filter goodWord)
def wsL_choose : List Cond := .codeWith yL_choose cL_choose 6 (some .int) [(0, 9, 12, 13)] :: ([.classLink RL 13 "java/lang/IllegalArgumentException", .methodLink RL 26 yX0_choose, .instanceMethod yX0_choose, .selects RX0 yX0_choose yX0_choose, .initialized RX0, .code yX0_choose cX0_choose 7 none, .fieldLink RX0 9 "NumberCircuits" "numbers" "[S", .methodLink RX0 17 yX0_needUpTo, .static yX0_needUpTo, .code yX0_needUpTo cX0_needUpTo 2 none, .classLink RX0 56 "java/lang/IllegalArgumentException", .initialized "java/lang/IllegalArgumentException", .methodLink RX0 37 yX0_isYes, .instanceMethod yX0_isYes, .selects RX0 yX0_isYes yX0_isYes, .code yX0_isYes cX0_isYes 3 (some .boolean), .fieldLink RX0 13 "NumberCircuits" "truths" "[I", .methodLink RX0 21 yX0_place, .static yX0_place, .code yX0_place cX0_place 2 (some .int)] ++ wsX00 ++ (vx_atS RX0 60 "java/lang/IllegalArgumentException" ["java/lang/RuntimeException", "java/lang/Exception"]).filter goodWord)
def wsL_join : List Cond := .codeWith yL_join cL_join 7 (some .int) [(0, 14, 17, 13)] :: ([.classLink RL 13 "java/lang/IllegalArgumentException", .methodLink RL 29 yX0_join, .instanceMethod yX0_join, .selects RX0 yX0_join yX0_join, .initialized RX0, .code yX0_join cX0_join 8 (some .int), .methodLink RX0 17 yX0_needUpTo, .static yX0_needUpTo, .code yX0_needUpTo cX0_needUpTo 2 none, .classLink RX0 56 "java/lang/IllegalArgumentException", .initialized "java/lang/IllegalArgumentException", .methodLink RX0 37 yX0_isYes, .instanceMethod yX0_isYes, .selects RX0 yX0_isYes yX0_isYes, .code yX0_isYes cX0_isYes 3 (some .boolean), .fieldLink RX0 13 "NumberCircuits" "truths" "[I", .methodLink RX0 41 yX0_joined, .static yX0_joined, .code yX0_joined cX0_joined 3 (some .boolean), .methodLink RX0 33 yX0_setTruth, .instanceMethod yX0_setTruth, .selects RX0 yX0_setTruth yX0_setTruth, .code yX0_setTruth cX0_setTruth 5 none] ++ wsX00 ++ (vx_atS RX0 60 "java/lang/IllegalArgumentException" ["java/lang/RuntimeException", "java/lang/Exception"]).filter goodWord)
def wsL_value : List Cond := .codeWith yL_value cL_value 5 (some .int) [(0, 10, 13, 13)] :: ([.classLink RL 13 "java/lang/IllegalArgumentException", .methodLink RL 32 yX0_value, .instanceMethod yX0_value, .selects RX0 yX0_value yX0_value, .initialized RX0, .code yX0_value cX0_value 3 (some .int), .fieldLink RX0 9 "NumberCircuits" "numbers" "[S", .methodLink RX0 17 yX0_needUpTo, .static yX0_needUpTo, .code yX0_needUpTo cX0_needUpTo 2 none, .classLink RX0 56 "java/lang/IllegalArgumentException", .initialized "java/lang/IllegalArgumentException", .methodLink RX0 21 yX0_place, .static yX0_place, .code yX0_place cX0_place 2 (some .int)] ++ wsX00 ++ (vx_atS RX0 60 "java/lang/IllegalArgumentException" ["java/lang/RuntimeException", "java/lang/Exception"]).filter goodWord)
def wsL_way : List Cond := .codeWith yL_way cL_way 4 (some .int) [(0, 9, 12, 13), (0, 9, 15, 40)] :: ([.classLink RL 13 "java/lang/IllegalArgumentException", .classLink RL 40 "java/util/NoSuchElementException", .methodLink RL 36 yX0_way, .instanceMethod yX0_way, .selects RX0 yX0_way yX0_way, .initialized RX0, .code yX0_way cX0_way 3 (some .int), .classLink RX0 45 "java/util/NoSuchElementException", .initialized "java/util/NoSuchElementException", .methodLink RX0 17 yX0_needUpTo, .static yX0_needUpTo, .code yX0_needUpTo cX0_needUpTo 2 none, .classLink RX0 56 "java/lang/IllegalArgumentException", .initialized "java/lang/IllegalArgumentException", .methodLink RX0 37 yX0_isYes, .instanceMethod yX0_isYes, .selects RX0 yX0_isYes yX0_isYes, .code yX0_isYes cX0_isYes 3 (some .boolean), .fieldLink RX0 13 "NumberCircuits" "truths" "[I"] ++ wsX00 ++ nc_thrG ++ (vx_atS RX0 60 "java/lang/IllegalArgumentException" ["java/lang/RuntimeException", "java/lang/Exception"]).filter goodWord)
def wsL_same : List Cond := .codeWith yL_same cL_same 5 (some .int) [(0, 17, 20, 13)] :: ([.classLink RL 13 "java/lang/IllegalArgumentException", .methodLink RL 42 yX0_same, .instanceMethod yX0_same, .selects RX0 yX0_same yX0_same, .initialized RX0, .code yX0_same cX0_same 4 (some .boolean), .fieldLink RX0 9 "NumberCircuits" "numbers" "[S", .methodLink RX0 17 yX0_needUpTo, .static yX0_needUpTo, .code yX0_needUpTo cX0_needUpTo 2 none, .classLink RX0 56 "java/lang/IllegalArgumentException", .initialized "java/lang/IllegalArgumentException", .methodLink RX0 21 yX0_place, .static yX0_place, .code yX0_place cX0_place 2 (some .int)] ++ wsX00 ++ (vx_atS RX0 60 "java/lang/IllegalArgumentException" ["java/lang/RuntimeException", "java/lang/Exception"]).filter goodWord)
def wsL_tidy : List Cond := .codeWith yL_tidy cL_tidy 4 (some .int) [(0, 9, 12, 13)] :: ([.classLink RL 13 "java/lang/IllegalArgumentException", .methodLink RL 46 yX0_tidy, .instanceMethod yX0_tidy, .selects RX0 yX0_tidy yX0_tidy, .initialized RX0, .code yX0_tidy cX0_tidy 4 (some .int), .methodLink RX0 17 yX0_needUpTo, .static yX0_needUpTo, .code yX0_needUpTo cX0_needUpTo 2 none, .classLink RX0 56 "java/lang/IllegalArgumentException", .initialized "java/lang/IllegalArgumentException", .methodLink RX0 52 yX0_isZeroEverywhere, .instanceMethod yX0_isZeroEverywhere, .selects RX0 yX0_isZeroEverywhere yX0_isZeroEverywhere, .code yX0_isZeroEverywhere cX0_isZeroEverywhere 3 (some .boolean), .fieldLink RX0 9 "NumberCircuits" "numbers" "[S", .methodLink RX0 21 yX0_place, .static yX0_place, .code yX0_place cX0_place 2 (some .int)] ++ wsX00 ++ (vx_atS RX0 60 "java/lang/IllegalArgumentException" ["java/lang/RuntimeException", "java/lang/Exception"]).filter goodWord)
def wsL_law0_r1 : List Cond := [Cond.classLink RL 8 RX0, Cond.instantiable RX0 2, Cond.initialized RX0, Cond.classLink RL 50 RX1, Cond.instantiable RX1 4, Cond.initialized RX1, Cond.methodLink RL 49 yX0_init, Cond.instanceMethod yX0_init, Cond.code yX0_init cX0_init 1 none, Cond.methodLink RX0 1 objectInit, Cond.instanceMethod objectInit, Cond.code objectInit ⟨#[0xb1]⟩ 1 none, Cond.arrayClass .short, Cond.fieldLink RX0 9 "NumberCircuits" "numbers" "[S", Cond.arrayClass .int, Cond.fieldLink RX0 13 "NumberCircuits" "truths" "[I", Cond.methodLink RL 52 yX1_init, Cond.instanceMethod yX1_init, Cond.code yX1_init cX1_init 1 none, Cond.methodLink RX1 1 objectInit, Cond.fieldLink RX1 7 "NumberCircuitsModel" "numbers" "[I", Cond.arrayClass .boolean, Cond.fieldLink RX1 13 "NumberCircuitsModel" "truths" "[Z", Cond.fieldLink RX1 17 "NumberCircuitsModel" "made" "[I"]
def wsL_law0_r2 : List Cond := [Cond.methodLink RL 53 yL_constant, Cond.static yL_constant, Cond.initialized RL, Cond.codeWith yL_constant cL_constant 4 (some .int) [(0, 6, 9, 13)], Cond.classLink RL 13 "java/lang/IllegalArgumentException", Cond.methodLink RL 7 yX0_constant, Cond.instanceMethod yX0_constant, Cond.selects RX0 yX0_constant yX0_constant, Cond.code yX0_constant cX0_constant 4 none, Cond.methodLink RX0 17 yX0_needUpTo, Cond.static yX0_needUpTo, Cond.code yX0_needUpTo cX0_needUpTo 2 none, Cond.classLink RX0 56 "java/lang/IllegalArgumentException", Cond.initialized "java/lang/IllegalArgumentException", Cond.methodLink RX0 21 yX0_place, Cond.static yX0_place, Cond.code yX0_place cX0_place 2 (some .int), Cond.methodLink RL 58 yX1_constant, Cond.instanceMethod yX1_constant, Cond.selects RX1 yX1_constant yX1_constant, Cond.code yX1_constant cX1_constant 4 none, Cond.fieldLink RX1 20 "NumberCircuitsModel" "failed" "I", Cond.methodLink RX1 24 yX1_out, Cond.instanceMethod yX1_out]
def wsL_law0_r3 : List Cond := [Cond.selects RX1 yX1_out yX1_out, Cond.code yX1_out cX1_out 3 (some .boolean), Cond.methodLink RL 59 yX1_thrown, Cond.instanceMethod yX1_thrown, Cond.selects RX1 yX1_thrown yX1_thrown, Cond.code yX1_thrown cX1_thrown 1 (some .int), Cond.methodLink RL 63 yL_unknown, Cond.static yL_unknown, Cond.codeWith yL_unknown cL_unknown 6 (some .int) [(0, 9, 12, 13)], Cond.methodLink RL 15 yX0_unknown, Cond.instanceMethod yX0_unknown, Cond.selects RX0 yX0_unknown yX0_unknown, Cond.code yX0_unknown cX0_unknown 7 none, Cond.methodLink RL 67 yL_reckon, Cond.static yL_reckon, Cond.codeWith yL_reckon cL_reckon 6 (some .int) [(0, 9, 12, 13)], Cond.methodLink RL 19 yX0_reckon, Cond.instanceMethod yX0_reckon, Cond.selects RX0 yX0_reckon yX0_reckon, Cond.code yX0_reckon cX0_reckon 7 none, Cond.methodLink RX0 25 yX0_reckoned, Cond.static yX0_reckoned, Cond.code yX0_reckoned cX0_reckoned 3 (some .int), Cond.methodLink RL 70 yL_compare]
def wsL_law0_r4 : List Cond := [Cond.static yL_compare, Cond.codeWith yL_compare cL_compare 7 (some .int) [(0, 14, 17, 13)], Cond.methodLink RL 22 yX0_compare, Cond.instanceMethod yX0_compare, Cond.selects RX0 yX0_compare yX0_compare, Cond.code yX0_compare cX0_compare 8 (some .int), Cond.methodLink RX0 29 yX0_compared, Cond.static yX0_compared, Cond.code yX0_compared cX0_compared 3 (some .boolean), Cond.methodLink RX0 33 yX0_setTruth, Cond.instanceMethod yX0_setTruth, Cond.selects RX0 yX0_setTruth yX0_setTruth, Cond.code yX0_setTruth cX0_setTruth 5 none, Cond.methodLink RL 74 yL_choose, Cond.static yL_choose, Cond.codeWith yL_choose cL_choose 6 (some .int) [(0, 9, 12, 13)], Cond.methodLink RL 26 yX0_choose, Cond.instanceMethod yX0_choose, Cond.selects RX0 yX0_choose yX0_choose, Cond.code yX0_choose cX0_choose 7 none, Cond.methodLink RX0 37 yX0_isYes, Cond.instanceMethod yX0_isYes, Cond.selects RX0 yX0_isYes yX0_isYes, Cond.code yX0_isYes cX0_isYes 3 (some .boolean)]
def wsL_law0_r5 : List Cond := [Cond.methodLink RL 77 yL_join, Cond.static yL_join, Cond.codeWith yL_join cL_join 7 (some .int) [(0, 14, 17, 13)], Cond.methodLink RL 29 yX0_join, Cond.instanceMethod yX0_join, Cond.selects RX0 yX0_join yX0_join, Cond.code yX0_join cX0_join 8 (some .int), Cond.methodLink RX0 41 yX0_joined, Cond.static yX0_joined, Cond.code yX0_joined cX0_joined 3 (some .boolean), Cond.methodLink RL 80 yL_value, Cond.static yL_value, Cond.codeWith yL_value cL_value 5 (some .int) [(0, 10, 13, 13)], Cond.methodLink RL 32 yX0_value, Cond.instanceMethod yX0_value, Cond.selects RX0 yX0_value yX0_value, Cond.code yX0_value cX0_value 3 (some .int), Cond.methodLink RL 84 yL_way, Cond.static yL_way, Cond.codeWith yL_way cL_way 4 (some .int) [(0, 9, 12, 13), (0, 9, 15, 40)], Cond.classLink RL 40 "java/util/NoSuchElementException", Cond.methodLink RL 36 yX0_way, Cond.instanceMethod yX0_way, Cond.selects RX0 yX0_way yX0_way]
def wsL_law0_r6 : List Cond := [Cond.code yX0_way cX0_way 3 (some .int), Cond.classLink RX0 45 "java/util/NoSuchElementException", Cond.initialized "java/util/NoSuchElementException", Cond.methodLink RL 88 yL_same, Cond.static yL_same, Cond.codeWith yL_same cL_same 5 (some .int) [(0, 17, 20, 13)], Cond.methodLink RL 42 yX0_same, Cond.instanceMethod yX0_same, Cond.selects RX0 yX0_same yX0_same, Cond.code yX0_same cX0_same 4 (some .boolean), Cond.methodLink RL 91 yL_tidy, Cond.static yL_tidy, Cond.codeWith yL_tidy cL_tidy 4 (some .int) [(0, 9, 12, 13)], Cond.methodLink RL 46 yX0_tidy, Cond.instanceMethod yX0_tidy, Cond.selects RX0 yX0_tidy yX0_tidy, Cond.code yX0_tidy cX0_tidy 4 (some .int), Cond.methodLink RX0 52 yX0_isZeroEverywhere, Cond.instanceMethod yX0_isZeroEverywhere, Cond.selects RX0 yX0_isZeroEverywhere yX0_isZeroEverywhere, Cond.code yX0_isZeroEverywhere cX0_isZeroEverywhere 3 (some .boolean)]
def wsL_law0 : List Cond := (wsL_law0_r1 ++ (wsL_law0_r2 ++ (wsL_law0_r3 ++ (wsL_law0_r4 ++ (wsL_law0_r5 ++ wsL_law0_r6))))) ++ wsX00 ++ wsX10 ++ ([] : List Cond)
def wsL_law : List Cond := wsL_law0 ++ (vx_atS RX0 60 "java/lang/IllegalArgumentException" ["java/lang/RuntimeException", "java/lang/Exception"]).filter goodWord ++ nc_thrG
set_option maxRecDepth 20000 in
theorem wsL_law_in0 : ∀ w ∈ wsL_law0, w ∈ lw_tbl := by decide +kernel
theorem wsL_law_x0 : ∀ w ∈ (vx_atS RX0 60 "java/lang/IllegalArgumentException" ["java/lang/RuntimeException", "java/lang/Exception"]).filter goodWord, w ∈ lw_tbl := by decide +kernel
theorem wsL_law_x1 : ∀ w ∈ nc_thrG, w ∈ lw_tbl := by decide +kernel
theorem wsL_law_in : ∀ w ∈ wsL_law, w ∈ lw_tbl := fun w h => (List.mem_append.mp h).elim (fun h => (List.mem_append.mp h).elim (fun h => wsL_law_in0 w h) (fun h => wsL_law_x0 w h)) (fun h => wsL_law_x1 w h)
theorem inlX0 : ∀ w ∈ wsX00, w ∈ wsL_law := fun _ h => List.mem_append_left _ (List.mem_append_left _ (List.mem_append_left _ (List.mem_append_left _ (List.mem_append_right _ h))))
theorem inX0 : ∀ w ∈ wsX00, w ∈ lw_tbl := fun w h => wsL_law_in w (inlX0 w h)
theorem inlX1 : ∀ w ∈ wsX10, w ∈ wsL_law := fun _ h => List.mem_append_left _ (List.mem_append_left _ (List.mem_append_left _ (List.mem_append_right _ h)))
theorem inX1 : ∀ w ∈ wsX10, w ∈ lw_tbl := fun w h => wsL_law_in w (inlX1 w h)
theorem inJ0 : ∀ w ∈ wsJ00, w ∈ lw_tbl := by decide +kernel
theorem dX0_init_0 : decode cX0_init 0 = .ok (.aload_n 0, 1) := by decide +kernel
theorem dX0_init_1 : decode cX0_init 1 = .ok (.invokespecial 1, 3) := by decide +kernel
theorem dX0_init_4 : decode cX0_init 4 = .ok (.aload_n 0, 1) := by decide +kernel
theorem dX0_init_5 : decode cX0_init 5 = .ok (.sipush 8192, 3) := by decide +kernel
theorem dX0_init_8 : decode cX0_init 8 = .ok (.newarray .short, 2) := by decide +kernel
theorem dX0_init_10 : decode cX0_init 10 = .ok (.putfield 9, 3) := by decide +kernel
theorem dX0_init_13 : decode cX0_init 13 = .ok (.aload_n 0, 1) := by decide +kernel
theorem dX0_init_14 : decode cX0_init 14 = .ok (.sipush 1024, 3) := by decide +kernel
theorem dX0_init_17 : decode cX0_init 17 = .ok (.newarray .int, 2) := by decide +kernel
theorem dX0_init_19 : decode cX0_init 19 = .ok (.putfield 13, 3) := by decide +kernel
theorem dX0_init_22 : decode cX0_init 22 = .ok (.return_, 1) := by decide +kernel
set_option maxRecDepth 20000 in
theorem ggX0_constant_X0_needUpTo : GoodIn wsX0_constant wsX0_needUpTo := goodIn_ca (goodIn_r _ [5, 6, 7] (by decide +kernel) (by decide +kernel)) (goodIn_sub (fun _ h => List.mem_cons_of_mem _ (List.mem_append_right _ h)) (by decide +kernel))
set_option maxRecDepth 20000 in
theorem gX0_constant_X0_needUpTo : GoodIn wsX0_constant (va_wsS RX0 17 yX0_needUpTo wsX0_needUpTo) := goodIn_app (goodIn_of _ (by decide +kernel)) ggX0_constant_X0_needUpTo
set_option maxRecDepth 20000 in
theorem ggX0_constant_X0_place : GoodIn wsX0_constant wsX0_place := goodIn_r _ [10] (by decide +kernel) (by decide +kernel)
set_option maxRecDepth 20000 in
theorem gX0_constant_X0_place : GoodIn wsX0_constant (va_wsS RX0 21 yX0_place wsX0_place) := goodIn_app (goodIn_of _ (by decide +kernel)) ggX0_constant_X0_place
theorem dX0_constant_0 : decode cX0_constant 0 = .ok (.iload_n 1, 1) := by decide +kernel
theorem dX0_constant_1 : decode cX0_constant 1 = .ok (.bipush 7, 2) := by decide +kernel
theorem dX0_constant_3 : decode cX0_constant 3 = .ok (.invokestatic 17, 3) := by decide +kernel
theorem dX0_constant_6 : decode cX0_constant 6 = .ok (.iconst 0, 1) := by decide +kernel
theorem dX0_constant_7 : decode cX0_constant 7 = .ok (.istore_n 3, 1) := by decide +kernel
theorem dX0_constant_8 : decode cX0_constant 8 = .ok (.iload_n 3, 1) := by decide +kernel
theorem dX0_constant_9 : decode cX0_constant 9 = .ok (.sipush 1024, 3) := by decide +kernel
theorem dX0_constant_12 : decode cX0_constant 12 = .ok (.if_icmp .ge 21, 3) := by decide +kernel
theorem dX0_constant_15 : decode cX0_constant 15 = .ok (.aload_n 0, 1) := by decide +kernel
theorem dX0_constant_16 : decode cX0_constant 16 = .ok (.getfield 9, 3) := by decide +kernel
theorem dX0_constant_19 : decode cX0_constant 19 = .ok (.iload_n 1, 1) := by decide +kernel
theorem dX0_constant_20 : decode cX0_constant 20 = .ok (.iload_n 3, 1) := by decide +kernel
theorem dX0_constant_21 : decode cX0_constant 21 = .ok (.invokestatic 21, 3) := by decide +kernel
theorem dX0_constant_24 : decode cX0_constant 24 = .ok (.iload_n 2, 1) := by decide +kernel
theorem dX0_constant_25 : decode cX0_constant 25 = .ok (.i2s, 1) := by decide +kernel
theorem dX0_constant_26 : decode cX0_constant 26 = .ok (.sastore, 1) := by decide +kernel
theorem dX0_constant_27 : decode cX0_constant 27 = .ok (.iinc 3 1, 3) := by decide +kernel
theorem dX0_constant_30 : decode cX0_constant 30 = .ok (.goto (-22), 3) := by decide +kernel
theorem dX0_constant_33 : decode cX0_constant 33 = .ok (.return_, 1) := by decide +kernel
set_option maxRecDepth 20000 in
theorem ggX0_unknown_X0_needUpTo : GoodIn wsX0_unknown wsX0_needUpTo := goodIn_ca (goodIn_r _ [5, 6, 7] (by decide +kernel) (by decide +kernel)) (goodIn_sub (fun _ h => List.mem_cons_of_mem _ (List.mem_append_right _ h)) (by decide +kernel))
set_option maxRecDepth 20000 in
theorem gX0_unknown_X0_needUpTo : GoodIn wsX0_unknown (va_wsS RX0 17 yX0_needUpTo wsX0_needUpTo) := goodIn_app (goodIn_of _ (by decide +kernel)) ggX0_unknown_X0_needUpTo
set_option maxRecDepth 20000 in
theorem ggX0_unknown_X0_place : GoodIn wsX0_unknown wsX0_place := goodIn_r _ [10] (by decide +kernel) (by decide +kernel)
set_option maxRecDepth 20000 in
theorem gX0_unknown_X0_place : GoodIn wsX0_unknown (va_wsS RX0 21 yX0_place wsX0_place) := goodIn_app (goodIn_of _ (by decide +kernel)) ggX0_unknown_X0_place
theorem dX0_unknown_0 : decode cX0_unknown 0 = .ok (.iload_n 1, 1) := by decide +kernel
theorem dX0_unknown_1 : decode cX0_unknown 1 = .ok (.bipush 7, 2) := by decide +kernel
theorem dX0_unknown_3 : decode cX0_unknown 3 = .ok (.invokestatic 17, 3) := by decide +kernel
theorem dX0_unknown_6 : decode cX0_unknown 6 = .ok (.iload_n 2, 1) := by decide +kernel
theorem dX0_unknown_7 : decode cX0_unknown 7 = .ok (.bipush 10, 2) := by decide +kernel
theorem dX0_unknown_9 : decode cX0_unknown 9 = .ok (.invokestatic 17, 3) := by decide +kernel
theorem dX0_unknown_12 : decode cX0_unknown 12 = .ok (.iload_n 3, 1) := by decide +kernel
theorem dX0_unknown_13 : decode cX0_unknown 13 = .ok (.bipush 10, 2) := by decide +kernel
theorem dX0_unknown_15 : decode cX0_unknown 15 = .ok (.iload_n 2, 1) := by decide +kernel
theorem dX0_unknown_16 : decode cX0_unknown 16 = .ok (.isub, 1) := by decide +kernel
theorem dX0_unknown_17 : decode cX0_unknown 17 = .ok (.invokestatic 17, 3) := by decide +kernel
theorem dX0_unknown_20 : decode cX0_unknown 20 = .ok (.iconst 1, 1) := by decide +kernel
theorem dX0_unknown_21 : decode cX0_unknown 21 = .ok (.iload_n 3, 1) := by decide +kernel
theorem dX0_unknown_22 : decode cX0_unknown 22 = .ok (.ishl, 1) := by decide +kernel
theorem dX0_unknown_23 : decode cX0_unknown 23 = .ok (.iconst 1, 1) := by decide +kernel
theorem dX0_unknown_24 : decode cX0_unknown 24 = .ok (.isub, 1) := by decide +kernel
theorem dX0_unknown_25 : decode cX0_unknown 25 = .ok (.istore 5, 2) := by decide +kernel
theorem dX0_unknown_27 : decode cX0_unknown 27 = .ok (.iconst 0, 1) := by decide +kernel
theorem dX0_unknown_28 : decode cX0_unknown 28 = .ok (.istore 6, 2) := by decide +kernel
theorem dX0_unknown_30 : decode cX0_unknown 30 = .ok (.iload 6, 2) := by decide +kernel
theorem dX0_unknown_32 : decode cX0_unknown 32 = .ok (.sipush 1024, 3) := by decide +kernel
theorem dX0_unknown_35 : decode cX0_unknown 35 = .ok (.if_icmp .ge 31, 3) := by decide +kernel
theorem dX0_unknown_38 : decode cX0_unknown 38 = .ok (.aload_n 0, 1) := by decide +kernel
theorem dX0_unknown_39 : decode cX0_unknown 39 = .ok (.getfield 9, 3) := by decide +kernel
theorem dX0_unknown_42 : decode cX0_unknown 42 = .ok (.iload_n 1, 1) := by decide +kernel
theorem dX0_unknown_43 : decode cX0_unknown 43 = .ok (.iload 6, 2) := by decide +kernel
theorem dX0_unknown_45 : decode cX0_unknown 45 = .ok (.invokestatic 21, 3) := by decide +kernel
theorem dX0_unknown_48 : decode cX0_unknown 48 = .ok (.iload 6, 2) := by decide +kernel
theorem dX0_unknown_50 : decode cX0_unknown 50 = .ok (.iload_n 2, 1) := by decide +kernel
theorem dX0_unknown_51 : decode cX0_unknown 51 = .ok (.ishr, 1) := by decide +kernel
theorem dX0_unknown_52 : decode cX0_unknown 52 = .ok (.iload 5, 2) := by decide +kernel
theorem dX0_unknown_54 : decode cX0_unknown 54 = .ok (.iand, 1) := by decide +kernel
theorem dX0_unknown_55 : decode cX0_unknown 55 = .ok (.iload 4, 2) := by decide +kernel
theorem dX0_unknown_57 : decode cX0_unknown 57 = .ok (.iadd, 1) := by decide +kernel
theorem dX0_unknown_58 : decode cX0_unknown 58 = .ok (.i2s, 1) := by decide +kernel
theorem dX0_unknown_59 : decode cX0_unknown 59 = .ok (.sastore, 1) := by decide +kernel
theorem dX0_unknown_60 : decode cX0_unknown 60 = .ok (.iinc 6 1, 3) := by decide +kernel
theorem dX0_unknown_63 : decode cX0_unknown 63 = .ok (.goto (-33), 3) := by decide +kernel
theorem dX0_unknown_66 : decode cX0_unknown 66 = .ok (.return_, 1) := by decide +kernel
set_option maxRecDepth 20000 in
theorem ggX0_reckon_X0_needUpTo : GoodIn wsX0_reckon wsX0_needUpTo := goodIn_ca (goodIn_r _ [5, 6, 7] (by decide +kernel) (by decide +kernel)) (goodIn_sub (fun _ h => List.mem_cons_of_mem _ (List.mem_append_right _ h)) (by decide +kernel))
set_option maxRecDepth 20000 in
theorem gX0_reckon_X0_needUpTo : GoodIn wsX0_reckon (va_wsS RX0 17 yX0_needUpTo wsX0_needUpTo) := goodIn_app (goodIn_of _ (by decide +kernel)) ggX0_reckon_X0_needUpTo
set_option maxRecDepth 20000 in
theorem ggX0_reckon_X0_place : GoodIn wsX0_reckon wsX0_place := goodIn_r _ [10] (by decide +kernel) (by decide +kernel)
set_option maxRecDepth 20000 in
theorem gX0_reckon_X0_place : GoodIn wsX0_reckon (va_wsS RX0 21 yX0_place wsX0_place) := goodIn_app (goodIn_of _ (by decide +kernel)) ggX0_reckon_X0_place
set_option maxRecDepth 20000 in
theorem ggX0_reckon_X0_reckoned : GoodIn wsX0_reckon wsX0_reckoned := goodIn_r _ [13] (by decide +kernel) (by decide +kernel)
set_option maxRecDepth 20000 in
theorem gX0_reckon_X0_reckoned : GoodIn wsX0_reckon (va_wsS RX0 25 yX0_reckoned wsX0_reckoned) := goodIn_app (goodIn_of _ (by decide +kernel)) ggX0_reckon_X0_reckoned
theorem dX0_reckon_0 : decode cX0_reckon 0 = .ok (.iload_n 1, 1) := by decide +kernel
theorem dX0_reckon_1 : decode cX0_reckon 1 = .ok (.bipush 7, 2) := by decide +kernel
theorem dX0_reckon_3 : decode cX0_reckon 3 = .ok (.invokestatic 17, 3) := by decide +kernel
theorem dX0_reckon_6 : decode cX0_reckon 6 = .ok (.iload_n 2, 1) := by decide +kernel
theorem dX0_reckon_7 : decode cX0_reckon 7 = .ok (.iconst 5, 1) := by decide +kernel
theorem dX0_reckon_8 : decode cX0_reckon 8 = .ok (.invokestatic 17, 3) := by decide +kernel
theorem dX0_reckon_11 : decode cX0_reckon 11 = .ok (.iload_n 3, 1) := by decide +kernel
theorem dX0_reckon_12 : decode cX0_reckon 12 = .ok (.bipush 7, 2) := by decide +kernel
theorem dX0_reckon_14 : decode cX0_reckon 14 = .ok (.invokestatic 17, 3) := by decide +kernel
theorem dX0_reckon_17 : decode cX0_reckon 17 = .ok (.iload 4, 2) := by decide +kernel
theorem dX0_reckon_19 : decode cX0_reckon 19 = .ok (.bipush 7, 2) := by decide +kernel
theorem dX0_reckon_21 : decode cX0_reckon 21 = .ok (.invokestatic 17, 3) := by decide +kernel
theorem dX0_reckon_24 : decode cX0_reckon 24 = .ok (.iconst 0, 1) := by decide +kernel
theorem dX0_reckon_25 : decode cX0_reckon 25 = .ok (.istore 5, 2) := by decide +kernel
theorem dX0_reckon_27 : decode cX0_reckon 27 = .ok (.iload 5, 2) := by decide +kernel
theorem dX0_reckon_29 : decode cX0_reckon 29 = .ok (.sipush 1024, 3) := by decide +kernel
theorem dX0_reckon_32 : decode cX0_reckon 32 = .ok (.if_icmp .ge 52, 3) := by decide +kernel
theorem dX0_reckon_35 : decode cX0_reckon 35 = .ok (.iload_n 2, 1) := by decide +kernel
theorem dX0_reckon_36 : decode cX0_reckon 36 = .ok (.aload_n 0, 1) := by decide +kernel
theorem dX0_reckon_37 : decode cX0_reckon 37 = .ok (.getfield 9, 3) := by decide +kernel
theorem dX0_reckon_40 : decode cX0_reckon 40 = .ok (.iload_n 3, 1) := by decide +kernel
theorem dX0_reckon_41 : decode cX0_reckon 41 = .ok (.iload 5, 2) := by decide +kernel
theorem dX0_reckon_43 : decode cX0_reckon 43 = .ok (.invokestatic 21, 3) := by decide +kernel
theorem dX0_reckon_46 : decode cX0_reckon 46 = .ok (.saload, 1) := by decide +kernel
theorem dX0_reckon_47 : decode cX0_reckon 47 = .ok (.aload_n 0, 1) := by decide +kernel
theorem dX0_reckon_48 : decode cX0_reckon 48 = .ok (.getfield 9, 3) := by decide +kernel
theorem dX0_reckon_51 : decode cX0_reckon 51 = .ok (.iload 4, 2) := by decide +kernel
theorem dX0_reckon_53 : decode cX0_reckon 53 = .ok (.iload 5, 2) := by decide +kernel
theorem dX0_reckon_55 : decode cX0_reckon 55 = .ok (.invokestatic 21, 3) := by decide +kernel
theorem dX0_reckon_58 : decode cX0_reckon 58 = .ok (.saload, 1) := by decide +kernel
theorem dX0_reckon_59 : decode cX0_reckon 59 = .ok (.invokestatic 25, 3) := by decide +kernel
theorem dX0_reckon_62 : decode cX0_reckon 62 = .ok (.istore 6, 2) := by decide +kernel
theorem dX0_reckon_64 : decode cX0_reckon 64 = .ok (.aload_n 0, 1) := by decide +kernel
theorem dX0_reckon_65 : decode cX0_reckon 65 = .ok (.getfield 9, 3) := by decide +kernel
theorem dX0_reckon_68 : decode cX0_reckon 68 = .ok (.iload_n 1, 1) := by decide +kernel
theorem dX0_reckon_69 : decode cX0_reckon 69 = .ok (.iload 5, 2) := by decide +kernel
theorem dX0_reckon_71 : decode cX0_reckon 71 = .ok (.invokestatic 21, 3) := by decide +kernel
theorem dX0_reckon_74 : decode cX0_reckon 74 = .ok (.iload 6, 2) := by decide +kernel
theorem dX0_reckon_76 : decode cX0_reckon 76 = .ok (.i2s, 1) := by decide +kernel
theorem dX0_reckon_77 : decode cX0_reckon 77 = .ok (.sastore, 1) := by decide +kernel
theorem dX0_reckon_78 : decode cX0_reckon 78 = .ok (.iinc 5 1, 3) := by decide +kernel
theorem dX0_reckon_81 : decode cX0_reckon 81 = .ok (.goto (-54), 3) := by decide +kernel
theorem dX0_reckon_84 : decode cX0_reckon 84 = .ok (.return_, 1) := by decide +kernel
set_option maxRecDepth 20000 in
theorem ggX0_compare_X0_needUpTo : GoodIn wsX0_compare wsX0_needUpTo := goodIn_ca (goodIn_r _ [5, 6, 7] (by decide +kernel) (by decide +kernel)) (goodIn_sub (fun _ h => List.mem_cons_of_mem _ (List.mem_append_right _ h)) (by decide +kernel))
set_option maxRecDepth 20000 in
theorem gX0_compare_X0_needUpTo : GoodIn wsX0_compare (va_wsS RX0 17 yX0_needUpTo wsX0_needUpTo) := goodIn_app (goodIn_of _ (by decide +kernel)) ggX0_compare_X0_needUpTo
set_option maxRecDepth 20000 in
theorem ggX0_compare_X0_place : GoodIn wsX0_compare wsX0_place := goodIn_r _ [10] (by decide +kernel) (by decide +kernel)
set_option maxRecDepth 20000 in
theorem gX0_compare_X0_place : GoodIn wsX0_compare (va_wsS RX0 21 yX0_place wsX0_place) := goodIn_app (goodIn_of _ (by decide +kernel)) ggX0_compare_X0_place
set_option maxRecDepth 20000 in
theorem ggX0_compare_X0_compared : GoodIn wsX0_compare wsX0_compared := goodIn_r _ [13] (by decide +kernel) (by decide +kernel)
set_option maxRecDepth 20000 in
theorem gX0_compare_X0_compared : GoodIn wsX0_compare (va_wsS RX0 29 yX0_compared wsX0_compared) := goodIn_app (goodIn_of _ (by decide +kernel)) ggX0_compare_X0_compared
set_option maxRecDepth 20000 in
theorem ggX0_compare_X0_setTruth : GoodIn wsX0_compare wsX0_setTruth := goodIn_r _ [17, 18, 19, 20] (by decide +kernel) (by decide +kernel)
set_option maxRecDepth 20000 in
theorem gX0_compare_X0_setTruth : GoodIn wsX0_compare (wsV RX0 33 RX0 yX0_setTruth wsX0_setTruth) := goodIn_app (goodIn_of _ (by decide +kernel)) ggX0_compare_X0_setTruth
theorem dX0_compare_0 : decode cX0_compare 0 = .ok (.iload_n 1, 1) := by decide +kernel
theorem dX0_compare_1 : decode cX0_compare 1 = .ok (.bipush 7, 2) := by decide +kernel
theorem dX0_compare_3 : decode cX0_compare 3 = .ok (.invokestatic 17, 3) := by decide +kernel
theorem dX0_compare_6 : decode cX0_compare 6 = .ok (.iload_n 2, 1) := by decide +kernel
theorem dX0_compare_7 : decode cX0_compare 7 = .ok (.iconst 3, 1) := by decide +kernel
theorem dX0_compare_8 : decode cX0_compare 8 = .ok (.invokestatic 17, 3) := by decide +kernel
theorem dX0_compare_11 : decode cX0_compare 11 = .ok (.iload_n 3, 1) := by decide +kernel
theorem dX0_compare_12 : decode cX0_compare 12 = .ok (.bipush 7, 2) := by decide +kernel
theorem dX0_compare_14 : decode cX0_compare 14 = .ok (.invokestatic 17, 3) := by decide +kernel
theorem dX0_compare_17 : decode cX0_compare 17 = .ok (.iload 4, 2) := by decide +kernel
theorem dX0_compare_19 : decode cX0_compare 19 = .ok (.bipush 7, 2) := by decide +kernel
theorem dX0_compare_21 : decode cX0_compare 21 = .ok (.invokestatic 17, 3) := by decide +kernel
theorem dX0_compare_24 : decode cX0_compare 24 = .ok (.iconst 0, 1) := by decide +kernel
theorem dX0_compare_25 : decode cX0_compare 25 = .ok (.istore 5, 2) := by decide +kernel
theorem dX0_compare_27 : decode cX0_compare 27 = .ok (.iconst 0, 1) := by decide +kernel
theorem dX0_compare_28 : decode cX0_compare 28 = .ok (.istore 6, 2) := by decide +kernel
theorem dX0_compare_30 : decode cX0_compare 30 = .ok (.iload 6, 2) := by decide +kernel
theorem dX0_compare_32 : decode cX0_compare 32 = .ok (.sipush 1024, 3) := by decide +kernel
theorem dX0_compare_35 : decode cX0_compare 35 = .ok (.if_icmp .ge 62, 3) := by decide +kernel
theorem dX0_compare_38 : decode cX0_compare 38 = .ok (.iload_n 2, 1) := by decide +kernel
theorem dX0_compare_39 : decode cX0_compare 39 = .ok (.aload_n 0, 1) := by decide +kernel
theorem dX0_compare_40 : decode cX0_compare 40 = .ok (.getfield 9, 3) := by decide +kernel
theorem dX0_compare_43 : decode cX0_compare 43 = .ok (.iload_n 3, 1) := by decide +kernel
theorem dX0_compare_44 : decode cX0_compare 44 = .ok (.iload 6, 2) := by decide +kernel
theorem dX0_compare_46 : decode cX0_compare 46 = .ok (.invokestatic 21, 3) := by decide +kernel
theorem dX0_compare_49 : decode cX0_compare 49 = .ok (.saload, 1) := by decide +kernel
theorem dX0_compare_50 : decode cX0_compare 50 = .ok (.aload_n 0, 1) := by decide +kernel
theorem dX0_compare_51 : decode cX0_compare 51 = .ok (.getfield 9, 3) := by decide +kernel
theorem dX0_compare_54 : decode cX0_compare 54 = .ok (.iload 4, 2) := by decide +kernel
theorem dX0_compare_56 : decode cX0_compare 56 = .ok (.iload 6, 2) := by decide +kernel
theorem dX0_compare_58 : decode cX0_compare 58 = .ok (.invokestatic 21, 3) := by decide +kernel
theorem dX0_compare_61 : decode cX0_compare 61 = .ok (.saload, 1) := by decide +kernel
theorem dX0_compare_62 : decode cX0_compare 62 = .ok (.invokestatic 29, 3) := by decide +kernel
theorem dX0_compare_65 : decode cX0_compare 65 = .ok (.istore 7, 2) := by decide +kernel
theorem dX0_compare_67 : decode cX0_compare 67 = .ok (.aload_n 0, 1) := by decide +kernel
theorem dX0_compare_68 : decode cX0_compare 68 = .ok (.iload_n 1, 1) := by decide +kernel
theorem dX0_compare_69 : decode cX0_compare 69 = .ok (.iload 6, 2) := by decide +kernel
theorem dX0_compare_71 : decode cX0_compare 71 = .ok (.iload 7, 2) := by decide +kernel
theorem dX0_compare_73 : decode cX0_compare 73 = .ok (.invokevirtual 33, 3) := by decide +kernel
theorem dX0_compare_76 : decode cX0_compare 76 = .ok (.iload 5, 2) := by decide +kernel
theorem dX0_compare_78 : decode cX0_compare 78 = .ok (.iload 7, 2) := by decide +kernel
theorem dX0_compare_80 : decode cX0_compare 80 = .ok (.ifCond .eq 7, 3) := by decide +kernel
theorem dX0_compare_83 : decode cX0_compare 83 = .ok (.iconst 1, 1) := by decide +kernel
theorem dX0_compare_84 : decode cX0_compare 84 = .ok (.goto 4, 3) := by decide +kernel
theorem dX0_compare_87 : decode cX0_compare 87 = .ok (.iconst 0, 1) := by decide +kernel
theorem dX0_compare_88 : decode cX0_compare 88 = .ok (.iadd, 1) := by decide +kernel
theorem dX0_compare_89 : decode cX0_compare 89 = .ok (.istore 5, 2) := by decide +kernel
theorem dX0_compare_91 : decode cX0_compare 91 = .ok (.iinc 6 1, 3) := by decide +kernel
theorem dX0_compare_94 : decode cX0_compare 94 = .ok (.goto (-64), 3) := by decide +kernel
theorem dX0_compare_97 : decode cX0_compare 97 = .ok (.iload 5, 2) := by decide +kernel
theorem dX0_compare_99 : decode cX0_compare 99 = .ok (.ireturn, 1) := by decide +kernel
set_option maxRecDepth 20000 in
theorem ggX0_choose_X0_needUpTo : GoodIn wsX0_choose wsX0_needUpTo := goodIn_ca (goodIn_r _ [5, 6, 7] (by decide +kernel) (by decide +kernel)) (goodIn_sub (fun _ h => List.mem_cons_of_mem _ (List.mem_append_right _ h)) (by decide +kernel))
set_option maxRecDepth 20000 in
theorem gX0_choose_X0_needUpTo : GoodIn wsX0_choose (va_wsS RX0 17 yX0_needUpTo wsX0_needUpTo) := goodIn_app (goodIn_of _ (by decide +kernel)) ggX0_choose_X0_needUpTo
set_option maxRecDepth 20000 in
theorem ggX0_choose_X0_isYes : GoodIn wsX0_choose wsX0_isYes := goodIn_r _ [11, 12, 16, 17] (by decide +kernel) (by decide +kernel)
set_option maxRecDepth 20000 in
theorem gX0_choose_X0_isYes : GoodIn wsX0_choose (wsV RX0 37 RX0 yX0_isYes wsX0_isYes) := goodIn_app (goodIn_of _ (by decide +kernel)) ggX0_choose_X0_isYes
set_option maxRecDepth 20000 in
theorem ggX0_choose_X0_place : GoodIn wsX0_choose wsX0_place := goodIn_r _ [15] (by decide +kernel) (by decide +kernel)
set_option maxRecDepth 20000 in
theorem gX0_choose_X0_place : GoodIn wsX0_choose (va_wsS RX0 21 yX0_place wsX0_place) := goodIn_app (goodIn_of _ (by decide +kernel)) ggX0_choose_X0_place
theorem dX0_choose_0 : decode cX0_choose 0 = .ok (.iload_n 1, 1) := by decide +kernel
theorem dX0_choose_1 : decode cX0_choose 1 = .ok (.bipush 7, 2) := by decide +kernel
theorem dX0_choose_3 : decode cX0_choose 3 = .ok (.invokestatic 17, 3) := by decide +kernel
theorem dX0_choose_6 : decode cX0_choose 6 = .ok (.iload_n 2, 1) := by decide +kernel
theorem dX0_choose_7 : decode cX0_choose 7 = .ok (.bipush 7, 2) := by decide +kernel
theorem dX0_choose_9 : decode cX0_choose 9 = .ok (.invokestatic 17, 3) := by decide +kernel
theorem dX0_choose_12 : decode cX0_choose 12 = .ok (.iload_n 3, 1) := by decide +kernel
theorem dX0_choose_13 : decode cX0_choose 13 = .ok (.bipush 7, 2) := by decide +kernel
theorem dX0_choose_15 : decode cX0_choose 15 = .ok (.invokestatic 17, 3) := by decide +kernel
theorem dX0_choose_18 : decode cX0_choose 18 = .ok (.iload 4, 2) := by decide +kernel
theorem dX0_choose_20 : decode cX0_choose 20 = .ok (.bipush 7, 2) := by decide +kernel
theorem dX0_choose_22 : decode cX0_choose 22 = .ok (.invokestatic 17, 3) := by decide +kernel
theorem dX0_choose_25 : decode cX0_choose 25 = .ok (.iconst 0, 1) := by decide +kernel
theorem dX0_choose_26 : decode cX0_choose 26 = .ok (.istore 5, 2) := by decide +kernel
theorem dX0_choose_28 : decode cX0_choose 28 = .ok (.iload 5, 2) := by decide +kernel
theorem dX0_choose_30 : decode cX0_choose 30 = .ok (.sipush 1024, 3) := by decide +kernel
theorem dX0_choose_33 : decode cX0_choose 33 = .ok (.if_icmp .ge 50, 3) := by decide +kernel
theorem dX0_choose_36 : decode cX0_choose 36 = .ok (.aload_n 0, 1) := by decide +kernel
theorem dX0_choose_37 : decode cX0_choose 37 = .ok (.iload_n 2, 1) := by decide +kernel
theorem dX0_choose_38 : decode cX0_choose 38 = .ok (.iload 5, 2) := by decide +kernel
theorem dX0_choose_40 : decode cX0_choose 40 = .ok (.invokevirtual 37, 3) := by decide +kernel
theorem dX0_choose_43 : decode cX0_choose 43 = .ok (.ifCond .eq 7, 3) := by decide +kernel
theorem dX0_choose_46 : decode cX0_choose 46 = .ok (.iload_n 3, 1) := by decide +kernel
theorem dX0_choose_47 : decode cX0_choose 47 = .ok (.goto 5, 3) := by decide +kernel
theorem dX0_choose_50 : decode cX0_choose 50 = .ok (.iload 4, 2) := by decide +kernel
theorem dX0_choose_52 : decode cX0_choose 52 = .ok (.istore 6, 2) := by decide +kernel
theorem dX0_choose_54 : decode cX0_choose 54 = .ok (.aload_n 0, 1) := by decide +kernel
theorem dX0_choose_55 : decode cX0_choose 55 = .ok (.getfield 9, 3) := by decide +kernel
theorem dX0_choose_58 : decode cX0_choose 58 = .ok (.iload_n 1, 1) := by decide +kernel
theorem dX0_choose_59 : decode cX0_choose 59 = .ok (.iload 5, 2) := by decide +kernel
theorem dX0_choose_61 : decode cX0_choose 61 = .ok (.invokestatic 21, 3) := by decide +kernel
theorem dX0_choose_64 : decode cX0_choose 64 = .ok (.aload_n 0, 1) := by decide +kernel
theorem dX0_choose_65 : decode cX0_choose 65 = .ok (.getfield 9, 3) := by decide +kernel
theorem dX0_choose_68 : decode cX0_choose 68 = .ok (.iload 6, 2) := by decide +kernel
theorem dX0_choose_70 : decode cX0_choose 70 = .ok (.iload 5, 2) := by decide +kernel
theorem dX0_choose_72 : decode cX0_choose 72 = .ok (.invokestatic 21, 3) := by decide +kernel
theorem dX0_choose_75 : decode cX0_choose 75 = .ok (.saload, 1) := by decide +kernel
theorem dX0_choose_76 : decode cX0_choose 76 = .ok (.sastore, 1) := by decide +kernel
theorem dX0_choose_77 : decode cX0_choose 77 = .ok (.iinc 5 1, 3) := by decide +kernel
theorem dX0_choose_80 : decode cX0_choose 80 = .ok (.goto (-52), 3) := by decide +kernel
theorem dX0_choose_83 : decode cX0_choose 83 = .ok (.return_, 1) := by decide +kernel
set_option maxRecDepth 20000 in
theorem ggX0_join_X0_needUpTo : GoodIn wsX0_join wsX0_needUpTo := goodIn_ca (goodIn_r _ [4, 5, 6] (by decide +kernel) (by decide +kernel)) (goodIn_sub (fun _ h => List.mem_cons_of_mem _ (List.mem_append_right _ h)) (by decide +kernel))
set_option maxRecDepth 20000 in
theorem gX0_join_X0_needUpTo : GoodIn wsX0_join (va_wsS RX0 17 yX0_needUpTo wsX0_needUpTo) := goodIn_app (goodIn_of _ (by decide +kernel)) ggX0_join_X0_needUpTo
set_option maxRecDepth 20000 in
theorem ggX0_join_X0_isYes : GoodIn wsX0_join wsX0_isYes := goodIn_r _ [10, 11, 19, 20] (by decide +kernel) (by decide +kernel)
set_option maxRecDepth 20000 in
theorem gX0_join_X0_isYes : GoodIn wsX0_join (wsV RX0 37 RX0 yX0_isYes wsX0_isYes) := goodIn_app (goodIn_of _ (by decide +kernel)) ggX0_join_X0_isYes
set_option maxRecDepth 20000 in
theorem ggX0_join_X0_joined : GoodIn wsX0_join wsX0_joined := goodIn_r _ [14] (by decide +kernel) (by decide +kernel)
set_option maxRecDepth 20000 in
theorem gX0_join_X0_joined : GoodIn wsX0_join (va_wsS RX0 41 yX0_joined wsX0_joined) := goodIn_app (goodIn_of _ (by decide +kernel)) ggX0_join_X0_joined
set_option maxRecDepth 20000 in
theorem ggX0_join_X0_setTruth : GoodIn wsX0_join wsX0_setTruth := goodIn_r _ [18, 11, 19, 20] (by decide +kernel) (by decide +kernel)
set_option maxRecDepth 20000 in
theorem gX0_join_X0_setTruth : GoodIn wsX0_join (wsV RX0 33 RX0 yX0_setTruth wsX0_setTruth) := goodIn_app (goodIn_of _ (by decide +kernel)) ggX0_join_X0_setTruth
theorem dX0_join_0 : decode cX0_join 0 = .ok (.iload_n 1, 1) := by decide +kernel
theorem dX0_join_1 : decode cX0_join 1 = .ok (.bipush 7, 2) := by decide +kernel
theorem dX0_join_3 : decode cX0_join 3 = .ok (.invokestatic 17, 3) := by decide +kernel
theorem dX0_join_6 : decode cX0_join 6 = .ok (.iload_n 2, 1) := by decide +kernel
theorem dX0_join_7 : decode cX0_join 7 = .ok (.iconst 3, 1) := by decide +kernel
theorem dX0_join_8 : decode cX0_join 8 = .ok (.invokestatic 17, 3) := by decide +kernel
theorem dX0_join_11 : decode cX0_join 11 = .ok (.iload_n 3, 1) := by decide +kernel
theorem dX0_join_12 : decode cX0_join 12 = .ok (.bipush 7, 2) := by decide +kernel
theorem dX0_join_14 : decode cX0_join 14 = .ok (.invokestatic 17, 3) := by decide +kernel
theorem dX0_join_17 : decode cX0_join 17 = .ok (.iload 4, 2) := by decide +kernel
theorem dX0_join_19 : decode cX0_join 19 = .ok (.bipush 7, 2) := by decide +kernel
theorem dX0_join_21 : decode cX0_join 21 = .ok (.invokestatic 17, 3) := by decide +kernel
theorem dX0_join_24 : decode cX0_join 24 = .ok (.iconst 0, 1) := by decide +kernel
theorem dX0_join_25 : decode cX0_join 25 = .ok (.istore 5, 2) := by decide +kernel
theorem dX0_join_27 : decode cX0_join 27 = .ok (.iconst 0, 1) := by decide +kernel
theorem dX0_join_28 : decode cX0_join 28 = .ok (.istore 6, 2) := by decide +kernel
theorem dX0_join_30 : decode cX0_join 30 = .ok (.iload 6, 2) := by decide +kernel
theorem dX0_join_32 : decode cX0_join 32 = .ok (.sipush 1024, 3) := by decide +kernel
theorem dX0_join_35 : decode cX0_join 35 = .ok (.if_icmp .ge 54, 3) := by decide +kernel
theorem dX0_join_38 : decode cX0_join 38 = .ok (.iload_n 2, 1) := by decide +kernel
theorem dX0_join_39 : decode cX0_join 39 = .ok (.aload_n 0, 1) := by decide +kernel
theorem dX0_join_40 : decode cX0_join 40 = .ok (.iload_n 3, 1) := by decide +kernel
theorem dX0_join_41 : decode cX0_join 41 = .ok (.iload 6, 2) := by decide +kernel
theorem dX0_join_43 : decode cX0_join 43 = .ok (.invokevirtual 37, 3) := by decide +kernel
theorem dX0_join_46 : decode cX0_join 46 = .ok (.aload_n 0, 1) := by decide +kernel
theorem dX0_join_47 : decode cX0_join 47 = .ok (.iload 4, 2) := by decide +kernel
theorem dX0_join_49 : decode cX0_join 49 = .ok (.iload 6, 2) := by decide +kernel
theorem dX0_join_51 : decode cX0_join 51 = .ok (.invokevirtual 37, 3) := by decide +kernel
theorem dX0_join_54 : decode cX0_join 54 = .ok (.invokestatic 41, 3) := by decide +kernel
theorem dX0_join_57 : decode cX0_join 57 = .ok (.istore 7, 2) := by decide +kernel
theorem dX0_join_59 : decode cX0_join 59 = .ok (.aload_n 0, 1) := by decide +kernel
theorem dX0_join_60 : decode cX0_join 60 = .ok (.iload_n 1, 1) := by decide +kernel
theorem dX0_join_61 : decode cX0_join 61 = .ok (.iload 6, 2) := by decide +kernel
theorem dX0_join_63 : decode cX0_join 63 = .ok (.iload 7, 2) := by decide +kernel
theorem dX0_join_65 : decode cX0_join 65 = .ok (.invokevirtual 33, 3) := by decide +kernel
theorem dX0_join_68 : decode cX0_join 68 = .ok (.iload 5, 2) := by decide +kernel
theorem dX0_join_70 : decode cX0_join 70 = .ok (.iload 7, 2) := by decide +kernel
theorem dX0_join_72 : decode cX0_join 72 = .ok (.ifCond .eq 7, 3) := by decide +kernel
theorem dX0_join_75 : decode cX0_join 75 = .ok (.iconst 1, 1) := by decide +kernel
theorem dX0_join_76 : decode cX0_join 76 = .ok (.goto 4, 3) := by decide +kernel
theorem dX0_join_79 : decode cX0_join 79 = .ok (.iconst 0, 1) := by decide +kernel
theorem dX0_join_80 : decode cX0_join 80 = .ok (.iadd, 1) := by decide +kernel
theorem dX0_join_81 : decode cX0_join 81 = .ok (.istore 5, 2) := by decide +kernel
theorem dX0_join_83 : decode cX0_join 83 = .ok (.iinc 6 1, 3) := by decide +kernel
theorem dX0_join_86 : decode cX0_join 86 = .ok (.goto (-56), 3) := by decide +kernel
theorem dX0_join_89 : decode cX0_join 89 = .ok (.iload 5, 2) := by decide +kernel
theorem dX0_join_91 : decode cX0_join 91 = .ok (.ireturn, 1) := by decide +kernel
set_option maxRecDepth 20000 in
theorem ggX0_value_X0_needUpTo : GoodIn wsX0_value wsX0_needUpTo := goodIn_ca (goodIn_r _ [5, 6, 7] (by decide +kernel) (by decide +kernel)) (goodIn_sub (fun _ h => List.mem_cons_of_mem _ (List.mem_append_right _ h)) (by decide +kernel))
set_option maxRecDepth 20000 in
theorem gX0_value_X0_needUpTo : GoodIn wsX0_value (va_wsS RX0 17 yX0_needUpTo wsX0_needUpTo) := goodIn_app (goodIn_of _ (by decide +kernel)) ggX0_value_X0_needUpTo
set_option maxRecDepth 20000 in
theorem ggX0_value_X0_place : GoodIn wsX0_value wsX0_place := goodIn_r _ [10] (by decide +kernel) (by decide +kernel)
set_option maxRecDepth 20000 in
theorem gX0_value_X0_place : GoodIn wsX0_value (va_wsS RX0 21 yX0_place wsX0_place) := goodIn_app (goodIn_of _ (by decide +kernel)) ggX0_value_X0_place
theorem dX0_value_0 : decode cX0_value 0 = .ok (.iload_n 1, 1) := by decide +kernel
theorem dX0_value_1 : decode cX0_value 1 = .ok (.bipush 7, 2) := by decide +kernel
theorem dX0_value_3 : decode cX0_value 3 = .ok (.invokestatic 17, 3) := by decide +kernel
theorem dX0_value_6 : decode cX0_value 6 = .ok (.iload_n 2, 1) := by decide +kernel
theorem dX0_value_7 : decode cX0_value 7 = .ok (.sipush 1023, 3) := by decide +kernel
theorem dX0_value_10 : decode cX0_value 10 = .ok (.invokestatic 17, 3) := by decide +kernel
theorem dX0_value_13 : decode cX0_value 13 = .ok (.aload_n 0, 1) := by decide +kernel
theorem dX0_value_14 : decode cX0_value 14 = .ok (.getfield 9, 3) := by decide +kernel
theorem dX0_value_17 : decode cX0_value 17 = .ok (.iload_n 1, 1) := by decide +kernel
theorem dX0_value_18 : decode cX0_value 18 = .ok (.iload_n 2, 1) := by decide +kernel
theorem dX0_value_19 : decode cX0_value 19 = .ok (.invokestatic 21, 3) := by decide +kernel
theorem dX0_value_22 : decode cX0_value 22 = .ok (.saload, 1) := by decide +kernel
theorem dX0_value_23 : decode cX0_value 23 = .ok (.ireturn, 1) := by decide +kernel
set_option maxRecDepth 20000 in
theorem ggX0_way_X0_needUpTo : GoodIn wsX0_way wsX0_needUpTo := goodIn_ca (goodIn_r _ [6, 7, 8] (by decide +kernel) (by decide +kernel)) (goodIn_sub (fun _ h => List.mem_cons_of_mem _ (List.mem_append_right _ h)) (by decide +kernel))
set_option maxRecDepth 20000 in
theorem gX0_way_X0_needUpTo : GoodIn wsX0_way (va_wsS RX0 17 yX0_needUpTo wsX0_needUpTo) := goodIn_app (goodIn_of _ (by decide +kernel)) ggX0_way_X0_needUpTo
set_option maxRecDepth 20000 in
theorem ggX0_way_X0_isYes : GoodIn wsX0_way wsX0_isYes := goodIn_r _ [12, 13, 14, 15] (by decide +kernel) (by decide +kernel)
set_option maxRecDepth 20000 in
theorem gX0_way_X0_isYes : GoodIn wsX0_way (wsV RX0 37 RX0 yX0_isYes wsX0_isYes) := goodIn_app (goodIn_of _ (by decide +kernel)) ggX0_way_X0_isYes
theorem dX0_way_0 : decode cX0_way 0 = .ok (.iload_n 1, 1) := by decide +kernel
theorem dX0_way_1 : decode cX0_way 1 = .ok (.bipush 7, 2) := by decide +kernel
theorem dX0_way_3 : decode cX0_way 3 = .ok (.invokestatic 17, 3) := by decide +kernel
theorem dX0_way_6 : decode cX0_way 6 = .ok (.iconst 0, 1) := by decide +kernel
theorem dX0_way_7 : decode cX0_way 7 = .ok (.istore_n 2, 1) := by decide +kernel
theorem dX0_way_8 : decode cX0_way 8 = .ok (.iload_n 2, 1) := by decide +kernel
theorem dX0_way_9 : decode cX0_way 9 = .ok (.sipush 1024, 3) := by decide +kernel
theorem dX0_way_12 : decode cX0_way 12 = .ok (.if_icmp .ge 20, 3) := by decide +kernel
theorem dX0_way_15 : decode cX0_way 15 = .ok (.aload_n 0, 1) := by decide +kernel
theorem dX0_way_16 : decode cX0_way 16 = .ok (.iload_n 1, 1) := by decide +kernel
theorem dX0_way_17 : decode cX0_way 17 = .ok (.iload_n 2, 1) := by decide +kernel
theorem dX0_way_18 : decode cX0_way 18 = .ok (.invokevirtual 37, 3) := by decide +kernel
theorem dX0_way_21 : decode cX0_way 21 = .ok (.ifCond .eq 5, 3) := by decide +kernel
theorem dX0_way_24 : decode cX0_way 24 = .ok (.iload_n 2, 1) := by decide +kernel
theorem dX0_way_25 : decode cX0_way 25 = .ok (.ireturn, 1) := by decide +kernel
theorem dX0_way_26 : decode cX0_way 26 = .ok (.iinc 2 1, 3) := by decide +kernel
theorem dX0_way_29 : decode cX0_way 29 = .ok (.goto (-21), 3) := by decide +kernel
theorem dX0_way_32 : decode cX0_way 32 = .ok (.new 45, 3) := by decide +kernel
theorem dX0_way_35 : decode cX0_way 35 = .ok (.dup, 1) := by decide +kernel
theorem dX0_way_36 : decode cX0_way 36 = .ok (.ldc 47, 2) := by decide +kernel
theorem dX0_way_38 : decode cX0_way 38 = .ok (.invokespecial 49, 3) := by decide +kernel
theorem dX0_way_41 : decode cX0_way 41 = .ok (.athrow, 1) := by decide +kernel
set_option maxRecDepth 20000 in
theorem ggX0_same_X0_needUpTo : GoodIn wsX0_same wsX0_needUpTo := goodIn_ca (goodIn_r _ [5, 6, 7] (by decide +kernel) (by decide +kernel)) (goodIn_sub (fun _ h => List.mem_cons_of_mem _ (List.mem_append_right _ h)) (by decide +kernel))
set_option maxRecDepth 20000 in
theorem gX0_same_X0_needUpTo : GoodIn wsX0_same (va_wsS RX0 17 yX0_needUpTo wsX0_needUpTo) := goodIn_app (goodIn_of _ (by decide +kernel)) ggX0_same_X0_needUpTo
set_option maxRecDepth 20000 in
theorem ggX0_same_X0_place : GoodIn wsX0_same wsX0_place := goodIn_r _ [10] (by decide +kernel) (by decide +kernel)
set_option maxRecDepth 20000 in
theorem gX0_same_X0_place : GoodIn wsX0_same (va_wsS RX0 21 yX0_place wsX0_place) := goodIn_app (goodIn_of _ (by decide +kernel)) ggX0_same_X0_place
theorem dX0_same_0 : decode cX0_same 0 = .ok (.iload_n 1, 1) := by decide +kernel
theorem dX0_same_1 : decode cX0_same 1 = .ok (.bipush 7, 2) := by decide +kernel
theorem dX0_same_3 : decode cX0_same 3 = .ok (.invokestatic 17, 3) := by decide +kernel
theorem dX0_same_6 : decode cX0_same 6 = .ok (.iload_n 2, 1) := by decide +kernel
theorem dX0_same_7 : decode cX0_same 7 = .ok (.bipush 7, 2) := by decide +kernel
theorem dX0_same_9 : decode cX0_same 9 = .ok (.invokestatic 17, 3) := by decide +kernel
theorem dX0_same_12 : decode cX0_same 12 = .ok (.iconst 0, 1) := by decide +kernel
theorem dX0_same_13 : decode cX0_same 13 = .ok (.istore_n 3, 1) := by decide +kernel
theorem dX0_same_14 : decode cX0_same 14 = .ok (.iload_n 3, 1) := by decide +kernel
theorem dX0_same_15 : decode cX0_same 15 = .ok (.sipush 1024, 3) := by decide +kernel
theorem dX0_same_18 : decode cX0_same 18 = .ok (.if_icmp .ge 34, 3) := by decide +kernel
theorem dX0_same_21 : decode cX0_same 21 = .ok (.aload_n 0, 1) := by decide +kernel
theorem dX0_same_22 : decode cX0_same 22 = .ok (.getfield 9, 3) := by decide +kernel
theorem dX0_same_25 : decode cX0_same 25 = .ok (.iload_n 1, 1) := by decide +kernel
theorem dX0_same_26 : decode cX0_same 26 = .ok (.iload_n 3, 1) := by decide +kernel
theorem dX0_same_27 : decode cX0_same 27 = .ok (.invokestatic 21, 3) := by decide +kernel
theorem dX0_same_30 : decode cX0_same 30 = .ok (.saload, 1) := by decide +kernel
theorem dX0_same_31 : decode cX0_same 31 = .ok (.aload_n 0, 1) := by decide +kernel
theorem dX0_same_32 : decode cX0_same 32 = .ok (.getfield 9, 3) := by decide +kernel
theorem dX0_same_35 : decode cX0_same 35 = .ok (.iload_n 2, 1) := by decide +kernel
theorem dX0_same_36 : decode cX0_same 36 = .ok (.iload_n 3, 1) := by decide +kernel
theorem dX0_same_37 : decode cX0_same 37 = .ok (.invokestatic 21, 3) := by decide +kernel
theorem dX0_same_40 : decode cX0_same 40 = .ok (.saload, 1) := by decide +kernel
theorem dX0_same_41 : decode cX0_same 41 = .ok (.if_icmp .eq 5, 3) := by decide +kernel
theorem dX0_same_44 : decode cX0_same 44 = .ok (.iconst 0, 1) := by decide +kernel
theorem dX0_same_45 : decode cX0_same 45 = .ok (.ireturn, 1) := by decide +kernel
theorem dX0_same_46 : decode cX0_same 46 = .ok (.iinc 3 1, 3) := by decide +kernel
theorem dX0_same_49 : decode cX0_same 49 = .ok (.goto (-35), 3) := by decide +kernel
theorem dX0_same_52 : decode cX0_same 52 = .ok (.iconst 1, 1) := by decide +kernel
theorem dX0_same_53 : decode cX0_same 53 = .ok (.ireturn, 1) := by decide +kernel
set_option maxRecDepth 20000 in
theorem ggX0_tidy_X0_needUpTo : GoodIn wsX0_tidy wsX0_needUpTo := goodIn_ca (goodIn_r _ [4, 5, 6] (by decide +kernel) (by decide +kernel)) (goodIn_sub (fun _ h => List.mem_cons_of_mem _ (List.mem_append_right _ h)) (by decide +kernel))
set_option maxRecDepth 20000 in
theorem gX0_tidy_X0_needUpTo : GoodIn wsX0_tidy (va_wsS RX0 17 yX0_needUpTo wsX0_needUpTo) := goodIn_app (goodIn_of _ (by decide +kernel)) ggX0_tidy_X0_needUpTo
set_option maxRecDepth 20000 in
theorem ggX0_tidy_X0_isZeroEverywhere : GoodIn wsX0_tidy wsX0_isZeroEverywhere := goodIn_r _ [10, 11, 12, 13, 3, 14, 15, 16] (by decide +kernel) (by decide +kernel)
set_option maxRecDepth 20000 in
theorem gX0_tidy_X0_isZeroEverywhere : GoodIn wsX0_tidy (wsV RX0 52 RX0 yX0_isZeroEverywhere wsX0_isZeroEverywhere) := goodIn_app (goodIn_of _ (by decide +kernel)) ggX0_tidy_X0_isZeroEverywhere
theorem dX0_tidy_0 : decode cX0_tidy 0 = .ok (.iload_n 1, 1) := by decide +kernel
theorem dX0_tidy_1 : decode cX0_tidy 1 = .ok (.iconst 2, 1) := by decide +kernel
theorem dX0_tidy_2 : decode cX0_tidy 2 = .ok (.invokestatic 17, 3) := by decide +kernel
theorem dX0_tidy_5 : decode cX0_tidy 5 = .ok (.iconst 0, 1) := by decide +kernel
theorem dX0_tidy_6 : decode cX0_tidy 6 = .ok (.istore_n 2, 1) := by decide +kernel
theorem dX0_tidy_7 : decode cX0_tidy 7 = .ok (.iconst 0, 1) := by decide +kernel
theorem dX0_tidy_8 : decode cX0_tidy 8 = .ok (.istore_n 3, 1) := by decide +kernel
theorem dX0_tidy_9 : decode cX0_tidy 9 = .ok (.iload_n 3, 1) := by decide +kernel
theorem dX0_tidy_10 : decode cX0_tidy 10 = .ok (.bipush 8, 2) := by decide +kernel
theorem dX0_tidy_12 : decode cX0_tidy 12 = .ok (.if_icmp .ge 25, 3) := by decide +kernel
theorem dX0_tidy_15 : decode cX0_tidy 15 = .ok (.iload_n 2, 1) := by decide +kernel
theorem dX0_tidy_16 : decode cX0_tidy 16 = .ok (.aload_n 0, 1) := by decide +kernel
theorem dX0_tidy_17 : decode cX0_tidy 17 = .ok (.iload_n 3, 1) := by decide +kernel
theorem dX0_tidy_18 : decode cX0_tidy 18 = .ok (.invokevirtual 52, 3) := by decide +kernel
theorem dX0_tidy_21 : decode cX0_tidy 21 = .ok (.ifCond .eq 7, 3) := by decide +kernel
theorem dX0_tidy_24 : decode cX0_tidy 24 = .ok (.iconst 0, 1) := by decide +kernel
theorem dX0_tidy_25 : decode cX0_tidy 25 = .ok (.goto 4, 3) := by decide +kernel
theorem dX0_tidy_28 : decode cX0_tidy 28 = .ok (.iconst 1, 1) := by decide +kernel
theorem dX0_tidy_29 : decode cX0_tidy 29 = .ok (.iadd, 1) := by decide +kernel
theorem dX0_tidy_30 : decode cX0_tidy 30 = .ok (.istore_n 2, 1) := by decide +kernel
theorem dX0_tidy_31 : decode cX0_tidy 31 = .ok (.iinc 3 1, 3) := by decide +kernel
theorem dX0_tidy_34 : decode cX0_tidy 34 = .ok (.goto (-25), 3) := by decide +kernel
theorem dX0_tidy_37 : decode cX0_tidy 37 = .ok (.iload_n 2, 1) := by decide +kernel
theorem dX0_tidy_38 : decode cX0_tidy 38 = .ok (.ireturn, 1) := by decide +kernel
theorem dX0_needUpTo_0 : decode cX0_needUpTo 0 = .ok (.iload_n 0, 1) := by decide +kernel
theorem dX0_needUpTo_1 : decode cX0_needUpTo 1 = .ok (.ifCond .lt 8, 3) := by decide +kernel
theorem dX0_needUpTo_4 : decode cX0_needUpTo 4 = .ok (.iload_n 0, 1) := by decide +kernel
theorem dX0_needUpTo_5 : decode cX0_needUpTo 5 = .ok (.iload_n 1, 1) := by decide +kernel
theorem dX0_needUpTo_6 : decode cX0_needUpTo 6 = .ok (.if_icmp .le 13, 3) := by decide +kernel
theorem dX0_needUpTo_9 : decode cX0_needUpTo 9 = .ok (.new 56, 3) := by decide +kernel
theorem dX0_needUpTo_12 : decode cX0_needUpTo 12 = .ok (.dup, 1) := by decide +kernel
theorem dX0_needUpTo_13 : decode cX0_needUpTo 13 = .ok (.ldc 58, 2) := by decide +kernel
theorem dX0_needUpTo_15 : decode cX0_needUpTo 15 = .ok (.invokespecial 60, 3) := by decide +kernel
theorem dX0_needUpTo_18 : decode cX0_needUpTo 18 = .ok (.athrow, 1) := by decide +kernel
theorem dX0_needUpTo_19 : decode cX0_needUpTo 19 = .ok (.return_, 1) := by decide +kernel
theorem dX0_place_0 : decode cX0_place 0 = .ok (.iload_n 0, 1) := by decide +kernel
theorem dX0_place_1 : decode cX0_place 1 = .ok (.sipush 1024, 3) := by decide +kernel
theorem dX0_place_4 : decode cX0_place 4 = .ok (.imul, 1) := by decide +kernel
theorem dX0_place_5 : decode cX0_place 5 = .ok (.iload_n 1, 1) := by decide +kernel
theorem dX0_place_6 : decode cX0_place 6 = .ok (.iadd, 1) := by decide +kernel
theorem dX0_place_7 : decode cX0_place 7 = .ok (.ireturn, 1) := by decide +kernel
theorem dX0_isYes_0 : decode cX0_isYes 0 = .ok (.aload_n 0, 1) := by decide +kernel
theorem dX0_isYes_1 : decode cX0_isYes 1 = .ok (.getfield 13, 3) := by decide +kernel
theorem dX0_isYes_4 : decode cX0_isYes 4 = .ok (.iload_n 2, 1) := by decide +kernel
theorem dX0_isYes_5 : decode cX0_isYes 5 = .ok (.iaload, 1) := by decide +kernel
theorem dX0_isYes_6 : decode cX0_isYes 6 = .ok (.iload_n 1, 1) := by decide +kernel
theorem dX0_isYes_7 : decode cX0_isYes 7 = .ok (.ishr, 1) := by decide +kernel
theorem dX0_isYes_8 : decode cX0_isYes 8 = .ok (.iconst 1, 1) := by decide +kernel
theorem dX0_isYes_9 : decode cX0_isYes 9 = .ok (.iand, 1) := by decide +kernel
theorem dX0_isYes_10 : decode cX0_isYes 10 = .ok (.ifCond .eq 7, 3) := by decide +kernel
theorem dX0_isYes_13 : decode cX0_isYes 13 = .ok (.iconst 1, 1) := by decide +kernel
theorem dX0_isYes_14 : decode cX0_isYes 14 = .ok (.goto 4, 3) := by decide +kernel
theorem dX0_isYes_17 : decode cX0_isYes 17 = .ok (.iconst 0, 1) := by decide +kernel
theorem dX0_isYes_18 : decode cX0_isYes 18 = .ok (.ireturn, 1) := by decide +kernel
theorem dX0_setTruth_0 : decode cX0_setTruth 0 = .ok (.iconst 1, 1) := by decide +kernel
theorem dX0_setTruth_1 : decode cX0_setTruth 1 = .ok (.iload_n 1, 1) := by decide +kernel
theorem dX0_setTruth_2 : decode cX0_setTruth 2 = .ok (.ishl, 1) := by decide +kernel
theorem dX0_setTruth_3 : decode cX0_setTruth 3 = .ok (.istore 4, 2) := by decide +kernel
theorem dX0_setTruth_5 : decode cX0_setTruth 5 = .ok (.aload_n 0, 1) := by decide +kernel
theorem dX0_setTruth_6 : decode cX0_setTruth 6 = .ok (.getfield 13, 3) := by decide +kernel
theorem dX0_setTruth_9 : decode cX0_setTruth 9 = .ok (.iload_n 2, 1) := by decide +kernel
theorem dX0_setTruth_10 : decode cX0_setTruth 10 = .ok (.iload_n 3, 1) := by decide +kernel
theorem dX0_setTruth_11 : decode cX0_setTruth 11 = .ok (.ifCond .eq 15, 3) := by decide +kernel
theorem dX0_setTruth_14 : decode cX0_setTruth 14 = .ok (.aload_n 0, 1) := by decide +kernel
theorem dX0_setTruth_15 : decode cX0_setTruth 15 = .ok (.getfield 13, 3) := by decide +kernel
theorem dX0_setTruth_18 : decode cX0_setTruth 18 = .ok (.iload_n 2, 1) := by decide +kernel
theorem dX0_setTruth_19 : decode cX0_setTruth 19 = .ok (.iaload, 1) := by decide +kernel
theorem dX0_setTruth_20 : decode cX0_setTruth 20 = .ok (.iload 4, 2) := by decide +kernel
theorem dX0_setTruth_22 : decode cX0_setTruth 22 = .ok (.ior, 1) := by decide +kernel
theorem dX0_setTruth_23 : decode cX0_setTruth 23 = .ok (.goto 14, 3) := by decide +kernel
theorem dX0_setTruth_26 : decode cX0_setTruth 26 = .ok (.aload_n 0, 1) := by decide +kernel
theorem dX0_setTruth_27 : decode cX0_setTruth 27 = .ok (.getfield 13, 3) := by decide +kernel
theorem dX0_setTruth_30 : decode cX0_setTruth 30 = .ok (.iload_n 2, 1) := by decide +kernel
theorem dX0_setTruth_31 : decode cX0_setTruth 31 = .ok (.iaload, 1) := by decide +kernel
theorem dX0_setTruth_32 : decode cX0_setTruth 32 = .ok (.iload 4, 2) := by decide +kernel
theorem dX0_setTruth_34 : decode cX0_setTruth 34 = .ok (.iconst (-1), 1) := by decide +kernel
theorem dX0_setTruth_35 : decode cX0_setTruth 35 = .ok (.ixor, 1) := by decide +kernel
theorem dX0_setTruth_36 : decode cX0_setTruth 36 = .ok (.iand, 1) := by decide +kernel
theorem dX0_setTruth_37 : decode cX0_setTruth 37 = .ok (.iastore, 1) := by decide +kernel
theorem dX0_setTruth_38 : decode cX0_setTruth 38 = .ok (.return_, 1) := by decide +kernel
set_option maxRecDepth 20000 in
theorem ggX0_isZeroEverywhere_X0_place : GoodIn wsX0_isZeroEverywhere wsX0_place := goodIn_r _ [5] (by decide +kernel) (by decide +kernel)
set_option maxRecDepth 20000 in
theorem gX0_isZeroEverywhere_X0_place : GoodIn wsX0_isZeroEverywhere (va_wsS RX0 21 yX0_place wsX0_place) := goodIn_app (goodIn_of _ (by decide +kernel)) ggX0_isZeroEverywhere_X0_place
theorem dX0_isZeroEverywhere_0 : decode cX0_isZeroEverywhere 0 = .ok (.iconst 0, 1) := by decide +kernel
theorem dX0_isZeroEverywhere_1 : decode cX0_isZeroEverywhere 1 = .ok (.istore_n 2, 1) := by decide +kernel
theorem dX0_isZeroEverywhere_2 : decode cX0_isZeroEverywhere 2 = .ok (.iload_n 2, 1) := by decide +kernel
theorem dX0_isZeroEverywhere_3 : decode cX0_isZeroEverywhere 3 = .ok (.sipush 1024, 3) := by decide +kernel
theorem dX0_isZeroEverywhere_6 : decode cX0_isZeroEverywhere 6 = .ok (.if_icmp .ge 24, 3) := by decide +kernel
theorem dX0_isZeroEverywhere_9 : decode cX0_isZeroEverywhere 9 = .ok (.aload_n 0, 1) := by decide +kernel
theorem dX0_isZeroEverywhere_10 : decode cX0_isZeroEverywhere 10 = .ok (.getfield 9, 3) := by decide +kernel
theorem dX0_isZeroEverywhere_13 : decode cX0_isZeroEverywhere 13 = .ok (.iload_n 1, 1) := by decide +kernel
theorem dX0_isZeroEverywhere_14 : decode cX0_isZeroEverywhere 14 = .ok (.iload_n 2, 1) := by decide +kernel
theorem dX0_isZeroEverywhere_15 : decode cX0_isZeroEverywhere 15 = .ok (.invokestatic 21, 3) := by decide +kernel
theorem dX0_isZeroEverywhere_18 : decode cX0_isZeroEverywhere 18 = .ok (.saload, 1) := by decide +kernel
theorem dX0_isZeroEverywhere_19 : decode cX0_isZeroEverywhere 19 = .ok (.ifCond .eq 5, 3) := by decide +kernel
theorem dX0_isZeroEverywhere_22 : decode cX0_isZeroEverywhere 22 = .ok (.iconst 0, 1) := by decide +kernel
theorem dX0_isZeroEverywhere_23 : decode cX0_isZeroEverywhere 23 = .ok (.ireturn, 1) := by decide +kernel
theorem dX0_isZeroEverywhere_24 : decode cX0_isZeroEverywhere 24 = .ok (.iinc 2 1, 3) := by decide +kernel
theorem dX0_isZeroEverywhere_27 : decode cX0_isZeroEverywhere 27 = .ok (.goto (-25), 3) := by decide +kernel
theorem dX0_isZeroEverywhere_30 : decode cX0_isZeroEverywhere 30 = .ok (.iconst 1, 1) := by decide +kernel
theorem dX0_isZeroEverywhere_31 : decode cX0_isZeroEverywhere 31 = .ok (.ireturn, 1) := by decide +kernel
theorem dX0_reckoned_0 : decode cX0_reckoned 0 = .ok (.iload_n 0, 1) := by decide +kernel
theorem dX0_reckoned_1 : decode cX0_reckoned 1 = .ok (.tableswitch 71 0 4 #[35, 39, 43, 47, 59], 35) := by decide +kernel
theorem dX0_reckoned_36 : decode cX0_reckoned 36 = .ok (.iload_n 1, 1) := by decide +kernel
theorem dX0_reckoned_37 : decode cX0_reckoned 37 = .ok (.iload_n 2, 1) := by decide +kernel
theorem dX0_reckoned_38 : decode cX0_reckoned 38 = .ok (.iadd, 1) := by decide +kernel
theorem dX0_reckoned_39 : decode cX0_reckoned 39 = .ok (.ireturn, 1) := by decide +kernel
theorem dX0_reckoned_40 : decode cX0_reckoned 40 = .ok (.iload_n 1, 1) := by decide +kernel
theorem dX0_reckoned_41 : decode cX0_reckoned 41 = .ok (.iload_n 2, 1) := by decide +kernel
theorem dX0_reckoned_42 : decode cX0_reckoned 42 = .ok (.isub, 1) := by decide +kernel
theorem dX0_reckoned_43 : decode cX0_reckoned 43 = .ok (.ireturn, 1) := by decide +kernel
theorem dX0_reckoned_44 : decode cX0_reckoned 44 = .ok (.iload_n 1, 1) := by decide +kernel
theorem dX0_reckoned_45 : decode cX0_reckoned 45 = .ok (.iload_n 2, 1) := by decide +kernel
theorem dX0_reckoned_46 : decode cX0_reckoned 46 = .ok (.imul, 1) := by decide +kernel
theorem dX0_reckoned_47 : decode cX0_reckoned 47 = .ok (.ireturn, 1) := by decide +kernel
theorem dX0_reckoned_48 : decode cX0_reckoned 48 = .ok (.iload_n 2, 1) := by decide +kernel
theorem dX0_reckoned_49 : decode cX0_reckoned 49 = .ok (.ifCond .ne 7, 3) := by decide +kernel
theorem dX0_reckoned_52 : decode cX0_reckoned 52 = .ok (.iconst 0, 1) := by decide +kernel
theorem dX0_reckoned_53 : decode cX0_reckoned 53 = .ok (.goto 6, 3) := by decide +kernel
theorem dX0_reckoned_56 : decode cX0_reckoned 56 = .ok (.iload_n 1, 1) := by decide +kernel
theorem dX0_reckoned_57 : decode cX0_reckoned 57 = .ok (.iload_n 2, 1) := by decide +kernel
theorem dX0_reckoned_58 : decode cX0_reckoned 58 = .ok (.idiv, 1) := by decide +kernel
theorem dX0_reckoned_59 : decode cX0_reckoned 59 = .ok (.ireturn, 1) := by decide +kernel
theorem dX0_reckoned_60 : decode cX0_reckoned 60 = .ok (.iload_n 2, 1) := by decide +kernel
theorem dX0_reckoned_61 : decode cX0_reckoned 61 = .ok (.ifCond .ne 7, 3) := by decide +kernel
theorem dX0_reckoned_64 : decode cX0_reckoned 64 = .ok (.iconst 0, 1) := by decide +kernel
theorem dX0_reckoned_65 : decode cX0_reckoned 65 = .ok (.goto 6, 3) := by decide +kernel
theorem dX0_reckoned_68 : decode cX0_reckoned 68 = .ok (.iload_n 1, 1) := by decide +kernel
theorem dX0_reckoned_69 : decode cX0_reckoned 69 = .ok (.iload_n 2, 1) := by decide +kernel
theorem dX0_reckoned_70 : decode cX0_reckoned 70 = .ok (.irem, 1) := by decide +kernel
theorem dX0_reckoned_71 : decode cX0_reckoned 71 = .ok (.ireturn, 1) := by decide +kernel
theorem dX0_reckoned_72 : decode cX0_reckoned 72 = .ok (.iload_n 2, 1) := by decide +kernel
theorem dX0_reckoned_73 : decode cX0_reckoned 73 = .ok (.ineg, 1) := by decide +kernel
theorem dX0_reckoned_74 : decode cX0_reckoned 74 = .ok (.ireturn, 1) := by decide +kernel
theorem dX0_compared_0 : decode cX0_compared 0 = .ok (.iload_n 0, 1) := by decide +kernel
theorem dX0_compared_1 : decode cX0_compared 1 = .ok (.tableswitch 60 0 2 #[27, 38, 49], 27) := by decide +kernel
theorem dX0_compared_28 : decode cX0_compared 28 = .ok (.iload_n 1, 1) := by decide +kernel
theorem dX0_compared_29 : decode cX0_compared 29 = .ok (.iload_n 2, 1) := by decide +kernel
theorem dX0_compared_30 : decode cX0_compared 30 = .ok (.if_icmp .ne 7, 3) := by decide +kernel
theorem dX0_compared_33 : decode cX0_compared 33 = .ok (.iconst 1, 1) := by decide +kernel
theorem dX0_compared_34 : decode cX0_compared 34 = .ok (.goto 4, 3) := by decide +kernel
theorem dX0_compared_37 : decode cX0_compared 37 = .ok (.iconst 0, 1) := by decide +kernel
theorem dX0_compared_38 : decode cX0_compared 38 = .ok (.ireturn, 1) := by decide +kernel
theorem dX0_compared_39 : decode cX0_compared 39 = .ok (.iload_n 1, 1) := by decide +kernel
theorem dX0_compared_40 : decode cX0_compared 40 = .ok (.iload_n 2, 1) := by decide +kernel
theorem dX0_compared_41 : decode cX0_compared 41 = .ok (.if_icmp .eq 7, 3) := by decide +kernel
theorem dX0_compared_44 : decode cX0_compared 44 = .ok (.iconst 1, 1) := by decide +kernel
theorem dX0_compared_45 : decode cX0_compared 45 = .ok (.goto 4, 3) := by decide +kernel
theorem dX0_compared_48 : decode cX0_compared 48 = .ok (.iconst 0, 1) := by decide +kernel
theorem dX0_compared_49 : decode cX0_compared 49 = .ok (.ireturn, 1) := by decide +kernel
theorem dX0_compared_50 : decode cX0_compared 50 = .ok (.iload_n 1, 1) := by decide +kernel
theorem dX0_compared_51 : decode cX0_compared 51 = .ok (.iload_n 2, 1) := by decide +kernel
theorem dX0_compared_52 : decode cX0_compared 52 = .ok (.if_icmp .ge 7, 3) := by decide +kernel
theorem dX0_compared_55 : decode cX0_compared 55 = .ok (.iconst 1, 1) := by decide +kernel
theorem dX0_compared_56 : decode cX0_compared 56 = .ok (.goto 4, 3) := by decide +kernel
theorem dX0_compared_59 : decode cX0_compared 59 = .ok (.iconst 0, 1) := by decide +kernel
theorem dX0_compared_60 : decode cX0_compared 60 = .ok (.ireturn, 1) := by decide +kernel
theorem dX0_compared_61 : decode cX0_compared 61 = .ok (.iload_n 1, 1) := by decide +kernel
theorem dX0_compared_62 : decode cX0_compared 62 = .ok (.iload_n 2, 1) := by decide +kernel
theorem dX0_compared_63 : decode cX0_compared 63 = .ok (.if_icmp .gt 7, 3) := by decide +kernel
theorem dX0_compared_66 : decode cX0_compared 66 = .ok (.iconst 1, 1) := by decide +kernel
theorem dX0_compared_67 : decode cX0_compared 67 = .ok (.goto 4, 3) := by decide +kernel
theorem dX0_compared_70 : decode cX0_compared 70 = .ok (.iconst 0, 1) := by decide +kernel
theorem dX0_compared_71 : decode cX0_compared 71 = .ok (.ireturn, 1) := by decide +kernel
theorem dX0_joined_0 : decode cX0_joined 0 = .ok (.iload_n 0, 1) := by decide +kernel
theorem dX0_joined_1 : decode cX0_joined 1 = .ok (.tableswitch 66 0 2 #[27, 41, 55], 27) := by decide +kernel
theorem dX0_joined_28 : decode cX0_joined 28 = .ok (.iload_n 1, 1) := by decide +kernel
theorem dX0_joined_29 : decode cX0_joined 29 = .ok (.ifCond .eq 11, 3) := by decide +kernel
theorem dX0_joined_32 : decode cX0_joined 32 = .ok (.iload_n 2, 1) := by decide +kernel
theorem dX0_joined_33 : decode cX0_joined 33 = .ok (.ifCond .eq 7, 3) := by decide +kernel
theorem dX0_joined_36 : decode cX0_joined 36 = .ok (.iconst 1, 1) := by decide +kernel
theorem dX0_joined_37 : decode cX0_joined 37 = .ok (.goto 4, 3) := by decide +kernel
theorem dX0_joined_40 : decode cX0_joined 40 = .ok (.iconst 0, 1) := by decide +kernel
theorem dX0_joined_41 : decode cX0_joined 41 = .ok (.ireturn, 1) := by decide +kernel
theorem dX0_joined_42 : decode cX0_joined 42 = .ok (.iload_n 1, 1) := by decide +kernel
theorem dX0_joined_43 : decode cX0_joined 43 = .ok (.ifCond .ne 7, 3) := by decide +kernel
theorem dX0_joined_46 : decode cX0_joined 46 = .ok (.iload_n 2, 1) := by decide +kernel
theorem dX0_joined_47 : decode cX0_joined 47 = .ok (.ifCond .eq 7, 3) := by decide +kernel
theorem dX0_joined_50 : decode cX0_joined 50 = .ok (.iconst 1, 1) := by decide +kernel
theorem dX0_joined_51 : decode cX0_joined 51 = .ok (.goto 4, 3) := by decide +kernel
theorem dX0_joined_54 : decode cX0_joined 54 = .ok (.iconst 0, 1) := by decide +kernel
theorem dX0_joined_55 : decode cX0_joined 55 = .ok (.ireturn, 1) := by decide +kernel
theorem dX0_joined_56 : decode cX0_joined 56 = .ok (.iload_n 1, 1) := by decide +kernel
theorem dX0_joined_57 : decode cX0_joined 57 = .ok (.iload_n 2, 1) := by decide +kernel
theorem dX0_joined_58 : decode cX0_joined 58 = .ok (.if_icmp .eq 7, 3) := by decide +kernel
theorem dX0_joined_61 : decode cX0_joined 61 = .ok (.iconst 1, 1) := by decide +kernel
theorem dX0_joined_62 : decode cX0_joined 62 = .ok (.goto 4, 3) := by decide +kernel
theorem dX0_joined_65 : decode cX0_joined 65 = .ok (.iconst 0, 1) := by decide +kernel
theorem dX0_joined_66 : decode cX0_joined 66 = .ok (.ireturn, 1) := by decide +kernel
theorem dX0_joined_67 : decode cX0_joined 67 = .ok (.iload_n 1, 1) := by decide +kernel
theorem dX0_joined_68 : decode cX0_joined 68 = .ok (.ifCond .ne 7, 3) := by decide +kernel
theorem dX0_joined_71 : decode cX0_joined 71 = .ok (.iconst 1, 1) := by decide +kernel
theorem dX0_joined_72 : decode cX0_joined 72 = .ok (.goto 4, 3) := by decide +kernel
theorem dX0_joined_75 : decode cX0_joined 75 = .ok (.iconst 0, 1) := by decide +kernel
theorem dX0_joined_76 : decode cX0_joined 76 = .ok (.ireturn, 1) := by decide +kernel
theorem dX1_init_0 : decode cX1_init 0 = .ok (.aload_n 0, 1) := by decide +kernel
theorem dX1_init_1 : decode cX1_init 1 = .ok (.invokespecial 1, 3) := by decide +kernel
theorem dX1_init_4 : decode cX1_init 4 = .ok (.aload_n 0, 1) := by decide +kernel
theorem dX1_init_5 : decode cX1_init 5 = .ok (.sipush 8192, 3) := by decide +kernel
theorem dX1_init_8 : decode cX1_init 8 = .ok (.newarray .int, 2) := by decide +kernel
theorem dX1_init_10 : decode cX1_init 10 = .ok (.putfield 7, 3) := by decide +kernel
theorem dX1_init_13 : decode cX1_init 13 = .ok (.aload_n 0, 1) := by decide +kernel
theorem dX1_init_14 : decode cX1_init 14 = .ok (.sipush 8192, 3) := by decide +kernel
theorem dX1_init_17 : decode cX1_init 17 = .ok (.newarray .boolean, 2) := by decide +kernel
theorem dX1_init_19 : decode cX1_init 19 = .ok (.putfield 13, 3) := by decide +kernel
theorem dX1_init_22 : decode cX1_init 22 = .ok (.aload_n 0, 1) := by decide +kernel
theorem dX1_init_23 : decode cX1_init 23 = .ok (.sipush 1024, 3) := by decide +kernel
theorem dX1_init_26 : decode cX1_init 26 = .ok (.newarray .int, 2) := by decide +kernel
theorem dX1_init_28 : decode cX1_init 28 = .ok (.putfield 17, 3) := by decide +kernel
theorem dX1_init_31 : decode cX1_init 31 = .ok (.return_, 1) := by decide +kernel
theorem dX1_thrown_0 : decode cX1_thrown 0 = .ok (.aload_n 0, 1) := by decide +kernel
theorem dX1_thrown_1 : decode cX1_thrown 1 = .ok (.getfield 20, 3) := by decide +kernel
theorem dX1_thrown_4 : decode cX1_thrown 4 = .ok (.ireturn, 1) := by decide +kernel
theorem dX1_out_0 : decode cX1_out 0 = .ok (.iload_n 1, 1) := by decide +kernel
theorem dX1_out_1 : decode cX1_out 1 = .ok (.ifCond .lt 8, 3) := by decide +kernel
theorem dX1_out_4 : decode cX1_out 4 = .ok (.iload_n 1, 1) := by decide +kernel
theorem dX1_out_5 : decode cX1_out 5 = .ok (.iload_n 2, 1) := by decide +kernel
theorem dX1_out_6 : decode cX1_out 6 = .ok (.if_icmp .lt 7, 3) := by decide +kernel
theorem dX1_out_9 : decode cX1_out 9 = .ok (.iconst 1, 1) := by decide +kernel
theorem dX1_out_10 : decode cX1_out 10 = .ok (.goto 4, 3) := by decide +kernel
theorem dX1_out_13 : decode cX1_out 13 = .ok (.iconst 0, 1) := by decide +kernel
theorem dX1_out_14 : decode cX1_out 14 = .ok (.ireturn, 1) := by decide +kernel
set_option maxRecDepth 20000 in
theorem ggX1_constant_X1_out : GoodIn wsX1_constant wsX1_out := goodIn_r _ [7] (by decide +kernel) (by decide +kernel)
set_option maxRecDepth 20000 in
theorem gX1_constant_X1_out : GoodIn wsX1_constant (wsV RX1 24 RX1 yX1_out wsX1_out) := goodIn_app (goodIn_of _ (by decide +kernel)) ggX1_constant_X1_out
theorem dX1_constant_0 : decode cX1_constant 0 = .ok (.aload_n 0, 1) := by decide +kernel
theorem dX1_constant_1 : decode cX1_constant 1 = .ok (.iconst 0, 1) := by decide +kernel
theorem dX1_constant_2 : decode cX1_constant 2 = .ok (.putfield 20, 3) := by decide +kernel
theorem dX1_constant_5 : decode cX1_constant 5 = .ok (.aload_n 0, 1) := by decide +kernel
theorem dX1_constant_6 : decode cX1_constant 6 = .ok (.iload_n 1, 1) := by decide +kernel
theorem dX1_constant_7 : decode cX1_constant 7 = .ok (.bipush 8, 2) := by decide +kernel
theorem dX1_constant_9 : decode cX1_constant 9 = .ok (.invokevirtual 24, 3) := by decide +kernel
theorem dX1_constant_12 : decode cX1_constant 12 = .ok (.ifCond .eq 11, 3) := by decide +kernel
theorem dX1_constant_15 : decode cX1_constant 15 = .ok (.aload_n 0, 1) := by decide +kernel
theorem dX1_constant_16 : decode cX1_constant 16 = .ok (.iconst 1, 1) := by decide +kernel
theorem dX1_constant_17 : decode cX1_constant 17 = .ok (.putfield 20, 3) := by decide +kernel
theorem dX1_constant_20 : decode cX1_constant 20 = .ok (.goto 32, 3) := by decide +kernel
theorem dX1_constant_23 : decode cX1_constant 23 = .ok (.iconst 0, 1) := by decide +kernel
theorem dX1_constant_24 : decode cX1_constant 24 = .ok (.istore_n 3, 1) := by decide +kernel
theorem dX1_constant_25 : decode cX1_constant 25 = .ok (.iload_n 3, 1) := by decide +kernel
theorem dX1_constant_26 : decode cX1_constant 26 = .ok (.sipush 1024, 3) := by decide +kernel
theorem dX1_constant_29 : decode cX1_constant 29 = .ok (.if_icmp .ge 23, 3) := by decide +kernel
theorem dX1_constant_32 : decode cX1_constant 32 = .ok (.aload_n 0, 1) := by decide +kernel
theorem dX1_constant_33 : decode cX1_constant 33 = .ok (.getfield 7, 3) := by decide +kernel
theorem dX1_constant_36 : decode cX1_constant 36 = .ok (.sipush 1024, 3) := by decide +kernel
theorem dX1_constant_39 : decode cX1_constant 39 = .ok (.iload_n 1, 1) := by decide +kernel
theorem dX1_constant_40 : decode cX1_constant 40 = .ok (.imul, 1) := by decide +kernel
theorem dX1_constant_41 : decode cX1_constant 41 = .ok (.iload_n 3, 1) := by decide +kernel
theorem dX1_constant_42 : decode cX1_constant 42 = .ok (.iadd, 1) := by decide +kernel
theorem dX1_constant_43 : decode cX1_constant 43 = .ok (.iload_n 2, 1) := by decide +kernel
theorem dX1_constant_44 : decode cX1_constant 44 = .ok (.i2s, 1) := by decide +kernel
theorem dX1_constant_45 : decode cX1_constant 45 = .ok (.iastore, 1) := by decide +kernel
theorem dX1_constant_46 : decode cX1_constant 46 = .ok (.iinc 3 1, 3) := by decide +kernel
theorem dX1_constant_49 : decode cX1_constant 49 = .ok (.goto (-24), 3) := by decide +kernel
theorem dX1_constant_52 : decode cX1_constant 52 = .ok (.return_, 1) := by decide +kernel
set_option maxRecDepth 20000 in
theorem ggL_constant_X0_constant : GoodIn wsL_constant wsX0_constant := goodIn_ca (goodIn_r _ [6, 7, 8, 9, 5, 10, 11, 12, 13, 14, 15, 16, 17] (by decide +kernel) (by decide +kernel)) (goodIn_sub (fun _ h => List.mem_cons_of_mem _ (List.mem_append_right _ h)) (by decide +kernel))
set_option maxRecDepth 20000 in
theorem gL_constant_X0_constant : GoodIn wsL_constant (wsV RL 7 RX0 yX0_constant wsX0_constant) := goodIn_app (goodIn_of _ (by decide +kernel)) ggL_constant_X0_constant
theorem dL_constant_0 : decode cL_constant 0 = .ok (.aload_n 0, 1) := by decide +kernel
theorem dL_constant_1 : decode cL_constant 1 = .ok (.iload_n 1, 1) := by decide +kernel
theorem dL_constant_2 : decode cL_constant 2 = .ok (.iload_n 2, 1) := by decide +kernel
theorem dL_constant_3 : decode cL_constant 3 = .ok (.invokevirtual 7, 3) := by decide +kernel
theorem dL_constant_6 : decode cL_constant 6 = .ok (.goto 6, 3) := by decide +kernel
theorem dL_constant_9 : decode cL_constant 9 = .ok (.astore_n 3, 1) := by decide +kernel
theorem dL_constant_10 : decode cL_constant 10 = .ok (.iconst 1, 1) := by decide +kernel
theorem dL_constant_11 : decode cL_constant 11 = .ok (.ireturn, 1) := by decide +kernel
theorem dL_constant_12 : decode cL_constant 12 = .ok (.iconst 0, 1) := by decide +kernel
theorem dL_constant_13 : decode cL_constant 13 = .ok (.ireturn, 1) := by decide +kernel
set_option maxRecDepth 20000 in
theorem ggL_unknown_X0_unknown : GoodIn wsL_unknown wsX0_unknown := goodIn_ca (goodIn_r _ [6, 7, 8, 9, 5, 10, 11, 12, 13, 14, 15, 16, 17] (by decide +kernel) (by decide +kernel)) (goodIn_sub (fun _ h => List.mem_cons_of_mem _ (List.mem_append_right _ h)) (by decide +kernel))
set_option maxRecDepth 20000 in
theorem gL_unknown_X0_unknown : GoodIn wsL_unknown (wsV RL 15 RX0 yX0_unknown wsX0_unknown) := goodIn_app (goodIn_of _ (by decide +kernel)) ggL_unknown_X0_unknown
theorem dL_unknown_0 : decode cL_unknown 0 = .ok (.aload_n 0, 1) := by decide +kernel
theorem dL_unknown_1 : decode cL_unknown 1 = .ok (.iload_n 1, 1) := by decide +kernel
theorem dL_unknown_2 : decode cL_unknown 2 = .ok (.iload_n 2, 1) := by decide +kernel
theorem dL_unknown_3 : decode cL_unknown 3 = .ok (.iload_n 3, 1) := by decide +kernel
theorem dL_unknown_4 : decode cL_unknown 4 = .ok (.iload 4, 2) := by decide +kernel
theorem dL_unknown_6 : decode cL_unknown 6 = .ok (.invokevirtual 15, 3) := by decide +kernel
theorem dL_unknown_9 : decode cL_unknown 9 = .ok (.goto 7, 3) := by decide +kernel
theorem dL_unknown_12 : decode cL_unknown 12 = .ok (.astore 5, 2) := by decide +kernel
theorem dL_unknown_14 : decode cL_unknown 14 = .ok (.iconst 1, 1) := by decide +kernel
theorem dL_unknown_15 : decode cL_unknown 15 = .ok (.ireturn, 1) := by decide +kernel
theorem dL_unknown_16 : decode cL_unknown 16 = .ok (.iconst 0, 1) := by decide +kernel
theorem dL_unknown_17 : decode cL_unknown 17 = .ok (.ireturn, 1) := by decide +kernel
set_option maxRecDepth 20000 in
theorem ggL_reckon_X0_reckon : GoodIn wsL_reckon wsX0_reckon := goodIn_ca (goodIn_r _ [6, 7, 8, 9, 5, 10, 11, 12, 13, 14, 15, 16, 17, 18, 19, 20] (by decide +kernel) (by decide +kernel)) (goodIn_sub (fun _ h => List.mem_cons_of_mem _ (List.mem_append_right _ h)) (by decide +kernel))
set_option maxRecDepth 20000 in
theorem gL_reckon_X0_reckon : GoodIn wsL_reckon (wsV RL 19 RX0 yX0_reckon wsX0_reckon) := goodIn_app (goodIn_of _ (by decide +kernel)) ggL_reckon_X0_reckon
theorem dL_reckon_0 : decode cL_reckon 0 = .ok (.aload_n 0, 1) := by decide +kernel
theorem dL_reckon_1 : decode cL_reckon 1 = .ok (.iload_n 1, 1) := by decide +kernel
theorem dL_reckon_2 : decode cL_reckon 2 = .ok (.iload_n 2, 1) := by decide +kernel
theorem dL_reckon_3 : decode cL_reckon 3 = .ok (.iload_n 3, 1) := by decide +kernel
theorem dL_reckon_4 : decode cL_reckon 4 = .ok (.iload 4, 2) := by decide +kernel
theorem dL_reckon_6 : decode cL_reckon 6 = .ok (.invokevirtual 19, 3) := by decide +kernel
theorem dL_reckon_9 : decode cL_reckon 9 = .ok (.goto 7, 3) := by decide +kernel
theorem dL_reckon_12 : decode cL_reckon 12 = .ok (.astore 5, 2) := by decide +kernel
theorem dL_reckon_14 : decode cL_reckon 14 = .ok (.iconst 1, 1) := by decide +kernel
theorem dL_reckon_15 : decode cL_reckon 15 = .ok (.ireturn, 1) := by decide +kernel
theorem dL_reckon_16 : decode cL_reckon 16 = .ok (.iconst 0, 1) := by decide +kernel
theorem dL_reckon_17 : decode cL_reckon 17 = .ok (.ireturn, 1) := by decide +kernel
set_option maxRecDepth 20000 in
theorem ggL_compare_X0_compare : GoodIn wsL_compare wsX0_compare := goodIn_ca (goodIn_r _ [6, 7, 8, 9, 5, 10, 11, 12, 13, 14, 15, 16, 17, 18, 19, 20, 21, 22, 23, 24, 25] (by decide +kernel) (by decide +kernel)) (goodIn_sub (fun _ h => List.mem_cons_of_mem _ (List.mem_append_right _ h)) (by decide +kernel))
set_option maxRecDepth 20000 in
theorem gL_compare_X0_compare : GoodIn wsL_compare (wsV RL 22 RX0 yX0_compare wsX0_compare) := goodIn_app (goodIn_of _ (by decide +kernel)) ggL_compare_X0_compare
theorem dL_compare_0 : decode cL_compare 0 = .ok (.aload 5, 2) := by decide +kernel
theorem dL_compare_2 : decode cL_compare 2 = .ok (.iconst 0, 1) := by decide +kernel
theorem dL_compare_3 : decode cL_compare 3 = .ok (.aload_n 0, 1) := by decide +kernel
theorem dL_compare_4 : decode cL_compare 4 = .ok (.iload_n 1, 1) := by decide +kernel
theorem dL_compare_5 : decode cL_compare 5 = .ok (.iload_n 2, 1) := by decide +kernel
theorem dL_compare_6 : decode cL_compare 6 = .ok (.iload_n 3, 1) := by decide +kernel
theorem dL_compare_7 : decode cL_compare 7 = .ok (.iload 4, 2) := by decide +kernel
theorem dL_compare_9 : decode cL_compare 9 = .ok (.invokevirtual 22, 3) := by decide +kernel
theorem dL_compare_12 : decode cL_compare 12 = .ok (.i2l, 1) := by decide +kernel
theorem dL_compare_13 : decode cL_compare 13 = .ok (.lastore, 1) := by decide +kernel
theorem dL_compare_14 : decode cL_compare 14 = .ok (.goto 7, 3) := by decide +kernel
theorem dL_compare_17 : decode cL_compare 17 = .ok (.astore 6, 2) := by decide +kernel
theorem dL_compare_19 : decode cL_compare 19 = .ok (.iconst 1, 1) := by decide +kernel
theorem dL_compare_20 : decode cL_compare 20 = .ok (.ireturn, 1) := by decide +kernel
theorem dL_compare_21 : decode cL_compare 21 = .ok (.iconst 0, 1) := by decide +kernel
theorem dL_compare_22 : decode cL_compare 22 = .ok (.ireturn, 1) := by decide +kernel
set_option maxRecDepth 20000 in
theorem ggL_choose_X0_choose : GoodIn wsL_choose wsX0_choose := goodIn_ca (goodIn_r _ [6, 7, 8, 9, 5, 10, 11, 12, 13, 14, 15, 16, 17, 18, 19, 20, 21, 22] (by decide +kernel) (by decide +kernel)) (goodIn_sub (fun _ h => List.mem_cons_of_mem _ (List.mem_append_right _ h)) (by decide +kernel))
set_option maxRecDepth 20000 in
theorem gL_choose_X0_choose : GoodIn wsL_choose (wsV RL 26 RX0 yX0_choose wsX0_choose) := goodIn_app (goodIn_of _ (by decide +kernel)) ggL_choose_X0_choose
theorem dL_choose_0 : decode cL_choose 0 = .ok (.aload_n 0, 1) := by decide +kernel
theorem dL_choose_1 : decode cL_choose 1 = .ok (.iload_n 1, 1) := by decide +kernel
theorem dL_choose_2 : decode cL_choose 2 = .ok (.iload_n 2, 1) := by decide +kernel
theorem dL_choose_3 : decode cL_choose 3 = .ok (.iload_n 3, 1) := by decide +kernel
theorem dL_choose_4 : decode cL_choose 4 = .ok (.iload 4, 2) := by decide +kernel
theorem dL_choose_6 : decode cL_choose 6 = .ok (.invokevirtual 26, 3) := by decide +kernel
theorem dL_choose_9 : decode cL_choose 9 = .ok (.goto 7, 3) := by decide +kernel
theorem dL_choose_12 : decode cL_choose 12 = .ok (.astore 5, 2) := by decide +kernel
theorem dL_choose_14 : decode cL_choose 14 = .ok (.iconst 1, 1) := by decide +kernel
theorem dL_choose_15 : decode cL_choose 15 = .ok (.ireturn, 1) := by decide +kernel
theorem dL_choose_16 : decode cL_choose 16 = .ok (.iconst 0, 1) := by decide +kernel
theorem dL_choose_17 : decode cL_choose 17 = .ok (.ireturn, 1) := by decide +kernel
set_option maxRecDepth 20000 in
theorem ggL_join_X0_join : GoodIn wsL_join wsX0_join := goodIn_ca (goodIn_r _ [6, 7, 8, 5, 9, 10, 11, 12, 13, 14, 15, 16, 17, 18, 19, 20, 21, 22, 23, 24, 25] (by decide +kernel) (by decide +kernel)) (goodIn_sub (fun _ h => List.mem_cons_of_mem _ (List.mem_append_right _ h)) (by decide +kernel))
set_option maxRecDepth 20000 in
theorem gL_join_X0_join : GoodIn wsL_join (wsV RL 29 RX0 yX0_join wsX0_join) := goodIn_app (goodIn_of _ (by decide +kernel)) ggL_join_X0_join
theorem dL_join_0 : decode cL_join 0 = .ok (.aload 5, 2) := by decide +kernel
theorem dL_join_2 : decode cL_join 2 = .ok (.iconst 0, 1) := by decide +kernel
theorem dL_join_3 : decode cL_join 3 = .ok (.aload_n 0, 1) := by decide +kernel
theorem dL_join_4 : decode cL_join 4 = .ok (.iload_n 1, 1) := by decide +kernel
theorem dL_join_5 : decode cL_join 5 = .ok (.iload_n 2, 1) := by decide +kernel
theorem dL_join_6 : decode cL_join 6 = .ok (.iload_n 3, 1) := by decide +kernel
theorem dL_join_7 : decode cL_join 7 = .ok (.iload 4, 2) := by decide +kernel
theorem dL_join_9 : decode cL_join 9 = .ok (.invokevirtual 29, 3) := by decide +kernel
theorem dL_join_12 : decode cL_join 12 = .ok (.i2l, 1) := by decide +kernel
theorem dL_join_13 : decode cL_join 13 = .ok (.lastore, 1) := by decide +kernel
theorem dL_join_14 : decode cL_join 14 = .ok (.goto 7, 3) := by decide +kernel
theorem dL_join_17 : decode cL_join 17 = .ok (.astore 6, 2) := by decide +kernel
theorem dL_join_19 : decode cL_join 19 = .ok (.iconst 1, 1) := by decide +kernel
theorem dL_join_20 : decode cL_join 20 = .ok (.ireturn, 1) := by decide +kernel
theorem dL_join_21 : decode cL_join 21 = .ok (.iconst 0, 1) := by decide +kernel
theorem dL_join_22 : decode cL_join 22 = .ok (.ireturn, 1) := by decide +kernel
set_option maxRecDepth 20000 in
theorem ggL_value_X0_value : GoodIn wsL_value wsX0_value := goodIn_ca (goodIn_r _ [6, 7, 8, 9, 5, 10, 11, 12, 13, 14, 15, 16, 17] (by decide +kernel) (by decide +kernel)) (goodIn_sub (fun _ h => List.mem_cons_of_mem _ (List.mem_append_right _ h)) (by decide +kernel))
set_option maxRecDepth 20000 in
theorem gL_value_X0_value : GoodIn wsL_value (wsV RL 32 RX0 yX0_value wsX0_value) := goodIn_app (goodIn_of _ (by decide +kernel)) ggL_value_X0_value
theorem dL_value_0 : decode cL_value 0 = .ok (.aload_n 3, 1) := by decide +kernel
theorem dL_value_1 : decode cL_value 1 = .ok (.iconst 0, 1) := by decide +kernel
theorem dL_value_2 : decode cL_value 2 = .ok (.aload_n 0, 1) := by decide +kernel
theorem dL_value_3 : decode cL_value 3 = .ok (.iload_n 1, 1) := by decide +kernel
theorem dL_value_4 : decode cL_value 4 = .ok (.iload_n 2, 1) := by decide +kernel
theorem dL_value_5 : decode cL_value 5 = .ok (.invokevirtual 32, 3) := by decide +kernel
theorem dL_value_8 : decode cL_value 8 = .ok (.i2l, 1) := by decide +kernel
theorem dL_value_9 : decode cL_value 9 = .ok (.lastore, 1) := by decide +kernel
theorem dL_value_10 : decode cL_value 10 = .ok (.goto 7, 3) := by decide +kernel
theorem dL_value_13 : decode cL_value 13 = .ok (.astore 4, 2) := by decide +kernel
theorem dL_value_15 : decode cL_value 15 = .ok (.iconst 1, 1) := by decide +kernel
theorem dL_value_16 : decode cL_value 16 = .ok (.ireturn, 1) := by decide +kernel
theorem dL_value_17 : decode cL_value 17 = .ok (.iconst 0, 1) := by decide +kernel
theorem dL_value_18 : decode cL_value 18 = .ok (.ireturn, 1) := by decide +kernel
set_option maxRecDepth 20000 in
theorem ggL_way_X0_way : GoodIn wsL_way wsX0_way := goodIn_ca (goodIn_ca (goodIn_r _ [7, 8, 9, 10, 11, 6, 12, 13, 14, 15, 16, 17, 18, 19, 20, 21] (by decide +kernel) (by decide +kernel)) (goodIn_sub (fun _ h => List.mem_cons_of_mem _ (List.mem_append_left _ (List.mem_append_right _ h))) (by decide +kernel))) (goodIn_sub (fun _ h => List.mem_cons_of_mem _ (List.mem_append_right _ h)) (by decide +kernel))
set_option maxRecDepth 20000 in
theorem gL_way_X0_way : GoodIn wsL_way (wsV RL 36 RX0 yX0_way wsX0_way) := goodIn_app (goodIn_of _ (by decide +kernel)) ggL_way_X0_way
theorem dL_way_0 : decode cL_way 0 = .ok (.aload_n 2, 1) := by decide +kernel
theorem dL_way_1 : decode cL_way 1 = .ok (.iconst 0, 1) := by decide +kernel
theorem dL_way_2 : decode cL_way 2 = .ok (.aload_n 0, 1) := by decide +kernel
theorem dL_way_3 : decode cL_way 3 = .ok (.iload_n 1, 1) := by decide +kernel
theorem dL_way_4 : decode cL_way 4 = .ok (.invokevirtual 36, 3) := by decide +kernel
theorem dL_way_7 : decode cL_way 7 = .ok (.i2l, 1) := by decide +kernel
theorem dL_way_8 : decode cL_way 8 = .ok (.lastore, 1) := by decide +kernel
theorem dL_way_9 : decode cL_way 9 = .ok (.goto 9, 3) := by decide +kernel
theorem dL_way_12 : decode cL_way 12 = .ok (.astore_n 3, 1) := by decide +kernel
theorem dL_way_13 : decode cL_way 13 = .ok (.iconst 1, 1) := by decide +kernel
theorem dL_way_14 : decode cL_way 14 = .ok (.ireturn, 1) := by decide +kernel
theorem dL_way_15 : decode cL_way 15 = .ok (.astore_n 3, 1) := by decide +kernel
theorem dL_way_16 : decode cL_way 16 = .ok (.iconst 2, 1) := by decide +kernel
theorem dL_way_17 : decode cL_way 17 = .ok (.ireturn, 1) := by decide +kernel
theorem dL_way_18 : decode cL_way 18 = .ok (.iconst 0, 1) := by decide +kernel
theorem dL_way_19 : decode cL_way 19 = .ok (.ireturn, 1) := by decide +kernel
set_option maxRecDepth 20000 in
theorem ggL_same_X0_same : GoodIn wsL_same wsX0_same := goodIn_ca (goodIn_r _ [6, 7, 8, 9, 5, 10, 11, 12, 13, 14, 15, 16, 17] (by decide +kernel) (by decide +kernel)) (goodIn_sub (fun _ h => List.mem_cons_of_mem _ (List.mem_append_right _ h)) (by decide +kernel))
set_option maxRecDepth 20000 in
theorem gL_same_X0_same : GoodIn wsL_same (wsV RL 42 RX0 yX0_same wsX0_same) := goodIn_app (goodIn_of _ (by decide +kernel)) ggL_same_X0_same
theorem dL_same_0 : decode cL_same 0 = .ok (.aload_n 3, 1) := by decide +kernel
theorem dL_same_1 : decode cL_same 1 = .ok (.iconst 0, 1) := by decide +kernel
theorem dL_same_2 : decode cL_same 2 = .ok (.aload_n 0, 1) := by decide +kernel
theorem dL_same_3 : decode cL_same 3 = .ok (.iload_n 1, 1) := by decide +kernel
theorem dL_same_4 : decode cL_same 4 = .ok (.iload_n 2, 1) := by decide +kernel
theorem dL_same_5 : decode cL_same 5 = .ok (.invokevirtual 42, 3) := by decide +kernel
theorem dL_same_8 : decode cL_same 8 = .ok (.ifCond .eq 7, 3) := by decide +kernel
theorem dL_same_11 : decode cL_same 11 = .ok (.lconst 1, 1) := by decide +kernel
theorem dL_same_12 : decode cL_same 12 = .ok (.goto 4, 3) := by decide +kernel
theorem dL_same_15 : decode cL_same 15 = .ok (.lconst 0, 1) := by decide +kernel
theorem dL_same_16 : decode cL_same 16 = .ok (.lastore, 1) := by decide +kernel
theorem dL_same_17 : decode cL_same 17 = .ok (.goto 7, 3) := by decide +kernel
theorem dL_same_20 : decode cL_same 20 = .ok (.astore 4, 2) := by decide +kernel
theorem dL_same_22 : decode cL_same 22 = .ok (.iconst 1, 1) := by decide +kernel
theorem dL_same_23 : decode cL_same 23 = .ok (.ireturn, 1) := by decide +kernel
theorem dL_same_24 : decode cL_same 24 = .ok (.iconst 0, 1) := by decide +kernel
theorem dL_same_25 : decode cL_same 25 = .ok (.ireturn, 1) := by decide +kernel
set_option maxRecDepth 20000 in
theorem ggL_tidy_X0_tidy : GoodIn wsL_tidy wsX0_tidy := goodIn_ca (goodIn_r _ [6, 7, 8, 5, 9, 10, 11, 12, 13, 14, 15, 16, 17, 18, 19, 20, 21] (by decide +kernel) (by decide +kernel)) (goodIn_sub (fun _ h => List.mem_cons_of_mem _ (List.mem_append_right _ h)) (by decide +kernel))
set_option maxRecDepth 20000 in
theorem gL_tidy_X0_tidy : GoodIn wsL_tidy (wsV RL 46 RX0 yX0_tidy wsX0_tidy) := goodIn_app (goodIn_of _ (by decide +kernel)) ggL_tidy_X0_tidy
theorem dL_tidy_0 : decode cL_tidy 0 = .ok (.aload_n 2, 1) := by decide +kernel
theorem dL_tidy_1 : decode cL_tidy 1 = .ok (.iconst 0, 1) := by decide +kernel
theorem dL_tidy_2 : decode cL_tidy 2 = .ok (.aload_n 0, 1) := by decide +kernel
theorem dL_tidy_3 : decode cL_tidy 3 = .ok (.iload_n 1, 1) := by decide +kernel
theorem dL_tidy_4 : decode cL_tidy 4 = .ok (.invokevirtual 46, 3) := by decide +kernel
theorem dL_tidy_7 : decode cL_tidy 7 = .ok (.i2l, 1) := by decide +kernel
theorem dL_tidy_8 : decode cL_tidy 8 = .ok (.lastore, 1) := by decide +kernel
theorem dL_tidy_9 : decode cL_tidy 9 = .ok (.goto 6, 3) := by decide +kernel
theorem dL_tidy_12 : decode cL_tidy 12 = .ok (.astore_n 3, 1) := by decide +kernel
theorem dL_tidy_13 : decode cL_tidy 13 = .ok (.iconst 1, 1) := by decide +kernel
theorem dL_tidy_14 : decode cL_tidy 14 = .ok (.ireturn, 1) := by decide +kernel
theorem dL_tidy_15 : decode cL_tidy 15 = .ok (.iconst 0, 1) := by decide +kernel
theorem dL_tidy_16 : decode cL_tidy 16 = .ok (.ireturn, 1) := by decide +kernel
set_option maxRecDepth 20000 in
theorem ggL_law_X0_init : GoodIn wsL_law wsX0_init := goodIn_r _ [8, 9, 10, 11, 12, 13, 14, 15, 141, 142] (by decide +kernel) (by decide +kernel)
set_option maxRecDepth 20000 in
theorem gL_law_X0_init : GoodIn wsL_law (wsX0_init) := ggL_law_X0_init
set_option maxRecDepth 20000 in
theorem ggL_law_X1_init : GoodIn wsL_law wsX1_init := goodIn_r _ [18, 19, 10, 11, 14, 20, 21, 22, 23, 143, 144, 145, 146] (by decide +kernel) (by decide +kernel)
set_option maxRecDepth 20000 in
theorem gL_law_X1_init : GoodIn wsL_law (wsX1_init) := ggL_law_X1_init
set_option maxRecDepth 20000 in
theorem ggL_law_L_constant : GoodIn wsL_law wsL_constant := goodIn_ca (goodIn_r _ [27, 28, 29, 30, 31, 2, 32, 13, 33, 34, 35, 36, 37, 38, 39, 40, 141, 142] (by decide +kernel) (by decide +kernel)) (goodIn_sub (fun _ h => List.mem_append_left _ (List.mem_append_right _ h)) (by decide +kernel))
set_option maxRecDepth 20000 in
theorem gL_law_L_constant : GoodIn wsL_law (va_wsS RL 53 yL_constant wsL_constant) := goodIn_app (goodIn_of _ (by decide +kernel)) ggL_law_L_constant
set_option maxRecDepth 20000 in
theorem ggL_law_X1_constant : GoodIn wsL_law wsX1_constant := goodIn_r _ [44, 45, 20, 46, 47, 48, 5, 49, 143, 144, 145, 146] (by decide +kernel) (by decide +kernel)
set_option maxRecDepth 20000 in
theorem gL_law_X1_constant : GoodIn wsL_law (wsV RL 58 RX1 yX1_constant wsX1_constant) := goodIn_app (goodIn_of _ (by decide +kernel)) ggL_law_X1_constant
set_option maxRecDepth 20000 in
theorem ggL_law_X1_thrown : GoodIn wsL_law wsX1_thrown := goodIn_r _ [53, 45, 143, 144, 145, 146] (by decide +kernel) (by decide +kernel)
set_option maxRecDepth 20000 in
theorem gL_law_X1_thrown : GoodIn wsL_law (wsV RL 59 RX1 yX1_thrown wsX1_thrown) := goodIn_app (goodIn_of _ (by decide +kernel)) ggL_law_X1_thrown
set_option maxRecDepth 20000 in
theorem ggL_law_L_unknown : GoodIn wsL_law wsL_unknown := goodIn_ca (goodIn_r _ [56, 28, 57, 58, 59, 2, 60, 13, 33, 34, 35, 36, 37, 38, 39, 40, 141, 142] (by decide +kernel) (by decide +kernel)) (goodIn_sub (fun _ h => List.mem_append_left _ (List.mem_append_right _ h)) (by decide +kernel))
set_option maxRecDepth 20000 in
theorem gL_law_L_unknown : GoodIn wsL_law (va_wsS RL 63 yL_unknown wsL_unknown) := goodIn_app (goodIn_of _ (by decide +kernel)) ggL_law_L_unknown
set_option maxRecDepth 20000 in
theorem ggL_law_L_reckon : GoodIn wsL_law wsL_reckon := goodIn_ca (goodIn_r _ [63, 28, 64, 65, 66, 2, 67, 13, 33, 34, 35, 36, 37, 38, 39, 40, 68, 69, 70, 141, 142] (by decide +kernel) (by decide +kernel)) (goodIn_sub (fun _ h => List.mem_append_left _ (List.mem_append_right _ h)) (by decide +kernel))
set_option maxRecDepth 20000 in
theorem gL_law_L_reckon : GoodIn wsL_law (va_wsS RL 67 yL_reckon wsL_reckon) := goodIn_app (goodIn_of _ (by decide +kernel)) ggL_law_L_reckon
set_option maxRecDepth 20000 in
theorem ggL_law_L_compare : GoodIn wsL_law wsL_compare := goodIn_ca (goodIn_r _ [73, 28, 74, 75, 76, 2, 77, 13, 33, 34, 35, 36, 37, 38, 39, 40, 78, 79, 80, 81, 82, 83, 84, 15, 141, 142] (by decide +kernel) (by decide +kernel)) (goodIn_sub (fun _ h => List.mem_append_left _ (List.mem_append_right _ h)) (by decide +kernel))
set_option maxRecDepth 20000 in
theorem gL_law_L_compare : GoodIn wsL_law (va_wsS RL 70 yL_compare wsL_compare) := goodIn_app (goodIn_of _ (by decide +kernel)) ggL_law_L_compare
set_option maxRecDepth 20000 in
theorem ggL_law_L_choose : GoodIn wsL_law wsL_choose := goodIn_ca (goodIn_r _ [87, 28, 88, 89, 90, 2, 91, 13, 33, 34, 35, 36, 37, 92, 93, 94, 95, 15, 38, 39, 40, 141, 142] (by decide +kernel) (by decide +kernel)) (goodIn_sub (fun _ h => List.mem_append_left _ (List.mem_append_right _ h)) (by decide +kernel))
set_option maxRecDepth 20000 in
theorem gL_law_L_choose : GoodIn wsL_law (va_wsS RL 74 yL_choose wsL_choose) := goodIn_app (goodIn_of _ (by decide +kernel)) ggL_law_L_choose
set_option maxRecDepth 20000 in
theorem ggL_law_L_join : GoodIn wsL_law wsL_join := goodIn_ca (goodIn_r _ [98, 28, 99, 100, 101, 2, 102, 33, 34, 35, 36, 37, 92, 93, 94, 95, 15, 103, 104, 105, 81, 82, 83, 84, 141, 142] (by decide +kernel) (by decide +kernel)) (goodIn_sub (fun _ h => List.mem_append_left _ (List.mem_append_right _ h)) (by decide +kernel))
set_option maxRecDepth 20000 in
theorem gL_law_L_join : GoodIn wsL_law (va_wsS RL 77 yL_join wsL_join) := goodIn_app (goodIn_of _ (by decide +kernel)) ggL_law_L_join
set_option maxRecDepth 20000 in
theorem ggL_law_L_value : GoodIn wsL_law wsL_value := goodIn_ca (goodIn_r _ [108, 28, 109, 110, 111, 2, 112, 13, 33, 34, 35, 36, 37, 38, 39, 40, 141, 142] (by decide +kernel) (by decide +kernel)) (goodIn_sub (fun _ h => List.mem_append_left _ (List.mem_append_right _ h)) (by decide +kernel))
set_option maxRecDepth 20000 in
theorem gL_law_L_value : GoodIn wsL_law (va_wsS RL 80 yL_value wsL_value) := goodIn_app (goodIn_of _ (by decide +kernel)) ggL_law_L_value
set_option maxRecDepth 20000 in
theorem ggL_law_L_way : GoodIn wsL_law wsL_way := goodIn_ca (goodIn_ca (goodIn_r _ [115, 28, 116, 117, 118, 119, 2, 120, 121, 122, 33, 34, 35, 36, 37, 92, 93, 94, 95, 15, 141, 142] (by decide +kernel) (by decide +kernel)) (goodIn_sub (fun _ h => List.mem_append_right _ h) (by decide +kernel))) (goodIn_sub (fun _ h => List.mem_append_left _ (List.mem_append_right _ h)) (by decide +kernel))
set_option maxRecDepth 20000 in
theorem gL_law_L_way : GoodIn wsL_law (va_wsS RL 84 yL_way wsL_way) := goodIn_app (goodIn_of _ (by decide +kernel)) ggL_law_L_way
set_option maxRecDepth 20000 in
theorem ggL_law_L_same : GoodIn wsL_law wsL_same := goodIn_ca (goodIn_r _ [125, 28, 126, 127, 128, 2, 129, 13, 33, 34, 35, 36, 37, 38, 39, 40, 141, 142] (by decide +kernel) (by decide +kernel)) (goodIn_sub (fun _ h => List.mem_append_left _ (List.mem_append_right _ h)) (by decide +kernel))
set_option maxRecDepth 20000 in
theorem gL_law_L_same : GoodIn wsL_law (va_wsS RL 88 yL_same wsL_same) := goodIn_app (goodIn_of _ (by decide +kernel)) ggL_law_L_same
set_option maxRecDepth 20000 in
theorem ggL_law_L_tidy : GoodIn wsL_law wsL_tidy := goodIn_ca (goodIn_r _ [132, 28, 133, 134, 135, 2, 136, 33, 34, 35, 36, 37, 137, 138, 139, 140, 13, 38, 39, 40, 141, 142] (by decide +kernel) (by decide +kernel)) (goodIn_sub (fun _ h => List.mem_append_left _ (List.mem_append_right _ h)) (by decide +kernel))
set_option maxRecDepth 20000 in
theorem gL_law_L_tidy : GoodIn wsL_law (va_wsS RL 91 yL_tidy wsL_tidy) := goodIn_app (goodIn_of _ (by decide +kernel)) ggL_law_L_tidy
theorem dL_law_0 : decode cL_law 0 = .ok (.new 8, 3) := by decide +kernel
theorem dL_law_3 : decode cL_law 3 = .ok (.dup, 1) := by decide +kernel
theorem dL_law_4 : decode cL_law 4 = .ok (.invokespecial 49, 3) := by decide +kernel
theorem dL_law_7 : decode cL_law 7 = .ok (.astore_n 1, 1) := by decide +kernel
theorem dL_law_8 : decode cL_law 8 = .ok (.new 50, 3) := by decide +kernel
theorem dL_law_11 : decode cL_law 11 = .ok (.dup, 1) := by decide +kernel
theorem dL_law_12 : decode cL_law 12 = .ok (.invokespecial 52, 3) := by decide +kernel
theorem dL_law_15 : decode cL_law 15 = .ok (.astore_n 2, 1) := by decide +kernel
theorem dL_law_16 : decode cL_law 16 = .ok (.iconst 1, 1) := by decide +kernel
theorem dL_law_17 : decode cL_law 17 = .ok (.newarray .long, 2) := by decide +kernel
theorem dL_law_19 : decode cL_law 19 = .ok (.astore_n 3, 1) := by decide +kernel
theorem dL_law_20 : decode cL_law 20 = .ok (.iconst 0, 1) := by decide +kernel
theorem dL_law_21 : decode cL_law 21 = .ok (.istore 4, 2) := by decide +kernel
theorem dL_law_23 : decode cL_law 23 = .ok (.iload 4, 2) := by decide +kernel
theorem dL_law_25 : decode cL_law 25 = .ok (.aload_n 0, 1) := by decide +kernel
theorem dL_law_26 : decode cL_law 26 = .ok (.arraylength, 1) := by decide +kernel
theorem dL_law_27 : decode cL_law 27 = .ok (.iconst 5, 1) := by decide +kernel
theorem dL_law_28 : decode cL_law 28 = .ok (.isub, 1) := by decide +kernel
theorem dL_law_29 : decode cL_law 29 = .ok (.if_icmp .gt 772, 3) := by decide +kernel
theorem dL_law_32 : decode cL_law 32 = .ok (.aload_n 0, 1) := by decide +kernel
theorem dL_law_33 : decode cL_law 33 = .ok (.iload 4, 2) := by decide +kernel
theorem dL_law_35 : decode cL_law 35 = .ok (.iaload, 1) := by decide +kernel
theorem dL_law_36 : decode cL_law 36 = .ok (.bipush 15, 2) := by decide +kernel
theorem dL_law_38 : decode cL_law 38 = .ok (.iand, 1) := by decide +kernel
theorem dL_law_39 : decode cL_law 39 = .ok (.tableswitch 756 0 9 #[53, 101, 173, 245, 337, 409, 501, 569, 625, 700], 53) := by decide +kernel
theorem dL_law_92 : decode cL_law 92 = .ok (.aload_n 1, 1) := by decide +kernel
theorem dL_law_93 : decode cL_law 93 = .ok (.aload_n 0, 1) := by decide +kernel
theorem dL_law_94 : decode cL_law 94 = .ok (.iload 4, 2) := by decide +kernel
theorem dL_law_96 : decode cL_law 96 = .ok (.iconst 1, 1) := by decide +kernel
theorem dL_law_97 : decode cL_law 97 = .ok (.iadd, 1) := by decide +kernel
theorem dL_law_98 : decode cL_law 98 = .ok (.iaload, 1) := by decide +kernel
theorem dL_law_99 : decode cL_law 99 = .ok (.aload_n 0, 1) := by decide +kernel
theorem dL_law_100 : decode cL_law 100 = .ok (.iload 4, 2) := by decide +kernel
theorem dL_law_102 : decode cL_law 102 = .ok (.iconst 2, 1) := by decide +kernel
theorem dL_law_103 : decode cL_law 103 = .ok (.iadd, 1) := by decide +kernel
theorem dL_law_104 : decode cL_law 104 = .ok (.iaload, 1) := by decide +kernel
theorem dL_law_105 : decode cL_law 105 = .ok (.invokestatic 53, 3) := by decide +kernel
theorem dL_law_108 : decode cL_law 108 = .ok (.istore 5, 2) := by decide +kernel
theorem dL_law_110 : decode cL_law 110 = .ok (.aload_n 2, 1) := by decide +kernel
theorem dL_law_111 : decode cL_law 111 = .ok (.aload_n 0, 1) := by decide +kernel
theorem dL_law_112 : decode cL_law 112 = .ok (.iload 4, 2) := by decide +kernel
theorem dL_law_114 : decode cL_law 114 = .ok (.iconst 1, 1) := by decide +kernel
theorem dL_law_115 : decode cL_law 115 = .ok (.iadd, 1) := by decide +kernel
theorem dL_law_116 : decode cL_law 116 = .ok (.iaload, 1) := by decide +kernel
theorem dL_law_117 : decode cL_law 117 = .ok (.aload_n 0, 1) := by decide +kernel
theorem dL_law_118 : decode cL_law 118 = .ok (.iload 4, 2) := by decide +kernel
theorem dL_law_120 : decode cL_law 120 = .ok (.iconst 2, 1) := by decide +kernel
theorem dL_law_121 : decode cL_law 121 = .ok (.iadd, 1) := by decide +kernel
theorem dL_law_122 : decode cL_law 122 = .ok (.iaload, 1) := by decide +kernel
theorem dL_law_123 : decode cL_law 123 = .ok (.invokevirtual 58, 3) := by decide +kernel
theorem dL_law_126 : decode cL_law 126 = .ok (.aload_n 2, 1) := by decide +kernel
theorem dL_law_127 : decode cL_law 127 = .ok (.invokevirtual 59, 3) := by decide +kernel
theorem dL_law_130 : decode cL_law 130 = .ok (.iload 5, 2) := by decide +kernel
theorem dL_law_132 : decode cL_law 132 = .ok (.if_icmp .eq 5, 3) := by decide +kernel
theorem dL_law_135 : decode cL_law 135 = .ok (.iconst 0, 1) := by decide +kernel
theorem dL_law_136 : decode cL_law 136 = .ok (.ireturn, 1) := by decide +kernel
theorem dL_law_137 : decode cL_law 137 = .ok (.goto 658, 3) := by decide +kernel
theorem dL_law_140 : decode cL_law 140 = .ok (.aload_n 1, 1) := by decide +kernel
theorem dL_law_141 : decode cL_law 141 = .ok (.aload_n 0, 1) := by decide +kernel
theorem dL_law_142 : decode cL_law 142 = .ok (.iload 4, 2) := by decide +kernel
theorem dL_law_144 : decode cL_law 144 = .ok (.iconst 1, 1) := by decide +kernel
theorem dL_law_145 : decode cL_law 145 = .ok (.iadd, 1) := by decide +kernel
theorem dL_law_146 : decode cL_law 146 = .ok (.iaload, 1) := by decide +kernel
theorem dL_law_147 : decode cL_law 147 = .ok (.aload_n 0, 1) := by decide +kernel
theorem dL_law_148 : decode cL_law 148 = .ok (.iload 4, 2) := by decide +kernel
theorem dL_law_150 : decode cL_law 150 = .ok (.iconst 2, 1) := by decide +kernel
theorem dL_law_151 : decode cL_law 151 = .ok (.iadd, 1) := by decide +kernel
theorem dL_law_152 : decode cL_law 152 = .ok (.iaload, 1) := by decide +kernel
theorem dL_law_153 : decode cL_law 153 = .ok (.aload_n 0, 1) := by decide +kernel
theorem dL_law_154 : decode cL_law 154 = .ok (.iload 4, 2) := by decide +kernel
theorem dL_law_156 : decode cL_law 156 = .ok (.iconst 3, 1) := by decide +kernel
theorem dL_law_157 : decode cL_law 157 = .ok (.iadd, 1) := by decide +kernel
theorem dL_law_158 : decode cL_law 158 = .ok (.iaload, 1) := by decide +kernel
theorem dL_law_159 : decode cL_law 159 = .ok (.aload_n 0, 1) := by decide +kernel
theorem dL_law_160 : decode cL_law 160 = .ok (.iload 4, 2) := by decide +kernel
theorem dL_law_162 : decode cL_law 162 = .ok (.iconst 4, 1) := by decide +kernel
theorem dL_law_163 : decode cL_law 163 = .ok (.iadd, 1) := by decide +kernel
theorem dL_law_164 : decode cL_law 164 = .ok (.iaload, 1) := by decide +kernel
theorem dL_law_165 : decode cL_law 165 = .ok (.invokestatic 63, 3) := by decide +kernel
theorem dL_law_168 : decode cL_law 168 = .ok (.istore 5, 2) := by decide +kernel
theorem dL_law_170 : decode cL_law 170 = .ok (.aload_n 2, 1) := by decide +kernel
theorem dL_law_171 : decode cL_law 171 = .ok (.aload_n 0, 1) := by decide +kernel
theorem dL_law_172 : decode cL_law 172 = .ok (.iload 4, 2) := by decide +kernel
theorem dL_law_174 : decode cL_law 174 = .ok (.iconst 1, 1) := by decide +kernel
theorem dL_law_175 : decode cL_law 175 = .ok (.iadd, 1) := by decide +kernel
theorem dL_law_176 : decode cL_law 176 = .ok (.iaload, 1) := by decide +kernel
theorem dL_law_177 : decode cL_law 177 = .ok (.aload_n 0, 1) := by decide +kernel
theorem dL_law_178 : decode cL_law 178 = .ok (.iload 4, 2) := by decide +kernel
theorem dL_law_180 : decode cL_law 180 = .ok (.iconst 2, 1) := by decide +kernel
theorem dL_law_181 : decode cL_law 181 = .ok (.iadd, 1) := by decide +kernel
theorem dL_law_182 : decode cL_law 182 = .ok (.iaload, 1) := by decide +kernel
theorem dL_law_183 : decode cL_law 183 = .ok (.aload_n 0, 1) := by decide +kernel
theorem dL_law_184 : decode cL_law 184 = .ok (.iload 4, 2) := by decide +kernel
theorem dL_law_186 : decode cL_law 186 = .ok (.iconst 3, 1) := by decide +kernel
theorem dL_law_187 : decode cL_law 187 = .ok (.iadd, 1) := by decide +kernel
theorem dL_law_188 : decode cL_law 188 = .ok (.iaload, 1) := by decide +kernel
theorem dL_law_189 : decode cL_law 189 = .ok (.aload_n 0, 1) := by decide +kernel
theorem dL_law_190 : decode cL_law 190 = .ok (.iload 4, 2) := by decide +kernel
theorem dL_law_192 : decode cL_law 192 = .ok (.iconst 4, 1) := by decide +kernel
theorem dL_law_193 : decode cL_law 193 = .ok (.iadd, 1) := by decide +kernel
theorem dL_law_194 : decode cL_law 194 = .ok (.iaload, 1) := by decide +kernel
theorem dL_law_195 : decode cL_law 195 = .ok (.invokevirtual 66, 3) := by decide +kernel
theorem dL_law_198 : decode cL_law 198 = .ok (.aload_n 2, 1) := by decide +kernel
theorem dL_law_199 : decode cL_law 199 = .ok (.invokevirtual 59, 3) := by decide +kernel
theorem dL_law_202 : decode cL_law 202 = .ok (.iload 5, 2) := by decide +kernel
theorem dL_law_204 : decode cL_law 204 = .ok (.if_icmp .eq 5, 3) := by decide +kernel
theorem dL_law_207 : decode cL_law 207 = .ok (.iconst 0, 1) := by decide +kernel
theorem dL_law_208 : decode cL_law 208 = .ok (.ireturn, 1) := by decide +kernel
theorem dL_law_209 : decode cL_law 209 = .ok (.goto 586, 3) := by decide +kernel
theorem dL_law_212 : decode cL_law 212 = .ok (.aload_n 1, 1) := by decide +kernel
theorem dL_law_213 : decode cL_law 213 = .ok (.aload_n 0, 1) := by decide +kernel
theorem dL_law_214 : decode cL_law 214 = .ok (.iload 4, 2) := by decide +kernel
theorem dL_law_216 : decode cL_law 216 = .ok (.iconst 1, 1) := by decide +kernel
theorem dL_law_217 : decode cL_law 217 = .ok (.iadd, 1) := by decide +kernel
theorem dL_law_218 : decode cL_law 218 = .ok (.iaload, 1) := by decide +kernel
theorem dL_law_219 : decode cL_law 219 = .ok (.aload_n 0, 1) := by decide +kernel
theorem dL_law_220 : decode cL_law 220 = .ok (.iload 4, 2) := by decide +kernel
theorem dL_law_222 : decode cL_law 222 = .ok (.iconst 2, 1) := by decide +kernel
theorem dL_law_223 : decode cL_law 223 = .ok (.iadd, 1) := by decide +kernel
theorem dL_law_224 : decode cL_law 224 = .ok (.iaload, 1) := by decide +kernel
theorem dL_law_225 : decode cL_law 225 = .ok (.aload_n 0, 1) := by decide +kernel
theorem dL_law_226 : decode cL_law 226 = .ok (.iload 4, 2) := by decide +kernel
theorem dL_law_228 : decode cL_law 228 = .ok (.iconst 3, 1) := by decide +kernel
theorem dL_law_229 : decode cL_law 229 = .ok (.iadd, 1) := by decide +kernel
theorem dL_law_230 : decode cL_law 230 = .ok (.iaload, 1) := by decide +kernel
theorem dL_law_231 : decode cL_law 231 = .ok (.aload_n 0, 1) := by decide +kernel
theorem dL_law_232 : decode cL_law 232 = .ok (.iload 4, 2) := by decide +kernel
theorem dL_law_234 : decode cL_law 234 = .ok (.iconst 4, 1) := by decide +kernel
theorem dL_law_235 : decode cL_law 235 = .ok (.iadd, 1) := by decide +kernel
theorem dL_law_236 : decode cL_law 236 = .ok (.iaload, 1) := by decide +kernel
theorem dL_law_237 : decode cL_law 237 = .ok (.invokestatic 67, 3) := by decide +kernel
theorem dL_law_240 : decode cL_law 240 = .ok (.istore 5, 2) := by decide +kernel
theorem dL_law_242 : decode cL_law 242 = .ok (.aload_n 2, 1) := by decide +kernel
theorem dL_law_243 : decode cL_law 243 = .ok (.aload_n 0, 1) := by decide +kernel
theorem dL_law_244 : decode cL_law 244 = .ok (.iload 4, 2) := by decide +kernel
theorem dL_law_246 : decode cL_law 246 = .ok (.iconst 1, 1) := by decide +kernel
theorem dL_law_247 : decode cL_law 247 = .ok (.iadd, 1) := by decide +kernel
theorem dL_law_248 : decode cL_law 248 = .ok (.iaload, 1) := by decide +kernel
theorem dL_law_249 : decode cL_law 249 = .ok (.aload_n 0, 1) := by decide +kernel
theorem dL_law_250 : decode cL_law 250 = .ok (.iload 4, 2) := by decide +kernel
theorem dL_law_252 : decode cL_law 252 = .ok (.iconst 2, 1) := by decide +kernel
theorem dL_law_253 : decode cL_law 253 = .ok (.iadd, 1) := by decide +kernel
theorem dL_law_254 : decode cL_law 254 = .ok (.iaload, 1) := by decide +kernel
theorem dL_law_255 : decode cL_law 255 = .ok (.aload_n 0, 1) := by decide +kernel
theorem dL_law_256 : decode cL_law 256 = .ok (.iload 4, 2) := by decide +kernel
theorem dL_law_258 : decode cL_law 258 = .ok (.iconst 3, 1) := by decide +kernel
theorem dL_law_259 : decode cL_law 259 = .ok (.iadd, 1) := by decide +kernel
theorem dL_law_260 : decode cL_law 260 = .ok (.iaload, 1) := by decide +kernel
theorem dL_law_261 : decode cL_law 261 = .ok (.aload_n 0, 1) := by decide +kernel
theorem dL_law_262 : decode cL_law 262 = .ok (.iload 4, 2) := by decide +kernel
theorem dL_law_264 : decode cL_law 264 = .ok (.iconst 4, 1) := by decide +kernel
theorem dL_law_265 : decode cL_law 265 = .ok (.iadd, 1) := by decide +kernel
theorem dL_law_266 : decode cL_law 266 = .ok (.iaload, 1) := by decide +kernel
theorem dL_law_267 : decode cL_law 267 = .ok (.invokevirtual 69, 3) := by decide +kernel
theorem dL_law_270 : decode cL_law 270 = .ok (.aload_n 2, 1) := by decide +kernel
theorem dL_law_271 : decode cL_law 271 = .ok (.invokevirtual 59, 3) := by decide +kernel
theorem dL_law_274 : decode cL_law 274 = .ok (.iload 5, 2) := by decide +kernel
theorem dL_law_276 : decode cL_law 276 = .ok (.if_icmp .eq 5, 3) := by decide +kernel
theorem dL_law_279 : decode cL_law 279 = .ok (.iconst 0, 1) := by decide +kernel
theorem dL_law_280 : decode cL_law 280 = .ok (.ireturn, 1) := by decide +kernel
theorem dL_law_281 : decode cL_law 281 = .ok (.goto 514, 3) := by decide +kernel
theorem dL_law_284 : decode cL_law 284 = .ok (.aload_n 1, 1) := by decide +kernel
theorem dL_law_285 : decode cL_law 285 = .ok (.aload_n 0, 1) := by decide +kernel
theorem dL_law_286 : decode cL_law 286 = .ok (.iload 4, 2) := by decide +kernel
theorem dL_law_288 : decode cL_law 288 = .ok (.iconst 1, 1) := by decide +kernel
theorem dL_law_289 : decode cL_law 289 = .ok (.iadd, 1) := by decide +kernel
theorem dL_law_290 : decode cL_law 290 = .ok (.iaload, 1) := by decide +kernel
theorem dL_law_291 : decode cL_law 291 = .ok (.aload_n 0, 1) := by decide +kernel
theorem dL_law_292 : decode cL_law 292 = .ok (.iload 4, 2) := by decide +kernel
theorem dL_law_294 : decode cL_law 294 = .ok (.iconst 2, 1) := by decide +kernel
theorem dL_law_295 : decode cL_law 295 = .ok (.iadd, 1) := by decide +kernel
theorem dL_law_296 : decode cL_law 296 = .ok (.iaload, 1) := by decide +kernel
theorem dL_law_297 : decode cL_law 297 = .ok (.aload_n 0, 1) := by decide +kernel
theorem dL_law_298 : decode cL_law 298 = .ok (.iload 4, 2) := by decide +kernel
theorem dL_law_300 : decode cL_law 300 = .ok (.iconst 3, 1) := by decide +kernel
theorem dL_law_301 : decode cL_law 301 = .ok (.iadd, 1) := by decide +kernel
theorem dL_law_302 : decode cL_law 302 = .ok (.iaload, 1) := by decide +kernel
theorem dL_law_303 : decode cL_law 303 = .ok (.aload_n 0, 1) := by decide +kernel
theorem dL_law_304 : decode cL_law 304 = .ok (.iload 4, 2) := by decide +kernel
theorem dL_law_306 : decode cL_law 306 = .ok (.iconst 4, 1) := by decide +kernel
theorem dL_law_307 : decode cL_law 307 = .ok (.iadd, 1) := by decide +kernel
theorem dL_law_308 : decode cL_law 308 = .ok (.iaload, 1) := by decide +kernel
theorem dL_law_309 : decode cL_law 309 = .ok (.aload_n 3, 1) := by decide +kernel
theorem dL_law_310 : decode cL_law 310 = .ok (.invokestatic 70, 3) := by decide +kernel
theorem dL_law_313 : decode cL_law 313 = .ok (.istore 5, 2) := by decide +kernel
theorem dL_law_315 : decode cL_law 315 = .ok (.aload_n 2, 1) := by decide +kernel
theorem dL_law_316 : decode cL_law 316 = .ok (.aload_n 0, 1) := by decide +kernel
theorem dL_law_317 : decode cL_law 317 = .ok (.iload 4, 2) := by decide +kernel
theorem dL_law_319 : decode cL_law 319 = .ok (.iconst 1, 1) := by decide +kernel
theorem dL_law_320 : decode cL_law 320 = .ok (.iadd, 1) := by decide +kernel
theorem dL_law_321 : decode cL_law 321 = .ok (.iaload, 1) := by decide +kernel
theorem dL_law_322 : decode cL_law 322 = .ok (.aload_n 0, 1) := by decide +kernel
theorem dL_law_323 : decode cL_law 323 = .ok (.iload 4, 2) := by decide +kernel
theorem dL_law_325 : decode cL_law 325 = .ok (.iconst 2, 1) := by decide +kernel
theorem dL_law_326 : decode cL_law 326 = .ok (.iadd, 1) := by decide +kernel
theorem dL_law_327 : decode cL_law 327 = .ok (.iaload, 1) := by decide +kernel
theorem dL_law_328 : decode cL_law 328 = .ok (.aload_n 0, 1) := by decide +kernel
theorem dL_law_329 : decode cL_law 329 = .ok (.iload 4, 2) := by decide +kernel
theorem dL_law_331 : decode cL_law 331 = .ok (.iconst 3, 1) := by decide +kernel
theorem dL_law_332 : decode cL_law 332 = .ok (.iadd, 1) := by decide +kernel
theorem dL_law_333 : decode cL_law 333 = .ok (.iaload, 1) := by decide +kernel
theorem dL_law_334 : decode cL_law 334 = .ok (.aload_n 0, 1) := by decide +kernel
theorem dL_law_335 : decode cL_law 335 = .ok (.iload 4, 2) := by decide +kernel
theorem dL_law_337 : decode cL_law 337 = .ok (.iconst 4, 1) := by decide +kernel
theorem dL_law_338 : decode cL_law 338 = .ok (.iadd, 1) := by decide +kernel
theorem dL_law_339 : decode cL_law 339 = .ok (.iaload, 1) := by decide +kernel
theorem dL_law_340 : decode cL_law 340 = .ok (.invokevirtual 73, 3) := by decide +kernel
theorem dL_law_343 : decode cL_law 343 = .ok (.istore 6, 2) := by decide +kernel
theorem dL_law_345 : decode cL_law 345 = .ok (.aload_n 2, 1) := by decide +kernel
theorem dL_law_346 : decode cL_law 346 = .ok (.invokevirtual 59, 3) := by decide +kernel
theorem dL_law_349 : decode cL_law 349 = .ok (.iload 5, 2) := by decide +kernel
theorem dL_law_351 : decode cL_law 351 = .ok (.if_icmp .eq 5, 3) := by decide +kernel
theorem dL_law_354 : decode cL_law 354 = .ok (.iconst 0, 1) := by decide +kernel
theorem dL_law_355 : decode cL_law 355 = .ok (.ireturn, 1) := by decide +kernel
theorem dL_law_356 : decode cL_law 356 = .ok (.iload 5, 2) := by decide +kernel
theorem dL_law_358 : decode cL_law 358 = .ok (.ifCond .ne 15, 3) := by decide +kernel
theorem dL_law_361 : decode cL_law 361 = .ok (.aload_n 3, 1) := by decide +kernel
theorem dL_law_362 : decode cL_law 362 = .ok (.iconst 0, 1) := by decide +kernel
theorem dL_law_363 : decode cL_law 363 = .ok (.laload, 1) := by decide +kernel
theorem dL_law_364 : decode cL_law 364 = .ok (.iload 6, 2) := by decide +kernel
theorem dL_law_366 : decode cL_law 366 = .ok (.i2l, 1) := by decide +kernel
theorem dL_law_367 : decode cL_law 367 = .ok (.lcmp, 1) := by decide +kernel
theorem dL_law_368 : decode cL_law 368 = .ok (.ifCond .eq 5, 3) := by decide +kernel
theorem dL_law_371 : decode cL_law 371 = .ok (.iconst 0, 1) := by decide +kernel
theorem dL_law_372 : decode cL_law 372 = .ok (.ireturn, 1) := by decide +kernel
theorem dL_law_373 : decode cL_law 373 = .ok (.goto 422, 3) := by decide +kernel
theorem dL_law_376 : decode cL_law 376 = .ok (.aload_n 1, 1) := by decide +kernel
theorem dL_law_377 : decode cL_law 377 = .ok (.aload_n 0, 1) := by decide +kernel
theorem dL_law_378 : decode cL_law 378 = .ok (.iload 4, 2) := by decide +kernel
theorem dL_law_380 : decode cL_law 380 = .ok (.iconst 1, 1) := by decide +kernel
theorem dL_law_381 : decode cL_law 381 = .ok (.iadd, 1) := by decide +kernel
theorem dL_law_382 : decode cL_law 382 = .ok (.iaload, 1) := by decide +kernel
theorem dL_law_383 : decode cL_law 383 = .ok (.aload_n 0, 1) := by decide +kernel
theorem dL_law_384 : decode cL_law 384 = .ok (.iload 4, 2) := by decide +kernel
theorem dL_law_386 : decode cL_law 386 = .ok (.iconst 2, 1) := by decide +kernel
theorem dL_law_387 : decode cL_law 387 = .ok (.iadd, 1) := by decide +kernel
theorem dL_law_388 : decode cL_law 388 = .ok (.iaload, 1) := by decide +kernel
theorem dL_law_389 : decode cL_law 389 = .ok (.aload_n 0, 1) := by decide +kernel
theorem dL_law_390 : decode cL_law 390 = .ok (.iload 4, 2) := by decide +kernel
theorem dL_law_392 : decode cL_law 392 = .ok (.iconst 3, 1) := by decide +kernel
theorem dL_law_393 : decode cL_law 393 = .ok (.iadd, 1) := by decide +kernel
theorem dL_law_394 : decode cL_law 394 = .ok (.iaload, 1) := by decide +kernel
theorem dL_law_395 : decode cL_law 395 = .ok (.aload_n 0, 1) := by decide +kernel
theorem dL_law_396 : decode cL_law 396 = .ok (.iload 4, 2) := by decide +kernel
theorem dL_law_398 : decode cL_law 398 = .ok (.iconst 4, 1) := by decide +kernel
theorem dL_law_399 : decode cL_law 399 = .ok (.iadd, 1) := by decide +kernel
theorem dL_law_400 : decode cL_law 400 = .ok (.iaload, 1) := by decide +kernel
theorem dL_law_401 : decode cL_law 401 = .ok (.invokestatic 74, 3) := by decide +kernel
theorem dL_law_404 : decode cL_law 404 = .ok (.istore 5, 2) := by decide +kernel
theorem dL_law_406 : decode cL_law 406 = .ok (.aload_n 2, 1) := by decide +kernel
theorem dL_law_407 : decode cL_law 407 = .ok (.aload_n 0, 1) := by decide +kernel
theorem dL_law_408 : decode cL_law 408 = .ok (.iload 4, 2) := by decide +kernel
theorem dL_law_410 : decode cL_law 410 = .ok (.iconst 1, 1) := by decide +kernel
theorem dL_law_411 : decode cL_law 411 = .ok (.iadd, 1) := by decide +kernel
theorem dL_law_412 : decode cL_law 412 = .ok (.iaload, 1) := by decide +kernel
theorem dL_law_413 : decode cL_law 413 = .ok (.aload_n 0, 1) := by decide +kernel
theorem dL_law_414 : decode cL_law 414 = .ok (.iload 4, 2) := by decide +kernel
theorem dL_law_416 : decode cL_law 416 = .ok (.iconst 2, 1) := by decide +kernel
theorem dL_law_417 : decode cL_law 417 = .ok (.iadd, 1) := by decide +kernel
theorem dL_law_418 : decode cL_law 418 = .ok (.iaload, 1) := by decide +kernel
theorem dL_law_419 : decode cL_law 419 = .ok (.aload_n 0, 1) := by decide +kernel
theorem dL_law_420 : decode cL_law 420 = .ok (.iload 4, 2) := by decide +kernel
theorem dL_law_422 : decode cL_law 422 = .ok (.iconst 3, 1) := by decide +kernel
theorem dL_law_423 : decode cL_law 423 = .ok (.iadd, 1) := by decide +kernel
theorem dL_law_424 : decode cL_law 424 = .ok (.iaload, 1) := by decide +kernel
theorem dL_law_425 : decode cL_law 425 = .ok (.aload_n 0, 1) := by decide +kernel
theorem dL_law_426 : decode cL_law 426 = .ok (.iload 4, 2) := by decide +kernel
theorem dL_law_428 : decode cL_law 428 = .ok (.iconst 4, 1) := by decide +kernel
theorem dL_law_429 : decode cL_law 429 = .ok (.iadd, 1) := by decide +kernel
theorem dL_law_430 : decode cL_law 430 = .ok (.iaload, 1) := by decide +kernel
theorem dL_law_431 : decode cL_law 431 = .ok (.invokevirtual 76, 3) := by decide +kernel
theorem dL_law_434 : decode cL_law 434 = .ok (.aload_n 2, 1) := by decide +kernel
theorem dL_law_435 : decode cL_law 435 = .ok (.invokevirtual 59, 3) := by decide +kernel
theorem dL_law_438 : decode cL_law 438 = .ok (.iload 5, 2) := by decide +kernel
theorem dL_law_440 : decode cL_law 440 = .ok (.if_icmp .eq 5, 3) := by decide +kernel
theorem dL_law_443 : decode cL_law 443 = .ok (.iconst 0, 1) := by decide +kernel
theorem dL_law_444 : decode cL_law 444 = .ok (.ireturn, 1) := by decide +kernel
theorem dL_law_445 : decode cL_law 445 = .ok (.goto 350, 3) := by decide +kernel
theorem dL_law_448 : decode cL_law 448 = .ok (.aload_n 1, 1) := by decide +kernel
theorem dL_law_449 : decode cL_law 449 = .ok (.aload_n 0, 1) := by decide +kernel
theorem dL_law_450 : decode cL_law 450 = .ok (.iload 4, 2) := by decide +kernel
theorem dL_law_452 : decode cL_law 452 = .ok (.iconst 1, 1) := by decide +kernel
theorem dL_law_453 : decode cL_law 453 = .ok (.iadd, 1) := by decide +kernel
theorem dL_law_454 : decode cL_law 454 = .ok (.iaload, 1) := by decide +kernel
theorem dL_law_455 : decode cL_law 455 = .ok (.aload_n 0, 1) := by decide +kernel
theorem dL_law_456 : decode cL_law 456 = .ok (.iload 4, 2) := by decide +kernel
theorem dL_law_458 : decode cL_law 458 = .ok (.iconst 2, 1) := by decide +kernel
theorem dL_law_459 : decode cL_law 459 = .ok (.iadd, 1) := by decide +kernel
theorem dL_law_460 : decode cL_law 460 = .ok (.iaload, 1) := by decide +kernel
theorem dL_law_461 : decode cL_law 461 = .ok (.aload_n 0, 1) := by decide +kernel
theorem dL_law_462 : decode cL_law 462 = .ok (.iload 4, 2) := by decide +kernel
theorem dL_law_464 : decode cL_law 464 = .ok (.iconst 3, 1) := by decide +kernel
theorem dL_law_465 : decode cL_law 465 = .ok (.iadd, 1) := by decide +kernel
theorem dL_law_466 : decode cL_law 466 = .ok (.iaload, 1) := by decide +kernel
theorem dL_law_467 : decode cL_law 467 = .ok (.aload_n 0, 1) := by decide +kernel
theorem dL_law_468 : decode cL_law 468 = .ok (.iload 4, 2) := by decide +kernel
theorem dL_law_470 : decode cL_law 470 = .ok (.iconst 4, 1) := by decide +kernel
theorem dL_law_471 : decode cL_law 471 = .ok (.iadd, 1) := by decide +kernel
theorem dL_law_472 : decode cL_law 472 = .ok (.iaload, 1) := by decide +kernel
theorem dL_law_473 : decode cL_law 473 = .ok (.aload_n 3, 1) := by decide +kernel
theorem dL_law_474 : decode cL_law 474 = .ok (.invokestatic 77, 3) := by decide +kernel
theorem dL_law_477 : decode cL_law 477 = .ok (.istore 5, 2) := by decide +kernel
theorem dL_law_479 : decode cL_law 479 = .ok (.aload_n 2, 1) := by decide +kernel
theorem dL_law_480 : decode cL_law 480 = .ok (.aload_n 0, 1) := by decide +kernel
theorem dL_law_481 : decode cL_law 481 = .ok (.iload 4, 2) := by decide +kernel
theorem dL_law_483 : decode cL_law 483 = .ok (.iconst 1, 1) := by decide +kernel
theorem dL_law_484 : decode cL_law 484 = .ok (.iadd, 1) := by decide +kernel
theorem dL_law_485 : decode cL_law 485 = .ok (.iaload, 1) := by decide +kernel
theorem dL_law_486 : decode cL_law 486 = .ok (.aload_n 0, 1) := by decide +kernel
theorem dL_law_487 : decode cL_law 487 = .ok (.iload 4, 2) := by decide +kernel
theorem dL_law_489 : decode cL_law 489 = .ok (.iconst 2, 1) := by decide +kernel
theorem dL_law_490 : decode cL_law 490 = .ok (.iadd, 1) := by decide +kernel
theorem dL_law_491 : decode cL_law 491 = .ok (.iaload, 1) := by decide +kernel
theorem dL_law_492 : decode cL_law 492 = .ok (.aload_n 0, 1) := by decide +kernel
theorem dL_law_493 : decode cL_law 493 = .ok (.iload 4, 2) := by decide +kernel
theorem dL_law_495 : decode cL_law 495 = .ok (.iconst 3, 1) := by decide +kernel
theorem dL_law_496 : decode cL_law 496 = .ok (.iadd, 1) := by decide +kernel
theorem dL_law_497 : decode cL_law 497 = .ok (.iaload, 1) := by decide +kernel
theorem dL_law_498 : decode cL_law 498 = .ok (.aload_n 0, 1) := by decide +kernel
theorem dL_law_499 : decode cL_law 499 = .ok (.iload 4, 2) := by decide +kernel
theorem dL_law_501 : decode cL_law 501 = .ok (.iconst 4, 1) := by decide +kernel
theorem dL_law_502 : decode cL_law 502 = .ok (.iadd, 1) := by decide +kernel
theorem dL_law_503 : decode cL_law 503 = .ok (.iaload, 1) := by decide +kernel
theorem dL_law_504 : decode cL_law 504 = .ok (.invokevirtual 79, 3) := by decide +kernel
theorem dL_law_507 : decode cL_law 507 = .ok (.istore 6, 2) := by decide +kernel
theorem dL_law_509 : decode cL_law 509 = .ok (.aload_n 2, 1) := by decide +kernel
theorem dL_law_510 : decode cL_law 510 = .ok (.invokevirtual 59, 3) := by decide +kernel
theorem dL_law_513 : decode cL_law 513 = .ok (.iload 5, 2) := by decide +kernel
theorem dL_law_515 : decode cL_law 515 = .ok (.if_icmp .eq 5, 3) := by decide +kernel
theorem dL_law_518 : decode cL_law 518 = .ok (.iconst 0, 1) := by decide +kernel
theorem dL_law_519 : decode cL_law 519 = .ok (.ireturn, 1) := by decide +kernel
theorem dL_law_520 : decode cL_law 520 = .ok (.iload 5, 2) := by decide +kernel
theorem dL_law_522 : decode cL_law 522 = .ok (.ifCond .ne 15, 3) := by decide +kernel
theorem dL_law_525 : decode cL_law 525 = .ok (.aload_n 3, 1) := by decide +kernel
theorem dL_law_526 : decode cL_law 526 = .ok (.iconst 0, 1) := by decide +kernel
theorem dL_law_527 : decode cL_law 527 = .ok (.laload, 1) := by decide +kernel
theorem dL_law_528 : decode cL_law 528 = .ok (.iload 6, 2) := by decide +kernel
theorem dL_law_530 : decode cL_law 530 = .ok (.i2l, 1) := by decide +kernel
theorem dL_law_531 : decode cL_law 531 = .ok (.lcmp, 1) := by decide +kernel
theorem dL_law_532 : decode cL_law 532 = .ok (.ifCond .eq 5, 3) := by decide +kernel
theorem dL_law_535 : decode cL_law 535 = .ok (.iconst 0, 1) := by decide +kernel
theorem dL_law_536 : decode cL_law 536 = .ok (.ireturn, 1) := by decide +kernel
theorem dL_law_537 : decode cL_law 537 = .ok (.goto 258, 3) := by decide +kernel
theorem dL_law_540 : decode cL_law 540 = .ok (.aload_n 1, 1) := by decide +kernel
theorem dL_law_541 : decode cL_law 541 = .ok (.aload_n 0, 1) := by decide +kernel
theorem dL_law_542 : decode cL_law 542 = .ok (.iload 4, 2) := by decide +kernel
theorem dL_law_544 : decode cL_law 544 = .ok (.iconst 1, 1) := by decide +kernel
theorem dL_law_545 : decode cL_law 545 = .ok (.iadd, 1) := by decide +kernel
theorem dL_law_546 : decode cL_law 546 = .ok (.iaload, 1) := by decide +kernel
theorem dL_law_547 : decode cL_law 547 = .ok (.aload_n 0, 1) := by decide +kernel
theorem dL_law_548 : decode cL_law 548 = .ok (.iload 4, 2) := by decide +kernel
theorem dL_law_550 : decode cL_law 550 = .ok (.iconst 2, 1) := by decide +kernel
theorem dL_law_551 : decode cL_law 551 = .ok (.iadd, 1) := by decide +kernel
theorem dL_law_552 : decode cL_law 552 = .ok (.iaload, 1) := by decide +kernel
theorem dL_law_553 : decode cL_law 553 = .ok (.aload_n 3, 1) := by decide +kernel
theorem dL_law_554 : decode cL_law 554 = .ok (.invokestatic 80, 3) := by decide +kernel
theorem dL_law_557 : decode cL_law 557 = .ok (.istore 5, 2) := by decide +kernel
theorem dL_law_559 : decode cL_law 559 = .ok (.aload_n 2, 1) := by decide +kernel
theorem dL_law_560 : decode cL_law 560 = .ok (.aload_n 0, 1) := by decide +kernel
theorem dL_law_561 : decode cL_law 561 = .ok (.iload 4, 2) := by decide +kernel
theorem dL_law_563 : decode cL_law 563 = .ok (.iconst 1, 1) := by decide +kernel
theorem dL_law_564 : decode cL_law 564 = .ok (.iadd, 1) := by decide +kernel
theorem dL_law_565 : decode cL_law 565 = .ok (.iaload, 1) := by decide +kernel
theorem dL_law_566 : decode cL_law 566 = .ok (.aload_n 0, 1) := by decide +kernel
theorem dL_law_567 : decode cL_law 567 = .ok (.iload 4, 2) := by decide +kernel
theorem dL_law_569 : decode cL_law 569 = .ok (.iconst 2, 1) := by decide +kernel
theorem dL_law_570 : decode cL_law 570 = .ok (.iadd, 1) := by decide +kernel
theorem dL_law_571 : decode cL_law 571 = .ok (.iaload, 1) := by decide +kernel
theorem dL_law_572 : decode cL_law 572 = .ok (.invokevirtual 83, 3) := by decide +kernel
theorem dL_law_575 : decode cL_law 575 = .ok (.istore 6, 2) := by decide +kernel
theorem dL_law_577 : decode cL_law 577 = .ok (.aload_n 2, 1) := by decide +kernel
theorem dL_law_578 : decode cL_law 578 = .ok (.invokevirtual 59, 3) := by decide +kernel
theorem dL_law_581 : decode cL_law 581 = .ok (.iload 5, 2) := by decide +kernel
theorem dL_law_583 : decode cL_law 583 = .ok (.if_icmp .eq 5, 3) := by decide +kernel
theorem dL_law_586 : decode cL_law 586 = .ok (.iconst 0, 1) := by decide +kernel
theorem dL_law_587 : decode cL_law 587 = .ok (.ireturn, 1) := by decide +kernel
theorem dL_law_588 : decode cL_law 588 = .ok (.iload 5, 2) := by decide +kernel
theorem dL_law_590 : decode cL_law 590 = .ok (.ifCond .ne 15, 3) := by decide +kernel
theorem dL_law_593 : decode cL_law 593 = .ok (.aload_n 3, 1) := by decide +kernel
theorem dL_law_594 : decode cL_law 594 = .ok (.iconst 0, 1) := by decide +kernel
theorem dL_law_595 : decode cL_law 595 = .ok (.laload, 1) := by decide +kernel
theorem dL_law_596 : decode cL_law 596 = .ok (.iload 6, 2) := by decide +kernel
theorem dL_law_598 : decode cL_law 598 = .ok (.i2l, 1) := by decide +kernel
theorem dL_law_599 : decode cL_law 599 = .ok (.lcmp, 1) := by decide +kernel
theorem dL_law_600 : decode cL_law 600 = .ok (.ifCond .eq 5, 3) := by decide +kernel
theorem dL_law_603 : decode cL_law 603 = .ok (.iconst 0, 1) := by decide +kernel
theorem dL_law_604 : decode cL_law 604 = .ok (.ireturn, 1) := by decide +kernel
theorem dL_law_605 : decode cL_law 605 = .ok (.goto 190, 3) := by decide +kernel
theorem dL_law_608 : decode cL_law 608 = .ok (.aload_n 1, 1) := by decide +kernel
theorem dL_law_609 : decode cL_law 609 = .ok (.aload_n 0, 1) := by decide +kernel
theorem dL_law_610 : decode cL_law 610 = .ok (.iload 4, 2) := by decide +kernel
theorem dL_law_612 : decode cL_law 612 = .ok (.iconst 1, 1) := by decide +kernel
theorem dL_law_613 : decode cL_law 613 = .ok (.iadd, 1) := by decide +kernel
theorem dL_law_614 : decode cL_law 614 = .ok (.iaload, 1) := by decide +kernel
theorem dL_law_615 : decode cL_law 615 = .ok (.aload_n 3, 1) := by decide +kernel
theorem dL_law_616 : decode cL_law 616 = .ok (.invokestatic 84, 3) := by decide +kernel
theorem dL_law_619 : decode cL_law 619 = .ok (.istore 5, 2) := by decide +kernel
theorem dL_law_621 : decode cL_law 621 = .ok (.aload_n 2, 1) := by decide +kernel
theorem dL_law_622 : decode cL_law 622 = .ok (.aload_n 0, 1) := by decide +kernel
theorem dL_law_623 : decode cL_law 623 = .ok (.iload 4, 2) := by decide +kernel
theorem dL_law_625 : decode cL_law 625 = .ok (.iconst 1, 1) := by decide +kernel
theorem dL_law_626 : decode cL_law 626 = .ok (.iadd, 1) := by decide +kernel
theorem dL_law_627 : decode cL_law 627 = .ok (.iaload, 1) := by decide +kernel
theorem dL_law_628 : decode cL_law 628 = .ok (.invokevirtual 87, 3) := by decide +kernel
theorem dL_law_631 : decode cL_law 631 = .ok (.istore 6, 2) := by decide +kernel
theorem dL_law_633 : decode cL_law 633 = .ok (.aload_n 2, 1) := by decide +kernel
theorem dL_law_634 : decode cL_law 634 = .ok (.invokevirtual 59, 3) := by decide +kernel
theorem dL_law_637 : decode cL_law 637 = .ok (.iload 5, 2) := by decide +kernel
theorem dL_law_639 : decode cL_law 639 = .ok (.if_icmp .eq 5, 3) := by decide +kernel
theorem dL_law_642 : decode cL_law 642 = .ok (.iconst 0, 1) := by decide +kernel
theorem dL_law_643 : decode cL_law 643 = .ok (.ireturn, 1) := by decide +kernel
theorem dL_law_644 : decode cL_law 644 = .ok (.iload 5, 2) := by decide +kernel
theorem dL_law_646 : decode cL_law 646 = .ok (.ifCond .ne 15, 3) := by decide +kernel
theorem dL_law_649 : decode cL_law 649 = .ok (.aload_n 3, 1) := by decide +kernel
theorem dL_law_650 : decode cL_law 650 = .ok (.iconst 0, 1) := by decide +kernel
theorem dL_law_651 : decode cL_law 651 = .ok (.laload, 1) := by decide +kernel
theorem dL_law_652 : decode cL_law 652 = .ok (.iload 6, 2) := by decide +kernel
theorem dL_law_654 : decode cL_law 654 = .ok (.i2l, 1) := by decide +kernel
theorem dL_law_655 : decode cL_law 655 = .ok (.lcmp, 1) := by decide +kernel
theorem dL_law_656 : decode cL_law 656 = .ok (.ifCond .eq 5, 3) := by decide +kernel
theorem dL_law_659 : decode cL_law 659 = .ok (.iconst 0, 1) := by decide +kernel
theorem dL_law_660 : decode cL_law 660 = .ok (.ireturn, 1) := by decide +kernel
theorem dL_law_661 : decode cL_law 661 = .ok (.goto 134, 3) := by decide +kernel
theorem dL_law_664 : decode cL_law 664 = .ok (.aload_n 1, 1) := by decide +kernel
theorem dL_law_665 : decode cL_law 665 = .ok (.aload_n 0, 1) := by decide +kernel
theorem dL_law_666 : decode cL_law 666 = .ok (.iload 4, 2) := by decide +kernel
theorem dL_law_668 : decode cL_law 668 = .ok (.iconst 1, 1) := by decide +kernel
theorem dL_law_669 : decode cL_law 669 = .ok (.iadd, 1) := by decide +kernel
theorem dL_law_670 : decode cL_law 670 = .ok (.iaload, 1) := by decide +kernel
theorem dL_law_671 : decode cL_law 671 = .ok (.aload_n 0, 1) := by decide +kernel
theorem dL_law_672 : decode cL_law 672 = .ok (.iload 4, 2) := by decide +kernel
theorem dL_law_674 : decode cL_law 674 = .ok (.iconst 2, 1) := by decide +kernel
theorem dL_law_675 : decode cL_law 675 = .ok (.iadd, 1) := by decide +kernel
theorem dL_law_676 : decode cL_law 676 = .ok (.iaload, 1) := by decide +kernel
theorem dL_law_677 : decode cL_law 677 = .ok (.aload_n 3, 1) := by decide +kernel
theorem dL_law_678 : decode cL_law 678 = .ok (.invokestatic 88, 3) := by decide +kernel
theorem dL_law_681 : decode cL_law 681 = .ok (.istore 5, 2) := by decide +kernel
theorem dL_law_683 : decode cL_law 683 = .ok (.aload_n 2, 1) := by decide +kernel
theorem dL_law_684 : decode cL_law 684 = .ok (.aload_n 0, 1) := by decide +kernel
theorem dL_law_685 : decode cL_law 685 = .ok (.iload 4, 2) := by decide +kernel
theorem dL_law_687 : decode cL_law 687 = .ok (.iconst 1, 1) := by decide +kernel
theorem dL_law_688 : decode cL_law 688 = .ok (.iadd, 1) := by decide +kernel
theorem dL_law_689 : decode cL_law 689 = .ok (.iaload, 1) := by decide +kernel
theorem dL_law_690 : decode cL_law 690 = .ok (.aload_n 0, 1) := by decide +kernel
theorem dL_law_691 : decode cL_law 691 = .ok (.iload 4, 2) := by decide +kernel
theorem dL_law_693 : decode cL_law 693 = .ok (.iconst 2, 1) := by decide +kernel
theorem dL_law_694 : decode cL_law 694 = .ok (.iadd, 1) := by decide +kernel
theorem dL_law_695 : decode cL_law 695 = .ok (.iaload, 1) := by decide +kernel
theorem dL_law_696 : decode cL_law 696 = .ok (.invokevirtual 90, 3) := by decide +kernel
theorem dL_law_699 : decode cL_law 699 = .ok (.istore 6, 2) := by decide +kernel
theorem dL_law_701 : decode cL_law 701 = .ok (.aload_n 2, 1) := by decide +kernel
theorem dL_law_702 : decode cL_law 702 = .ok (.invokevirtual 59, 3) := by decide +kernel
theorem dL_law_705 : decode cL_law 705 = .ok (.iload 5, 2) := by decide +kernel
theorem dL_law_707 : decode cL_law 707 = .ok (.if_icmp .eq 5, 3) := by decide +kernel
theorem dL_law_710 : decode cL_law 710 = .ok (.iconst 0, 1) := by decide +kernel
theorem dL_law_711 : decode cL_law 711 = .ok (.ireturn, 1) := by decide +kernel
theorem dL_law_712 : decode cL_law 712 = .ok (.iload 5, 2) := by decide +kernel
theorem dL_law_714 : decode cL_law 714 = .ok (.ifCond .ne 22, 3) := by decide +kernel
theorem dL_law_717 : decode cL_law 717 = .ok (.aload_n 3, 1) := by decide +kernel
theorem dL_law_718 : decode cL_law 718 = .ok (.iconst 0, 1) := by decide +kernel
theorem dL_law_719 : decode cL_law 719 = .ok (.laload, 1) := by decide +kernel
theorem dL_law_720 : decode cL_law 720 = .ok (.iload 6, 2) := by decide +kernel
theorem dL_law_722 : decode cL_law 722 = .ok (.ifCond .eq 7, 3) := by decide +kernel
theorem dL_law_725 : decode cL_law 725 = .ok (.lconst 1, 1) := by decide +kernel
theorem dL_law_726 : decode cL_law 726 = .ok (.goto 4, 3) := by decide +kernel
theorem dL_law_729 : decode cL_law 729 = .ok (.lconst 0, 1) := by decide +kernel
theorem dL_law_730 : decode cL_law 730 = .ok (.lcmp, 1) := by decide +kernel
theorem dL_law_731 : decode cL_law 731 = .ok (.ifCond .eq 5, 3) := by decide +kernel
theorem dL_law_734 : decode cL_law 734 = .ok (.iconst 0, 1) := by decide +kernel
theorem dL_law_735 : decode cL_law 735 = .ok (.ireturn, 1) := by decide +kernel
theorem dL_law_736 : decode cL_law 736 = .ok (.goto 59, 3) := by decide +kernel
theorem dL_law_739 : decode cL_law 739 = .ok (.aload_n 1, 1) := by decide +kernel
theorem dL_law_740 : decode cL_law 740 = .ok (.aload_n 0, 1) := by decide +kernel
theorem dL_law_741 : decode cL_law 741 = .ok (.iload 4, 2) := by decide +kernel
theorem dL_law_743 : decode cL_law 743 = .ok (.iconst 1, 1) := by decide +kernel
theorem dL_law_744 : decode cL_law 744 = .ok (.iadd, 1) := by decide +kernel
theorem dL_law_745 : decode cL_law 745 = .ok (.iaload, 1) := by decide +kernel
theorem dL_law_746 : decode cL_law 746 = .ok (.aload_n 3, 1) := by decide +kernel
theorem dL_law_747 : decode cL_law 747 = .ok (.invokestatic 91, 3) := by decide +kernel
theorem dL_law_750 : decode cL_law 750 = .ok (.istore 5, 2) := by decide +kernel
theorem dL_law_752 : decode cL_law 752 = .ok (.aload_n 2, 1) := by decide +kernel
theorem dL_law_753 : decode cL_law 753 = .ok (.aload_n 0, 1) := by decide +kernel
theorem dL_law_754 : decode cL_law 754 = .ok (.iload 4, 2) := by decide +kernel
theorem dL_law_756 : decode cL_law 756 = .ok (.iconst 1, 1) := by decide +kernel
theorem dL_law_757 : decode cL_law 757 = .ok (.iadd, 1) := by decide +kernel
theorem dL_law_758 : decode cL_law 758 = .ok (.iaload, 1) := by decide +kernel
theorem dL_law_759 : decode cL_law 759 = .ok (.invokevirtual 93, 3) := by decide +kernel
theorem dL_law_762 : decode cL_law 762 = .ok (.istore 6, 2) := by decide +kernel
theorem dL_law_764 : decode cL_law 764 = .ok (.aload_n 2, 1) := by decide +kernel
theorem dL_law_765 : decode cL_law 765 = .ok (.invokevirtual 59, 3) := by decide +kernel
theorem dL_law_768 : decode cL_law 768 = .ok (.iload 5, 2) := by decide +kernel
theorem dL_law_770 : decode cL_law 770 = .ok (.if_icmp .eq 5, 3) := by decide +kernel
theorem dL_law_773 : decode cL_law 773 = .ok (.iconst 0, 1) := by decide +kernel
theorem dL_law_774 : decode cL_law 774 = .ok (.ireturn, 1) := by decide +kernel
theorem dL_law_775 : decode cL_law 775 = .ok (.iload 5, 2) := by decide +kernel
theorem dL_law_777 : decode cL_law 777 = .ok (.ifCond .ne 15, 3) := by decide +kernel
theorem dL_law_780 : decode cL_law 780 = .ok (.aload_n 3, 1) := by decide +kernel
theorem dL_law_781 : decode cL_law 781 = .ok (.iconst 0, 1) := by decide +kernel
theorem dL_law_782 : decode cL_law 782 = .ok (.laload, 1) := by decide +kernel
theorem dL_law_783 : decode cL_law 783 = .ok (.iload 6, 2) := by decide +kernel
theorem dL_law_785 : decode cL_law 785 = .ok (.i2l, 1) := by decide +kernel
theorem dL_law_786 : decode cL_law 786 = .ok (.lcmp, 1) := by decide +kernel
theorem dL_law_787 : decode cL_law 787 = .ok (.ifCond .eq 5, 3) := by decide +kernel
theorem dL_law_790 : decode cL_law 790 = .ok (.iconst 0, 1) := by decide +kernel
theorem dL_law_791 : decode cL_law 791 = .ok (.ireturn, 1) := by decide +kernel
theorem dL_law_792 : decode cL_law 792 = .ok (.goto 3, 3) := by decide +kernel
theorem dL_law_795 : decode cL_law 795 = .ok (.iinc 4 5, 3) := by decide +kernel
theorem dL_law_798 : decode cL_law 798 = .ok (.goto (-775), 3) := by decide +kernel
theorem dL_law_801 : decode cL_law 801 = .ok (.iconst 1, 1) := by decide +kernel
theorem dL_law_802 : decode cL_law 802 = .ok (.ireturn, 1) := by decide +kernel
abbrev vwCl : List vw_C := [(RX0, TX0, 2), (RX1, TX1, 4)]
