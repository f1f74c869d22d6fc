abbrev cX1_fail : ByteArray := prog_3_method_3_code
def yX1_fail : MethodName := ⟨RX1, "fail", "(I)I"⟩
abbrev cX1_result : ByteArray := prog_3_method_7_code
def yX1_result : MethodName := ⟨RX1, "result", "(III)I"⟩
abbrev cX1_yes : ByteArray := prog_3_method_9_code
def yX1_yes : MethodName := ⟨RX1, "yes", "(I)I"⟩
abbrev cX1_unknown : ByteArray := prog_3_method_6_code
def yX1_unknown : MethodName := ⟨RX1, "unknown", "(IIII)V"⟩
abbrev cX1_reckon : ByteArray := prog_3_method_8_code
def yX1_reckon : MethodName := ⟨RX1, "reckon", "(IIII)V"⟩
abbrev cX1_compare : ByteArray := prog_3_method_10_code
def yX1_compare : MethodName := ⟨RX1, "compare", "(IIII)I"⟩
abbrev cX1_choose : ByteArray := prog_3_method_11_code
def yX1_choose : MethodName := ⟨RX1, "choose", "(IIII)V"⟩
abbrev cX1_join : ByteArray := prog_3_method_12_code
def yX1_join : MethodName := ⟨RX1, "join", "(IIII)I"⟩
abbrev cX1_value : ByteArray := prog_3_method_13_code
def yX1_value : MethodName := ⟨RX1, "value", "(II)I"⟩
abbrev cX1_way : ByteArray := prog_3_method_14_code
def yX1_way : MethodName := ⟨RX1, "way", "(I)I"⟩
abbrev cX1_same : ByteArray := prog_3_method_15_code
def yX1_same : MethodName := ⟨RX1, "same", "(II)Z"⟩
abbrev cX1_tidy : ByteArray := prog_3_method_16_code
def yX1_tidy : MethodName := ⟨RX1, "tidy", "(I)I"⟩
def wsX1_fail : List Cond := .code yX1_fail cX1_fail 2 (some .int) :: ([.fieldLink RX1 20 "NumberCircuitsModel" "failed" "I"] ++ wsX10)
def wsX1_result : List Cond := .code yX1_result cX1_result 4 (some .int) :: ([])
def wsX1_yes : List Cond := .code yX1_yes cX1_yes 4 (some .int) :: ([.fieldLink RX1 13 "NumberCircuitsModel" "truths" "[Z"] ++ wsX10)
def wsX1_unknown : List Cond := .code yX1_unknown cX1_unknown 6 none :: ([.fieldLink RX1 20 "NumberCircuitsModel" "failed" "I", .fieldLink RX1 7 "NumberCircuitsModel" "numbers" "[I"] ++ wsX10 ++ wsV RX1 24 RX1 yX1_out wsX1_out)
def wsX1_reckon : List Cond := .code yX1_reckon cX1_reckon 6 none :: ([.fieldLink RX1 20 "NumberCircuitsModel" "failed" "I", .fieldLink RX1 7 "NumberCircuitsModel" "numbers" "[I", .fieldLink RX1 17 "NumberCircuitsModel" "made" "[I"] ++ wsX10 ++ wsV RX1 24 RX1 yX1_out wsX1_out ++ wsV RX1 28 RX1 yX1_result wsX1_result)
def wsX1_compare : List Cond := .code yX1_compare cX1_compare 8 (some .int) :: ([.fieldLink RX1 20 "NumberCircuitsModel" "failed" "I", .fieldLink RX1 7 "NumberCircuitsModel" "numbers" "[I", .fieldLink RX1 13 "NumberCircuitsModel" "truths" "[Z"] ++ wsX10 ++ wsV RX1 24 RX1 yX1_out wsX1_out ++ wsV RX1 32 RX1 yX1_fail wsX1_fail ++ wsV RX1 36 RX1 yX1_yes wsX1_yes)
def wsX1_choose : List Cond := .code yX1_choose cX1_choose 6 none :: ([.fieldLink RX1 20 "NumberCircuitsModel" "failed" "I", .fieldLink RX1 7 "NumberCircuitsModel" "numbers" "[I", .fieldLink RX1 13 "NumberCircuitsModel" "truths" "[Z", .fieldLink RX1 17 "NumberCircuitsModel" "made" "[I"] ++ wsX10 ++ wsV RX1 24 RX1 yX1_out wsX1_out)
def wsX1_join : List Cond := .code yX1_join cX1_join 8 (some .int) :: ([.fieldLink RX1 20 "NumberCircuitsModel" "failed" "I", .fieldLink RX1 13 "NumberCircuitsModel" "truths" "[Z", .fieldLink RX1 17 "NumberCircuitsModel" "made" "[I"] ++ wsX10 ++ wsV RX1 24 RX1 yX1_out wsX1_out ++ wsV RX1 32 RX1 yX1_fail wsX1_fail ++ wsV RX1 36 RX1 yX1_yes wsX1_yes)
def wsX1_value : List Cond := .code yX1_value cX1_value 3 (some .int) :: ([.fieldLink RX1 20 "NumberCircuitsModel" "failed" "I", .fieldLink RX1 7 "NumberCircuitsModel" "numbers" "[I"] ++ wsX10 ++ wsV RX1 24 RX1 yX1_out wsX1_out ++ wsV RX1 32 RX1 yX1_fail wsX1_fail)
def wsX1_way : List Cond := .code yX1_way cX1_way 3 (some .int) :: ([.fieldLink RX1 20 "NumberCircuitsModel" "failed" "I", .fieldLink RX1 13 "NumberCircuitsModel" "truths" "[Z"] ++ wsX10 ++ wsV RX1 24 RX1 yX1_out wsX1_out ++ wsV RX1 32 RX1 yX1_fail wsX1_fail)
def wsX1_same : List Cond := .code yX1_same cX1_same 4 (some .boolean) :: ([.fieldLink RX1 20 "NumberCircuitsModel" "failed" "I", .fieldLink RX1 7 "NumberCircuitsModel" "numbers" "[I"] ++ wsX10 ++ wsV RX1 24 RX1 yX1_out wsX1_out ++ wsV RX1 32 RX1 yX1_fail wsX1_fail)
def wsX1_tidy : List Cond := .code yX1_tidy cX1_tidy 6 (some .int) :: ([.fieldLink RX1 20 "NumberCircuitsModel" "failed" "I", .fieldLink RX1 7 "NumberCircuitsModel" "numbers" "[I"] ++ wsX10 ++ wsV RX1 24 RX1 yX1_out wsX1_out ++ wsV RX1 32 RX1 yX1_fail wsX1_fail)
theorem inX1_fail : ∀ w ∈ wsX10, w ∈ wsX1_fail := by decide +kernel
theorem dX1_fail_0 : decode cX1_fail 0 = .ok (.aload_n 0, 1) := by decide +kernel
theorem dX1_fail_1 : decode cX1_fail 1 = .ok (.iload_n 1, 1) := by decide +kernel
theorem dX1_fail_2 : decode cX1_fail 2 = .ok (.putfield 20, 3) := by decide +kernel
theorem dX1_fail_5 : decode cX1_fail 5 = .ok (.iconst 0, 1) := by decide +kernel
theorem dX1_fail_6 : decode cX1_fail 6 = .ok (.ireturn, 1) := by decide +kernel
theorem dX1_result_0 : decode cX1_result 0 = .ok (.iload_n 1, 1) := by decide +kernel
theorem dX1_result_1 : decode cX1_result 1 = .ok (.tableswitch 75 0 4 #[35, 40, 45, 50, 63], 35) := by decide +kernel
theorem dX1_result_36 : decode cX1_result 36 = .ok (.iload_n 2, 1) := by decide +kernel
theorem dX1_result_37 : decode cX1_result 37 = .ok (.iload_n 3, 1) := by decide +kernel
theorem dX1_result_38 : decode cX1_result 38 = .ok (.iadd, 1) := by decide +kernel
theorem dX1_result_39 : decode cX1_result 39 = .ok (.i2s, 1) := by decide +kernel
theorem dX1_result_40 : decode cX1_result 40 = .ok (.ireturn, 1) := by decide +kernel
theorem dX1_result_41 : decode cX1_result 41 = .ok (.iload_n 2, 1) := by decide +kernel
theorem dX1_result_42 : decode cX1_result 42 = .ok (.iload_n 3, 1) := by decide +kernel
theorem dX1_result_43 : decode cX1_result 43 = .ok (.isub, 1) := by decide +kernel
theorem dX1_result_44 : decode cX1_result 44 = .ok (.i2s, 1) := by decide +kernel
theorem dX1_result_45 : decode cX1_result 45 = .ok (.ireturn, 1) := by decide +kernel
theorem dX1_result_46 : decode cX1_result 46 = .ok (.iload_n 2, 1) := by decide +kernel
theorem dX1_result_47 : decode cX1_result 47 = .ok (.iload_n 3, 1) := by decide +kernel
theorem dX1_result_48 : decode cX1_result 48 = .ok (.imul, 1) := by decide +kernel
theorem dX1_result_49 : decode cX1_result 49 = .ok (.i2s, 1) := by decide +kernel
theorem dX1_result_50 : decode cX1_result 50 = .ok (.ireturn, 1) := by decide +kernel
theorem dX1_result_51 : decode cX1_result 51 = .ok (.iload_n 3, 1) := by decide +kernel
theorem dX1_result_52 : decode cX1_result 52 = .ok (.ifCond .ne 7, 3) := by decide +kernel
theorem dX1_result_55 : decode cX1_result 55 = .ok (.iconst 0, 1) := by decide +kernel
theorem dX1_result_56 : decode cX1_result 56 = .ok (.goto 7, 3) := by decide +kernel
theorem dX1_result_59 : decode cX1_result 59 = .ok (.iload_n 2, 1) := by decide +kernel
theorem dX1_result_60 : decode cX1_result 60 = .ok (.iload_n 3, 1) := by decide +kernel
theorem dX1_result_61 : decode cX1_result 61 = .ok (.idiv, 1) := by decide +kernel
theorem dX1_result_62 : decode cX1_result 62 = .ok (.i2s, 1) := by decide +kernel
theorem dX1_result_63 : decode cX1_result 63 = .ok (.ireturn, 1) := by decide +kernel
theorem dX1_result_64 : decode cX1_result 64 = .ok (.iload_n 3, 1) := by decide +kernel
theorem dX1_result_65 : decode cX1_result 65 = .ok (.ifCond .ne 7, 3) := by decide +kernel
theorem dX1_result_68 : decode cX1_result 68 = .ok (.iconst 0, 1) := by decide +kernel
theorem dX1_result_69 : decode cX1_result 69 = .ok (.goto 6, 3) := by decide +kernel
theorem dX1_result_72 : decode cX1_result 72 = .ok (.iload_n 2, 1) := by decide +kernel
theorem dX1_result_73 : decode cX1_result 73 = .ok (.iload_n 3, 1) := by decide +kernel
theorem dX1_result_74 : decode cX1_result 74 = .ok (.irem, 1) := by decide +kernel
theorem dX1_result_75 : decode cX1_result 75 = .ok (.ireturn, 1) := by decide +kernel
theorem dX1_result_76 : decode cX1_result 76 = .ok (.iload_n 3, 1) := by decide +kernel
theorem dX1_result_77 : decode cX1_result 77 = .ok (.ineg, 1) := by decide +kernel
theorem dX1_result_78 : decode cX1_result 78 = .ok (.i2s, 1) := by decide +kernel
theorem dX1_result_79 : decode cX1_result 79 = .ok (.ireturn, 1) := by decide +kernel
theorem inX1_yes : ∀ w ∈ wsX10, w ∈ wsX1_yes := by decide +kernel
theorem dX1_yes_0 : decode cX1_yes 0 = .ok (.iconst 0, 1) := by decide +kernel
theorem dX1_yes_1 : decode cX1_yes 1 = .ok (.istore_n 2, 1) := by decide +kernel
theorem dX1_yes_2 : decode cX1_yes 2 = .ok (.iconst 0, 1) := by decide +kernel
theorem dX1_yes_3 : decode cX1_yes 3 = .ok (.istore_n 3, 1) := by decide +kernel
theorem dX1_yes_4 : decode cX1_yes 4 = .ok (.iload_n 3, 1) := by decide +kernel
theorem dX1_yes_5 : decode cX1_yes 5 = .ok (.sipush 1024, 3) := by decide +kernel
theorem dX1_yes_8 : decode cX1_yes 8 = .ok (.if_icmp .ge 32, 3) := by decide +kernel
theorem dX1_yes_11 : decode cX1_yes 11 = .ok (.iload_n 2, 1) := by decide +kernel
theorem dX1_yes_12 : decode cX1_yes 12 = .ok (.aload_n 0, 1) := by decide +kernel
theorem dX1_yes_13 : decode cX1_yes 13 = .ok (.getfield 13, 3) := by decide +kernel
theorem dX1_yes_16 : decode cX1_yes 16 = .ok (.sipush 1024, 3) := by decide +kernel
theorem dX1_yes_19 : decode cX1_yes 19 = .ok (.iload_n 1, 1) := by decide +kernel
theorem dX1_yes_20 : decode cX1_yes 20 = .ok (.imul, 1) := by decide +kernel
theorem dX1_yes_21 : decode cX1_yes 21 = .ok (.iload_n 3, 1) := by decide +kernel
theorem dX1_yes_22 : decode cX1_yes 22 = .ok (.iadd, 1) := by decide +kernel
theorem dX1_yes_23 : decode cX1_yes 23 = .ok (.baload, 1) := by decide +kernel
theorem dX1_yes_24 : decode cX1_yes 24 = .ok (.ifCond .eq 7, 3) := by decide +kernel
theorem dX1_yes_27 : decode cX1_yes 27 = .ok (.iconst 1, 1) := by decide +kernel
theorem dX1_yes_28 : decode cX1_yes 28 = .ok (.goto 4, 3) := by decide +kernel
theorem dX1_yes_31 : decode cX1_yes 31 = .ok (.iconst 0, 1) := by decide +kernel
theorem dX1_yes_32 : decode cX1_yes 32 = .ok (.iadd, 1) := by decide +kernel
theorem dX1_yes_33 : decode cX1_yes 33 = .ok (.istore_n 2, 1) := by decide +kernel
theorem dX1_yes_34 : decode cX1_yes 34 = .ok (.iinc 3 1, 3) := by decide +kernel
theorem dX1_yes_37 : decode cX1_yes 37 = .ok (.goto (-33), 3) := by decide +kernel
theorem dX1_yes_40 : decode cX1_yes 40 = .ok (.iload_n 2, 1) := by decide +kernel
theorem dX1_yes_41 : decode cX1_yes 41 = .ok (.ireturn, 1) := by decide +kernel
set_option maxRecDepth 20000 in
theorem gX1_unknown_X1_out : GoodIn wsX1_unknown (wsV RX1 24 RX1 yX1_out wsX1_out) := goodIn_sub (by decide +kernel) (by decide +kernel)
theorem inX1_unknown : ∀ w ∈ wsX10, w ∈ wsX1_unknown := by decide +kernel
theorem dX1_unknown_0 : decode cX1_unknown 0 = .ok (.aload_n 0, 1) := by decide +kernel
theorem dX1_unknown_1 : decode cX1_unknown 1 = .ok (.iconst 0, 1) := by decide +kernel
theorem dX1_unknown_2 : decode cX1_unknown 2 = .ok (.putfield 20, 3) := by decide +kernel
theorem dX1_unknown_5 : decode cX1_unknown 5 = .ok (.aload_n 0, 1) := by decide +kernel
theorem dX1_unknown_6 : decode cX1_unknown 6 = .ok (.iload_n 1, 1) := by decide +kernel
theorem dX1_unknown_7 : decode cX1_unknown 7 = .ok (.bipush 8, 2) := by decide +kernel
theorem dX1_unknown_9 : decode cX1_unknown 9 = .ok (.invokevirtual 24, 3) := by decide +kernel
theorem dX1_unknown_12 : decode cX1_unknown 12 = .ok (.ifCond .ne 31, 3) := by decide +kernel
theorem dX1_unknown_15 : decode cX1_unknown 15 = .ok (.aload_n 0, 1) := by decide +kernel
theorem dX1_unknown_16 : decode cX1_unknown 16 = .ok (.iload_n 2, 1) := by decide +kernel
theorem dX1_unknown_17 : decode cX1_unknown 17 = .ok (.bipush 11, 2) := by decide +kernel
theorem dX1_unknown_19 : decode cX1_unknown 19 = .ok (.invokevirtual 24, 3) := by decide +kernel
theorem dX1_unknown_22 : decode cX1_unknown 22 = .ok (.ifCond .ne 21, 3) := by decide +kernel
theorem dX1_unknown_25 : decode cX1_unknown 25 = .ok (.aload_n 0, 1) := by decide +kernel
theorem dX1_unknown_26 : decode cX1_unknown 26 = .ok (.iload_n 3, 1) := by decide +kernel
theorem dX1_unknown_27 : decode cX1_unknown 27 = .ok (.bipush 11, 2) := by decide +kernel
theorem dX1_unknown_29 : decode cX1_unknown 29 = .ok (.invokevirtual 24, 3) := by decide +kernel
theorem dX1_unknown_32 : decode cX1_unknown 32 = .ok (.ifCond .ne 11, 3) := by decide +kernel
theorem dX1_unknown_35 : decode cX1_unknown 35 = .ok (.iload_n 2, 1) := by decide +kernel
theorem dX1_unknown_36 : decode cX1_unknown 36 = .ok (.iload_n 3, 1) := by decide +kernel
theorem dX1_unknown_37 : decode cX1_unknown 37 = .ok (.iadd, 1) := by decide +kernel
theorem dX1_unknown_38 : decode cX1_unknown 38 = .ok (.bipush 10, 2) := by decide +kernel
theorem dX1_unknown_40 : decode cX1_unknown 40 = .ok (.if_icmp .le 11, 3) := by decide +kernel
theorem dX1_unknown_43 : decode cX1_unknown 43 = .ok (.aload_n 0, 1) := by decide +kernel
theorem dX1_unknown_44 : decode cX1_unknown 44 = .ok (.iconst 1, 1) := by decide +kernel
theorem dX1_unknown_45 : decode cX1_unknown 45 = .ok (.putfield 20, 3) := by decide +kernel
theorem dX1_unknown_48 : decode cX1_unknown 48 = .ok (.goto 47, 3) := by decide +kernel
theorem dX1_unknown_51 : decode cX1_unknown 51 = .ok (.iconst 0, 1) := by decide +kernel
theorem dX1_unknown_52 : decode cX1_unknown 52 = .ok (.istore 5, 2) := by decide +kernel
theorem dX1_unknown_54 : decode cX1_unknown 54 = .ok (.iload 5, 2) := by decide +kernel
theorem dX1_unknown_56 : decode cX1_unknown 56 = .ok (.sipush 1024, 3) := by decide +kernel
theorem dX1_unknown_59 : decode cX1_unknown 59 = .ok (.if_icmp .ge 36, 3) := by decide +kernel
theorem dX1_unknown_62 : decode cX1_unknown 62 = .ok (.aload_n 0, 1) := by decide +kernel
theorem dX1_unknown_63 : decode cX1_unknown 63 = .ok (.getfield 7, 3) := by decide +kernel
theorem dX1_unknown_66 : decode cX1_unknown 66 = .ok (.sipush 1024, 3) := by decide +kernel
theorem dX1_unknown_69 : decode cX1_unknown 69 = .ok (.iload_n 1, 1) := by decide +kernel
theorem dX1_unknown_70 : decode cX1_unknown 70 = .ok (.imul, 1) := by decide +kernel
theorem dX1_unknown_71 : decode cX1_unknown 71 = .ok (.iload 5, 2) := by decide +kernel
theorem dX1_unknown_73 : decode cX1_unknown 73 = .ok (.iadd, 1) := by decide +kernel
theorem dX1_unknown_74 : decode cX1_unknown 74 = .ok (.iload 5, 2) := by decide +kernel
theorem dX1_unknown_76 : decode cX1_unknown 76 = .ok (.iload_n 2, 1) := by decide +kernel
theorem dX1_unknown_77 : decode cX1_unknown 77 = .ok (.ishr, 1) := by decide +kernel
theorem dX1_unknown_78 : decode cX1_unknown 78 = .ok (.iconst 1, 1) := by decide +kernel
theorem dX1_unknown_79 : decode cX1_unknown 79 = .ok (.iload_n 3, 1) := by decide +kernel
theorem dX1_unknown_80 : decode cX1_unknown 80 = .ok (.ishl, 1) := by decide +kernel
theorem dX1_unknown_81 : decode cX1_unknown 81 = .ok (.iconst 1, 1) := by decide +kernel
theorem dX1_unknown_82 : decode cX1_unknown 82 = .ok (.isub, 1) := by decide +kernel
theorem dX1_unknown_83 : decode cX1_unknown 83 = .ok (.iand, 1) := by decide +kernel
theorem dX1_unknown_84 : decode cX1_unknown 84 = .ok (.iload 4, 2) := by decide +kernel
theorem dX1_unknown_86 : decode cX1_unknown 86 = .ok (.iadd, 1) := by decide +kernel
theorem dX1_unknown_87 : decode cX1_unknown 87 = .ok (.i2s, 1) := by decide +kernel
theorem dX1_unknown_88 : decode cX1_unknown 88 = .ok (.iastore, 1) := by decide +kernel
theorem dX1_unknown_89 : decode cX1_unknown 89 = .ok (.iinc 5 1, 3) := by decide +kernel
theorem dX1_unknown_92 : decode cX1_unknown 92 = .ok (.goto (-38), 3) := by decide +kernel
theorem dX1_unknown_95 : decode cX1_unknown 95 = .ok (.return_, 1) := by decide +kernel
set_option maxRecDepth 20000 in
theorem gX1_reckon_X1_out : GoodIn wsX1_reckon (wsV RX1 24 RX1 yX1_out wsX1_out) := goodIn_sub (by decide +kernel) (by decide +kernel)
set_option maxRecDepth 20000 in
theorem gX1_reckon_X1_result : GoodIn wsX1_reckon (wsV RX1 28 RX1 yX1_result wsX1_result) := goodIn_sub (by decide +kernel) (by decide +kernel)
theorem inX1_reckon : ∀ w ∈ wsX10, w ∈ wsX1_reckon := by decide +kernel
theorem dX1_reckon_0 : decode cX1_reckon 0 = .ok (.aload_n 0, 1) := by decide +kernel
theorem dX1_reckon_1 : decode cX1_reckon 1 = .ok (.iconst 0, 1) := by decide +kernel
theorem dX1_reckon_2 : decode cX1_reckon 2 = .ok (.putfield 20, 3) := by decide +kernel
theorem dX1_reckon_5 : decode cX1_reckon 5 = .ok (.aload_n 0, 1) := by decide +kernel
theorem dX1_reckon_6 : decode cX1_reckon 6 = .ok (.iload_n 1, 1) := by decide +kernel
theorem dX1_reckon_7 : decode cX1_reckon 7 = .ok (.bipush 8, 2) := by decide +kernel
theorem dX1_reckon_9 : decode cX1_reckon 9 = .ok (.invokevirtual 24, 3) := by decide +kernel
theorem dX1_reckon_12 : decode cX1_reckon 12 = .ok (.ifCond .ne 34, 3) := by decide +kernel
theorem dX1_reckon_15 : decode cX1_reckon 15 = .ok (.aload_n 0, 1) := by decide +kernel
theorem dX1_reckon_16 : decode cX1_reckon 16 = .ok (.iload_n 2, 1) := by decide +kernel
theorem dX1_reckon_17 : decode cX1_reckon 17 = .ok (.bipush 6, 2) := by decide +kernel
theorem dX1_reckon_19 : decode cX1_reckon 19 = .ok (.invokevirtual 24, 3) := by decide +kernel
theorem dX1_reckon_22 : decode cX1_reckon 22 = .ok (.ifCond .ne 24, 3) := by decide +kernel
theorem dX1_reckon_25 : decode cX1_reckon 25 = .ok (.aload_n 0, 1) := by decide +kernel
theorem dX1_reckon_26 : decode cX1_reckon 26 = .ok (.iload_n 3, 1) := by decide +kernel
theorem dX1_reckon_27 : decode cX1_reckon 27 = .ok (.bipush 8, 2) := by decide +kernel
theorem dX1_reckon_29 : decode cX1_reckon 29 = .ok (.invokevirtual 24, 3) := by decide +kernel
theorem dX1_reckon_32 : decode cX1_reckon 32 = .ok (.ifCond .ne 14, 3) := by decide +kernel
theorem dX1_reckon_35 : decode cX1_reckon 35 = .ok (.aload_n 0, 1) := by decide +kernel
theorem dX1_reckon_36 : decode cX1_reckon 36 = .ok (.iload 4, 2) := by decide +kernel
theorem dX1_reckon_38 : decode cX1_reckon 38 = .ok (.bipush 8, 2) := by decide +kernel
theorem dX1_reckon_40 : decode cX1_reckon 40 = .ok (.invokevirtual 24, 3) := by decide +kernel
theorem dX1_reckon_43 : decode cX1_reckon 43 = .ok (.ifCond .eq 11, 3) := by decide +kernel
theorem dX1_reckon_46 : decode cX1_reckon 46 = .ok (.aload_n 0, 1) := by decide +kernel
theorem dX1_reckon_47 : decode cX1_reckon 47 = .ok (.iconst 1, 1) := by decide +kernel
theorem dX1_reckon_48 : decode cX1_reckon 48 = .ok (.putfield 20, 3) := by decide +kernel
theorem dX1_reckon_51 : decode cX1_reckon 51 = .ok (.goto 96, 3) := by decide +kernel
theorem dX1_reckon_54 : decode cX1_reckon 54 = .ok (.iconst 0, 1) := by decide +kernel
theorem dX1_reckon_55 : decode cX1_reckon 55 = .ok (.istore 5, 2) := by decide +kernel
theorem dX1_reckon_57 : decode cX1_reckon 57 = .ok (.iload 5, 2) := by decide +kernel
theorem dX1_reckon_59 : decode cX1_reckon 59 = .ok (.sipush 1024, 3) := by decide +kernel
theorem dX1_reckon_62 : decode cX1_reckon 62 = .ok (.if_icmp .ge 48, 3) := by decide +kernel
theorem dX1_reckon_65 : decode cX1_reckon 65 = .ok (.aload_n 0, 1) := by decide +kernel
theorem dX1_reckon_66 : decode cX1_reckon 66 = .ok (.getfield 17, 3) := by decide +kernel
theorem dX1_reckon_69 : decode cX1_reckon 69 = .ok (.iload 5, 2) := by decide +kernel
theorem dX1_reckon_71 : decode cX1_reckon 71 = .ok (.aload_n 0, 1) := by decide +kernel
theorem dX1_reckon_72 : decode cX1_reckon 72 = .ok (.iload_n 2, 1) := by decide +kernel
theorem dX1_reckon_73 : decode cX1_reckon 73 = .ok (.aload_n 0, 1) := by decide +kernel
theorem dX1_reckon_74 : decode cX1_reckon 74 = .ok (.getfield 7, 3) := by decide +kernel
theorem dX1_reckon_77 : decode cX1_reckon 77 = .ok (.sipush 1024, 3) := by decide +kernel
theorem dX1_reckon_80 : decode cX1_reckon 80 = .ok (.iload_n 3, 1) := by decide +kernel
theorem dX1_reckon_81 : decode cX1_reckon 81 = .ok (.imul, 1) := by decide +kernel
theorem dX1_reckon_82 : decode cX1_reckon 82 = .ok (.iload 5, 2) := by decide +kernel
theorem dX1_reckon_84 : decode cX1_reckon 84 = .ok (.iadd, 1) := by decide +kernel
theorem dX1_reckon_85 : decode cX1_reckon 85 = .ok (.iaload, 1) := by decide +kernel
theorem dX1_reckon_86 : decode cX1_reckon 86 = .ok (.aload_n 0, 1) := by decide +kernel
theorem dX1_reckon_87 : decode cX1_reckon 87 = .ok (.getfield 7, 3) := by decide +kernel
theorem dX1_reckon_90 : decode cX1_reckon 90 = .ok (.sipush 1024, 3) := by decide +kernel
theorem dX1_reckon_93 : decode cX1_reckon 93 = .ok (.iload 4, 2) := by decide +kernel
theorem dX1_reckon_95 : decode cX1_reckon 95 = .ok (.imul, 1) := by decide +kernel
theorem dX1_reckon_96 : decode cX1_reckon 96 = .ok (.iload 5, 2) := by decide +kernel
theorem dX1_reckon_98 : decode cX1_reckon 98 = .ok (.iadd, 1) := by decide +kernel
theorem dX1_reckon_99 : decode cX1_reckon 99 = .ok (.iaload, 1) := by decide +kernel
theorem dX1_reckon_100 : decode cX1_reckon 100 = .ok (.invokevirtual 28, 3) := by decide +kernel
theorem dX1_reckon_103 : decode cX1_reckon 103 = .ok (.iastore, 1) := by decide +kernel
theorem dX1_reckon_104 : decode cX1_reckon 104 = .ok (.iinc 5 1, 3) := by decide +kernel
theorem dX1_reckon_107 : decode cX1_reckon 107 = .ok (.goto (-50), 3) := by decide +kernel
theorem dX1_reckon_110 : decode cX1_reckon 110 = .ok (.iconst 0, 1) := by decide +kernel
theorem dX1_reckon_111 : decode cX1_reckon 111 = .ok (.istore 5, 2) := by decide +kernel
theorem dX1_reckon_113 : decode cX1_reckon 113 = .ok (.iload 5, 2) := by decide +kernel
theorem dX1_reckon_115 : decode cX1_reckon 115 = .ok (.sipush 1024, 3) := by decide +kernel
theorem dX1_reckon_118 : decode cX1_reckon 118 = .ok (.if_icmp .ge 29, 3) := by decide +kernel
theorem dX1_reckon_121 : decode cX1_reckon 121 = .ok (.aload_n 0, 1) := by decide +kernel
theorem dX1_reckon_122 : decode cX1_reckon 122 = .ok (.getfield 7, 3) := by decide +kernel
theorem dX1_reckon_125 : decode cX1_reckon 125 = .ok (.sipush 1024, 3) := by decide +kernel
theorem dX1_reckon_128 : decode cX1_reckon 128 = .ok (.iload_n 1, 1) := by decide +kernel
theorem dX1_reckon_129 : decode cX1_reckon 129 = .ok (.imul, 1) := by decide +kernel
theorem dX1_reckon_130 : decode cX1_reckon 130 = .ok (.iload 5, 2) := by decide +kernel
theorem dX1_reckon_132 : decode cX1_reckon 132 = .ok (.iadd, 1) := by decide +kernel
theorem dX1_reckon_133 : decode cX1_reckon 133 = .ok (.aload_n 0, 1) := by decide +kernel
theorem dX1_reckon_134 : decode cX1_reckon 134 = .ok (.getfield 17, 3) := by decide +kernel
theorem dX1_reckon_137 : decode cX1_reckon 137 = .ok (.iload 5, 2) := by decide +kernel
theorem dX1_reckon_139 : decode cX1_reckon 139 = .ok (.iaload, 1) := by decide +kernel
theorem dX1_reckon_140 : decode cX1_reckon 140 = .ok (.iastore, 1) := by decide +kernel
theorem dX1_reckon_141 : decode cX1_reckon 141 = .ok (.iinc 5 1, 3) := by decide +kernel
theorem dX1_reckon_144 : decode cX1_reckon 144 = .ok (.goto (-31), 3) := by decide +kernel
theorem dX1_reckon_147 : decode cX1_reckon 147 = .ok (.return_, 1) := by decide +kernel
set_option maxRecDepth 20000 in
theorem gX1_compare_X1_out : GoodIn wsX1_compare (wsV RX1 24 RX1 yX1_out wsX1_out) := goodIn_sub (by decide +kernel) (by decide +kernel)
set_option maxRecDepth 20000 in
theorem gX1_compare_X1_fail : GoodIn wsX1_compare (wsV RX1 32 RX1 yX1_fail wsX1_fail) := goodIn_sub (by decide +kernel) (by decide +kernel)
set_option maxRecDepth 20000 in
theorem gX1_compare_X1_yes : GoodIn wsX1_compare (wsV RX1 36 RX1 yX1_yes wsX1_yes) := goodIn_sub (by decide +kernel) (by decide +kernel)
theorem inX1_compare : ∀ w ∈ wsX10, w ∈ wsX1_compare := by decide +kernel
theorem dX1_compare_0 : decode cX1_compare 0 = .ok (.aload_n 0, 1) := by decide +kernel
theorem dX1_compare_1 : decode cX1_compare 1 = .ok (.iconst 0, 1) := by decide +kernel
theorem dX1_compare_2 : decode cX1_compare 2 = .ok (.putfield 20, 3) := by decide +kernel
theorem dX1_compare_5 : decode cX1_compare 5 = .ok (.aload_n 0, 1) := by decide +kernel
theorem dX1_compare_6 : decode cX1_compare 6 = .ok (.iload_n 1, 1) := by decide +kernel
theorem dX1_compare_7 : decode cX1_compare 7 = .ok (.bipush 8, 2) := by decide +kernel
theorem dX1_compare_9 : decode cX1_compare 9 = .ok (.invokevirtual 24, 3) := by decide +kernel
theorem dX1_compare_12 : decode cX1_compare 12 = .ok (.ifCond .ne 33, 3) := by decide +kernel
theorem dX1_compare_15 : decode cX1_compare 15 = .ok (.aload_n 0, 1) := by decide +kernel
theorem dX1_compare_16 : decode cX1_compare 16 = .ok (.iload_n 2, 1) := by decide +kernel
theorem dX1_compare_17 : decode cX1_compare 17 = .ok (.iconst 4, 1) := by decide +kernel
theorem dX1_compare_18 : decode cX1_compare 18 = .ok (.invokevirtual 24, 3) := by decide +kernel
theorem dX1_compare_21 : decode cX1_compare 21 = .ok (.ifCond .ne 24, 3) := by decide +kernel
theorem dX1_compare_24 : decode cX1_compare 24 = .ok (.aload_n 0, 1) := by decide +kernel
theorem dX1_compare_25 : decode cX1_compare 25 = .ok (.iload_n 3, 1) := by decide +kernel
theorem dX1_compare_26 : decode cX1_compare 26 = .ok (.bipush 8, 2) := by decide +kernel
theorem dX1_compare_28 : decode cX1_compare 28 = .ok (.invokevirtual 24, 3) := by decide +kernel
theorem dX1_compare_31 : decode cX1_compare 31 = .ok (.ifCond .ne 14, 3) := by decide +kernel
theorem dX1_compare_34 : decode cX1_compare 34 = .ok (.aload_n 0, 1) := by decide +kernel
theorem dX1_compare_35 : decode cX1_compare 35 = .ok (.iload 4, 2) := by decide +kernel
theorem dX1_compare_37 : decode cX1_compare 37 = .ok (.bipush 8, 2) := by decide +kernel
theorem dX1_compare_39 : decode cX1_compare 39 = .ok (.invokevirtual 24, 3) := by decide +kernel
theorem dX1_compare_42 : decode cX1_compare 42 = .ok (.ifCond .eq 9, 3) := by decide +kernel
theorem dX1_compare_45 : decode cX1_compare 45 = .ok (.aload_n 0, 1) := by decide +kernel
theorem dX1_compare_46 : decode cX1_compare 46 = .ok (.iconst 1, 1) := by decide +kernel
theorem dX1_compare_47 : decode cX1_compare 47 = .ok (.invokevirtual 32, 3) := by decide +kernel
theorem dX1_compare_50 : decode cX1_compare 50 = .ok (.ireturn, 1) := by decide +kernel
theorem dX1_compare_51 : decode cX1_compare 51 = .ok (.iconst 0, 1) := by decide +kernel
theorem dX1_compare_52 : decode cX1_compare 52 = .ok (.istore 5, 2) := by decide +kernel
theorem dX1_compare_54 : decode cX1_compare 54 = .ok (.iload 5, 2) := by decide +kernel
theorem dX1_compare_56 : decode cX1_compare 56 = .ok (.sipush 1024, 3) := by decide +kernel
theorem dX1_compare_59 : decode cX1_compare 59 = .ok (.if_icmp .ge 124, 3) := by decide +kernel
theorem dX1_compare_62 : decode cX1_compare 62 = .ok (.aload_n 0, 1) := by decide +kernel
theorem dX1_compare_63 : decode cX1_compare 63 = .ok (.getfield 7, 3) := by decide +kernel
theorem dX1_compare_66 : decode cX1_compare 66 = .ok (.sipush 1024, 3) := by decide +kernel
theorem dX1_compare_69 : decode cX1_compare 69 = .ok (.iload_n 3, 1) := by decide +kernel
theorem dX1_compare_70 : decode cX1_compare 70 = .ok (.imul, 1) := by decide +kernel
theorem dX1_compare_71 : decode cX1_compare 71 = .ok (.iload 5, 2) := by decide +kernel
theorem dX1_compare_73 : decode cX1_compare 73 = .ok (.iadd, 1) := by decide +kernel
theorem dX1_compare_74 : decode cX1_compare 74 = .ok (.iaload, 1) := by decide +kernel
theorem dX1_compare_75 : decode cX1_compare 75 = .ok (.istore 6, 2) := by decide +kernel
theorem dX1_compare_77 : decode cX1_compare 77 = .ok (.aload_n 0, 1) := by decide +kernel
theorem dX1_compare_78 : decode cX1_compare 78 = .ok (.getfield 7, 3) := by decide +kernel
theorem dX1_compare_81 : decode cX1_compare 81 = .ok (.sipush 1024, 3) := by decide +kernel
theorem dX1_compare_84 : decode cX1_compare 84 = .ok (.iload 4, 2) := by decide +kernel
theorem dX1_compare_86 : decode cX1_compare 86 = .ok (.imul, 1) := by decide +kernel
theorem dX1_compare_87 : decode cX1_compare 87 = .ok (.iload 5, 2) := by decide +kernel
theorem dX1_compare_89 : decode cX1_compare 89 = .ok (.iadd, 1) := by decide +kernel
theorem dX1_compare_90 : decode cX1_compare 90 = .ok (.iaload, 1) := by decide +kernel
theorem dX1_compare_91 : decode cX1_compare 91 = .ok (.istore 7, 2) := by decide +kernel
theorem dX1_compare_93 : decode cX1_compare 93 = .ok (.aload_n 0, 1) := by decide +kernel
theorem dX1_compare_94 : decode cX1_compare 94 = .ok (.getfield 13, 3) := by decide +kernel
theorem dX1_compare_97 : decode cX1_compare 97 = .ok (.sipush 1024, 3) := by decide +kernel
theorem dX1_compare_100 : decode cX1_compare 100 = .ok (.iload_n 1, 1) := by decide +kernel
theorem dX1_compare_101 : decode cX1_compare 101 = .ok (.imul, 1) := by decide +kernel
theorem dX1_compare_102 : decode cX1_compare 102 = .ok (.iload 5, 2) := by decide +kernel
theorem dX1_compare_104 : decode cX1_compare 104 = .ok (.iadd, 1) := by decide +kernel
theorem dX1_compare_105 : decode cX1_compare 105 = .ok (.iload_n 2, 1) := by decide +kernel
theorem dX1_compare_106 : decode cX1_compare 106 = .ok (.ifCond .ne 18, 3) := by decide +kernel
theorem dX1_compare_109 : decode cX1_compare 109 = .ok (.iload 6, 2) := by decide +kernel
theorem dX1_compare_111 : decode cX1_compare 111 = .ok (.iload 7, 2) := by decide +kernel
theorem dX1_compare_113 : decode cX1_compare 113 = .ok (.if_icmp .ne 7, 3) := by decide +kernel
theorem dX1_compare_116 : decode cX1_compare 116 = .ok (.iconst 1, 1) := by decide +kernel
theorem dX1_compare_117 : decode cX1_compare 117 = .ok (.goto 59, 3) := by decide +kernel
theorem dX1_compare_120 : decode cX1_compare 120 = .ok (.iconst 0, 1) := by decide +kernel
theorem dX1_compare_121 : decode cX1_compare 121 = .ok (.goto 55, 3) := by decide +kernel
theorem dX1_compare_124 : decode cX1_compare 124 = .ok (.iload_n 2, 1) := by decide +kernel
theorem dX1_compare_125 : decode cX1_compare 125 = .ok (.iconst 1, 1) := by decide +kernel
theorem dX1_compare_126 : decode cX1_compare 126 = .ok (.if_icmp .ne 18, 3) := by decide +kernel
theorem dX1_compare_129 : decode cX1_compare 129 = .ok (.iload 6, 2) := by decide +kernel
theorem dX1_compare_131 : decode cX1_compare 131 = .ok (.iload 7, 2) := by decide +kernel
theorem dX1_compare_133 : decode cX1_compare 133 = .ok (.if_icmp .eq 7, 3) := by decide +kernel
theorem dX1_compare_136 : decode cX1_compare 136 = .ok (.iconst 1, 1) := by decide +kernel
theorem dX1_compare_137 : decode cX1_compare 137 = .ok (.goto 39, 3) := by decide +kernel
theorem dX1_compare_140 : decode cX1_compare 140 = .ok (.iconst 0, 1) := by decide +kernel
theorem dX1_compare_141 : decode cX1_compare 141 = .ok (.goto 35, 3) := by decide +kernel
theorem dX1_compare_144 : decode cX1_compare 144 = .ok (.iload_n 2, 1) := by decide +kernel
theorem dX1_compare_145 : decode cX1_compare 145 = .ok (.iconst 2, 1) := by decide +kernel
theorem dX1_compare_146 : decode cX1_compare 146 = .ok (.if_icmp .ne 18, 3) := by decide +kernel
theorem dX1_compare_149 : decode cX1_compare 149 = .ok (.iload 6, 2) := by decide +kernel
theorem dX1_compare_151 : decode cX1_compare 151 = .ok (.iload 7, 2) := by decide +kernel
theorem dX1_compare_153 : decode cX1_compare 153 = .ok (.if_icmp .ge 7, 3) := by decide +kernel
theorem dX1_compare_156 : decode cX1_compare 156 = .ok (.iconst 1, 1) := by decide +kernel
theorem dX1_compare_157 : decode cX1_compare 157 = .ok (.goto 19, 3) := by decide +kernel
theorem dX1_compare_160 : decode cX1_compare 160 = .ok (.iconst 0, 1) := by decide +kernel
theorem dX1_compare_161 : decode cX1_compare 161 = .ok (.goto 15, 3) := by decide +kernel
theorem dX1_compare_164 : decode cX1_compare 164 = .ok (.iload 6, 2) := by decide +kernel
theorem dX1_compare_166 : decode cX1_compare 166 = .ok (.iload 7, 2) := by decide +kernel
theorem dX1_compare_168 : decode cX1_compare 168 = .ok (.if_icmp .gt 7, 3) := by decide +kernel
theorem dX1_compare_171 : decode cX1_compare 171 = .ok (.iconst 1, 1) := by decide +kernel
theorem dX1_compare_172 : decode cX1_compare 172 = .ok (.goto 4, 3) := by decide +kernel
theorem dX1_compare_175 : decode cX1_compare 175 = .ok (.iconst 0, 1) := by decide +kernel
theorem dX1_compare_176 : decode cX1_compare 176 = .ok (.bastore, 1) := by decide +kernel
theorem dX1_compare_177 : decode cX1_compare 177 = .ok (.iinc 5 1, 3) := by decide +kernel
theorem dX1_compare_180 : decode cX1_compare 180 = .ok (.goto (-126), 3) := by decide +kernel
theorem dX1_compare_183 : decode cX1_compare 183 = .ok (.aload_n 0, 1) := by decide +kernel
theorem dX1_compare_184 : decode cX1_compare 184 = .ok (.iload_n 1, 1) := by decide +kernel
theorem dX1_compare_185 : decode cX1_compare 185 = .ok (.invokevirtual 36, 3) := by decide +kernel
theorem dX1_compare_188 : decode cX1_compare 188 = .ok (.ireturn, 1) := by decide +kernel
set_option maxRecDepth 20000 in
theorem gX1_choose_X1_out : GoodIn wsX1_choose (wsV RX1 24 RX1 yX1_out wsX1_out) := goodIn_sub (by decide +kernel) (by decide +kernel)
theorem inX1_choose : ∀ w ∈ wsX10, w ∈ wsX1_choose := by decide +kernel
theorem dX1_choose_0 : decode cX1_choose 0 = .ok (.aload_n 0, 1) := by decide +kernel
theorem dX1_choose_1 : decode cX1_choose 1 = .ok (.iconst 0, 1) := by decide +kernel
theorem dX1_choose_2 : decode cX1_choose 2 = .ok (.putfield 20, 3) := by decide +kernel
theorem dX1_choose_5 : decode cX1_choose 5 = .ok (.aload_n 0, 1) := by decide +kernel
theorem dX1_choose_6 : decode cX1_choose 6 = .ok (.iload_n 1, 1) := by decide +kernel
theorem dX1_choose_7 : decode cX1_choose 7 = .ok (.bipush 8, 2) := by decide +kernel
theorem dX1_choose_9 : decode cX1_choose 9 = .ok (.invokevirtual 24, 3) := by decide +kernel
theorem dX1_choose_12 : decode cX1_choose 12 = .ok (.ifCond .ne 34, 3) := by decide +kernel
theorem dX1_choose_15 : decode cX1_choose 15 = .ok (.aload_n 0, 1) := by decide +kernel
theorem dX1_choose_16 : decode cX1_choose 16 = .ok (.iload_n 2, 1) := by decide +kernel
theorem dX1_choose_17 : decode cX1_choose 17 = .ok (.bipush 8, 2) := by decide +kernel
theorem dX1_choose_19 : decode cX1_choose 19 = .ok (.invokevirtual 24, 3) := by decide +kernel
theorem dX1_choose_22 : decode cX1_choose 22 = .ok (.ifCond .ne 24, 3) := by decide +kernel
theorem dX1_choose_25 : decode cX1_choose 25 = .ok (.aload_n 0, 1) := by decide +kernel
theorem dX1_choose_26 : decode cX1_choose 26 = .ok (.iload_n 3, 1) := by decide +kernel
theorem dX1_choose_27 : decode cX1_choose 27 = .ok (.bipush 8, 2) := by decide +kernel
theorem dX1_choose_29 : decode cX1_choose 29 = .ok (.invokevirtual 24, 3) := by decide +kernel
theorem dX1_choose_32 : decode cX1_choose 32 = .ok (.ifCond .ne 14, 3) := by decide +kernel
theorem dX1_choose_35 : decode cX1_choose 35 = .ok (.aload_n 0, 1) := by decide +kernel
theorem dX1_choose_36 : decode cX1_choose 36 = .ok (.iload 4, 2) := by decide +kernel
theorem dX1_choose_38 : decode cX1_choose 38 = .ok (.bipush 8, 2) := by decide +kernel
theorem dX1_choose_40 : decode cX1_choose 40 = .ok (.invokevirtual 24, 3) := by decide +kernel
theorem dX1_choose_43 : decode cX1_choose 43 = .ok (.ifCond .eq 11, 3) := by decide +kernel
theorem dX1_choose_46 : decode cX1_choose 46 = .ok (.aload_n 0, 1) := by decide +kernel
theorem dX1_choose_47 : decode cX1_choose 47 = .ok (.iconst 1, 1) := by decide +kernel
theorem dX1_choose_48 : decode cX1_choose 48 = .ok (.putfield 20, 3) := by decide +kernel
theorem dX1_choose_51 : decode cX1_choose 51 = .ok (.goto 98, 3) := by decide +kernel
theorem dX1_choose_54 : decode cX1_choose 54 = .ok (.iconst 0, 1) := by decide +kernel
theorem dX1_choose_55 : decode cX1_choose 55 = .ok (.istore 5, 2) := by decide +kernel
theorem dX1_choose_57 : decode cX1_choose 57 = .ok (.iload 5, 2) := by decide +kernel
theorem dX1_choose_59 : decode cX1_choose 59 = .ok (.sipush 1024, 3) := by decide +kernel
theorem dX1_choose_62 : decode cX1_choose 62 = .ok (.if_icmp .ge 50, 3) := by decide +kernel
theorem dX1_choose_65 : decode cX1_choose 65 = .ok (.aload_n 0, 1) := by decide +kernel
theorem dX1_choose_66 : decode cX1_choose 66 = .ok (.getfield 17, 3) := by decide +kernel
theorem dX1_choose_69 : decode cX1_choose 69 = .ok (.iload 5, 2) := by decide +kernel
theorem dX1_choose_71 : decode cX1_choose 71 = .ok (.aload_n 0, 1) := by decide +kernel
theorem dX1_choose_72 : decode cX1_choose 72 = .ok (.getfield 7, 3) := by decide +kernel
theorem dX1_choose_75 : decode cX1_choose 75 = .ok (.sipush 1024, 3) := by decide +kernel
theorem dX1_choose_78 : decode cX1_choose 78 = .ok (.aload_n 0, 1) := by decide +kernel
theorem dX1_choose_79 : decode cX1_choose 79 = .ok (.getfield 13, 3) := by decide +kernel
theorem dX1_choose_82 : decode cX1_choose 82 = .ok (.sipush 1024, 3) := by decide +kernel
theorem dX1_choose_85 : decode cX1_choose 85 = .ok (.iload_n 2, 1) := by decide +kernel
theorem dX1_choose_86 : decode cX1_choose 86 = .ok (.imul, 1) := by decide +kernel
theorem dX1_choose_87 : decode cX1_choose 87 = .ok (.iload 5, 2) := by decide +kernel
theorem dX1_choose_89 : decode cX1_choose 89 = .ok (.iadd, 1) := by decide +kernel
theorem dX1_choose_90 : decode cX1_choose 90 = .ok (.baload, 1) := by decide +kernel
theorem dX1_choose_91 : decode cX1_choose 91 = .ok (.ifCond .eq 7, 3) := by decide +kernel
theorem dX1_choose_94 : decode cX1_choose 94 = .ok (.iload_n 3, 1) := by decide +kernel
theorem dX1_choose_95 : decode cX1_choose 95 = .ok (.goto 5, 3) := by decide +kernel
theorem dX1_choose_98 : decode cX1_choose 98 = .ok (.iload 4, 2) := by decide +kernel
theorem dX1_choose_100 : decode cX1_choose 100 = .ok (.imul, 1) := by decide +kernel
theorem dX1_choose_101 : decode cX1_choose 101 = .ok (.iload 5, 2) := by decide +kernel
theorem dX1_choose_103 : decode cX1_choose 103 = .ok (.iadd, 1) := by decide +kernel
theorem dX1_choose_104 : decode cX1_choose 104 = .ok (.iaload, 1) := by decide +kernel
theorem dX1_choose_105 : decode cX1_choose 105 = .ok (.iastore, 1) := by decide +kernel
theorem dX1_choose_106 : decode cX1_choose 106 = .ok (.iinc 5 1, 3) := by decide +kernel
theorem dX1_choose_109 : decode cX1_choose 109 = .ok (.goto (-52), 3) := by decide +kernel
theorem dX1_choose_112 : decode cX1_choose 112 = .ok (.iconst 0, 1) := by decide +kernel
theorem dX1_choose_113 : decode cX1_choose 113 = .ok (.istore 5, 2) := by decide +kernel
theorem dX1_choose_115 : decode cX1_choose 115 = .ok (.iload 5, 2) := by decide +kernel
theorem dX1_choose_117 : decode cX1_choose 117 = .ok (.sipush 1024, 3) := by decide +kernel
theorem dX1_choose_120 : decode cX1_choose 120 = .ok (.if_icmp .ge 29, 3) := by decide +kernel
theorem dX1_choose_123 : decode cX1_choose 123 = .ok (.aload_n 0, 1) := by decide +kernel
theorem dX1_choose_124 : decode cX1_choose 124 = .ok (.getfield 7, 3) := by decide +kernel
theorem dX1_choose_127 : decode cX1_choose 127 = .ok (.sipush 1024, 3) := by decide +kernel
theorem dX1_choose_130 : decode cX1_choose 130 = .ok (.iload_n 1, 1) := by decide +kernel
theorem dX1_choose_131 : decode cX1_choose 131 = .ok (.imul, 1) := by decide +kernel
theorem dX1_choose_132 : decode cX1_choose 132 = .ok (.iload 5, 2) := by decide +kernel
theorem dX1_choose_134 : decode cX1_choose 134 = .ok (.iadd, 1) := by decide +kernel
theorem dX1_choose_135 : decode cX1_choose 135 = .ok (.aload_n 0, 1) := by decide +kernel
theorem dX1_choose_136 : decode cX1_choose 136 = .ok (.getfield 17, 3) := by decide +kernel
theorem dX1_choose_139 : decode cX1_choose 139 = .ok (.iload 5, 2) := by decide +kernel
theorem dX1_choose_141 : decode cX1_choose 141 = .ok (.iaload, 1) := by decide +kernel
theorem dX1_choose_142 : decode cX1_choose 142 = .ok (.iastore, 1) := by decide +kernel
theorem dX1_choose_143 : decode cX1_choose 143 = .ok (.iinc 5 1, 3) := by decide +kernel
theorem dX1_choose_146 : decode cX1_choose 146 = .ok (.goto (-31), 3) := by decide +kernel
theorem dX1_choose_149 : decode cX1_choose 149 = .ok (.return_, 1) := by decide +kernel
set_option maxRecDepth 20000 in
theorem gX1_join_X1_out : GoodIn wsX1_join (wsV RX1 24 RX1 yX1_out wsX1_out) := goodIn_sub (by decide +kernel) (by decide +kernel)
set_option maxRecDepth 20000 in
theorem gX1_join_X1_fail : GoodIn wsX1_join (wsV RX1 32 RX1 yX1_fail wsX1_fail) := goodIn_sub (by decide +kernel) (by decide +kernel)
set_option maxRecDepth 20000 in
theorem gX1_join_X1_yes : GoodIn wsX1_join (wsV RX1 36 RX1 yX1_yes wsX1_yes) := goodIn_sub (by decide +kernel) (by decide +kernel)
theorem inX1_join : ∀ w ∈ wsX10, w ∈ wsX1_join := by decide +kernel
theorem dX1_join_0 : decode cX1_join 0 = .ok (.aload_n 0, 1) := by decide +kernel
theorem dX1_join_1 : decode cX1_join 1 = .ok (.iconst 0, 1) := by decide +kernel
theorem dX1_join_2 : decode cX1_join 2 = .ok (.putfield 20, 3) := by decide +kernel
theorem dX1_join_5 : decode cX1_join 5 = .ok (.aload_n 0, 1) := by decide +kernel
theorem dX1_join_6 : decode cX1_join 6 = .ok (.iload_n 1, 1) := by decide +kernel
theorem dX1_join_7 : decode cX1_join 7 = .ok (.bipush 8, 2) := by decide +kernel
theorem dX1_join_9 : decode cX1_join 9 = .ok (.invokevirtual 24, 3) := by decide +kernel
theorem dX1_join_12 : decode cX1_join 12 = .ok (.ifCond .ne 33, 3) := by decide +kernel
theorem dX1_join_15 : decode cX1_join 15 = .ok (.aload_n 0, 1) := by decide +kernel
theorem dX1_join_16 : decode cX1_join 16 = .ok (.iload_n 2, 1) := by decide +kernel
theorem dX1_join_17 : decode cX1_join 17 = .ok (.iconst 4, 1) := by decide +kernel
theorem dX1_join_18 : decode cX1_join 18 = .ok (.invokevirtual 24, 3) := by decide +kernel
theorem dX1_join_21 : decode cX1_join 21 = .ok (.ifCond .ne 24, 3) := by decide +kernel
theorem dX1_join_24 : decode cX1_join 24 = .ok (.aload_n 0, 1) := by decide +kernel
theorem dX1_join_25 : decode cX1_join 25 = .ok (.iload_n 3, 1) := by decide +kernel
theorem dX1_join_26 : decode cX1_join 26 = .ok (.bipush 8, 2) := by decide +kernel
theorem dX1_join_28 : decode cX1_join 28 = .ok (.invokevirtual 24, 3) := by decide +kernel
theorem dX1_join_31 : decode cX1_join 31 = .ok (.ifCond .ne 14, 3) := by decide +kernel
theorem dX1_join_34 : decode cX1_join 34 = .ok (.aload_n 0, 1) := by decide +kernel
theorem dX1_join_35 : decode cX1_join 35 = .ok (.iload 4, 2) := by decide +kernel
theorem dX1_join_37 : decode cX1_join 37 = .ok (.bipush 8, 2) := by decide +kernel
theorem dX1_join_39 : decode cX1_join 39 = .ok (.invokevirtual 24, 3) := by decide +kernel
theorem dX1_join_42 : decode cX1_join 42 = .ok (.ifCond .eq 9, 3) := by decide +kernel
theorem dX1_join_45 : decode cX1_join 45 = .ok (.aload_n 0, 1) := by decide +kernel
theorem dX1_join_46 : decode cX1_join 46 = .ok (.iconst 1, 1) := by decide +kernel
theorem dX1_join_47 : decode cX1_join 47 = .ok (.invokevirtual 32, 3) := by decide +kernel
theorem dX1_join_50 : decode cX1_join 50 = .ok (.ireturn, 1) := by decide +kernel
theorem dX1_join_51 : decode cX1_join 51 = .ok (.iconst 0, 1) := by decide +kernel
theorem dX1_join_52 : decode cX1_join 52 = .ok (.istore 5, 2) := by decide +kernel
theorem dX1_join_54 : decode cX1_join 54 = .ok (.iload 5, 2) := by decide +kernel
theorem dX1_join_56 : decode cX1_join 56 = .ok (.sipush 1024, 3) := by decide +kernel
theorem dX1_join_59 : decode cX1_join 59 = .ok (.if_icmp .ge 107, 3) := by decide +kernel
theorem dX1_join_62 : decode cX1_join 62 = .ok (.aload_n 0, 1) := by decide +kernel
theorem dX1_join_63 : decode cX1_join 63 = .ok (.getfield 13, 3) := by decide +kernel
theorem dX1_join_66 : decode cX1_join 66 = .ok (.sipush 1024, 3) := by decide +kernel
theorem dX1_join_69 : decode cX1_join 69 = .ok (.iload_n 3, 1) := by decide +kernel
theorem dX1_join_70 : decode cX1_join 70 = .ok (.imul, 1) := by decide +kernel
theorem dX1_join_71 : decode cX1_join 71 = .ok (.iload 5, 2) := by decide +kernel
theorem dX1_join_73 : decode cX1_join 73 = .ok (.iadd, 1) := by decide +kernel
theorem dX1_join_74 : decode cX1_join 74 = .ok (.baload, 1) := by decide +kernel
theorem dX1_join_75 : decode cX1_join 75 = .ok (.istore 6, 2) := by decide +kernel
theorem dX1_join_77 : decode cX1_join 77 = .ok (.aload_n 0, 1) := by decide +kernel
theorem dX1_join_78 : decode cX1_join 78 = .ok (.getfield 13, 3) := by decide +kernel
theorem dX1_join_81 : decode cX1_join 81 = .ok (.sipush 1024, 3) := by decide +kernel
theorem dX1_join_84 : decode cX1_join 84 = .ok (.iload 4, 2) := by decide +kernel
theorem dX1_join_86 : decode cX1_join 86 = .ok (.imul, 1) := by decide +kernel
theorem dX1_join_87 : decode cX1_join 87 = .ok (.iload 5, 2) := by decide +kernel
theorem dX1_join_89 : decode cX1_join 89 = .ok (.iadd, 1) := by decide +kernel
theorem dX1_join_90 : decode cX1_join 90 = .ok (.baload, 1) := by decide +kernel
theorem dX1_join_91 : decode cX1_join 91 = .ok (.istore 7, 2) := by decide +kernel
theorem dX1_join_93 : decode cX1_join 93 = .ok (.aload_n 0, 1) := by decide +kernel
theorem dX1_join_94 : decode cX1_join 94 = .ok (.getfield 17, 3) := by decide +kernel
theorem dX1_join_97 : decode cX1_join 97 = .ok (.iload 5, 2) := by decide +kernel
theorem dX1_join_99 : decode cX1_join 99 = .ok (.iload_n 2, 1) := by decide +kernel
theorem dX1_join_100 : decode cX1_join 100 = .ok (.ifCond .ne 16, 3) := by decide +kernel
theorem dX1_join_103 : decode cX1_join 103 = .ok (.iload 6, 2) := by decide +kernel
theorem dX1_join_105 : decode cX1_join 105 = .ok (.ifCond .eq 53, 3) := by decide +kernel
theorem dX1_join_108 : decode cX1_join 108 = .ok (.iload 7, 2) := by decide +kernel
theorem dX1_join_110 : decode cX1_join 110 = .ok (.ifCond .eq 48, 3) := by decide +kernel
theorem dX1_join_113 : decode cX1_join 113 = .ok (.goto 41, 3) := by decide +kernel
theorem dX1_join_116 : decode cX1_join 116 = .ok (.iload_n 2, 1) := by decide +kernel
theorem dX1_join_117 : decode cX1_join 117 = .ok (.iconst 1, 1) := by decide +kernel
theorem dX1_join_118 : decode cX1_join 118 = .ok (.if_icmp .ne 16, 3) := by decide +kernel
theorem dX1_join_121 : decode cX1_join 121 = .ok (.iload 6, 2) := by decide +kernel
theorem dX1_join_123 : decode cX1_join 123 = .ok (.ifCond .ne 31, 3) := by decide +kernel
theorem dX1_join_126 : decode cX1_join 126 = .ok (.iload 7, 2) := by decide +kernel
theorem dX1_join_128 : decode cX1_join 128 = .ok (.ifCond .eq 30, 3) := by decide +kernel
theorem dX1_join_131 : decode cX1_join 131 = .ok (.goto 23, 3) := by decide +kernel
theorem dX1_join_134 : decode cX1_join 134 = .ok (.iload_n 2, 1) := by decide +kernel
theorem dX1_join_135 : decode cX1_join 135 = .ok (.iconst 2, 1) := by decide +kernel
theorem dX1_join_136 : decode cX1_join 136 = .ok (.if_icmp .ne 13, 3) := by decide +kernel
theorem dX1_join_139 : decode cX1_join 139 = .ok (.iload 6, 2) := by decide +kernel
theorem dX1_join_141 : decode cX1_join 141 = .ok (.iload 7, 2) := by decide +kernel
theorem dX1_join_143 : decode cX1_join 143 = .ok (.if_icmp .eq 15, 3) := by decide +kernel
theorem dX1_join_146 : decode cX1_join 146 = .ok (.goto 8, 3) := by decide +kernel
theorem dX1_join_149 : decode cX1_join 149 = .ok (.iload 6, 2) := by decide +kernel
theorem dX1_join_151 : decode cX1_join 151 = .ok (.ifCond .ne 7, 3) := by decide +kernel
theorem dX1_join_154 : decode cX1_join 154 = .ok (.iconst 1, 1) := by decide +kernel
theorem dX1_join_155 : decode cX1_join 155 = .ok (.goto 4, 3) := by decide +kernel
theorem dX1_join_158 : decode cX1_join 158 = .ok (.iconst 0, 1) := by decide +kernel
theorem dX1_join_159 : decode cX1_join 159 = .ok (.iastore, 1) := by decide +kernel
theorem dX1_join_160 : decode cX1_join 160 = .ok (.iinc 5 1, 3) := by decide +kernel
theorem dX1_join_163 : decode cX1_join 163 = .ok (.goto (-109), 3) := by decide +kernel
theorem dX1_join_166 : decode cX1_join 166 = .ok (.iconst 0, 1) := by decide +kernel
theorem dX1_join_167 : decode cX1_join 167 = .ok (.istore 5, 2) := by decide +kernel
theorem dX1_join_169 : decode cX1_join 169 = .ok (.iload 5, 2) := by decide +kernel
theorem dX1_join_171 : decode cX1_join 171 = .ok (.sipush 1024, 3) := by decide +kernel
theorem dX1_join_174 : decode cX1_join 174 = .ok (.if_icmp .ge 38, 3) := by decide +kernel
theorem dX1_join_177 : decode cX1_join 177 = .ok (.aload_n 0, 1) := by decide +kernel
theorem dX1_join_178 : decode cX1_join 178 = .ok (.getfield 13, 3) := by decide +kernel
theorem dX1_join_181 : decode cX1_join 181 = .ok (.sipush 1024, 3) := by decide +kernel
theorem dX1_join_184 : decode cX1_join 184 = .ok (.iload_n 1, 1) := by decide +kernel
theorem dX1_join_185 : decode cX1_join 185 = .ok (.imul, 1) := by decide +kernel
theorem dX1_join_186 : decode cX1_join 186 = .ok (.iload 5, 2) := by decide +kernel
theorem dX1_join_188 : decode cX1_join 188 = .ok (.iadd, 1) := by decide +kernel
theorem dX1_join_189 : decode cX1_join 189 = .ok (.aload_n 0, 1) := by decide +kernel
theorem dX1_join_190 : decode cX1_join 190 = .ok (.getfield 17, 3) := by decide +kernel
theorem dX1_join_193 : decode cX1_join 193 = .ok (.iload 5, 2) := by decide +kernel
theorem dX1_join_195 : decode cX1_join 195 = .ok (.iaload, 1) := by decide +kernel
theorem dX1_join_196 : decode cX1_join 196 = .ok (.iconst 1, 1) := by decide +kernel
theorem dX1_join_197 : decode cX1_join 197 = .ok (.if_icmp .ne 7, 3) := by decide +kernel
theorem dX1_join_200 : decode cX1_join 200 = .ok (.iconst 1, 1) := by decide +kernel
theorem dX1_join_201 : decode cX1_join 201 = .ok (.goto 4, 3) := by decide +kernel
theorem dX1_join_204 : decode cX1_join 204 = .ok (.iconst 0, 1) := by decide +kernel
theorem dX1_join_205 : decode cX1_join 205 = .ok (.bastore, 1) := by decide +kernel
theorem dX1_join_206 : decode cX1_join 206 = .ok (.iinc 5 1, 3) := by decide +kernel
theorem dX1_join_209 : decode cX1_join 209 = .ok (.goto (-40), 3) := by decide +kernel
theorem dX1_join_212 : decode cX1_join 212 = .ok (.aload_n 0, 1) := by decide +kernel
theorem dX1_join_213 : decode cX1_join 213 = .ok (.iload_n 1, 1) := by decide +kernel
theorem dX1_join_214 : decode cX1_join 214 = .ok (.invokevirtual 36, 3) := by decide +kernel
theorem dX1_join_217 : decode cX1_join 217 = .ok (.ireturn, 1) := by decide +kernel
set_option maxRecDepth 20000 in
theorem gX1_value_X1_out : GoodIn wsX1_value (wsV RX1 24 RX1 yX1_out wsX1_out) := goodIn_sub (by decide +kernel) (by decide +kernel)
set_option maxRecDepth 20000 in
theorem gX1_value_X1_fail : GoodIn wsX1_value (wsV RX1 32 RX1 yX1_fail wsX1_fail) := goodIn_sub (by decide +kernel) (by decide +kernel)
theorem inX1_value : ∀ w ∈ wsX10, w ∈ wsX1_value := by decide +kernel
theorem dX1_value_0 : decode cX1_value 0 = .ok (.aload_n 0, 1) := by decide +kernel
theorem dX1_value_1 : decode cX1_value 1 = .ok (.iconst 0, 1) := by decide +kernel
theorem dX1_value_2 : decode cX1_value 2 = .ok (.putfield 20, 3) := by decide +kernel
theorem dX1_value_5 : decode cX1_value 5 = .ok (.aload_n 0, 1) := by decide +kernel
theorem dX1_value_6 : decode cX1_value 6 = .ok (.iload_n 1, 1) := by decide +kernel
theorem dX1_value_7 : decode cX1_value 7 = .ok (.bipush 8, 2) := by decide +kernel
theorem dX1_value_9 : decode cX1_value 9 = .ok (.invokevirtual 24, 3) := by decide +kernel
theorem dX1_value_12 : decode cX1_value 12 = .ok (.ifCond .ne 14, 3) := by decide +kernel
theorem dX1_value_15 : decode cX1_value 15 = .ok (.aload_n 0, 1) := by decide +kernel
theorem dX1_value_16 : decode cX1_value 16 = .ok (.iload_n 2, 1) := by decide +kernel
theorem dX1_value_17 : decode cX1_value 17 = .ok (.sipush 1024, 3) := by decide +kernel
theorem dX1_value_20 : decode cX1_value 20 = .ok (.invokevirtual 24, 3) := by decide +kernel
theorem dX1_value_23 : decode cX1_value 23 = .ok (.ifCond .eq 9, 3) := by decide +kernel
theorem dX1_value_26 : decode cX1_value 26 = .ok (.aload_n 0, 1) := by decide +kernel
theorem dX1_value_27 : decode cX1_value 27 = .ok (.iconst 1, 1) := by decide +kernel
theorem dX1_value_28 : decode cX1_value 28 = .ok (.invokevirtual 32, 3) := by decide +kernel
theorem dX1_value_31 : decode cX1_value 31 = .ok (.ireturn, 1) := by decide +kernel
theorem dX1_value_32 : decode cX1_value 32 = .ok (.aload_n 0, 1) := by decide +kernel
theorem dX1_value_33 : decode cX1_value 33 = .ok (.getfield 7, 3) := by decide +kernel
theorem dX1_value_36 : decode cX1_value 36 = .ok (.sipush 1024, 3) := by decide +kernel
theorem dX1_value_39 : decode cX1_value 39 = .ok (.iload_n 1, 1) := by decide +kernel
theorem dX1_value_40 : decode cX1_value 40 = .ok (.imul, 1) := by decide +kernel
theorem dX1_value_41 : decode cX1_value 41 = .ok (.iload_n 2, 1) := by decide +kernel
theorem dX1_value_42 : decode cX1_value 42 = .ok (.iadd, 1) := by decide +kernel
theorem dX1_value_43 : decode cX1_value 43 = .ok (.iaload, 1) := by decide +kernel
theorem dX1_value_44 : decode cX1_value 44 = .ok (.ireturn, 1) := by decide +kernel
set_option maxRecDepth 20000 in
theorem gX1_way_X1_out : GoodIn wsX1_way (wsV RX1 24 RX1 yX1_out wsX1_out) := goodIn_sub (by decide +kernel) (by decide +kernel)
set_option maxRecDepth 20000 in
theorem gX1_way_X1_fail : GoodIn wsX1_way (wsV RX1 32 RX1 yX1_fail wsX1_fail) := goodIn_sub (by decide +kernel) (by decide +kernel)
theorem inX1_way : ∀ w ∈ wsX10, w ∈ wsX1_way := by decide +kernel
theorem dX1_way_0 : decode cX1_way 0 = .ok (.aload_n 0, 1) := by decide +kernel
theorem dX1_way_1 : decode cX1_way 1 = .ok (.iconst 0, 1) := by decide +kernel
theorem dX1_way_2 : decode cX1_way 2 = .ok (.putfield 20, 3) := by decide +kernel
theorem dX1_way_5 : decode cX1_way 5 = .ok (.aload_n 0, 1) := by decide +kernel
theorem dX1_way_6 : decode cX1_way 6 = .ok (.iload_n 1, 1) := by decide +kernel
theorem dX1_way_7 : decode cX1_way 7 = .ok (.bipush 8, 2) := by decide +kernel
theorem dX1_way_9 : decode cX1_way 9 = .ok (.invokevirtual 24, 3) := by decide +kernel
theorem dX1_way_12 : decode cX1_way 12 = .ok (.ifCond .eq 9, 3) := by decide +kernel
theorem dX1_way_15 : decode cX1_way 15 = .ok (.aload_n 0, 1) := by decide +kernel
theorem dX1_way_16 : decode cX1_way 16 = .ok (.iconst 1, 1) := by decide +kernel
theorem dX1_way_17 : decode cX1_way 17 = .ok (.invokevirtual 32, 3) := by decide +kernel
theorem dX1_way_20 : decode cX1_way 20 = .ok (.ireturn, 1) := by decide +kernel
theorem dX1_way_21 : decode cX1_way 21 = .ok (.iconst 0, 1) := by decide +kernel
theorem dX1_way_22 : decode cX1_way 22 = .ok (.istore_n 2, 1) := by decide +kernel
theorem dX1_way_23 : decode cX1_way 23 = .ok (.iload_n 2, 1) := by decide +kernel
theorem dX1_way_24 : decode cX1_way 24 = .ok (.sipush 1024, 3) := by decide +kernel
theorem dX1_way_27 : decode cX1_way 27 = .ok (.if_icmp .ge 26, 3) := by decide +kernel
theorem dX1_way_30 : decode cX1_way 30 = .ok (.aload_n 0, 1) := by decide +kernel
theorem dX1_way_31 : decode cX1_way 31 = .ok (.getfield 13, 3) := by decide +kernel
theorem dX1_way_34 : decode cX1_way 34 = .ok (.sipush 1024, 3) := by decide +kernel
theorem dX1_way_37 : decode cX1_way 37 = .ok (.iload_n 1, 1) := by decide +kernel
theorem dX1_way_38 : decode cX1_way 38 = .ok (.imul, 1) := by decide +kernel
theorem dX1_way_39 : decode cX1_way 39 = .ok (.iload_n 2, 1) := by decide +kernel
theorem dX1_way_40 : decode cX1_way 40 = .ok (.iadd, 1) := by decide +kernel
theorem dX1_way_41 : decode cX1_way 41 = .ok (.baload, 1) := by decide +kernel
theorem dX1_way_42 : decode cX1_way 42 = .ok (.ifCond .eq 5, 3) := by decide +kernel
theorem dX1_way_45 : decode cX1_way 45 = .ok (.iload_n 2, 1) := by decide +kernel
theorem dX1_way_46 : decode cX1_way 46 = .ok (.ireturn, 1) := by decide +kernel
theorem dX1_way_47 : decode cX1_way 47 = .ok (.iinc 2 1, 3) := by decide +kernel
theorem dX1_way_50 : decode cX1_way 50 = .ok (.goto (-27), 3) := by decide +kernel
theorem dX1_way_53 : decode cX1_way 53 = .ok (.aload_n 0, 1) := by decide +kernel
theorem dX1_way_54 : decode cX1_way 54 = .ok (.iconst 2, 1) := by decide +kernel
theorem dX1_way_55 : decode cX1_way 55 = .ok (.invokevirtual 32, 3) := by decide +kernel
theorem dX1_way_58 : decode cX1_way 58 = .ok (.ireturn, 1) := by decide +kernel
set_option maxRecDepth 20000 in
theorem gX1_same_X1_out : GoodIn wsX1_same (wsV RX1 24 RX1 yX1_out wsX1_out) := goodIn_sub (by decide +kernel) (by decide +kernel)
set_option maxRecDepth 20000 in
theorem gX1_same_X1_fail : GoodIn wsX1_same (wsV RX1 32 RX1 yX1_fail wsX1_fail) := goodIn_sub (by decide +kernel) (by decide +kernel)
theorem inX1_same : ∀ w ∈ wsX10, w ∈ wsX1_same := by decide +kernel
theorem dX1_same_0 : decode cX1_same 0 = .ok (.aload_n 0, 1) := by decide +kernel
theorem dX1_same_1 : decode cX1_same 1 = .ok (.iconst 0, 1) := by decide +kernel
theorem dX1_same_2 : decode cX1_same 2 = .ok (.putfield 20, 3) := by decide +kernel
theorem dX1_same_5 : decode cX1_same 5 = .ok (.aload_n 0, 1) := by decide +kernel
theorem dX1_same_6 : decode cX1_same 6 = .ok (.iload_n 1, 1) := by decide +kernel
theorem dX1_same_7 : decode cX1_same 7 = .ok (.bipush 8, 2) := by decide +kernel
theorem dX1_same_9 : decode cX1_same 9 = .ok (.invokevirtual 24, 3) := by decide +kernel
theorem dX1_same_12 : decode cX1_same 12 = .ok (.ifCond .ne 13, 3) := by decide +kernel
theorem dX1_same_15 : decode cX1_same 15 = .ok (.aload_n 0, 1) := by decide +kernel
theorem dX1_same_16 : decode cX1_same 16 = .ok (.iload_n 2, 1) := by decide +kernel
theorem dX1_same_17 : decode cX1_same 17 = .ok (.bipush 8, 2) := by decide +kernel
theorem dX1_same_19 : decode cX1_same 19 = .ok (.invokevirtual 24, 3) := by decide +kernel
theorem dX1_same_22 : decode cX1_same 22 = .ok (.ifCond .eq 17, 3) := by decide +kernel
theorem dX1_same_25 : decode cX1_same 25 = .ok (.aload_n 0, 1) := by decide +kernel
theorem dX1_same_26 : decode cX1_same 26 = .ok (.iconst 1, 1) := by decide +kernel
theorem dX1_same_27 : decode cX1_same 27 = .ok (.invokevirtual 32, 3) := by decide +kernel
theorem dX1_same_30 : decode cX1_same 30 = .ok (.ifCond .le 7, 3) := by decide +kernel
theorem dX1_same_33 : decode cX1_same 33 = .ok (.iconst 1, 1) := by decide +kernel
theorem dX1_same_34 : decode cX1_same 34 = .ok (.goto 4, 3) := by decide +kernel
theorem dX1_same_37 : decode cX1_same 37 = .ok (.iconst 0, 1) := by decide +kernel
theorem dX1_same_38 : decode cX1_same 38 = .ok (.ireturn, 1) := by decide +kernel
theorem dX1_same_39 : decode cX1_same 39 = .ok (.iconst 0, 1) := by decide +kernel
theorem dX1_same_40 : decode cX1_same 40 = .ok (.istore_n 3, 1) := by decide +kernel
theorem dX1_same_41 : decode cX1_same 41 = .ok (.iload_n 3, 1) := by decide +kernel
theorem dX1_same_42 : decode cX1_same 42 = .ok (.sipush 1024, 3) := by decide +kernel
theorem dX1_same_45 : decode cX1_same 45 = .ok (.if_icmp .ge 38, 3) := by decide +kernel
theorem dX1_same_48 : decode cX1_same 48 = .ok (.aload_n 0, 1) := by decide +kernel
theorem dX1_same_49 : decode cX1_same 49 = .ok (.getfield 7, 3) := by decide +kernel
theorem dX1_same_52 : decode cX1_same 52 = .ok (.sipush 1024, 3) := by decide +kernel
theorem dX1_same_55 : decode cX1_same 55 = .ok (.iload_n 1, 1) := by decide +kernel
theorem dX1_same_56 : decode cX1_same 56 = .ok (.imul, 1) := by decide +kernel
theorem dX1_same_57 : decode cX1_same 57 = .ok (.iload_n 3, 1) := by decide +kernel
theorem dX1_same_58 : decode cX1_same 58 = .ok (.iadd, 1) := by decide +kernel
theorem dX1_same_59 : decode cX1_same 59 = .ok (.iaload, 1) := by decide +kernel
theorem dX1_same_60 : decode cX1_same 60 = .ok (.aload_n 0, 1) := by decide +kernel
theorem dX1_same_61 : decode cX1_same 61 = .ok (.getfield 7, 3) := by decide +kernel
theorem dX1_same_64 : decode cX1_same 64 = .ok (.sipush 1024, 3) := by decide +kernel
theorem dX1_same_67 : decode cX1_same 67 = .ok (.iload_n 2, 1) := by decide +kernel
theorem dX1_same_68 : decode cX1_same 68 = .ok (.imul, 1) := by decide +kernel
theorem dX1_same_69 : decode cX1_same 69 = .ok (.iload_n 3, 1) := by decide +kernel
theorem dX1_same_70 : decode cX1_same 70 = .ok (.iadd, 1) := by decide +kernel
theorem dX1_same_71 : decode cX1_same 71 = .ok (.iaload, 1) := by decide +kernel
theorem dX1_same_72 : decode cX1_same 72 = .ok (.if_icmp .eq 5, 3) := by decide +kernel
theorem dX1_same_75 : decode cX1_same 75 = .ok (.iconst 0, 1) := by decide +kernel
theorem dX1_same_76 : decode cX1_same 76 = .ok (.ireturn, 1) := by decide +kernel
theorem dX1_same_77 : decode cX1_same 77 = .ok (.iinc 3 1, 3) := by decide +kernel
theorem dX1_same_80 : decode cX1_same 80 = .ok (.goto (-39), 3) := by decide +kernel
theorem dX1_same_83 : decode cX1_same 83 = .ok (.iconst 1, 1) := by decide +kernel
theorem dX1_same_84 : decode cX1_same 84 = .ok (.ireturn, 1) := by decide +kernel
set_option maxRecDepth 20000 in
theorem gX1_tidy_X1_out : GoodIn wsX1_tidy (wsV RX1 24 RX1 yX1_out wsX1_out) := goodIn_sub (by decide +kernel) (by decide +kernel)
set_option maxRecDepth 20000 in
theorem gX1_tidy_X1_fail : GoodIn wsX1_tidy (wsV RX1 32 RX1 yX1_fail wsX1_fail) := goodIn_sub (by decide +kernel) (by decide +kernel)
theorem inX1_tidy : ∀ w ∈ wsX10, w ∈ wsX1_tidy := by decide +kernel
theorem dX1_tidy_0 : decode cX1_tidy 0 = .ok (.aload_n 0, 1) := by decide +kernel
theorem dX1_tidy_1 : decode cX1_tidy 1 = .ok (.iconst 0, 1) := by decide +kernel
theorem dX1_tidy_2 : decode cX1_tidy 2 = .ok (.putfield 20, 3) := by decide +kernel
theorem dX1_tidy_5 : decode cX1_tidy 5 = .ok (.aload_n 0, 1) := by decide +kernel
theorem dX1_tidy_6 : decode cX1_tidy 6 = .ok (.iload_n 1, 1) := by decide +kernel
theorem dX1_tidy_7 : decode cX1_tidy 7 = .ok (.iconst 3, 1) := by decide +kernel
theorem dX1_tidy_8 : decode cX1_tidy 8 = .ok (.invokevirtual 24, 3) := by decide +kernel
theorem dX1_tidy_11 : decode cX1_tidy 11 = .ok (.ifCond .eq 9, 3) := by decide +kernel
theorem dX1_tidy_14 : decode cX1_tidy 14 = .ok (.aload_n 0, 1) := by decide +kernel
theorem dX1_tidy_15 : decode cX1_tidy 15 = .ok (.iconst 1, 1) := by decide +kernel
theorem dX1_tidy_16 : decode cX1_tidy 16 = .ok (.invokevirtual 32, 3) := by decide +kernel
theorem dX1_tidy_19 : decode cX1_tidy 19 = .ok (.ireturn, 1) := by decide +kernel
theorem dX1_tidy_20 : decode cX1_tidy 20 = .ok (.iconst 0, 1) := by decide +kernel
theorem dX1_tidy_21 : decode cX1_tidy 21 = .ok (.istore_n 2, 1) := by decide +kernel
theorem dX1_tidy_22 : decode cX1_tidy 22 = .ok (.iconst 0, 1) := by decide +kernel
theorem dX1_tidy_23 : decode cX1_tidy 23 = .ok (.istore_n 3, 1) := by decide +kernel
theorem dX1_tidy_24 : decode cX1_tidy 24 = .ok (.iload_n 3, 1) := by decide +kernel
theorem dX1_tidy_25 : decode cX1_tidy 25 = .ok (.bipush 8, 2) := by decide +kernel
theorem dX1_tidy_27 : decode cX1_tidy 27 = .ok (.if_icmp .ge 61, 3) := by decide +kernel
theorem dX1_tidy_30 : decode cX1_tidy 30 = .ok (.iconst 0, 1) := by decide +kernel
theorem dX1_tidy_31 : decode cX1_tidy 31 = .ok (.istore 4, 2) := by decide +kernel
theorem dX1_tidy_33 : decode cX1_tidy 33 = .ok (.iconst 0, 1) := by decide +kernel
theorem dX1_tidy_34 : decode cX1_tidy 34 = .ok (.istore 5, 2) := by decide +kernel
theorem dX1_tidy_36 : decode cX1_tidy 36 = .ok (.iload 5, 2) := by decide +kernel
theorem dX1_tidy_38 : decode cX1_tidy 38 = .ok (.sipush 1024, 3) := by decide +kernel
theorem dX1_tidy_41 : decode cX1_tidy 41 = .ok (.if_icmp .ge 28, 3) := by decide +kernel
theorem dX1_tidy_44 : decode cX1_tidy 44 = .ok (.aload_n 0, 1) := by decide +kernel
theorem dX1_tidy_45 : decode cX1_tidy 45 = .ok (.getfield 7, 3) := by decide +kernel
theorem dX1_tidy_48 : decode cX1_tidy 48 = .ok (.sipush 1024, 3) := by decide +kernel
theorem dX1_tidy_51 : decode cX1_tidy 51 = .ok (.iload_n 3, 1) := by decide +kernel
theorem dX1_tidy_52 : decode cX1_tidy 52 = .ok (.imul, 1) := by decide +kernel
theorem dX1_tidy_53 : decode cX1_tidy 53 = .ok (.iload 5, 2) := by decide +kernel
theorem dX1_tidy_55 : decode cX1_tidy 55 = .ok (.iadd, 1) := by decide +kernel
theorem dX1_tidy_56 : decode cX1_tidy 56 = .ok (.iaload, 1) := by decide +kernel
theorem dX1_tidy_57 : decode cX1_tidy 57 = .ok (.ifCond .eq 6, 3) := by decide +kernel
theorem dX1_tidy_60 : decode cX1_tidy 60 = .ok (.iconst 1, 1) := by decide +kernel
theorem dX1_tidy_61 : decode cX1_tidy 61 = .ok (.istore 4, 2) := by decide +kernel
theorem dX1_tidy_63 : decode cX1_tidy 63 = .ok (.iinc 5 1, 3) := by decide +kernel
theorem dX1_tidy_66 : decode cX1_tidy 66 = .ok (.goto (-30), 3) := by decide +kernel
theorem dX1_tidy_69 : decode cX1_tidy 69 = .ok (.iload_n 2, 1) := by decide +kernel
theorem dX1_tidy_70 : decode cX1_tidy 70 = .ok (.iload 4, 2) := by decide +kernel
theorem dX1_tidy_72 : decode cX1_tidy 72 = .ok (.ifCond .eq 7, 3) := by decide +kernel
theorem dX1_tidy_75 : decode cX1_tidy 75 = .ok (.iconst 1, 1) := by decide +kernel
theorem dX1_tidy_76 : decode cX1_tidy 76 = .ok (.goto 4, 3) := by decide +kernel
theorem dX1_tidy_79 : decode cX1_tidy 79 = .ok (.iconst 0, 1) := by decide +kernel
theorem dX1_tidy_80 : decode cX1_tidy 80 = .ok (.iadd, 1) := by decide +kernel
theorem dX1_tidy_81 : decode cX1_tidy 81 = .ok (.istore_n 2, 1) := by decide +kernel
theorem dX1_tidy_82 : decode cX1_tidy 82 = .ok (.iinc 3 1, 3) := by decide +kernel
theorem dX1_tidy_85 : decode cX1_tidy 85 = .ok (.goto (-61), 3) := by decide +kernel
theorem dX1_tidy_88 : decode cX1_tidy 88 = .ok (.iload_n 2, 1) := by decide +kernel
theorem dX1_tidy_89 : decode cX1_tidy 89 = .ok (.ireturn, 1) := by decide +kernel
theorem inX1_thrown : ∀ w ∈ wsX10, w ∈ wsX1_thrown := by decide +kernel
theorem inX1_constant : ∀ w ∈ wsX10, w ∈ wsX1_constant := by decide +kernel
