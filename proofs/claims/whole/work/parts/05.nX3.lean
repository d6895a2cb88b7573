theorem dX3_codeOfSign_0 : decode cX3_codeOfSign 0 = .ok (.iload_n 0, 1) := by decide +kernel
theorem dX3_codeOfSign_1 : decode cX3_codeOfSign 1 = .ok (.iconst 1, 1) := by decide +kernel
theorem dX3_codeOfSign_2 : decode cX3_codeOfSign 2 = .ok (.iadd, 1) := by decide +kernel
theorem dX3_codeOfSign_3 : decode cX3_codeOfSign 3 = .ok (.ireturn, 1) := by decide +kernel
theorem dX3_codeOfVariable_0 : decode cX3_codeOfVariable 0 = .ok (.bipush 11, 2) := by decide +kernel
theorem dX3_codeOfVariable_2 : decode cX3_codeOfVariable 2 = .ok (.iload_n 0, 1) := by decide +kernel
theorem dX3_codeOfVariable_3 : decode cX3_codeOfVariable 3 = .ok (.iadd, 1) := by decide +kernel
theorem dX3_codeOfVariable_4 : decode cX3_codeOfVariable 4 = .ok (.ireturn, 1) := by decide +kernel
theorem dX3_toldOf_0 : decode cX3_toldOf 0 = .ok (.iload_n 0, 1) := by decide +kernel
theorem dX3_toldOf_1 : decode cX3_toldOf 1 = .ok (.iconst 1, 1) := by decide +kernel
theorem dX3_toldOf_2 : decode cX3_toldOf 2 = .ok (.isub, 1) := by decide +kernel
theorem dX3_toldOf_3 : decode cX3_toldOf 3 = .ok (.ireturn, 1) := by decide +kernel
theorem dX3_isVariable_0 : decode cX3_isVariable 0 = .ok (.iload_n 0, 1) := by decide +kernel
theorem dX3_isVariable_1 : decode cX3_isVariable 1 = .ok (.bipush 11, 2) := by decide +kernel
theorem dX3_isVariable_3 : decode cX3_isVariable 3 = .ok (.if_icmp .lt 13, 3) := by decide +kernel
theorem dX3_isVariable_6 : decode cX3_isVariable 6 = .ok (.iload_n 0, 1) := by decide +kernel
theorem dX3_isVariable_7 : decode cX3_isVariable 7 = .ok (.bipush 15, 2) := by decide +kernel
theorem dX3_isVariable_9 : decode cX3_isVariable 9 = .ok (.if_icmp .ge 7, 3) := by decide +kernel
theorem dX3_isVariable_12 : decode cX3_isVariable 12 = .ok (.iconst 1, 1) := by decide +kernel
theorem dX3_isVariable_13 : decode cX3_isVariable 13 = .ok (.goto 4, 3) := by decide +kernel
theorem dX3_isVariable_16 : decode cX3_isVariable 16 = .ok (.iconst 0, 1) := by decide +kernel
theorem dX3_isVariable_17 : decode cX3_isVariable 17 = .ok (.ireturn, 1) := by decide +kernel
theorem dX3_variableOf_0 : decode cX3_variableOf 0 = .ok (.iload_n 0, 1) := by decide +kernel
theorem dX3_variableOf_1 : decode cX3_variableOf 1 = .ok (.bipush 11, 2) := by decide +kernel
theorem dX3_variableOf_3 : decode cX3_variableOf 3 = .ok (.isub, 1) := by decide +kernel
theorem dX3_variableOf_4 : decode cX3_variableOf 4 = .ok (.ireturn, 1) := by decide +kernel
theorem dX3_partsOf_0 : decode cX3_partsOf 0 = .ok (.iload_n 0, 1) := by decide +kernel
theorem dX3_partsOf_1 : decode cX3_partsOf 1 = .ok (.tableswitch 35 3 6 #[31, 31, 33, 33], 31) := by decide +kernel
theorem dX3_partsOf_32 : decode cX3_partsOf 32 = .ok (.iconst 1, 1) := by decide +kernel
theorem dX3_partsOf_33 : decode cX3_partsOf 33 = .ok (.ireturn, 1) := by decide +kernel
theorem dX3_partsOf_34 : decode cX3_partsOf 34 = .ok (.iconst 2, 1) := by decide +kernel
theorem dX3_partsOf_35 : decode cX3_partsOf 35 = .ok (.ireturn, 1) := by decide +kernel
theorem dX3_partsOf_36 : decode cX3_partsOf 36 = .ok (.iconst 0, 1) := by decide +kernel
theorem dX3_partsOf_37 : decode cX3_partsOf 37 = .ok (.ireturn, 1) := by decide +kernel
theorem dX3_codeAt_0 : decode cX3_codeAt 0 = .ok (.lload_n 0, 1) := by decide +kernel
theorem dX3_codeAt_1 : decode cX3_codeAt 1 = .ok (.iconst 4, 1) := by decide +kernel
theorem dX3_codeAt_2 : decode cX3_codeAt 2 = .ok (.iload_n 2, 1) := by decide +kernel
theorem dX3_codeAt_3 : decode cX3_codeAt 3 = .ok (.imul, 1) := by decide +kernel
theorem dX3_codeAt_4 : decode cX3_codeAt 4 = .ok (.lushr, 1) := by decide +kernel
theorem dX3_codeAt_5 : decode cX3_codeAt 5 = .ok (.l2i, 1) := by decide +kernel
theorem dX3_codeAt_6 : decode cX3_codeAt 6 = .ok (.bipush 15, 2) := by decide +kernel
theorem dX3_codeAt_8 : decode cX3_codeAt 8 = .ok (.iand, 1) := by decide +kernel
theorem dX3_codeAt_9 : decode cX3_codeAt 9 = .ok (.ireturn, 1) := by decide +kernel
theorem dX3_sizeOf_0 : decode cX3_sizeOf 0 = .ok (.iconst 0, 1) := by decide +kernel
theorem dX3_sizeOf_1 : decode cX3_sizeOf 1 = .ok (.istore_n 2, 1) := by decide +kernel
theorem dX3_sizeOf_2 : decode cX3_sizeOf 2 = .ok (.iload_n 2, 1) := by decide +kernel
theorem dX3_sizeOf_3 : decode cX3_sizeOf 3 = .ok (.bipush 12, 2) := by decide +kernel
theorem dX3_sizeOf_5 : decode cX3_sizeOf 5 = .ok (.if_icmp .ge 19, 3) := by decide +kernel
theorem dX3_sizeOf_8 : decode cX3_sizeOf 8 = .ok (.lload_n 0, 1) := by decide +kernel
theorem dX3_sizeOf_9 : decode cX3_sizeOf 9 = .ok (.iconst 4, 1) := by decide +kernel
theorem dX3_sizeOf_10 : decode cX3_sizeOf 10 = .ok (.iload_n 2, 1) := by decide +kernel
theorem dX3_sizeOf_11 : decode cX3_sizeOf 11 = .ok (.imul, 1) := by decide +kernel
theorem dX3_sizeOf_12 : decode cX3_sizeOf 12 = .ok (.lushr, 1) := by decide +kernel
theorem dX3_sizeOf_13 : decode cX3_sizeOf 13 = .ok (.lconst 0, 1) := by decide +kernel
theorem dX3_sizeOf_14 : decode cX3_sizeOf 14 = .ok (.lcmp, 1) := by decide +kernel
theorem dX3_sizeOf_15 : decode cX3_sizeOf 15 = .ok (.ifCond .eq 9, 3) := by decide +kernel
theorem dX3_sizeOf_18 : decode cX3_sizeOf 18 = .ok (.iinc 2 1, 3) := by decide +kernel
theorem dX3_sizeOf_21 : decode cX3_sizeOf 21 = .ok (.goto (-19), 3) := by decide +kernel
theorem dX3_sizeOf_24 : decode cX3_sizeOf 24 = .ok (.iload_n 2, 1) := by decide +kernel
theorem dX3_sizeOf_25 : decode cX3_sizeOf 25 = .ok (.ireturn, 1) := by decide +kernel
set_option maxRecDepth 20000 in
theorem ggX3_endOf_X3_codeAt : GoodIn wsX3_endOf wsX3_codeAt := goodIn_r _ [4] (by decide +kernel) (by decide +kernel)
set_option maxRecDepth 20000 in
theorem gX3_endOf_X3_codeAt : GoodIn wsX3_endOf (va_wsS RX3 11 yX3_codeAt wsX3_codeAt) := goodIn_app (goodIn_of _ (by decide +kernel)) ggX3_endOf_X3_codeAt
set_option maxRecDepth 20000 in
theorem ggX3_endOf_X3_partsOf : GoodIn wsX3_endOf wsX3_partsOf := goodIn_r _ [7] (by decide +kernel) (by decide +kernel)
set_option maxRecDepth 20000 in
theorem gX3_endOf_X3_partsOf : GoodIn wsX3_endOf (va_wsS RX3 15 yX3_partsOf wsX3_partsOf) := goodIn_app (goodIn_of _ (by decide +kernel)) ggX3_endOf_X3_partsOf
theorem dX3_endOf_0 : decode cX3_endOf 0 = .ok (.iload_n 2, 1) := by decide +kernel
theorem dX3_endOf_1 : decode cX3_endOf 1 = .ok (.istore_n 3, 1) := by decide +kernel
theorem dX3_endOf_2 : decode cX3_endOf 2 = .ok (.iconst 1, 1) := by decide +kernel
theorem dX3_endOf_3 : decode cX3_endOf 3 = .ok (.istore 4, 2) := by decide +kernel
theorem dX3_endOf_5 : decode cX3_endOf 5 = .ok (.iload_n 3, 1) := by decide +kernel
theorem dX3_endOf_6 : decode cX3_endOf 6 = .ok (.bipush 12, 2) := by decide +kernel
theorem dX3_endOf_8 : decode cX3_endOf 8 = .ok (.if_icmp .ge 29, 3) := by decide +kernel
theorem dX3_endOf_11 : decode cX3_endOf 11 = .ok (.iload 4, 2) := by decide +kernel
theorem dX3_endOf_13 : decode cX3_endOf 13 = .ok (.ifCond .le 24, 3) := by decide +kernel
theorem dX3_endOf_16 : decode cX3_endOf 16 = .ok (.iload 4, 2) := by decide +kernel
theorem dX3_endOf_18 : decode cX3_endOf 18 = .ok (.lload_n 0, 1) := by decide +kernel
theorem dX3_endOf_19 : decode cX3_endOf 19 = .ok (.iload_n 3, 1) := by decide +kernel
theorem dX3_endOf_20 : decode cX3_endOf 20 = .ok (.invokestatic 11, 3) := by decide +kernel
theorem dX3_endOf_23 : decode cX3_endOf 23 = .ok (.invokestatic 15, 3) := by decide +kernel
theorem dX3_endOf_26 : decode cX3_endOf 26 = .ok (.iconst 1, 1) := by decide +kernel
theorem dX3_endOf_27 : decode cX3_endOf 27 = .ok (.isub, 1) := by decide +kernel
theorem dX3_endOf_28 : decode cX3_endOf 28 = .ok (.iadd, 1) := by decide +kernel
theorem dX3_endOf_29 : decode cX3_endOf 29 = .ok (.istore 4, 2) := by decide +kernel
theorem dX3_endOf_31 : decode cX3_endOf 31 = .ok (.iinc 3 1, 3) := by decide +kernel
theorem dX3_endOf_34 : decode cX3_endOf 34 = .ok (.goto (-29), 3) := by decide +kernel
theorem dX3_endOf_37 : decode cX3_endOf 37 = .ok (.iload_n 3, 1) := by decide +kernel
theorem dX3_endOf_38 : decode cX3_endOf 38 = .ok (.ireturn, 1) := by decide +kernel
theorem dX3_part_0 : decode cX3_part 0 = .ok (.lload_n 0, 1) := by decide +kernel
theorem dX3_part_1 : decode cX3_part 1 = .ok (.iconst 4, 1) := by decide +kernel
theorem dX3_part_2 : decode cX3_part 2 = .ok (.iload_n 2, 1) := by decide +kernel
theorem dX3_part_3 : decode cX3_part 3 = .ok (.imul, 1) := by decide +kernel
theorem dX3_part_4 : decode cX3_part 4 = .ok (.lushr, 1) := by decide +kernel
theorem dX3_part_5 : decode cX3_part 5 = .ok (.lconst 1, 1) := by decide +kernel
theorem dX3_part_6 : decode cX3_part 6 = .ok (.iconst 4, 1) := by decide +kernel
theorem dX3_part_7 : decode cX3_part 7 = .ok (.iload_n 3, 1) := by decide +kernel
theorem dX3_part_8 : decode cX3_part 8 = .ok (.iload_n 2, 1) := by decide +kernel
theorem dX3_part_9 : decode cX3_part 9 = .ok (.isub, 1) := by decide +kernel
theorem dX3_part_10 : decode cX3_part 10 = .ok (.imul, 1) := by decide +kernel
theorem dX3_part_11 : decode cX3_part 11 = .ok (.lshl, 1) := by decide +kernel
theorem dX3_part_12 : decode cX3_part 12 = .ok (.lconst 1, 1) := by decide +kernel
theorem dX3_part_13 : decode cX3_part 13 = .ok (.lsub, 1) := by decide +kernel
theorem dX3_part_14 : decode cX3_part 14 = .ok (.land, 1) := by decide +kernel
theorem dX3_part_15 : decode cX3_part 15 = .ok (.lreturn, 1) := by decide +kernel
set_option maxRecDepth 20000 in
theorem ggX3_joined_X3_sizeOf : GoodIn wsX3_joined wsX3_sizeOf := goodIn_r _ [4] (by decide +kernel) (by decide +kernel)
set_option maxRecDepth 20000 in
theorem gX3_joined_X3_sizeOf : GoodIn wsX3_joined (va_wsS RX3 19 yX3_sizeOf wsX3_sizeOf) := goodIn_app (goodIn_of _ (by decide +kernel)) ggX3_joined_X3_sizeOf
theorem dX3_joined_0 : decode cX3_joined 0 = .ok (.lload_n 0, 1) := by decide +kernel
theorem dX3_joined_1 : decode cX3_joined 1 = .ok (.lload_n 2, 1) := by decide +kernel
theorem dX3_joined_2 : decode cX3_joined 2 = .ok (.iconst 4, 1) := by decide +kernel
theorem dX3_joined_3 : decode cX3_joined 3 = .ok (.lload_n 0, 1) := by decide +kernel
theorem dX3_joined_4 : decode cX3_joined 4 = .ok (.invokestatic 19, 3) := by decide +kernel
theorem dX3_joined_7 : decode cX3_joined 7 = .ok (.imul, 1) := by decide +kernel
theorem dX3_joined_8 : decode cX3_joined 8 = .ok (.lshl, 1) := by decide +kernel
theorem dX3_joined_9 : decode cX3_joined 9 = .ok (.lor, 1) := by decide +kernel
theorem dX3_joined_10 : decode cX3_joined 10 = .ok (.lreturn, 1) := by decide +kernel
set_option maxRecDepth 20000 in
theorem ggX3_timesIn_X3_codeAt : GoodIn wsX3_timesIn wsX3_codeAt := goodIn_r _ [4] (by decide +kernel) (by decide +kernel)
set_option maxRecDepth 20000 in
theorem gX3_timesIn_X3_codeAt : GoodIn wsX3_timesIn (va_wsS RX3 11 yX3_codeAt wsX3_codeAt) := goodIn_app (goodIn_of _ (by decide +kernel)) ggX3_timesIn_X3_codeAt
theorem dX3_timesIn_0 : decode cX3_timesIn 0 = .ok (.iconst 0, 1) := by decide +kernel
theorem dX3_timesIn_1 : decode cX3_timesIn 1 = .ok (.istore_n 3, 1) := by decide +kernel
theorem dX3_timesIn_2 : decode cX3_timesIn 2 = .ok (.iconst 0, 1) := by decide +kernel
theorem dX3_timesIn_3 : decode cX3_timesIn 3 = .ok (.istore 4, 2) := by decide +kernel
theorem dX3_timesIn_5 : decode cX3_timesIn 5 = .ok (.iload 4, 2) := by decide +kernel
theorem dX3_timesIn_7 : decode cX3_timesIn 7 = .ok (.bipush 12, 2) := by decide +kernel
theorem dX3_timesIn_9 : decode cX3_timesIn 9 = .ok (.if_icmp .ge 22, 3) := by decide +kernel
theorem dX3_timesIn_12 : decode cX3_timesIn 12 = .ok (.lload_n 0, 1) := by decide +kernel
theorem dX3_timesIn_13 : decode cX3_timesIn 13 = .ok (.iload 4, 2) := by decide +kernel
theorem dX3_timesIn_15 : decode cX3_timesIn 15 = .ok (.invokestatic 11, 3) := by decide +kernel
theorem dX3_timesIn_18 : decode cX3_timesIn 18 = .ok (.iload_n 2, 1) := by decide +kernel
theorem dX3_timesIn_19 : decode cX3_timesIn 19 = .ok (.if_icmp .ne 6, 3) := by decide +kernel
theorem dX3_timesIn_22 : decode cX3_timesIn 22 = .ok (.iinc 3 1, 3) := by decide +kernel
theorem dX3_timesIn_25 : decode cX3_timesIn 25 = .ok (.iinc 4 1, 3) := by decide +kernel
theorem dX3_timesIn_28 : decode cX3_timesIn 28 = .ok (.goto (-23), 3) := by decide +kernel
theorem dX3_timesIn_31 : decode cX3_timesIn 31 = .ok (.iload_n 3, 1) := by decide +kernel
theorem dX3_timesIn_32 : decode cX3_timesIn 32 = .ok (.ireturn, 1) := by decide +kernel
set_option maxRecDepth 20000 in
theorem ggX3_variablesIn_X3_codeOfVariable : GoodIn wsX3_variablesIn wsX3_codeOfVariable := goodIn_r _ [4] (by decide +kernel) (by decide +kernel)
set_option maxRecDepth 20000 in
theorem gX3_variablesIn_X3_codeOfVariable : GoodIn wsX3_variablesIn (va_wsS RX3 23 yX3_codeOfVariable wsX3_codeOfVariable) := goodIn_app (goodIn_of _ (by decide +kernel)) ggX3_variablesIn_X3_codeOfVariable
set_option maxRecDepth 20000 in
theorem ggX3_variablesIn_X3_timesIn : GoodIn wsX3_variablesIn wsX3_timesIn := goodIn_r _ [7, 8, 9, 3, 10] (by decide +kernel) (by decide +kernel)
set_option maxRecDepth 20000 in
theorem gX3_variablesIn_X3_timesIn : GoodIn wsX3_variablesIn (va_wsS RX3 26 yX3_timesIn wsX3_timesIn) := goodIn_app (goodIn_of _ (by decide +kernel)) ggX3_variablesIn_X3_timesIn
theorem dX3_variablesIn_0 : decode cX3_variablesIn 0 = .ok (.iconst 0, 1) := by decide +kernel
theorem dX3_variablesIn_1 : decode cX3_variablesIn 1 = .ok (.istore_n 2, 1) := by decide +kernel
theorem dX3_variablesIn_2 : decode cX3_variablesIn 2 = .ok (.iconst 0, 1) := by decide +kernel
theorem dX3_variablesIn_3 : decode cX3_variablesIn 3 = .ok (.istore_n 3, 1) := by decide +kernel
theorem dX3_variablesIn_4 : decode cX3_variablesIn 4 = .ok (.iload_n 3, 1) := by decide +kernel
theorem dX3_variablesIn_5 : decode cX3_variablesIn 5 = .ok (.iconst 4, 1) := by decide +kernel
theorem dX3_variablesIn_6 : decode cX3_variablesIn 6 = .ok (.if_icmp .ge 23, 3) := by decide +kernel
theorem dX3_variablesIn_9 : decode cX3_variablesIn 9 = .ok (.lload_n 0, 1) := by decide +kernel
theorem dX3_variablesIn_10 : decode cX3_variablesIn 10 = .ok (.iload_n 3, 1) := by decide +kernel
theorem dX3_variablesIn_11 : decode cX3_variablesIn 11 = .ok (.invokestatic 23, 3) := by decide +kernel
theorem dX3_variablesIn_14 : decode cX3_variablesIn 14 = .ok (.invokestatic 26, 3) := by decide +kernel
theorem dX3_variablesIn_17 : decode cX3_variablesIn 17 = .ok (.ifCond .le 6, 3) := by decide +kernel
theorem dX3_variablesIn_20 : decode cX3_variablesIn 20 = .ok (.iinc 2 1, 3) := by decide +kernel
theorem dX3_variablesIn_23 : decode cX3_variablesIn 23 = .ok (.iinc 3 1, 3) := by decide +kernel
theorem dX3_variablesIn_26 : decode cX3_variablesIn 26 = .ok (.goto (-22), 3) := by decide +kernel
theorem dX3_variablesIn_29 : decode cX3_variablesIn 29 = .ok (.iload_n 2, 1) := by decide +kernel
theorem dX3_variablesIn_30 : decode cX3_variablesIn 30 = .ok (.ireturn, 1) := by decide +kernel
set_option maxRecDepth 20000 in
theorem ggX3_hasVariablesOf_X3_codeOfVariable : GoodIn wsX3_hasVariablesOf wsX3_codeOfVariable := goodIn_r _ [4] (by decide +kernel) (by decide +kernel)
set_option maxRecDepth 20000 in
theorem gX3_hasVariablesOf_X3_codeOfVariable : GoodIn wsX3_hasVariablesOf (va_wsS RX3 23 yX3_codeOfVariable wsX3_codeOfVariable) := goodIn_app (goodIn_of _ (by decide +kernel)) ggX3_hasVariablesOf_X3_codeOfVariable
set_option maxRecDepth 20000 in
theorem ggX3_hasVariablesOf_X3_timesIn : GoodIn wsX3_hasVariablesOf wsX3_timesIn := goodIn_r _ [7, 8, 9, 3, 10] (by decide +kernel) (by decide +kernel)
set_option maxRecDepth 20000 in
theorem gX3_hasVariablesOf_X3_timesIn : GoodIn wsX3_hasVariablesOf (va_wsS RX3 26 yX3_timesIn wsX3_timesIn) := goodIn_app (goodIn_of _ (by decide +kernel)) ggX3_hasVariablesOf_X3_timesIn
theorem dX3_hasVariablesOf_0 : decode cX3_hasVariablesOf 0 = .ok (.iconst 0, 1) := by decide +kernel
theorem dX3_hasVariablesOf_1 : decode cX3_hasVariablesOf 1 = .ok (.istore 4, 2) := by decide +kernel
theorem dX3_hasVariablesOf_3 : decode cX3_hasVariablesOf 3 = .ok (.iload 4, 2) := by decide +kernel
theorem dX3_hasVariablesOf_5 : decode cX3_hasVariablesOf 5 = .ok (.iconst 4, 1) := by decide +kernel
theorem dX3_hasVariablesOf_6 : decode cX3_hasVariablesOf 6 = .ok (.if_icmp .ge 33, 3) := by decide +kernel
theorem dX3_hasVariablesOf_9 : decode cX3_hasVariablesOf 9 = .ok (.iload 4, 2) := by decide +kernel
theorem dX3_hasVariablesOf_11 : decode cX3_hasVariablesOf 11 = .ok (.invokestatic 23, 3) := by decide +kernel
theorem dX3_hasVariablesOf_14 : decode cX3_hasVariablesOf 14 = .ok (.istore 5, 2) := by decide +kernel
theorem dX3_hasVariablesOf_16 : decode cX3_hasVariablesOf 16 = .ok (.lload_n 2, 1) := by decide +kernel
theorem dX3_hasVariablesOf_17 : decode cX3_hasVariablesOf 17 = .ok (.iload 5, 2) := by decide +kernel
theorem dX3_hasVariablesOf_19 : decode cX3_hasVariablesOf 19 = .ok (.invokestatic 26, 3) := by decide +kernel
theorem dX3_hasVariablesOf_22 : decode cX3_hasVariablesOf 22 = .ok (.lload_n 0, 1) := by decide +kernel
theorem dX3_hasVariablesOf_23 : decode cX3_hasVariablesOf 23 = .ok (.iload 5, 2) := by decide +kernel
theorem dX3_hasVariablesOf_25 : decode cX3_hasVariablesOf 25 = .ok (.invokestatic 26, 3) := by decide +kernel
theorem dX3_hasVariablesOf_28 : decode cX3_hasVariablesOf 28 = .ok (.if_icmp .le 5, 3) := by decide +kernel
theorem dX3_hasVariablesOf_31 : decode cX3_hasVariablesOf 31 = .ok (.iconst 0, 1) := by decide +kernel
theorem dX3_hasVariablesOf_32 : decode cX3_hasVariablesOf 32 = .ok (.ireturn, 1) := by decide +kernel
theorem dX3_hasVariablesOf_33 : decode cX3_hasVariablesOf 33 = .ok (.iinc 4 1, 3) := by decide +kernel
theorem dX3_hasVariablesOf_36 : decode cX3_hasVariablesOf 36 = .ok (.goto (-33), 3) := by decide +kernel
theorem dX3_hasVariablesOf_39 : decode cX3_hasVariablesOf 39 = .ok (.iconst 1, 1) := by decide +kernel
theorem dX3_hasVariablesOf_40 : decode cX3_hasVariablesOf 40 = .ok (.ireturn, 1) := by decide +kernel
set_option maxRecDepth 20000 in
theorem ggX3_isGreater_X3_hasVariablesOf : GoodIn wsX3_isGreater wsX3_hasVariablesOf := goodIn_r _ [4, 5, 6, 3, 7, 8, 9, 10, 11, 12, 13] (by decide +kernel) (by decide +kernel)
set_option maxRecDepth 20000 in
theorem gX3_isGreater_X3_hasVariablesOf : GoodIn wsX3_isGreater (va_wsS RX3 29 yX3_hasVariablesOf wsX3_hasVariablesOf) := goodIn_app (goodIn_of _ (by decide +kernel)) ggX3_isGreater_X3_hasVariablesOf
set_option maxRecDepth 20000 in
theorem ggX3_isGreater_X3_sizeOf : GoodIn wsX3_isGreater wsX3_sizeOf := goodIn_r _ [16] (by decide +kernel) (by decide +kernel)
set_option maxRecDepth 20000 in
theorem gX3_isGreater_X3_sizeOf : GoodIn wsX3_isGreater (va_wsS RX3 19 yX3_sizeOf wsX3_sizeOf) := goodIn_app (goodIn_of _ (by decide +kernel)) ggX3_isGreater_X3_sizeOf
set_option maxRecDepth 20000 in
theorem ggX3_isGreater_X3_codeAt : GoodIn wsX3_isGreater wsX3_codeAt := goodIn_r _ [13] (by decide +kernel) (by decide +kernel)
set_option maxRecDepth 20000 in
theorem gX3_isGreater_X3_codeAt : GoodIn wsX3_isGreater (va_wsS RX3 11 yX3_codeAt wsX3_codeAt) := goodIn_app (goodIn_of _ (by decide +kernel)) ggX3_isGreater_X3_codeAt
set_option maxRecDepth 20000 in
theorem ggX3_isGreater_X3_isVariable : GoodIn wsX3_isGreater wsX3_isVariable := goodIn_r _ [19] (by decide +kernel) (by decide +kernel)
set_option maxRecDepth 20000 in
theorem gX3_isGreater_X3_isVariable : GoodIn wsX3_isGreater (va_wsS RX3 33 yX3_isVariable wsX3_isVariable) := goodIn_app (goodIn_of _ (by decide +kernel)) ggX3_isGreater_X3_isVariable
set_option maxRecDepth 20000 in
theorem ggX3_isGreater_X3_endOf : GoodIn wsX3_isGreater wsX3_endOf := goodIn_r _ [22, 11, 12, 3, 13, 23, 24, 25] (by decide +kernel) (by decide +kernel)
set_option maxRecDepth 20000 in
theorem gX3_isGreater_X3_endOf : GoodIn wsX3_isGreater (va_wsS RX3 37 yX3_endOf wsX3_endOf) := goodIn_app (goodIn_of _ (by decide +kernel)) ggX3_isGreater_X3_endOf
set_option maxRecDepth 20000 in
theorem ggX3_isGreater_X3_part : GoodIn wsX3_isGreater wsX3_part := goodIn_r _ [28] (by decide +kernel) (by decide +kernel)
set_option maxRecDepth 20000 in
theorem gX3_isGreater_X3_part : GoodIn wsX3_isGreater (va_wsS RX3 40 yX3_part wsX3_part) := goodIn_app (goodIn_of _ (by decide +kernel)) ggX3_isGreater_X3_part
theorem dX3_isGreater_0 : decode cX3_isGreater 0 = .ok (.lload_n 0, 1) := by decide +kernel
theorem dX3_isGreater_1 : decode cX3_isGreater 1 = .ok (.lstore 4, 2) := by decide +kernel
theorem dX3_isGreater_3 : decode cX3_isGreater 3 = .ok (.lload_n 2, 1) := by decide +kernel
theorem dX3_isGreater_4 : decode cX3_isGreater 4 = .ok (.lstore 6, 2) := by decide +kernel
theorem dX3_isGreater_6 : decode cX3_isGreater 6 = .ok (.iconst 0, 1) := by decide +kernel
theorem dX3_isGreater_7 : decode cX3_isGreater 7 = .ok (.istore 8, 2) := by decide +kernel
theorem dX3_isGreater_9 : decode cX3_isGreater 9 = .ok (.iload 8, 2) := by decide +kernel
theorem dX3_isGreater_11 : decode cX3_isGreater 11 = .ok (.bipush 12, 2) := by decide +kernel
theorem dX3_isGreater_13 : decode cX3_isGreater 13 = .ok (.if_icmp .ge 216, 3) := by decide +kernel
theorem dX3_isGreater_16 : decode cX3_isGreater 16 = .ok (.lload 4, 2) := by decide +kernel
theorem dX3_isGreater_18 : decode cX3_isGreater 18 = .ok (.lload 6, 2) := by decide +kernel
theorem dX3_isGreater_20 : decode cX3_isGreater 20 = .ok (.lcmp, 1) := by decide +kernel
theorem dX3_isGreater_21 : decode cX3_isGreater 21 = .ok (.ifCond .eq 208, 3) := by decide +kernel
theorem dX3_isGreater_24 : decode cX3_isGreater 24 = .ok (.lload 4, 2) := by decide +kernel
theorem dX3_isGreater_26 : decode cX3_isGreater 26 = .ok (.lload 6, 2) := by decide +kernel
theorem dX3_isGreater_28 : decode cX3_isGreater 28 = .ok (.invokestatic 29, 3) := by decide +kernel
theorem dX3_isGreater_31 : decode cX3_isGreater 31 = .ok (.ifCond .ne 5, 3) := by decide +kernel
theorem dX3_isGreater_34 : decode cX3_isGreater 34 = .ok (.iconst 0, 1) := by decide +kernel
theorem dX3_isGreater_35 : decode cX3_isGreater 35 = .ok (.ireturn, 1) := by decide +kernel
theorem dX3_isGreater_36 : decode cX3_isGreater 36 = .ok (.lload 4, 2) := by decide +kernel
theorem dX3_isGreater_38 : decode cX3_isGreater 38 = .ok (.invokestatic 19, 3) := by decide +kernel
theorem dX3_isGreater_41 : decode cX3_isGreater 41 = .ok (.lload 6, 2) := by decide +kernel
theorem dX3_isGreater_43 : decode cX3_isGreater 43 = .ok (.invokestatic 19, 3) := by decide +kernel
theorem dX3_isGreater_46 : decode cX3_isGreater 46 = .ok (.isub, 1) := by decide +kernel
theorem dX3_isGreater_47 : decode cX3_isGreater 47 = .ok (.istore 9, 2) := by decide +kernel
theorem dX3_isGreater_49 : decode cX3_isGreater 49 = .ok (.iload 9, 2) := by decide +kernel
theorem dX3_isGreater_51 : decode cX3_isGreater 51 = .ok (.ifCond .eq 14, 3) := by decide +kernel
theorem dX3_isGreater_54 : decode cX3_isGreater 54 = .ok (.iload 9, 2) := by decide +kernel
theorem dX3_isGreater_56 : decode cX3_isGreater 56 = .ok (.ifCond .le 7, 3) := by decide +kernel
theorem dX3_isGreater_59 : decode cX3_isGreater 59 = .ok (.iconst 1, 1) := by decide +kernel
theorem dX3_isGreater_60 : decode cX3_isGreater 60 = .ok (.goto 4, 3) := by decide +kernel
theorem dX3_isGreater_63 : decode cX3_isGreater 63 = .ok (.iconst 0, 1) := by decide +kernel
theorem dX3_isGreater_64 : decode cX3_isGreater 64 = .ok (.ireturn, 1) := by decide +kernel
theorem dX3_isGreater_65 : decode cX3_isGreater 65 = .ok (.lload 4, 2) := by decide +kernel
theorem dX3_isGreater_67 : decode cX3_isGreater 67 = .ok (.iconst 0, 1) := by decide +kernel
theorem dX3_isGreater_68 : decode cX3_isGreater 68 = .ok (.invokestatic 11, 3) := by decide +kernel
theorem dX3_isGreater_71 : decode cX3_isGreater 71 = .ok (.istore 10, 2) := by decide +kernel
theorem dX3_isGreater_73 : decode cX3_isGreater 73 = .ok (.lload 6, 2) := by decide +kernel
theorem dX3_isGreater_75 : decode cX3_isGreater 75 = .ok (.iconst 0, 1) := by decide +kernel
theorem dX3_isGreater_76 : decode cX3_isGreater 76 = .ok (.invokestatic 11, 3) := by decide +kernel
theorem dX3_isGreater_79 : decode cX3_isGreater 79 = .ok (.istore 11, 2) := by decide +kernel
theorem dX3_isGreater_81 : decode cX3_isGreater 81 = .ok (.iload 10, 2) := by decide +kernel
theorem dX3_isGreater_83 : decode cX3_isGreater 83 = .ok (.invokestatic 33, 3) := by decide +kernel
theorem dX3_isGreater_86 : decode cX3_isGreater 86 = .ok (.ifCond .ne 11, 3) := by decide +kernel
theorem dX3_isGreater_89 : decode cX3_isGreater 89 = .ok (.iload 11, 2) := by decide +kernel
theorem dX3_isGreater_91 : decode cX3_isGreater 91 = .ok (.invokestatic 33, 3) := by decide +kernel
theorem dX3_isGreater_94 : decode cX3_isGreater 94 = .ok (.ifCond .eq 5, 3) := by decide +kernel
theorem dX3_isGreater_97 : decode cX3_isGreater 97 = .ok (.iconst 0, 1) := by decide +kernel
theorem dX3_isGreater_98 : decode cX3_isGreater 98 = .ok (.ireturn, 1) := by decide +kernel
theorem dX3_isGreater_99 : decode cX3_isGreater 99 = .ok (.iload 10, 2) := by decide +kernel
theorem dX3_isGreater_101 : decode cX3_isGreater 101 = .ok (.iload 11, 2) := by decide +kernel
theorem dX3_isGreater_103 : decode cX3_isGreater 103 = .ok (.if_icmp .eq 16, 3) := by decide +kernel
theorem dX3_isGreater_106 : decode cX3_isGreater 106 = .ok (.iload 10, 2) := by decide +kernel
theorem dX3_isGreater_108 : decode cX3_isGreater 108 = .ok (.iload 11, 2) := by decide +kernel
theorem dX3_isGreater_110 : decode cX3_isGreater 110 = .ok (.if_icmp .le 7, 3) := by decide +kernel
theorem dX3_isGreater_113 : decode cX3_isGreater 113 = .ok (.iconst 1, 1) := by decide +kernel
theorem dX3_isGreater_114 : decode cX3_isGreater 114 = .ok (.goto 4, 3) := by decide +kernel
theorem dX3_isGreater_117 : decode cX3_isGreater 117 = .ok (.iconst 0, 1) := by decide +kernel
theorem dX3_isGreater_118 : decode cX3_isGreater 118 = .ok (.ireturn, 1) := by decide +kernel
theorem dX3_isGreater_119 : decode cX3_isGreater 119 = .ok (.lload 4, 2) := by decide +kernel
theorem dX3_isGreater_121 : decode cX3_isGreater 121 = .ok (.iconst 1, 1) := by decide +kernel
theorem dX3_isGreater_122 : decode cX3_isGreater 122 = .ok (.invokestatic 37, 3) := by decide +kernel
theorem dX3_isGreater_125 : decode cX3_isGreater 125 = .ok (.istore 12, 2) := by decide +kernel
theorem dX3_isGreater_127 : decode cX3_isGreater 127 = .ok (.lload 6, 2) := by decide +kernel
theorem dX3_isGreater_129 : decode cX3_isGreater 129 = .ok (.iconst 1, 1) := by decide +kernel
theorem dX3_isGreater_130 : decode cX3_isGreater 130 = .ok (.invokestatic 37, 3) := by decide +kernel
theorem dX3_isGreater_133 : decode cX3_isGreater 133 = .ok (.istore 13, 2) := by decide +kernel
theorem dX3_isGreater_135 : decode cX3_isGreater 135 = .ok (.lload 4, 2) := by decide +kernel
theorem dX3_isGreater_137 : decode cX3_isGreater 137 = .ok (.iconst 1, 1) := by decide +kernel
theorem dX3_isGreater_138 : decode cX3_isGreater 138 = .ok (.iload 12, 2) := by decide +kernel
theorem dX3_isGreater_140 : decode cX3_isGreater 140 = .ok (.invokestatic 40, 3) := by decide +kernel
theorem dX3_isGreater_143 : decode cX3_isGreater 143 = .ok (.lload 6, 2) := by decide +kernel
theorem dX3_isGreater_145 : decode cX3_isGreater 145 = .ok (.iconst 1, 1) := by decide +kernel
theorem dX3_isGreater_146 : decode cX3_isGreater 146 = .ok (.iload 13, 2) := by decide +kernel
theorem dX3_isGreater_148 : decode cX3_isGreater 148 = .ok (.invokestatic 40, 3) := by decide +kernel
theorem dX3_isGreater_151 : decode cX3_isGreater 151 = .ok (.lcmp, 1) := by decide +kernel
theorem dX3_isGreater_152 : decode cX3_isGreater 152 = .ok (.ifCond .ne 7, 3) := by decide +kernel
theorem dX3_isGreater_155 : decode cX3_isGreater 155 = .ok (.iconst 1, 1) := by decide +kernel
theorem dX3_isGreater_156 : decode cX3_isGreater 156 = .ok (.goto 4, 3) := by decide +kernel
theorem dX3_isGreater_159 : decode cX3_isGreater 159 = .ok (.iconst 0, 1) := by decide +kernel
theorem dX3_isGreater_160 : decode cX3_isGreater 160 = .ok (.istore 14, 2) := by decide +kernel
theorem dX3_isGreater_162 : decode cX3_isGreater 162 = .ok (.lload 4, 2) := by decide +kernel
theorem dX3_isGreater_164 : decode cX3_isGreater 164 = .ok (.invokestatic 19, 3) := by decide +kernel
theorem dX3_isGreater_167 : decode cX3_isGreater 167 = .ok (.istore 15, 2) := by decide +kernel
theorem dX3_isGreater_169 : decode cX3_isGreater 169 = .ok (.iload 14, 2) := by decide +kernel
theorem dX3_isGreater_171 : decode cX3_isGreater 171 = .ok (.ifCond .eq 15, 3) := by decide +kernel
theorem dX3_isGreater_174 : decode cX3_isGreater 174 = .ok (.lload 4, 2) := by decide +kernel
theorem dX3_isGreater_176 : decode cX3_isGreater 176 = .ok (.iload 12, 2) := by decide +kernel
theorem dX3_isGreater_178 : decode cX3_isGreater 178 = .ok (.iload 15, 2) := by decide +kernel
theorem dX3_isGreater_180 : decode cX3_isGreater 180 = .ok (.invokestatic 40, 3) := by decide +kernel
theorem dX3_isGreater_183 : decode cX3_isGreater 183 = .ok (.goto 11, 3) := by decide +kernel
theorem dX3_isGreater_186 : decode cX3_isGreater 186 = .ok (.lload 4, 2) := by decide +kernel
theorem dX3_isGreater_188 : decode cX3_isGreater 188 = .ok (.iconst 1, 1) := by decide +kernel
theorem dX3_isGreater_189 : decode cX3_isGreater 189 = .ok (.iload 12, 2) := by decide +kernel
theorem dX3_isGreater_191 : decode cX3_isGreater 191 = .ok (.invokestatic 40, 3) := by decide +kernel
theorem dX3_isGreater_194 : decode cX3_isGreater 194 = .ok (.lstore 4, 2) := by decide +kernel
theorem dX3_isGreater_196 : decode cX3_isGreater 196 = .ok (.iload 14, 2) := by decide +kernel
theorem dX3_isGreater_198 : decode cX3_isGreater 198 = .ok (.ifCond .eq 15, 3) := by decide +kernel
theorem dX3_isGreater_201 : decode cX3_isGreater 201 = .ok (.lload 6, 2) := by decide +kernel
theorem dX3_isGreater_203 : decode cX3_isGreater 203 = .ok (.iload 13, 2) := by decide +kernel
theorem dX3_isGreater_205 : decode cX3_isGreater 205 = .ok (.iload 15, 2) := by decide +kernel
theorem dX3_isGreater_207 : decode cX3_isGreater 207 = .ok (.invokestatic 40, 3) := by decide +kernel
theorem dX3_isGreater_210 : decode cX3_isGreater 210 = .ok (.goto 11, 3) := by decide +kernel
theorem dX3_isGreater_213 : decode cX3_isGreater 213 = .ok (.lload 6, 2) := by decide +kernel
theorem dX3_isGreater_215 : decode cX3_isGreater 215 = .ok (.iconst 1, 1) := by decide +kernel
theorem dX3_isGreater_216 : decode cX3_isGreater 216 = .ok (.iload 13, 2) := by decide +kernel
theorem dX3_isGreater_218 : decode cX3_isGreater 218 = .ok (.invokestatic 40, 3) := by decide +kernel
theorem dX3_isGreater_221 : decode cX3_isGreater 221 = .ok (.lstore 6, 2) := by decide +kernel
theorem dX3_isGreater_223 : decode cX3_isGreater 223 = .ok (.iinc 8 1, 3) := by decide +kernel
theorem dX3_isGreater_226 : decode cX3_isGreater 226 = .ok (.goto (-217), 3) := by decide +kernel
theorem dX3_isGreater_229 : decode cX3_isGreater 229 = .ok (.iconst 0, 1) := by decide +kernel
theorem dX3_isGreater_230 : decode cX3_isGreater 230 = .ok (.ireturn, 1) := by decide +kernel
