def RXI : String := "java/lang/Integer"
def RXG : String := "java/lang/Long"
def RXS : String := "java/lang/String"
def RXP : String := "jdk/internal/util/Preconditions"
def RXT : String := "java/lang/StringLatin1"
abbrev cXI_bitCount : ByteArray := prog_22_method_49_code
def yXI_bitCount : MethodName := ⟨RXI, "bitCount", "(I)I"⟩
theorem dXI_bitCount_0 : decode cXI_bitCount 0 = .ok (.iload_n 0, 1) := by decide +kernel
theorem dXI_bitCount_1 : decode cXI_bitCount 1 = .ok (.iload_n 0, 1) := by decide +kernel
theorem dXI_bitCount_2 : decode cXI_bitCount 2 = .ok (.iconst 1, 1) := by decide +kernel
theorem dXI_bitCount_3 : decode cXI_bitCount 3 = .ok (.iushr, 1) := by decide +kernel
theorem dXI_bitCount_4 : decode cXI_bitCount 4 = .ok (.ldc_w 265, 3) := by decide +kernel
theorem dXI_bitCount_7 : decode cXI_bitCount 7 = .ok (.iand, 1) := by decide +kernel
theorem dXI_bitCount_8 : decode cXI_bitCount 8 = .ok (.isub, 1) := by decide +kernel
theorem dXI_bitCount_9 : decode cXI_bitCount 9 = .ok (.istore_n 0, 1) := by decide +kernel
theorem dXI_bitCount_10 : decode cXI_bitCount 10 = .ok (.iload_n 0, 1) := by decide +kernel
theorem dXI_bitCount_11 : decode cXI_bitCount 11 = .ok (.ldc_w 266, 3) := by decide +kernel
theorem dXI_bitCount_14 : decode cXI_bitCount 14 = .ok (.iand, 1) := by decide +kernel
theorem dXI_bitCount_15 : decode cXI_bitCount 15 = .ok (.iload_n 0, 1) := by decide +kernel
theorem dXI_bitCount_16 : decode cXI_bitCount 16 = .ok (.iconst 2, 1) := by decide +kernel
theorem dXI_bitCount_17 : decode cXI_bitCount 17 = .ok (.iushr, 1) := by decide +kernel
theorem dXI_bitCount_18 : decode cXI_bitCount 18 = .ok (.ldc_w 266, 3) := by decide +kernel
theorem dXI_bitCount_21 : decode cXI_bitCount 21 = .ok (.iand, 1) := by decide +kernel
theorem dXI_bitCount_22 : decode cXI_bitCount 22 = .ok (.iadd, 1) := by decide +kernel
theorem dXI_bitCount_23 : decode cXI_bitCount 23 = .ok (.istore_n 0, 1) := by decide +kernel
theorem dXI_bitCount_24 : decode cXI_bitCount 24 = .ok (.iload_n 0, 1) := by decide +kernel
theorem dXI_bitCount_25 : decode cXI_bitCount 25 = .ok (.iload_n 0, 1) := by decide +kernel
theorem dXI_bitCount_26 : decode cXI_bitCount 26 = .ok (.iconst 4, 1) := by decide +kernel
theorem dXI_bitCount_27 : decode cXI_bitCount 27 = .ok (.iushr, 1) := by decide +kernel
theorem dXI_bitCount_28 : decode cXI_bitCount 28 = .ok (.iadd, 1) := by decide +kernel
theorem dXI_bitCount_29 : decode cXI_bitCount 29 = .ok (.ldc_w 267, 3) := by decide +kernel
theorem dXI_bitCount_32 : decode cXI_bitCount 32 = .ok (.iand, 1) := by decide +kernel
theorem dXI_bitCount_33 : decode cXI_bitCount 33 = .ok (.istore_n 0, 1) := by decide +kernel
theorem dXI_bitCount_34 : decode cXI_bitCount 34 = .ok (.iload_n 0, 1) := by decide +kernel
theorem dXI_bitCount_35 : decode cXI_bitCount 35 = .ok (.iload_n 0, 1) := by decide +kernel
theorem dXI_bitCount_36 : decode cXI_bitCount 36 = .ok (.bipush 8, 2) := by decide +kernel
theorem dXI_bitCount_38 : decode cXI_bitCount 38 = .ok (.iushr, 1) := by decide +kernel
theorem dXI_bitCount_39 : decode cXI_bitCount 39 = .ok (.iadd, 1) := by decide +kernel
theorem dXI_bitCount_40 : decode cXI_bitCount 40 = .ok (.istore_n 0, 1) := by decide +kernel
theorem dXI_bitCount_41 : decode cXI_bitCount 41 = .ok (.iload_n 0, 1) := by decide +kernel
theorem dXI_bitCount_42 : decode cXI_bitCount 42 = .ok (.iload_n 0, 1) := by decide +kernel
theorem dXI_bitCount_43 : decode cXI_bitCount 43 = .ok (.bipush 16, 2) := by decide +kernel
theorem dXI_bitCount_45 : decode cXI_bitCount 45 = .ok (.iushr, 1) := by decide +kernel
theorem dXI_bitCount_46 : decode cXI_bitCount 46 = .ok (.iadd, 1) := by decide +kernel
theorem dXI_bitCount_47 : decode cXI_bitCount 47 = .ok (.istore_n 0, 1) := by decide +kernel
theorem dXI_bitCount_48 : decode cXI_bitCount 48 = .ok (.iload_n 0, 1) := by decide +kernel
theorem dXI_bitCount_49 : decode cXI_bitCount 49 = .ok (.bipush 63, 2) := by decide +kernel
theorem dXI_bitCount_51 : decode cXI_bitCount 51 = .ok (.iand, 1) := by decide +kernel
theorem dXI_bitCount_52 : decode cXI_bitCount 52 = .ok (.ireturn, 1) := by decide +kernel
set_option maxRecDepth 30000 in
theorem wk_728 : Cond.code yXI_bitCount cXI_bitCount 1 (some .int) ∈ GW := GW_t4 8 rfl rfl
abbrev cXI_ntz : ByteArray := prog_22_method_48_code
def yXI_ntz : MethodName := ⟨RXI, "numberOfTrailingZeros", "(I)I"⟩
theorem dXI_ntz_0 : decode cXI_ntz 0 = .ok (.iload_n 0, 1) := by decide +kernel
theorem dXI_ntz_1 : decode cXI_ntz 1 = .ok (.iconst (-1), 1) := by decide +kernel
theorem dXI_ntz_2 : decode cXI_ntz 2 = .ok (.ixor, 1) := by decide +kernel
theorem dXI_ntz_3 : decode cXI_ntz 3 = .ok (.iload_n 0, 1) := by decide +kernel
theorem dXI_ntz_4 : decode cXI_ntz 4 = .ok (.iconst 1, 1) := by decide +kernel
theorem dXI_ntz_5 : decode cXI_ntz 5 = .ok (.isub, 1) := by decide +kernel
theorem dXI_ntz_6 : decode cXI_ntz 6 = .ok (.iand, 1) := by decide +kernel
theorem dXI_ntz_7 : decode cXI_ntz 7 = .ok (.istore_n 0, 1) := by decide +kernel
theorem dXI_ntz_8 : decode cXI_ntz 8 = .ok (.iload_n 0, 1) := by decide +kernel
theorem dXI_ntz_9 : decode cXI_ntz 9 = .ok (.ifCond .gt 8, 3) := by decide +kernel
theorem dXI_ntz_12 : decode cXI_ntz 12 = .ok (.iload_n 0, 1) := by decide +kernel
theorem dXI_ntz_13 : decode cXI_ntz 13 = .ok (.bipush 32, 2) := by decide +kernel
theorem dXI_ntz_15 : decode cXI_ntz 15 = .ok (.iand, 1) := by decide +kernel
theorem dXI_ntz_16 : decode cXI_ntz 16 = .ok (.ireturn, 1) := by decide +kernel
theorem dXI_ntz_17 : decode cXI_ntz 17 = .ok (.iconst 1, 1) := by decide +kernel
theorem dXI_ntz_18 : decode cXI_ntz 18 = .ok (.istore_n 1, 1) := by decide +kernel
theorem dXI_ntz_19 : decode cXI_ntz 19 = .ok (.iload_n 0, 1) := by decide +kernel
theorem dXI_ntz_20 : decode cXI_ntz 20 = .ok (.ldc_w 264, 3) := by decide +kernel
theorem dXI_ntz_23 : decode cXI_ntz 23 = .ok (.if_icmp .le 11, 3) := by decide +kernel
theorem dXI_ntz_26 : decode cXI_ntz 26 = .ok (.iinc 1 16, 3) := by decide +kernel
theorem dXI_ntz_29 : decode cXI_ntz 29 = .ok (.iload_n 0, 1) := by decide +kernel
theorem dXI_ntz_30 : decode cXI_ntz 30 = .ok (.bipush 16, 2) := by decide +kernel
theorem dXI_ntz_32 : decode cXI_ntz 32 = .ok (.iushr, 1) := by decide +kernel
theorem dXI_ntz_33 : decode cXI_ntz 33 = .ok (.istore_n 0, 1) := by decide +kernel
theorem dXI_ntz_34 : decode cXI_ntz 34 = .ok (.iload_n 0, 1) := by decide +kernel
theorem dXI_ntz_35 : decode cXI_ntz 35 = .ok (.sipush 256, 3) := by decide +kernel
theorem dXI_ntz_38 : decode cXI_ntz 38 = .ok (.if_icmp .le 11, 3) := by decide +kernel
theorem dXI_ntz_41 : decode cXI_ntz 41 = .ok (.iinc 1 8, 3) := by decide +kernel
theorem dXI_ntz_44 : decode cXI_ntz 44 = .ok (.iload_n 0, 1) := by decide +kernel
theorem dXI_ntz_45 : decode cXI_ntz 45 = .ok (.bipush 8, 2) := by decide +kernel
theorem dXI_ntz_47 : decode cXI_ntz 47 = .ok (.iushr, 1) := by decide +kernel
theorem dXI_ntz_48 : decode cXI_ntz 48 = .ok (.istore_n 0, 1) := by decide +kernel
theorem dXI_ntz_49 : decode cXI_ntz 49 = .ok (.iload_n 0, 1) := by decide +kernel
theorem dXI_ntz_50 : decode cXI_ntz 50 = .ok (.bipush 16, 2) := by decide +kernel
theorem dXI_ntz_52 : decode cXI_ntz 52 = .ok (.if_icmp .le 10, 3) := by decide +kernel
theorem dXI_ntz_55 : decode cXI_ntz 55 = .ok (.iinc 1 4, 3) := by decide +kernel
theorem dXI_ntz_58 : decode cXI_ntz 58 = .ok (.iload_n 0, 1) := by decide +kernel
theorem dXI_ntz_59 : decode cXI_ntz 59 = .ok (.iconst 4, 1) := by decide +kernel
theorem dXI_ntz_60 : decode cXI_ntz 60 = .ok (.iushr, 1) := by decide +kernel
theorem dXI_ntz_61 : decode cXI_ntz 61 = .ok (.istore_n 0, 1) := by decide +kernel
theorem dXI_ntz_62 : decode cXI_ntz 62 = .ok (.iload_n 0, 1) := by decide +kernel
theorem dXI_ntz_63 : decode cXI_ntz 63 = .ok (.iconst 4, 1) := by decide +kernel
theorem dXI_ntz_64 : decode cXI_ntz 64 = .ok (.if_icmp .le 10, 3) := by decide +kernel
theorem dXI_ntz_67 : decode cXI_ntz 67 = .ok (.iinc 1 2, 3) := by decide +kernel
theorem dXI_ntz_70 : decode cXI_ntz 70 = .ok (.iload_n 0, 1) := by decide +kernel
theorem dXI_ntz_71 : decode cXI_ntz 71 = .ok (.iconst 2, 1) := by decide +kernel
theorem dXI_ntz_72 : decode cXI_ntz 72 = .ok (.iushr, 1) := by decide +kernel
theorem dXI_ntz_73 : decode cXI_ntz 73 = .ok (.istore_n 0, 1) := by decide +kernel
theorem dXI_ntz_74 : decode cXI_ntz 74 = .ok (.iload_n 1, 1) := by decide +kernel
theorem dXI_ntz_75 : decode cXI_ntz 75 = .ok (.iload_n 0, 1) := by decide +kernel
theorem dXI_ntz_76 : decode cXI_ntz 76 = .ok (.iconst 1, 1) := by decide +kernel
theorem dXI_ntz_77 : decode cXI_ntz 77 = .ok (.iushr, 1) := by decide +kernel
theorem dXI_ntz_78 : decode cXI_ntz 78 = .ok (.iadd, 1) := by decide +kernel
theorem dXI_ntz_79 : decode cXI_ntz 79 = .ok (.ireturn, 1) := by decide +kernel
set_option maxRecDepth 30000 in
theorem wk_1424 : Cond.code yXI_ntz cXI_ntz 2 (some .int) ∈ GW := GW_t6 224 rfl rfl
abbrev cXG_ntz : ByteArray := prog_23_method_49_code
def yXG_ntz : MethodName := ⟨RXG, "numberOfTrailingZeros", "(J)I"⟩
theorem dXG_ntz_0 : decode cXG_ntz 0 = .ok (.lload_n 0, 1) := by decide +kernel
theorem dXG_ntz_1 : decode cXG_ntz 1 = .ok (.l2i, 1) := by decide +kernel
theorem dXG_ntz_2 : decode cXG_ntz 2 = .ok (.istore_n 2, 1) := by decide +kernel
theorem dXG_ntz_3 : decode cXG_ntz 3 = .ok (.iload_n 2, 1) := by decide +kernel
theorem dXG_ntz_4 : decode cXG_ntz 4 = .ok (.ifCond .ne 17, 3) := by decide +kernel
theorem dXG_ntz_7 : decode cXG_ntz 7 = .ok (.bipush 32, 2) := by decide +kernel
theorem dXG_ntz_9 : decode cXG_ntz 9 = .ok (.lload_n 0, 1) := by decide +kernel
theorem dXG_ntz_10 : decode cXG_ntz 10 = .ok (.bipush 32, 2) := by decide +kernel
theorem dXG_ntz_12 : decode cXG_ntz 12 = .ok (.lushr, 1) := by decide +kernel
theorem dXG_ntz_13 : decode cXG_ntz 13 = .ok (.l2i, 1) := by decide +kernel
theorem dXG_ntz_14 : decode cXG_ntz 14 = .ok (.invokestatic 311, 3) := by decide +kernel
theorem dXG_ntz_17 : decode cXG_ntz 17 = .ok (.iadd, 1) := by decide +kernel
theorem dXG_ntz_18 : decode cXG_ntz 18 = .ok (.goto 7, 3) := by decide +kernel
theorem dXG_ntz_21 : decode cXG_ntz 21 = .ok (.iload_n 2, 1) := by decide +kernel
theorem dXG_ntz_22 : decode cXG_ntz 22 = .ok (.invokestatic 311, 3) := by decide +kernel
theorem dXG_ntz_25 : decode cXG_ntz 25 = .ok (.ireturn, 1) := by decide +kernel
set_option maxRecDepth 30000 in
theorem wk_2174 : Cond.code yXG_ntz cXG_ntz 3 (some .int) ∈ GW := GW_t10 14 rfl rfl
abbrev cXS_coder : ByteArray := prog_27_method_152_code
def yXS_coder : MethodName := ⟨RXS, "coder", "()B"⟩
theorem dXS_coder_0 : decode cXS_coder 0 = .ok (.getstatic 38, 3) := by decide +kernel
theorem dXS_coder_3 : decode cXS_coder 3 = .ok (.ifCond .eq 10, 3) := by decide +kernel
theorem dXS_coder_6 : decode cXS_coder 6 = .ok (.aload_n 0, 1) := by decide +kernel
theorem dXS_coder_7 : decode cXS_coder 7 = .ok (.getfield 15, 3) := by decide +kernel
theorem dXS_coder_10 : decode cXS_coder 10 = .ok (.goto 4, 3) := by decide +kernel
theorem dXS_coder_13 : decode cXS_coder 13 = .ok (.iconst 1, 1) := by decide +kernel
theorem dXS_coder_14 : decode cXS_coder 14 = .ok (.ireturn, 1) := by decide +kernel
set_option maxRecDepth 30000 in
theorem wk_784 : Cond.code yXS_coder cXS_coder 1 (some .byte) ∈ GW := GW_t4 64 rfl rfl
abbrev cXS_length : ByteArray := prog_27_method_54_code
def yXS_length : MethodName := ⟨RXS, "length", "()I"⟩
theorem dXS_length_0 : decode cXS_length 0 = .ok (.aload_n 0, 1) := by decide +kernel
theorem dXS_length_1 : decode cXS_length 1 = .ok (.getfield 9, 3) := by decide +kernel
theorem dXS_length_4 : decode cXS_length 4 = .ok (.arraylength, 1) := by decide +kernel
theorem dXS_length_5 : decode cXS_length 5 = .ok (.aload_n 0, 1) := by decide +kernel
theorem dXS_length_6 : decode cXS_length 6 = .ok (.invokevirtual 335, 3) := by decide +kernel
theorem dXS_length_9 : decode cXS_length 9 = .ok (.ishr, 1) := by decide +kernel
theorem dXS_length_10 : decode cXS_length 10 = .ok (.ireturn, 1) := by decide +kernel
set_option maxRecDepth 30000 in
theorem wk_780 : Cond.code yXS_length cXS_length 1 (some .int) ∈ GW := GW_t4 60 rfl rfl
abbrev cXS_isLatin1 : ByteArray := prog_27_method_154_code
def yXS_isLatin1 : MethodName := ⟨RXS, "isLatin1", "()Z"⟩
theorem dXS_isLatin1_0 : decode cXS_isLatin1 0 = .ok (.getstatic 38, 3) := by decide +kernel
theorem dXS_isLatin1_3 : decode cXS_isLatin1 3 = .ok (.ifCond .eq 14, 3) := by decide +kernel
theorem dXS_isLatin1_6 : decode cXS_isLatin1 6 = .ok (.aload_n 0, 1) := by decide +kernel
theorem dXS_isLatin1_7 : decode cXS_isLatin1 7 = .ok (.getfield 15, 3) := by decide +kernel
theorem dXS_isLatin1_10 : decode cXS_isLatin1 10 = .ok (.ifCond .ne 7, 3) := by decide +kernel
theorem dXS_isLatin1_13 : decode cXS_isLatin1 13 = .ok (.iconst 1, 1) := by decide +kernel
theorem dXS_isLatin1_14 : decode cXS_isLatin1 14 = .ok (.goto 4, 3) := by decide +kernel
theorem dXS_isLatin1_17 : decode cXS_isLatin1 17 = .ok (.iconst 0, 1) := by decide +kernel
theorem dXS_isLatin1_18 : decode cXS_isLatin1 18 = .ok (.ireturn, 1) := by decide +kernel
set_option maxRecDepth 30000 in
theorem wk_794 : Cond.code yXS_isLatin1 cXS_isLatin1 1 (some .boolean) ∈ GW := GW_t4 74 rfl rfl
abbrev cXP_checkIndex : ByteArray := prog_36_method_11_code
def yXP_checkIndex : MethodName := ⟨RXP, "checkIndex", "(IILjava/util/function/BiFunction;)I"⟩
theorem dXP_checkIndex_0 : decode cXP_checkIndex 0 = .ok (.iload_n 0, 1) := by decide +kernel
theorem dXP_checkIndex_1 : decode cXP_checkIndex 1 = .ok (.ifCond .lt 8, 3) := by decide +kernel
theorem dXP_checkIndex_4 : decode cXP_checkIndex 4 = .ok (.iload_n 0, 1) := by decide +kernel
theorem dXP_checkIndex_5 : decode cXP_checkIndex 5 = .ok (.iload_n 1, 1) := by decide +kernel
theorem dXP_checkIndex_6 : decode cXP_checkIndex 6 = .ok (.if_icmp .lt 10, 3) := by decide +kernel
theorem dXP_checkIndex_9 : decode cXP_checkIndex 9 = .ok (.aload_n 2, 1) := by decide +kernel
theorem dXP_checkIndex_10 : decode cXP_checkIndex 10 = .ok (.iload_n 0, 1) := by decide +kernel
theorem dXP_checkIndex_11 : decode cXP_checkIndex 11 = .ok (.iload_n 1, 1) := by decide +kernel
theorem dXP_checkIndex_12 : decode cXP_checkIndex 12 = .ok (.invokestatic 95, 3) := by decide +kernel
theorem dXP_checkIndex_15 : decode cXP_checkIndex 15 = .ok (.athrow, 1) := by decide +kernel
theorem dXP_checkIndex_16 : decode cXP_checkIndex 16 = .ok (.iload_n 0, 1) := by decide +kernel
theorem dXP_checkIndex_17 : decode cXP_checkIndex 17 = .ok (.ireturn, 1) := by decide +kernel
set_option maxRecDepth 30000 in
theorem wk_805 : Cond.code yXP_checkIndex cXP_checkIndex 3 (some .int) ∈ GW := GW_t4 85 rfl rfl
abbrev cXS_checkIndex : ByteArray := prog_27_method_155_code
def yXS_checkIndex : MethodName := ⟨RXS, "checkIndex", "(II)V"⟩
theorem dXS_checkIndex_0 : decode cXS_checkIndex 0 = .ok (.iload_n 0, 1) := by decide +kernel
theorem dXS_checkIndex_1 : decode cXS_checkIndex 1 = .ok (.iload_n 1, 1) := by decide +kernel
theorem dXS_checkIndex_2 : decode cXS_checkIndex 2 = .ok (.getstatic 1053, 3) := by decide +kernel
theorem dXS_checkIndex_5 : decode cXS_checkIndex 5 = .ok (.invokestatic 1059, 3) := by decide +kernel
theorem dXS_checkIndex_8 : decode cXS_checkIndex 8 = .ok (.pop, 1) := by decide +kernel
theorem dXS_checkIndex_9 : decode cXS_checkIndex 9 = .ok (.return_, 1) := by decide +kernel
set_option maxRecDepth 30000 in
theorem wk_800 : Cond.code yXS_checkIndex cXS_checkIndex 2 none ∈ GW := GW_t4 80 rfl rfl
abbrev cXT_charAt : ByteArray := prog_28_method_2_code
def yXT_charAt : MethodName := ⟨RXT, "charAt", "([BI)C"⟩
theorem dXT_charAt_0 : decode cXT_charAt 0 = .ok (.iload_n 1, 1) := by decide +kernel
theorem dXT_charAt_1 : decode cXT_charAt 1 = .ok (.aload_n 0, 1) := by decide +kernel
theorem dXT_charAt_2 : decode cXT_charAt 2 = .ok (.arraylength, 1) := by decide +kernel
theorem dXT_charAt_3 : decode cXT_charAt 3 = .ok (.invokestatic 9, 3) := by decide +kernel
theorem dXT_charAt_6 : decode cXT_charAt 6 = .ok (.aload_n 0, 1) := by decide +kernel
theorem dXT_charAt_7 : decode cXT_charAt 7 = .ok (.iload_n 1, 1) := by decide +kernel
theorem dXT_charAt_8 : decode cXT_charAt 8 = .ok (.baload, 1) := by decide +kernel
theorem dXT_charAt_9 : decode cXT_charAt 9 = .ok (.sipush 255, 3) := by decide +kernel
theorem dXT_charAt_12 : decode cXT_charAt 12 = .ok (.iand, 1) := by decide +kernel
theorem dXT_charAt_13 : decode cXT_charAt 13 = .ok (.i2c, 1) := by decide +kernel
theorem dXT_charAt_14 : decode cXT_charAt 14 = .ok (.ireturn, 1) := by decide +kernel
set_option maxRecDepth 30000 in
theorem wk_797 : Cond.code yXT_charAt cXT_charAt 2 (some .char) ∈ GW := GW_t4 77 rfl rfl
abbrev cXS_charAt : ByteArray := prog_27_method_56_code
def yXS_charAt : MethodName := ⟨RXS, "charAt", "(I)C"⟩
theorem dXS_charAt_0 : decode cXS_charAt 0 = .ok (.aload_n 0, 1) := by decide +kernel
theorem dXS_charAt_1 : decode cXS_charAt 1 = .ok (.invokevirtual 492, 3) := by decide +kernel
theorem dXS_charAt_4 : decode cXS_charAt 4 = .ok (.ifCond .eq 12, 3) := by decide +kernel
theorem dXS_charAt_7 : decode cXS_charAt 7 = .ok (.aload_n 0, 1) := by decide +kernel
theorem dXS_charAt_8 : decode cXS_charAt 8 = .ok (.getfield 9, 3) := by decide +kernel
theorem dXS_charAt_11 : decode cXS_charAt 11 = .ok (.iload_n 1, 1) := by decide +kernel
theorem dXS_charAt_12 : decode cXS_charAt 12 = .ok (.invokestatic 495, 3) := by decide +kernel
theorem dXS_charAt_15 : decode cXS_charAt 15 = .ok (.ireturn, 1) := by decide +kernel
theorem dXS_charAt_16 : decode cXS_charAt 16 = .ok (.aload_n 0, 1) := by decide +kernel
theorem dXS_charAt_17 : decode cXS_charAt 17 = .ok (.getfield 9, 3) := by decide +kernel
theorem dXS_charAt_20 : decode cXS_charAt 20 = .ok (.iload_n 1, 1) := by decide +kernel
theorem dXS_charAt_21 : decode cXS_charAt 21 = .ok (.invokestatic 498, 3) := by decide +kernel
theorem dXS_charAt_24 : decode cXS_charAt 24 = .ok (.ireturn, 1) := by decide +kernel
set_option maxRecDepth 30000 in
theorem wk_790 : Cond.code yXS_charAt cXS_charAt 2 (some .char) ∈ GW := GW_t4 70 rfl rfl
