def GW : List Cond := lw_tbl.filter goodWord
theorem GW_in {w : Cond} (h : w ∈ GW) : w ∈ lw_tbl := (List.mem_filter.mp h).1
theorem GW_t1 {w : Cond} (i : Nat) (h : tables_1_1[i]? = some w) (g : goodWord w = true) : w ∈ GW := List.mem_filter.mpr ⟨List.mem_append_right _ ((List.mem_append_left _ (List.mem_of_getElem? h))), g⟩
theorem GW_t2 {w : Cond} (i : Nat) (h : tables_1_2[i]? = some w) (g : goodWord w = true) : w ∈ GW := List.mem_filter.mpr ⟨List.mem_append_right _ (List.mem_append_right _ ((List.mem_append_left _ (List.mem_of_getElem? h)))), g⟩
theorem GW_t3 {w : Cond} (i : Nat) (h : tables_1_3[i]? = some w) (g : goodWord w = true) : w ∈ GW := List.mem_filter.mpr ⟨List.mem_append_right _ (List.mem_append_right _ (List.mem_append_right _ ((List.mem_append_left _ (List.mem_of_getElem? h))))), g⟩
theorem GW_t4 {w : Cond} (i : Nat) (h : tables_1_4[i]? = some w) (g : goodWord w = true) : w ∈ GW := List.mem_filter.mpr ⟨List.mem_append_right _ (List.mem_append_right _ (List.mem_append_right _ (List.mem_append_right _ ((List.mem_append_left _ (List.mem_of_getElem? h)))))), g⟩
theorem GW_t5 {w : Cond} (i : Nat) (h : tables_1_5[i]? = some w) (g : goodWord w = true) : w ∈ GW := List.mem_filter.mpr ⟨List.mem_append_right _ (List.mem_append_right _ (List.mem_append_right _ (List.mem_append_right _ (List.mem_append_right _ ((List.mem_append_left _ (List.mem_of_getElem? h))))))), g⟩
theorem GW_t6 {w : Cond} (i : Nat) (h : tables_1_6[i]? = some w) (g : goodWord w = true) : w ∈ GW := List.mem_filter.mpr ⟨List.mem_append_right _ (List.mem_append_right _ (List.mem_append_right _ (List.mem_append_right _ (List.mem_append_right _ (List.mem_append_right _ ((List.mem_append_left _ (List.mem_of_getElem? h)))))))), g⟩
theorem GW_t7 {w : Cond} (i : Nat) (h : tables_1_7[i]? = some w) (g : goodWord w = true) : w ∈ GW := List.mem_filter.mpr ⟨List.mem_append_right _ (List.mem_append_right _ (List.mem_append_right _ (List.mem_append_right _ (List.mem_append_right _ (List.mem_append_right _ (List.mem_append_right _ ((List.mem_append_left _ (List.mem_of_getElem? h))))))))), g⟩
theorem GW_t8 {w : Cond} (i : Nat) (h : tables_1_8[i]? = some w) (g : goodWord w = true) : w ∈ GW := List.mem_filter.mpr ⟨List.mem_append_right _ (List.mem_append_right _ (List.mem_append_right _ (List.mem_append_right _ (List.mem_append_right _ (List.mem_append_right _ (List.mem_append_right _ (List.mem_append_right _ ((List.mem_append_left _ (List.mem_of_getElem? h)))))))))), g⟩
theorem GW_t9 {w : Cond} (i : Nat) (h : tables_1_9[i]? = some w) (g : goodWord w = true) : w ∈ GW := List.mem_filter.mpr ⟨List.mem_append_right _ (List.mem_append_right _ (List.mem_append_right _ (List.mem_append_right _ (List.mem_append_right _ (List.mem_append_right _ (List.mem_append_right _ (List.mem_append_right _ (List.mem_append_right _ ((List.mem_append_left _ (List.mem_of_getElem? h))))))))))), g⟩
theorem GW_t10 {w : Cond} (i : Nat) (h : tables_1_10[i]? = some w) (g : goodWord w = true) : w ∈ GW := List.mem_filter.mpr ⟨List.mem_append_right _ (List.mem_append_right _ (List.mem_append_right _ (List.mem_append_right _ (List.mem_append_right _ (List.mem_append_right _ (List.mem_append_right _ (List.mem_append_right _ (List.mem_append_right _ (List.mem_append_right _ (((List.mem_of_getElem? h)))))))))))), g⟩
theorem GW_p {w : Cond} (i : Nat) (h : (k2_sels lw_privs)[i]? = some w) (g : goodWord w = true) : w ∈ GW := List.mem_filter.mpr ⟨List.mem_append_left _ (List.mem_of_getElem? h), g⟩
theorem GW_good {w : Cond} (h : w ∈ GW) : goodWord w = true := (List.mem_filter.mp h).2
set_option maxRecDepth 30000 in
theorem wk_0 : Cond.initialized "DryDockLaw" ∈ GW := GW_t1 0 rfl rfl
set_option maxRecDepth 30000 in
theorem wk_1 : Cond.initialized "DryDock" ∈ GW := GW_t1 1 rfl rfl
set_option maxRecDepth 30000 in
theorem wk_2 : Cond.initialized "DryDock$Tape" ∈ GW := GW_t1 2 rfl rfl
set_option maxRecDepth 30000 in
theorem wk_3 : Cond.initialized "DryDock$State" ∈ GW := GW_t1 3 rfl rfl
set_option maxRecDepth 30000 in
theorem wk_4 : Cond.initialized "DryDock$Log" ∈ GW := GW_t1 4 rfl rfl
set_option maxRecDepth 30000 in
theorem wk_5 : Cond.initialized "DryDock$Law" ∈ GW := GW_t1 5 rfl rfl
set_option maxRecDepth 30000 in
theorem wk_6 : Cond.initialized "DryDock$Reader" ∈ GW := GW_t1 6 rfl rfl
set_option maxRecDepth 30000 in
theorem wk_7 : Cond.initialized "DryDock$DockReader" ∈ GW := GW_t1 7 rfl rfl
set_option maxRecDepth 30000 in
theorem wk_8 : Cond.initialized "DryDock$LawReader" ∈ GW := GW_t1 8 rfl rfl
set_option maxRecDepth 30000 in
theorem wk_9 : Cond.initialized "DryDock$Past" ∈ GW := GW_t1 9 rfl rfl
set_option maxRecDepth 30000 in
theorem wk_10 : Cond.initialized "DryDock$Curves" ∈ GW := GW_t1 10 rfl rfl
set_option maxRecDepth 30000 in
theorem wk_11 : Cond.initialized "DryDock$Soundings" ∈ GW := GW_t1 11 rfl rfl
set_option maxRecDepth 30000 in
theorem wk_12 : Cond.initialized "DryDock$Plans" ∈ GW := GW_t1 12 rfl rfl
set_option maxRecDepth 30000 in
theorem wk_13 : Cond.initialized "DryDockModel" ∈ GW := GW_t1 13 rfl rfl
set_option maxRecDepth 30000 in
theorem wk_14 : Cond.initialized "java/lang/System" ∈ GW := GW_t1 14 rfl rfl
set_option maxRecDepth 30000 in
theorem wk_15 : Cond.initialized "java/lang/String" ∈ GW := GW_t1 15 rfl rfl
set_option maxRecDepth 30000 in
theorem wk_16 : Cond.initialized "java/lang/StringLatin1" ∈ GW := GW_t1 16 rfl rfl
set_option maxRecDepth 30000 in
theorem wk_17 : Cond.initialized "jdk/internal/util/Preconditions" ∈ GW := GW_t1 17 rfl rfl
set_option maxRecDepth 30000 in
theorem wk_18 : Cond.initialized "java/lang/StringUTF16" ∈ GW := GW_t1 18 rfl rfl
set_option maxRecDepth 30000 in
theorem wk_19 : Cond.initialized "java/lang/Throwable" ∈ GW := GW_t1 19 rfl rfl
set_option maxRecDepth 30000 in
theorem wk_20 : Cond.initialized "java/lang/Exception" ∈ GW := GW_t1 20 rfl rfl
set_option maxRecDepth 30000 in
theorem wk_21 : Cond.initialized "java/lang/RuntimeException" ∈ GW := GW_t1 21 rfl rfl
set_option maxRecDepth 30000 in
theorem wk_22 : Cond.initialized "java/lang/IllegalArgumentException" ∈ GW := GW_t1 22 rfl rfl
set_option maxRecDepth 30000 in
theorem wk_23 : Cond.initialized "java/lang/UnsupportedOperationException" ∈ GW := GW_t1 23 rfl rfl
set_option maxRecDepth 30000 in
theorem wk_24 : Cond.initialized "java/lang/IndexOutOfBoundsException" ∈ GW := GW_t1 24 rfl rfl
set_option maxRecDepth 30000 in
theorem wk_25 : Cond.initialized "java/util/NoSuchElementException" ∈ GW := GW_t1 25 rfl rfl
set_option maxRecDepth 30000 in
theorem wk_26 : Cond.initialized "java/lang/Math" ∈ GW := GW_t1 26 rfl rfl
set_option maxRecDepth 30000 in
theorem wk_27 : Cond.initialized "java/lang/IllegalStateException" ∈ GW := GW_t1 27 rfl rfl
set_option maxRecDepth 30000 in
theorem wk_28 : Cond.initialized "java/lang/Number" ∈ GW := GW_t1 28 rfl rfl
set_option maxRecDepth 30000 in
theorem wk_29 : Cond.initialized "java/lang/Integer" ∈ GW := GW_t1 29 rfl rfl
set_option maxRecDepth 30000 in
theorem wk_30 : Cond.initialized "java/lang/Long" ∈ GW := GW_t1 30 rfl rfl
set_option maxRecDepth 30000 in
theorem wk_31 : Cond.classLink "DryDockLaw" 8 "DryDock" ∈ GW := GW_t1 31 rfl rfl
set_option maxRecDepth 30000 in
theorem wk_32 : Cond.instantiable "DryDock" 15 ∈ GW := GW_t1 32 rfl rfl
set_option maxRecDepth 30000 in
theorem wk_33 : Cond.methodLink "DryDockLaw" 114 ⟨"DryDock", "<init>", "()V"⟩ ∈ GW := GW_t1 33 rfl rfl
set_option maxRecDepth 30000 in
theorem wk_34 : Cond.instanceMethod ⟨"DryDock", "<init>", "()V"⟩ ∈ GW := GW_t1 34 rfl rfl
set_option maxRecDepth 30000 in
theorem wk_35 : Cond.code yX11_init cX11_init 1 none ∈ GW := GW_t1 35 rfl rfl
set_option maxRecDepth 30000 in
theorem wk_36 : Cond.methodLink "DryDock" 1 ⟨"java/lang/Object", "<init>", "()V"⟩ ∈ GW := GW_t1 36 rfl rfl
set_option maxRecDepth 30000 in
theorem wk_37 : Cond.instanceMethod ⟨"java/lang/Object", "<init>", "()V"⟩ ∈ GW := GW_t1 37 rfl rfl
set_option maxRecDepth 30000 in
theorem wk_39 : Cond.classLink "DryDock" 7 "DryDock$Tape" ∈ GW := GW_t1 39 rfl rfl
set_option maxRecDepth 30000 in
theorem wk_40 : Cond.instantiable "DryDock$Tape" 2 ∈ GW := GW_t1 40 rfl rfl
set_option maxRecDepth 30000 in
theorem wk_42 : Cond.instanceMethod ⟨"DryDock$Tape", "<init>", "()V"⟩ ∈ GW := GW_t1 42 rfl rfl
set_option maxRecDepth 30000 in
theorem wk_43 : Cond.code yX10_init cX10_init 1 none ∈ GW := GW_t1 43 rfl rfl
set_option maxRecDepth 30000 in
theorem wk_44 : Cond.methodLink "DryDock$Tape" 3 ⟨"java/lang/Object", "<init>", "()V"⟩ ∈ GW := GW_t1 44 rfl rfl
set_option maxRecDepth 30000 in
theorem wk_45 : Cond.fieldLink "DryDock$Tape" 9 "DryDock$Tape" "bytes" "[B" ∈ GW := GW_t1 45 rfl rfl
set_option maxRecDepth 30000 in
theorem wk_46 : Cond.fieldLink "DryDock$Reader" 48 "DryDock$Tape" "bytes" "[B" ∈ GW := GW_t1 46 rfl rfl
set_option maxRecDepth 30000 in
theorem wk_47 : Cond.fieldLink "DryDock" 92 "DryDock$Tape" "size" "I" ∈ GW := GW_t1 47 rfl rfl
set_option maxRecDepth 30000 in
theorem wk_48 : Cond.fieldLink "DryDock$Curves" 28 "DryDock$Tape" "size" "I" ∈ GW := GW_t1 48 rfl rfl
set_option maxRecDepth 30000 in
theorem wk_49 : Cond.fieldLink "DryDock$Soundings" 26 "DryDock$Tape" "size" "I" ∈ GW := GW_t1 49 rfl rfl
set_option maxRecDepth 30000 in
theorem wk_50 : Cond.fieldLink "DryDock$Tape" 15 "DryDock$Tape" "size" "I" ∈ GW := GW_t1 50 rfl rfl
set_option maxRecDepth 30000 in
theorem wk_51 : Cond.fieldLink "DryDock$Reader" 43 "DryDock$Tape" "size" "I" ∈ GW := GW_t1 51 rfl rfl
set_option maxRecDepth 30000 in
theorem wk_52 : Cond.laysFinal "DryDock$Tape" "DryDock$Tape" "bytes" "[B" ∈ GW := GW_t1 52 rfl rfl
set_option maxRecDepth 30000 in
theorem wk_54 : Cond.lays "DryDock$Tape" "DryDock$Tape" "size" "I" ∈ GW := GW_t1 54 rfl rfl
set_option maxRecDepth 30000 in
theorem wk_57 : Cond.arrayClass FieldType.byte ∈ GW := GW_t1 57 rfl rfl
set_option maxRecDepth 30000 in
theorem wk_58 : Cond.classLink "DryDock" 16 "DryDock$State" ∈ GW := GW_t1 58 rfl rfl
set_option maxRecDepth 30000 in
theorem wk_59 : Cond.instantiable "DryDock$State" 19 ∈ GW := GW_t1 59 rfl rfl
set_option maxRecDepth 30000 in
theorem wk_61 : Cond.instanceMethod ⟨"DryDock$State", "<init>", "()V"⟩ ∈ GW := GW_t1 61 rfl rfl
set_option maxRecDepth 30000 in
theorem wk_62 : Cond.code yX9_init cX9_init 1 none ∈ GW := GW_t1 62 rfl rfl
set_option maxRecDepth 30000 in
theorem wk_63 : Cond.methodLink "DryDock$State" 3 ⟨"java/lang/Object", "<init>", "()V"⟩ ∈ GW := GW_t1 63 rfl rfl
set_option maxRecDepth 30000 in
theorem wk_64 : Cond.classLink "DryDock$State" 47 "DryDock$Log" ∈ GW := GW_t1 64 rfl rfl
set_option maxRecDepth 30000 in
theorem wk_65 : Cond.instantiable "DryDock$Log" 3 ∈ GW := GW_t1 65 rfl rfl
set_option maxRecDepth 30000 in
theorem wk_67 : Cond.instanceMethod ⟨"DryDock$Log", "<init>", "()V"⟩ ∈ GW := GW_t1 67 rfl rfl
set_option maxRecDepth 30000 in
theorem wk_68 : Cond.code yX4_init cX4_init 1 none ∈ GW := GW_t1 68 rfl rfl
set_option maxRecDepth 30000 in
theorem wk_69 : Cond.methodLink "DryDock$Log" 3 ⟨"java/lang/Object", "<init>", "()V"⟩ ∈ GW := GW_t1 69 rfl rfl
set_option maxRecDepth 30000 in
theorem wk_70 : Cond.fieldLink "DryDock$Log" 15 "DryDock$Log" "rows" "I" ∈ GW := GW_t1 70 rfl rfl
set_option maxRecDepth 30000 in
theorem wk_71 : Cond.fieldLink "DryDock" 411 "DryDock$Log" "rows" "I" ∈ GW := GW_t1 71 rfl rfl
set_option maxRecDepth 30000 in
theorem wk_72 : Cond.fieldLink "DryDock$Log" 19 "DryDock$Log" "next" "I" ∈ GW := GW_t1 72 rfl rfl
set_option maxRecDepth 30000 in
theorem wk_73 : Cond.fieldLink "DryDock$Log" 11 "DryDock$Log" "cells" "[I" ∈ GW := GW_t1 73 rfl rfl
set_option maxRecDepth 30000 in
theorem wk_74 : Cond.lays "DryDock$Log" "DryDock$Log" "rows" "I" ∈ GW := GW_t1 74 rfl rfl
set_option maxRecDepth 30000 in
theorem wk_76 : Cond.lays "DryDock$Log" "DryDock$Log" "next" "I" ∈ GW := GW_t1 76 rfl rfl
set_option maxRecDepth 30000 in
theorem wk_78 : Cond.laysFinal "DryDock$Log" "DryDock$Log" "cells" "[I" ∈ GW := GW_t1 78 rfl rfl
set_option maxRecDepth 30000 in
theorem wk_81 : Cond.arrayClass FieldType.int ∈ GW := GW_t1 81 rfl rfl
set_option maxRecDepth 30000 in
theorem wk_82 : Cond.fieldLink "DryDock$State" 9 "DryDock$State" "level" "I" ∈ GW := GW_t1 82 rfl rfl
set_option maxRecDepth 30000 in
theorem wk_83 : Cond.fieldLink "DryDock$Plans" 51 "DryDock$State" "level" "I" ∈ GW := GW_t1 83 rfl rfl
set_option maxRecDepth 30000 in
theorem wk_84 : Cond.fieldLink "DryDock$DockReader" 83 "DryDock$State" "level" "I" ∈ GW := GW_t1 84 rfl rfl
set_option maxRecDepth 30000 in
theorem wk_85 : Cond.fieldLink "DryDock$Law" 66 "DryDock$State" "level" "I" ∈ GW := GW_t1 85 rfl rfl
set_option maxRecDepth 30000 in
theorem wk_86 : Cond.fieldLink "DryDock" 226 "DryDock$State" "level" "I" ∈ GW := GW_t1 86 rfl rfl
set_option maxRecDepth 30000 in
theorem wk_87 : Cond.fieldLink "DryDock$State" 54 "DryDock$State" "hour" "I" ∈ GW := GW_t1 87 rfl rfl
set_option maxRecDepth 30000 in
theorem wk_88 : Cond.fieldLink "DryDock$DockReader" 91 "DryDock$State" "hour" "I" ∈ GW := GW_t1 88 rfl rfl
set_option maxRecDepth 30000 in
theorem wk_89 : Cond.fieldLink "DryDock$Law" 52 "DryDock$State" "hour" "I" ∈ GW := GW_t1 89 rfl rfl
set_option maxRecDepth 30000 in
theorem wk_90 : Cond.fieldLink "DryDock" 400 "DryDock$State" "hour" "I" ∈ GW := GW_t1 90 rfl rfl
set_option maxRecDepth 30000 in
theorem wk_91 : Cond.fieldLink "DryDock$State" 15 "DryDock$State" "pumps" "I" ∈ GW := GW_t1 91 rfl rfl
set_option maxRecDepth 30000 in
theorem wk_92 : Cond.fieldLink "DryDock$DockReader" 85 "DryDock$State" "pumps" "I" ∈ GW := GW_t1 92 rfl rfl
set_option maxRecDepth 30000 in
theorem wk_93 : Cond.fieldLink "DryDock" 265 "DryDock$State" "pumps" "I" ∈ GW := GW_t1 93 rfl rfl
set_option maxRecDepth 30000 in
theorem wk_94 : Cond.fieldLink "DryDock$State" 18 "DryDock$State" "hands" "I" ∈ GW := GW_t1 94 rfl rfl
set_option maxRecDepth 30000 in
theorem wk_95 : Cond.fieldLink "DryDock$DockReader" 87 "DryDock$State" "hands" "I" ∈ GW := GW_t1 95 rfl rfl
set_option maxRecDepth 30000 in
theorem wk_96 : Cond.fieldLink "DryDock$Plans" 91 "DryDock$State" "hands" "I" ∈ GW := GW_t1 96 rfl rfl
set_option maxRecDepth 30000 in
theorem wk_97 : Cond.fieldLink "DryDock" 268 "DryDock$State" "hands" "I" ∈ GW := GW_t1 97 rfl rfl
set_option maxRecDepth 30000 in
theorem wk_98 : Cond.fieldLink "DryDock$State" 57 "DryDock$State" "surge" "I" ∈ GW := GW_t1 98 rfl rfl
set_option maxRecDepth 30000 in
theorem wk_99 : Cond.fieldLink "DryDock$DockReader" 89 "DryDock$State" "surge" "I" ∈ GW := GW_t1 99 rfl rfl
set_option maxRecDepth 30000 in
theorem wk_100 : Cond.fieldLink "DryDock" 345 "DryDock$State" "surge" "I" ∈ GW := GW_t1 100 rfl rfl
set_option maxRecDepth 30000 in
theorem wk_101 : Cond.fieldLink "DryDock$State" 60 "DryDock$State" "purse" "I" ∈ GW := GW_t1 101 rfl rfl
set_option maxRecDepth 30000 in
theorem wk_102 : Cond.fieldLink "DryDock" 397 "DryDock$State" "purse" "I" ∈ GW := GW_t1 102 rfl rfl
set_option maxRecDepth 30000 in
theorem wk_103 : Cond.fieldLink "DryDock$State" 21 "DryDock$State" "seed" "I" ∈ GW := GW_t1 103 rfl rfl
set_option maxRecDepth 30000 in
theorem wk_104 : Cond.fieldLink "DryDock" 367 "DryDock$State" "seed" "I" ∈ GW := GW_t1 104 rfl rfl
set_option maxRecDepth 30000 in
theorem wk_105 : Cond.fieldLink "DryDock$State" 63 "DryDock$State" "texts" "I" ∈ GW := GW_t1 105 rfl rfl
set_option maxRecDepth 30000 in
theorem wk_106 : Cond.fieldLink "DryDock" 114 "DryDock$State" "texts" "I" ∈ GW := GW_t1 106 rfl rfl
set_option maxRecDepth 30000 in
theorem wk_107 : Cond.fieldLink "DryDock$Plans" 41 "DryDock$State" "ships" "I" ∈ GW := GW_t1 107 rfl rfl
set_option maxRecDepth 30000 in
theorem wk_108 : Cond.fieldLink "DryDock$State" 66 "DryDock$State" "ships" "I" ∈ GW := GW_t1 108 rfl rfl
set_option maxRecDepth 30000 in
theorem wk_109 : Cond.fieldLink "DryDock$DockReader" 93 "DryDock$State" "ships" "I" ∈ GW := GW_t1 109 rfl rfl
set_option maxRecDepth 30000 in
theorem wk_110 : Cond.fieldLink "DryDock" 253 "DryDock$State" "ships" "I" ∈ GW := GW_t1 110 rfl rfl
set_option maxRecDepth 30000 in
theorem wk_111 : Cond.fieldLink "DryDock$State" 69 "DryDock$State" "blocks" "I" ∈ GW := GW_t1 111 rfl rfl
set_option maxRecDepth 30000 in
theorem wk_112 : Cond.fieldLink "DryDock" 190 "DryDock$State" "blocks" "I" ∈ GW := GW_t1 112 rfl rfl
set_option maxRecDepth 30000 in
theorem wk_113 : Cond.fieldLink "DryDock$DockReader" 126 "DryDock$State" "blocks" "I" ∈ GW := GW_t1 113 rfl rfl
set_option maxRecDepth 30000 in
theorem wk_114 : Cond.fieldLink "DryDock$State" 72 "DryDock$State" "hurtShips" "I" ∈ GW := GW_t1 114 rfl rfl
set_option maxRecDepth 30000 in
theorem wk_115 : Cond.fieldLink "DryDock$Law" 76 "DryDock$State" "hurtShips" "I" ∈ GW := GW_t1 115 rfl rfl
set_option maxRecDepth 30000 in
theorem wk_116 : Cond.fieldLink "DryDock" 360 "DryDock$State" "hurtShips" "I" ∈ GW := GW_t1 116 rfl rfl
set_option maxRecDepth 30000 in
theorem wk_117 : Cond.fieldLink "DryDock$State" 24 "DryDock$State" "open" "Z" ∈ GW := GW_t1 117 rfl rfl
set_option maxRecDepth 30000 in
theorem wk_118 : Cond.fieldLink "DryDock$DockReader" 42 "DryDock$State" "open" "Z" ∈ GW := GW_t1 118 rfl rfl
set_option maxRecDepth 30000 in
theorem wk_119 : Cond.fieldLink "DryDock$Law" 72 "DryDock$State" "open" "Z" ∈ GW := GW_t1 119 rfl rfl
set_option maxRecDepth 30000 in
theorem wk_120 : Cond.fieldLink "DryDock" 213 "DryDock$State" "open" "Z" ∈ GW := GW_t1 120 rfl rfl
set_option maxRecDepth 30000 in
theorem wk_121 : Cond.fieldLink "DryDock$State" 28 "DryDock$State" "tides" "[I" ∈ GW := GW_t1 121 rfl rfl
set_option maxRecDepth 30000 in
theorem wk_122 : Cond.fieldLink "DryDock" 201 "DryDock$State" "tides" "[I" ∈ GW := GW_t1 122 rfl rfl
set_option maxRecDepth 30000 in
theorem wk_123 : Cond.fieldLink "DryDock$Law" 69 "DryDock$State" "tides" "[I" ∈ GW := GW_t1 123 rfl rfl
set_option maxRecDepth 30000 in
theorem wk_124 : Cond.fieldLink "DryDock$DockReader" 119 "DryDock$State" "tides" "[I" ∈ GW := GW_t1 124 rfl rfl
set_option maxRecDepth 30000 in
theorem wk_125 : Cond.fieldLink "DryDock$State" 32 "DryDock$State" "length" "[I" ∈ GW := GW_t1 125 rfl rfl
set_option maxRecDepth 30000 in
theorem wk_126 : Cond.fieldLink "DryDock$Plans" 76 "DryDock$State" "length" "[I" ∈ GW := GW_t1 126 rfl rfl
set_option maxRecDepth 30000 in
theorem wk_127 : Cond.fieldLink "DryDock" 140 "DryDock$State" "length" "[I" ∈ GW := GW_t1 127 rfl rfl
set_option maxRecDepth 30000 in
theorem wk_128 : Cond.fieldLink "DryDock$Law" 57 "DryDock$State" "length" "[I" ∈ GW := GW_t1 128 rfl rfl
set_option maxRecDepth 30000 in
theorem wk_129 : Cond.fieldLink "DryDock$State" 35 "DryDock$State" "draught" "[I" ∈ GW := GW_t1 129 rfl rfl
set_option maxRecDepth 30000 in
theorem wk_130 : Cond.fieldLink "DryDock$Plans" 48 "DryDock$State" "draught" "[I" ∈ GW := GW_t1 130 rfl rfl
set_option maxRecDepth 30000 in
theorem wk_131 : Cond.fieldLink "DryDock" 144 "DryDock$State" "draught" "[I" ∈ GW := GW_t1 131 rfl rfl
set_option maxRecDepth 30000 in
theorem wk_132 : Cond.fieldLink "DryDock$Law" 60 "DryDock$State" "draught" "[I" ∈ GW := GW_t1 132 rfl rfl
set_option maxRecDepth 30000 in
theorem wk_133 : Cond.fieldLink "DryDock$State" 38 "DryDock$State" "work" "[I" ∈ GW := GW_t1 133 rfl rfl
set_option maxRecDepth 30000 in
theorem wk_134 : Cond.fieldLink "DryDock" 147 "DryDock$State" "work" "[I" ∈ GW := GW_t1 134 rfl rfl
set_option maxRecDepth 30000 in
theorem wk_135 : Cond.fieldLink "DryDock$Plans" 98 "DryDock$State" "work" "[I" ∈ GW := GW_t1 135 rfl rfl
set_option maxRecDepth 30000 in
theorem wk_136 : Cond.fieldLink "DryDock$Law" 63 "DryDock$State" "work" "[I" ∈ GW := GW_t1 136 rfl rfl
set_option maxRecDepth 30000 in
theorem wk_137 : Cond.fieldLink "DryDock$State" 41 "DryDock$State" "stand" "[I" ∈ GW := GW_t1 137 rfl rfl
set_option maxRecDepth 30000 in
theorem wk_138 : Cond.fieldLink "DryDock$Plans" 45 "DryDock$State" "stand" "[I" ∈ GW := GW_t1 138 rfl rfl
set_option maxRecDepth 30000 in
theorem wk_139 : Cond.fieldLink "DryDock" 150 "DryDock$State" "stand" "[I" ∈ GW := GW_t1 139 rfl rfl
set_option maxRecDepth 30000 in
theorem wk_140 : Cond.fieldLink "DryDock$State" 44 "DryDock$State" "at" "[I" ∈ GW := GW_t1 140 rfl rfl
set_option maxRecDepth 30000 in
theorem wk_141 : Cond.fieldLink "DryDock" 153 "DryDock$State" "at" "[I" ∈ GW := GW_t1 141 rfl rfl
set_option maxRecDepth 30000 in
theorem wk_142 : Cond.fieldLink "DryDock$State" 50 "DryDock$State" "log" "LDryDock$Log;" ∈ GW := GW_t1 142 rfl rfl
set_option maxRecDepth 30000 in
theorem wk_143 : Cond.fieldLink "DryDock" 373 "DryDock$State" "log" "LDryDock$Log;" ∈ GW := GW_t1 143 rfl rfl
set_option maxRecDepth 30000 in
theorem wk_144 : Cond.lays "DryDock$State" "DryDock$State" "level" "I" ∈ GW := GW_t1 144 rfl rfl
set_option maxRecDepth 30000 in
theorem wk_146 : Cond.lays "DryDock$State" "DryDock$State" "hour" "I" ∈ GW := GW_t1 146 rfl rfl
set_option maxRecDepth 30000 in
theorem wk_148 : Cond.lays "DryDock$State" "DryDock$State" "pumps" "I" ∈ GW := GW_t1 148 rfl rfl
set_option maxRecDepth 30000 in
theorem wk_150 : Cond.lays "DryDock$State" "DryDock$State" "hands" "I" ∈ GW := GW_t1 150 rfl rfl
set_option maxRecDepth 30000 in
theorem wk_152 : Cond.lays "DryDock$State" "DryDock$State" "surge" "I" ∈ GW := GW_t1 152 rfl rfl
set_option maxRecDepth 30000 in
theorem wk_154 : Cond.lays "DryDock$State" "DryDock$State" "purse" "I" ∈ GW := GW_t1 154 rfl rfl
set_option maxRecDepth 30000 in
theorem wk_156 : Cond.lays "DryDock$State" "DryDock$State" "seed" "I" ∈ GW := GW_t1 156 rfl rfl
set_option maxRecDepth 30000 in
theorem wk_158 : Cond.lays "DryDock$State" "DryDock$State" "texts" "I" ∈ GW := GW_t1 158 rfl rfl
set_option maxRecDepth 30000 in
theorem wk_160 : Cond.lays "DryDock$State" "DryDock$State" "ships" "I" ∈ GW := GW_t1 160 rfl rfl
set_option maxRecDepth 30000 in
theorem wk_162 : Cond.lays "DryDock$State" "DryDock$State" "blocks" "I" ∈ GW := GW_t1 162 rfl rfl
set_option maxRecDepth 30000 in
theorem wk_164 : Cond.lays "DryDock$State" "DryDock$State" "hurtShips" "I" ∈ GW := GW_t1 164 rfl rfl
set_option maxRecDepth 30000 in
theorem wk_166 : Cond.lays "DryDock$State" "DryDock$State" "open" "Z" ∈ GW := GW_t1 166 rfl rfl
set_option maxRecDepth 30000 in
theorem wk_168 : Cond.laysFinal "DryDock$State" "DryDock$State" "tides" "[I" ∈ GW := GW_t1 168 rfl rfl
set_option maxRecDepth 30000 in
theorem wk_170 : Cond.laysFinal "DryDock$State" "DryDock$State" "length" "[I" ∈ GW := GW_t1 170 rfl rfl
set_option maxRecDepth 30000 in
theorem wk_172 : Cond.laysFinal "DryDock$State" "DryDock$State" "draught" "[I" ∈ GW := GW_t1 172 rfl rfl
set_option maxRecDepth 30000 in
theorem wk_174 : Cond.laysFinal "DryDock$State" "DryDock$State" "work" "[I" ∈ GW := GW_t1 174 rfl rfl
set_option maxRecDepth 30000 in
theorem wk_176 : Cond.laysFinal "DryDock$State" "DryDock$State" "stand" "[I" ∈ GW := GW_t1 176 rfl rfl
set_option maxRecDepth 30000 in
theorem wk_178 : Cond.laysFinal "DryDock$State" "DryDock$State" "at" "[I" ∈ GW := GW_t1 178 rfl rfl
set_option maxRecDepth 30000 in
theorem wk_180 : Cond.laysFinal "DryDock$State" "DryDock$State" "log" "LDryDock$Log;" ∈ GW := GW_t1 180 rfl rfl
set_option maxRecDepth 30000 in
theorem wk_183 : Cond.classLink "DryDock" 29 "DryDock$Law" ∈ GW := GW_t1 183 rfl rfl
set_option maxRecDepth 30000 in
theorem wk_184 : Cond.instantiable "DryDock$Law" 7 ∈ GW := GW_t1 184 rfl rfl
set_option maxRecDepth 30000 in
theorem wk_186 : Cond.instanceMethod ⟨"DryDock$Law", "<init>", "()V"⟩ ∈ GW := GW_t1 186 rfl rfl
set_option maxRecDepth 30000 in
theorem wk_187 : Cond.code yX2_init cX2_init 1 none ∈ GW := GW_t1 187 rfl rfl
set_option maxRecDepth 30000 in
theorem wk_188 : Cond.methodLink "DryDock$Law" 3 ⟨"java/lang/Object", "<init>", "()V"⟩ ∈ GW := GW_t1 188 rfl rfl
set_option maxRecDepth 30000 in
theorem wk_189 : Cond.fieldLink "DryDock$Law" 9 "DryDock$Law" "lines" "I" ∈ GW := GW_t1 189 rfl rfl
set_option maxRecDepth 30000 in
theorem wk_190 : Cond.fieldLink "DryDock" 134 "DryDock$Law" "lines" "I" ∈ GW := GW_t1 190 rfl rfl
set_option maxRecDepth 30000 in
theorem wk_191 : Cond.fieldLink "DryDock$Law" 31 "DryDock$Law" "size" "I" ∈ GW := GW_t1 191 rfl rfl
set_option maxRecDepth 30000 in
theorem wk_192 : Cond.fieldLink "DryDock$Law" 15 "DryDock$Law" "kinds" "[I" ∈ GW := GW_t1 192 rfl rfl
set_option maxRecDepth 30000 in
theorem wk_193 : Cond.fieldLink "DryDock$Law" 19 "DryDock$Law" "amounts" "[I" ∈ GW := GW_t1 193 rfl rfl
set_option maxRecDepth 30000 in
theorem wk_194 : Cond.fieldLink "DryDock$Law" 22 "DryDock$Law" "ends" "[I" ∈ GW := GW_t1 194 rfl rfl
set_option maxRecDepth 30000 in
theorem wk_195 : Cond.fieldLink "DryDock$Law" 25 "DryDock$Law" "code" "[I" ∈ GW := GW_t1 195 rfl rfl
set_option maxRecDepth 30000 in
theorem wk_196 : Cond.fieldLink "DryDock$Law" 28 "DryDock$Law" "stack" "[I" ∈ GW := GW_t1 196 rfl rfl
set_option maxRecDepth 30000 in
theorem wk_197 : Cond.lays "DryDock$Law" "DryDock$Law" "lines" "I" ∈ GW := GW_t1 197 rfl rfl
set_option maxRecDepth 30000 in
theorem wk_199 : Cond.lays "DryDock$Law" "DryDock$Law" "size" "I" ∈ GW := GW_t1 199 rfl rfl
set_option maxRecDepth 30000 in
theorem wk_201 : Cond.laysFinal "DryDock$Law" "DryDock$Law" "kinds" "[I" ∈ GW := GW_t1 201 rfl rfl
set_option maxRecDepth 30000 in
theorem wk_203 : Cond.laysFinal "DryDock$Law" "DryDock$Law" "amounts" "[I" ∈ GW := GW_t1 203 rfl rfl
set_option maxRecDepth 30000 in
theorem wk_205 : Cond.laysFinal "DryDock$Law" "DryDock$Law" "ends" "[I" ∈ GW := GW_t1 205 rfl rfl
set_option maxRecDepth 30000 in
theorem wk_207 : Cond.laysFinal "DryDock$Law" "DryDock$Law" "code" "[I" ∈ GW := GW_t1 207 rfl rfl
set_option maxRecDepth 30000 in
theorem wk_209 : Cond.laysFinal "DryDock$Law" "DryDock$Law" "stack" "[I" ∈ GW := GW_t1 209 rfl rfl
set_option maxRecDepth 30000 in
theorem wk_212 : Cond.classLink "DryDock" 42 "DryDock$DockReader" ∈ GW := GW_t1 212 rfl rfl
set_option maxRecDepth 30000 in
theorem wk_213 : Cond.instantiable "DryDock$DockReader" 8 ∈ GW := GW_t1 213 rfl rfl
set_option maxRecDepth 30000 in
theorem wk_214 : Cond.methodLink "DryDock" 44 ⟨"DryDock$DockReader", "<init>", "(LDryDock$Tape;LDryDock$State;)V"⟩ ∈ GW := GW_t1 214 rfl rfl
set_option maxRecDepth 30000 in
theorem wk_215 : Cond.instanceMethod ⟨"DryDock$DockReader", "<init>", "(LDryDock$Tape;LDryDock$State;)V"⟩ ∈ GW := GW_t1 215 rfl rfl
set_option maxRecDepth 30000 in
theorem wk_216 : Cond.code yX1_init cX1_init 3 none ∈ GW := GW_t1 216 rfl rfl
set_option maxRecDepth 30000 in
theorem wk_217 : Cond.methodLink "DryDock$DockReader" 3 ⟨"DryDock$Reader", "<init>", "(LDryDock$Tape;)V"⟩ ∈ GW := GW_t1 217 rfl rfl
set_option maxRecDepth 30000 in
theorem wk_218 : Cond.instanceMethod ⟨"DryDock$Reader", "<init>", "(LDryDock$Tape;)V"⟩ ∈ GW := GW_t1 218 rfl rfl
set_option maxRecDepth 30000 in
theorem wk_219 : Cond.code yX7_init cX7_init 2 none ∈ GW := GW_t1 219 rfl rfl
set_option maxRecDepth 30000 in
theorem wk_220 : Cond.methodLink "DryDock$Reader" 3 ⟨"java/lang/Object", "<init>", "()V"⟩ ∈ GW := GW_t1 220 rfl rfl
set_option maxRecDepth 30000 in
theorem wk_221 : Cond.fieldLink "DryDock$DockReader" 9 "DryDock$DockReader" "into" "LDryDock$State;" ∈ GW := GW_t1 221 rfl rfl
set_option maxRecDepth 30000 in
theorem wk_222 : Cond.fieldLink "DryDock$Reader" 21 "DryDock$Reader" "tape" "LDryDock$Tape;" ∈ GW := GW_t1 222 rfl rfl
set_option maxRecDepth 30000 in
theorem wk_223 : Cond.fieldLink "DryDock$DockReader" 15 "DryDock$DockReader" "next" "I" ∈ GW := GW_t1 223 rfl rfl
set_option maxRecDepth 30000 in
theorem wk_224 : Cond.sameField "DryDock$DockReader" "DryDock$Reader" "next" "I" ∈ GW := GW_t1 224 rfl rfl
set_option maxRecDepth 30000 in
theorem wk_225 : Cond.fieldLink "DryDock$Reader" 36 "DryDock$Reader" "next" "I" ∈ GW := GW_t1 225 rfl rfl
set_option maxRecDepth 30000 in
theorem wk_226 : Cond.fieldLink "DryDock$LawReader" 66 "DryDock$LawReader" "next" "I" ∈ GW := GW_t1 226 rfl rfl
set_option maxRecDepth 30000 in
theorem wk_227 : Cond.sameField "DryDock$LawReader" "DryDock$Reader" "next" "I" ∈ GW := GW_t1 227 rfl rfl
set_option maxRecDepth 30000 in
theorem wk_228 : Cond.fieldLink "DryDock$LawReader" 23 "DryDock$LawReader" "value" "I" ∈ GW := GW_t1 228 rfl rfl
set_option maxRecDepth 30000 in
theorem wk_229 : Cond.sameField "DryDock$LawReader" "DryDock$Reader" "value" "I" ∈ GW := GW_t1 229 rfl rfl
set_option maxRecDepth 30000 in
theorem wk_230 : Cond.fieldLink "DryDock$DockReader" 80 "DryDock$DockReader" "value" "I" ∈ GW := GW_t1 230 rfl rfl
set_option maxRecDepth 30000 in
theorem wk_231 : Cond.sameField "DryDock$DockReader" "DryDock$Reader" "value" "I" ∈ GW := GW_t1 231 rfl rfl
set_option maxRecDepth 30000 in
theorem wk_232 : Cond.fieldLink "DryDock$Reader" 66 "DryDock$Reader" "value" "I" ∈ GW := GW_t1 232 rfl rfl
set_option maxRecDepth 30000 in
theorem wk_233 : Cond.fieldLink "DryDock$Reader" 28 "DryDock$Reader" "things" "I" ∈ GW := GW_t1 233 rfl rfl
set_option maxRecDepth 30000 in
theorem wk_234 : Cond.fieldLink "DryDock$Reader" 9 "DryDock$Reader" "kinds" "[I" ∈ GW := GW_t1 234 rfl rfl
set_option maxRecDepth 30000 in
theorem wk_235 : Cond.fieldLink "DryDock$Reader" 15 "DryDock$Reader" "begins" "[I" ∈ GW := GW_t1 235 rfl rfl
set_option maxRecDepth 30000 in
theorem wk_236 : Cond.fieldLink "DryDock$Reader" 18 "DryDock$Reader" "ends" "[I" ∈ GW := GW_t1 236 rfl rfl
set_option maxRecDepth 30000 in
theorem wk_237 : Cond.laysFinal "DryDock$DockReader" "DryDock$DockReader" "into" "LDryDock$State;" ∈ GW := GW_t1 237 rfl rfl
set_option maxRecDepth 30000 in
theorem wk_239 : Cond.laysFinal "DryDock$DockReader" "DryDock$Reader" "tape" "LDryDock$Tape;" ∈ GW := GW_t1 239 rfl rfl
set_option maxRecDepth 30000 in
theorem wk_241 : Cond.lays "DryDock$DockReader" "DryDock$Reader" "next" "I" ∈ GW := GW_t2 1 rfl rfl
set_option maxRecDepth 30000 in
theorem wk_243 : Cond.lays "DryDock$DockReader" "DryDock$Reader" "value" "I" ∈ GW := GW_t2 3 rfl rfl
set_option maxRecDepth 30000 in
theorem wk_245 : Cond.lays "DryDock$DockReader" "DryDock$Reader" "things" "I" ∈ GW := GW_t2 5 rfl rfl
set_option maxRecDepth 30000 in
theorem wk_247 : Cond.laysFinal "DryDock$DockReader" "DryDock$Reader" "kinds" "[I" ∈ GW := GW_t2 7 rfl rfl
set_option maxRecDepth 30000 in
theorem wk_249 : Cond.laysFinal "DryDock$DockReader" "DryDock$Reader" "begins" "[I" ∈ GW := GW_t2 9 rfl rfl
set_option maxRecDepth 30000 in
theorem wk_251 : Cond.laysFinal "DryDock$DockReader" "DryDock$Reader" "ends" "[I" ∈ GW := GW_t2 11 rfl rfl
set_option maxRecDepth 30000 in
theorem wk_254 : Cond.classLink "DryDock" 51 "DryDock$LawReader" ∈ GW := GW_t2 14 rfl rfl
set_option maxRecDepth 30000 in
theorem wk_255 : Cond.instantiable "DryDock$LawReader" 8 ∈ GW := GW_t2 15 rfl rfl
set_option maxRecDepth 30000 in
theorem wk_256 : Cond.methodLink "DryDock" 53 ⟨"DryDock$LawReader", "<init>", "(LDryDock$Tape;LDryDock$Law;)V"⟩ ∈ GW := GW_t2 16 rfl rfl
set_option maxRecDepth 30000 in
theorem wk_257 : Cond.instanceMethod ⟨"DryDock$LawReader", "<init>", "(LDryDock$Tape;LDryDock$Law;)V"⟩ ∈ GW := GW_t2 17 rfl rfl
set_option maxRecDepth 30000 in
theorem wk_258 : Cond.code yX3_init cX3_init 3 none ∈ GW := GW_t2 18 rfl rfl
set_option maxRecDepth 30000 in
theorem wk_259 : Cond.methodLink "DryDock$LawReader" 3 ⟨"DryDock$Reader", "<init>", "(LDryDock$Tape;)V"⟩ ∈ GW := GW_t2 19 rfl rfl
set_option maxRecDepth 30000 in
theorem wk_260 : Cond.fieldLink "DryDock$LawReader" 9 "DryDock$LawReader" "into" "LDryDock$Law;" ∈ GW := GW_t2 20 rfl rfl
set_option maxRecDepth 30000 in
theorem wk_261 : Cond.laysFinal "DryDock$LawReader" "DryDock$LawReader" "into" "LDryDock$Law;" ∈ GW := GW_t2 21 rfl rfl
set_option maxRecDepth 30000 in
theorem wk_263 : Cond.laysFinal "DryDock$LawReader" "DryDock$Reader" "tape" "LDryDock$Tape;" ∈ GW := GW_t2 23 rfl rfl
set_option maxRecDepth 30000 in
theorem wk_264 : Cond.lays "DryDock$LawReader" "DryDock$Reader" "next" "I" ∈ GW := GW_t2 24 rfl rfl
set_option maxRecDepth 30000 in
theorem wk_265 : Cond.lays "DryDock$LawReader" "DryDock$Reader" "value" "I" ∈ GW := GW_t2 25 rfl rfl
set_option maxRecDepth 30000 in
theorem wk_266 : Cond.lays "DryDock$LawReader" "DryDock$Reader" "things" "I" ∈ GW := GW_t2 26 rfl rfl
set_option maxRecDepth 30000 in
theorem wk_267 : Cond.laysFinal "DryDock$LawReader" "DryDock$Reader" "kinds" "[I" ∈ GW := GW_t2 27 rfl rfl
set_option maxRecDepth 30000 in
theorem wk_268 : Cond.laysFinal "DryDock$LawReader" "DryDock$Reader" "begins" "[I" ∈ GW := GW_t2 28 rfl rfl
set_option maxRecDepth 30000 in
theorem wk_269 : Cond.laysFinal "DryDock$LawReader" "DryDock$Reader" "ends" "[I" ∈ GW := GW_t2 29 rfl rfl
set_option maxRecDepth 30000 in
theorem wk_271 : Cond.classLink "DryDock" 60 "DryDock$Past" ∈ GW := GW_t2 31 rfl rfl
set_option maxRecDepth 30000 in
theorem wk_272 : Cond.instantiable "DryDock$Past" 3 ∈ GW := GW_t2 32 rfl rfl
set_option maxRecDepth 30000 in
theorem wk_273 : Cond.methodLink "DryDock" 62 ⟨"DryDock$Past", "<init>", "()V"⟩ ∈ GW := GW_t2 33 rfl rfl
set_option maxRecDepth 30000 in
theorem wk_274 : Cond.instanceMethod ⟨"DryDock$Past", "<init>", "()V"⟩ ∈ GW := GW_t2 34 rfl rfl
set_option maxRecDepth 30000 in
theorem wk_275 : Cond.code yX5_init cX5_init 2 none ∈ GW := GW_t2 35 rfl rfl
set_option maxRecDepth 30000 in
theorem wk_276 : Cond.methodLink "DryDock$Past" 3 ⟨"java/lang/Object", "<init>", "()V"⟩ ∈ GW := GW_t2 36 rfl rfl
set_option maxRecDepth 30000 in
theorem wk_277 : Cond.classLink "DryDock$Past" 9 "DryDock$State" ∈ GW := GW_t2 37 rfl rfl
set_option maxRecDepth 30000 in
theorem wk_280 : Cond.fieldLink "DryDock$Past" 26 "DryDock$Past" "acts" "I" ∈ GW := GW_t2 40 rfl rfl
set_option maxRecDepth 30000 in
theorem wk_281 : Cond.fieldLink "DryDock" 414 "DryDock$Past" "acts" "I" ∈ GW := GW_t2 41 rfl rfl
set_option maxRecDepth 30000 in
theorem wk_282 : Cond.fieldLink "DryDock$Past" 18 "DryDock$Past" "next" "I" ∈ GW := GW_t2 42 rfl rfl
set_option maxRecDepth 30000 in
theorem wk_283 : Cond.fieldLink "DryDock$Past" 11 "DryDock$Past" "states" "[LDryDock$State;" ∈ GW := GW_t2 43 rfl rfl
set_option maxRecDepth 30000 in
theorem wk_284 : Cond.lays "DryDock$Past" "DryDock$Past" "acts" "I" ∈ GW := GW_t2 44 rfl rfl
set_option maxRecDepth 30000 in
theorem wk_286 : Cond.lays "DryDock$Past" "DryDock$Past" "next" "I" ∈ GW := GW_t2 46 rfl rfl
set_option maxRecDepth 30000 in
theorem wk_288 : Cond.laysFinal "DryDock$Past" "DryDock$Past" "states" "[LDryDock$State;" ∈ GW := GW_t2 48 rfl rfl
set_option maxRecDepth 30000 in
theorem wk_291 : Cond.classLink "DryDock" 67 "DryDock$Curves" ∈ GW := GW_t2 51 rfl rfl
set_option maxRecDepth 30000 in
theorem wk_292 : Cond.instantiable "DryDock$Curves" 7 ∈ GW := GW_t2 52 rfl rfl
set_option maxRecDepth 30000 in
theorem wk_294 : Cond.instanceMethod ⟨"DryDock$Curves", "<init>", "()V"⟩ ∈ GW := GW_t2 54 rfl rfl
set_option maxRecDepth 30000 in
theorem wk_295 : Cond.code yX0_init cX0_init 1 none ∈ GW := GW_t2 55 rfl rfl
set_option maxRecDepth 30000 in
theorem wk_296 : Cond.methodLink "DryDock$Curves" 3 ⟨"java/lang/Object", "<init>", "()V"⟩ ∈ GW := GW_t2 56 rfl rfl
set_option maxRecDepth 30000 in
theorem wk_297 : Cond.fieldLink "DryDock$Curves" 37 "DryDock$Curves" "fitting" "I" ∈ GW := GW_t2 57 rfl rfl
set_option maxRecDepth 30000 in
theorem wk_298 : Cond.fieldLink "DryDock" 310 "DryDock$Curves" "fitting" "I" ∈ GW := GW_t2 58 rfl rfl
set_option maxRecDepth 30000 in
theorem wk_299 : Cond.fieldLink "DryDock$Curves" 40 "DryDock$Curves" "firstFit" "I" ∈ GW := GW_t2 59 rfl rfl
set_option maxRecDepth 30000 in
theorem wk_300 : Cond.fieldLink "DryDock" 307 "DryDock$Curves" "firstFit" "I" ∈ GW := GW_t2 60 rfl rfl
set_option maxRecDepth 30000 in
theorem wk_301 : Cond.fieldLink "DryDock$Curves" 24 "DryDock$Curves" "rows" "I" ∈ GW := GW_t2 61 rfl rfl
set_option maxRecDepth 30000 in
theorem wk_302 : Cond.fieldLink "DryDock$Curves" 9 "DryDock$Curves" "hour" "[I" ∈ GW := GW_t2 62 rfl rfl
set_option maxRecDepth 30000 in
theorem wk_303 : Cond.fieldLink "DryDock$Curves" 15 "DryDock$Curves" "height" "[I" ∈ GW := GW_t2 63 rfl rfl
set_option maxRecDepth 30000 in
theorem wk_304 : Cond.fieldLink "DryDock$Curves" 18 "DryDock$Curves" "bySwing" "[I" ∈ GW := GW_t2 64 rfl rfl
set_option maxRecDepth 30000 in
theorem wk_305 : Cond.fieldLink "DryDock$Curves" 21 "DryDock$Curves" "parts" "[I" ∈ GW := GW_t2 65 rfl rfl
set_option maxRecDepth 30000 in
theorem wk_306 : Cond.lays "DryDock$Curves" "DryDock$Curves" "fitting" "I" ∈ GW := GW_t2 66 rfl rfl
set_option maxRecDepth 30000 in
theorem wk_308 : Cond.lays "DryDock$Curves" "DryDock$Curves" "firstFit" "I" ∈ GW := GW_t2 68 rfl rfl
set_option maxRecDepth 30000 in
theorem wk_310 : Cond.lays "DryDock$Curves" "DryDock$Curves" "rows" "I" ∈ GW := GW_t2 70 rfl rfl
set_option maxRecDepth 30000 in
theorem wk_312 : Cond.laysFinal "DryDock$Curves" "DryDock$Curves" "hour" "[I" ∈ GW := GW_t2 72 rfl rfl
set_option maxRecDepth 30000 in
theorem wk_314 : Cond.laysFinal "DryDock$Curves" "DryDock$Curves" "height" "[I" ∈ GW := GW_t2 74 rfl rfl
set_option maxRecDepth 30000 in
theorem wk_316 : Cond.laysFinal "DryDock$Curves" "DryDock$Curves" "bySwing" "[I" ∈ GW := GW_t2 76 rfl rfl
set_option maxRecDepth 30000 in
theorem wk_318 : Cond.laysFinal "DryDock$Curves" "DryDock$Curves" "parts" "[I" ∈ GW := GW_t2 78 rfl rfl
set_option maxRecDepth 30000 in
theorem wk_321 : Cond.classLink "DryDock" 74 "DryDock$Soundings" ∈ GW := GW_t2 81 rfl rfl
set_option maxRecDepth 30000 in
theorem wk_322 : Cond.instantiable "DryDock$Soundings" 7 ∈ GW := GW_t2 82 rfl rfl
set_option maxRecDepth 30000 in
theorem wk_324 : Cond.instanceMethod ⟨"DryDock$Soundings", "<init>", "()V"⟩ ∈ GW := GW_t2 84 rfl rfl
set_option maxRecDepth 30000 in
theorem wk_325 : Cond.code yX8_init cX8_init 1 none ∈ GW := GW_t2 85 rfl rfl
set_option maxRecDepth 30000 in
theorem wk_326 : Cond.methodLink "DryDock$Soundings" 3 ⟨"java/lang/Object", "<init>", "()V"⟩ ∈ GW := GW_t2 86 rfl rfl
set_option maxRecDepth 30000 in
theorem wk_327 : Cond.fieldLink "DryDock$Soundings" 35 "DryDock$Soundings" "fitting" "I" ∈ GW := GW_t2 87 rfl rfl
set_option maxRecDepth 30000 in
theorem wk_328 : Cond.fieldLink "DryDock" 321 "DryDock$Soundings" "fitting" "I" ∈ GW := GW_t2 88 rfl rfl
set_option maxRecDepth 30000 in
theorem wk_329 : Cond.fieldLink "DryDock$Soundings" 38 "DryDock$Soundings" "firstFit" "I" ∈ GW := GW_t2 89 rfl rfl
set_option maxRecDepth 30000 in
theorem wk_330 : Cond.fieldLink "DryDock" 322 "DryDock$Soundings" "firstFit" "I" ∈ GW := GW_t2 90 rfl rfl
set_option maxRecDepth 30000 in
theorem wk_331 : Cond.fieldLink "DryDock$Soundings" 41 "DryDock$Soundings" "fewestWrong" "I" ∈ GW := GW_t2 91 rfl rfl
set_option maxRecDepth 30000 in
theorem wk_332 : Cond.fieldLink "DryDock$Soundings" 22 "DryDock$Soundings" "rows" "I" ∈ GW := GW_t2 92 rfl rfl
set_option maxRecDepth 30000 in
theorem wk_333 : Cond.fieldLink "DryDock$Soundings" 9 "DryDock$Soundings" "place" "[I" ∈ GW := GW_t2 93 rfl rfl
set_option maxRecDepth 30000 in
theorem wk_334 : Cond.fieldLink "DryDock$Soundings" 15 "DryDock$Soundings" "touched" "[Z" ∈ GW := GW_t2 94 rfl rfl
set_option maxRecDepth 30000 in
theorem wk_335 : Cond.fieldLink "DryDock$Soundings" 19 "DryDock$Soundings" "covering" "[I" ∈ GW := GW_t2 95 rfl rfl
set_option maxRecDepth 30000 in
theorem wk_336 : Cond.lays "DryDock$Soundings" "DryDock$Soundings" "fitting" "I" ∈ GW := GW_t2 96 rfl rfl
set_option maxRecDepth 30000 in
theorem wk_338 : Cond.lays "DryDock$Soundings" "DryDock$Soundings" "firstFit" "I" ∈ GW := GW_t2 98 rfl rfl
set_option maxRecDepth 30000 in
theorem wk_340 : Cond.lays "DryDock$Soundings" "DryDock$Soundings" "fewestWrong" "I" ∈ GW := GW_t2 100 rfl rfl
set_option maxRecDepth 30000 in
theorem wk_342 : Cond.lays "DryDock$Soundings" "DryDock$Soundings" "rows" "I" ∈ GW := GW_t2 102 rfl rfl
set_option maxRecDepth 30000 in
theorem wk_344 : Cond.laysFinal "DryDock$Soundings" "DryDock$Soundings" "place" "[I" ∈ GW := GW_t2 104 rfl rfl
set_option maxRecDepth 30000 in
theorem wk_346 : Cond.laysFinal "DryDock$Soundings" "DryDock$Soundings" "touched" "[Z" ∈ GW := GW_t2 106 rfl rfl
set_option maxRecDepth 30000 in
theorem wk_348 : Cond.laysFinal "DryDock$Soundings" "DryDock$Soundings" "covering" "[I" ∈ GW := GW_t2 108 rfl rfl
set_option maxRecDepth 30000 in
theorem wk_351 : Cond.arrayClass FieldType.boolean ∈ GW := GW_t2 111 rfl rfl
set_option maxRecDepth 30000 in
theorem wk_352 : Cond.classLink "DryDock" 81 "DryDock$Plans" ∈ GW := GW_t2 112 rfl rfl
set_option maxRecDepth 30000 in
theorem wk_353 : Cond.instantiable "DryDock$Plans" 8 ∈ GW := GW_t2 113 rfl rfl
set_option maxRecDepth 30000 in
theorem wk_355 : Cond.instanceMethod ⟨"DryDock$Plans", "<init>", "()V"⟩ ∈ GW := GW_t2 115 rfl rfl
set_option maxRecDepth 30000 in
theorem wk_356 : Cond.code yX6_init cX6_init 1 none ∈ GW := GW_t2 116 rfl rfl
set_option maxRecDepth 30000 in
theorem wk_357 : Cond.methodLink "DryDock$Plans" 3 ⟨"java/lang/Object", "<init>", "()V"⟩ ∈ GW := GW_t2 117 rfl rfl
set_option maxRecDepth 30000 in
theorem wk_358 : Cond.fieldLink "DryDock$Plans" 54 "DryDock$Plans" "most" "I" ∈ GW := GW_t2 118 rfl rfl
set_option maxRecDepth 30000 in
theorem wk_359 : Cond.fieldLink "DryDock" 288 "DryDock$Plans" "most" "I" ∈ GW := GW_t2 119 rfl rfl
set_option maxRecDepth 30000 in
theorem wk_360 : Cond.fieldLink "DryDock$Plans" 57 "DryDock$Plans" "chosen" "I" ∈ GW := GW_t2 120 rfl rfl
set_option maxRecDepth 30000 in
theorem wk_361 : Cond.fieldLink "DryDock" 291 "DryDock$Plans" "chosen" "I" ∈ GW := GW_t2 121 rfl rfl
set_option maxRecDepth 30000 in
theorem wk_362 : Cond.fieldLink "DryDock$Plans" 9 "DryDock$Plans" "mate" "[I" ∈ GW := GW_t2 122 rfl rfl
set_option maxRecDepth 30000 in
theorem wk_363 : Cond.fieldLink "DryDock" 335 "DryDock$Plans" "mate" "[I" ∈ GW := GW_t2 123 rfl rfl
set_option maxRecDepth 30000 in
theorem wk_364 : Cond.fieldLink "DryDock$Plans" 69 "DryDock$Plans" "bins" "I" ∈ GW := GW_t2 124 rfl rfl
set_option maxRecDepth 30000 in
theorem wk_365 : Cond.fieldLink "DryDock$Plans" 15 "DryDock$Plans" "binSize" "[I" ∈ GW := GW_t2 125 rfl rfl
set_option maxRecDepth 30000 in
theorem wk_366 : Cond.fieldLink "DryDock$Plans" 18 "DryDock$Plans" "fee" "[I" ∈ GW := GW_t2 126 rfl rfl
set_option maxRecDepth 30000 in
theorem wk_367 : Cond.fieldLink "DryDock$Plans" 21 "DryDock$Plans" "bySet" "[I" ∈ GW := GW_t2 127 rfl rfl
set_option maxRecDepth 30000 in
theorem wk_368 : Cond.fieldLink "DryDock$Plans" 24 "DryDock$Plans" "bedded" "[I" ∈ GW := GW_t2 128 rfl rfl
set_option maxRecDepth 30000 in
theorem wk_369 : Cond.lays "DryDock$Plans" "DryDock$Plans" "most" "I" ∈ GW := GW_t2 129 rfl rfl
set_option maxRecDepth 30000 in
theorem wk_371 : Cond.lays "DryDock$Plans" "DryDock$Plans" "chosen" "I" ∈ GW := GW_t2 131 rfl rfl
set_option maxRecDepth 30000 in
theorem wk_373 : Cond.laysFinal "DryDock$Plans" "DryDock$Plans" "mate" "[I" ∈ GW := GW_t2 133 rfl rfl
set_option maxRecDepth 30000 in
theorem wk_375 : Cond.lays "DryDock$Plans" "DryDock$Plans" "bins" "I" ∈ GW := GW_t2 135 rfl rfl
set_option maxRecDepth 30000 in
theorem wk_377 : Cond.laysFinal "DryDock$Plans" "DryDock$Plans" "binSize" "[I" ∈ GW := GW_t2 137 rfl rfl
set_option maxRecDepth 30000 in
theorem wk_379 : Cond.laysFinal "DryDock$Plans" "DryDock$Plans" "fee" "[I" ∈ GW := GW_t2 139 rfl rfl
set_option maxRecDepth 30000 in
theorem wk_381 : Cond.laysFinal "DryDock$Plans" "DryDock$Plans" "bySet" "[I" ∈ GW := GW_t2 141 rfl rfl
set_option maxRecDepth 30000 in
theorem wk_383 : Cond.laysFinal "DryDock$Plans" "DryDock$Plans" "bedded" "[I" ∈ GW := GW_t2 143 rfl rfl
set_option maxRecDepth 30000 in
theorem wk_386 : Cond.fieldLink "DryDock" 10 "DryDock" "tape" "LDryDock$Tape;" ∈ GW := GW_t2 146 rfl rfl
set_option maxRecDepth 30000 in
theorem wk_387 : Cond.fieldLink "DryDock" 19 "DryDock" "now" "LDryDock$State;" ∈ GW := GW_t2 147 rfl rfl
set_option maxRecDepth 30000 in
theorem wk_388 : Cond.fieldLink "DryDock" 23 "DryDock" "spare" "LDryDock$State;" ∈ GW := GW_t2 148 rfl rfl
set_option maxRecDepth 30000 in
theorem wk_389 : Cond.fieldLink "DryDock" 26 "DryDock" "kept" "LDryDock$State;" ∈ GW := GW_t2 149 rfl rfl
set_option maxRecDepth 30000 in
theorem wk_390 : Cond.fieldLink "DryDock" 32 "DryDock" "rules" "LDryDock$Law;" ∈ GW := GW_t2 150 rfl rfl
set_option maxRecDepth 30000 in
theorem wk_391 : Cond.fieldLink "DryDock" 36 "DryDock" "spareRules" "LDryDock$Law;" ∈ GW := GW_t2 151 rfl rfl
set_option maxRecDepth 30000 in
theorem wk_392 : Cond.fieldLink "DryDock" 39 "DryDock" "keptRules" "LDryDock$Law;" ∈ GW := GW_t2 152 rfl rfl
set_option maxRecDepth 30000 in
theorem wk_393 : Cond.fieldLink "DryDock" 47 "DryDock" "dockReader" "LDryDock$DockReader;" ∈ GW := GW_t2 153 rfl rfl
set_option maxRecDepth 30000 in
theorem wk_394 : Cond.fieldLink "DryDock" 56 "DryDock" "lawReader" "LDryDock$LawReader;" ∈ GW := GW_t2 154 rfl rfl
set_option maxRecDepth 30000 in
theorem wk_395 : Cond.fieldLink "DryDock" 63 "DryDock" "past" "LDryDock$Past;" ∈ GW := GW_t2 155 rfl rfl
set_option maxRecDepth 30000 in
theorem wk_396 : Cond.fieldLink "DryDock" 70 "DryDock" "curves" "LDryDock$Curves;" ∈ GW := GW_t2 156 rfl rfl
set_option maxRecDepth 30000 in
theorem wk_397 : Cond.fieldLink "DryDock" 77 "DryDock" "soundings" "LDryDock$Soundings;" ∈ GW := GW_t2 157 rfl rfl
set_option maxRecDepth 30000 in
theorem wk_398 : Cond.fieldLink "DryDock" 84 "DryDock" "plans" "LDryDock$Plans;" ∈ GW := GW_t2 158 rfl rfl
set_option maxRecDepth 30000 in
theorem wk_399 : Cond.fieldLink "DryDock" 394 "DryDock" "imageKept" "Z" ∈ GW := GW_t2 159 rfl rfl
set_option maxRecDepth 30000 in
theorem wk_400 : Cond.fieldLink "DryDock" 88 "DryDock" "wrongByte" "I" ∈ GW := GW_t2 160 rfl rfl
set_option maxRecDepth 30000 in
theorem wk_401 : Cond.laysFinal "DryDock" "DryDock" "tape" "LDryDock$Tape;" ∈ GW := GW_t2 161 rfl rfl
set_option maxRecDepth 30000 in
theorem wk_403 : Cond.laysFinal "DryDock" "DryDock" "now" "LDryDock$State;" ∈ GW := GW_t2 163 rfl rfl
set_option maxRecDepth 30000 in
theorem wk_405 : Cond.laysFinal "DryDock" "DryDock" "spare" "LDryDock$State;" ∈ GW := GW_t2 165 rfl rfl
set_option maxRecDepth 30000 in
theorem wk_407 : Cond.laysFinal "DryDock" "DryDock" "kept" "LDryDock$State;" ∈ GW := GW_t2 167 rfl rfl
set_option maxRecDepth 30000 in
theorem wk_409 : Cond.laysFinal "DryDock" "DryDock" "rules" "LDryDock$Law;" ∈ GW := GW_t2 169 rfl rfl
set_option maxRecDepth 30000 in
theorem wk_411 : Cond.laysFinal "DryDock" "DryDock" "spareRules" "LDryDock$Law;" ∈ GW := GW_t2 171 rfl rfl
set_option maxRecDepth 30000 in
theorem wk_413 : Cond.laysFinal "DryDock" "DryDock" "keptRules" "LDryDock$Law;" ∈ GW := GW_t2 173 rfl rfl
set_option maxRecDepth 30000 in
theorem wk_415 : Cond.laysFinal "DryDock" "DryDock" "dockReader" "LDryDock$DockReader;" ∈ GW := GW_t2 175 rfl rfl
set_option maxRecDepth 30000 in
theorem wk_417 : Cond.laysFinal "DryDock" "DryDock" "lawReader" "LDryDock$LawReader;" ∈ GW := GW_t2 177 rfl rfl
set_option maxRecDepth 30000 in
theorem wk_419 : Cond.laysFinal "DryDock" "DryDock" "past" "LDryDock$Past;" ∈ GW := GW_t2 179 rfl rfl
set_option maxRecDepth 30000 in
theorem wk_421 : Cond.laysFinal "DryDock" "DryDock" "curves" "LDryDock$Curves;" ∈ GW := GW_t2 181 rfl rfl
set_option maxRecDepth 30000 in
theorem wk_423 : Cond.laysFinal "DryDock" "DryDock" "soundings" "LDryDock$Soundings;" ∈ GW := GW_t2 183 rfl rfl
set_option maxRecDepth 30000 in
theorem wk_425 : Cond.laysFinal "DryDock" "DryDock" "plans" "LDryDock$Plans;" ∈ GW := GW_t2 185 rfl rfl
set_option maxRecDepth 30000 in
theorem wk_427 : Cond.lays "DryDock" "DryDock" "imageKept" "Z" ∈ GW := GW_t2 187 rfl rfl
set_option maxRecDepth 30000 in
theorem wk_429 : Cond.lays "DryDock" "DryDock" "wrongByte" "I" ∈ GW := GW_t2 189 rfl rfl
set_option maxRecDepth 30000 in
theorem wk_432 : Cond.methodLink "DryDockLaw" 118 ⟨"DryDock", "feed", "(IIIII)I"⟩ ∈ GW := GW_t2 192 rfl rfl
set_option maxRecDepth 30000 in
theorem wk_433 : Cond.instanceMethod ⟨"DryDock", "feed", "(IIIII)I"⟩ ∈ GW := GW_t2 193 rfl rfl
set_option maxRecDepth 30000 in
theorem wk_434 : Cond.selects "DryDock" ⟨"DryDock", "feed", "(IIIII)I"⟩ ⟨"DryDock", "feed", "(IIIII)I"⟩ ∈ GW := GW_t2 194 rfl rfl
set_option maxRecDepth 30000 in
theorem wk_435 : Cond.code yX11_feed cX11_feed 6 (some .int) ∈ GW := GW_t2 195 rfl rfl
set_option maxRecDepth 30000 in
theorem wk_436 : Cond.methodLink "DryDock" 95 ⟨"DryDock$Tape", "addFour", "(I)V"⟩ ∈ GW := GW_t2 196 rfl rfl
set_option maxRecDepth 30000 in
theorem wk_437 : Cond.instanceMethod ⟨"DryDock$Tape", "addFour", "(I)V"⟩ ∈ GW := GW_t2 197 rfl rfl
set_option maxRecDepth 30000 in
theorem wk_438 : Cond.selects "DryDock$Tape" ⟨"DryDock$Tape", "addFour", "(I)V"⟩ ⟨"DryDock$Tape", "addFour", "(I)V"⟩ ∈ GW := GW_t2 198 rfl rfl
set_option maxRecDepth 30000 in
theorem wk_439 : Cond.code yX10_addFour cX10_addFour 3 none ∈ GW := GW_t2 199 rfl rfl
set_option maxRecDepth 30000 in
theorem wk_440 : Cond.methodLink "DryDockLaw" 123 ⟨"DryDock", "end", "(I)Z"⟩ ∈ GW := GW_t2 200 rfl rfl
set_option maxRecDepth 30000 in
theorem wk_441 : Cond.instanceMethod ⟨"DryDock", "end", "(I)Z"⟩ ∈ GW := GW_t2 201 rfl rfl
set_option maxRecDepth 30000 in
theorem wk_442 : Cond.selects "DryDock" ⟨"DryDock", "end", "(I)Z"⟩ ⟨"DryDock", "end", "(I)Z"⟩ ∈ GW := GW_t2 202 rfl rfl
set_option maxRecDepth 30000 in
theorem wk_443 : Cond.code yX11_end cX11_end 2 (some .boolean) ∈ GW := GW_t2 203 rfl rfl
set_option maxRecDepth 30000 in
theorem wk_444 : Cond.methodLink "DryDockLaw" 140 ⟨"DryDock", "fault", "()I"⟩ ∈ GW := GW_t2 204 rfl rfl
set_option maxRecDepth 30000 in
theorem wk_445 : Cond.instanceMethod ⟨"DryDock", "fault", "()I"⟩ ∈ GW := GW_t2 205 rfl rfl
set_option maxRecDepth 30000 in
theorem wk_446 : Cond.selects "DryDock" ⟨"DryDock", "fault", "()I"⟩ ⟨"DryDock", "fault", "()I"⟩ ∈ GW := GW_t2 206 rfl rfl
set_option maxRecDepth 30000 in
theorem wk_447 : Cond.code yX11_fault cX11_fault 1 (some .int) ∈ GW := GW_t2 207 rfl rfl
set_option maxRecDepth 30000 in
theorem wk_448 : Cond.methodLink "DryDockLaw" 185 ⟨"DryDock", "pulls", "()I"⟩ ∈ GW := GW_t2 208 rfl rfl
set_option maxRecDepth 30000 in
theorem wk_449 : Cond.instanceMethod ⟨"DryDock", "pulls", "()I"⟩ ∈ GW := GW_t2 209 rfl rfl
set_option maxRecDepth 30000 in
theorem wk_450 : Cond.selects "DryDock" ⟨"DryDock", "pulls", "()I"⟩ ⟨"DryDock", "pulls", "()I"⟩ ∈ GW := GW_t2 210 rfl rfl
set_option maxRecDepth 30000 in
theorem wk_451 : Cond.code yX11_pulls cX11_pulls 1 (some .int) ∈ GW := GW_t2 211 rfl rfl
set_option maxRecDepth 30000 in
theorem wk_452 : Cond.methodLink "DryDock" 271 ⟨"DryDock$State", "pulling", "(LDryDock$Law;)I"⟩ ∈ GW := GW_t2 212 rfl rfl
set_option maxRecDepth 30000 in
theorem wk_453 : Cond.instanceMethod ⟨"DryDock$State", "pulling", "(LDryDock$Law;)I"⟩ ∈ GW := GW_t2 213 rfl rfl
set_option maxRecDepth 30000 in
theorem wk_454 : Cond.selects "DryDock$State" ⟨"DryDock$State", "pulling", "(LDryDock$Law;)I"⟩ ⟨"DryDock$State", "pulling", "(LDryDock$Law;)I"⟩ ∈ GW := GW_t2 214 rfl rfl
set_option maxRecDepth 30000 in
theorem wk_455 : Cond.code yX9_pulling cX9_pulling 2 (some .int) ∈ GW := GW_t2 215 rfl rfl
set_option maxRecDepth 30000 in
theorem wk_456 : Cond.methodLink "DryDock$State" 95 ⟨"DryDock$Law", "sumOf", "(ILDryDock$State;I)I"⟩ ∈ GW := GW_t2 216 rfl rfl
set_option maxRecDepth 30000 in
theorem wk_457 : Cond.instanceMethod ⟨"DryDock$Law", "sumOf", "(ILDryDock$State;I)I"⟩ ∈ GW := GW_t2 217 rfl rfl
set_option maxRecDepth 30000 in
theorem wk_458 : Cond.selects "DryDock$Law" ⟨"DryDock$Law", "sumOf", "(ILDryDock$State;I)I"⟩ ⟨"DryDock$Law", "sumOf", "(ILDryDock$State;I)I"⟩ ∈ GW := GW_t2 218 rfl rfl
set_option maxRecDepth 30000 in
theorem wk_459 : Cond.code yX2_sumOf cX2_sumOf 7 (some .int) ∈ GW := GW_t2 219 rfl rfl
set_option maxRecDepth 30000 in
theorem wk_460 : Cond.methodLink "DryDock$Law" 40 ⟨"DryDock$Law", "holds", "(IILDryDock$State;I)Z"⟩ ∈ GW := GW_t2 220 rfl rfl
set_option maxRecDepth 30000 in
theorem wk_462 : Cond.instanceMethod ⟨"DryDock$Law", "holds", "(IILDryDock$State;I)Z"⟩ ∈ GW := GW_t2 222 rfl rfl
set_option maxRecDepth 30000 in
theorem wk_463 : Cond.code yX2_holds cX2_holds 8 (some .boolean) ∈ GW := GW_t2 223 rfl rfl
set_option maxRecDepth 30000 in
theorem wk_464 : Cond.methodLink "DryDock$Law" 44 ⟨"DryDock$Law", "joined", "(III)I"⟩ ∈ GW := GW_t2 224 rfl rfl
set_option maxRecDepth 30000 in
theorem wk_465 : Cond.static ⟨"DryDock$Law", "joined", "(III)I"⟩ ∈ GW := GW_t2 225 rfl rfl
set_option maxRecDepth 30000 in
theorem wk_466 : Cond.code yX2_joined cX2_joined 3 (some .int) ∈ GW := GW_t2 226 rfl rfl
set_option maxRecDepth 30000 in
theorem wk_467 : Cond.methodLink "DryDock$Law" 48 ⟨"DryDock$Law", "measure", "(ILDryDock$State;I)I"⟩ ∈ GW := GW_t2 227 rfl rfl
set_option maxRecDepth 30000 in
theorem wk_468 : Cond.static ⟨"DryDock$Law", "measure", "(ILDryDock$State;I)I"⟩ ∈ GW := GW_t2 228 rfl rfl
set_option maxRecDepth 30000 in
theorem wk_469 : Cond.code yX2_measure cX2_measure 5 (some .int) ∈ GW := GW_t2 229 rfl rfl
set_option maxRecDepth 30000 in
theorem wk_470 : Cond.methodLink "DryDockLaw" 189 ⟨"DryDock", "leaks", "()I"⟩ ∈ GW := GW_t2 230 rfl rfl
set_option maxRecDepth 30000 in
theorem wk_471 : Cond.instanceMethod ⟨"DryDock", "leaks", "()I"⟩ ∈ GW := GW_t2 231 rfl rfl
set_option maxRecDepth 30000 in
theorem wk_472 : Cond.selects "DryDock" ⟨"DryDock", "leaks", "()I"⟩ ⟨"DryDock", "leaks", "()I"⟩ ∈ GW := GW_t2 232 rfl rfl
set_option maxRecDepth 30000 in
theorem wk_473 : Cond.code yX11_leaks cX11_leaks 1 (some .int) ∈ GW := GW_t2 233 rfl rfl
set_option maxRecDepth 30000 in
theorem wk_474 : Cond.methodLink "DryDock" 275 ⟨"DryDock$State", "leaking", "(LDryDock$Law;)I"⟩ ∈ GW := GW_t2 234 rfl rfl
set_option maxRecDepth 30000 in
theorem wk_475 : Cond.instanceMethod ⟨"DryDock$State", "leaking", "(LDryDock$Law;)I"⟩ ∈ GW := GW_t2 235 rfl rfl
set_option maxRecDepth 30000 in
theorem wk_476 : Cond.selects "DryDock$State" ⟨"DryDock$State", "leaking", "(LDryDock$Law;)I"⟩ ⟨"DryDock$State", "leaking", "(LDryDock$Law;)I"⟩ ∈ GW := GW_t2 236 rfl rfl
set_option maxRecDepth 30000 in
theorem wk_477 : Cond.code yX9_leaking cX9_leaking 2 (some .int) ∈ GW := GW_t2 237 rfl rfl
set_option maxRecDepth 30000 in
theorem wk_478 : Cond.methodLink "DryDock$State" 85 ⟨"DryDock$State", "tideNow", "()I"⟩ ∈ GW := GW_t2 238 rfl rfl
set_option maxRecDepth 30000 in
theorem wk_479 : Cond.instanceMethod ⟨"DryDock$State", "tideNow", "()I"⟩ ∈ GW := GW_t2 239 rfl rfl
set_option maxRecDepth 30000 in
theorem wk_480 : Cond.selects "DryDock$State" ⟨"DryDock$State", "tideNow", "()I"⟩ ⟨"DryDock$State", "tideNow", "()I"⟩ ∈ GW := GW_t3 0 rfl rfl
set_option maxRecDepth 30000 in
theorem wk_481 : Cond.code yX9_tideNow cX9_tideNow 1 (some .int) ∈ GW := GW_t3 1 rfl rfl
set_option maxRecDepth 30000 in
theorem wk_482 : Cond.methodLink "DryDockLaw" 193 ⟨"DryDock", "even", "()Z"⟩ ∈ GW := GW_t3 2 rfl rfl
set_option maxRecDepth 30000 in
theorem wk_483 : Cond.instanceMethod ⟨"DryDock", "even", "()Z"⟩ ∈ GW := GW_t3 3 rfl rfl
set_option maxRecDepth 30000 in
theorem wk_484 : Cond.selects "DryDock" ⟨"DryDock", "even", "()Z"⟩ ⟨"DryDock", "even", "()Z"⟩ ∈ GW := GW_t3 4 rfl rfl
set_option maxRecDepth 30000 in
theorem wk_485 : Cond.code yX11_even cX11_even 1 (some .boolean) ∈ GW := GW_t3 5 rfl rfl
set_option maxRecDepth 30000 in
theorem wk_486 : Cond.methodLink "DryDock" 217 ⟨"DryDock$State", "isEven", "()Z"⟩ ∈ GW := GW_t3 6 rfl rfl
set_option maxRecDepth 30000 in
theorem wk_487 : Cond.instanceMethod ⟨"DryDock$State", "isEven", "()Z"⟩ ∈ GW := GW_t3 7 rfl rfl
set_option maxRecDepth 30000 in
theorem wk_488 : Cond.selects "DryDock$State" ⟨"DryDock$State", "isEven", "()Z"⟩ ⟨"DryDock$State", "isEven", "()Z"⟩ ∈ GW := GW_t3 8 rfl rfl
set_option maxRecDepth 30000 in
theorem wk_489 : Cond.code yX9_isEven cX9_isEven 1 (some .boolean) ∈ GW := GW_t3 9 rfl rfl
set_option maxRecDepth 30000 in
theorem wk_490 : Cond.methodLink "DryDock$State" 89 ⟨"java/lang/Math", "abs", "(I)I"⟩ ∈ GW := GW_t3 10 rfl rfl
set_option maxRecDepth 30000 in
theorem wk_491 : Cond.static ⟨"java/lang/Math", "abs", "(I)I"⟩ ∈ GW := GW_t3 11 rfl rfl
set_option maxRecDepth 30000 in
theorem wk_493 : Cond.methodLink "DryDockLaw" 198 ⟨"DryDock", "room", "()I"⟩ ∈ GW := GW_t3 13 rfl rfl
set_option maxRecDepth 30000 in
theorem wk_494 : Cond.instanceMethod ⟨"DryDock", "room", "()I"⟩ ∈ GW := GW_t3 14 rfl rfl
set_option maxRecDepth 30000 in
theorem wk_495 : Cond.selects "DryDock" ⟨"DryDock", "room", "()I"⟩ ⟨"DryDock", "room", "()I"⟩ ∈ GW := GW_t3 15 rfl rfl
set_option maxRecDepth 30000 in
theorem wk_496 : Cond.code yX11_room cX11_room 5 (some .int) ∈ GW := GW_t3 16 rfl rfl
set_option maxRecDepth 30000 in
theorem wk_497 : Cond.methodLink "DryDock" 229 ⟨"DryDock$State", "takenPlaces", "()I"⟩ ∈ GW := GW_t3 17 rfl rfl
set_option maxRecDepth 30000 in
theorem wk_498 : Cond.instanceMethod ⟨"DryDock$State", "takenPlaces", "()I"⟩ ∈ GW := GW_t3 18 rfl rfl
set_option maxRecDepth 30000 in
theorem wk_499 : Cond.selects "DryDock$State" ⟨"DryDock$State", "takenPlaces", "()I"⟩ ⟨"DryDock$State", "takenPlaces", "()I"⟩ ∈ GW := GW_t3 19 rfl rfl
set_option maxRecDepth 30000 in
theorem wk_500 : Cond.code yX9_takenPlaces cX9_takenPlaces 3 (some .int) ∈ GW := GW_t3 20 rfl rfl
set_option maxRecDepth 30000 in
theorem wk_502 : Cond.static ⟨"DryDock", "placeBits", "(II)I"⟩ ∈ GW := GW_t3 22 rfl rfl
set_option maxRecDepth 30000 in
theorem wk_503 : Cond.code yX11_placeBits cX11_placeBits 2 (some .int) ∈ GW := GW_t3 23 rfl rfl
set_option maxRecDepth 30000 in
theorem wk_504 : Cond.methodLink "DryDock" 278 ⟨"java/lang/Math", "max", "(II)I"⟩ ∈ GW := GW_t3 24 rfl rfl
set_option maxRecDepth 30000 in
theorem wk_505 : Cond.static ⟨"java/lang/Math", "max", "(II)I"⟩ ∈ GW := GW_t3 25 rfl rfl
set_option maxRecDepth 30000 in
theorem wk_507 : Cond.methodLink "DryDockLaw" 202 ⟨"DryDock", "load", "()I"⟩ ∈ GW := GW_t3 27 rfl rfl
set_option maxRecDepth 30000 in
theorem wk_508 : Cond.instanceMethod ⟨"DryDock", "load", "()I"⟩ ∈ GW := GW_t3 28 rfl rfl
set_option maxRecDepth 30000 in
theorem wk_509 : Cond.selects "DryDock" ⟨"DryDock", "load", "()I"⟩ ⟨"DryDock", "load", "()I"⟩ ∈ GW := GW_t3 29 rfl rfl
set_option maxRecDepth 30000 in
theorem wk_510 : Cond.code yX11_load cX11_load 1 (some .int) ∈ GW := GW_t3 30 rfl rfl
set_option maxRecDepth 30000 in
theorem wk_511 : Cond.methodLink "DryDock" 284 ⟨"DryDock$Plans", "fillDock", "(LDryDock$State;LDryDock$Law;)V"⟩ ∈ GW := GW_t3 31 rfl rfl
set_option maxRecDepth 30000 in
theorem wk_512 : Cond.instanceMethod ⟨"DryDock$Plans", "fillDock", "(LDryDock$State;LDryDock$Law;)V"⟩ ∈ GW := GW_t3 32 rfl rfl
set_option maxRecDepth 30000 in
theorem wk_513 : Cond.selects "DryDock$Plans" ⟨"DryDock$Plans", "fillDock", "(LDryDock$State;LDryDock$Law;)V"⟩ ⟨"DryDock$Plans", "fillDock", "(LDryDock$State;LDryDock$Law;)V"⟩ ∈ GW := GW_t3 33 rfl rfl
set_option maxRecDepth 30000 in
theorem wk_514 : Cond.code yX6_fillDock cX6_fillDock 5 none ∈ GW := GW_t3 34 rfl rfl
set_option maxRecDepth 30000 in
theorem wk_515 : Cond.methodLink "DryDock$Plans" 27 ⟨"DryDock$State", "takenPlaces", "()I"⟩ ∈ GW := GW_t3 35 rfl rfl
set_option maxRecDepth 30000 in
theorem wk_516 : Cond.methodLink "DryDock$Plans" 33 ⟨"DryDock$Plans", "findBins", "(I)V"⟩ ∈ GW := GW_t3 36 rfl rfl
set_option maxRecDepth 30000 in
theorem wk_518 : Cond.instanceMethod ⟨"DryDock$Plans", "findBins", "(I)V"⟩ ∈ GW := GW_t3 38 rfl rfl
set_option maxRecDepth 30000 in
theorem wk_519 : Cond.code yX6_findBins cX6_findBins 5 none ∈ GW := GW_t3 39 rfl rfl
set_option maxRecDepth 30000 in
theorem wk_520 : Cond.methodLink "DryDock$Plans" 37 ⟨"DryDock$Plans", "findFees", "(LDryDock$State;LDryDock$Law;)V"⟩ ∈ GW := GW_t3 40 rfl rfl
set_option maxRecDepth 30000 in
theorem wk_522 : Cond.instanceMethod ⟨"DryDock$Plans", "findFees", "(LDryDock$State;LDryDock$Law;)V"⟩ ∈ GW := GW_t3 42 rfl rfl
set_option maxRecDepth 30000 in
theorem wk_523 : Cond.code yX6_findFees cX6_findFees 4 none ∈ GW := GW_t3 43 rfl rfl
set_option maxRecDepth 30000 in
theorem wk_524 : Cond.methodLink "DryDock$Plans" 72 ⟨"DryDock$State", "feeOf", "(ILDryDock$Law;)I"⟩ ∈ GW := GW_t3 44 rfl rfl
set_option maxRecDepth 30000 in
theorem wk_525 : Cond.instanceMethod ⟨"DryDock$State", "feeOf", "(ILDryDock$Law;)I"⟩ ∈ GW := GW_t3 45 rfl rfl
set_option maxRecDepth 30000 in
theorem wk_526 : Cond.selects "DryDock$State" ⟨"DryDock$State", "feeOf", "(ILDryDock$Law;)I"⟩ ⟨"DryDock$State", "feeOf", "(ILDryDock$Law;)I"⟩ ∈ GW := GW_t3 46 rfl rfl
set_option maxRecDepth 30000 in
theorem wk_527 : Cond.code yX9_feeOf cX9_feeOf 3 (some .int) ∈ GW := GW_t3 47 rfl rfl
set_option maxRecDepth 30000 in
theorem wk_528 : Cond.methodLink "DryDock$Plans" 60 ⟨"DryDock$Plans", "leastFilling", "(ILDryDock$State;)I"⟩ ∈ GW := GW_t3 48 rfl rfl
set_option maxRecDepth 30000 in
theorem wk_530 : Cond.instanceMethod ⟨"DryDock$Plans", "leastFilling", "(ILDryDock$State;)I"⟩ ∈ GW := GW_t3 50 rfl rfl
set_option maxRecDepth 30000 in
theorem wk_531 : Cond.code yX6_leastFilling cX6_leastFilling 5 (some .int) ∈ GW := GW_t3 51 rfl rfl
set_option maxRecDepth 30000 in
theorem wk_532 : Cond.constant "DryDock$Plans" 64 (1048576 : Int32) ∈ GW := GW_t3 52 rfl rfl
set_option maxRecDepth 30000 in
theorem wk_533 : Cond.methodLink "DryDock$Plans" 79 ⟨"DryDock$Plans", "filledBy", "(II)I"⟩ ∈ GW := GW_t3 53 rfl rfl
set_option maxRecDepth 30000 in
theorem wk_535 : Cond.instanceMethod ⟨"DryDock$Plans", "filledBy", "(II)I"⟩ ∈ GW := GW_t3 55 rfl rfl
set_option maxRecDepth 30000 in
theorem wk_536 : Cond.code yX6_filledBy cX6_filledBy 5 (some .int) ∈ GW := GW_t3 56 rfl rfl
set_option maxRecDepth 30000 in
theorem wk_537 : Cond.methodLink "DryDock$Plans" 83 ⟨"java/lang/Math", "min", "(II)I"⟩ ∈ GW := GW_t3 57 rfl rfl
set_option maxRecDepth 30000 in
theorem wk_538 : Cond.static ⟨"java/lang/Math", "min", "(II)I"⟩ ∈ GW := GW_t3 58 rfl rfl
set_option maxRecDepth 30000 in
theorem wk_540 : Cond.methodLink "DryDock$Plans" 65 ⟨"DryDock$Plans", "feesOf", "(I)I"⟩ ∈ GW := GW_t3 60 rfl rfl
set_option maxRecDepth 30000 in
theorem wk_542 : Cond.instanceMethod ⟨"DryDock$Plans", "feesOf", "(I)I"⟩ ∈ GW := GW_t3 62 rfl rfl
set_option maxRecDepth 30000 in
theorem wk_543 : Cond.code yX6_feesOf cX6_feesOf 4 (some .int) ∈ GW := GW_t3 63 rfl rfl
set_option maxRecDepth 30000 in
theorem wk_544 : Cond.methodLink "DryDockLaw" 206 ⟨"DryDock", "which", "()I"⟩ ∈ GW := GW_t3 64 rfl rfl
set_option maxRecDepth 30000 in
theorem wk_545 : Cond.instanceMethod ⟨"DryDock", "which", "()I"⟩ ∈ GW := GW_t3 65 rfl rfl
set_option maxRecDepth 30000 in
theorem wk_546 : Cond.selects "DryDock" ⟨"DryDock", "which", "()I"⟩ ⟨"DryDock", "which", "()I"⟩ ∈ GW := GW_t3 66 rfl rfl
set_option maxRecDepth 30000 in
theorem wk_547 : Cond.code yX11_which cX11_which 1 (some .int) ∈ GW := GW_t3 67 rfl rfl
set_option maxRecDepth 30000 in
theorem wk_548 : Cond.methodLink "DryDockLaw" 210 ⟨"DryDock", "dry", "()I"⟩ ∈ GW := GW_t3 68 rfl rfl
set_option maxRecDepth 30000 in
theorem wk_549 : Cond.instanceMethod ⟨"DryDock", "dry", "()I"⟩ ∈ GW := GW_t3 69 rfl rfl
set_option maxRecDepth 30000 in
theorem wk_550 : Cond.selects "DryDock" ⟨"DryDock", "dry", "()I"⟩ ⟨"DryDock", "dry", "()I"⟩ ∈ GW := GW_t3 70 rfl rfl
set_option maxRecDepth 30000 in
theorem wk_551 : Cond.code yX11_dry cX11_dry 1 (some .int) ∈ GW := GW_t3 71 rfl rfl
set_option maxRecDepth 30000 in
theorem wk_552 : Cond.methodLink "DryDock" 294 ⟨"DryDock", "firstHour", "(I)I"⟩ ∈ GW := GW_t3 72 rfl rfl
set_option maxRecDepth 30000 in
theorem wk_554 : Cond.instanceMethod ⟨"DryDock", "firstHour", "(I)I"⟩ ∈ GW := GW_t3 74 rfl rfl
set_option maxRecDepth 30000 in
theorem wk_555 : Cond.code yX11_firstHour cX11_firstHour 3 (some .int) ∈ GW := GW_t3 75 rfl rfl
set_option maxRecDepth 30000 in
theorem wk_556 : Cond.methodLink "DryDock" 99 ⟨"DryDock$State", "copy", "(LDryDock$State;)V"⟩ ∈ GW := GW_t3 76 rfl rfl
set_option maxRecDepth 30000 in
theorem wk_557 : Cond.instanceMethod ⟨"DryDock$State", "copy", "(LDryDock$State;)V"⟩ ∈ GW := GW_t3 77 rfl rfl
set_option maxRecDepth 30000 in
theorem wk_558 : Cond.selects "DryDock$State" ⟨"DryDock$State", "copy", "(LDryDock$State;)V"⟩ ⟨"DryDock$State", "copy", "(LDryDock$State;)V"⟩ ∈ GW := GW_t3 78 rfl rfl
set_option maxRecDepth 30000 in
theorem wk_559 : Cond.code yX9_copy cX9_copy 2 none ∈ GW := GW_t3 79 rfl rfl
set_option maxRecDepth 30000 in
theorem wk_560 : Cond.methodLink "DryDock$State" 75 ⟨"java/lang/System", "arraycopy", "(Ljava/lang/Object;ILjava/lang/Object;II)V"⟩ ∈ GW := GW_t3 80 rfl rfl
set_option maxRecDepth 30000 in
theorem wk_561 : Cond.static ⟨"java/lang/System", "arraycopy", "(Ljava/lang/Object;ILjava/lang/Object;II)V"⟩ ∈ GW := GW_t3 81 rfl rfl
set_option maxRecDepth 30000 in
theorem wk_563 : Cond.methodLink "DryDock$State" 81 ⟨"DryDock$Log", "copy", "(LDryDock$Log;)V"⟩ ∈ GW := GW_t3 83 rfl rfl
set_option maxRecDepth 30000 in
theorem wk_564 : Cond.instanceMethod ⟨"DryDock$Log", "copy", "(LDryDock$Log;)V"⟩ ∈ GW := GW_t3 84 rfl rfl
set_option maxRecDepth 30000 in
theorem wk_565 : Cond.selects "DryDock$Log" ⟨"DryDock$Log", "copy", "(LDryDock$Log;)V"⟩ ⟨"DryDock$Log", "copy", "(LDryDock$Log;)V"⟩ ∈ GW := GW_t3 85 rfl rfl
set_option maxRecDepth 30000 in
theorem wk_566 : Cond.code yX4_copy cX4_copy 2 none ∈ GW := GW_t3 86 rfl rfl
set_option maxRecDepth 30000 in
theorem wk_567 : Cond.methodLink "DryDock$Log" 22 ⟨"java/lang/System", "arraycopy", "(Ljava/lang/Object;ILjava/lang/Object;II)V"⟩ ∈ GW := GW_t3 87 rfl rfl
set_option maxRecDepth 30000 in
theorem wk_568 : Cond.methodLink "DryDock" 437 ⟨"DryDock$State", "reaches", "(I)Z"⟩ ∈ GW := GW_t3 88 rfl rfl
set_option maxRecDepth 30000 in
theorem wk_569 : Cond.instanceMethod ⟨"DryDock$State", "reaches", "(I)Z"⟩ ∈ GW := GW_t3 89 rfl rfl
set_option maxRecDepth 30000 in
theorem wk_570 : Cond.selects "DryDock$State" ⟨"DryDock$State", "reaches", "(I)Z"⟩ ⟨"DryDock$State", "reaches", "(I)Z"⟩ ∈ GW := GW_t3 90 rfl rfl
set_option maxRecDepth 30000 in
theorem wk_571 : Cond.code yX9_reaches cX9_reaches 2 (some .boolean) ∈ GW := GW_t3 91 rfl rfl
set_option maxRecDepth 30000 in
theorem wk_572 : Cond.methodLink "DryDock$State" 143 ⟨"DryDock$State", "busyDocked", "()I"⟩ ∈ GW := GW_t3 92 rfl rfl
set_option maxRecDepth 30000 in
theorem wk_573 : Cond.instanceMethod ⟨"DryDock$State", "busyDocked", "()I"⟩ ∈ GW := GW_t3 93 rfl rfl
set_option maxRecDepth 30000 in
theorem wk_574 : Cond.selects "DryDock$State" ⟨"DryDock$State", "busyDocked", "()I"⟩ ⟨"DryDock$State", "busyDocked", "()I"⟩ ∈ GW := GW_t3 94 rfl rfl
set_option maxRecDepth 30000 in
theorem wk_575 : Cond.code yX9_busyDocked cX9_busyDocked 3 (some .int) ∈ GW := GW_t3 95 rfl rfl
set_option maxRecDepth 30000 in
theorem wk_576 : Cond.methodLink "DryDock$State" 146 ⟨"DryDock$State", "isEven", "()Z"⟩ ∈ GW := GW_t3 96 rfl rfl
set_option maxRecDepth 30000 in
theorem wk_577 : Cond.methodLink "DryDock" 440 ⟨"DryDock$State", "step", "(LDryDock$Law;Z)I"⟩ ∈ GW := GW_t3 97 rfl rfl
set_option maxRecDepth 30000 in
theorem wk_578 : Cond.instanceMethod ⟨"DryDock$State", "step", "(LDryDock$Law;Z)I"⟩ ∈ GW := GW_t3 98 rfl rfl
set_option maxRecDepth 30000 in
theorem wk_579 : Cond.selects "DryDock$State" ⟨"DryDock$State", "step", "(LDryDock$Law;Z)I"⟩ ⟨"DryDock$State", "step", "(LDryDock$Law;Z)I"⟩ ∈ GW := GW_t3 99 rfl rfl
set_option maxRecDepth 30000 in
theorem wk_580 : Cond.code yX9_step cX9_step 3 (some .int) ∈ GW := GW_t3 100 rfl rfl
set_option maxRecDepth 30000 in
theorem wk_581 : Cond.methodLink "DryDock$State" 106 ⟨"java/lang/Math", "min", "(II)I"⟩ ∈ GW := GW_t3 101 rfl rfl
set_option maxRecDepth 30000 in
theorem wk_582 : Cond.methodLink "DryDock$State" 110 ⟨"DryDock$State", "nextSurge", "()I"⟩ ∈ GW := GW_t3 102 rfl rfl
set_option maxRecDepth 30000 in
theorem wk_584 : Cond.instanceMethod ⟨"DryDock$State", "nextSurge", "()I"⟩ ∈ GW := GW_t3 104 rfl rfl
set_option maxRecDepth 30000 in
theorem wk_585 : Cond.code yX9_nextSurge cX9_nextSurge 2 (some .int) ∈ GW := GW_t3 105 rfl rfl
set_option maxRecDepth 30000 in
theorem wk_586 : Cond.constant "DryDock$State" 101 (1103515245 : Int32) ∈ GW := GW_t3 106 rfl rfl
set_option maxRecDepth 30000 in
theorem wk_587 : Cond.methodLink "DryDock$State" 113 ⟨"DryDock$State", "leaking", "(LDryDock$Law;)I"⟩ ∈ GW := GW_t3 107 rfl rfl
set_option maxRecDepth 30000 in
theorem wk_588 : Cond.methodLink "DryDock$State" 117 ⟨"DryDock$State", "pulling", "(LDryDock$Law;)I"⟩ ∈ GW := GW_t3 108 rfl rfl
set_option maxRecDepth 30000 in
theorem wk_589 : Cond.methodLink "DryDock$State" 120 ⟨"java/lang/Math", "max", "(II)I"⟩ ∈ GW := GW_t3 109 rfl rfl
set_option maxRecDepth 30000 in
theorem wk_590 : Cond.methodLink "DryDock$State" 123 ⟨"DryDock$State", "hurtUnborne", "()V"⟩ ∈ GW := GW_t3 110 rfl rfl
set_option maxRecDepth 30000 in
theorem wk_592 : Cond.instanceMethod ⟨"DryDock$State", "hurtUnborne", "()V"⟩ ∈ GW := GW_t3 112 rfl rfl
set_option maxRecDepth 30000 in
theorem wk_593 : Cond.code yX9_hurtUnborne cX9_hurtUnborne 2 none ∈ GW := GW_t3 113 rfl rfl
set_option maxRecDepth 30000 in
theorem wk_594 : Cond.methodLink "DryDock$State" 129 ⟨"DryDock$State", "sits", "(I)Z"⟩ ∈ GW := GW_t3 114 rfl rfl
set_option maxRecDepth 30000 in
theorem wk_596 : Cond.instanceMethod ⟨"DryDock$State", "sits", "(I)Z"⟩ ∈ GW := GW_t3 116 rfl rfl
set_option maxRecDepth 30000 in
theorem wk_597 : Cond.code yX9_sits cX9_sits 2 (some .boolean) ∈ GW := GW_t3 117 rfl rfl
set_option maxRecDepth 30000 in
theorem wk_598 : Cond.methodLink "DryDock$State" 133 ⟨"DryDock$State", "isHurt", "(I)Z"⟩ ∈ GW := GW_t3 118 rfl rfl
set_option maxRecDepth 30000 in
theorem wk_599 : Cond.instanceMethod ⟨"DryDock$State", "isHurt", "(I)Z"⟩ ∈ GW := GW_t3 119 rfl rfl
set_option maxRecDepth 30000 in
theorem wk_600 : Cond.selects "DryDock$State" ⟨"DryDock$State", "isHurt", "(I)Z"⟩ ⟨"DryDock$State", "isHurt", "(I)Z"⟩ ∈ GW := GW_t3 120 rfl rfl
set_option maxRecDepth 30000 in
theorem wk_601 : Cond.code yX9_isHurt cX9_isHurt 2 (some .boolean) ∈ GW := GW_t3 121 rfl rfl
set_option maxRecDepth 30000 in
theorem wk_602 : Cond.methodLink "DryDock$State" 136 ⟨"DryDock$State", "isBorne", "(I)Z"⟩ ∈ GW := GW_t3 122 rfl rfl
set_option maxRecDepth 30000 in
theorem wk_603 : Cond.instanceMethod ⟨"DryDock$State", "isBorne", "(I)Z"⟩ ∈ GW := GW_t3 123 rfl rfl
set_option maxRecDepth 30000 in
theorem wk_604 : Cond.selects "DryDock$State" ⟨"DryDock$State", "isBorne", "(I)Z"⟩ ⟨"DryDock$State", "isBorne", "(I)Z"⟩ ∈ GW := GW_t3 124 rfl rfl
set_option maxRecDepth 30000 in
theorem wk_605 : Cond.code yX9_isBorne cX9_isBorne 2 (some .boolean) ∈ GW := GW_t3 125 rfl rfl
set_option maxRecDepth 30000 in
theorem wk_606 : Cond.methodLink "DryDock$State" 154 ⟨"DryDock$State", "wedgesOf", "(I)I"⟩ ∈ GW := GW_t3 126 rfl rfl
set_option maxRecDepth 30000 in
theorem wk_607 : Cond.instanceMethod ⟨"DryDock$State", "wedgesOf", "(I)I"⟩ ∈ GW := GW_t3 127 rfl rfl
set_option maxRecDepth 30000 in
theorem wk_608 : Cond.selects "DryDock$State" ⟨"DryDock$State", "wedgesOf", "(I)I"⟩ ⟨"DryDock$State", "wedgesOf", "(I)I"⟩ ∈ GW := GW_t3 128 rfl rfl
set_option maxRecDepth 30000 in
theorem wk_609 : Cond.code yX9_wedgesOf cX9_wedgesOf 5 (some .int) ∈ GW := GW_t3 129 rfl rfl
set_option maxRecDepth 30000 in
theorem wk_610 : Cond.methodLink "DryDock$State" 139 ⟨"DryDock$Log", "add", "(IIIII)V"⟩ ∈ GW := GW_t3 130 rfl rfl
set_option maxRecDepth 30000 in
theorem wk_611 : Cond.instanceMethod ⟨"DryDock$Log", "add", "(IIIII)V"⟩ ∈ GW := GW_t3 131 rfl rfl
set_option maxRecDepth 30000 in
theorem wk_612 : Cond.selects "DryDock$Log" ⟨"DryDock$Log", "add", "(IIIII)V"⟩ ⟨"DryDock$Log", "add", "(IIIII)V"⟩ ∈ GW := GW_t3 132 rfl rfl
set_option maxRecDepth 30000 in
theorem wk_613 : Cond.code yX4_add cX4_add 7 none ∈ GW := GW_t3 133 rfl rfl
set_option maxRecDepth 30000 in
theorem wk_614 : Cond.methodLink "DryDock$Log" 28 ⟨"java/lang/Math", "min", "(II)I"⟩ ∈ GW := GW_t3 134 rfl rfl
set_option maxRecDepth 30000 in
theorem wk_615 : Cond.methodLink "DryDock$State" 126 ⟨"DryDock$State", "workHands", "()I"⟩ ∈ GW := GW_t3 135 rfl rfl
set_option maxRecDepth 30000 in
theorem wk_617 : Cond.instanceMethod ⟨"DryDock$State", "workHands", "()I"⟩ ∈ GW := GW_t3 137 rfl rfl
set_option maxRecDepth 30000 in
theorem wk_618 : Cond.code yX9_workHands cX9_workHands 4 (some .int) ∈ GW := GW_t3 138 rfl rfl
set_option maxRecDepth 30000 in
theorem wk_619 : Cond.methodLink "DryDockLaw" 214 ⟨"DryDock", "ready", "()I"⟩ ∈ GW := GW_t3 139 rfl rfl
set_option maxRecDepth 30000 in
theorem wk_620 : Cond.instanceMethod ⟨"DryDock", "ready", "()I"⟩ ∈ GW := GW_t3 140 rfl rfl
set_option maxRecDepth 30000 in
theorem wk_621 : Cond.selects "DryDock" ⟨"DryDock", "ready", "()I"⟩ ⟨"DryDock", "ready", "()I"⟩ ∈ GW := GW_t3 141 rfl rfl
set_option maxRecDepth 30000 in
theorem wk_622 : Cond.code yX11_ready cX11_ready 1 (some .int) ∈ GW := GW_t3 142 rfl rfl
set_option maxRecDepth 30000 in
theorem wk_623 : Cond.methodLink "DryDockLaw" 218 ⟨"DryDock", "ease", "()I"⟩ ∈ GW := GW_t3 143 rfl rfl
set_option maxRecDepth 30000 in
theorem wk_624 : Cond.instanceMethod ⟨"DryDock", "ease", "()I"⟩ ∈ GW := GW_t3 144 rfl rfl
set_option maxRecDepth 30000 in
theorem wk_625 : Cond.selects "DryDock" ⟨"DryDock", "ease", "()I"⟩ ⟨"DryDock", "ease", "()I"⟩ ∈ GW := GW_t3 145 rfl rfl
set_option maxRecDepth 30000 in
theorem wk_626 : Cond.code yX11_ease cX11_ease 1 (some .int) ∈ GW := GW_t3 146 rfl rfl
set_option maxRecDepth 30000 in
theorem wk_627 : Cond.methodLink "DryDockLaw" 222 ⟨"DryDock", "cost", "()I"⟩ ∈ GW := GW_t3 147 rfl rfl
set_option maxRecDepth 30000 in
theorem wk_628 : Cond.instanceMethod ⟨"DryDock", "cost", "()I"⟩ ∈ GW := GW_t3 148 rfl rfl
set_option maxRecDepth 30000 in
theorem wk_629 : Cond.selects "DryDock" ⟨"DryDock", "cost", "()I"⟩ ⟨"DryDock", "cost", "()I"⟩ ∈ GW := GW_t3 149 rfl rfl
set_option maxRecDepth 30000 in
theorem wk_630 : Cond.code yX11_cost cX11_cost 1 (some .int) ∈ GW := GW_t3 150 rfl rfl
set_option maxRecDepth 30000 in
theorem wk_631 : Cond.methodLink "DryDock" 297 ⟨"DryDock$Plans", "orderWork", "(LDryDock$State;LDryDock$Law;)V"⟩ ∈ GW := GW_t3 151 rfl rfl
set_option maxRecDepth 30000 in
theorem wk_632 : Cond.instanceMethod ⟨"DryDock$Plans", "orderWork", "(LDryDock$State;LDryDock$Law;)V"⟩ ∈ GW := GW_t3 152 rfl rfl
set_option maxRecDepth 30000 in
theorem wk_633 : Cond.selects "DryDock$Plans" ⟨"DryDock$Plans", "orderWork", "(LDryDock$State;LDryDock$Law;)V"⟩ ⟨"DryDock$Plans", "orderWork", "(LDryDock$State;LDryDock$Law;)V"⟩ ∈ GW := GW_t3 153 rfl rfl
set_option maxRecDepth 30000 in
theorem wk_634 : Cond.code yX6_orderWork cX6_orderWork 5 none ∈ GW := GW_t3 154 rfl rfl
set_option maxRecDepth 30000 in
theorem wk_635 : Cond.methodLink "DryDock$Plans" 88 ⟨"DryDock$State", "busyDocked", "()I"⟩ ∈ GW := GW_t3 155 rfl rfl
set_option maxRecDepth 30000 in
theorem wk_636 : Cond.methodLink "DryDock$Plans" 94 ⟨"DryDock$Plans", "orderRest", "(IILDryDock$State;)V"⟩ ∈ GW := GW_t3 156 rfl rfl
set_option maxRecDepth 30000 in
theorem wk_638 : Cond.instanceMethod ⟨"DryDock$Plans", "orderRest", "(IILDryDock$State;)V"⟩ ∈ GW := GW_t3 158 rfl rfl
set_option maxRecDepth 30000 in
theorem wk_639 : Cond.code yX6_orderRest cX6_orderRest 8 none ∈ GW := GW_t3 159 rfl rfl
set_option maxRecDepth 30000 in
theorem wk_640 : Cond.methodLink "DryDock$Plans" 101 ⟨"DryDock$Plans", "roundedUp", "(II)I"⟩ ∈ GW := GW_t3 160 rfl rfl
set_option maxRecDepth 30000 in
theorem wk_641 : Cond.static ⟨"DryDock$Plans", "roundedUp", "(II)I"⟩ ∈ GW := GW_t3 161 rfl rfl
set_option maxRecDepth 30000 in
theorem wk_642 : Cond.code yX6_roundedUp cX6_roundedUp 2 (some .int) ∈ GW := GW_t3 162 rfl rfl
set_option maxRecDepth 30000 in
theorem wk_643 : Cond.methodLink "DryDockLaw" 226 ⟨"DryDock", "first", "()I"⟩ ∈ GW := GW_t3 163 rfl rfl
set_option maxRecDepth 30000 in
theorem wk_644 : Cond.instanceMethod ⟨"DryDock", "first", "()I"⟩ ∈ GW := GW_t3 164 rfl rfl
set_option maxRecDepth 30000 in
theorem wk_645 : Cond.selects "DryDock" ⟨"DryDock", "first", "()I"⟩ ⟨"DryDock", "first", "()I"⟩ ∈ GW := GW_t3 165 rfl rfl
set_option maxRecDepth 30000 in
theorem wk_646 : Cond.code yX11_first cX11_first 1 (some .int) ∈ GW := GW_t3 166 rfl rfl
set_option maxRecDepth 30000 in
theorem wk_647 : Cond.methodLink "DryDockLaw" 245 ⟨"DryDock", "knocks", "()Z"⟩ ∈ GW := GW_t3 167 rfl rfl
set_option maxRecDepth 30000 in
theorem wk_648 : Cond.instanceMethod ⟨"DryDock", "knocks", "()Z"⟩ ∈ GW := GW_t3 168 rfl rfl
set_option maxRecDepth 30000 in
theorem wk_649 : Cond.selects "DryDock" ⟨"DryDock", "knocks", "()Z"⟩ ⟨"DryDock", "knocks", "()Z"⟩ ∈ GW := GW_t3 169 rfl rfl
set_option maxRecDepth 30000 in
theorem wk_650 : Cond.code yX11_knocks cX11_knocks 1 (some .boolean) ∈ GW := GW_t3 170 rfl rfl
set_option maxRecDepth 30000 in
theorem wk_651 : Cond.methodLink "DryDock" 326 ⟨"DryDock$Plans", "knockValue", "(I)I"⟩ ∈ GW := GW_t3 171 rfl rfl
set_option maxRecDepth 30000 in
theorem wk_652 : Cond.static ⟨"DryDock$Plans", "knockValue", "(I)I"⟩ ∈ GW := GW_t3 172 rfl rfl
set_option maxRecDepth 30000 in
theorem wk_653 : Cond.code yX6_knockValue cX6_knockValue 4 (some .int) ∈ GW := GW_t3 173 rfl rfl
set_option maxRecDepth 30000 in
theorem wk_654 : Cond.fieldLink "DryDock$Plans" 141 "DryDock$Plans" "ROW_VALUES" "[I" ∈ GW := GW_t3 174 rfl rfl
set_option maxRecDepth 30000 in
theorem wk_656 : Cond.methodLink "DryDockLaw" 249 ⟨"DryDock", "knock", "()I"⟩ ∈ GW := GW_t3 176 rfl rfl
set_option maxRecDepth 30000 in
theorem wk_657 : Cond.instanceMethod ⟨"DryDock", "knock", "()I"⟩ ∈ GW := GW_t3 177 rfl rfl
set_option maxRecDepth 30000 in
theorem wk_658 : Cond.selects "DryDock" ⟨"DryDock", "knock", "()I"⟩ ⟨"DryDock", "knock", "()I"⟩ ∈ GW := GW_t3 178 rfl rfl
set_option maxRecDepth 30000 in
theorem wk_659 : Cond.code yX11_knock cX11_knock 1 (some .int) ∈ GW := GW_t3 179 rfl rfl
set_option maxRecDepth 30000 in
theorem wk_660 : Cond.methodLink "DryDock" 329 ⟨"DryDock$Plans", "winningKnock", "(I)I"⟩ ∈ GW := GW_t3 180 rfl rfl
set_option maxRecDepth 30000 in
theorem wk_661 : Cond.static ⟨"DryDock$Plans", "winningKnock", "(I)I"⟩ ∈ GW := GW_t3 181 rfl rfl
set_option maxRecDepth 30000 in
theorem wk_662 : Cond.code yX6_winningKnock cX6_winningKnock 3 (some .int) ∈ GW := GW_t3 182 rfl rfl
set_option maxRecDepth 30000 in
theorem wk_663 : Cond.methodLink "DryDock$Plans" 144 ⟨"DryDock$Plans", "knockValue", "(I)I"⟩ ∈ GW := GW_t3 183 rfl rfl
set_option maxRecDepth 30000 in
theorem wk_664 : Cond.methodLink "DryDockLaw" 268 ⟨"DryDock", "waiting", "()I"⟩ ∈ GW := GW_t3 184 rfl rfl
set_option maxRecDepth 30000 in
theorem wk_665 : Cond.instanceMethod ⟨"DryDock", "waiting", "()I"⟩ ∈ GW := GW_t3 185 rfl rfl
set_option maxRecDepth 30000 in
theorem wk_666 : Cond.selects "DryDock" ⟨"DryDock", "waiting", "()I"⟩ ⟨"DryDock", "waiting", "()I"⟩ ∈ GW := GW_t3 186 rfl rfl
set_option maxRecDepth 30000 in
theorem wk_667 : Cond.code yX11_waiting cX11_waiting 1 (some .int) ∈ GW := GW_t3 187 rfl rfl
set_option maxRecDepth 30000 in
theorem wk_668 : Cond.methodLink "DryDock" 357 ⟨"DryDock$State", "standing", "(I)I"⟩ ∈ GW := GW_t3 188 rfl rfl
set_option maxRecDepth 30000 in
theorem wk_669 : Cond.instanceMethod ⟨"DryDock$State", "standing", "(I)I"⟩ ∈ GW := GW_t3 189 rfl rfl
set_option maxRecDepth 30000 in
theorem wk_670 : Cond.selects "DryDock$State" ⟨"DryDock$State", "standing", "(I)I"⟩ ⟨"DryDock$State", "standing", "(I)I"⟩ ∈ GW := GW_t3 190 rfl rfl
set_option maxRecDepth 30000 in
theorem wk_671 : Cond.code yX9_standing cX9_standing 4 (some .int) ∈ GW := GW_t3 191 rfl rfl
set_option maxRecDepth 30000 in
theorem wk_672 : Cond.methodLink "DryDockLaw" 272 ⟨"DryDock", "docked", "()I"⟩ ∈ GW := GW_t3 192 rfl rfl
set_option maxRecDepth 30000 in
theorem wk_673 : Cond.instanceMethod ⟨"DryDock", "docked", "()I"⟩ ∈ GW := GW_t3 193 rfl rfl
set_option maxRecDepth 30000 in
theorem wk_674 : Cond.selects "DryDock" ⟨"DryDock", "docked", "()I"⟩ ⟨"DryDock", "docked", "()I"⟩ ∈ GW := GW_t3 194 rfl rfl
set_option maxRecDepth 30000 in
theorem wk_675 : Cond.code yX11_docked cX11_docked 1 (some .int) ∈ GW := GW_t3 195 rfl rfl
set_option maxRecDepth 30000 in
theorem wk_676 : Cond.methodLink "DryDockLaw" 276 ⟨"DryDock", "gone", "()I"⟩ ∈ GW := GW_t3 196 rfl rfl
set_option maxRecDepth 30000 in
theorem wk_677 : Cond.instanceMethod ⟨"DryDock", "gone", "()I"⟩ ∈ GW := GW_t3 197 rfl rfl
set_option maxRecDepth 30000 in
theorem wk_678 : Cond.selects "DryDock" ⟨"DryDock", "gone", "()I"⟩ ⟨"DryDock", "gone", "()I"⟩ ∈ GW := GW_t3 198 rfl rfl
set_option maxRecDepth 30000 in
theorem wk_679 : Cond.code yX11_gone cX11_gone 1 (some .int) ∈ GW := GW_t3 199 rfl rfl
set_option maxRecDepth 30000 in
theorem wk_680 : Cond.methodLink "DryDockLaw" 280 ⟨"DryDock", "hurt", "()I"⟩ ∈ GW := GW_t3 200 rfl rfl
set_option maxRecDepth 30000 in
theorem wk_681 : Cond.instanceMethod ⟨"DryDock", "hurt", "()I"⟩ ∈ GW := GW_t3 201 rfl rfl
set_option maxRecDepth 30000 in
theorem wk_682 : Cond.selects "DryDock" ⟨"DryDock", "hurt", "()I"⟩ ⟨"DryDock", "hurt", "()I"⟩ ∈ GW := GW_t3 202 rfl rfl
set_option maxRecDepth 30000 in
theorem wk_683 : Cond.code yX11_hurt cX11_hurt 1 (some .int) ∈ GW := GW_t3 203 rfl rfl
set_option maxRecDepth 30000 in
theorem wk_684 : Cond.methodLink "DryDockLaw" 284 ⟨"DryDock", "twins", "()I"⟩ ∈ GW := GW_t3 204 rfl rfl
set_option maxRecDepth 30000 in
theorem wk_685 : Cond.instanceMethod ⟨"DryDock", "twins", "()I"⟩ ∈ GW := GW_t3 205 rfl rfl
set_option maxRecDepth 30000 in
theorem wk_686 : Cond.selects "DryDock" ⟨"DryDock", "twins", "()I"⟩ ⟨"DryDock", "twins", "()I"⟩ ∈ GW := GW_t3 206 rfl rfl
set_option maxRecDepth 30000 in
theorem wk_687 : Cond.code yX11_twins cX11_twins 4 (some .int) ∈ GW := GW_t3 207 rfl rfl
set_option maxRecDepth 30000 in
theorem wk_688 : Cond.methodLink "DryDockLaw" 288 ⟨"DryDock", "water", "(Z)I"⟩ ∈ GW := GW_t3 208 rfl rfl
set_option maxRecDepth 30000 in
theorem wk_689 : Cond.instanceMethod ⟨"DryDock", "water", "(Z)I"⟩ ∈ GW := GW_t3 209 rfl rfl
set_option maxRecDepth 30000 in
theorem wk_690 : Cond.selects "DryDock" ⟨"DryDock", "water", "(Z)I"⟩ ⟨"DryDock", "water", "(Z)I"⟩ ∈ GW := GW_t3 210 rfl rfl
set_option maxRecDepth 30000 in
theorem wk_691 : Cond.code yX11_water cX11_water 5 (some .int) ∈ GW := GW_t3 211 rfl rfl
set_option maxRecDepth 30000 in
theorem wk_692 : Cond.methodLink "DryDockLaw" 307 ⟨"DryDock", "seed", "(I)I"⟩ ∈ GW := GW_t3 212 rfl rfl
set_option maxRecDepth 30000 in
theorem wk_693 : Cond.instanceMethod ⟨"DryDock", "seed", "(I)I"⟩ ∈ GW := GW_t3 213 rfl rfl
set_option maxRecDepth 30000 in
theorem wk_694 : Cond.selects "DryDock" ⟨"DryDock", "seed", "(I)I"⟩ ⟨"DryDock", "seed", "(I)I"⟩ ∈ GW := GW_t3 214 rfl rfl
set_option maxRecDepth 30000 in
theorem wk_695 : Cond.code yX11_seed cX11_seed 3 (some .int) ∈ GW := GW_t3 215 rfl rfl
set_option maxRecDepth 30000 in
theorem wk_696 : Cond.methodLink "DryDockLaw" 311 ⟨"DryDock", "undo", "()Z"⟩ ∈ GW := GW_t3 216 rfl rfl
set_option maxRecDepth 30000 in
theorem wk_697 : Cond.instanceMethod ⟨"DryDock", "undo", "()Z"⟩ ∈ GW := GW_t3 217 rfl rfl
set_option maxRecDepth 30000 in
theorem wk_698 : Cond.selects "DryDock" ⟨"DryDock", "undo", "()Z"⟩ ⟨"DryDock", "undo", "()Z"⟩ ∈ GW := GW_t3 218 rfl rfl
set_option maxRecDepth 30000 in
theorem wk_699 : Cond.code yX11_undo cX11_undo 1 (some .boolean) ∈ GW := GW_t3 219 rfl rfl
set_option maxRecDepth 30000 in
theorem wk_700 : Cond.methodLink "DryDock" 390 ⟨"DryDock$Past", "recall", "(LDryDock$State;)Z"⟩ ∈ GW := GW_t3 220 rfl rfl
set_option maxRecDepth 30000 in
theorem wk_701 : Cond.instanceMethod ⟨"DryDock$Past", "recall", "(LDryDock$State;)Z"⟩ ∈ GW := GW_t3 221 rfl rfl
set_option maxRecDepth 30000 in
theorem wk_702 : Cond.selects "DryDock$Past" ⟨"DryDock$Past", "recall", "(LDryDock$State;)Z"⟩ ⟨"DryDock$Past", "recall", "(LDryDock$State;)Z"⟩ ∈ GW := GW_t3 222 rfl rfl
set_option maxRecDepth 30000 in
theorem wk_703 : Cond.code yX5_recall cX5_recall 2 (some .boolean) ∈ GW := GW_t3 223 rfl rfl
set_option maxRecDepth 30000 in
theorem wk_704 : Cond.methodLink "DryDock$Past" 22 ⟨"DryDock$State", "copy", "(LDryDock$State;)V"⟩ ∈ GW := GW_t3 224 rfl rfl
set_option maxRecDepth 30000 in
theorem wk_705 : Cond.methodLink "DryDockLaw" 315 ⟨"DryDock", "image", "()V"⟩ ∈ GW := GW_t3 225 rfl rfl
set_option maxRecDepth 30000 in
theorem wk_706 : Cond.instanceMethod ⟨"DryDock", "image", "()V"⟩ ∈ GW := GW_t3 226 rfl rfl
set_option maxRecDepth 30000 in
theorem wk_707 : Cond.selects "DryDock" ⟨"DryDock", "image", "()V"⟩ ⟨"DryDock", "image", "()V"⟩ ∈ GW := GW_t3 227 rfl rfl
set_option maxRecDepth 30000 in
theorem wk_708 : Cond.code yX11_image cX11_image 1 none ∈ GW := GW_t3 228 rfl rfl
set_option maxRecDepth 30000 in
theorem wk_709 : Cond.methodLink "DryDock" 131 ⟨"DryDock$Law", "copy", "(LDryDock$Law;)V"⟩ ∈ GW := GW_t3 229 rfl rfl
set_option maxRecDepth 30000 in
theorem wk_710 : Cond.instanceMethod ⟨"DryDock$Law", "copy", "(LDryDock$Law;)V"⟩ ∈ GW := GW_t3 230 rfl rfl
set_option maxRecDepth 30000 in
theorem wk_711 : Cond.selects "DryDock$Law" ⟨"DryDock$Law", "copy", "(LDryDock$Law;)V"⟩ ⟨"DryDock$Law", "copy", "(LDryDock$Law;)V"⟩ ∈ GW := GW_t3 231 rfl rfl
set_option maxRecDepth 30000 in
theorem wk_712 : Cond.code yX2_copy cX2_copy 2 none ∈ GW := GW_t3 232 rfl rfl
set_option maxRecDepth 30000 in
theorem wk_713 : Cond.methodLink "DryDock$Law" 34 ⟨"java/lang/System", "arraycopy", "(Ljava/lang/Object;ILjava/lang/Object;II)V"⟩ ∈ GW := GW_t3 233 rfl rfl
set_option maxRecDepth 30000 in
theorem wk_714 : Cond.methodLink "DryDockLaw" 319 ⟨"DryDock", "back", "()Z"⟩ ∈ GW := GW_t3 234 rfl rfl
set_option maxRecDepth 30000 in
theorem wk_715 : Cond.instanceMethod ⟨"DryDock", "back", "()Z"⟩ ∈ GW := GW_t3 235 rfl rfl
set_option maxRecDepth 30000 in
theorem wk_716 : Cond.selects "DryDock" ⟨"DryDock", "back", "()Z"⟩ ⟨"DryDock", "back", "()Z"⟩ ∈ GW := GW_t3 236 rfl rfl
set_option maxRecDepth 30000 in
theorem wk_717 : Cond.code yX11_back cX11_back 1 (some .boolean) ∈ GW := GW_t3 237 rfl rfl
set_option maxRecDepth 30000 in
theorem wk_718 : Cond.methodLink "DryDock" 122 ⟨"DryDock$Past", "forget", "()V"⟩ ∈ GW := GW_t3 238 rfl rfl
set_option maxRecDepth 30000 in
theorem wk_719 : Cond.instanceMethod ⟨"DryDock$Past", "forget", "()V"⟩ ∈ GW := GW_t3 239 rfl rfl
set_option maxRecDepth 30000 in
theorem wk_720 : Cond.selects "DryDock$Past" ⟨"DryDock$Past", "forget", "()V"⟩ ⟨"DryDock$Past", "forget", "()V"⟩ ∈ GW := GW_t4 0 rfl rfl
set_option maxRecDepth 30000 in
theorem wk_721 : Cond.code yX5_forget cX5_forget 1 none ∈ GW := GW_t4 1 rfl rfl
set_option maxRecDepth 30000 in
theorem wk_722 : Cond.methodLink "DryDockLaw" 323 ⟨"DryDock", "count", "(I)I"⟩ ∈ GW := GW_t4 2 rfl rfl
set_option maxRecDepth 30000 in
theorem wk_723 : Cond.instanceMethod ⟨"DryDock", "count", "(I)I"⟩ ∈ GW := GW_t4 3 rfl rfl
set_option maxRecDepth 30000 in
theorem wk_724 : Cond.selects "DryDock" ⟨"DryDock", "count", "(I)I"⟩ ⟨"DryDock", "count", "(I)I"⟩ ∈ GW := GW_t4 4 rfl rfl
set_option maxRecDepth 30000 in
theorem wk_725 : Cond.code yX11_count cX11_count 2 (some .int) ∈ GW := GW_t4 5 rfl rfl
set_option maxRecDepth 30000 in
theorem wk_726 : Cond.methodLink "DryDock" 403 ⟨"java/lang/Integer", "bitCount", "(I)I"⟩ ∈ GW := GW_t4 6 rfl rfl
set_option maxRecDepth 30000 in
theorem wk_727 : Cond.static ⟨"java/lang/Integer", "bitCount", "(I)I"⟩ ∈ GW := GW_t4 7 rfl rfl
set_option maxRecDepth 30000 in
theorem wk_729 : Cond.constant "java/lang/Integer" 265 (1431655765 : Int32) ∈ GW := GW_t4 9 rfl rfl
set_option maxRecDepth 30000 in
theorem wk_730 : Cond.constant "java/lang/Integer" 266 (858993459 : Int32) ∈ GW := GW_t4 10 rfl rfl
set_option maxRecDepth 30000 in
theorem wk_731 : Cond.constant "java/lang/Integer" 267 (252645135 : Int32) ∈ GW := GW_t4 11 rfl rfl
set_option maxRecDepth 30000 in
theorem wk_732 : Cond.methodLink "DryDock" 243 ⟨"DryDock$State", "freePlaces", "()I"⟩ ∈ GW := GW_t4 12 rfl rfl
set_option maxRecDepth 30000 in
theorem wk_733 : Cond.instanceMethod ⟨"DryDock$State", "freePlaces", "()I"⟩ ∈ GW := GW_t4 13 rfl rfl
set_option maxRecDepth 30000 in
theorem wk_734 : Cond.selects "DryDock$State" ⟨"DryDock$State", "freePlaces", "()I"⟩ ⟨"DryDock$State", "freePlaces", "()I"⟩ ∈ GW := GW_t4 14 rfl rfl
set_option maxRecDepth 30000 in
theorem wk_735 : Cond.code yX9_freePlaces cX9_freePlaces 1 (some .int) ∈ GW := GW_t4 15 rfl rfl
set_option maxRecDepth 30000 in
theorem wk_736 : Cond.methodLink "DryDock$State" 160 ⟨"DryDock$State", "takenPlaces", "()I"⟩ ∈ GW := GW_t4 16 rfl rfl
set_option maxRecDepth 30000 in
theorem wk_737 : Cond.methodLink "DryDock$State" 167 ⟨"java/lang/Integer", "bitCount", "(I)I"⟩ ∈ GW := GW_t4 17 rfl rfl
set_option maxRecDepth 30000 in
theorem wk_738 : Cond.methodLink "DryDock" 408 ⟨"DryDock$State", "allWork", "()I"⟩ ∈ GW := GW_t4 18 rfl rfl
set_option maxRecDepth 30000 in
theorem wk_739 : Cond.instanceMethod ⟨"DryDock$State", "allWork", "()I"⟩ ∈ GW := GW_t4 19 rfl rfl
set_option maxRecDepth 30000 in
theorem wk_740 : Cond.selects "DryDock$State" ⟨"DryDock$State", "allWork", "()I"⟩ ⟨"DryDock$State", "allWork", "()I"⟩ ∈ GW := GW_t4 20 rfl rfl
set_option maxRecDepth 30000 in
theorem wk_741 : Cond.code yX9_allWork cX9_allWork 3 (some .int) ∈ GW := GW_t4 21 rfl rfl
set_option maxRecDepth 30000 in
theorem wk_742 : Cond.methodLink "DryDockLaw" 128 ⟨"DryDockLaw", "dock", "(LDryDock;[J)I"⟩ ∈ GW := GW_t4 22 rfl rfl
set_option maxRecDepth 30000 in
theorem wk_743 : Cond.static ⟨"DryDockLaw", "dock", "(LDryDock;[J)I"⟩ ∈ GW := GW_t4 23 rfl rfl
set_option maxRecDepth 30000 in
theorem wk_745 : Cond.classLink "DryDockLaw" 13 "java/lang/IllegalArgumentException" ∈ GW := GW_t4 25 rfl rfl
set_option maxRecDepth 30000 in
theorem wk_746 : Cond.classLink "DryDockLaw" 15 "java/lang/UnsupportedOperationException" ∈ GW := GW_t4 26 rfl rfl
set_option maxRecDepth 30000 in
theorem wk_747 : Cond.methodLink "DryDockLaw" 7 ⟨"DryDock", "dock", "()I"⟩ ∈ GW := GW_t4 27 rfl rfl
set_option maxRecDepth 30000 in
theorem wk_748 : Cond.instanceMethod ⟨"DryDock", "dock", "()I"⟩ ∈ GW := GW_t4 28 rfl rfl
set_option maxRecDepth 30000 in
theorem wk_749 : Cond.selects "DryDock" ⟨"DryDock", "dock", "()I"⟩ ⟨"DryDock", "dock", "()I"⟩ ∈ GW := GW_t4 29 rfl rfl
set_option maxRecDepth 30000 in
theorem wk_750 : Cond.code yX11_dock cX11_dock 1 (some .int) ∈ GW := GW_t4 30 rfl rfl
set_option maxRecDepth 30000 in
theorem wk_751 : Cond.methodLink "DryDock" 103 ⟨"DryDock$DockReader", "readLines", "(I)I"⟩ ∈ GW := GW_t4 31 rfl rfl
set_option maxRecDepth 30000 in
theorem wk_752 : Cond.sameMethod "DryDock$DockReader" "DryDock$Reader" "readLines" "(I)I" ∈ GW := GW_t4 32 rfl rfl
set_option maxRecDepth 30000 in
theorem wk_754 : Cond.selects "DryDock$DockReader" ⟨"DryDock$DockReader", "readLines", "(I)I"⟩ ⟨"DryDock$Reader", "readLines", "(I)I"⟩ ∈ GW := GW_t4 34 rfl rfl
set_option maxRecDepth 30000 in
theorem wk_755 : Cond.instanceMethod ⟨"DryDock$Reader", "readLines", "(I)I"⟩ ∈ GW := GW_t4 35 rfl rfl
set_option maxRecDepth 30000 in
theorem wk_756 : Cond.code yX7_readLines cX7_readLines 3 (some .int) ∈ GW := GW_t4 36 rfl rfl
set_option maxRecDepth 30000 in
theorem wk_757 : Cond.methodLink "DryDock$Reader" 25 ⟨"DryDock$Reader", "split", "()V"⟩ ∈ GW := GW_t4 37 rfl rfl
set_option maxRecDepth 30000 in
theorem wk_759 : Cond.instanceMethod ⟨"DryDock$Reader", "split", "()V"⟩ ∈ GW := GW_t4 39 rfl rfl
set_option maxRecDepth 30000 in
theorem wk_760 : Cond.code yX7_split cX7_split 4 none ∈ GW := GW_t4 40 rfl rfl
set_option maxRecDepth 30000 in
theorem wk_761 : Cond.methodLink "DryDock$Reader" 52 ⟨"DryDock$Reader", "kindOf", "(I)I"⟩ ∈ GW := GW_t4 41 rfl rfl
set_option maxRecDepth 30000 in
theorem wk_762 : Cond.static ⟨"DryDock$Reader", "kindOf", "(I)I"⟩ ∈ GW := GW_t4 42 rfl rfl
set_option maxRecDepth 30000 in
theorem wk_763 : Cond.code yX7_kindOf cX7_kindOf 1 (some .int) ∈ GW := GW_t4 43 rfl rfl
set_option maxRecDepth 30000 in
theorem wk_764 : Cond.methodLink "DryDock$Reader" 32 ⟨"DryDock$Reader", "readLine", "()Z"⟩ ∈ GW := GW_t4 44 rfl rfl
set_option maxRecDepth 30000 in
theorem wk_766 : Cond.sameMethod "DryDock$Reader" "DryDock$Reader" "readLine" "()Z" ∈ GW := GW_t4 46 rfl rfl
set_option maxRecDepth 30000 in
theorem wk_767 : Cond.selects "DryDock$DockReader" ⟨"DryDock$Reader", "readLine", "()Z"⟩ ⟨"DryDock$DockReader", "readLine", "()Z"⟩ ∈ GW := GW_t4 47 rfl rfl
set_option maxRecDepth 30000 in
theorem wk_768 : Cond.instanceMethod ⟨"DryDock$DockReader", "readLine", "()Z"⟩ ∈ GW := GW_t4 48 rfl rfl
set_option maxRecDepth 30000 in
theorem wk_769 : Cond.code yX1_readLine cX1_readLine 2 (some .boolean) ∈ GW := GW_t4 49 rfl rfl
set_option maxRecDepth 30000 in
theorem wk_771 : Cond.methodLink "DryDock$DockReader" 21 ⟨"DryDock$DockReader", "takeWord", "(Ljava/lang/String;)Z"⟩ ∈ GW := GW_t4 51 rfl rfl
set_option maxRecDepth 30000 in
theorem wk_772 : Cond.sameMethod "DryDock$DockReader" "DryDock$Reader" "takeWord" "(Ljava/lang/String;)Z" ∈ GW := GW_t4 52 rfl rfl
set_option maxRecDepth 30000 in
theorem wk_774 : Cond.selects "DryDock$DockReader" ⟨"DryDock$DockReader", "takeWord", "(Ljava/lang/String;)Z"⟩ ⟨"DryDock$Reader", "takeWord", "(Ljava/lang/String;)Z"⟩ ∈ GW := GW_t4 54 rfl rfl
set_option maxRecDepth 30000 in
theorem wk_775 : Cond.instanceMethod ⟨"DryDock$Reader", "takeWord", "(Ljava/lang/String;)Z"⟩ ∈ GW := GW_t4 55 rfl rfl
set_option maxRecDepth 30000 in
theorem wk_776 : Cond.code yX7_takeWord cX7_takeWord 5 (some .boolean) ∈ GW := GW_t4 56 rfl rfl
set_option maxRecDepth 30000 in
theorem wk_777 : Cond.methodLink "DryDock$Reader" 56 ⟨"java/lang/String", "length", "()I"⟩ ∈ GW := GW_t4 57 rfl rfl
set_option maxRecDepth 30000 in
theorem wk_778 : Cond.instanceMethod ⟨"java/lang/String", "length", "()I"⟩ ∈ GW := GW_t4 58 rfl rfl
set_option maxRecDepth 30000 in
theorem wk_779 : Cond.selects "java/lang/String" ⟨"java/lang/String", "length", "()I"⟩ ⟨"java/lang/String", "length", "()I"⟩ ∈ GW := GW_t4 59 rfl rfl
set_option maxRecDepth 30000 in
theorem wk_781 : Cond.methodLink "java/lang/String" 335 ⟨"java/lang/String", "coder", "()B"⟩ ∈ GW := GW_t4 61 rfl rfl
set_option maxRecDepth 30000 in
theorem wk_782 : Cond.instanceMethod ⟨"java/lang/String", "coder", "()B"⟩ ∈ GW := GW_t4 62 rfl rfl
set_option maxRecDepth 30000 in
theorem wk_783 : Cond.selects "java/lang/String" ⟨"java/lang/String", "coder", "()B"⟩ ⟨"java/lang/String", "coder", "()B"⟩ ∈ GW := GW_t4 63 rfl rfl
set_option maxRecDepth 30000 in
theorem wk_785 : Cond.fieldLink "java/lang/String" 38 "java/lang/String" "COMPACT_STRINGS" "Z" ∈ GW := GW_t4 65 rfl rfl
set_option maxRecDepth 30000 in
theorem wk_787 : Cond.methodLink "DryDock$Reader" 62 ⟨"java/lang/String", "charAt", "(I)C"⟩ ∈ GW := GW_t4 67 rfl rfl
set_option maxRecDepth 30000 in
theorem wk_788 : Cond.instanceMethod ⟨"java/lang/String", "charAt", "(I)C"⟩ ∈ GW := GW_t4 68 rfl rfl
set_option maxRecDepth 30000 in
theorem wk_789 : Cond.selects "java/lang/String" ⟨"java/lang/String", "charAt", "(I)C"⟩ ⟨"java/lang/String", "charAt", "(I)C"⟩ ∈ GW := GW_t4 69 rfl rfl
set_option maxRecDepth 30000 in
theorem wk_791 : Cond.methodLink "java/lang/String" 492 ⟨"java/lang/String", "isLatin1", "()Z"⟩ ∈ GW := GW_t4 71 rfl rfl
set_option maxRecDepth 30000 in
theorem wk_792 : Cond.instanceMethod ⟨"java/lang/String", "isLatin1", "()Z"⟩ ∈ GW := GW_t4 72 rfl rfl
set_option maxRecDepth 30000 in
theorem wk_793 : Cond.selects "java/lang/String" ⟨"java/lang/String", "isLatin1", "()Z"⟩ ⟨"java/lang/String", "isLatin1", "()Z"⟩ ∈ GW := GW_t4 73 rfl rfl
set_option maxRecDepth 30000 in
theorem wk_795 : Cond.methodLink "java/lang/String" 495 ⟨"java/lang/StringLatin1", "charAt", "([BI)C"⟩ ∈ GW := GW_t4 75 rfl rfl
set_option maxRecDepth 30000 in
theorem wk_796 : Cond.static ⟨"java/lang/StringLatin1", "charAt", "([BI)C"⟩ ∈ GW := GW_t4 76 rfl rfl
set_option maxRecDepth 30000 in
theorem wk_798 : Cond.methodLink "java/lang/StringLatin1" 9 ⟨"java/lang/String", "checkIndex", "(II)V"⟩ ∈ GW := GW_t4 78 rfl rfl
set_option maxRecDepth 30000 in
theorem wk_799 : Cond.static ⟨"java/lang/String", "checkIndex", "(II)V"⟩ ∈ GW := GW_t4 79 rfl rfl
set_option maxRecDepth 30000 in
theorem wk_801 : Cond.fieldLink "java/lang/String" 1053 "jdk/internal/util/Preconditions" "SIOOBE_FORMATTER" "Ljava/util/function/BiFunction;" ∈ GW := GW_t4 81 rfl rfl
set_option maxRecDepth 30000 in
theorem wk_803 : Cond.methodLink "java/lang/String" 1059 ⟨"jdk/internal/util/Preconditions", "checkIndex", "(IILjava/util/function/BiFunction;)I"⟩ ∈ GW := GW_t4 83 rfl rfl
set_option maxRecDepth 30000 in
theorem wk_804 : Cond.static ⟨"jdk/internal/util/Preconditions", "checkIndex", "(IILjava/util/function/BiFunction;)I"⟩ ∈ GW := GW_t4 84 rfl rfl
set_option maxRecDepth 30000 in
theorem wk_806 : Cond.methodLink "java/lang/String" 498 ⟨"java/lang/StringUTF16", "charAt", "([BI)C"⟩ ∈ GW := GW_t4 86 rfl rfl
set_option maxRecDepth 30000 in
theorem wk_807 : Cond.static ⟨"java/lang/StringUTF16", "charAt", "([BI)C"⟩ ∈ GW := GW_t4 87 rfl rfl
set_option maxRecDepth 30000 in
theorem wk_809 : Cond.methodLink "java/lang/StringUTF16" 67 ⟨"java/lang/StringUTF16", "checkIndex", "(I[B)V"⟩ ∈ GW := GW_t4 89 rfl rfl
set_option maxRecDepth 30000 in
theorem wk_810 : Cond.static ⟨"java/lang/StringUTF16", "checkIndex", "(I[B)V"⟩ ∈ GW := GW_t4 90 rfl rfl
set_option maxRecDepth 30000 in
theorem wk_812 : Cond.methodLink "java/lang/StringUTF16" 48 ⟨"java/lang/StringUTF16", "length", "([B)I"⟩ ∈ GW := GW_t4 92 rfl rfl
set_option maxRecDepth 30000 in
theorem wk_813 : Cond.static ⟨"java/lang/StringUTF16", "length", "([B)I"⟩ ∈ GW := GW_t4 93 rfl rfl
set_option maxRecDepth 30000 in
theorem wk_815 : Cond.methodLink "java/lang/StringUTF16" 414 ⟨"java/lang/String", "checkIndex", "(II)V"⟩ ∈ GW := GW_t4 95 rfl rfl
set_option maxRecDepth 30000 in
theorem wk_816 : Cond.methodLink "java/lang/StringUTF16" 71 ⟨"java/lang/StringUTF16", "getChar", "([BI)C"⟩ ∈ GW := GW_t4 96 rfl rfl
set_option maxRecDepth 30000 in
theorem wk_817 : Cond.static ⟨"java/lang/StringUTF16", "getChar", "([BI)C"⟩ ∈ GW := GW_t4 97 rfl rfl
set_option maxRecDepth 30000 in
theorem wk_819 : Cond.fieldLink "java/lang/StringUTF16" 44 "java/lang/StringUTF16" "$assertionsDisabled" "Z" ∈ GW := GW_t4 99 rfl rfl
set_option maxRecDepth 30000 in
theorem wk_821 : Cond.fieldLink "java/lang/StringUTF16" 59 "java/lang/StringUTF16" "HI_BYTE_SHIFT" "I" ∈ GW := GW_t4 101 rfl rfl
set_option maxRecDepth 30000 in
theorem wk_823 : Cond.fieldLink "java/lang/StringUTF16" 63 "java/lang/StringUTF16" "LO_BYTE_SHIFT" "I" ∈ GW := GW_t4 103 rfl rfl
set_option maxRecDepth 30000 in
theorem wk_825 : Cond.methodLink "DryDock$DockReader" 25 ⟨"DryDock$DockReader", "readShip", "(I)Z"⟩ ∈ GW := GW_t4 105 rfl rfl
set_option maxRecDepth 30000 in
theorem wk_827 : Cond.instanceMethod ⟨"DryDock$DockReader", "readShip", "(I)Z"⟩ ∈ GW := GW_t4 107 rfl rfl
set_option maxRecDepth 30000 in
theorem wk_828 : Cond.code yX1_readShip cX1_readShip 6 (some .boolean) ∈ GW := GW_t4 108 rfl rfl
set_option maxRecDepth 30000 in
theorem wk_830 : Cond.methodLink "DryDock$DockReader" 76 ⟨"DryDock$DockReader", "takeNumber", "(II)Z"⟩ ∈ GW := GW_t4 110 rfl rfl
set_option maxRecDepth 30000 in
theorem wk_831 : Cond.sameMethod "DryDock$DockReader" "DryDock$Reader" "takeNumber" "(II)Z" ∈ GW := GW_t4 111 rfl rfl
set_option maxRecDepth 30000 in
theorem wk_833 : Cond.selects "DryDock$DockReader" ⟨"DryDock$DockReader", "takeNumber", "(II)Z"⟩ ⟨"DryDock$Reader", "takeNumber", "(II)Z"⟩ ∈ GW := GW_t4 113 rfl rfl
set_option maxRecDepth 30000 in
theorem wk_834 : Cond.instanceMethod ⟨"DryDock$Reader", "takeNumber", "(II)Z"⟩ ∈ GW := GW_t4 114 rfl rfl
set_option maxRecDepth 30000 in
theorem wk_835 : Cond.code yX7_takeNumber cX7_takeNumber 7 (some .boolean) ∈ GW := GW_t4 115 rfl rfl
set_option maxRecDepth 30000 in
theorem wk_839 : Cond.methodLink "DryDock$DockReader" 104 ⟨"DryDock$DockReader", "takeFreePlace", "(I)Z"⟩ ∈ GW := GW_t4 119 rfl rfl
set_option maxRecDepth 30000 in
theorem wk_841 : Cond.instanceMethod ⟨"DryDock$DockReader", "takeFreePlace", "(I)Z"⟩ ∈ GW := GW_t4 121 rfl rfl
set_option maxRecDepth 30000 in
theorem wk_842 : Cond.code yX1_takeFreePlace cX1_takeFreePlace 3 (some .boolean) ∈ GW := GW_t4 122 rfl rfl
set_option maxRecDepth 30000 in
theorem wk_843 : Cond.methodLink "DryDock$DockReader" 111 ⟨"DryDock$State", "takenPlaces", "()I"⟩ ∈ GW := GW_t4 123 rfl rfl
set_option maxRecDepth 30000 in
theorem wk_845 : Cond.static ⟨"DryDock", "isRoom", "(III)Z"⟩ ∈ GW := GW_t4 125 rfl rfl
set_option maxRecDepth 30000 in
theorem wk_846 : Cond.code yX11_isRoom cX11_isRoom 3 (some .boolean) ∈ GW := GW_t4 126 rfl rfl
set_option maxRecDepth 30000 in
theorem wk_847 : Cond.methodLink "DryDock" 444 ⟨"DryDock", "placeBits", "(II)I"⟩ ∈ GW := GW_t4 127 rfl rfl
set_option maxRecDepth 30000 in
theorem wk_848 : Cond.methodLink "DryDock$DockReader" 107 ⟨"DryDock$State", "addShip", "(IIII)I"⟩ ∈ GW := GW_t4 128 rfl rfl
set_option maxRecDepth 30000 in
theorem wk_849 : Cond.instanceMethod ⟨"DryDock$State", "addShip", "(IIII)I"⟩ ∈ GW := GW_t4 129 rfl rfl
set_option maxRecDepth 30000 in
theorem wk_850 : Cond.selects "DryDock$State" ⟨"DryDock$State", "addShip", "(IIII)I"⟩ ⟨"DryDock$State", "addShip", "(IIII)I"⟩ ∈ GW := GW_t4 130 rfl rfl
set_option maxRecDepth 30000 in
theorem wk_851 : Cond.code yX9_addShip cX9_addShip 6 (some .int) ∈ GW := GW_t4 131 rfl rfl
set_option maxRecDepth 30000 in
theorem wk_853 : Cond.methodLink "DryDock$DockReader" 31 ⟨"DryDock$DockReader", "readTides", "()Z"⟩ ∈ GW := GW_t4 133 rfl rfl
set_option maxRecDepth 30000 in
theorem wk_855 : Cond.instanceMethod ⟨"DryDock$DockReader", "readTides", "()Z"⟩ ∈ GW := GW_t4 135 rfl rfl
set_option maxRecDepth 30000 in
theorem wk_856 : Cond.code yX1_readTides cX1_readTides 2 (some .boolean) ∈ GW := GW_t4 136 rfl rfl
set_option maxRecDepth 30000 in
theorem wk_857 : Cond.methodLink "DryDock$DockReader" 123 ⟨"DryDock$DockReader", "atNumber", "()Z"⟩ ∈ GW := GW_t4 137 rfl rfl
set_option maxRecDepth 30000 in
theorem wk_858 : Cond.sameMethod "DryDock$DockReader" "DryDock$Reader" "atNumber" "()Z" ∈ GW := GW_t4 138 rfl rfl
set_option maxRecDepth 30000 in
theorem wk_860 : Cond.selects "DryDock$DockReader" ⟨"DryDock$DockReader", "atNumber", "()Z"⟩ ⟨"DryDock$Reader", "atNumber", "()Z"⟩ ∈ GW := GW_t4 140 rfl rfl
set_option maxRecDepth 30000 in
theorem wk_861 : Cond.instanceMethod ⟨"DryDock$Reader", "atNumber", "()Z"⟩ ∈ GW := GW_t4 141 rfl rfl
set_option maxRecDepth 30000 in
theorem wk_862 : Cond.code yX7_atNumber cX7_atNumber 1 (some .boolean) ∈ GW := GW_t4 142 rfl rfl
set_option maxRecDepth 30000 in
theorem wk_864 : Cond.methodLink "DryDock$DockReader" 37 ⟨"DryDock$DockReader", "readBlocks", "()Z"⟩ ∈ GW := GW_t4 144 rfl rfl
set_option maxRecDepth 30000 in
theorem wk_866 : Cond.instanceMethod ⟨"DryDock$DockReader", "readBlocks", "()Z"⟩ ∈ GW := GW_t4 146 rfl rfl
set_option maxRecDepth 30000 in
theorem wk_867 : Cond.code yX1_readBlocks cX1_readBlocks 2 (some .boolean) ∈ GW := GW_t4 147 rfl rfl
set_option maxRecDepth 30000 in
theorem wk_869 : Cond.methodLink "DryDock$DockReader" 48 ⟨"DryDock$DockReader", "readSetting", "()Z"⟩ ∈ GW := GW_t4 149 rfl rfl
set_option maxRecDepth 30000 in
theorem wk_871 : Cond.instanceMethod ⟨"DryDock$DockReader", "readSetting", "()Z"⟩ ∈ GW := GW_t4 151 rfl rfl
set_option maxRecDepth 30000 in
theorem wk_872 : Cond.code yX1_readSetting cX1_readSetting 1 (some .boolean) ∈ GW := GW_t4 152 rfl rfl
set_option maxRecDepth 30000 in
theorem wk_874 : Cond.methodLink "DryDock$DockReader" 53 ⟨"DryDock$DockReader", "setLevel", "()Z"⟩ ∈ GW := GW_t4 154 rfl rfl
set_option maxRecDepth 30000 in
theorem wk_876 : Cond.instanceMethod ⟨"DryDock$DockReader", "setLevel", "()Z"⟩ ∈ GW := GW_t4 156 rfl rfl
set_option maxRecDepth 30000 in
theorem wk_877 : Cond.code yX1_setLevel cX1_setLevel 2 (some .boolean) ∈ GW := GW_t4 157 rfl rfl
set_option maxRecDepth 30000 in
theorem wk_879 : Cond.methodLink "DryDock$DockReader" 58 ⟨"DryDock$DockReader", "setPumps", "()Z"⟩ ∈ GW := GW_t4 159 rfl rfl
set_option maxRecDepth 30000 in
theorem wk_881 : Cond.instanceMethod ⟨"DryDock$DockReader", "setPumps", "()Z"⟩ ∈ GW := GW_t4 161 rfl rfl
set_option maxRecDepth 30000 in
theorem wk_882 : Cond.code yX1_setPumps cX1_setPumps 2 (some .boolean) ∈ GW := GW_t4 162 rfl rfl
set_option maxRecDepth 30000 in
theorem wk_884 : Cond.methodLink "DryDock$DockReader" 63 ⟨"DryDock$DockReader", "setHands", "()Z"⟩ ∈ GW := GW_t4 164 rfl rfl
set_option maxRecDepth 30000 in
theorem wk_886 : Cond.instanceMethod ⟨"DryDock$DockReader", "setHands", "()Z"⟩ ∈ GW := GW_t4 166 rfl rfl
set_option maxRecDepth 30000 in
theorem wk_887 : Cond.code yX1_setHands cX1_setHands 2 (some .boolean) ∈ GW := GW_t4 167 rfl rfl
set_option maxRecDepth 30000 in
theorem wk_889 : Cond.methodLink "DryDock$DockReader" 68 ⟨"DryDock$DockReader", "setSurge", "()Z"⟩ ∈ GW := GW_t4 169 rfl rfl
set_option maxRecDepth 30000 in
theorem wk_891 : Cond.instanceMethod ⟨"DryDock$DockReader", "setSurge", "()Z"⟩ ∈ GW := GW_t4 171 rfl rfl
set_option maxRecDepth 30000 in
theorem wk_892 : Cond.code yX1_setSurge cX1_setSurge 2 (some .boolean) ∈ GW := GW_t4 172 rfl rfl
set_option maxRecDepth 30000 in
theorem wk_894 : Cond.methodLink "DryDock$DockReader" 73 ⟨"DryDock$DockReader", "setHour", "()Z"⟩ ∈ GW := GW_t4 174 rfl rfl
set_option maxRecDepth 30000 in
theorem wk_896 : Cond.instanceMethod ⟨"DryDock$DockReader", "setHour", "()Z"⟩ ∈ GW := GW_t4 176 rfl rfl
set_option maxRecDepth 30000 in
theorem wk_897 : Cond.code yX1_setHour cX1_setHour 2 (some .boolean) ∈ GW := GW_t4 177 rfl rfl
set_option maxRecDepth 30000 in
theorem wk_898 : Cond.selects "DryDock$LawReader" ⟨"DryDock$Reader", "readLine", "()Z"⟩ ⟨"DryDock$LawReader", "readLine", "()Z"⟩ ∈ GW := GW_t4 178 rfl rfl
set_option maxRecDepth 30000 in
theorem wk_899 : Cond.instanceMethod ⟨"DryDock$LawReader", "readLine", "()Z"⟩ ∈ GW := GW_t4 179 rfl rfl
set_option maxRecDepth 30000 in
theorem wk_900 : Cond.code yX3_readLine cX3_readLine 2 (some .boolean) ∈ GW := GW_t4 180 rfl rfl
set_option maxRecDepth 30000 in
theorem wk_901 : Cond.methodLink "DryDock$LawReader" 15 ⟨"DryDock$LawReader", "takeKind", "()I"⟩ ∈ GW := GW_t4 181 rfl rfl
set_option maxRecDepth 30000 in
theorem wk_903 : Cond.instanceMethod ⟨"DryDock$LawReader", "takeKind", "()I"⟩ ∈ GW := GW_t4 183 rfl rfl
set_option maxRecDepth 30000 in
theorem wk_904 : Cond.code yX3_takeKind cX3_takeKind 1 (some .int) ∈ GW := GW_t4 184 rfl rfl
set_option maxRecDepth 30000 in
theorem wk_906 : Cond.methodLink "DryDock$LawReader" 35 ⟨"DryDock$LawReader", "takeWord", "(Ljava/lang/String;)Z"⟩ ∈ GW := GW_t4 186 rfl rfl
set_option maxRecDepth 30000 in
theorem wk_907 : Cond.sameMethod "DryDock$LawReader" "DryDock$Reader" "takeWord" "(Ljava/lang/String;)Z" ∈ GW := GW_t4 187 rfl rfl
set_option maxRecDepth 30000 in
theorem wk_908 : Cond.selects "DryDock$LawReader" ⟨"DryDock$LawReader", "takeWord", "(Ljava/lang/String;)Z"⟩ ⟨"DryDock$Reader", "takeWord", "(Ljava/lang/String;)Z"⟩ ∈ GW := GW_t4 188 rfl rfl
set_option maxRecDepth 30000 in
theorem wk_911 : Cond.methodLink "DryDock$LawReader" 19 ⟨"DryDock$LawReader", "takeNumber", "(II)Z"⟩ ∈ GW := GW_t4 191 rfl rfl
set_option maxRecDepth 30000 in
theorem wk_912 : Cond.sameMethod "DryDock$LawReader" "DryDock$Reader" "takeNumber" "(II)Z" ∈ GW := GW_t4 192 rfl rfl
set_option maxRecDepth 30000 in
theorem wk_913 : Cond.selects "DryDock$LawReader" ⟨"DryDock$LawReader", "takeNumber", "(II)Z"⟩ ⟨"DryDock$Reader", "takeNumber", "(II)Z"⟩ ∈ GW := GW_t4 193 rfl rfl
set_option maxRecDepth 30000 in
theorem wk_914 : Cond.methodLink "DryDock$LawReader" 27 ⟨"DryDock$Law", "beginLine", "(II)V"⟩ ∈ GW := GW_t4 194 rfl rfl
set_option maxRecDepth 30000 in
theorem wk_915 : Cond.instanceMethod ⟨"DryDock$Law", "beginLine", "(II)V"⟩ ∈ GW := GW_t4 195 rfl rfl
set_option maxRecDepth 30000 in
theorem wk_916 : Cond.selects "DryDock$Law" ⟨"DryDock$Law", "beginLine", "(II)V"⟩ ⟨"DryDock$Law", "beginLine", "(II)V"⟩ ∈ GW := GW_t4 196 rfl rfl
set_option maxRecDepth 30000 in
theorem wk_917 : Cond.code yX2_beginLine cX2_beginLine 3 none ∈ GW := GW_t4 197 rfl rfl
set_option maxRecDepth 30000 in
theorem wk_919 : Cond.methodLink "DryDock$LawReader" 39 ⟨"DryDock$LawReader", "readAny", "(I)Z"⟩ ∈ GW := GW_t4 199 rfl rfl
set_option maxRecDepth 30000 in
theorem wk_921 : Cond.instanceMethod ⟨"DryDock$LawReader", "readAny", "(I)Z"⟩ ∈ GW := GW_t4 201 rfl rfl
set_option maxRecDepth 30000 in
theorem wk_922 : Cond.code yX3_readAny cX3_readAny 3 (some .boolean) ∈ GW := GW_t4 202 rfl rfl
set_option maxRecDepth 30000 in
theorem wk_923 : Cond.methodLink "DryDock$LawReader" 53 ⟨"DryDock$LawReader", "readAll", "(I)Z"⟩ ∈ GW := GW_t4 203 rfl rfl
set_option maxRecDepth 30000 in
theorem wk_925 : Cond.instanceMethod ⟨"DryDock$LawReader", "readAll", "(I)Z"⟩ ∈ GW := GW_t4 205 rfl rfl
set_option maxRecDepth 30000 in
theorem wk_926 : Cond.code yX3_readAll cX3_readAll 3 (some .boolean) ∈ GW := GW_t4 206 rfl rfl
set_option maxRecDepth 30000 in
theorem wk_927 : Cond.methodLink "DryDock$LawReader" 61 ⟨"DryDock$LawReader", "readAtom", "(I)Z"⟩ ∈ GW := GW_t4 207 rfl rfl
set_option maxRecDepth 30000 in
theorem wk_929 : Cond.instanceMethod ⟨"DryDock$LawReader", "readAtom", "(I)Z"⟩ ∈ GW := GW_t4 209 rfl rfl
set_option maxRecDepth 30000 in
theorem wk_930 : Cond.code yX3_readAtom cX3_readAtom 5 (some .boolean) ∈ GW := GW_t4 210 rfl rfl
set_option maxRecDepth 30000 in
theorem wk_932 : Cond.methodLink "DryDock$LawReader" 71 ⟨"DryDock$LawReader", "takeSign", "(C)Z"⟩ ∈ GW := GW_t4 212 rfl rfl
set_option maxRecDepth 30000 in
theorem wk_933 : Cond.sameMethod "DryDock$LawReader" "DryDock$Reader" "takeSign" "(C)Z" ∈ GW := GW_t4 213 rfl rfl
set_option maxRecDepth 30000 in
theorem wk_935 : Cond.selects "DryDock$LawReader" ⟨"DryDock$LawReader", "takeSign", "(C)Z"⟩ ⟨"DryDock$Reader", "takeSign", "(C)Z"⟩ ∈ GW := GW_t4 215 rfl rfl
set_option maxRecDepth 30000 in
theorem wk_936 : Cond.instanceMethod ⟨"DryDock$Reader", "takeSign", "(C)Z"⟩ ∈ GW := GW_t4 216 rfl rfl
set_option maxRecDepth 30000 in
theorem wk_937 : Cond.code yX7_takeSign cX7_takeSign 3 (some .boolean) ∈ GW := GW_t4 217 rfl rfl
set_option maxRecDepth 30000 in
theorem wk_938 : Cond.methodLink "DryDock$LawReader" 58 ⟨"DryDock$Law", "add", "(I)Z"⟩ ∈ GW := GW_t4 218 rfl rfl
set_option maxRecDepth 30000 in
theorem wk_939 : Cond.instanceMethod ⟨"DryDock$Law", "add", "(I)Z"⟩ ∈ GW := GW_t4 219 rfl rfl
set_option maxRecDepth 30000 in
theorem wk_940 : Cond.selects "DryDock$Law" ⟨"DryDock$Law", "add", "(I)Z"⟩ ⟨"DryDock$Law", "add", "(I)Z"⟩ ∈ GW := GW_t4 220 rfl rfl
set_option maxRecDepth 30000 in
theorem wk_941 : Cond.code yX2_add cX2_add 2 (some .boolean) ∈ GW := GW_t4 221 rfl rfl
set_option maxRecDepth 30000 in
theorem wk_945 : Cond.methodLink "DryDock$LawReader" 81 ⟨"DryDock$LawReader", "readComparison", "()Z"⟩ ∈ GW := GW_t4 225 rfl rfl
set_option maxRecDepth 30000 in
theorem wk_947 : Cond.instanceMethod ⟨"DryDock$LawReader", "readComparison", "()Z"⟩ ∈ GW := GW_t4 227 rfl rfl
set_option maxRecDepth 30000 in
theorem wk_948 : Cond.code yX3_readComparison cX3_readComparison 2 (some .boolean) ∈ GW := GW_t4 228 rfl rfl
set_option maxRecDepth 30000 in
theorem wk_949 : Cond.methodLink "DryDock$LawReader" 85 ⟨"DryDock$LawReader", "readSum", "()Z"⟩ ∈ GW := GW_t4 229 rfl rfl
set_option maxRecDepth 30000 in
theorem wk_951 : Cond.instanceMethod ⟨"DryDock$LawReader", "readSum", "()Z"⟩ ∈ GW := GW_t4 231 rfl rfl
set_option maxRecDepth 30000 in
theorem wk_952 : Cond.code yX3_readSum cX3_readSum 2 (some .boolean) ∈ GW := GW_t4 232 rfl rfl
set_option maxRecDepth 30000 in
theorem wk_953 : Cond.methodLink "DryDock$LawReader" 88 ⟨"DryDock$LawReader", "readPart", "()Z"⟩ ∈ GW := GW_t4 233 rfl rfl
set_option maxRecDepth 30000 in
theorem wk_955 : Cond.instanceMethod ⟨"DryDock$LawReader", "readPart", "()Z"⟩ ∈ GW := GW_t4 235 rfl rfl
set_option maxRecDepth 30000 in
theorem wk_956 : Cond.code yX3_readPart cX3_readPart 1 (some .boolean) ∈ GW := GW_t4 236 rfl rfl
set_option maxRecDepth 30000 in
theorem wk_966 : Cond.methodLink "DryDock$LawReader" 43 ⟨"DryDock$Law", "endLine", "()V"⟩ ∈ GW := GW_t5 6 rfl rfl
set_option maxRecDepth 30000 in
theorem wk_967 : Cond.instanceMethod ⟨"DryDock$Law", "endLine", "()V"⟩ ∈ GW := GW_t5 7 rfl rfl
set_option maxRecDepth 30000 in
theorem wk_968 : Cond.selects "DryDock$Law" ⟨"DryDock$Law", "endLine", "()V"⟩ ⟨"DryDock$Law", "endLine", "()V"⟩ ∈ GW := GW_t5 8 rfl rfl
set_option maxRecDepth 30000 in
theorem wk_969 : Cond.code yX2_endLine cX2_endLine 1 none ∈ GW := GW_t5 9 rfl rfl
set_option maxRecDepth 30000 in
theorem wk_970 : Cond.methodLink "DryDock$Reader" 39 ⟨"DryDock$Reader", "takeSign", "(C)Z"⟩ ∈ GW := GW_t5 10 rfl rfl
set_option maxRecDepth 30000 in
theorem wk_971 : Cond.classLink "DryDock" 107 "java/lang/IllegalArgumentException" ∈ GW := GW_t5 11 rfl rfl
set_option maxRecDepth 30000 in
theorem wk_972 : Cond.instantiable "java/lang/IllegalArgumentException" 6 ∈ GW := GW_t5 12 rfl rfl
set_option maxRecDepth 30000 in
theorem wk_980 : Cond.selects "java/lang/IllegalArgumentException" ⟨"java/lang/Throwable", "fillInStackTrace", "(I)Ljava/lang/Throwable;"⟩ ⟨"java/lang/Throwable", "fillInStackTrace", "(I)Ljava/lang/Throwable;"⟩ ∈ GW := GW_t5 20 rfl rfl
set_option maxRecDepth 30000 in
theorem wk_981 : Cond.selects "java/lang/IllegalArgumentException" ⟨"java/lang/Throwable", "fillInStackTrace", "()Ljava/lang/Throwable;"⟩ ⟨"java/lang/Throwable", "fillInStackTrace", "()Ljava/lang/Throwable;"⟩ ∈ GW := GW_t5 21 rfl rfl
set_option maxRecDepth 30000 in
theorem wk_982 : Cond.lays "java/lang/IllegalArgumentException" "java/lang/Throwable" "cause" "Ljava/lang/Throwable;" ∈ GW := GW_t5 22 rfl rfl
set_option maxRecDepth 30000 in
theorem wk_983 : Cond.lays "java/lang/Throwable" "java/lang/Throwable" "cause" "Ljava/lang/Throwable;" ∈ GW := GW_t5 23 rfl rfl
set_option maxRecDepth 30000 in
theorem wk_984 : Cond.lays "java/lang/IllegalArgumentException" "java/lang/Throwable" "stackTrace" "[Ljava/lang/StackTraceElement;" ∈ GW := GW_t5 24 rfl rfl
set_option maxRecDepth 30000 in
theorem wk_985 : Cond.lays "java/lang/Throwable" "java/lang/Throwable" "stackTrace" "[Ljava/lang/StackTraceElement;" ∈ GW := GW_t5 25 rfl rfl
set_option maxRecDepth 30000 in
theorem wk_986 : Cond.lays "java/lang/IllegalArgumentException" "java/lang/Throwable" "suppressedExceptions" "Ljava/util/List;" ∈ GW := GW_t5 26 rfl rfl
set_option maxRecDepth 30000 in
theorem wk_987 : Cond.lays "java/lang/Throwable" "java/lang/Throwable" "suppressedExceptions" "Ljava/util/List;" ∈ GW := GW_t5 27 rfl rfl
set_option maxRecDepth 30000 in
theorem wk_988 : Cond.lays "java/lang/IllegalArgumentException" "java/lang/Throwable" "detailMessage" "Ljava/lang/String;" ∈ GW := GW_t5 28 rfl rfl
set_option maxRecDepth 30000 in
theorem wk_989 : Cond.lays "java/lang/Throwable" "java/lang/Throwable" "detailMessage" "Ljava/lang/String;" ∈ GW := GW_t5 29 rfl rfl
set_option maxRecDepth 30000 in
theorem wk_990 : Cond.lays "java/lang/IllegalArgumentException" "java/lang/Throwable" "backtrace" "Ljava/lang/Object;" ∈ GW := GW_t5 30 rfl rfl
set_option maxRecDepth 30000 in
theorem wk_991 : Cond.lays "java/lang/Throwable" "java/lang/Throwable" "backtrace" "Ljava/lang/Object;" ∈ GW := GW_t5 31 rfl rfl
set_option maxRecDepth 30000 in
theorem wk_992 : Cond.fieldLink "java/lang/Throwable" 198 "java/lang/Throwable" "backtrace" "Ljava/lang/Object;" ∈ GW := GW_t5 32 rfl rfl
set_option maxRecDepth 30000 in
theorem wk_994 : Cond.instanceMethod ⟨"java/lang/Throwable", "<init>", "()V"⟩ ∈ GW := GW_t5 34 rfl rfl
set_option maxRecDepth 30000 in
theorem wk_996 : Cond.methodLink "java/lang/Throwable" 1 ⟨"java/lang/Object", "<init>", "()V"⟩ ∈ GW := GW_t5 36 rfl rfl
set_option maxRecDepth 30000 in
theorem wk_997 : Cond.fieldLink "java/lang/Throwable" 13 "java/lang/Throwable" "UNASSIGNED_STACK" "[Ljava/lang/StackTraceElement;" ∈ GW := GW_t5 37 rfl rfl
set_option maxRecDepth 30000 in
theorem wk_999 : Cond.fieldLink "java/lang/Throwable" 20 "java/lang/Throwable" "SUPPRESSED_SENTINEL" "Ljava/util/List;" ∈ GW := GW_t5 39 rfl rfl
set_option maxRecDepth 30000 in
theorem wk_1001 : Cond.methodLink "java/lang/Throwable" 27 ⟨"java/lang/Throwable", "fillInStackTrace", "()Ljava/lang/Throwable;"⟩ ∈ GW := GW_t5 41 rfl rfl
set_option maxRecDepth 30000 in
theorem wk_1002 : Cond.instanceMethod ⟨"java/lang/Throwable", "fillInStackTrace", "()Ljava/lang/Throwable;"⟩ ∈ GW := GW_t5 42 rfl rfl
set_option maxRecDepth 30000 in
theorem wk_1003 : Cond.sameMethod "java/lang/Throwable" "java/lang/Throwable" "fillInStackTrace" "()Ljava/lang/Throwable;" ∈ GW := GW_t5 43 rfl rfl
set_option maxRecDepth 30000 in
theorem wk_1004 : Cond.selects "java/lang/IllegalStateException" ⟨"java/lang/Throwable", "fillInStackTrace", "()Ljava/lang/Throwable;"⟩ ⟨"java/lang/Throwable", "fillInStackTrace", "()Ljava/lang/Throwable;"⟩ ∈ GW := GW_t5 44 rfl rfl
set_option maxRecDepth 30000 in
theorem wk_1005 : Cond.selects "java/lang/IndexOutOfBoundsException" ⟨"java/lang/Throwable", "fillInStackTrace", "()Ljava/lang/Throwable;"⟩ ⟨"java/lang/Throwable", "fillInStackTrace", "()Ljava/lang/Throwable;"⟩ ∈ GW := GW_t5 45 rfl rfl
set_option maxRecDepth 30000 in
theorem wk_1006 : Cond.selects "java/lang/UnsupportedOperationException" ⟨"java/lang/Throwable", "fillInStackTrace", "()Ljava/lang/Throwable;"⟩ ⟨"java/lang/Throwable", "fillInStackTrace", "()Ljava/lang/Throwable;"⟩ ∈ GW := GW_t5 46 rfl rfl
set_option maxRecDepth 30000 in
theorem wk_1007 : Cond.selects "java/util/NoSuchElementException" ⟨"java/lang/Throwable", "fillInStackTrace", "()Ljava/lang/Throwable;"⟩ ⟨"java/lang/Throwable", "fillInStackTrace", "()Ljava/lang/Throwable;"⟩ ∈ GW := GW_t5 47 rfl rfl
set_option maxRecDepth 30000 in
theorem wk_1009 : Cond.methodLink "java/lang/Throwable" 202 ⟨"java/lang/Throwable", "fillInStackTrace", "(I)Ljava/lang/Throwable;"⟩ ∈ GW := GW_t5 49 rfl rfl
set_option maxRecDepth 30000 in
theorem wk_1011 : Cond.instanceMethod ⟨"java/lang/Throwable", "fillInStackTrace", "(I)Ljava/lang/Throwable;"⟩ ∈ GW := GW_t5 51 rfl rfl
set_option maxRecDepth 30000 in
theorem wk_1012 : Cond.instantiable "java/lang/Throwable" 6 ∈ GW := GW_t5 52 rfl rfl
set_option maxRecDepth 30000 in
theorem wk_1015 : Cond.methodLink "DryDock" 111 ⟨"java/lang/IllegalArgumentException", "<init>", "(Ljava/lang/String;)V"⟩ ∈ GW := GW_t5 55 rfl rfl
set_option maxRecDepth 30000 in
theorem wk_1016 : Cond.instanceMethod ⟨"java/lang/IllegalArgumentException", "<init>", "(Ljava/lang/String;)V"⟩ ∈ GW := GW_t5 56 rfl rfl
set_option maxRecDepth 30000 in
theorem wk_1018 : Cond.methodLink "java/lang/IllegalArgumentException" 7 ⟨"java/lang/RuntimeException", "<init>", "(Ljava/lang/String;)V"⟩ ∈ GW := GW_t5 58 rfl rfl
set_option maxRecDepth 30000 in
theorem wk_1019 : Cond.instanceMethod ⟨"java/lang/RuntimeException", "<init>", "(Ljava/lang/String;)V"⟩ ∈ GW := GW_t5 59 rfl rfl
set_option maxRecDepth 30000 in
theorem wk_1021 : Cond.methodLink "java/lang/RuntimeException" 7 ⟨"java/lang/Exception", "<init>", "(Ljava/lang/String;)V"⟩ ∈ GW := GW_t5 61 rfl rfl
set_option maxRecDepth 30000 in
theorem wk_1022 : Cond.instanceMethod ⟨"java/lang/Exception", "<init>", "(Ljava/lang/String;)V"⟩ ∈ GW := GW_t5 62 rfl rfl
set_option maxRecDepth 30000 in
theorem wk_1024 : Cond.methodLink "java/lang/Exception" 7 ⟨"java/lang/Throwable", "<init>", "(Ljava/lang/String;)V"⟩ ∈ GW := GW_t5 64 rfl rfl
set_option maxRecDepth 30000 in
theorem wk_1025 : Cond.instanceMethod ⟨"java/lang/Throwable", "<init>", "(Ljava/lang/String;)V"⟩ ∈ GW := GW_t5 65 rfl rfl
set_option maxRecDepth 30000 in
theorem wk_1028 : Cond.fieldLink "java/lang/Throwable" 31 "java/lang/Throwable" "detailMessage" "Ljava/lang/String;" ∈ GW := GW_t5 68 rfl rfl
set_option maxRecDepth 30000 in
theorem wk_1029 : Cond.fieldLink "java/lang/Throwable" 7 "java/lang/Throwable" "cause" "Ljava/lang/Throwable;" ∈ GW := GW_t5 69 rfl rfl
set_option maxRecDepth 30000 in
theorem wk_1030 : Cond.fieldLink "java/lang/Throwable" 17 "java/lang/Throwable" "stackTrace" "[Ljava/lang/StackTraceElement;" ∈ GW := GW_t5 70 rfl rfl
set_option maxRecDepth 30000 in
theorem wk_1031 : Cond.fieldLink "java/lang/Throwable" 24 "java/lang/Throwable" "suppressedExceptions" "Ljava/util/List;" ∈ GW := GW_t5 71 rfl rfl
set_option maxRecDepth 30000 in
theorem wk_1036 : Cond.lays "java/lang/IllegalArgumentException" "java/lang/Throwable" "depth" "I" ∈ GW := GW_t5 76 rfl rfl
set_option maxRecDepth 30000 in
theorem wk_1040 : Cond.classLink "DryDock" 117 "java/lang/UnsupportedOperationException" ∈ GW := GW_t5 80 rfl rfl
set_option maxRecDepth 30000 in
theorem wk_1041 : Cond.instantiable "java/lang/UnsupportedOperationException" 6 ∈ GW := GW_t5 81 rfl rfl
set_option maxRecDepth 30000 in
theorem wk_1043 : Cond.selects "java/lang/UnsupportedOperationException" ⟨"java/lang/Throwable", "fillInStackTrace", "(I)Ljava/lang/Throwable;"⟩ ⟨"java/lang/Throwable", "fillInStackTrace", "(I)Ljava/lang/Throwable;"⟩ ∈ GW := GW_t5 83 rfl rfl
set_option maxRecDepth 30000 in
theorem wk_1044 : Cond.lays "java/lang/UnsupportedOperationException" "java/lang/Throwable" "cause" "Ljava/lang/Throwable;" ∈ GW := GW_t5 84 rfl rfl
set_option maxRecDepth 30000 in
theorem wk_1045 : Cond.lays "java/lang/UnsupportedOperationException" "java/lang/Throwable" "stackTrace" "[Ljava/lang/StackTraceElement;" ∈ GW := GW_t5 85 rfl rfl
set_option maxRecDepth 30000 in
theorem wk_1046 : Cond.lays "java/lang/UnsupportedOperationException" "java/lang/Throwable" "suppressedExceptions" "Ljava/util/List;" ∈ GW := GW_t5 86 rfl rfl
set_option maxRecDepth 30000 in
theorem wk_1047 : Cond.lays "java/lang/UnsupportedOperationException" "java/lang/Throwable" "detailMessage" "Ljava/lang/String;" ∈ GW := GW_t5 87 rfl rfl
set_option maxRecDepth 30000 in
theorem wk_1048 : Cond.lays "java/lang/UnsupportedOperationException" "java/lang/Throwable" "backtrace" "Ljava/lang/Object;" ∈ GW := GW_t5 88 rfl rfl
set_option maxRecDepth 30000 in
theorem wk_1050 : Cond.methodLink "DryDock" 121 ⟨"java/lang/UnsupportedOperationException", "<init>", "(Ljava/lang/String;)V"⟩ ∈ GW := GW_t5 90 rfl rfl
set_option maxRecDepth 30000 in
theorem wk_1051 : Cond.instanceMethod ⟨"java/lang/UnsupportedOperationException", "<init>", "(Ljava/lang/String;)V"⟩ ∈ GW := GW_t5 91 rfl rfl
set_option maxRecDepth 30000 in
theorem wk_1053 : Cond.methodLink "java/lang/UnsupportedOperationException" 7 ⟨"java/lang/RuntimeException", "<init>", "(Ljava/lang/String;)V"⟩ ∈ GW := GW_t5 93 rfl rfl
set_option maxRecDepth 30000 in
theorem wk_1054 : Cond.lays "java/lang/UnsupportedOperationException" "java/lang/Throwable" "depth" "I" ∈ GW := GW_t5 94 rfl rfl
set_option maxRecDepth 30000 in
theorem wk_1056 : Cond.methodLink "DryDockLaw" 137 ⟨"DryDockLaw", "law", "(LDryDock;[J)I"⟩ ∈ GW := GW_t5 96 rfl rfl
set_option maxRecDepth 30000 in
theorem wk_1057 : Cond.static ⟨"DryDockLaw", "law", "(LDryDock;[J)I"⟩ ∈ GW := GW_t5 97 rfl rfl
set_option maxRecDepth 30000 in
theorem wk_1059 : Cond.methodLink "DryDockLaw" 17 ⟨"DryDock", "law", "()I"⟩ ∈ GW := GW_t5 99 rfl rfl
set_option maxRecDepth 30000 in
theorem wk_1060 : Cond.instanceMethod ⟨"DryDock", "law", "()I"⟩ ∈ GW := GW_t5 100 rfl rfl
set_option maxRecDepth 30000 in
theorem wk_1061 : Cond.selects "DryDock" ⟨"DryDock", "law", "()I"⟩ ⟨"DryDock", "law", "()I"⟩ ∈ GW := GW_t5 101 rfl rfl
set_option maxRecDepth 30000 in
theorem wk_1062 : Cond.code yX11_law cX11_law 1 (some .int) ∈ GW := GW_t5 102 rfl rfl
set_option maxRecDepth 30000 in
theorem wk_1063 : Cond.methodLink "DryDock" 125 ⟨"DryDock$Law", "clear", "()V"⟩ ∈ GW := GW_t5 103 rfl rfl
set_option maxRecDepth 30000 in
theorem wk_1064 : Cond.instanceMethod ⟨"DryDock$Law", "clear", "()V"⟩ ∈ GW := GW_t5 104 rfl rfl
set_option maxRecDepth 30000 in
theorem wk_1065 : Cond.selects "DryDock$Law" ⟨"DryDock$Law", "clear", "()V"⟩ ⟨"DryDock$Law", "clear", "()V"⟩ ∈ GW := GW_t5 105 rfl rfl
set_option maxRecDepth 30000 in
theorem wk_1066 : Cond.code yX2_clear cX2_clear 1 none ∈ GW := GW_t5 106 rfl rfl
set_option maxRecDepth 30000 in
theorem wk_1067 : Cond.methodLink "DryDock" 128 ⟨"DryDock$LawReader", "readLines", "(I)I"⟩ ∈ GW := GW_t5 107 rfl rfl
set_option maxRecDepth 30000 in
theorem wk_1068 : Cond.sameMethod "DryDock$LawReader" "DryDock$Reader" "readLines" "(I)I" ∈ GW := GW_t5 108 rfl rfl
set_option maxRecDepth 30000 in
theorem wk_1069 : Cond.selects "DryDock$LawReader" ⟨"DryDock$LawReader", "readLines", "(I)I"⟩ ⟨"DryDock$Reader", "readLines", "(I)I"⟩ ∈ GW := GW_t5 109 rfl rfl
set_option maxRecDepth 30000 in
theorem wk_1071 : Cond.methodLink "DryDockLaw" 144 ⟨"DryDockLaw", "ship", "(LDryDock;II[J)I"⟩ ∈ GW := GW_t5 111 rfl rfl
set_option maxRecDepth 30000 in
theorem wk_1072 : Cond.static ⟨"DryDockLaw", "ship", "(LDryDock;II[J)I"⟩ ∈ GW := GW_t5 112 rfl rfl
set_option maxRecDepth 30000 in
theorem wk_1074 : Cond.classLink "DryDockLaw" 24 "java/lang/IndexOutOfBoundsException" ∈ GW := GW_t5 114 rfl rfl
set_option maxRecDepth 30000 in
theorem wk_1075 : Cond.classLink "DryDockLaw" 26 "java/util/NoSuchElementException" ∈ GW := GW_t5 115 rfl rfl
set_option maxRecDepth 30000 in
theorem wk_1076 : Cond.methodLink "DryDockLaw" 20 ⟨"DryDock", "ship", "(II)I"⟩ ∈ GW := GW_t5 116 rfl rfl
set_option maxRecDepth 30000 in
theorem wk_1077 : Cond.instanceMethod ⟨"DryDock", "ship", "(II)I"⟩ ∈ GW := GW_t5 117 rfl rfl
set_option maxRecDepth 30000 in
theorem wk_1078 : Cond.selects "DryDock" ⟨"DryDock", "ship", "(II)I"⟩ ⟨"DryDock", "ship", "(II)I"⟩ ∈ GW := GW_t5 118 rfl rfl
set_option maxRecDepth 30000 in
theorem wk_1079 : Cond.code yX11_ship cX11_ship 3 (some .int) ∈ GW := GW_t5 119 rfl rfl
set_option maxRecDepth 30000 in
theorem wk_1080 : Cond.methodLink "DryDock" 137 ⟨"DryDock", "needShip", "(I)V"⟩ ∈ GW := GW_t5 120 rfl rfl
set_option maxRecDepth 30000 in
theorem wk_1082 : Cond.instanceMethod ⟨"DryDock", "needShip", "(I)V"⟩ ∈ GW := GW_t5 122 rfl rfl
set_option maxRecDepth 30000 in
theorem wk_1083 : Cond.code yX11_needShip cX11_needShip 2 none ∈ GW := GW_t5 123 rfl rfl
set_option maxRecDepth 30000 in
theorem wk_1084 : Cond.classLink "DryDock" 417 "java/lang/IndexOutOfBoundsException" ∈ GW := GW_t5 124 rfl rfl
set_option maxRecDepth 30000 in
theorem wk_1085 : Cond.instantiable "java/lang/IndexOutOfBoundsException" 6 ∈ GW := GW_t5 125 rfl rfl
set_option maxRecDepth 30000 in
theorem wk_1087 : Cond.selects "java/lang/IndexOutOfBoundsException" ⟨"java/lang/Throwable", "fillInStackTrace", "(I)Ljava/lang/Throwable;"⟩ ⟨"java/lang/Throwable", "fillInStackTrace", "(I)Ljava/lang/Throwable;"⟩ ∈ GW := GW_t5 127 rfl rfl
set_option maxRecDepth 30000 in
theorem wk_1088 : Cond.lays "java/lang/IndexOutOfBoundsException" "java/lang/Throwable" "cause" "Ljava/lang/Throwable;" ∈ GW := GW_t5 128 rfl rfl
set_option maxRecDepth 30000 in
theorem wk_1089 : Cond.lays "java/lang/IndexOutOfBoundsException" "java/lang/Throwable" "stackTrace" "[Ljava/lang/StackTraceElement;" ∈ GW := GW_t5 129 rfl rfl
set_option maxRecDepth 30000 in
theorem wk_1090 : Cond.lays "java/lang/IndexOutOfBoundsException" "java/lang/Throwable" "suppressedExceptions" "Ljava/util/List;" ∈ GW := GW_t5 130 rfl rfl
set_option maxRecDepth 30000 in
theorem wk_1091 : Cond.lays "java/lang/IndexOutOfBoundsException" "java/lang/Throwable" "detailMessage" "Ljava/lang/String;" ∈ GW := GW_t5 131 rfl rfl
set_option maxRecDepth 30000 in
theorem wk_1092 : Cond.lays "java/lang/IndexOutOfBoundsException" "java/lang/Throwable" "backtrace" "Ljava/lang/Object;" ∈ GW := GW_t5 132 rfl rfl
set_option maxRecDepth 30000 in
theorem wk_1094 : Cond.methodLink "DryDock" 421 ⟨"java/lang/IndexOutOfBoundsException", "<init>", "(Ljava/lang/String;)V"⟩ ∈ GW := GW_t5 134 rfl rfl
set_option maxRecDepth 30000 in
theorem wk_1095 : Cond.instanceMethod ⟨"java/lang/IndexOutOfBoundsException", "<init>", "(Ljava/lang/String;)V"⟩ ∈ GW := GW_t5 135 rfl rfl
set_option maxRecDepth 30000 in
theorem wk_1097 : Cond.methodLink "java/lang/IndexOutOfBoundsException" 7 ⟨"java/lang/RuntimeException", "<init>", "(Ljava/lang/String;)V"⟩ ∈ GW := GW_t5 137 rfl rfl
set_option maxRecDepth 30000 in
theorem wk_1098 : Cond.lays "java/lang/IndexOutOfBoundsException" "java/lang/Throwable" "depth" "I" ∈ GW := GW_t5 138 rfl rfl
set_option maxRecDepth 30000 in
theorem wk_1100 : Cond.methodLink "DryDock" 156 ⟨"DryDock$State", "isHurt", "(I)Z"⟩ ∈ GW := GW_t5 140 rfl rfl
set_option maxRecDepth 30000 in
theorem wk_1101 : Cond.methodLink "DryDock" 160 ⟨"DryDock$State", "feeOf", "(ILDryDock$Law;)I"⟩ ∈ GW := GW_t5 141 rfl rfl
set_option maxRecDepth 30000 in
theorem wk_1102 : Cond.methodLink "DryDock" 164 ⟨"DryDock$State", "floats", "(I)Z"⟩ ∈ GW := GW_t5 142 rfl rfl
set_option maxRecDepth 30000 in
theorem wk_1103 : Cond.instanceMethod ⟨"DryDock$State", "floats", "(I)Z"⟩ ∈ GW := GW_t5 143 rfl rfl
set_option maxRecDepth 30000 in
theorem wk_1104 : Cond.selects "DryDock$State" ⟨"DryDock$State", "floats", "(I)Z"⟩ ⟨"DryDock$State", "floats", "(I)Z"⟩ ∈ GW := GW_t5 144 rfl rfl
set_option maxRecDepth 30000 in
theorem wk_1105 : Cond.code yX9_floats cX9_floats 2 (some .boolean) ∈ GW := GW_t5 145 rfl rfl
set_option maxRecDepth 30000 in
theorem wk_1106 : Cond.methodLink "DryDock" 167 ⟨"DryDock$State", "isBorne", "(I)Z"⟩ ∈ GW := GW_t5 146 rfl rfl
set_option maxRecDepth 30000 in
theorem wk_1107 : Cond.methodLink "DryDock" 170 ⟨"DryDock$State", "wedgesOf", "(I)I"⟩ ∈ GW := GW_t5 147 rfl rfl
set_option maxRecDepth 30000 in
theorem wk_1108 : Cond.methodLink "DryDock" 173 ⟨"DryDock$State", "whenFor", "(I)I"⟩ ∈ GW := GW_t5 148 rfl rfl
set_option maxRecDepth 30000 in
theorem wk_1109 : Cond.instanceMethod ⟨"DryDock$State", "whenFor", "(I)I"⟩ ∈ GW := GW_t5 149 rfl rfl
set_option maxRecDepth 30000 in
theorem wk_1110 : Cond.selects "DryDock$State" ⟨"DryDock$State", "whenFor", "(I)I"⟩ ⟨"DryDock$State", "whenFor", "(I)I"⟩ ∈ GW := GW_t5 150 rfl rfl
set_option maxRecDepth 30000 in
theorem wk_1111 : Cond.code yX9_whenFor cX9_whenFor 3 (some .int) ∈ GW := GW_t5 151 rfl rfl
set_option maxRecDepth 30000 in
theorem wk_1112 : Cond.methodLink "DryDock" 176 ⟨"DryDock$State", "fitsAt", "(I)I"⟩ ∈ GW := GW_t5 152 rfl rfl
set_option maxRecDepth 30000 in
theorem wk_1113 : Cond.instanceMethod ⟨"DryDock$State", "fitsAt", "(I)I"⟩ ∈ GW := GW_t5 153 rfl rfl
set_option maxRecDepth 30000 in
theorem wk_1114 : Cond.selects "DryDock$State" ⟨"DryDock$State", "fitsAt", "(I)I"⟩ ⟨"DryDock$State", "fitsAt", "(I)I"⟩ ∈ GW := GW_t5 154 rfl rfl
set_option maxRecDepth 30000 in
theorem wk_1115 : Cond.code yX9_fitsAt cX9_fitsAt 4 (some .int) ∈ GW := GW_t5 155 rfl rfl
set_option maxRecDepth 30000 in
theorem wk_1117 : Cond.methodLink "DryDock" 179 ⟨"DryDock$State", "shareOf", "(I)I"⟩ ∈ GW := GW_t5 157 rfl rfl
set_option maxRecDepth 30000 in
theorem wk_1118 : Cond.instanceMethod ⟨"DryDock$State", "shareOf", "(I)I"⟩ ∈ GW := GW_t5 158 rfl rfl
set_option maxRecDepth 30000 in
theorem wk_1119 : Cond.selects "DryDock$State" ⟨"DryDock$State", "shareOf", "(I)I"⟩ ⟨"DryDock$State", "shareOf", "(I)I"⟩ ∈ GW := GW_t5 159 rfl rfl
set_option maxRecDepth 30000 in
theorem wk_1120 : Cond.code yX9_shareOf cX9_shareOf 4 (some .int) ∈ GW := GW_t5 160 rfl rfl
set_option maxRecDepth 30000 in
theorem wk_1121 : Cond.classLink "DryDock" 182 "java/util/NoSuchElementException" ∈ GW := GW_t5 161 rfl rfl
set_option maxRecDepth 30000 in
theorem wk_1122 : Cond.instantiable "java/util/NoSuchElementException" 6 ∈ GW := GW_t5 162 rfl rfl
set_option maxRecDepth 30000 in
theorem wk_1124 : Cond.selects "java/util/NoSuchElementException" ⟨"java/lang/Throwable", "fillInStackTrace", "(I)Ljava/lang/Throwable;"⟩ ⟨"java/lang/Throwable", "fillInStackTrace", "(I)Ljava/lang/Throwable;"⟩ ∈ GW := GW_t5 164 rfl rfl
set_option maxRecDepth 30000 in
theorem wk_1125 : Cond.lays "java/util/NoSuchElementException" "java/lang/Throwable" "cause" "Ljava/lang/Throwable;" ∈ GW := GW_t5 165 rfl rfl
set_option maxRecDepth 30000 in
theorem wk_1126 : Cond.lays "java/util/NoSuchElementException" "java/lang/Throwable" "stackTrace" "[Ljava/lang/StackTraceElement;" ∈ GW := GW_t5 166 rfl rfl
set_option maxRecDepth 30000 in
theorem wk_1127 : Cond.lays "java/util/NoSuchElementException" "java/lang/Throwable" "suppressedExceptions" "Ljava/util/List;" ∈ GW := GW_t5 167 rfl rfl
set_option maxRecDepth 30000 in
theorem wk_1128 : Cond.lays "java/util/NoSuchElementException" "java/lang/Throwable" "detailMessage" "Ljava/lang/String;" ∈ GW := GW_t5 168 rfl rfl
set_option maxRecDepth 30000 in
theorem wk_1129 : Cond.lays "java/util/NoSuchElementException" "java/lang/Throwable" "backtrace" "Ljava/lang/Object;" ∈ GW := GW_t5 169 rfl rfl
set_option maxRecDepth 30000 in
theorem wk_1131 : Cond.methodLink "DryDock" 186 ⟨"java/util/NoSuchElementException", "<init>", "(Ljava/lang/String;)V"⟩ ∈ GW := GW_t5 171 rfl rfl
set_option maxRecDepth 30000 in
theorem wk_1132 : Cond.instanceMethod ⟨"java/util/NoSuchElementException", "<init>", "(Ljava/lang/String;)V"⟩ ∈ GW := GW_t5 172 rfl rfl
set_option maxRecDepth 30000 in
theorem wk_1134 : Cond.methodLink "java/util/NoSuchElementException" 13 ⟨"java/lang/RuntimeException", "<init>", "(Ljava/lang/String;)V"⟩ ∈ GW := GW_t5 174 rfl rfl
set_option maxRecDepth 30000 in
theorem wk_1135 : Cond.lays "java/util/NoSuchElementException" "java/lang/Throwable" "depth" "I" ∈ GW := GW_t5 175 rfl rfl
set_option maxRecDepth 30000 in
theorem wk_1137 : Cond.methodLink "DryDockLaw" 148 ⟨"DryDockLaw", "place", "(LDryDock;II[J)I"⟩ ∈ GW := GW_t5 177 rfl rfl
set_option maxRecDepth 30000 in
theorem wk_1138 : Cond.static ⟨"DryDockLaw", "place", "(LDryDock;II[J)I"⟩ ∈ GW := GW_t5 178 rfl rfl
set_option maxRecDepth 30000 in
theorem wk_1140 : Cond.methodLink "DryDockLaw" 28 ⟨"DryDock", "place", "(II)I"⟩ ∈ GW := GW_t5 180 rfl rfl
set_option maxRecDepth 30000 in
theorem wk_1141 : Cond.instanceMethod ⟨"DryDock", "place", "(II)I"⟩ ∈ GW := GW_t5 181 rfl rfl
set_option maxRecDepth 30000 in
theorem wk_1142 : Cond.selects "DryDock" ⟨"DryDock", "place", "(II)I"⟩ ⟨"DryDock", "place", "(II)I"⟩ ∈ GW := GW_t5 182 rfl rfl
set_option maxRecDepth 30000 in
theorem wk_1143 : Cond.code yX11_place cX11_place 3 (some .int) ∈ GW := GW_t5 183 rfl rfl
set_option maxRecDepth 30000 in
theorem wk_1144 : Cond.methodLink "DryDock" 187 ⟨"DryDock", "needPlace", "(I)V"⟩ ∈ GW := GW_t5 184 rfl rfl
set_option maxRecDepth 30000 in
theorem wk_1146 : Cond.instanceMethod ⟨"DryDock", "needPlace", "(I)V"⟩ ∈ GW := GW_t5 186 rfl rfl
set_option maxRecDepth 30000 in
theorem wk_1147 : Cond.code yX11_needPlace cX11_needPlace 2 none ∈ GW := GW_t5 187 rfl rfl
set_option maxRecDepth 30000 in
theorem wk_1149 : Cond.methodLink "DryDock" 193 ⟨"DryDock$State", "shipOn", "(I)I"⟩ ∈ GW := GW_t5 189 rfl rfl
set_option maxRecDepth 30000 in
theorem wk_1150 : Cond.instanceMethod ⟨"DryDock$State", "shipOn", "(I)I"⟩ ∈ GW := GW_t5 190 rfl rfl
set_option maxRecDepth 30000 in
theorem wk_1151 : Cond.selects "DryDock$State" ⟨"DryDock$State", "shipOn", "(I)I"⟩ ⟨"DryDock$State", "shipOn", "(I)I"⟩ ∈ GW := GW_t5 191 rfl rfl
set_option maxRecDepth 30000 in
theorem wk_1152 : Cond.code yX9_shipOn cX9_shipOn 3 (some .int) ∈ GW := GW_t5 192 rfl rfl
set_option maxRecDepth 30000 in
theorem wk_1154 : Cond.methodLink "DryDockLaw" 151 ⟨"DryDockLaw", "tide", "(LDryDock;I[J)I"⟩ ∈ GW := GW_t5 194 rfl rfl
set_option maxRecDepth 30000 in
theorem wk_1155 : Cond.static ⟨"DryDockLaw", "tide", "(LDryDock;I[J)I"⟩ ∈ GW := GW_t5 195 rfl rfl
set_option maxRecDepth 30000 in
theorem wk_1157 : Cond.methodLink "DryDockLaw" 31 ⟨"DryDock", "tide", "(I)I"⟩ ∈ GW := GW_t5 197 rfl rfl
set_option maxRecDepth 30000 in
theorem wk_1158 : Cond.instanceMethod ⟨"DryDock", "tide", "(I)I"⟩ ∈ GW := GW_t5 198 rfl rfl
set_option maxRecDepth 30000 in
theorem wk_1159 : Cond.selects "DryDock" ⟨"DryDock", "tide", "(I)I"⟩ ⟨"DryDock", "tide", "(I)I"⟩ ∈ GW := GW_t5 199 rfl rfl
set_option maxRecDepth 30000 in
theorem wk_1160 : Cond.code yX11_tide cX11_tide 2 (some .int) ∈ GW := GW_t5 200 rfl rfl
set_option maxRecDepth 30000 in
theorem wk_1161 : Cond.methodLink "DryDock" 198 ⟨"DryDock", "needTide", "(I)V"⟩ ∈ GW := GW_t5 201 rfl rfl
set_option maxRecDepth 30000 in
theorem wk_1163 : Cond.instanceMethod ⟨"DryDock", "needTide", "(I)V"⟩ ∈ GW := GW_t5 203 rfl rfl
set_option maxRecDepth 30000 in
theorem wk_1164 : Cond.code yX11_needTide cX11_needTide 2 none ∈ GW := GW_t5 204 rfl rfl
set_option maxRecDepth 30000 in
theorem wk_1166 : Cond.methodLink "DryDockLaw" 155 ⟨"DryDockLaw", "hours", "(LDryDock;I[J)I"⟩ ∈ GW := GW_t5 206 rfl rfl
set_option maxRecDepth 30000 in
theorem wk_1167 : Cond.static ⟨"DryDockLaw", "hours", "(LDryDock;I[J)I"⟩ ∈ GW := GW_t5 207 rfl rfl
set_option maxRecDepth 30000 in
theorem wk_1169 : Cond.methodLink "DryDockLaw" 35 ⟨"DryDock", "hours", "(I)I"⟩ ∈ GW := GW_t5 209 rfl rfl
set_option maxRecDepth 30000 in
theorem wk_1170 : Cond.instanceMethod ⟨"DryDock", "hours", "(I)I"⟩ ∈ GW := GW_t5 210 rfl rfl
set_option maxRecDepth 30000 in
theorem wk_1171 : Cond.selects "DryDock" ⟨"DryDock", "hours", "(I)I"⟩ ⟨"DryDock", "hours", "(I)I"⟩ ∈ GW := GW_t5 211 rfl rfl
set_option maxRecDepth 30000 in
theorem wk_1172 : Cond.code yX11_hours cX11_hours 2 (some .int) ∈ GW := GW_t5 212 rfl rfl
set_option maxRecDepth 30000 in
theorem wk_1174 : Cond.methodLink "DryDock" 206 ⟨"DryDock$Past", "remember", "(LDryDock$State;)V"⟩ ∈ GW := GW_t5 214 rfl rfl
set_option maxRecDepth 30000 in
theorem wk_1175 : Cond.instanceMethod ⟨"DryDock$Past", "remember", "(LDryDock$State;)V"⟩ ∈ GW := GW_t5 215 rfl rfl
set_option maxRecDepth 30000 in
theorem wk_1176 : Cond.selects "DryDock$Past" ⟨"DryDock$Past", "remember", "(LDryDock$State;)V"⟩ ⟨"DryDock$Past", "remember", "(LDryDock$State;)V"⟩ ∈ GW := GW_t5 216 rfl rfl
set_option maxRecDepth 30000 in
theorem wk_1177 : Cond.code yX5_remember cX5_remember 2 none ∈ GW := GW_t5 217 rfl rfl
set_option maxRecDepth 30000 in
theorem wk_1178 : Cond.methodLink "DryDock$Past" 29 ⟨"java/lang/Math", "min", "(II)I"⟩ ∈ GW := GW_t5 218 rfl rfl
set_option maxRecDepth 30000 in
theorem wk_1179 : Cond.methodLink "DryDock" 209 ⟨"DryDock$State", "pass", "(ILDryDock$Law;Z)I"⟩ ∈ GW := GW_t5 219 rfl rfl
set_option maxRecDepth 30000 in
theorem wk_1180 : Cond.instanceMethod ⟨"DryDock$State", "pass", "(ILDryDock$Law;Z)I"⟩ ∈ GW := GW_t5 220 rfl rfl
set_option maxRecDepth 30000 in
theorem wk_1181 : Cond.selects "DryDock$State" ⟨"DryDock$State", "pass", "(ILDryDock$Law;Z)I"⟩ ⟨"DryDock$State", "pass", "(ILDryDock$Law;Z)I"⟩ ∈ GW := GW_t5 221 rfl rfl
set_option maxRecDepth 30000 in
theorem wk_1182 : Cond.code yX9_pass cX9_pass 6 (some .int) ∈ GW := GW_t5 222 rfl rfl
set_option maxRecDepth 30000 in
theorem wk_1183 : Cond.methodLink "DryDock$State" 102 ⟨"DryDock$State", "step", "(LDryDock$Law;Z)I"⟩ ∈ GW := GW_t5 223 rfl rfl
set_option maxRecDepth 30000 in
theorem wk_1184 : Cond.methodLink "DryDockLaw" 158 ⟨"DryDockLaw", "gate", "(LDryDock;Z[J)I"⟩ ∈ GW := GW_t5 224 rfl rfl
set_option maxRecDepth 30000 in
theorem wk_1185 : Cond.static ⟨"DryDockLaw", "gate", "(LDryDock;Z[J)I"⟩ ∈ GW := GW_t5 225 rfl rfl
set_option maxRecDepth 30000 in
theorem wk_1187 : Cond.classLink "DryDockLaw" 42 "java/lang/IllegalStateException" ∈ GW := GW_t5 227 rfl rfl
set_option maxRecDepth 30000 in
theorem wk_1188 : Cond.methodLink "DryDockLaw" 38 ⟨"DryDock", "gate", "(Z)Z"⟩ ∈ GW := GW_t5 228 rfl rfl
set_option maxRecDepth 30000 in
theorem wk_1189 : Cond.instanceMethod ⟨"DryDock", "gate", "(Z)Z"⟩ ∈ GW := GW_t5 229 rfl rfl
set_option maxRecDepth 30000 in
theorem wk_1190 : Cond.selects "DryDock" ⟨"DryDock", "gate", "(Z)Z"⟩ ⟨"DryDock", "gate", "(Z)Z"⟩ ∈ GW := GW_t5 230 rfl rfl
set_option maxRecDepth 30000 in
theorem wk_1191 : Cond.code yX11_gate cX11_gate 3 (some .boolean) ∈ GW := GW_t5 231 rfl rfl
set_option maxRecDepth 30000 in
theorem wk_1192 : Cond.classLink "DryDock" 221 "java/lang/IllegalStateException" ∈ GW := GW_t5 232 rfl rfl
set_option maxRecDepth 30000 in
theorem wk_1193 : Cond.instantiable "java/lang/IllegalStateException" 6 ∈ GW := GW_t5 233 rfl rfl
set_option maxRecDepth 30000 in
theorem wk_1195 : Cond.selects "java/lang/IllegalStateException" ⟨"java/lang/Throwable", "fillInStackTrace", "(I)Ljava/lang/Throwable;"⟩ ⟨"java/lang/Throwable", "fillInStackTrace", "(I)Ljava/lang/Throwable;"⟩ ∈ GW := GW_t5 235 rfl rfl
set_option maxRecDepth 30000 in
theorem wk_1196 : Cond.lays "java/lang/IllegalStateException" "java/lang/Throwable" "cause" "Ljava/lang/Throwable;" ∈ GW := GW_t5 236 rfl rfl
set_option maxRecDepth 30000 in
theorem wk_1197 : Cond.lays "java/lang/IllegalStateException" "java/lang/Throwable" "stackTrace" "[Ljava/lang/StackTraceElement;" ∈ GW := GW_t5 237 rfl rfl
set_option maxRecDepth 30000 in
theorem wk_1198 : Cond.lays "java/lang/IllegalStateException" "java/lang/Throwable" "suppressedExceptions" "Ljava/util/List;" ∈ GW := GW_t5 238 rfl rfl
set_option maxRecDepth 30000 in
theorem wk_1199 : Cond.lays "java/lang/IllegalStateException" "java/lang/Throwable" "detailMessage" "Ljava/lang/String;" ∈ GW := GW_t5 239 rfl rfl
set_option maxRecDepth 30000 in
theorem wk_1200 : Cond.lays "java/lang/IllegalStateException" "java/lang/Throwable" "backtrace" "Ljava/lang/Object;" ∈ GW := GW_t6 0 rfl rfl
set_option maxRecDepth 30000 in
theorem wk_1202 : Cond.methodLink "DryDock" 225 ⟨"java/lang/IllegalStateException", "<init>", "(Ljava/lang/String;)V"⟩ ∈ GW := GW_t6 2 rfl rfl
set_option maxRecDepth 30000 in
theorem wk_1203 : Cond.instanceMethod ⟨"java/lang/IllegalStateException", "<init>", "(Ljava/lang/String;)V"⟩ ∈ GW := GW_t6 3 rfl rfl
set_option maxRecDepth 30000 in
theorem wk_1205 : Cond.methodLink "java/lang/IllegalStateException" 7 ⟨"java/lang/RuntimeException", "<init>", "(Ljava/lang/String;)V"⟩ ∈ GW := GW_t6 5 rfl rfl
set_option maxRecDepth 30000 in
theorem wk_1206 : Cond.lays "java/lang/IllegalStateException" "java/lang/Throwable" "depth" "I" ∈ GW := GW_t6 6 rfl rfl
set_option maxRecDepth 30000 in
theorem wk_1208 : Cond.methodLink "DryDockLaw" 162 ⟨"DryDockLaw", "enter", "(LDryDock;II[J)I"⟩ ∈ GW := GW_t6 8 rfl rfl
set_option maxRecDepth 30000 in
theorem wk_1209 : Cond.static ⟨"DryDockLaw", "enter", "(LDryDock;II[J)I"⟩ ∈ GW := GW_t6 9 rfl rfl
set_option maxRecDepth 30000 in
theorem wk_1211 : Cond.methodLink "DryDockLaw" 44 ⟨"DryDock", "enter", "(II)I"⟩ ∈ GW := GW_t6 11 rfl rfl
set_option maxRecDepth 30000 in
theorem wk_1212 : Cond.instanceMethod ⟨"DryDock", "enter", "(II)I"⟩ ∈ GW := GW_t6 12 rfl rfl
set_option maxRecDepth 30000 in
theorem wk_1213 : Cond.selects "DryDock" ⟨"DryDock", "enter", "(II)I"⟩ ⟨"DryDock", "enter", "(II)I"⟩ ∈ GW := GW_t6 13 rfl rfl
set_option maxRecDepth 30000 in
theorem wk_1214 : Cond.code yX11_enter cX11_enter 3 (some .int) ∈ GW := GW_t6 14 rfl rfl
set_option maxRecDepth 30000 in
theorem wk_1215 : Cond.methodLink "DryDock" 233 ⟨"DryDock", "isRoom", "(III)Z"⟩ ∈ GW := GW_t6 15 rfl rfl
set_option maxRecDepth 30000 in
theorem wk_1217 : Cond.methodLink "DryDock" 239 ⟨"DryDock$State", "letIn", "(II)V"⟩ ∈ GW := GW_t6 17 rfl rfl
set_option maxRecDepth 30000 in
theorem wk_1218 : Cond.instanceMethod ⟨"DryDock$State", "letIn", "(II)V"⟩ ∈ GW := GW_t6 18 rfl rfl
set_option maxRecDepth 30000 in
theorem wk_1219 : Cond.selects "DryDock$State" ⟨"DryDock$State", "letIn", "(II)V"⟩ ⟨"DryDock$State", "letIn", "(II)V"⟩ ∈ GW := GW_t6 19 rfl rfl
set_option maxRecDepth 30000 in
theorem wk_1220 : Cond.code yX9_letIn cX9_letIn 3 none ∈ GW := GW_t6 20 rfl rfl
set_option maxRecDepth 30000 in
theorem wk_1221 : Cond.methodLink "DryDockLaw" 165 ⟨"DryDockLaw", "leave", "(LDryDock;I[J)I"⟩ ∈ GW := GW_t6 21 rfl rfl
set_option maxRecDepth 30000 in
theorem wk_1222 : Cond.static ⟨"DryDockLaw", "leave", "(LDryDock;I[J)I"⟩ ∈ GW := GW_t6 22 rfl rfl
set_option maxRecDepth 30000 in
theorem wk_1224 : Cond.methodLink "DryDockLaw" 47 ⟨"DryDock", "leave", "(I)I"⟩ ∈ GW := GW_t6 24 rfl rfl
set_option maxRecDepth 30000 in
theorem wk_1225 : Cond.instanceMethod ⟨"DryDock", "leave", "(I)I"⟩ ∈ GW := GW_t6 25 rfl rfl
set_option maxRecDepth 30000 in
theorem wk_1226 : Cond.selects "DryDock" ⟨"DryDock", "leave", "(I)I"⟩ ⟨"DryDock", "leave", "(I)I"⟩ ∈ GW := GW_t6 26 rfl rfl
set_option maxRecDepth 30000 in
theorem wk_1227 : Cond.code yX11_leave cX11_leave 2 (some .int) ∈ GW := GW_t6 27 rfl rfl
set_option maxRecDepth 30000 in
theorem wk_1229 : Cond.methodLink "DryDock" 248 ⟨"DryDock$State", "letOut", "(ILDryDock$Law;)I"⟩ ∈ GW := GW_t6 29 rfl rfl
set_option maxRecDepth 30000 in
theorem wk_1230 : Cond.instanceMethod ⟨"DryDock$State", "letOut", "(ILDryDock$Law;)I"⟩ ∈ GW := GW_t6 30 rfl rfl
set_option maxRecDepth 30000 in
theorem wk_1231 : Cond.selects "DryDock$State" ⟨"DryDock$State", "letOut", "(ILDryDock$Law;)I"⟩ ⟨"DryDock$State", "letOut", "(ILDryDock$Law;)I"⟩ ∈ GW := GW_t6 31 rfl rfl
set_option maxRecDepth 30000 in
theorem wk_1232 : Cond.code yX9_letOut cX9_letOut 4 (some .int) ∈ GW := GW_t6 32 rfl rfl
set_option maxRecDepth 30000 in
theorem wk_1233 : Cond.methodLink "DryDock$State" 150 ⟨"DryDock$State", "feeOf", "(ILDryDock$Law;)I"⟩ ∈ GW := GW_t6 33 rfl rfl
set_option maxRecDepth 30000 in
theorem wk_1234 : Cond.methodLink "DryDockLaw" 168 ⟨"DryDockLaw", "comes", "(LDryDock;III[J)I"⟩ ∈ GW := GW_t6 34 rfl rfl
set_option maxRecDepth 30000 in
theorem wk_1235 : Cond.static ⟨"DryDockLaw", "comes", "(LDryDock;III[J)I"⟩ ∈ GW := GW_t6 35 rfl rfl
set_option maxRecDepth 30000 in
theorem wk_1237 : Cond.methodLink "DryDockLaw" 50 ⟨"DryDock", "comes", "(III)I"⟩ ∈ GW := GW_t6 37 rfl rfl
set_option maxRecDepth 30000 in
theorem wk_1238 : Cond.instanceMethod ⟨"DryDock", "comes", "(III)I"⟩ ∈ GW := GW_t6 38 rfl rfl
set_option maxRecDepth 30000 in
theorem wk_1239 : Cond.selects "DryDock" ⟨"DryDock", "comes", "(III)I"⟩ ⟨"DryDock", "comes", "(III)I"⟩ ∈ GW := GW_t6 39 rfl rfl
set_option maxRecDepth 30000 in
theorem wk_1240 : Cond.code yX11_comes cX11_comes 4 (some .int) ∈ GW := GW_t6 40 rfl rfl
set_option maxRecDepth 30000 in
theorem wk_1243 : Cond.methodLink "DryDock" 258 ⟨"DryDock$State", "addShip", "(IIII)I"⟩ ∈ GW := GW_t6 43 rfl rfl
set_option maxRecDepth 30000 in
theorem wk_1244 : Cond.methodLink "DryDockLaw" 172 ⟨"DryDockLaw", "block", "(LDryDock;IZ[J)I"⟩ ∈ GW := GW_t6 44 rfl rfl
set_option maxRecDepth 30000 in
theorem wk_1245 : Cond.static ⟨"DryDockLaw", "block", "(LDryDock;IZ[J)I"⟩ ∈ GW := GW_t6 45 rfl rfl
set_option maxRecDepth 30000 in
theorem wk_1247 : Cond.methodLink "DryDockLaw" 54 ⟨"DryDock", "block", "(IZ)Z"⟩ ∈ GW := GW_t6 47 rfl rfl
set_option maxRecDepth 30000 in
theorem wk_1248 : Cond.instanceMethod ⟨"DryDock", "block", "(IZ)Z"⟩ ∈ GW := GW_t6 48 rfl rfl
set_option maxRecDepth 30000 in
theorem wk_1249 : Cond.selects "DryDock" ⟨"DryDock", "block", "(IZ)Z"⟩ ⟨"DryDock", "block", "(IZ)Z"⟩ ∈ GW := GW_t6 49 rfl rfl
set_option maxRecDepth 30000 in
theorem wk_1250 : Cond.code yX11_block cX11_block 5 (some .boolean) ∈ GW := GW_t6 50 rfl rfl
set_option maxRecDepth 30000 in
theorem wk_1251 : Cond.methodLink "DryDockLaw" 176 ⟨"DryDockLaw", "pumps", "(LDryDock;I[J)I"⟩ ∈ GW := GW_t6 51 rfl rfl
set_option maxRecDepth 30000 in
theorem wk_1252 : Cond.static ⟨"DryDockLaw", "pumps", "(LDryDock;I[J)I"⟩ ∈ GW := GW_t6 52 rfl rfl
set_option maxRecDepth 30000 in
theorem wk_1254 : Cond.methodLink "DryDockLaw" 58 ⟨"DryDock", "pumps", "(I)I"⟩ ∈ GW := GW_t6 54 rfl rfl
set_option maxRecDepth 30000 in
theorem wk_1255 : Cond.instanceMethod ⟨"DryDock", "pumps", "(I)I"⟩ ∈ GW := GW_t6 55 rfl rfl
set_option maxRecDepth 30000 in
theorem wk_1256 : Cond.selects "DryDock" ⟨"DryDock", "pumps", "(I)I"⟩ ⟨"DryDock", "pumps", "(I)I"⟩ ∈ GW := GW_t6 56 rfl rfl
set_option maxRecDepth 30000 in
theorem wk_1257 : Cond.code yX11_pumps cX11_pumps 3 (some .int) ∈ GW := GW_t6 57 rfl rfl
set_option maxRecDepth 30000 in
theorem wk_1258 : Cond.methodLink "DryDock" 262 ⟨"DryDock", "needNumber", "(II)V"⟩ ∈ GW := GW_t6 58 rfl rfl
set_option maxRecDepth 30000 in
theorem wk_1260 : Cond.instanceMethod ⟨"DryDock", "needNumber", "(II)V"⟩ ∈ GW := GW_t6 60 rfl rfl
set_option maxRecDepth 30000 in
theorem wk_1261 : Cond.code yX11_needNumber cX11_needNumber 3 none ∈ GW := GW_t6 61 rfl rfl
set_option maxRecDepth 30000 in
theorem wk_1263 : Cond.methodLink "DryDockLaw" 179 ⟨"DryDockLaw", "hands", "(LDryDock;I[J)I"⟩ ∈ GW := GW_t6 63 rfl rfl
set_option maxRecDepth 30000 in
theorem wk_1264 : Cond.static ⟨"DryDockLaw", "hands", "(LDryDock;I[J)I"⟩ ∈ GW := GW_t6 64 rfl rfl
set_option maxRecDepth 30000 in
theorem wk_1266 : Cond.methodLink "DryDockLaw" 61 ⟨"DryDock", "hands", "(I)I"⟩ ∈ GW := GW_t6 66 rfl rfl
set_option maxRecDepth 30000 in
theorem wk_1267 : Cond.instanceMethod ⟨"DryDock", "hands", "(I)I"⟩ ∈ GW := GW_t6 67 rfl rfl
set_option maxRecDepth 30000 in
theorem wk_1268 : Cond.selects "DryDock" ⟨"DryDock", "hands", "(I)I"⟩ ⟨"DryDock", "hands", "(I)I"⟩ ∈ GW := GW_t6 68 rfl rfl
set_option maxRecDepth 30000 in
theorem wk_1269 : Cond.code yX11_hands cX11_hands 3 (some .int) ∈ GW := GW_t6 69 rfl rfl
set_option maxRecDepth 30000 in
theorem wk_1270 : Cond.methodLink "DryDockLaw" 182 ⟨"DryDockLaw", "flow", "(LDryDock;II[J)I"⟩ ∈ GW := GW_t6 70 rfl rfl
set_option maxRecDepth 30000 in
theorem wk_1271 : Cond.static ⟨"DryDockLaw", "flow", "(LDryDock;II[J)I"⟩ ∈ GW := GW_t6 71 rfl rfl
set_option maxRecDepth 30000 in
theorem wk_1273 : Cond.methodLink "DryDockLaw" 64 ⟨"DryDock", "flow", "(II)I"⟩ ∈ GW := GW_t6 73 rfl rfl
set_option maxRecDepth 30000 in
theorem wk_1274 : Cond.instanceMethod ⟨"DryDock", "flow", "(II)I"⟩ ∈ GW := GW_t6 74 rfl rfl
set_option maxRecDepth 30000 in
theorem wk_1275 : Cond.selects "DryDock" ⟨"DryDock", "flow", "(II)I"⟩ ⟨"DryDock", "flow", "(II)I"⟩ ∈ GW := GW_t6 75 rfl rfl
set_option maxRecDepth 30000 in
theorem wk_1276 : Cond.code yX11_flow cX11_flow 4 (some .int) ∈ GW := GW_t6 76 rfl rfl
set_option maxRecDepth 30000 in
theorem wk_1277 : Cond.methodLink "DryDockLaw" 230 ⟨"DryDockLaw", "goes", "(LDryDock;Z[J)I"⟩ ∈ GW := GW_t6 77 rfl rfl
set_option maxRecDepth 30000 in
theorem wk_1278 : Cond.static ⟨"DryDockLaw", "goes", "(LDryDock;Z[J)I"⟩ ∈ GW := GW_t6 78 rfl rfl
set_option maxRecDepth 30000 in
theorem wk_1280 : Cond.methodLink "DryDockLaw" 67 ⟨"DryDock", "goes", "(Z)I"⟩ ∈ GW := GW_t6 80 rfl rfl
set_option maxRecDepth 30000 in
theorem wk_1281 : Cond.instanceMethod ⟨"DryDock", "goes", "(Z)I"⟩ ∈ GW := GW_t6 81 rfl rfl
set_option maxRecDepth 30000 in
theorem wk_1282 : Cond.selects "DryDock" ⟨"DryDock", "goes", "(Z)I"⟩ ⟨"DryDock", "goes", "(Z)I"⟩ ∈ GW := GW_t6 82 rfl rfl
set_option maxRecDepth 30000 in
theorem wk_1283 : Cond.code yX11_goes cX11_goes 2 (some .int) ∈ GW := GW_t6 83 rfl rfl
set_option maxRecDepth 30000 in
theorem wk_1284 : Cond.methodLink "DryDock" 300 ⟨"DryDock", "needCurves", "()V"⟩ ∈ GW := GW_t6 84 rfl rfl
set_option maxRecDepth 30000 in
theorem wk_1286 : Cond.instanceMethod ⟨"DryDock", "needCurves", "()V"⟩ ∈ GW := GW_t6 86 rfl rfl
set_option maxRecDepth 30000 in
theorem wk_1287 : Cond.code yX11_needCurves cX11_needCurves 2 none ∈ GW := GW_t6 87 rfl rfl
set_option maxRecDepth 30000 in
theorem wk_1288 : Cond.methodLink "DryDock" 428 ⟨"DryDock$Curves", "read", "(LDryDock$Tape;)Z"⟩ ∈ GW := GW_t6 88 rfl rfl
set_option maxRecDepth 30000 in
theorem wk_1289 : Cond.instanceMethod ⟨"DryDock$Curves", "read", "(LDryDock$Tape;)Z"⟩ ∈ GW := GW_t6 89 rfl rfl
set_option maxRecDepth 30000 in
theorem wk_1290 : Cond.selects "DryDock$Curves" ⟨"DryDock$Curves", "read", "(LDryDock$Tape;)Z"⟩ ⟨"DryDock$Curves", "read", "(LDryDock$Tape;)Z"⟩ ∈ GW := GW_t6 90 rfl rfl
set_option maxRecDepth 30000 in
theorem wk_1291 : Cond.code yX0_read cX0_read 5 (some .boolean) ∈ GW := GW_t6 91 rfl rfl
set_option maxRecDepth 30000 in
theorem wk_1292 : Cond.methodLink "DryDock$Curves" 33 ⟨"DryDock$Tape", "sign", "(I)I"⟩ ∈ GW := GW_t6 92 rfl rfl
set_option maxRecDepth 30000 in
theorem wk_1293 : Cond.instanceMethod ⟨"DryDock$Tape", "sign", "(I)I"⟩ ∈ GW := GW_t6 93 rfl rfl
set_option maxRecDepth 30000 in
theorem wk_1294 : Cond.selects "DryDock$Tape" ⟨"DryDock$Tape", "sign", "(I)I"⟩ ⟨"DryDock$Tape", "sign", "(I)I"⟩ ∈ GW := GW_t6 94 rfl rfl
set_option maxRecDepth 30000 in
theorem wk_1295 : Cond.code yX10_sign cX10_sign 2 (some .int) ∈ GW := GW_t6 95 rfl rfl
set_option maxRecDepth 30000 in
theorem wk_1297 : Cond.methodLink "DryDock" 303 ⟨"DryDock$Curves", "search", "(Z)V"⟩ ∈ GW := GW_t6 97 rfl rfl
set_option maxRecDepth 30000 in
theorem wk_1298 : Cond.instanceMethod ⟨"DryDock$Curves", "search", "(Z)V"⟩ ∈ GW := GW_t6 98 rfl rfl
set_option maxRecDepth 30000 in
theorem wk_1299 : Cond.selects "DryDock$Curves" ⟨"DryDock$Curves", "search", "(Z)V"⟩ ⟨"DryDock$Curves", "search", "(Z)V"⟩ ∈ GW := GW_t6 99 rfl rfl
set_option maxRecDepth 30000 in
theorem wk_1300 : Cond.code yX0_search cX0_search 4 none ∈ GW := GW_t6 100 rfl rfl
set_option maxRecDepth 30000 in
theorem wk_1301 : Cond.methodLink "DryDock$Curves" 43 ⟨"DryDock$Curves", "searchLate", "(IIZ)V"⟩ ∈ GW := GW_t6 101 rfl rfl
set_option maxRecDepth 30000 in
theorem wk_1303 : Cond.instanceMethod ⟨"DryDock$Curves", "searchLate", "(IIZ)V"⟩ ∈ GW := GW_t6 103 rfl rfl
set_option maxRecDepth 30000 in
theorem wk_1304 : Cond.code yX0_searchLate cX0_searchLate 5 none ∈ GW := GW_t6 104 rfl rfl
set_option maxRecDepth 30000 in
theorem wk_1305 : Cond.methodLink "DryDock$Curves" 47 ⟨"DryDock$Curves", "fits", "(I)Z"⟩ ∈ GW := GW_t6 105 rfl rfl
set_option maxRecDepth 30000 in
theorem wk_1307 : Cond.instanceMethod ⟨"DryDock$Curves", "fits", "(I)Z"⟩ ∈ GW := GW_t6 107 rfl rfl
set_option maxRecDepth 30000 in
theorem wk_1308 : Cond.code yX0_fits cX0_fits 3 (some .boolean) ∈ GW := GW_t6 108 rfl rfl
set_option maxRecDepth 30000 in
theorem wk_1309 : Cond.methodLink "DryDock$Curves" 58 ⟨"DryDock$Curves", "heightAt", "(II)I"⟩ ∈ GW := GW_t6 109 rfl rfl
set_option maxRecDepth 30000 in
theorem wk_1311 : Cond.instanceMethod ⟨"DryDock$Curves", "heightAt", "(II)I"⟩ ∈ GW := GW_t6 111 rfl rfl
set_option maxRecDepth 30000 in
theorem wk_1312 : Cond.code yX0_heightAt cX0_heightAt 3 (some .int) ∈ GW := GW_t6 112 rfl rfl
set_option maxRecDepth 30000 in
theorem wk_1313 : Cond.fieldLink "DryDock$Curves" 55 "DryDock$Curves" "SWING" "[I" ∈ GW := GW_t6 113 rfl rfl
set_option maxRecDepth 30000 in
theorem wk_1315 : Cond.methodLink "DryDock$Curves" 51 ⟨"DryDock$Curves", "part", "(I)V"⟩ ∈ GW := GW_t6 115 rfl rfl
set_option maxRecDepth 30000 in
theorem wk_1317 : Cond.instanceMethod ⟨"DryDock$Curves", "part", "(I)V"⟩ ∈ GW := GW_t6 117 rfl rfl
set_option maxRecDepth 30000 in
theorem wk_1318 : Cond.code yX0_part cX0_part 3 none ∈ GW := GW_t6 118 rfl rfl
set_option maxRecDepth 30000 in
theorem wk_1319 : Cond.methodLink "DryDockLaw" 233 ⟨"DryDockLaw", "ask", "(LDryDock;[J)I"⟩ ∈ GW := GW_t6 119 rfl rfl
set_option maxRecDepth 30000 in
theorem wk_1320 : Cond.static ⟨"DryDockLaw", "ask", "(LDryDock;[J)I"⟩ ∈ GW := GW_t6 120 rfl rfl
set_option maxRecDepth 30000 in
theorem wk_1322 : Cond.methodLink "DryDockLaw" 71 ⟨"DryDock", "ask", "()I"⟩ ∈ GW := GW_t6 122 rfl rfl
set_option maxRecDepth 30000 in
theorem wk_1323 : Cond.instanceMethod ⟨"DryDock", "ask", "()I"⟩ ∈ GW := GW_t6 123 rfl rfl
set_option maxRecDepth 30000 in
theorem wk_1324 : Cond.selects "DryDock" ⟨"DryDock", "ask", "()I"⟩ ⟨"DryDock", "ask", "()I"⟩ ∈ GW := GW_t6 124 rfl rfl
set_option maxRecDepth 30000 in
theorem wk_1325 : Cond.code yX11_ask cX11_ask 1 (some .int) ∈ GW := GW_t6 125 rfl rfl
set_option maxRecDepth 30000 in
theorem wk_1326 : Cond.methodLink "DryDock" 313 ⟨"DryDock$Curves", "bestHour", "()I"⟩ ∈ GW := GW_t6 126 rfl rfl
set_option maxRecDepth 30000 in
theorem wk_1327 : Cond.instanceMethod ⟨"DryDock$Curves", "bestHour", "()I"⟩ ∈ GW := GW_t6 127 rfl rfl
set_option maxRecDepth 30000 in
theorem wk_1328 : Cond.selects "DryDock$Curves" ⟨"DryDock$Curves", "bestHour", "()I"⟩ ⟨"DryDock$Curves", "bestHour", "()I"⟩ ∈ GW := GW_t6 128 rfl rfl
set_option maxRecDepth 30000 in
theorem wk_1329 : Cond.code yX0_bestHour cX0_bestHour 5 (some .int) ∈ GW := GW_t6 129 rfl rfl
set_option maxRecDepth 30000 in
theorem wk_1330 : Cond.methodLink "DryDock$Curves" 62 ⟨"DryDock$Curves", "greatestPart", "(I)I"⟩ ∈ GW := GW_t6 130 rfl rfl
set_option maxRecDepth 30000 in
theorem wk_1332 : Cond.instanceMethod ⟨"DryDock$Curves", "greatestPart", "(I)I"⟩ ∈ GW := GW_t6 132 rfl rfl
set_option maxRecDepth 30000 in
theorem wk_1333 : Cond.code yX0_greatestPart cX0_greatestPart 4 (some .int) ∈ GW := GW_t6 133 rfl rfl
set_option maxRecDepth 30000 in
theorem wk_1334 : Cond.methodLink "DryDock$Curves" 65 ⟨"java/lang/Math", "max", "(II)I"⟩ ∈ GW := GW_t6 134 rfl rfl
set_option maxRecDepth 30000 in
theorem wk_1335 : Cond.methodLink "DryDockLaw" 236 ⟨"DryDockLaw", "lies", "(LDryDock;[J)I"⟩ ∈ GW := GW_t6 135 rfl rfl
set_option maxRecDepth 30000 in
theorem wk_1336 : Cond.static ⟨"DryDockLaw", "lies", "(LDryDock;[J)I"⟩ ∈ GW := GW_t6 136 rfl rfl
set_option maxRecDepth 30000 in
theorem wk_1338 : Cond.methodLink "DryDockLaw" 74 ⟨"DryDock", "lies", "()I"⟩ ∈ GW := GW_t6 138 rfl rfl
set_option maxRecDepth 30000 in
theorem wk_1339 : Cond.instanceMethod ⟨"DryDock", "lies", "()I"⟩ ∈ GW := GW_t6 139 rfl rfl
set_option maxRecDepth 30000 in
theorem wk_1340 : Cond.selects "DryDock" ⟨"DryDock", "lies", "()I"⟩ ⟨"DryDock", "lies", "()I"⟩ ∈ GW := GW_t6 140 rfl rfl
set_option maxRecDepth 30000 in
theorem wk_1341 : Cond.code yX11_lies cX11_lies 1 (some .int) ∈ GW := GW_t6 141 rfl rfl
set_option maxRecDepth 30000 in
theorem wk_1342 : Cond.methodLink "DryDock" 316 ⟨"DryDock", "needSoundings", "()V"⟩ ∈ GW := GW_t6 142 rfl rfl
set_option maxRecDepth 30000 in
theorem wk_1344 : Cond.instanceMethod ⟨"DryDock", "needSoundings", "()V"⟩ ∈ GW := GW_t6 144 rfl rfl
set_option maxRecDepth 30000 in
theorem wk_1345 : Cond.code yX11_needSoundings cX11_needSoundings 2 none ∈ GW := GW_t6 145 rfl rfl
set_option maxRecDepth 30000 in
theorem wk_1346 : Cond.methodLink "DryDock" 434 ⟨"DryDock$Soundings", "read", "(LDryDock$Tape;)Z"⟩ ∈ GW := GW_t6 146 rfl rfl
set_option maxRecDepth 30000 in
theorem wk_1347 : Cond.instanceMethod ⟨"DryDock$Soundings", "read", "(LDryDock$Tape;)Z"⟩ ∈ GW := GW_t6 147 rfl rfl
set_option maxRecDepth 30000 in
theorem wk_1348 : Cond.selects "DryDock$Soundings" ⟨"DryDock$Soundings", "read", "(LDryDock$Tape;)Z"⟩ ⟨"DryDock$Soundings", "read", "(LDryDock$Tape;)Z"⟩ ∈ GW := GW_t6 148 rfl rfl
set_option maxRecDepth 30000 in
theorem wk_1349 : Cond.code yX8_read cX8_read 3 (some .boolean) ∈ GW := GW_t6 149 rfl rfl
set_option maxRecDepth 30000 in
theorem wk_1350 : Cond.methodLink "DryDock$Soundings" 31 ⟨"DryDock$Tape", "sign", "(I)I"⟩ ∈ GW := GW_t6 150 rfl rfl
set_option maxRecDepth 30000 in
theorem wk_1352 : Cond.methodLink "DryDock" 319 ⟨"DryDock$Soundings", "search", "()V"⟩ ∈ GW := GW_t6 152 rfl rfl
set_option maxRecDepth 30000 in
theorem wk_1353 : Cond.instanceMethod ⟨"DryDock$Soundings", "search", "()V"⟩ ∈ GW := GW_t6 153 rfl rfl
set_option maxRecDepth 30000 in
theorem wk_1354 : Cond.selects "DryDock$Soundings" ⟨"DryDock$Soundings", "search", "()V"⟩ ⟨"DryDock$Soundings", "search", "()V"⟩ ∈ GW := GW_t6 154 rfl rfl
set_option maxRecDepth 30000 in
theorem wk_1355 : Cond.code yX8_search cX8_search 3 none ∈ GW := GW_t6 155 rfl rfl
set_option maxRecDepth 30000 in
theorem wk_1356 : Cond.methodLink "DryDock$Soundings" 44 ⟨"DryDock$Soundings", "weigh", "(II)V"⟩ ∈ GW := GW_t6 156 rfl rfl
set_option maxRecDepth 30000 in
theorem wk_1358 : Cond.instanceMethod ⟨"DryDock$Soundings", "weigh", "(II)V"⟩ ∈ GW := GW_t6 158 rfl rfl
set_option maxRecDepth 30000 in
theorem wk_1359 : Cond.code yX8_weigh cX8_weigh 5 none ∈ GW := GW_t6 159 rfl rfl
set_option maxRecDepth 30000 in
theorem wk_1360 : Cond.methodLink "DryDock$Soundings" 48 ⟨"DryDock$Soundings", "wrongRows", "(II)I"⟩ ∈ GW := GW_t6 160 rfl rfl
set_option maxRecDepth 30000 in
theorem wk_1362 : Cond.instanceMethod ⟨"DryDock$Soundings", "wrongRows", "(II)I"⟩ ∈ GW := GW_t6 162 rfl rfl
set_option maxRecDepth 30000 in
theorem wk_1363 : Cond.code yX8_wrongRows cX8_wrongRows 6 (some .int) ∈ GW := GW_t6 163 rfl rfl
set_option maxRecDepth 30000 in
theorem wk_1364 : Cond.methodLink "DryDockLaw" 239 ⟨"DryDockLaw", "likely", "(LDryDock;[J)I"⟩ ∈ GW := GW_t6 164 rfl rfl
set_option maxRecDepth 30000 in
theorem wk_1365 : Cond.static ⟨"DryDockLaw", "likely", "(LDryDock;[J)I"⟩ ∈ GW := GW_t6 165 rfl rfl
set_option maxRecDepth 30000 in
theorem wk_1367 : Cond.methodLink "DryDockLaw" 77 ⟨"DryDock", "likely", "()I"⟩ ∈ GW := GW_t6 167 rfl rfl
set_option maxRecDepth 30000 in
theorem wk_1368 : Cond.instanceMethod ⟨"DryDock", "likely", "()I"⟩ ∈ GW := GW_t6 168 rfl rfl
set_option maxRecDepth 30000 in
theorem wk_1369 : Cond.selects "DryDock" ⟨"DryDock", "likely", "()I"⟩ ⟨"DryDock", "likely", "()I"⟩ ∈ GW := GW_t6 169 rfl rfl
set_option maxRecDepth 30000 in
theorem wk_1370 : Cond.code yX11_likely cX11_likely 1 (some .int) ∈ GW := GW_t6 170 rfl rfl
set_option maxRecDepth 30000 in
theorem wk_1371 : Cond.methodLink "DryDockLaw" 242 ⟨"DryDockLaw", "sound", "(LDryDock;[J)I"⟩ ∈ GW := GW_t6 171 rfl rfl
set_option maxRecDepth 30000 in
theorem wk_1372 : Cond.static ⟨"DryDockLaw", "sound", "(LDryDock;[J)I"⟩ ∈ GW := GW_t6 172 rfl rfl
set_option maxRecDepth 30000 in
theorem wk_1374 : Cond.methodLink "DryDockLaw" 80 ⟨"DryDock", "sound", "()I"⟩ ∈ GW := GW_t6 174 rfl rfl
set_option maxRecDepth 30000 in
theorem wk_1375 : Cond.instanceMethod ⟨"DryDock", "sound", "()I"⟩ ∈ GW := GW_t6 175 rfl rfl
set_option maxRecDepth 30000 in
theorem wk_1376 : Cond.selects "DryDock" ⟨"DryDock", "sound", "()I"⟩ ⟨"DryDock", "sound", "()I"⟩ ∈ GW := GW_t6 176 rfl rfl
set_option maxRecDepth 30000 in
theorem wk_1377 : Cond.code yX11_sound cX11_sound 1 (some .int) ∈ GW := GW_t6 177 rfl rfl
set_option maxRecDepth 30000 in
theorem wk_1378 : Cond.methodLink "DryDock" 323 ⟨"DryDock$Soundings", "bestPlace", "()I"⟩ ∈ GW := GW_t6 178 rfl rfl
set_option maxRecDepth 30000 in
theorem wk_1379 : Cond.instanceMethod ⟨"DryDock$Soundings", "bestPlace", "()I"⟩ ∈ GW := GW_t6 179 rfl rfl
set_option maxRecDepth 30000 in
theorem wk_1380 : Cond.selects "DryDock$Soundings" ⟨"DryDock$Soundings", "bestPlace", "()I"⟩ ⟨"DryDock$Soundings", "bestPlace", "()I"⟩ ∈ GW := GW_t6 180 rfl rfl
set_option maxRecDepth 30000 in
theorem wk_1381 : Cond.code yX8_bestPlace cX8_bestPlace 5 (some .int) ∈ GW := GW_t6 181 rfl rfl
set_option maxRecDepth 30000 in
theorem wk_1382 : Cond.methodLink "DryDock$Soundings" 52 ⟨"java/lang/Math", "max", "(II)I"⟩ ∈ GW := GW_t6 182 rfl rfl
set_option maxRecDepth 30000 in
theorem wk_1383 : Cond.methodLink "DryDockLaw" 253 ⟨"DryDockLaw", "beds", "(LDryDock;I[J)I"⟩ ∈ GW := GW_t6 183 rfl rfl
set_option maxRecDepth 30000 in
theorem wk_1384 : Cond.static ⟨"DryDockLaw", "beds", "(LDryDock;I[J)I"⟩ ∈ GW := GW_t6 184 rfl rfl
set_option maxRecDepth 30000 in
theorem wk_1386 : Cond.methodLink "DryDockLaw" 83 ⟨"DryDock", "beds", "(I)I"⟩ ∈ GW := GW_t6 186 rfl rfl
set_option maxRecDepth 30000 in
theorem wk_1387 : Cond.instanceMethod ⟨"DryDock", "beds", "(I)I"⟩ ∈ GW := GW_t6 187 rfl rfl
set_option maxRecDepth 30000 in
theorem wk_1388 : Cond.selects "DryDock" ⟨"DryDock", "beds", "(I)I"⟩ ⟨"DryDock", "beds", "(I)I"⟩ ∈ GW := GW_t6 188 rfl rfl
set_option maxRecDepth 30000 in
theorem wk_1389 : Cond.code yX11_beds cX11_beds 2 (some .int) ∈ GW := GW_t6 189 rfl rfl
set_option maxRecDepth 30000 in
theorem wk_1390 : Cond.methodLink "DryDock" 332 ⟨"DryDock$Plans", "putToBeds", "(LDryDock$State;)V"⟩ ∈ GW := GW_t6 190 rfl rfl
set_option maxRecDepth 30000 in
theorem wk_1391 : Cond.instanceMethod ⟨"DryDock$Plans", "putToBeds", "(LDryDock$State;)V"⟩ ∈ GW := GW_t6 191 rfl rfl
set_option maxRecDepth 30000 in
theorem wk_1392 : Cond.selects "DryDock$Plans" ⟨"DryDock$Plans", "putToBeds", "(LDryDock$State;)V"⟩ ⟨"DryDock$Plans", "putToBeds", "(LDryDock$State;)V"⟩ ∈ GW := GW_t6 192 rfl rfl
set_option maxRecDepth 30000 in
theorem wk_1393 : Cond.code yX6_putToBeds cX6_putToBeds 8 none ∈ GW := GW_t6 193 rfl rfl
set_option maxRecDepth 30000 in
theorem wk_1394 : Cond.methodLink "DryDock$Plans" 104 ⟨"DryDock$Plans", "bed", "(II)I"⟩ ∈ GW := GW_t6 194 rfl rfl
set_option maxRecDepth 30000 in
theorem wk_1395 : Cond.static ⟨"DryDock$Plans", "bed", "(II)I"⟩ ∈ GW := GW_t6 195 rfl rfl
set_option maxRecDepth 30000 in
theorem wk_1396 : Cond.code yX6_bed cX6_bed 2 (some .int) ∈ GW := GW_t6 196 rfl rfl
set_option maxRecDepth 30000 in
theorem wk_1397 : Cond.methodLink "DryDock$Plans" 107 ⟨"DryDock$Plans", "beddedAt", "(LDryDock$State;III)I"⟩ ∈ GW := GW_t6 197 rfl rfl
set_option maxRecDepth 30000 in
theorem wk_1399 : Cond.instanceMethod ⟨"DryDock$Plans", "beddedAt", "(LDryDock$State;III)I"⟩ ∈ GW := GW_t6 199 rfl rfl
set_option maxRecDepth 30000 in
theorem wk_1400 : Cond.code yX6_beddedAt cX6_beddedAt 6 (some .int) ∈ GW := GW_t6 200 rfl rfl
set_option maxRecDepth 30000 in
theorem wk_1402 : Cond.methodLink "DryDock$Plans" 111 ⟨"java/lang/Math", "max", "(II)I"⟩ ∈ GW := GW_t6 202 rfl rfl
set_option maxRecDepth 30000 in
theorem wk_1403 : Cond.methodLink "DryDock$Plans" 114 ⟨"DryDock$Plans", "findBeds", "(LDryDock$State;I)V"⟩ ∈ GW := GW_t6 203 rfl rfl
set_option maxRecDepth 30000 in
theorem wk_1405 : Cond.instanceMethod ⟨"DryDock$Plans", "findBeds", "(LDryDock$State;I)V"⟩ ∈ GW := GW_t6 205 rfl rfl
set_option maxRecDepth 30000 in
theorem wk_1406 : Cond.code yX6_findBeds cX6_findBeds 7 none ∈ GW := GW_t6 206 rfl rfl
set_option maxRecDepth 30000 in
theorem wk_1407 : Cond.methodLink "DryDockLaw" 256 ⟨"DryDockLaw", "pairs", "(LDryDock;I[J)I"⟩ ∈ GW := GW_t6 207 rfl rfl
set_option maxRecDepth 30000 in
theorem wk_1408 : Cond.static ⟨"DryDockLaw", "pairs", "(LDryDock;I[J)I"⟩ ∈ GW := GW_t6 208 rfl rfl
set_option maxRecDepth 30000 in
theorem wk_1410 : Cond.methodLink "DryDockLaw" 86 ⟨"DryDock", "pairs", "(I)I"⟩ ∈ GW := GW_t6 210 rfl rfl
set_option maxRecDepth 30000 in
theorem wk_1411 : Cond.instanceMethod ⟨"DryDock", "pairs", "(I)I"⟩ ∈ GW := GW_t6 211 rfl rfl
set_option maxRecDepth 30000 in
theorem wk_1412 : Cond.selects "DryDock" ⟨"DryDock", "pairs", "(I)I"⟩ ⟨"DryDock", "pairs", "(I)I"⟩ ∈ GW := GW_t6 212 rfl rfl
set_option maxRecDepth 30000 in
theorem wk_1413 : Cond.code yX11_pairs cX11_pairs 2 (some .int) ∈ GW := GW_t6 213 rfl rfl
set_option maxRecDepth 30000 in
theorem wk_1414 : Cond.methodLink "DryDock" 338 ⟨"DryDock$Plans", "pairShips", "(LDryDock$State;)V"⟩ ∈ GW := GW_t6 214 rfl rfl
set_option maxRecDepth 30000 in
theorem wk_1415 : Cond.instanceMethod ⟨"DryDock$Plans", "pairShips", "(LDryDock$State;)V"⟩ ∈ GW := GW_t6 215 rfl rfl
set_option maxRecDepth 30000 in
theorem wk_1416 : Cond.selects "DryDock$Plans" ⟨"DryDock$Plans", "pairShips", "(LDryDock$State;)V"⟩ ⟨"DryDock$Plans", "pairShips", "(LDryDock$State;)V"⟩ ∈ GW := GW_t6 216 rfl rfl
set_option maxRecDepth 30000 in
theorem wk_1417 : Cond.code yX6_pairShips cX6_pairShips 4 none ∈ GW := GW_t6 217 rfl rfl
set_option maxRecDepth 30000 in
theorem wk_1418 : Cond.methodLink "DryDock$Plans" 122 ⟨"DryDock$Plans", "pairedWork", "(ILDryDock$State;)I"⟩ ∈ GW := GW_t6 218 rfl rfl
set_option maxRecDepth 30000 in
theorem wk_1420 : Cond.instanceMethod ⟨"DryDock$Plans", "pairedWork", "(ILDryDock$State;)I"⟩ ∈ GW := GW_t6 220 rfl rfl
set_option maxRecDepth 30000 in
theorem wk_1421 : Cond.code yX6_pairedWork cX6_pairedWork 7 (some .int) ∈ GW := GW_t6 221 rfl rfl
set_option maxRecDepth 30000 in
theorem wk_1422 : Cond.methodLink "DryDock$Plans" 129 ⟨"java/lang/Integer", "numberOfTrailingZeros", "(I)I"⟩ ∈ GW := GW_t6 222 rfl rfl
set_option maxRecDepth 30000 in
theorem wk_1423 : Cond.static ⟨"java/lang/Integer", "numberOfTrailingZeros", "(I)I"⟩ ∈ GW := GW_t6 223 rfl rfl
set_option maxRecDepth 30000 in
theorem wk_1425 : Cond.constant "java/lang/Integer" 264 (65536 : Int32) ∈ GW := GW_t6 225 rfl rfl
set_option maxRecDepth 30000 in
theorem wk_1426 : Cond.methodLink "DryDock$Plans" 134 ⟨"DryDock$Plans", "pairedWith", "(IIILDryDock$State;)I"⟩ ∈ GW := GW_t6 226 rfl rfl
set_option maxRecDepth 30000 in
theorem wk_1428 : Cond.instanceMethod ⟨"DryDock$Plans", "pairedWith", "(IIILDryDock$State;)I"⟩ ∈ GW := GW_t6 228 rfl rfl
set_option maxRecDepth 30000 in
theorem wk_1429 : Cond.code yX6_pairedWith cX6_pairedWith 5 (some .int) ∈ GW := GW_t6 229 rfl rfl
set_option maxRecDepth 30000 in
theorem wk_1430 : Cond.methodLink "DryDock$Plans" 125 ⟨"DryDock$Plans", "findMates", "(ILDryDock$State;)V"⟩ ∈ GW := GW_t6 230 rfl rfl
set_option maxRecDepth 30000 in
theorem wk_1432 : Cond.instanceMethod ⟨"DryDock$Plans", "findMates", "(ILDryDock$State;)V"⟩ ∈ GW := GW_t6 232 rfl rfl
set_option maxRecDepth 30000 in
theorem wk_1433 : Cond.code yX6_findMates cX6_findMates 6 none ∈ GW := GW_t6 233 rfl rfl
set_option maxRecDepth 30000 in
theorem wk_1434 : Cond.methodLink "DryDock$Plans" 138 ⟨"DryDock$Plans", "findMate", "(IIILDryDock$State;)I"⟩ ∈ GW := GW_t6 234 rfl rfl
set_option maxRecDepth 30000 in
theorem wk_1436 : Cond.instanceMethod ⟨"DryDock$Plans", "findMate", "(IIILDryDock$State;)I"⟩ ∈ GW := GW_t6 236 rfl rfl
set_option maxRecDepth 30000 in
theorem wk_1437 : Cond.code yX6_findMate cX6_findMate 6 (some .int) ∈ GW := GW_t6 237 rfl rfl
set_option maxRecDepth 30000 in
theorem wk_1438 : Cond.methodLink "DryDockLaw" 259 ⟨"DryDockLaw", "rests", "(LDryDock;I[J)I"⟩ ∈ GW := GW_t6 238 rfl rfl
set_option maxRecDepth 30000 in
theorem wk_1439 : Cond.static ⟨"DryDockLaw", "rests", "(LDryDock;I[J)I"⟩ ∈ GW := GW_t6 239 rfl rfl
set_option maxRecDepth 30000 in
theorem wk_1441 : Cond.methodLink "DryDockLaw" 89 ⟨"DryDock", "rests", "(I)I"⟩ ∈ GW := GW_t7 1 rfl rfl
set_option maxRecDepth 30000 in
theorem wk_1442 : Cond.instanceMethod ⟨"DryDock", "rests", "(I)I"⟩ ∈ GW := GW_t7 2 rfl rfl
set_option maxRecDepth 30000 in
theorem wk_1443 : Cond.selects "DryDock" ⟨"DryDock", "rests", "(I)I"⟩ ⟨"DryDock", "rests", "(I)I"⟩ ∈ GW := GW_t7 3 rfl rfl
set_option maxRecDepth 30000 in
theorem wk_1444 : Cond.code yX11_rests cX11_rests 2 (some .int) ∈ GW := GW_t7 4 rfl rfl
set_option maxRecDepth 30000 in
theorem wk_1445 : Cond.methodLink "DryDock" 341 ⟨"DryDock$Plans", "restingChoices", "(III)I"⟩ ∈ GW := GW_t7 5 rfl rfl
set_option maxRecDepth 30000 in
theorem wk_1446 : Cond.static ⟨"DryDock$Plans", "restingChoices", "(III)I"⟩ ∈ GW := GW_t7 6 rfl rfl
set_option maxRecDepth 30000 in
theorem wk_1447 : Cond.code yX6_restingChoices cX6_restingChoices 7 (some .int) ∈ GW := GW_t7 7 rfl rfl
set_option maxRecDepth 30000 in
theorem wk_1448 : Cond.methodLink "DryDock$Plans" 147 ⟨"DryDock$Plans", "mastersShare", "(IIII)I"⟩ ∈ GW := GW_t7 8 rfl rfl
set_option maxRecDepth 30000 in
theorem wk_1449 : Cond.static ⟨"DryDock$Plans", "mastersShare", "(IIII)I"⟩ ∈ GW := GW_t7 9 rfl rfl
set_option maxRecDepth 30000 in
theorem wk_1450 : Cond.code yX6_mastersShare cX6_mastersShare 4 (some .int) ∈ GW := GW_t7 10 rfl rfl
set_option maxRecDepth 30000 in
theorem wk_1451 : Cond.methodLink "DryDock$Plans" 151 ⟨"DryDock$Plans", "pilotsShare", "(I)I"⟩ ∈ GW := GW_t7 11 rfl rfl
set_option maxRecDepth 30000 in
theorem wk_1452 : Cond.static ⟨"DryDock$Plans", "pilotsShare", "(I)I"⟩ ∈ GW := GW_t7 12 rfl rfl
set_option maxRecDepth 30000 in
theorem wk_1453 : Cond.code yX6_pilotsShare cX6_pilotsShare 1 (some .int) ∈ GW := GW_t7 13 rfl rfl
set_option maxRecDepth 30000 in
theorem wk_1454 : Cond.methodLink "DryDockLaw" 262 ⟨"DryDockLaw", "odds", "(LDryDock;II[J)I"⟩ ∈ GW := GW_t7 14 rfl rfl
set_option maxRecDepth 30000 in
theorem wk_1455 : Cond.static ⟨"DryDockLaw", "odds", "(LDryDock;II[J)I"⟩ ∈ GW := GW_t7 15 rfl rfl
set_option maxRecDepth 30000 in
theorem wk_1457 : Cond.methodLink "DryDockLaw" 92 ⟨"DryDock", "odds", "(II)I"⟩ ∈ GW := GW_t7 17 rfl rfl
set_option maxRecDepth 30000 in
theorem wk_1458 : Cond.instanceMethod ⟨"DryDock", "odds", "(II)I"⟩ ∈ GW := GW_t7 18 rfl rfl
set_option maxRecDepth 30000 in
theorem wk_1459 : Cond.selects "DryDock" ⟨"DryDock", "odds", "(II)I"⟩ ⟨"DryDock", "odds", "(II)I"⟩ ∈ GW := GW_t7 19 rfl rfl
set_option maxRecDepth 30000 in
theorem wk_1460 : Cond.code yX11_odds cX11_odds 3 (some .int) ∈ GW := GW_t7 20 rfl rfl
set_option maxRecDepth 30000 in
theorem wk_1461 : Cond.methodLink "DryDock" 348 ⟨"DryDock$Plans", "oddsOf", "(III)I"⟩ ∈ GW := GW_t7 21 rfl rfl
set_option maxRecDepth 30000 in
theorem wk_1462 : Cond.static ⟨"DryDock$Plans", "oddsOf", "(III)I"⟩ ∈ GW := GW_t7 22 rfl rfl
set_option maxRecDepth 30000 in
theorem wk_1463 : Cond.code yX6_oddsOf cX6_oddsOf 6 (some .int) ∈ GW := GW_t7 23 rfl rfl
set_option maxRecDepth 30000 in
theorem wk_1464 : Cond.methodLink "DryDock$Plans" 154 ⟨"DryDock$Plans", "choices", "(II)I"⟩ ∈ GW := GW_t7 24 rfl rfl
set_option maxRecDepth 30000 in
theorem wk_1465 : Cond.static ⟨"DryDock$Plans", "choices", "(II)I"⟩ ∈ GW := GW_t7 25 rfl rfl
set_option maxRecDepth 30000 in
theorem wk_1466 : Cond.code yX6_choices cX6_choices 4 (some .int) ∈ GW := GW_t7 26 rfl rfl
set_option maxRecDepth 30000 in
theorem wk_1467 : Cond.methodLink "DryDock$Plans" 157 ⟨"DryDock$Plans", "power", "(II)I"⟩ ∈ GW := GW_t7 27 rfl rfl
set_option maxRecDepth 30000 in
theorem wk_1468 : Cond.static ⟨"DryDock$Plans", "power", "(II)I"⟩ ∈ GW := GW_t7 28 rfl rfl
set_option maxRecDepth 30000 in
theorem wk_1469 : Cond.code yX6_power cX6_power 4 (some .int) ∈ GW := GW_t7 29 rfl rfl
set_option maxRecDepth 30000 in
theorem wk_1470 : Cond.methodLink "DryDockLaw" 265 ⟨"DryDockLaw", "most", "(LDryDock;I[J)I"⟩ ∈ GW := GW_t7 30 rfl rfl
set_option maxRecDepth 30000 in
theorem wk_1471 : Cond.static ⟨"DryDockLaw", "most", "(LDryDock;I[J)I"⟩ ∈ GW := GW_t7 31 rfl rfl
set_option maxRecDepth 30000 in
theorem wk_1473 : Cond.methodLink "DryDockLaw" 95 ⟨"DryDock", "most", "(I)I"⟩ ∈ GW := GW_t7 33 rfl rfl
set_option maxRecDepth 30000 in
theorem wk_1474 : Cond.instanceMethod ⟨"DryDock", "most", "(I)I"⟩ ∈ GW := GW_t7 34 rfl rfl
set_option maxRecDepth 30000 in
theorem wk_1475 : Cond.selects "DryDock" ⟨"DryDock", "most", "(I)I"⟩ ⟨"DryDock", "most", "(I)I"⟩ ∈ GW := GW_t7 35 rfl rfl
set_option maxRecDepth 30000 in
theorem wk_1476 : Cond.code yX11_most cX11_most 2 (some .int) ∈ GW := GW_t7 36 rfl rfl
set_option maxRecDepth 30000 in
theorem wk_1477 : Cond.methodLink "DryDock" 351 ⟨"DryDock$State", "greatest", "([I)I"⟩ ∈ GW := GW_t7 37 rfl rfl
set_option maxRecDepth 30000 in
theorem wk_1478 : Cond.instanceMethod ⟨"DryDock$State", "greatest", "([I)I"⟩ ∈ GW := GW_t7 38 rfl rfl
set_option maxRecDepth 30000 in
theorem wk_1479 : Cond.selects "DryDock$State" ⟨"DryDock$State", "greatest", "([I)I"⟩ ⟨"DryDock$State", "greatest", "([I)I"⟩ ∈ GW := GW_t7 39 rfl rfl
set_option maxRecDepth 30000 in
theorem wk_1480 : Cond.code yX9_greatest cX9_greatest 4 (some .int) ∈ GW := GW_t7 40 rfl rfl
set_option maxRecDepth 30000 in
theorem wk_1482 : Cond.methodLink "DryDockLaw" 292 ⟨"DryDockLaw", "ahead", "(LDryDock;IZ[J)I"⟩ ∈ GW := GW_t7 42 rfl rfl
set_option maxRecDepth 30000 in
theorem wk_1483 : Cond.static ⟨"DryDockLaw", "ahead", "(LDryDock;IZ[J)I"⟩ ∈ GW := GW_t7 43 rfl rfl
set_option maxRecDepth 30000 in
theorem wk_1485 : Cond.methodLink "DryDockLaw" 98 ⟨"DryDock", "ahead", "(IZ)I"⟩ ∈ GW := GW_t7 45 rfl rfl
set_option maxRecDepth 30000 in
theorem wk_1486 : Cond.instanceMethod ⟨"DryDock", "ahead", "(IZ)I"⟩ ∈ GW := GW_t7 46 rfl rfl
set_option maxRecDepth 30000 in
theorem wk_1487 : Cond.selects "DryDock" ⟨"DryDock", "ahead", "(IZ)I"⟩ ⟨"DryDock", "ahead", "(IZ)I"⟩ ∈ GW := GW_t7 47 rfl rfl
set_option maxRecDepth 30000 in
theorem wk_1488 : Cond.code yX11_ahead cX11_ahead 3 (some .int) ∈ GW := GW_t7 48 rfl rfl
set_option maxRecDepth 30000 in
theorem wk_1489 : Cond.methodLink "DryDock" 363 ⟨"DryDock", "tryHours", "(IZZ)I"⟩ ∈ GW := GW_t7 49 rfl rfl
set_option maxRecDepth 30000 in
theorem wk_1491 : Cond.instanceMethod ⟨"DryDock", "tryHours", "(IZZ)I"⟩ ∈ GW := GW_t7 51 rfl rfl
set_option maxRecDepth 30000 in
theorem wk_1492 : Cond.code yX11_tryHours cX11_tryHours 4 (some .int) ∈ GW := GW_t7 52 rfl rfl
set_option maxRecDepth 30000 in
theorem wk_1493 : Cond.methodLink "DryDockLaw" 295 ⟨"DryDockLaw", "trial", "(LDryDock;IZ[J)I"⟩ ∈ GW := GW_t7 53 rfl rfl
set_option maxRecDepth 30000 in
theorem wk_1494 : Cond.static ⟨"DryDockLaw", "trial", "(LDryDock;IZ[J)I"⟩ ∈ GW := GW_t7 54 rfl rfl
set_option maxRecDepth 30000 in
theorem wk_1496 : Cond.methodLink "DryDockLaw" 102 ⟨"DryDock", "trial", "(IZ)I"⟩ ∈ GW := GW_t7 56 rfl rfl
set_option maxRecDepth 30000 in
theorem wk_1497 : Cond.instanceMethod ⟨"DryDock", "trial", "(IZ)I"⟩ ∈ GW := GW_t7 57 rfl rfl
set_option maxRecDepth 30000 in
theorem wk_1498 : Cond.selects "DryDock" ⟨"DryDock", "trial", "(IZ)I"⟩ ⟨"DryDock", "trial", "(IZ)I"⟩ ∈ GW := GW_t7 58 rfl rfl
set_option maxRecDepth 30000 in
theorem wk_1499 : Cond.code yX11_trial cX11_trial 3 (some .int) ∈ GW := GW_t7 59 rfl rfl
set_option maxRecDepth 30000 in
theorem wk_1500 : Cond.methodLink "DryDockLaw" 298 ⟨"DryDockLaw", "span", "(LDryDock;IZ[J)I"⟩ ∈ GW := GW_t7 60 rfl rfl
set_option maxRecDepth 30000 in
theorem wk_1501 : Cond.static ⟨"DryDockLaw", "span", "(LDryDock;IZ[J)I"⟩ ∈ GW := GW_t7 61 rfl rfl
set_option maxRecDepth 30000 in
theorem wk_1503 : Cond.methodLink "DryDockLaw" 105 ⟨"DryDock", "span", "(IZ)I"⟩ ∈ GW := GW_t7 63 rfl rfl
set_option maxRecDepth 30000 in
theorem wk_1504 : Cond.instanceMethod ⟨"DryDock", "span", "(IZ)I"⟩ ∈ GW := GW_t7 64 rfl rfl
set_option maxRecDepth 30000 in
theorem wk_1505 : Cond.selects "DryDock" ⟨"DryDock", "span", "(IZ)I"⟩ ⟨"DryDock", "span", "(IZ)I"⟩ ∈ GW := GW_t7 65 rfl rfl
set_option maxRecDepth 30000 in
theorem wk_1506 : Cond.code yX11_span cX11_span 5 (some .int) ∈ GW := GW_t7 66 rfl rfl
set_option maxRecDepth 30000 in
theorem wk_1507 : Cond.methodLink "DryDock" 370 ⟨"java/lang/Math", "min", "(II)I"⟩ ∈ GW := GW_t7 67 rfl rfl
set_option maxRecDepth 30000 in
theorem wk_1508 : Cond.methodLink "DryDockLaw" 301 ⟨"DryDockLaw", "led", "(LDryDock;IZ[J)I"⟩ ∈ GW := GW_t7 68 rfl rfl
set_option maxRecDepth 30000 in
theorem wk_1509 : Cond.static ⟨"DryDockLaw", "led", "(LDryDock;IZ[J)I"⟩ ∈ GW := GW_t7 69 rfl rfl
set_option maxRecDepth 30000 in
theorem wk_1511 : Cond.methodLink "DryDockLaw" 108 ⟨"DryDock", "led", "(IZ)I"⟩ ∈ GW := GW_t7 71 rfl rfl
set_option maxRecDepth 30000 in
theorem wk_1512 : Cond.instanceMethod ⟨"DryDock", "led", "(IZ)I"⟩ ∈ GW := GW_t7 72 rfl rfl
set_option maxRecDepth 30000 in
theorem wk_1513 : Cond.selects "DryDock" ⟨"DryDock", "led", "(IZ)I"⟩ ⟨"DryDock", "led", "(IZ)I"⟩ ∈ GW := GW_t7 73 rfl rfl
set_option maxRecDepth 30000 in
theorem wk_1514 : Cond.code yX11_led cX11_led 3 (some .int) ∈ GW := GW_t7 74 rfl rfl
set_option maxRecDepth 30000 in
theorem wk_1515 : Cond.methodLink "DryDock" 377 ⟨"DryDock$Log", "latestHourOf", "(I)I"⟩ ∈ GW := GW_t7 75 rfl rfl
set_option maxRecDepth 30000 in
theorem wk_1516 : Cond.instanceMethod ⟨"DryDock$Log", "latestHourOf", "(I)I"⟩ ∈ GW := GW_t7 76 rfl rfl
set_option maxRecDepth 30000 in
theorem wk_1517 : Cond.selects "DryDock$Log" ⟨"DryDock$Log", "latestHourOf", "(I)I"⟩ ⟨"DryDock$Log", "latestHourOf", "(I)I"⟩ ∈ GW := GW_t7 77 rfl rfl
set_option maxRecDepth 30000 in
theorem wk_1518 : Cond.code yX4_latestHourOf cX4_latestHourOf 3 (some .int) ∈ GW := GW_t7 78 rfl rfl
set_option maxRecDepth 30000 in
theorem wk_1519 : Cond.methodLink "DryDock$Log" 34 ⟨"DryDock$Log", "cell", "(II)I"⟩ ∈ GW := GW_t7 79 rfl rfl
set_option maxRecDepth 30000 in
theorem wk_1520 : Cond.instanceMethod ⟨"DryDock$Log", "cell", "(II)I"⟩ ∈ GW := GW_t7 80 rfl rfl
set_option maxRecDepth 30000 in
theorem wk_1521 : Cond.selects "DryDock$Log" ⟨"DryDock$Log", "cell", "(II)I"⟩ ⟨"DryDock$Log", "cell", "(II)I"⟩ ∈ GW := GW_t7 81 rfl rfl
set_option maxRecDepth 30000 in
theorem wk_1522 : Cond.code yX4_cell cX4_cell 3 (some .int) ∈ GW := GW_t7 82 rfl rfl
set_option maxRecDepth 30000 in
theorem wk_1523 : Cond.methodLink "DryDock" 382 ⟨"DryDock$Log", "rowsOf", "(I)I"⟩ ∈ GW := GW_t7 83 rfl rfl
set_option maxRecDepth 30000 in
theorem wk_1524 : Cond.instanceMethod ⟨"DryDock$Log", "rowsOf", "(I)I"⟩ ∈ GW := GW_t7 84 rfl rfl
set_option maxRecDepth 30000 in
theorem wk_1525 : Cond.selects "DryDock$Log" ⟨"DryDock$Log", "rowsOf", "(I)I"⟩ ⟨"DryDock$Log", "rowsOf", "(I)I"⟩ ∈ GW := GW_t7 85 rfl rfl
set_option maxRecDepth 30000 in
theorem wk_1526 : Cond.code yX4_rowsOf cX4_rowsOf 4 (some .int) ∈ GW := GW_t7 86 rfl rfl
set_option maxRecDepth 30000 in
theorem wk_1527 : Cond.methodLink "DryDockLaw" 304 ⟨"DryDockLaw", "log", "(LDryDock;II[J)I"⟩ ∈ GW := GW_t7 87 rfl rfl
set_option maxRecDepth 30000 in
theorem wk_1528 : Cond.static ⟨"DryDockLaw", "log", "(LDryDock;II[J)I"⟩ ∈ GW := GW_t7 88 rfl rfl
set_option maxRecDepth 30000 in
theorem wk_1530 : Cond.methodLink "DryDockLaw" 111 ⟨"DryDock", "log", "(II)I"⟩ ∈ GW := GW_t7 90 rfl rfl
set_option maxRecDepth 30000 in
theorem wk_1531 : Cond.instanceMethod ⟨"DryDock", "log", "(II)I"⟩ ∈ GW := GW_t7 91 rfl rfl
set_option maxRecDepth 30000 in
theorem wk_1532 : Cond.selects "DryDock" ⟨"DryDock", "log", "(II)I"⟩ ⟨"DryDock", "log", "(II)I"⟩ ∈ GW := GW_t7 92 rfl rfl
set_option maxRecDepth 30000 in
theorem wk_1533 : Cond.code yX11_log cX11_log 3 (some .int) ∈ GW := GW_t7 93 rfl rfl
set_option maxRecDepth 30000 in
theorem wk_1535 : Cond.methodLink "DryDock" 387 ⟨"DryDock$Log", "cell", "(II)I"⟩ ∈ GW := GW_t7 95 rfl rfl
set_option maxRecDepth 30000 in
theorem wk_1536 : Cond.methodLink "DryDockLaw" 134 ⟨"DryDockModel", "thrown", "()I"⟩ ∈ GW := GW_t7 96 rfl rfl
set_option maxRecDepth 30000 in
theorem wk_1537 : Cond.instanceMethod ⟨"DryDockModel", "thrown", "()I"⟩ ∈ GW := GW_t7 97 rfl rfl
set_option maxRecDepth 30000 in
theorem wk_1538 : Cond.selects "DryDockModel" ⟨"DryDockModel", "thrown", "()I"⟩ ⟨"DryDockModel", "thrown", "()I"⟩ ∈ GW := GW_t7 98 rfl rfl
set_option maxRecDepth 30000 in
theorem wk_1539 : Cond.code yX12_thrown cX12_thrown 1 (some .int) ∈ GW := GW_t7 99 rfl rfl
set_option maxRecDepth 30000 in
theorem wk_1540 : Cond.classLink "DryDockLaw" 115 "DryDockModel" ∈ GW := GW_t7 100 rfl rfl
set_option maxRecDepth 30000 in
theorem wk_1541 : Cond.instantiable "DryDockModel" 28 ∈ GW := GW_t7 101 rfl rfl
set_option maxRecDepth 30000 in
theorem wk_1542 : Cond.methodLink "DryDockLaw" 117 ⟨"DryDockModel", "<init>", "()V"⟩ ∈ GW := GW_t7 102 rfl rfl
set_option maxRecDepth 30000 in
theorem wk_1543 : Cond.instanceMethod ⟨"DryDockModel", "<init>", "()V"⟩ ∈ GW := GW_t7 103 rfl rfl
set_option maxRecDepth 30000 in
theorem wk_1544 : Cond.code yX12_init cX12_init 2 none ∈ GW := GW_t7 104 rfl rfl
set_option maxRecDepth 30000 in
theorem wk_1545 : Cond.methodLink "DryDockModel" 7 ⟨"java/lang/Object", "<init>", "()V"⟩ ∈ GW := GW_t7 105 rfl rfl
set_option maxRecDepth 30000 in
theorem wk_1546 : Cond.fieldLink "DryDockModel" 3 "DryDockModel" "thrown" "I" ∈ GW := GW_t7 106 rfl rfl
set_option maxRecDepth 30000 in
theorem wk_1547 : Cond.fieldLink "DryDockModel" 13 "DryDockModel" "world" "[I" ∈ GW := GW_t7 107 rfl rfl
set_option maxRecDepth 30000 in
theorem wk_1548 : Cond.fieldLink "DryDockModel" 17 "DryDockModel" "image" "[I" ∈ GW := GW_t7 108 rfl rfl
set_option maxRecDepth 30000 in
theorem wk_1549 : Cond.fieldLink "DryDockModel" 20 "DryDockModel" "earlier" "[I" ∈ GW := GW_t7 109 rfl rfl
set_option maxRecDepth 30000 in
theorem wk_1550 : Cond.fieldLink "DryDockModel" 23 "DryDockModel" "trial" "[I" ∈ GW := GW_t7 110 rfl rfl
set_option maxRecDepth 30000 in
theorem wk_1551 : Cond.fieldLink "DryDockModel" 26 "DryDockModel" "acts" "[I" ∈ GW := GW_t7 111 rfl rfl
set_option maxRecDepth 30000 in
theorem wk_1552 : Cond.fieldLink "DryDockModel" 74 "DryDockModel" "hasImage" "Z" ∈ GW := GW_t7 112 rfl rfl
set_option maxRecDepth 30000 in
theorem wk_1553 : Cond.fieldLink "DryDockModel" 78 "DryDockModel" "remembered" "I" ∈ GW := GW_t7 113 rfl rfl
set_option maxRecDepth 30000 in
theorem wk_1554 : Cond.fieldLink "DryDockModel" 29 "DryDockModel" "tape" "[B" ∈ GW := GW_t7 114 rfl rfl
set_option maxRecDepth 30000 in
theorem wk_1555 : Cond.fieldLink "DryDockModel" 108 "DryDockModel" "taped" "I" ∈ GW := GW_t7 115 rfl rfl
set_option maxRecDepth 30000 in
theorem wk_1556 : Cond.fieldLink "DryDockModel" 111 "DryDockModel" "point" "I" ∈ GW := GW_t7 116 rfl rfl
set_option maxRecDepth 30000 in
theorem wk_1557 : Cond.fieldLink "DryDockModel" 114 "DryDockModel" "end" "I" ∈ GW := GW_t7 117 rfl rfl
set_option maxRecDepth 30000 in
theorem wk_1558 : Cond.fieldLink "DryDockModel" 121 "DryDockModel" "begin" "I" ∈ GW := GW_t7 118 rfl rfl
set_option maxRecDepth 30000 in
theorem wk_1559 : Cond.fieldLink "DryDockModel" 233 "DryDockModel" "deep" "I" ∈ GW := GW_t7 119 rfl rfl
set_option maxRecDepth 30000 in
theorem wk_1560 : Cond.fieldLink "DryDockModel" 33 "DryDockModel" "faultAt" "I" ∈ GW := GW_t7 120 rfl rfl
set_option maxRecDepth 30000 in
theorem wk_1561 : Cond.fieldLink "DryDockModel" 36 "DryDockModel" "five" "[I" ∈ GW := GW_t7 121 rfl rfl
set_option maxRecDepth 30000 in
theorem wk_1562 : Cond.fieldLink "DryDockModel" 211 "DryDockModel" "codes" "I" ∈ GW := GW_t7 122 rfl rfl
set_option maxRecDepth 30000 in
theorem wk_1563 : Cond.fieldLink "DryDockModel" 39 "DryDockModel" "value" "[I" ∈ GW := GW_t7 123 rfl rfl
set_option maxRecDepth 30000 in
theorem wk_1564 : Cond.fieldLink "DryDockModel" 42 "DryDockModel" "members" "[I" ∈ GW := GW_t7 124 rfl rfl
set_option maxRecDepth 30000 in
theorem wk_1565 : Cond.fieldLink "DryDockModel" 45 "DryDockModel" "runs" "[I" ∈ GW := GW_t7 125 rfl rfl
set_option maxRecDepth 30000 in
theorem wk_1566 : Cond.fieldLink "DryDockModel" 48 "DryDockModel" "runOf" "[I" ∈ GW := GW_t7 126 rfl rfl
set_option maxRecDepth 30000 in
theorem wk_1567 : Cond.fieldLink "DryDockModel" 51 "DryDockModel" "yet" "[I" ∈ GW := GW_t7 127 rfl rfl
set_option maxRecDepth 30000 in
theorem wk_1568 : Cond.fieldLink "DryDockModel" 54 "DryDockModel" "fitting" "[Z" ∈ GW := GW_t7 128 rfl rfl
set_option maxRecDepth 30000 in
theorem wk_1569 : Cond.fieldLink "DryDockModel" 58 "DryDockModel" "parts" "[I" ∈ GW := GW_t7 129 rfl rfl
set_option maxRecDepth 30000 in
theorem wk_1570 : Cond.fieldLink "DryDockModel" 61 "DryDockModel" "worth" "[I" ∈ GW := GW_t7 130 rfl rfl
set_option maxRecDepth 30000 in
theorem wk_1571 : Cond.fieldLink "DryDockModel" 64 "DryDockModel" "bedded" "[I" ∈ GW := GW_t7 131 rfl rfl
set_option maxRecDepth 30000 in
theorem wk_1572 : Cond.fieldLink "DryDockModel" 67 "DryDockModel" "paired" "[I" ∈ GW := GW_t7 132 rfl rfl
set_option maxRecDepth 30000 in
theorem wk_1573 : Cond.fieldLink "DryDockModel" 70 "DryDockModel" "ways" "[J" ∈ GW := GW_t7 133 rfl rfl
set_option maxRecDepth 30000 in
theorem wk_1574 : Cond.lays "DryDockModel" "DryDockModel" "thrown" "I" ∈ GW := GW_t7 134 rfl rfl
set_option maxRecDepth 30000 in
theorem wk_1576 : Cond.laysFinal "DryDockModel" "DryDockModel" "world" "[I" ∈ GW := GW_t7 136 rfl rfl
set_option maxRecDepth 30000 in
theorem wk_1578 : Cond.laysFinal "DryDockModel" "DryDockModel" "image" "[I" ∈ GW := GW_t7 138 rfl rfl
set_option maxRecDepth 30000 in
theorem wk_1580 : Cond.laysFinal "DryDockModel" "DryDockModel" "earlier" "[I" ∈ GW := GW_t7 140 rfl rfl
set_option maxRecDepth 30000 in
theorem wk_1582 : Cond.laysFinal "DryDockModel" "DryDockModel" "trial" "[I" ∈ GW := GW_t7 142 rfl rfl
set_option maxRecDepth 30000 in
theorem wk_1584 : Cond.laysFinal "DryDockModel" "DryDockModel" "acts" "[I" ∈ GW := GW_t7 144 rfl rfl
set_option maxRecDepth 30000 in
theorem wk_1586 : Cond.lays "DryDockModel" "DryDockModel" "hasImage" "Z" ∈ GW := GW_t7 146 rfl rfl
set_option maxRecDepth 30000 in
theorem wk_1588 : Cond.lays "DryDockModel" "DryDockModel" "remembered" "I" ∈ GW := GW_t7 148 rfl rfl
set_option maxRecDepth 30000 in
theorem wk_1590 : Cond.laysFinal "DryDockModel" "DryDockModel" "tape" "[B" ∈ GW := GW_t7 150 rfl rfl
set_option maxRecDepth 30000 in
theorem wk_1592 : Cond.lays "DryDockModel" "DryDockModel" "taped" "I" ∈ GW := GW_t7 152 rfl rfl
set_option maxRecDepth 30000 in
theorem wk_1594 : Cond.lays "DryDockModel" "DryDockModel" "point" "I" ∈ GW := GW_t7 154 rfl rfl
set_option maxRecDepth 30000 in
theorem wk_1596 : Cond.lays "DryDockModel" "DryDockModel" "end" "I" ∈ GW := GW_t7 156 rfl rfl
set_option maxRecDepth 30000 in
theorem wk_1598 : Cond.lays "DryDockModel" "DryDockModel" "begin" "I" ∈ GW := GW_t7 158 rfl rfl
set_option maxRecDepth 30000 in
theorem wk_1600 : Cond.lays "DryDockModel" "DryDockModel" "deep" "I" ∈ GW := GW_t7 160 rfl rfl
set_option maxRecDepth 30000 in
theorem wk_1602 : Cond.lays "DryDockModel" "DryDockModel" "faultAt" "I" ∈ GW := GW_t7 162 rfl rfl
set_option maxRecDepth 30000 in
theorem wk_1604 : Cond.laysFinal "DryDockModel" "DryDockModel" "five" "[I" ∈ GW := GW_t7 164 rfl rfl
set_option maxRecDepth 30000 in
theorem wk_1606 : Cond.lays "DryDockModel" "DryDockModel" "codes" "I" ∈ GW := GW_t7 166 rfl rfl
set_option maxRecDepth 30000 in
theorem wk_1608 : Cond.laysFinal "DryDockModel" "DryDockModel" "value" "[I" ∈ GW := GW_t7 168 rfl rfl
set_option maxRecDepth 30000 in
theorem wk_1610 : Cond.laysFinal "DryDockModel" "DryDockModel" "members" "[I" ∈ GW := GW_t7 170 rfl rfl
set_option maxRecDepth 30000 in
theorem wk_1612 : Cond.laysFinal "DryDockModel" "DryDockModel" "runs" "[I" ∈ GW := GW_t7 172 rfl rfl
set_option maxRecDepth 30000 in
theorem wk_1614 : Cond.laysFinal "DryDockModel" "DryDockModel" "runOf" "[I" ∈ GW := GW_t7 174 rfl rfl
set_option maxRecDepth 30000 in
theorem wk_1616 : Cond.laysFinal "DryDockModel" "DryDockModel" "yet" "[I" ∈ GW := GW_t7 176 rfl rfl
set_option maxRecDepth 30000 in
theorem wk_1618 : Cond.laysFinal "DryDockModel" "DryDockModel" "fitting" "[Z" ∈ GW := GW_t7 178 rfl rfl
set_option maxRecDepth 30000 in
theorem wk_1620 : Cond.laysFinal "DryDockModel" "DryDockModel" "parts" "[I" ∈ GW := GW_t7 180 rfl rfl
set_option maxRecDepth 30000 in
theorem wk_1622 : Cond.laysFinal "DryDockModel" "DryDockModel" "worth" "[I" ∈ GW := GW_t7 182 rfl rfl
set_option maxRecDepth 30000 in
theorem wk_1624 : Cond.laysFinal "DryDockModel" "DryDockModel" "bedded" "[I" ∈ GW := GW_t7 184 rfl rfl
set_option maxRecDepth 30000 in
theorem wk_1626 : Cond.laysFinal "DryDockModel" "DryDockModel" "paired" "[I" ∈ GW := GW_t7 186 rfl rfl
set_option maxRecDepth 30000 in
theorem wk_1628 : Cond.laysFinal "DryDockModel" "DryDockModel" "ways" "[J" ∈ GW := GW_t7 188 rfl rfl
set_option maxRecDepth 30000 in
theorem wk_1631 : Cond.arrayClass FieldType.long ∈ GW := GW_t7 191 rfl rfl
set_option maxRecDepth 30000 in
theorem wk_1632 : Cond.methodLink "DryDockLaw" 318 ⟨"DryDockModel", "image", "()V"⟩ ∈ GW := GW_t7 192 rfl rfl
set_option maxRecDepth 30000 in
theorem wk_1633 : Cond.instanceMethod ⟨"DryDockModel", "image", "()V"⟩ ∈ GW := GW_t7 193 rfl rfl
set_option maxRecDepth 30000 in
theorem wk_1634 : Cond.selects "DryDockModel" ⟨"DryDockModel", "image", "()V"⟩ ⟨"DryDockModel", "image", "()V"⟩ ∈ GW := GW_t7 194 rfl rfl
set_option maxRecDepth 30000 in
theorem wk_1635 : Cond.code yX12_image cX12_image 2 none ∈ GW := GW_t7 195 rfl rfl
set_option maxRecDepth 30000 in
theorem wk_1636 : Cond.methodLink "DryDockLaw" 322 ⟨"DryDockModel", "back", "()Z"⟩ ∈ GW := GW_t7 196 rfl rfl
set_option maxRecDepth 30000 in
theorem wk_1637 : Cond.instanceMethod ⟨"DryDockModel", "back", "()Z"⟩ ∈ GW := GW_t7 197 rfl rfl
set_option maxRecDepth 30000 in
theorem wk_1638 : Cond.selects "DryDockModel" ⟨"DryDockModel", "back", "()Z"⟩ ⟨"DryDockModel", "back", "()Z"⟩ ∈ GW := GW_t7 198 rfl rfl
set_option maxRecDepth 30000 in
theorem wk_1639 : Cond.code yX12_back cX12_back 2 (some .boolean) ∈ GW := GW_t7 199 rfl rfl
set_option maxRecDepth 30000 in
theorem wk_1640 : Cond.methodLink "DryDockLaw" 314 ⟨"DryDockModel", "undo", "()Z"⟩ ∈ GW := GW_t7 200 rfl rfl
set_option maxRecDepth 30000 in
theorem wk_1641 : Cond.instanceMethod ⟨"DryDockModel", "undo", "()Z"⟩ ∈ GW := GW_t7 201 rfl rfl
set_option maxRecDepth 30000 in
theorem wk_1642 : Cond.selects "DryDockModel" ⟨"DryDockModel", "undo", "()Z"⟩ ⟨"DryDockModel", "undo", "()Z"⟩ ∈ GW := GW_t7 202 rfl rfl
set_option maxRecDepth 30000 in
theorem wk_1643 : Cond.code yX12_undo cX12_undo 2 (some .boolean) ∈ GW := GW_t7 203 rfl rfl
set_option maxRecDepth 30000 in
theorem wk_1644 : Cond.methodLink "DryDockLaw" 122 ⟨"DryDockModel", "feed", "(IIIII)I"⟩ ∈ GW := GW_t7 204 rfl rfl
set_option maxRecDepth 30000 in
theorem wk_1645 : Cond.instanceMethod ⟨"DryDockModel", "feed", "(IIIII)I"⟩ ∈ GW := GW_t7 205 rfl rfl
set_option maxRecDepth 30000 in
theorem wk_1646 : Cond.selects "DryDockModel" ⟨"DryDockModel", "feed", "(IIIII)I"⟩ ⟨"DryDockModel", "feed", "(IIIII)I"⟩ ∈ GW := GW_t7 206 rfl rfl
set_option maxRecDepth 30000 in
theorem wk_1647 : Cond.code yX12_feed cX12_feed 7 (some .int) ∈ GW := GW_t7 207 rfl rfl
set_option maxRecDepth 30000 in
theorem wk_1648 : Cond.methodLink "DryDockLaw" 127 ⟨"DryDockModel", "end", "(I)Z"⟩ ∈ GW := GW_t7 208 rfl rfl
set_option maxRecDepth 30000 in
theorem wk_1649 : Cond.instanceMethod ⟨"DryDockModel", "end", "(I)Z"⟩ ∈ GW := GW_t7 209 rfl rfl
set_option maxRecDepth 30000 in
theorem wk_1650 : Cond.selects "DryDockModel" ⟨"DryDockModel", "end", "(I)Z"⟩ ⟨"DryDockModel", "end", "(I)Z"⟩ ∈ GW := GW_t7 210 rfl rfl
set_option maxRecDepth 30000 in
theorem wk_1651 : Cond.code yX12_end cX12_end 2 (some .boolean) ∈ GW := GW_t7 211 rfl rfl
set_option maxRecDepth 30000 in
theorem wk_1652 : Cond.methodLink "DryDockLaw" 143 ⟨"DryDockModel", "fault", "()I"⟩ ∈ GW := GW_t7 212 rfl rfl
set_option maxRecDepth 30000 in
theorem wk_1653 : Cond.instanceMethod ⟨"DryDockModel", "fault", "()I"⟩ ∈ GW := GW_t7 213 rfl rfl
set_option maxRecDepth 30000 in
theorem wk_1654 : Cond.selects "DryDockModel" ⟨"DryDockModel", "fault", "()I"⟩ ⟨"DryDockModel", "fault", "()I"⟩ ∈ GW := GW_t7 214 rfl rfl
set_option maxRecDepth 30000 in
theorem wk_1655 : Cond.code yX12_fault cX12_fault 1 (some .int) ∈ GW := GW_t7 215 rfl rfl
set_option maxRecDepth 30000 in
theorem wk_1656 : Cond.methodLink "DryDockLaw" 133 ⟨"DryDockModel", "dock", "()I"⟩ ∈ GW := GW_t7 216 rfl rfl
set_option maxRecDepth 30000 in
theorem wk_1657 : Cond.instanceMethod ⟨"DryDockModel", "dock", "()I"⟩ ∈ GW := GW_t7 217 rfl rfl
set_option maxRecDepth 30000 in
theorem wk_1658 : Cond.selects "DryDockModel" ⟨"DryDockModel", "dock", "()I"⟩ ⟨"DryDockModel", "dock", "()I"⟩ ∈ GW := GW_t7 218 rfl rfl
set_option maxRecDepth 30000 in
theorem wk_1659 : Cond.code yX12_dock cX12_dock 3 (some .int) ∈ GW := GW_t7 219 rfl rfl
set_option maxRecDepth 30000 in
theorem wk_1660 : Cond.methodLink "DryDockModel" 278 ⟨"DryDockModel", "readAll", "(Z)I"⟩ ∈ GW := GW_t7 220 rfl rfl
set_option maxRecDepth 30000 in
theorem wk_1662 : Cond.instanceMethod ⟨"DryDockModel", "readAll", "(Z)I"⟩ ∈ GW := GW_t7 222 rfl rfl
set_option maxRecDepth 30000 in
theorem wk_1663 : Cond.code yX12_readAll cX12_readAll 3 (some .int) ∈ GW := GW_t7 223 rfl rfl
set_option maxRecDepth 30000 in
theorem wk_1664 : Cond.methodLink "DryDockModel" 271 ⟨"DryDockModel", "uses", "()V"⟩ ∈ GW := GW_t7 224 rfl rfl
set_option maxRecDepth 30000 in
theorem wk_1666 : Cond.instanceMethod ⟨"DryDockModel", "uses", "()V"⟩ ∈ GW := GW_t7 226 rfl rfl
set_option maxRecDepth 30000 in
theorem wk_1667 : Cond.code yX12_uses cX12_uses 1 none ∈ GW := GW_t7 227 rfl rfl
set_option maxRecDepth 30000 in
theorem wk_1668 : Cond.methodLink "DryDockModel" 124 ⟨"DryDockModel", "blanks", "()V"⟩ ∈ GW := GW_t7 228 rfl rfl
set_option maxRecDepth 30000 in
theorem wk_1670 : Cond.instanceMethod ⟨"DryDockModel", "blanks", "()V"⟩ ∈ GW := GW_t7 230 rfl rfl
set_option maxRecDepth 30000 in
theorem wk_1671 : Cond.code yX12_blanks cX12_blanks 1 none ∈ GW := GW_t7 231 rfl rfl
set_option maxRecDepth 30000 in
theorem wk_1672 : Cond.methodLink "DryDockModel" 117 ⟨"DryDockModel", "isAt", "(II)Z"⟩ ∈ GW := GW_t7 232 rfl rfl
set_option maxRecDepth 30000 in
theorem wk_1674 : Cond.instanceMethod ⟨"DryDockModel", "isAt", "(II)Z"⟩ ∈ GW := GW_t7 234 rfl rfl
set_option maxRecDepth 30000 in
theorem wk_1675 : Cond.code yX12_isAt cX12_isAt 3 (some .boolean) ∈ GW := GW_t7 235 rfl rfl
set_option maxRecDepth 30000 in
theorem wk_1676 : Cond.methodLink "DryDockModel" 274 ⟨"DryDockModel", "readLine", "(ZI)Z"⟩ ∈ GW := GW_t7 236 rfl rfl
set_option maxRecDepth 30000 in
theorem wk_1678 : Cond.instanceMethod ⟨"DryDockModel", "readLine", "(ZI)Z"⟩ ∈ GW := GW_t7 238 rfl rfl
set_option maxRecDepth 30000 in
theorem wk_1679 : Cond.code yX12_readLine cX12_readLine 3 (some .boolean) ∈ GW := GW_t7 239 rfl rfl
set_option maxRecDepth 30000 in
theorem wk_1680 : Cond.methodLink "DryDockModel" 136 ⟨"DryDockModel", "letters", "()V"⟩ ∈ GW := GW_t8 0 rfl rfl
set_option maxRecDepth 30000 in
theorem wk_1682 : Cond.instanceMethod ⟨"DryDockModel", "letters", "()V"⟩ ∈ GW := GW_t8 2 rfl rfl
set_option maxRecDepth 30000 in
theorem wk_1683 : Cond.code yX12_letters cX12_letters 1 none ∈ GW := GW_t8 3 rfl rfl
set_option maxRecDepth 30000 in
theorem wk_1684 : Cond.methodLink "DryDockModel" 265 ⟨"DryDockModel", "readDockLine", "()Z"⟩ ∈ GW := GW_t8 4 rfl rfl
set_option maxRecDepth 30000 in
theorem wk_1686 : Cond.instanceMethod ⟨"DryDockModel", "readDockLine", "()Z"⟩ ∈ GW := GW_t8 6 rfl rfl
set_option maxRecDepth 30000 in
theorem wk_1687 : Cond.code yX12_readDockLine cX12_readDockLine 1 (some .boolean) ∈ GW := GW_t8 7 rfl rfl
set_option maxRecDepth 30000 in
theorem wk_1689 : Cond.methodLink "DryDockModel" 139 ⟨"DryDockModel", "isWord", "(Ljava/lang/String;)Z"⟩ ∈ GW := GW_t8 9 rfl rfl
set_option maxRecDepth 30000 in
theorem wk_1691 : Cond.instanceMethod ⟨"DryDockModel", "isWord", "(Ljava/lang/String;)Z"⟩ ∈ GW := GW_t8 11 rfl rfl
set_option maxRecDepth 30000 in
theorem wk_1692 : Cond.code yX12_isWord cX12_isWord 4 (some .boolean) ∈ GW := GW_t8 12 rfl rfl
set_option maxRecDepth 30000 in
theorem wk_1693 : Cond.methodLink "DryDockModel" 127 ⟨"java/lang/String", "length", "()I"⟩ ∈ GW := GW_t8 13 rfl rfl
set_option maxRecDepth 30000 in
theorem wk_1694 : Cond.methodLink "DryDockModel" 132 ⟨"java/lang/String", "charAt", "(I)C"⟩ ∈ GW := GW_t8 14 rfl rfl
set_option maxRecDepth 30000 in
theorem wk_1695 : Cond.methodLink "DryDockModel" 180 ⟨"DryDockModel", "readShip", "()Z"⟩ ∈ GW := GW_t8 15 rfl rfl
set_option maxRecDepth 30000 in
theorem wk_1697 : Cond.instanceMethod ⟨"DryDockModel", "readShip", "()Z"⟩ ∈ GW := GW_t8 17 rfl rfl
set_option maxRecDepth 30000 in
theorem wk_1698 : Cond.code yX12_readShip cX12_readShip 6 (some .boolean) ∈ GW := GW_t8 18 rfl rfl
set_option maxRecDepth 30000 in
theorem wk_1699 : Cond.methodLink "DryDockModel" 95 ⟨"DryDockModel", "ships", "()I"⟩ ∈ GW := GW_t8 19 rfl rfl
set_option maxRecDepth 30000 in
theorem wk_1701 : Cond.instanceMethod ⟨"DryDockModel", "ships", "()I"⟩ ∈ GW := GW_t8 21 rfl rfl
set_option maxRecDepth 30000 in
theorem wk_1702 : Cond.code yX12_ships cX12_ships 1 (some .int) ∈ GW := GW_t8 22 rfl rfl
set_option maxRecDepth 30000 in
theorem wk_1704 : Cond.methodLink "DryDockModel" 151 ⟨"DryDockModel", "behind", "(Ljava/lang/String;II)I"⟩ ∈ GW := GW_t8 24 rfl rfl
set_option maxRecDepth 30000 in
theorem wk_1706 : Cond.instanceMethod ⟨"DryDockModel", "behind", "(Ljava/lang/String;II)I"⟩ ∈ GW := GW_t8 26 rfl rfl
set_option maxRecDepth 30000 in
theorem wk_1707 : Cond.code yX12_behind cX12_behind 4 (some .int) ∈ GW := GW_t8 27 rfl rfl
set_option maxRecDepth 30000 in
theorem wk_1708 : Cond.methodLink "DryDockModel" 143 ⟨"DryDockModel", "number", "(II)I"⟩ ∈ GW := GW_t8 28 rfl rfl
set_option maxRecDepth 30000 in
theorem wk_1710 : Cond.instanceMethod ⟨"DryDockModel", "number", "(II)I"⟩ ∈ GW := GW_t8 30 rfl rfl
set_option maxRecDepth 30000 in
theorem wk_1711 : Cond.code yX12_number cX12_number 4 (some .int) ∈ GW := GW_t8 31 rfl rfl
set_option maxRecDepth 30000 in
theorem wk_1714 : Cond.methodLink "DryDockModel" 159 ⟨"DryDockModel", "told", "(Ljava/lang/String;II)I"⟩ ∈ GW := GW_t8 34 rfl rfl
set_option maxRecDepth 30000 in
theorem wk_1716 : Cond.instanceMethod ⟨"DryDockModel", "told", "(Ljava/lang/String;II)I"⟩ ∈ GW := GW_t8 36 rfl rfl
set_option maxRecDepth 30000 in
theorem wk_1717 : Cond.code yX12_told cX12_told 5 (some .int) ∈ GW := GW_t8 37 rfl rfl
set_option maxRecDepth 30000 in
theorem wk_1718 : Cond.methodLink "DryDockModel" 146 ⟨"DryDockModel", "passes", "(Ljava/lang/String;)Z"⟩ ∈ GW := GW_t8 38 rfl rfl
set_option maxRecDepth 30000 in
theorem wk_1720 : Cond.instanceMethod ⟨"DryDockModel", "passes", "(Ljava/lang/String;)Z"⟩ ∈ GW := GW_t8 40 rfl rfl
set_option maxRecDepth 30000 in
theorem wk_1721 : Cond.code yX12_passes cX12_passes 2 (some .boolean) ∈ GW := GW_t8 41 rfl rfl
set_option maxRecDepth 30000 in
theorem wk_1722 : Cond.constant "DryDockModel" 149 (100000000 : Int32) ∈ GW := GW_t8 42 rfl rfl
set_option maxRecDepth 30000 in
theorem wk_1723 : Cond.methodLink "DryDockModel" 162 ⟨"DryDockModel", "isShip", "(III)V"⟩ ∈ GW := GW_t8 43 rfl rfl
set_option maxRecDepth 30000 in
theorem wk_1725 : Cond.instanceMethod ⟨"DryDockModel", "isShip", "(III)V"⟩ ∈ GW := GW_t8 45 rfl rfl
set_option maxRecDepth 30000 in
theorem wk_1726 : Cond.code yX12_isShip cX12_isShip 5 none ∈ GW := GW_t8 46 rfl rfl
set_option maxRecDepth 30000 in
theorem wk_1727 : Cond.methodLink "DryDockModel" 81 ⟨"DryDockModel", "shipAt", "(II)I"⟩ ∈ GW := GW_t8 47 rfl rfl
set_option maxRecDepth 30000 in
theorem wk_1728 : Cond.static ⟨"DryDockModel", "shipAt", "(II)I"⟩ ∈ GW := GW_t8 48 rfl rfl
set_option maxRecDepth 30000 in
theorem wk_1729 : Cond.code yX12_shipAt cX12_shipAt 2 (some .int) ∈ GW := GW_t8 49 rfl rfl
set_option maxRecDepth 30000 in
theorem wk_1731 : Cond.methodLink "DryDockModel" 168 ⟨"DryDockModel", "taken", "()I"⟩ ∈ GW := GW_t8 51 rfl rfl
set_option maxRecDepth 30000 in
theorem wk_1733 : Cond.instanceMethod ⟨"DryDockModel", "taken", "()I"⟩ ∈ GW := GW_t8 53 rfl rfl
set_option maxRecDepth 30000 in
theorem wk_1734 : Cond.code yX12_taken cX12_taken 3 (some .int) ∈ GW := GW_t8 54 rfl rfl
set_option maxRecDepth 30000 in
theorem wk_1735 : Cond.methodLink "DryDockModel" 99 ⟨"DryDockModel", "placesOf", "(I)I"⟩ ∈ GW := GW_t8 55 rfl rfl
set_option maxRecDepth 30000 in
theorem wk_1737 : Cond.instanceMethod ⟨"DryDockModel", "placesOf", "(I)I"⟩ ∈ GW := GW_t8 57 rfl rfl
set_option maxRecDepth 30000 in
theorem wk_1738 : Cond.code yX12_placesOf cX12_placesOf 2 (some .int) ∈ GW := GW_t8 58 rfl rfl
set_option maxRecDepth 30000 in
theorem wk_1739 : Cond.methodLink "DryDockModel" 88 ⟨"DryDockModel", "isDocked", "(I)Z"⟩ ∈ GW := GW_t8 59 rfl rfl
set_option maxRecDepth 30000 in
theorem wk_1741 : Cond.instanceMethod ⟨"DryDockModel", "isDocked", "(I)Z"⟩ ∈ GW := GW_t8 61 rfl rfl
set_option maxRecDepth 30000 in
theorem wk_1742 : Cond.code yX12_isDocked cX12_isDocked 2 (some .boolean) ∈ GW := GW_t8 62 rfl rfl
set_option maxRecDepth 30000 in
theorem wk_1743 : Cond.methodLink "DryDockModel" 85 ⟨"DryDockModel", "of", "(II)I"⟩ ∈ GW := GW_t8 63 rfl rfl
set_option maxRecDepth 30000 in
theorem wk_1745 : Cond.instanceMethod ⟨"DryDockModel", "of", "(II)I"⟩ ∈ GW := GW_t8 65 rfl rfl
set_option maxRecDepth 30000 in
theorem wk_1746 : Cond.code yX12_of cX12_of 3 (some .int) ∈ GW := GW_t8 66 rfl rfl
set_option maxRecDepth 30000 in
theorem wk_1747 : Cond.methodLink "DryDockModel" 92 ⟨"DryDockModel", "run", "(II)I"⟩ ∈ GW := GW_t8 67 rfl rfl
set_option maxRecDepth 30000 in
theorem wk_1748 : Cond.static ⟨"DryDockModel", "run", "(II)I"⟩ ∈ GW := GW_t8 68 rfl rfl
set_option maxRecDepth 30000 in
theorem wk_1749 : Cond.code yX12_run cX12_run 2 (some .int) ∈ GW := GW_t8 69 rfl rfl
set_option maxRecDepth 30000 in
theorem wk_1750 : Cond.methodLink "DryDockModel" 171 ⟨"DryDockModel", "fitsIn", "(III)Z"⟩ ∈ GW := GW_t8 70 rfl rfl
set_option maxRecDepth 30000 in
theorem wk_1751 : Cond.static ⟨"DryDockModel", "fitsIn", "(III)Z"⟩ ∈ GW := GW_t8 71 rfl rfl
set_option maxRecDepth 30000 in
theorem wk_1752 : Cond.code yX12_fitsIn cX12_fitsIn 3 (some .boolean) ∈ GW := GW_t8 72 rfl rfl
set_option maxRecDepth 30000 in
theorem wk_1754 : Cond.methodLink "DryDockModel" 185 ⟨"DryDockModel", "readTide", "()Z"⟩ ∈ GW := GW_t8 74 rfl rfl
set_option maxRecDepth 30000 in
theorem wk_1756 : Cond.instanceMethod ⟨"DryDockModel", "readTide", "()Z"⟩ ∈ GW := GW_t8 76 rfl rfl
set_option maxRecDepth 30000 in
theorem wk_1757 : Cond.code yX12_readTide cX12_readTide 5 (some .boolean) ∈ GW := GW_t8 77 rfl rfl
set_option maxRecDepth 30000 in
theorem wk_1758 : Cond.methodLink "DryDockModel" 174 ⟨"DryDockModel", "isNumberNext", "()Z"⟩ ∈ GW := GW_t8 78 rfl rfl
set_option maxRecDepth 30000 in
theorem wk_1760 : Cond.instanceMethod ⟨"DryDockModel", "isNumberNext", "()Z"⟩ ∈ GW := GW_t8 80 rfl rfl
set_option maxRecDepth 30000 in
theorem wk_1761 : Cond.code yX12_isNumberNext cX12_isNumberNext 1 (some .boolean) ∈ GW := GW_t8 81 rfl rfl
set_option maxRecDepth 30000 in
theorem wk_1763 : Cond.methodLink "DryDockModel" 190 ⟨"DryDockModel", "readBlocks", "()Z"⟩ ∈ GW := GW_t8 83 rfl rfl
set_option maxRecDepth 30000 in
theorem wk_1765 : Cond.instanceMethod ⟨"DryDockModel", "readBlocks", "()Z"⟩ ∈ GW := GW_t8 85 rfl rfl
set_option maxRecDepth 30000 in
theorem wk_1766 : Cond.code yX12_readBlocks cX12_readBlocks 5 (some .boolean) ∈ GW := GW_t8 86 rfl rfl
set_option maxRecDepth 30000 in
theorem wk_1768 : Cond.methodLink "DryDockModel" 195 ⟨"DryDockModel", "readNumber", "(III)Z"⟩ ∈ GW := GW_t8 88 rfl rfl
set_option maxRecDepth 30000 in
theorem wk_1770 : Cond.instanceMethod ⟨"DryDockModel", "readNumber", "(III)Z"⟩ ∈ GW := GW_t8 90 rfl rfl
set_option maxRecDepth 30000 in
theorem wk_1771 : Cond.code yX12_readNumber cX12_readNumber 5 (some .boolean) ∈ GW := GW_t8 91 rfl rfl
set_option maxRecDepth 30000 in
theorem wk_1773 : Cond.methodLink "DryDockModel" 200 ⟨"DryDockModel", "readShut", "()Z"⟩ ∈ GW := GW_t8 93 rfl rfl
set_option maxRecDepth 30000 in
theorem wk_1775 : Cond.instanceMethod ⟨"DryDockModel", "readShut", "()Z"⟩ ∈ GW := GW_t8 95 rfl rfl
set_option maxRecDepth 30000 in
theorem wk_1776 : Cond.code yX12_readShut cX12_readShut 1 (some .boolean) ∈ GW := GW_t8 96 rfl rfl
set_option maxRecDepth 30000 in
theorem wk_1781 : Cond.methodLink "DryDockModel" 268 ⟨"DryDockModel", "readLawLine", "(I)Z"⟩ ∈ GW := GW_t8 101 rfl rfl
set_option maxRecDepth 30000 in
theorem wk_1783 : Cond.instanceMethod ⟨"DryDockModel", "readLawLine", "(I)Z"⟩ ∈ GW := GW_t8 103 rfl rfl
set_option maxRecDepth 30000 in
theorem wk_1784 : Cond.code yX12_readLawLine cX12_readLawLine 3 (some .boolean) ∈ GW := GW_t8 104 rfl rfl
set_option maxRecDepth 30000 in
theorem wk_1789 : Cond.methodLink "DryDockModel" 236 ⟨"DryDockModel", "readCond", "()Z"⟩ ∈ GW := GW_t8 109 rfl rfl
set_option maxRecDepth 30000 in
theorem wk_1791 : Cond.instanceMethod ⟨"DryDockModel", "readCond", "()Z"⟩ ∈ GW := GW_t8 111 rfl rfl
set_option maxRecDepth 30000 in
theorem wk_1792 : Cond.code yX12_readCond cX12_readCond 1 (some .boolean) ∈ GW := GW_t8 112 rfl rfl
set_option maxRecDepth 30000 in
theorem wk_1793 : Cond.methodLink "DryDockModel" 252 ⟨"DryDockModel", "readAllOf", "()Z"⟩ ∈ GW := GW_t8 113 rfl rfl
set_option maxRecDepth 30000 in
theorem wk_1795 : Cond.instanceMethod ⟨"DryDockModel", "readAllOf", "()Z"⟩ ∈ GW := GW_t8 115 rfl rfl
set_option maxRecDepth 30000 in
theorem wk_1796 : Cond.code yX12_readAllOf cX12_readAllOf 1 (some .boolean) ∈ GW := GW_t8 116 rfl rfl
set_option maxRecDepth 30000 in
theorem wk_1797 : Cond.methodLink "DryDockModel" 241 ⟨"DryDockModel", "readAtom", "()Z"⟩ ∈ GW := GW_t8 117 rfl rfl
set_option maxRecDepth 30000 in
theorem wk_1799 : Cond.instanceMethod ⟨"DryDockModel", "readAtom", "()Z"⟩ ∈ GW := GW_t8 119 rfl rfl
set_option maxRecDepth 30000 in
theorem wk_1800 : Cond.code yX12_readAtom cX12_readAtom 2 (some .boolean) ∈ GW := GW_t8 120 rfl rfl
set_option maxRecDepth 30000 in
theorem wk_1801 : Cond.methodLink "DryDockModel" 224 ⟨"DryDockModel", "sign", "(I)Z"⟩ ∈ GW := GW_t8 121 rfl rfl
set_option maxRecDepth 30000 in
theorem wk_1803 : Cond.instanceMethod ⟨"DryDockModel", "sign", "(I)Z"⟩ ∈ GW := GW_t8 123 rfl rfl
set_option maxRecDepth 30000 in
theorem wk_1804 : Cond.code yX12_sign cX12_sign 2 (some .boolean) ∈ GW := GW_t8 124 rfl rfl
set_option maxRecDepth 30000 in
theorem wk_1806 : Cond.methodLink "DryDockModel" 217 ⟨"DryDockModel", "emits", "(II)V"⟩ ∈ GW := GW_t8 126 rfl rfl
set_option maxRecDepth 30000 in
theorem wk_1808 : Cond.instanceMethod ⟨"DryDockModel", "emits", "(II)V"⟩ ∈ GW := GW_t8 128 rfl rfl
set_option maxRecDepth 30000 in
theorem wk_1809 : Cond.code yX12_emits cX12_emits 3 none ∈ GW := GW_t8 129 rfl rfl
set_option maxRecDepth 30000 in
theorem wk_1810 : Cond.methodLink "DryDockModel" 244 ⟨"DryDockModel", "readTag", "()Z"⟩ ∈ GW := GW_t8 130 rfl rfl
set_option maxRecDepth 30000 in
theorem wk_1812 : Cond.instanceMethod ⟨"DryDockModel", "readTag", "()Z"⟩ ∈ GW := GW_t8 132 rfl rfl
set_option maxRecDepth 30000 in
theorem wk_1813 : Cond.code yX12_readTag cX12_readTag 2 (some .boolean) ∈ GW := GW_t8 133 rfl rfl
set_option maxRecDepth 30000 in
theorem wk_1817 : Cond.methodLink "DryDockModel" 247 ⟨"DryDockModel", "readSum", "()Z"⟩ ∈ GW := GW_t8 137 rfl rfl
set_option maxRecDepth 30000 in
theorem wk_1819 : Cond.instanceMethod ⟨"DryDockModel", "readSum", "()Z"⟩ ∈ GW := GW_t8 139 rfl rfl
set_option maxRecDepth 30000 in
theorem wk_1820 : Cond.code yX12_readSum cX12_readSum 1 (some .boolean) ∈ GW := GW_t8 140 rfl rfl
set_option maxRecDepth 30000 in
theorem wk_1821 : Cond.methodLink "DryDockModel" 221 ⟨"DryDockModel", "readPart", "()Z"⟩ ∈ GW := GW_t8 141 rfl rfl
set_option maxRecDepth 30000 in
theorem wk_1823 : Cond.instanceMethod ⟨"DryDockModel", "readPart", "()Z"⟩ ∈ GW := GW_t8 143 rfl rfl
set_option maxRecDepth 30000 in
theorem wk_1824 : Cond.code yX12_readPart cX12_readPart 3 (some .boolean) ∈ GW := GW_t8 144 rfl rfl
set_option maxRecDepth 30000 in
theorem wk_1825 : Cond.methodLink "DryDockModel" 214 ⟨"DryDockModel", "wordOfPart", "()I"⟩ ∈ GW := GW_t8 145 rfl rfl
set_option maxRecDepth 30000 in
theorem wk_1827 : Cond.instanceMethod ⟨"DryDockModel", "wordOfPart", "()I"⟩ ∈ GW := GW_t8 147 rfl rfl
set_option maxRecDepth 30000 in
theorem wk_1828 : Cond.code yX12_wordOfPart cX12_wordOfPart 1 (some .int) ∈ GW := GW_t8 148 rfl rfl
set_option maxRecDepth 30000 in
theorem wk_1831 : Cond.methodLink "DryDockModel" 282 ⟨"DryDockModel", "throwsIf", "(ZI)Z"⟩ ∈ GW := GW_t8 151 rfl rfl
set_option maxRecDepth 30000 in
theorem wk_1833 : Cond.instanceMethod ⟨"DryDockModel", "throwsIf", "(ZI)Z"⟩ ∈ GW := GW_t8 153 rfl rfl
set_option maxRecDepth 30000 in
theorem wk_1834 : Cond.code yX12_throwsIf cX12_throwsIf 3 (some .boolean) ∈ GW := GW_t8 154 rfl rfl
set_option maxRecDepth 30000 in
theorem wk_1835 : Cond.methodLink "DryDockLaw" 139 ⟨"DryDockModel", "law", "()I"⟩ ∈ GW := GW_t8 155 rfl rfl
set_option maxRecDepth 30000 in
theorem wk_1836 : Cond.instanceMethod ⟨"DryDockModel", "law", "()I"⟩ ∈ GW := GW_t8 156 rfl rfl
set_option maxRecDepth 30000 in
theorem wk_1837 : Cond.selects "DryDockModel" ⟨"DryDockModel", "law", "()I"⟩ ⟨"DryDockModel", "law", "()I"⟩ ∈ GW := GW_t8 157 rfl rfl
set_option maxRecDepth 30000 in
theorem wk_1838 : Cond.code yX12_law cX12_law 3 (some .int) ∈ GW := GW_t8 158 rfl rfl
set_option maxRecDepth 30000 in
theorem wk_1839 : Cond.methodLink "DryDockLaw" 147 ⟨"DryDockModel", "ship", "(II)I"⟩ ∈ GW := GW_t8 159 rfl rfl
set_option maxRecDepth 30000 in
theorem wk_1840 : Cond.instanceMethod ⟨"DryDockModel", "ship", "(II)I"⟩ ∈ GW := GW_t8 160 rfl rfl
set_option maxRecDepth 30000 in
theorem wk_1841 : Cond.selects "DryDockModel" ⟨"DryDockModel", "ship", "(II)I"⟩ ⟨"DryDockModel", "ship", "(II)I"⟩ ∈ GW := GW_t8 161 rfl rfl
set_option maxRecDepth 30000 in
theorem wk_1842 : Cond.code yX12_ship cX12_ship 3 (some .int) ∈ GW := GW_t8 162 rfl rfl
set_option maxRecDepth 30000 in
theorem wk_1843 : Cond.methodLink "DryDockModel" 345 ⟨"DryDockModel", "noShip", "(I)Z"⟩ ∈ GW := GW_t8 163 rfl rfl
set_option maxRecDepth 30000 in
theorem wk_1845 : Cond.instanceMethod ⟨"DryDockModel", "noShip", "(I)Z"⟩ ∈ GW := GW_t8 165 rfl rfl
set_option maxRecDepth 30000 in
theorem wk_1846 : Cond.code yX12_noShip cX12_noShip 2 (some .boolean) ∈ GW := GW_t8 166 rfl rfl
set_option maxRecDepth 30000 in
theorem wk_1847 : Cond.methodLink "DryDockModel" 103 ⟨"DryDockModel", "in", "(III)Z"⟩ ∈ GW := GW_t8 167 rfl rfl
set_option maxRecDepth 30000 in
theorem wk_1848 : Cond.static ⟨"DryDockModel", "in", "(III)Z"⟩ ∈ GW := GW_t8 168 rfl rfl
set_option maxRecDepth 30000 in
theorem wk_1849 : Cond.code yX12_in cX12_in 3 (some .boolean) ∈ GW := GW_t8 169 rfl rfl
set_option maxRecDepth 30000 in
theorem wk_1850 : Cond.methodLink "DryDockModel" 348 ⟨"DryDockModel", "feeOf", "(I)I"⟩ ∈ GW := GW_t8 170 rfl rfl
set_option maxRecDepth 30000 in
theorem wk_1852 : Cond.instanceMethod ⟨"DryDockModel", "feeOf", "(I)I"⟩ ∈ GW := GW_t8 172 rfl rfl
set_option maxRecDepth 30000 in
theorem wk_1853 : Cond.code yX12_feeOf cX12_feeOf 2 (some .int) ∈ GW := GW_t8 173 rfl rfl
set_option maxRecDepth 30000 in
theorem wk_1854 : Cond.methodLink "DryDockModel" 298 ⟨"DryDockModel", "sumOf", "(II)I"⟩ ∈ GW := GW_t8 174 rfl rfl
set_option maxRecDepth 30000 in
theorem wk_1856 : Cond.instanceMethod ⟨"DryDockModel", "sumOf", "(II)I"⟩ ∈ GW := GW_t8 176 rfl rfl
set_option maxRecDepth 30000 in
theorem wk_1857 : Cond.code yX12_sumOf cX12_sumOf 5 (some .int) ∈ GW := GW_t8 177 rfl rfl
set_option maxRecDepth 30000 in
theorem wk_1858 : Cond.methodLink "DryDockModel" 295 ⟨"DryDockModel", "holdsLine", "(II)Z"⟩ ∈ GW := GW_t8 178 rfl rfl
set_option maxRecDepth 30000 in
theorem wk_1860 : Cond.instanceMethod ⟨"DryDockModel", "holdsLine", "(II)Z"⟩ ∈ GW := GW_t8 180 rfl rfl
set_option maxRecDepth 30000 in
theorem wk_1861 : Cond.code yX12_holdsLine cX12_holdsLine 10 (some .boolean) ∈ GW := GW_t8 181 rfl rfl
set_option maxRecDepth 30000 in
theorem wk_1862 : Cond.methodLink "DryDockModel" 291 ⟨"DryDockModel", "factOf", "(III)I"⟩ ∈ GW := GW_t8 182 rfl rfl
set_option maxRecDepth 30000 in
theorem wk_1864 : Cond.instanceMethod ⟨"DryDockModel", "factOf", "(III)I"⟩ ∈ GW := GW_t8 184 rfl rfl
set_option maxRecDepth 30000 in
theorem wk_1865 : Cond.code yX12_factOf cX12_factOf 4 (some .int) ∈ GW := GW_t8 185 rfl rfl
set_option maxRecDepth 30000 in
theorem wk_1866 : Cond.methodLink "DryDockModel" 285 ⟨"DryDockModel", "ofShip", "(II)I"⟩ ∈ GW := GW_t8 186 rfl rfl
set_option maxRecDepth 30000 in
theorem wk_1868 : Cond.instanceMethod ⟨"DryDockModel", "ofShip", "(II)I"⟩ ∈ GW := GW_t8 188 rfl rfl
set_option maxRecDepth 30000 in
theorem wk_1869 : Cond.code yX12_ofShip cX12_ofShip 3 (some .int) ∈ GW := GW_t8 189 rfl rfl
set_option maxRecDepth 30000 in
theorem wk_1870 : Cond.methodLink "DryDockModel" 288 ⟨"DryDockModel", "tideIn", "(I)I"⟩ ∈ GW := GW_t8 190 rfl rfl
set_option maxRecDepth 30000 in
theorem wk_1872 : Cond.instanceMethod ⟨"DryDockModel", "tideIn", "(I)I"⟩ ∈ GW := GW_t8 192 rfl rfl
set_option maxRecDepth 30000 in
theorem wk_1873 : Cond.code yX12_tideIn cX12_tideIn 2 (some .int) ∈ GW := GW_t8 193 rfl rfl
set_option maxRecDepth 30000 in
theorem wk_1874 : Cond.methodLink "DryDockModel" 315 ⟨"DryDockModel", "sits", "(I)Z"⟩ ∈ GW := GW_t8 194 rfl rfl
set_option maxRecDepth 30000 in
theorem wk_1876 : Cond.instanceMethod ⟨"DryDockModel", "sits", "(I)Z"⟩ ∈ GW := GW_t8 196 rfl rfl
set_option maxRecDepth 30000 in
theorem wk_1877 : Cond.code yX12_sits cX12_sits 2 (some .boolean) ∈ GW := GW_t8 197 rfl rfl
set_option maxRecDepth 30000 in
theorem wk_1878 : Cond.methodLink "DryDockModel" 318 ⟨"DryDockModel", "isBorne", "(I)Z"⟩ ∈ GW := GW_t8 198 rfl rfl
set_option maxRecDepth 30000 in
theorem wk_1880 : Cond.instanceMethod ⟨"DryDockModel", "isBorne", "(I)Z"⟩ ∈ GW := GW_t8 200 rfl rfl
set_option maxRecDepth 30000 in
theorem wk_1881 : Cond.code yX12_isBorne cX12_isBorne 2 (some .boolean) ∈ GW := GW_t8 201 rfl rfl
set_option maxRecDepth 30000 in
theorem wk_1882 : Cond.methodLink "DryDockModel" 309 ⟨"DryDockModel", "wedgesOf", "(I)I"⟩ ∈ GW := GW_t8 202 rfl rfl
set_option maxRecDepth 30000 in
theorem wk_1884 : Cond.instanceMethod ⟨"DryDockModel", "wedgesOf", "(I)I"⟩ ∈ GW := GW_t8 204 rfl rfl
set_option maxRecDepth 30000 in
theorem wk_1885 : Cond.code yX12_wedgesOf cX12_wedgesOf 8 (some .int) ∈ GW := GW_t8 205 rfl rfl
set_option maxRecDepth 30000 in
theorem wk_1886 : Cond.methodLink "DryDockModel" 306 ⟨"DryDockModel", "has", "(II)Z"⟩ ∈ GW := GW_t8 206 rfl rfl
set_option maxRecDepth 30000 in
theorem wk_1887 : Cond.static ⟨"DryDockModel", "has", "(II)Z"⟩ ∈ GW := GW_t8 207 rfl rfl
set_option maxRecDepth 30000 in
theorem wk_1888 : Cond.code yX12_has cX12_has 2 (some .boolean) ∈ GW := GW_t8 208 rfl rfl
set_option maxRecDepth 30000 in
theorem wk_1889 : Cond.methodLink "DryDockModel" 351 ⟨"DryDockModel", "whenOf", "(I)I"⟩ ∈ GW := GW_t8 209 rfl rfl
set_option maxRecDepth 30000 in
theorem wk_1891 : Cond.instanceMethod ⟨"DryDockModel", "whenOf", "(I)I"⟩ ∈ GW := GW_t8 211 rfl rfl
set_option maxRecDepth 30000 in
theorem wk_1892 : Cond.code yX12_whenOf cX12_whenOf 3 (some .int) ∈ GW := GW_t8 212 rfl rfl
set_option maxRecDepth 30000 in
theorem wk_1893 : Cond.methodLink "DryDockModel" 354 ⟨"DryDockModel", "firstFit", "(I)I"⟩ ∈ GW := GW_t8 213 rfl rfl
set_option maxRecDepth 30000 in
theorem wk_1895 : Cond.instanceMethod ⟨"DryDockModel", "firstFit", "(I)I"⟩ ∈ GW := GW_t8 215 rfl rfl
set_option maxRecDepth 30000 in
theorem wk_1896 : Cond.code yX12_firstFit cX12_firstFit 5 (some .int) ∈ GW := GW_t8 216 rfl rfl
set_option maxRecDepth 30000 in
theorem wk_1897 : Cond.methodLink "DryDockModel" 357 ⟨"DryDockModel", "workOf", "(Z)I"⟩ ∈ GW := GW_t8 217 rfl rfl
set_option maxRecDepth 30000 in
theorem wk_1899 : Cond.instanceMethod ⟨"DryDockModel", "workOf", "(Z)I"⟩ ∈ GW := GW_t8 219 rfl rfl
set_option maxRecDepth 30000 in
theorem wk_1900 : Cond.code yX12_workOf cX12_workOf 4 (some .int) ∈ GW := GW_t8 220 rfl rfl
set_option maxRecDepth 30000 in
theorem wk_1901 : Cond.methodLink "DryDockLaw" 150 ⟨"DryDockModel", "place", "(II)I"⟩ ∈ GW := GW_t8 221 rfl rfl
set_option maxRecDepth 30000 in
theorem wk_1902 : Cond.instanceMethod ⟨"DryDockModel", "place", "(II)I"⟩ ∈ GW := GW_t8 222 rfl rfl
set_option maxRecDepth 30000 in
theorem wk_1903 : Cond.selects "DryDockModel" ⟨"DryDockModel", "place", "(II)I"⟩ ⟨"DryDockModel", "place", "(II)I"⟩ ∈ GW := GW_t8 223 rfl rfl
set_option maxRecDepth 30000 in
theorem wk_1904 : Cond.code yX12_place cX12_place 5 (some .int) ∈ GW := GW_t8 224 rfl rfl
set_option maxRecDepth 30000 in
theorem wk_1905 : Cond.methodLink "DryDockModel" 360 ⟨"DryDockModel", "noPlace", "(I)Z"⟩ ∈ GW := GW_t8 225 rfl rfl
set_option maxRecDepth 30000 in
theorem wk_1906 : Cond.static ⟨"DryDockModel", "noPlace", "(I)Z"⟩ ∈ GW := GW_t8 226 rfl rfl
set_option maxRecDepth 30000 in
theorem wk_1907 : Cond.code yX12_noPlace cX12_noPlace 1 (some .boolean) ∈ GW := GW_t8 227 rfl rfl
set_option maxRecDepth 30000 in
theorem wk_1908 : Cond.methodLink "DryDockLaw" 154 ⟨"DryDockModel", "tide", "(I)I"⟩ ∈ GW := GW_t8 228 rfl rfl
set_option maxRecDepth 30000 in
theorem wk_1909 : Cond.instanceMethod ⟨"DryDockModel", "tide", "(I)I"⟩ ∈ GW := GW_t8 229 rfl rfl
set_option maxRecDepth 30000 in
theorem wk_1910 : Cond.selects "DryDockModel" ⟨"DryDockModel", "tide", "(I)I"⟩ ⟨"DryDockModel", "tide", "(I)I"⟩ ∈ GW := GW_t8 230 rfl rfl
set_option maxRecDepth 30000 in
theorem wk_1911 : Cond.code yX12_tide cX12_tide 2 (some .int) ∈ GW := GW_t8 231 rfl rfl
set_option maxRecDepth 30000 in
theorem wk_1912 : Cond.methodLink "DryDockLaw" 157 ⟨"DryDockModel", "hours", "(I)I"⟩ ∈ GW := GW_t8 232 rfl rfl
set_option maxRecDepth 30000 in
theorem wk_1913 : Cond.instanceMethod ⟨"DryDockModel", "hours", "(I)I"⟩ ∈ GW := GW_t8 233 rfl rfl
set_option maxRecDepth 30000 in
theorem wk_1914 : Cond.selects "DryDockModel" ⟨"DryDockModel", "hours", "(I)I"⟩ ⟨"DryDockModel", "hours", "(I)I"⟩ ∈ GW := GW_t8 234 rfl rfl
set_option maxRecDepth 30000 in
theorem wk_1915 : Cond.code yX12_hours cX12_hours 2 (some .int) ∈ GW := GW_t8 235 rfl rfl
set_option maxRecDepth 30000 in
theorem wk_1916 : Cond.methodLink "DryDockModel" 363 ⟨"DryDockModel", "remembers", "()V"⟩ ∈ GW := GW_t8 236 rfl rfl
set_option maxRecDepth 30000 in
theorem wk_1918 : Cond.instanceMethod ⟨"DryDockModel", "remembers", "()V"⟩ ∈ GW := GW_t8 238 rfl rfl
set_option maxRecDepth 30000 in
theorem wk_1919 : Cond.code yX12_remembers cX12_remembers 2 none ∈ GW := GW_t8 239 rfl rfl
set_option maxRecDepth 30000 in
theorem wk_1920 : Cond.methodLink "DryDockModel" 366 ⟨"DryDockModel", "goesOn", "(IZ)I"⟩ ∈ GW := GW_t9 0 rfl rfl
set_option maxRecDepth 30000 in
theorem wk_1922 : Cond.instanceMethod ⟨"DryDockModel", "goesOn", "(IZ)I"⟩ ∈ GW := GW_t9 2 rfl rfl
set_option maxRecDepth 30000 in
theorem wk_1923 : Cond.code yX12_goesOn cX12_goesOn 5 (some .int) ∈ GW := GW_t9 3 rfl rfl
set_option maxRecDepth 30000 in
theorem wk_1924 : Cond.methodLink "DryDockModel" 342 ⟨"DryDockModel", "oneHour", "(Z)I"⟩ ∈ GW := GW_t9 4 rfl rfl
set_option maxRecDepth 30000 in
theorem wk_1926 : Cond.instanceMethod ⟨"DryDockModel", "oneHour", "(Z)I"⟩ ∈ GW := GW_t9 6 rfl rfl
set_option maxRecDepth 30000 in
theorem wk_1927 : Cond.code yX12_oneHour cX12_oneHour 2 (some .int) ∈ GW := GW_t9 7 rfl rfl
set_option maxRecDepth 30000 in
theorem wk_1928 : Cond.methodLink "DryDockModel" 312 ⟨"java/lang/Math", "min", "(II)I"⟩ ∈ GW := GW_t9 8 rfl rfl
set_option maxRecDepth 30000 in
theorem wk_1929 : Cond.methodLink "DryDockModel" 324 ⟨"DryDockModel", "drawn", "(I)I"⟩ ∈ GW := GW_t9 9 rfl rfl
set_option maxRecDepth 30000 in
theorem wk_1931 : Cond.instanceMethod ⟨"DryDockModel", "drawn", "(I)I"⟩ ∈ GW := GW_t9 11 rfl rfl
set_option maxRecDepth 30000 in
theorem wk_1932 : Cond.code yX12_drawn cX12_drawn 2 (some .int) ∈ GW := GW_t9 12 rfl rfl
set_option maxRecDepth 30000 in
theorem wk_1933 : Cond.constant "DryDockModel" 107 (1103515245 : Int32) ∈ GW := GW_t9 13 rfl rfl
set_option maxRecDepth 30000 in
theorem wk_1934 : Cond.methodLink "DryDockModel" 327 ⟨"DryDockModel", "leaksNow", "()I"⟩ ∈ GW := GW_t9 14 rfl rfl
set_option maxRecDepth 30000 in
theorem wk_1936 : Cond.instanceMethod ⟨"DryDockModel", "leaksNow", "()I"⟩ ∈ GW := GW_t9 16 rfl rfl
set_option maxRecDepth 30000 in
theorem wk_1937 : Cond.code yX12_leaksNow cX12_leaksNow 1 (some .int) ∈ GW := GW_t9 17 rfl rfl
set_option maxRecDepth 30000 in
theorem wk_1938 : Cond.methodLink "DryDockModel" 330 ⟨"DryDockModel", "pullsNow", "()I"⟩ ∈ GW := GW_t9 18 rfl rfl
set_option maxRecDepth 30000 in
theorem wk_1940 : Cond.instanceMethod ⟨"DryDockModel", "pullsNow", "()I"⟩ ∈ GW := GW_t9 20 rfl rfl
set_option maxRecDepth 30000 in
theorem wk_1941 : Cond.code yX12_pullsNow cX12_pullsNow 1 (some .int) ∈ GW := GW_t9 21 rfl rfl
set_option maxRecDepth 30000 in
theorem wk_1942 : Cond.methodLink "DryDockModel" 333 ⟨"java/lang/Math", "max", "(II)I"⟩ ∈ GW := GW_t9 22 rfl rfl
set_option maxRecDepth 30000 in
theorem wk_1943 : Cond.methodLink "DryDockModel" 336 ⟨"DryDockModel", "someHurt", "()V"⟩ ∈ GW := GW_t9 23 rfl rfl
set_option maxRecDepth 30000 in
theorem wk_1945 : Cond.instanceMethod ⟨"DryDockModel", "someHurt", "()V"⟩ ∈ GW := GW_t9 25 rfl rfl
set_option maxRecDepth 30000 in
theorem wk_1946 : Cond.code yX12_someHurt cX12_someHurt 2 none ∈ GW := GW_t9 26 rfl rfl
set_option maxRecDepth 30000 in
theorem wk_1947 : Cond.methodLink "DryDockModel" 321 ⟨"DryDockModel", "isTold", "(III)V"⟩ ∈ GW := GW_t9 27 rfl rfl
set_option maxRecDepth 30000 in
theorem wk_1949 : Cond.instanceMethod ⟨"DryDockModel", "isTold", "(III)V"⟩ ∈ GW := GW_t9 29 rfl rfl
set_option maxRecDepth 30000 in
theorem wk_1950 : Cond.code yX12_isTold cX12_isTold 5 none ∈ GW := GW_t9 30 rfl rfl
set_option maxRecDepth 30000 in
theorem wk_1951 : Cond.methodLink "DryDockModel" 339 ⟨"DryDockModel", "allWork", "()I"⟩ ∈ GW := GW_t9 31 rfl rfl
set_option maxRecDepth 30000 in
theorem wk_1953 : Cond.instanceMethod ⟨"DryDockModel", "allWork", "()I"⟩ ∈ GW := GW_t9 33 rfl rfl
set_option maxRecDepth 30000 in
theorem wk_1954 : Cond.code yX12_allWork cX12_allWork 5 (some .int) ∈ GW := GW_t9 34 rfl rfl
set_option maxRecDepth 30000 in
theorem wk_1955 : Cond.methodLink "DryDockLaw" 161 ⟨"DryDockModel", "gate", "(Z)Z"⟩ ∈ GW := GW_t9 35 rfl rfl
set_option maxRecDepth 30000 in
theorem wk_1956 : Cond.instanceMethod ⟨"DryDockModel", "gate", "(Z)Z"⟩ ∈ GW := GW_t9 36 rfl rfl
set_option maxRecDepth 30000 in
theorem wk_1957 : Cond.selects "DryDockModel" ⟨"DryDockModel", "gate", "(Z)Z"⟩ ⟨"DryDockModel", "gate", "(Z)Z"⟩ ∈ GW := GW_t9 37 rfl rfl
set_option maxRecDepth 30000 in
theorem wk_1958 : Cond.code yX12_gate cX12_gate 3 (some .boolean) ∈ GW := GW_t9 38 rfl rfl
set_option maxRecDepth 30000 in
theorem wk_1959 : Cond.methodLink "DryDockModel" 370 ⟨"DryDockModel", "isEven", "()Z"⟩ ∈ GW := GW_t9 39 rfl rfl
set_option maxRecDepth 30000 in
theorem wk_1961 : Cond.instanceMethod ⟨"DryDockModel", "isEven", "()Z"⟩ ∈ GW := GW_t9 41 rfl rfl
set_option maxRecDepth 30000 in
theorem wk_1962 : Cond.code yX12_isEven cX12_isEven 1 (some .boolean) ∈ GW := GW_t9 42 rfl rfl
set_option maxRecDepth 30000 in
theorem wk_1963 : Cond.methodLink "DryDockModel" 301 ⟨"java/lang/Math", "abs", "(I)I"⟩ ∈ GW := GW_t9 43 rfl rfl
set_option maxRecDepth 30000 in
theorem wk_1964 : Cond.methodLink "DryDockModel" 373 ⟨"DryDockModel", "isNow", "(II)I"⟩ ∈ GW := GW_t9 44 rfl rfl
set_option maxRecDepth 30000 in
theorem wk_1966 : Cond.instanceMethod ⟨"DryDockModel", "isNow", "(II)I"⟩ ∈ GW := GW_t9 46 rfl rfl
set_option maxRecDepth 30000 in
theorem wk_1967 : Cond.code yX12_isNow cX12_isNow 4 (some .int) ∈ GW := GW_t9 47 rfl rfl
set_option maxRecDepth 30000 in
theorem wk_1968 : Cond.methodLink "DryDockLaw" 164 ⟨"DryDockModel", "enter", "(II)I"⟩ ∈ GW := GW_t9 48 rfl rfl
set_option maxRecDepth 30000 in
theorem wk_1969 : Cond.instanceMethod ⟨"DryDockModel", "enter", "(II)I"⟩ ∈ GW := GW_t9 49 rfl rfl
set_option maxRecDepth 30000 in
theorem wk_1970 : Cond.selects "DryDockModel" ⟨"DryDockModel", "enter", "(II)I"⟩ ⟨"DryDockModel", "enter", "(II)I"⟩ ∈ GW := GW_t9 50 rfl rfl
set_option maxRecDepth 30000 in
theorem wk_1971 : Cond.code yX12_enter cX12_enter 3 (some .int) ∈ GW := GW_t9 51 rfl rfl
set_option maxRecDepth 30000 in
theorem wk_1972 : Cond.methodLink "DryDockModel" 381 ⟨"DryDockModel", "canEnter", "(II)Z"⟩ ∈ GW := GW_t9 52 rfl rfl
set_option maxRecDepth 30000 in
theorem wk_1974 : Cond.instanceMethod ⟨"DryDockModel", "canEnter", "(II)Z"⟩ ∈ GW := GW_t9 54 rfl rfl
set_option maxRecDepth 30000 in
theorem wk_1975 : Cond.code yX12_canEnter cX12_canEnter 3 (some .boolean) ∈ GW := GW_t9 55 rfl rfl
set_option maxRecDepth 30000 in
theorem wk_1976 : Cond.methodLink "DryDockModel" 384 ⟨"DryDockModel", "freePlaces", "()I"⟩ ∈ GW := GW_t9 56 rfl rfl
set_option maxRecDepth 30000 in
theorem wk_1978 : Cond.instanceMethod ⟨"DryDockModel", "freePlaces", "()I"⟩ ∈ GW := GW_t9 58 rfl rfl
set_option maxRecDepth 30000 in
theorem wk_1979 : Cond.code yX12_freePlaces cX12_freePlaces 1 (some .int) ∈ GW := GW_t9 59 rfl rfl
set_option maxRecDepth 30000 in
theorem wk_1980 : Cond.methodLink "DryDockModel" 376 ⟨"java/lang/Integer", "bitCount", "(I)I"⟩ ∈ GW := GW_t9 60 rfl rfl
set_option maxRecDepth 30000 in
theorem wk_1981 : Cond.methodLink "DryDockLaw" 167 ⟨"DryDockModel", "leave", "(I)I"⟩ ∈ GW := GW_t9 61 rfl rfl
set_option maxRecDepth 30000 in
theorem wk_1982 : Cond.instanceMethod ⟨"DryDockModel", "leave", "(I)I"⟩ ∈ GW := GW_t9 62 rfl rfl
set_option maxRecDepth 30000 in
theorem wk_1983 : Cond.selects "DryDockModel" ⟨"DryDockModel", "leave", "(I)I"⟩ ⟨"DryDockModel", "leave", "(I)I"⟩ ∈ GW := GW_t9 63 rfl rfl
set_option maxRecDepth 30000 in
theorem wk_1984 : Cond.code yX12_leave cX12_leave 3 (some .int) ∈ GW := GW_t9 64 rfl rfl
set_option maxRecDepth 30000 in
theorem wk_1985 : Cond.methodLink "DryDockLaw" 171 ⟨"DryDockModel", "comes", "(III)I"⟩ ∈ GW := GW_t9 65 rfl rfl
set_option maxRecDepth 30000 in
theorem wk_1986 : Cond.instanceMethod ⟨"DryDockModel", "comes", "(III)I"⟩ ∈ GW := GW_t9 66 rfl rfl
set_option maxRecDepth 30000 in
theorem wk_1987 : Cond.selects "DryDockModel" ⟨"DryDockModel", "comes", "(III)I"⟩ ⟨"DryDockModel", "comes", "(III)I"⟩ ∈ GW := GW_t9 67 rfl rfl
set_option maxRecDepth 30000 in
theorem wk_1988 : Cond.code yX12_comes cX12_comes 4 (some .int) ∈ GW := GW_t9 68 rfl rfl
set_option maxRecDepth 30000 in
theorem wk_1989 : Cond.methodLink "DryDockLaw" 175 ⟨"DryDockModel", "block", "(IZ)Z"⟩ ∈ GW := GW_t9 69 rfl rfl
set_option maxRecDepth 30000 in
theorem wk_1990 : Cond.instanceMethod ⟨"DryDockModel", "block", "(IZ)Z"⟩ ∈ GW := GW_t9 70 rfl rfl
set_option maxRecDepth 30000 in
theorem wk_1991 : Cond.selects "DryDockModel" ⟨"DryDockModel", "block", "(IZ)Z"⟩ ⟨"DryDockModel", "block", "(IZ)Z"⟩ ∈ GW := GW_t9 71 rfl rfl
set_option maxRecDepth 30000 in
theorem wk_1992 : Cond.code yX12_block cX12_block 4 (some .boolean) ∈ GW := GW_t9 72 rfl rfl
set_option maxRecDepth 30000 in
theorem wk_1993 : Cond.methodLink "DryDockLaw" 178 ⟨"DryDockModel", "pumps", "(I)I"⟩ ∈ GW := GW_t9 73 rfl rfl
set_option maxRecDepth 30000 in
theorem wk_1994 : Cond.instanceMethod ⟨"DryDockModel", "pumps", "(I)I"⟩ ∈ GW := GW_t9 74 rfl rfl
set_option maxRecDepth 30000 in
theorem wk_1995 : Cond.selects "DryDockModel" ⟨"DryDockModel", "pumps", "(I)I"⟩ ⟨"DryDockModel", "pumps", "(I)I"⟩ ∈ GW := GW_t9 75 rfl rfl
set_option maxRecDepth 30000 in
theorem wk_1996 : Cond.code yX12_pumps cX12_pumps 2 (some .int) ∈ GW := GW_t9 76 rfl rfl
set_option maxRecDepth 30000 in
theorem wk_1997 : Cond.methodLink "DryDockModel" 387 ⟨"DryDockModel", "isFigure", "(II)I"⟩ ∈ GW := GW_t9 77 rfl rfl
set_option maxRecDepth 30000 in
theorem wk_1999 : Cond.instanceMethod ⟨"DryDockModel", "isFigure", "(II)I"⟩ ∈ GW := GW_t9 79 rfl rfl
set_option maxRecDepth 30000 in
theorem wk_2000 : Cond.code yX12_isFigure cX12_isFigure 3 (some .int) ∈ GW := GW_t9 80 rfl rfl
set_option maxRecDepth 30000 in
theorem wk_2001 : Cond.methodLink "DryDockLaw" 181 ⟨"DryDockModel", "hands", "(I)I"⟩ ∈ GW := GW_t9 81 rfl rfl
set_option maxRecDepth 30000 in
theorem wk_2002 : Cond.instanceMethod ⟨"DryDockModel", "hands", "(I)I"⟩ ∈ GW := GW_t9 82 rfl rfl
set_option maxRecDepth 30000 in
theorem wk_2003 : Cond.selects "DryDockModel" ⟨"DryDockModel", "hands", "(I)I"⟩ ⟨"DryDockModel", "hands", "(I)I"⟩ ∈ GW := GW_t9 83 rfl rfl
set_option maxRecDepth 30000 in
theorem wk_2004 : Cond.code yX12_hands cX12_hands 2 (some .int) ∈ GW := GW_t9 84 rfl rfl
set_option maxRecDepth 30000 in
theorem wk_2005 : Cond.methodLink "DryDockLaw" 184 ⟨"DryDockModel", "flow", "(II)I"⟩ ∈ GW := GW_t9 85 rfl rfl
set_option maxRecDepth 30000 in
theorem wk_2006 : Cond.instanceMethod ⟨"DryDockModel", "flow", "(II)I"⟩ ∈ GW := GW_t9 86 rfl rfl
set_option maxRecDepth 30000 in
theorem wk_2007 : Cond.selects "DryDockModel" ⟨"DryDockModel", "flow", "(II)I"⟩ ⟨"DryDockModel", "flow", "(II)I"⟩ ∈ GW := GW_t9 87 rfl rfl
set_option maxRecDepth 30000 in
theorem wk_2008 : Cond.code yX12_flow cX12_flow 3 (some .int) ∈ GW := GW_t9 88 rfl rfl
set_option maxRecDepth 30000 in
theorem wk_2009 : Cond.methodLink "DryDockLaw" 188 ⟨"DryDockModel", "pulls", "()I"⟩ ∈ GW := GW_t9 89 rfl rfl
set_option maxRecDepth 30000 in
theorem wk_2010 : Cond.instanceMethod ⟨"DryDockModel", "pulls", "()I"⟩ ∈ GW := GW_t9 90 rfl rfl
set_option maxRecDepth 30000 in
theorem wk_2011 : Cond.selects "DryDockModel" ⟨"DryDockModel", "pulls", "()I"⟩ ⟨"DryDockModel", "pulls", "()I"⟩ ∈ GW := GW_t9 91 rfl rfl
set_option maxRecDepth 30000 in
theorem wk_2012 : Cond.code yX12_pulls cX12_pulls 1 (some .int) ∈ GW := GW_t9 92 rfl rfl
set_option maxRecDepth 30000 in
theorem wk_2013 : Cond.methodLink "DryDockLaw" 192 ⟨"DryDockModel", "leaks", "()I"⟩ ∈ GW := GW_t9 93 rfl rfl
set_option maxRecDepth 30000 in
theorem wk_2014 : Cond.instanceMethod ⟨"DryDockModel", "leaks", "()I"⟩ ∈ GW := GW_t9 94 rfl rfl
set_option maxRecDepth 30000 in
theorem wk_2015 : Cond.selects "DryDockModel" ⟨"DryDockModel", "leaks", "()I"⟩ ⟨"DryDockModel", "leaks", "()I"⟩ ∈ GW := GW_t9 95 rfl rfl
set_option maxRecDepth 30000 in
theorem wk_2016 : Cond.code yX12_leaks cX12_leaks 1 (some .int) ∈ GW := GW_t9 96 rfl rfl
set_option maxRecDepth 30000 in
theorem wk_2017 : Cond.methodLink "DryDockLaw" 197 ⟨"DryDockModel", "even", "()Z"⟩ ∈ GW := GW_t9 97 rfl rfl
set_option maxRecDepth 30000 in
theorem wk_2018 : Cond.instanceMethod ⟨"DryDockModel", "even", "()Z"⟩ ∈ GW := GW_t9 98 rfl rfl
set_option maxRecDepth 30000 in
theorem wk_2019 : Cond.selects "DryDockModel" ⟨"DryDockModel", "even", "()Z"⟩ ⟨"DryDockModel", "even", "()Z"⟩ ∈ GW := GW_t9 99 rfl rfl
set_option maxRecDepth 30000 in
theorem wk_2020 : Cond.code yX12_even cX12_even 1 (some .boolean) ∈ GW := GW_t9 100 rfl rfl
set_option maxRecDepth 30000 in
theorem wk_2021 : Cond.methodLink "DryDockLaw" 201 ⟨"DryDockModel", "room", "()I"⟩ ∈ GW := GW_t9 101 rfl rfl
set_option maxRecDepth 30000 in
theorem wk_2022 : Cond.instanceMethod ⟨"DryDockModel", "room", "()I"⟩ ∈ GW := GW_t9 102 rfl rfl
set_option maxRecDepth 30000 in
theorem wk_2023 : Cond.selects "DryDockModel" ⟨"DryDockModel", "room", "()I"⟩ ⟨"DryDockModel", "room", "()I"⟩ ∈ GW := GW_t9 103 rfl rfl
set_option maxRecDepth 30000 in
theorem wk_2024 : Cond.code yX12_room cX12_room 5 (some .int) ∈ GW := GW_t9 104 rfl rfl
set_option maxRecDepth 30000 in
theorem wk_2025 : Cond.methodLink "DryDockLaw" 205 ⟨"DryDockModel", "load", "()I"⟩ ∈ GW := GW_t9 105 rfl rfl
set_option maxRecDepth 30000 in
theorem wk_2026 : Cond.instanceMethod ⟨"DryDockModel", "load", "()I"⟩ ∈ GW := GW_t9 106 rfl rfl
set_option maxRecDepth 30000 in
theorem wk_2027 : Cond.selects "DryDockModel" ⟨"DryDockModel", "load", "()I"⟩ ⟨"DryDockModel", "load", "()I"⟩ ∈ GW := GW_t9 107 rfl rfl
set_option maxRecDepth 30000 in
theorem wk_2028 : Cond.code yX12_load cX12_load 1 (some .int) ∈ GW := GW_t9 108 rfl rfl
set_option maxRecDepth 30000 in
theorem wk_2029 : Cond.methodLink "DryDockModel" 405 ⟨"DryDockModel", "bestLoad", "()I"⟩ ∈ GW := GW_t9 109 rfl rfl
set_option maxRecDepth 30000 in
theorem wk_2031 : Cond.instanceMethod ⟨"DryDockModel", "bestLoad", "()I"⟩ ∈ GW := GW_t9 111 rfl rfl
set_option maxRecDepth 30000 in
theorem wk_2032 : Cond.code yX12_bestLoad cX12_bestLoad 5 (some .int) ∈ GW := GW_t9 112 rfl rfl
set_option maxRecDepth 30000 in
theorem wk_2033 : Cond.methodLink "DryDockModel" 396 ⟨"DryDockModel", "mayEnter", "()I"⟩ ∈ GW := GW_t9 113 rfl rfl
set_option maxRecDepth 30000 in
theorem wk_2035 : Cond.instanceMethod ⟨"DryDockModel", "mayEnter", "()I"⟩ ∈ GW := GW_t9 115 rfl rfl
set_option maxRecDepth 30000 in
theorem wk_2036 : Cond.code yX12_mayEnter cX12_mayEnter 3 (some .int) ∈ GW := GW_t9 116 rfl rfl
set_option maxRecDepth 30000 in
theorem wk_2037 : Cond.methodLink "DryDockModel" 399 ⟨"DryDockModel", "feesOf", "(I)I"⟩ ∈ GW := GW_t9 117 rfl rfl
set_option maxRecDepth 30000 in
theorem wk_2039 : Cond.instanceMethod ⟨"DryDockModel", "feesOf", "(I)I"⟩ ∈ GW := GW_t9 119 rfl rfl
set_option maxRecDepth 30000 in
theorem wk_2040 : Cond.code yX12_feesOf cX12_feesOf 4 (some .int) ∈ GW := GW_t9 120 rfl rfl
set_option maxRecDepth 30000 in
theorem wk_2041 : Cond.methodLink "DryDockModel" 402 ⟨"DryDockModel", "canLoad", "(I)Z"⟩ ∈ GW := GW_t9 121 rfl rfl
set_option maxRecDepth 30000 in
theorem wk_2043 : Cond.instanceMethod ⟨"DryDockModel", "canLoad", "(I)Z"⟩ ∈ GW := GW_t9 123 rfl rfl
set_option maxRecDepth 30000 in
theorem wk_2044 : Cond.code yX12_canLoad cX12_canLoad 7 (some .boolean) ∈ GW := GW_t9 124 rfl rfl
set_option maxRecDepth 30000 in
theorem wk_2045 : Cond.methodLink "DryDockModel" 390 ⟨"DryDockModel", "laysRuns", "()I"⟩ ∈ GW := GW_t9 125 rfl rfl
set_option maxRecDepth 30000 in
theorem wk_2047 : Cond.instanceMethod ⟨"DryDockModel", "laysRuns", "()I"⟩ ∈ GW := GW_t9 127 rfl rfl
set_option maxRecDepth 30000 in
theorem wk_2048 : Cond.code yX12_laysRuns cX12_laysRuns 4 (some .int) ∈ GW := GW_t9 128 rfl rfl
set_option maxRecDepth 30000 in
theorem wk_2049 : Cond.methodLink "DryDockModel" 393 ⟨"DryDockModel", "laysMembers", "(I)I"⟩ ∈ GW := GW_t9 129 rfl rfl
set_option maxRecDepth 30000 in
theorem wk_2051 : Cond.instanceMethod ⟨"DryDockModel", "laysMembers", "(I)I"⟩ ∈ GW := GW_t9 131 rfl rfl
set_option maxRecDepth 30000 in
theorem wk_2052 : Cond.code yX12_laysMembers cX12_laysMembers 4 (some .int) ∈ GW := GW_t9 132 rfl rfl
set_option maxRecDepth 30000 in
theorem wk_2053 : Cond.methodLink "DryDockLaw" 209 ⟨"DryDockModel", "which", "()I"⟩ ∈ GW := GW_t9 133 rfl rfl
set_option maxRecDepth 30000 in
theorem wk_2054 : Cond.instanceMethod ⟨"DryDockModel", "which", "()I"⟩ ∈ GW := GW_t9 134 rfl rfl
set_option maxRecDepth 30000 in
theorem wk_2055 : Cond.selects "DryDockModel" ⟨"DryDockModel", "which", "()I"⟩ ⟨"DryDockModel", "which", "()I"⟩ ∈ GW := GW_t9 135 rfl rfl
set_option maxRecDepth 30000 in
theorem wk_2056 : Cond.code yX12_which cX12_which 1 (some .int) ∈ GW := GW_t9 136 rfl rfl
set_option maxRecDepth 30000 in
theorem wk_2057 : Cond.methodLink "DryDockLaw" 213 ⟨"DryDockModel", "dry", "()I"⟩ ∈ GW := GW_t9 137 rfl rfl
set_option maxRecDepth 30000 in
theorem wk_2058 : Cond.instanceMethod ⟨"DryDockModel", "dry", "()I"⟩ ∈ GW := GW_t9 138 rfl rfl
set_option maxRecDepth 30000 in
theorem wk_2059 : Cond.selects "DryDockModel" ⟨"DryDockModel", "dry", "()I"⟩ ⟨"DryDockModel", "dry", "()I"⟩ ∈ GW := GW_t9 139 rfl rfl
set_option maxRecDepth 30000 in
theorem wk_2060 : Cond.code yX12_dry cX12_dry 1 (some .int) ∈ GW := GW_t9 140 rfl rfl
set_option maxRecDepth 30000 in
theorem wk_2061 : Cond.methodLink "DryDockModel" 420 ⟨"DryDockModel", "firstIn", "(I)I"⟩ ∈ GW := GW_t9 141 rfl rfl
set_option maxRecDepth 30000 in
theorem wk_2063 : Cond.instanceMethod ⟨"DryDockModel", "firstIn", "(I)I"⟩ ∈ GW := GW_t9 143 rfl rfl
set_option maxRecDepth 30000 in
theorem wk_2064 : Cond.code yX12_firstIn cX12_firstIn 4 (some .int) ∈ GW := GW_t9 144 rfl rfl
set_option maxRecDepth 30000 in
theorem wk_2065 : Cond.methodLink "DryDockModel" 411 ⟨"DryDockModel", "keepsAll", "()V"⟩ ∈ GW := GW_t9 145 rfl rfl
set_option maxRecDepth 30000 in
theorem wk_2067 : Cond.instanceMethod ⟨"DryDockModel", "keepsAll", "()V"⟩ ∈ GW := GW_t9 147 rfl rfl
set_option maxRecDepth 30000 in
theorem wk_2068 : Cond.code yX12_keepsAll cX12_keepsAll 2 none ∈ GW := GW_t9 148 rfl rfl
set_option maxRecDepth 30000 in
theorem wk_2069 : Cond.methodLink "DryDockModel" 414 ⟨"DryDockModel", "isSo", "(I)Z"⟩ ∈ GW := GW_t9 149 rfl rfl
set_option maxRecDepth 30000 in
theorem wk_2071 : Cond.instanceMethod ⟨"DryDockModel", "isSo", "(I)Z"⟩ ∈ GW := GW_t9 151 rfl rfl
set_option maxRecDepth 30000 in
theorem wk_2072 : Cond.code yX12_isSo cX12_isSo 2 (some .boolean) ∈ GW := GW_t9 152 rfl rfl
set_option maxRecDepth 30000 in
theorem wk_2073 : Cond.methodLink "DryDockModel" 408 ⟨"DryDockModel", "workDocked", "()I"⟩ ∈ GW := GW_t9 153 rfl rfl
set_option maxRecDepth 30000 in
theorem wk_2075 : Cond.instanceMethod ⟨"DryDockModel", "workDocked", "()I"⟩ ∈ GW := GW_t9 155 rfl rfl
set_option maxRecDepth 30000 in
theorem wk_2076 : Cond.code yX12_workDocked cX12_workDocked 3 (some .int) ∈ GW := GW_t9 156 rfl rfl
set_option maxRecDepth 30000 in
theorem wk_2077 : Cond.methodLink "DryDockModel" 417 ⟨"DryDockModel", "bringsBack", "()V"⟩ ∈ GW := GW_t9 157 rfl rfl
set_option maxRecDepth 30000 in
theorem wk_2079 : Cond.instanceMethod ⟨"DryDockModel", "bringsBack", "()V"⟩ ∈ GW := GW_t9 159 rfl rfl
set_option maxRecDepth 30000 in
theorem wk_2080 : Cond.code yX12_bringsBack cX12_bringsBack 2 none ∈ GW := GW_t9 160 rfl rfl
set_option maxRecDepth 30000 in
theorem wk_2081 : Cond.methodLink "DryDockLaw" 217 ⟨"DryDockModel", "ready", "()I"⟩ ∈ GW := GW_t9 161 rfl rfl
set_option maxRecDepth 30000 in
theorem wk_2082 : Cond.instanceMethod ⟨"DryDockModel", "ready", "()I"⟩ ∈ GW := GW_t9 162 rfl rfl
set_option maxRecDepth 30000 in
theorem wk_2083 : Cond.selects "DryDockModel" ⟨"DryDockModel", "ready", "()I"⟩ ⟨"DryDockModel", "ready", "()I"⟩ ∈ GW := GW_t9 163 rfl rfl
set_option maxRecDepth 30000 in
theorem wk_2084 : Cond.code yX12_ready cX12_ready 1 (some .int) ∈ GW := GW_t9 164 rfl rfl
set_option maxRecDepth 30000 in
theorem wk_2085 : Cond.methodLink "DryDockLaw" 221 ⟨"DryDockModel", "ease", "()I"⟩ ∈ GW := GW_t9 165 rfl rfl
set_option maxRecDepth 30000 in
theorem wk_2086 : Cond.instanceMethod ⟨"DryDockModel", "ease", "()I"⟩ ∈ GW := GW_t9 166 rfl rfl
set_option maxRecDepth 30000 in
theorem wk_2087 : Cond.selects "DryDockModel" ⟨"DryDockModel", "ease", "()I"⟩ ⟨"DryDockModel", "ease", "()I"⟩ ∈ GW := GW_t9 167 rfl rfl
set_option maxRecDepth 30000 in
theorem wk_2088 : Cond.code yX12_ease cX12_ease 1 (some .int) ∈ GW := GW_t9 168 rfl rfl
set_option maxRecDepth 30000 in
theorem wk_2089 : Cond.methodLink "DryDockLaw" 225 ⟨"DryDockModel", "cost", "()I"⟩ ∈ GW := GW_t9 169 rfl rfl
set_option maxRecDepth 30000 in
theorem wk_2090 : Cond.instanceMethod ⟨"DryDockModel", "cost", "()I"⟩ ∈ GW := GW_t9 170 rfl rfl
set_option maxRecDepth 30000 in
theorem wk_2091 : Cond.selects "DryDockModel" ⟨"DryDockModel", "cost", "()I"⟩ ⟨"DryDockModel", "cost", "()I"⟩ ∈ GW := GW_t9 171 rfl rfl
set_option maxRecDepth 30000 in
theorem wk_2092 : Cond.code yX12_cost cX12_cost 2 (some .int) ∈ GW := GW_t9 172 rfl rfl
set_option maxRecDepth 30000 in
theorem wk_2093 : Cond.methodLink "DryDockModel" 426 ⟨"DryDockModel", "busyOnes", "()I"⟩ ∈ GW := GW_t9 173 rfl rfl
set_option maxRecDepth 30000 in
theorem wk_2095 : Cond.instanceMethod ⟨"DryDockModel", "busyOnes", "()I"⟩ ∈ GW := GW_t9 175 rfl rfl
set_option maxRecDepth 30000 in
theorem wk_2096 : Cond.code yX12_busyOnes cX12_busyOnes 3 (some .int) ∈ GW := GW_t9 176 rfl rfl
set_option maxRecDepth 30000 in
theorem wk_2097 : Cond.methodLink "DryDockModel" 429 ⟨"DryDockModel", "laysCosts", "(I)V"⟩ ∈ GW := GW_t9 177 rfl rfl
set_option maxRecDepth 30000 in
theorem wk_2099 : Cond.instanceMethod ⟨"DryDockModel", "laysCosts", "(I)V"⟩ ∈ GW := GW_t9 179 rfl rfl
set_option maxRecDepth 30000 in
theorem wk_2100 : Cond.code yX12_laysCosts cX12_laysCosts 5 none ∈ GW := GW_t9 180 rfl rfl
set_option maxRecDepth 30000 in
theorem wk_2101 : Cond.methodLink "DryDockModel" 423 ⟨"DryDockModel", "costNext", "(II)I"⟩ ∈ GW := GW_t9 181 rfl rfl
set_option maxRecDepth 30000 in
theorem wk_2103 : Cond.instanceMethod ⟨"DryDockModel", "costNext", "(II)I"⟩ ∈ GW := GW_t9 183 rfl rfl
set_option maxRecDepth 30000 in
theorem wk_2104 : Cond.code yX12_costNext cX12_costNext 5 (some .int) ∈ GW := GW_t9 184 rfl rfl
set_option maxRecDepth 30000 in
theorem wk_2105 : Cond.methodLink "DryDockLaw" 229 ⟨"DryDockModel", "first", "()I"⟩ ∈ GW := GW_t9 185 rfl rfl
set_option maxRecDepth 30000 in
theorem wk_2106 : Cond.instanceMethod ⟨"DryDockModel", "first", "()I"⟩ ∈ GW := GW_t9 186 rfl rfl
set_option maxRecDepth 30000 in
theorem wk_2107 : Cond.selects "DryDockModel" ⟨"DryDockModel", "first", "()I"⟩ ⟨"DryDockModel", "first", "()I"⟩ ∈ GW := GW_t9 187 rfl rfl
set_option maxRecDepth 30000 in
theorem wk_2108 : Cond.code yX12_first cX12_first 3 (some .int) ∈ GW := GW_t9 188 rfl rfl
set_option maxRecDepth 30000 in
theorem wk_2109 : Cond.methodLink "DryDockLaw" 232 ⟨"DryDockModel", "goes", "(Z)I"⟩ ∈ GW := GW_t9 189 rfl rfl
set_option maxRecDepth 30000 in
theorem wk_2110 : Cond.instanceMethod ⟨"DryDockModel", "goes", "(Z)I"⟩ ∈ GW := GW_t9 190 rfl rfl
set_option maxRecDepth 30000 in
theorem wk_2111 : Cond.selects "DryDockModel" ⟨"DryDockModel", "goes", "(Z)I"⟩ ⟨"DryDockModel", "goes", "(Z)I"⟩ ∈ GW := GW_t9 191 rfl rfl
set_option maxRecDepth 30000 in
theorem wk_2112 : Cond.code yX12_goes cX12_goes 3 (some .int) ∈ GW := GW_t9 192 rfl rfl
set_option maxRecDepth 30000 in
theorem wk_2113 : Cond.methodLink "DryDockModel" 436 ⟨"DryDockModel", "isHeights", "()Z"⟩ ∈ GW := GW_t9 193 rfl rfl
set_option maxRecDepth 30000 in
theorem wk_2115 : Cond.instanceMethod ⟨"DryDockModel", "isHeights", "()Z"⟩ ∈ GW := GW_t9 195 rfl rfl
set_option maxRecDepth 30000 in
theorem wk_2116 : Cond.code yX12_isHeights cX12_isHeights 3 (some .boolean) ∈ GW := GW_t9 196 rfl rfl
set_option maxRecDepth 30000 in
theorem wk_2117 : Cond.methodLink "DryDockModel" 439 ⟨"DryDockModel", "laysCurves", "()I"⟩ ∈ GW := GW_t9 197 rfl rfl
set_option maxRecDepth 30000 in
theorem wk_2119 : Cond.instanceMethod ⟨"DryDockModel", "laysCurves", "()I"⟩ ∈ GW := GW_t9 199 rfl rfl
set_option maxRecDepth 30000 in
theorem wk_2120 : Cond.code yX12_laysCurves cX12_laysCurves 5 (some .int) ∈ GW := GW_t9 200 rfl rfl
set_option maxRecDepth 30000 in
theorem wk_2121 : Cond.methodLink "DryDockModel" 433 ⟨"DryDockModel", "heightBy", "(II)I"⟩ ∈ GW := GW_t9 201 rfl rfl
set_option maxRecDepth 30000 in
theorem wk_2122 : Cond.static ⟨"DryDockModel", "heightBy", "(II)I"⟩ ∈ GW := GW_t9 202 rfl rfl
set_option maxRecDepth 30000 in
theorem wk_2123 : Cond.code yX12_heightBy cX12_heightBy 4 (some .int) ∈ GW := GW_t9 203 rfl rfl
set_option maxRecDepth 30000 in
theorem wk_2124 : Cond.methodLink "DryDockModel" 442 ⟨"DryDockModel", "firstFitting", "(I)I"⟩ ∈ GW := GW_t9 204 rfl rfl
set_option maxRecDepth 30000 in
theorem wk_2126 : Cond.instanceMethod ⟨"DryDockModel", "firstFitting", "(I)I"⟩ ∈ GW := GW_t9 206 rfl rfl
set_option maxRecDepth 30000 in
theorem wk_2127 : Cond.code yX12_firstFitting cX12_firstFitting 4 (some .int) ∈ GW := GW_t9 207 rfl rfl
set_option maxRecDepth 30000 in
theorem wk_2128 : Cond.methodLink "DryDockLaw" 235 ⟨"DryDockModel", "ask", "()I"⟩ ∈ GW := GW_t9 208 rfl rfl
set_option maxRecDepth 30000 in
theorem wk_2129 : Cond.instanceMethod ⟨"DryDockModel", "ask", "()I"⟩ ∈ GW := GW_t9 209 rfl rfl
set_option maxRecDepth 30000 in
theorem wk_2130 : Cond.selects "DryDockModel" ⟨"DryDockModel", "ask", "()I"⟩ ⟨"DryDockModel", "ask", "()I"⟩ ∈ GW := GW_t9 210 rfl rfl
set_option maxRecDepth 30000 in
theorem wk_2131 : Cond.code yX12_ask cX12_ask 6 (some .int) ∈ GW := GW_t9 211 rfl rfl
set_option maxRecDepth 30000 in
theorem wk_2132 : Cond.methodLink "DryDockModel" 445 ⟨"DryDockModel", "partIn", "(I)I"⟩ ∈ GW := GW_t9 212 rfl rfl
set_option maxRecDepth 30000 in
theorem wk_2134 : Cond.instanceMethod ⟨"DryDockModel", "partIn", "(I)I"⟩ ∈ GW := GW_t9 214 rfl rfl
set_option maxRecDepth 30000 in
theorem wk_2135 : Cond.code yX12_partIn cX12_partIn 5 (some .int) ∈ GW := GW_t9 215 rfl rfl
set_option maxRecDepth 30000 in
theorem wk_2136 : Cond.methodLink "DryDockLaw" 238 ⟨"DryDockModel", "lies", "()I"⟩ ∈ GW := GW_t9 216 rfl rfl
set_option maxRecDepth 30000 in
theorem wk_2137 : Cond.instanceMethod ⟨"DryDockModel", "lies", "()I"⟩ ∈ GW := GW_t9 217 rfl rfl
set_option maxRecDepth 30000 in
theorem wk_2138 : Cond.selects "DryDockModel" ⟨"DryDockModel", "lies", "()I"⟩ ⟨"DryDockModel", "lies", "()I"⟩ ∈ GW := GW_t9 218 rfl rfl
set_option maxRecDepth 30000 in
theorem wk_2139 : Cond.code yX12_lies cX12_lies 1 (some .int) ∈ GW := GW_t9 219 rfl rfl
set_option maxRecDepth 30000 in
theorem wk_2140 : Cond.methodLink "DryDockModel" 454 ⟨"DryDockModel", "isTouched", "()Z"⟩ ∈ GW := GW_t9 220 rfl rfl
set_option maxRecDepth 30000 in
theorem wk_2142 : Cond.instanceMethod ⟨"DryDockModel", "isTouched", "()Z"⟩ ∈ GW := GW_t9 222 rfl rfl
set_option maxRecDepth 30000 in
theorem wk_2143 : Cond.code yX12_isTouched cX12_isTouched 3 (some .boolean) ∈ GW := GW_t9 223 rfl rfl
set_option maxRecDepth 30000 in
theorem wk_2144 : Cond.methodLink "DryDockModel" 457 ⟨"DryDockModel", "manyLies", "(I)I"⟩ ∈ GW := GW_t9 224 rfl rfl
set_option maxRecDepth 30000 in
theorem wk_2146 : Cond.instanceMethod ⟨"DryDockModel", "manyLies", "(I)I"⟩ ∈ GW := GW_t9 226 rfl rfl
set_option maxRecDepth 30000 in
theorem wk_2147 : Cond.code yX12_manyLies cX12_manyLies 4 (some .int) ∈ GW := GW_t9 227 rfl rfl
set_option maxRecDepth 30000 in
theorem wk_2148 : Cond.methodLink "DryDockModel" 451 ⟨"DryDockModel", "wrongRows", "(I)I"⟩ ∈ GW := GW_t9 228 rfl rfl
set_option maxRecDepth 30000 in
theorem wk_2150 : Cond.instanceMethod ⟨"DryDockModel", "wrongRows", "(I)I"⟩ ∈ GW := GW_t9 230 rfl rfl
set_option maxRecDepth 30000 in
theorem wk_2151 : Cond.code yX12_wrongRows cX12_wrongRows 4 (some .int) ∈ GW := GW_t9 231 rfl rfl
set_option maxRecDepth 30000 in
theorem wk_2152 : Cond.methodLink "DryDockModel" 448 ⟨"DryDockModel", "liesAt", "(I)I"⟩ ∈ GW := GW_t9 232 rfl rfl
set_option maxRecDepth 30000 in
theorem wk_2153 : Cond.static ⟨"DryDockModel", "liesAt", "(I)I"⟩ ∈ GW := GW_t9 233 rfl rfl
set_option maxRecDepth 30000 in
theorem wk_2154 : Cond.code yX12_liesAt cX12_liesAt 1 (some .int) ∈ GW := GW_t9 234 rfl rfl
set_option maxRecDepth 30000 in
theorem wk_2155 : Cond.methodLink "DryDockLaw" 241 ⟨"DryDockModel", "likely", "()I"⟩ ∈ GW := GW_t9 235 rfl rfl
set_option maxRecDepth 30000 in
theorem wk_2156 : Cond.instanceMethod ⟨"DryDockModel", "likely", "()I"⟩ ∈ GW := GW_t9 236 rfl rfl
set_option maxRecDepth 30000 in
theorem wk_2157 : Cond.selects "DryDockModel" ⟨"DryDockModel", "likely", "()I"⟩ ⟨"DryDockModel", "likely", "()I"⟩ ∈ GW := GW_t9 237 rfl rfl
set_option maxRecDepth 30000 in
theorem wk_2158 : Cond.code yX12_likely cX12_likely 5 (some .int) ∈ GW := GW_t9 238 rfl rfl
set_option maxRecDepth 30000 in
theorem wk_2159 : Cond.methodLink "DryDockLaw" 244 ⟨"DryDockModel", "sound", "()I"⟩ ∈ GW := GW_t9 239 rfl rfl
set_option maxRecDepth 30000 in
theorem wk_2160 : Cond.instanceMethod ⟨"DryDockModel", "sound", "()I"⟩ ∈ GW := GW_t10 0 rfl rfl
set_option maxRecDepth 30000 in
theorem wk_2161 : Cond.selects "DryDockModel" ⟨"DryDockModel", "sound", "()I"⟩ ⟨"DryDockModel", "sound", "()I"⟩ ∈ GW := GW_t10 1 rfl rfl
set_option maxRecDepth 30000 in
theorem wk_2162 : Cond.code yX12_sound cX12_sound 7 (some .int) ∈ GW := GW_t10 2 rfl rfl
set_option maxRecDepth 30000 in
theorem wk_2163 : Cond.methodLink "DryDockLaw" 248 ⟨"DryDockModel", "knocks", "()Z"⟩ ∈ GW := GW_t10 3 rfl rfl
set_option maxRecDepth 30000 in
theorem wk_2164 : Cond.instanceMethod ⟨"DryDockModel", "knocks", "()Z"⟩ ∈ GW := GW_t10 4 rfl rfl
set_option maxRecDepth 30000 in
theorem wk_2165 : Cond.selects "DryDockModel" ⟨"DryDockModel", "knocks", "()Z"⟩ ⟨"DryDockModel", "knocks", "()Z"⟩ ∈ GW := GW_t10 5 rfl rfl
set_option maxRecDepth 30000 in
theorem wk_2166 : Cond.code yX12_knocks cX12_knocks 1 (some .boolean) ∈ GW := GW_t10 6 rfl rfl
set_option maxRecDepth 30000 in
theorem wk_2167 : Cond.methodLink "DryDockModel" 468 ⟨"DryDockModel", "laysWorth", "()V"⟩ ∈ GW := GW_t10 7 rfl rfl
set_option maxRecDepth 30000 in
theorem wk_2169 : Cond.instanceMethod ⟨"DryDockModel", "laysWorth", "()V"⟩ ∈ GW := GW_t10 9 rfl rfl
set_option maxRecDepth 30000 in
theorem wk_2170 : Cond.code yX12_laysWorth cX12_laysWorth 6 none ∈ GW := GW_t10 10 rfl rfl
set_option maxRecDepth 30000 in
theorem wk_2171 : Cond.constantLong "DryDockModel" 460 (-1 : Int64) ∈ GW := GW_t10 11 rfl rfl
set_option maxRecDepth 30000 in
theorem wk_2172 : Cond.methodLink "DryDockModel" 462 ⟨"java/lang/Long", "numberOfTrailingZeros", "(J)I"⟩ ∈ GW := GW_t10 12 rfl rfl
set_option maxRecDepth 30000 in
theorem wk_2173 : Cond.static ⟨"java/lang/Long", "numberOfTrailingZeros", "(J)I"⟩ ∈ GW := GW_t10 13 rfl rfl
set_option maxRecDepth 30000 in
theorem wk_2175 : Cond.methodLink "java/lang/Long" 311 ⟨"java/lang/Integer", "numberOfTrailingZeros", "(I)I"⟩ ∈ GW := GW_t10 15 rfl rfl
set_option maxRecDepth 30000 in
theorem wk_2176 : Cond.methodLink "DryDockModel" 471 ⟨"DryDockModel", "worthOf", "(I)I"⟩ ∈ GW := GW_t10 16 rfl rfl
set_option maxRecDepth 30000 in
theorem wk_2178 : Cond.instanceMethod ⟨"DryDockModel", "worthOf", "(I)I"⟩ ∈ GW := GW_t10 18 rfl rfl
set_option maxRecDepth 30000 in
theorem wk_2179 : Cond.code yX12_worthOf cX12_worthOf 6 (some .int) ∈ GW := GW_t10 19 rfl rfl
set_option maxRecDepth 30000 in
theorem wk_2180 : Cond.methodLink "DryDockLaw" 252 ⟨"DryDockModel", "knock", "()I"⟩ ∈ GW := GW_t10 20 rfl rfl
set_option maxRecDepth 30000 in
theorem wk_2181 : Cond.instanceMethod ⟨"DryDockModel", "knock", "()I"⟩ ∈ GW := GW_t10 21 rfl rfl
set_option maxRecDepth 30000 in
theorem wk_2182 : Cond.selects "DryDockModel" ⟨"DryDockModel", "knock", "()I"⟩ ⟨"DryDockModel", "knock", "()I"⟩ ∈ GW := GW_t10 22 rfl rfl
set_option maxRecDepth 30000 in
theorem wk_2183 : Cond.code yX12_knock cX12_knock 5 (some .int) ∈ GW := GW_t10 23 rfl rfl
set_option maxRecDepth 30000 in
theorem wk_2184 : Cond.methodLink "DryDockLaw" 255 ⟨"DryDockModel", "beds", "(I)I"⟩ ∈ GW := GW_t10 24 rfl rfl
set_option maxRecDepth 30000 in
theorem wk_2185 : Cond.instanceMethod ⟨"DryDockModel", "beds", "(I)I"⟩ ∈ GW := GW_t10 25 rfl rfl
set_option maxRecDepth 30000 in
theorem wk_2186 : Cond.selects "DryDockModel" ⟨"DryDockModel", "beds", "(I)I"⟩ ⟨"DryDockModel", "beds", "(I)I"⟩ ∈ GW := GW_t10 26 rfl rfl
set_option maxRecDepth 30000 in
theorem wk_2187 : Cond.code yX12_beds cX12_beds 6 (some .int) ∈ GW := GW_t10 27 rfl rfl
set_option maxRecDepth 30000 in
theorem wk_2188 : Cond.methodLink "DryDockModel" 474 ⟨"DryDockModel", "bedAt", "(II)I"⟩ ∈ GW := GW_t10 28 rfl rfl
set_option maxRecDepth 30000 in
theorem wk_2189 : Cond.static ⟨"DryDockModel", "bedAt", "(II)I"⟩ ∈ GW := GW_t10 29 rfl rfl
set_option maxRecDepth 30000 in
theorem wk_2190 : Cond.code yX12_bedAt cX12_bedAt 2 (some .int) ∈ GW := GW_t10 30 rfl rfl
set_option maxRecDepth 30000 in
theorem wk_2191 : Cond.methodLink "DryDockModel" 477 ⟨"DryDockModel", "bedIf", "(III)I"⟩ ∈ GW := GW_t10 31 rfl rfl
set_option maxRecDepth 30000 in
theorem wk_2193 : Cond.instanceMethod ⟨"DryDockModel", "bedIf", "(III)I"⟩ ∈ GW := GW_t10 33 rfl rfl
set_option maxRecDepth 30000 in
theorem wk_2194 : Cond.code yX12_bedIf cX12_bedIf 5 (some .int) ∈ GW := GW_t10 34 rfl rfl
set_option maxRecDepth 30000 in
theorem wk_2195 : Cond.methodLink "DryDockLaw" 258 ⟨"DryDockModel", "pairs", "(I)I"⟩ ∈ GW := GW_t10 35 rfl rfl
set_option maxRecDepth 30000 in
theorem wk_2196 : Cond.instanceMethod ⟨"DryDockModel", "pairs", "(I)I"⟩ ∈ GW := GW_t10 36 rfl rfl
set_option maxRecDepth 30000 in
theorem wk_2197 : Cond.selects "DryDockModel" ⟨"DryDockModel", "pairs", "(I)I"⟩ ⟨"DryDockModel", "pairs", "(I)I"⟩ ∈ GW := GW_t10 37 rfl rfl
set_option maxRecDepth 30000 in
theorem wk_2198 : Cond.code yX12_pairs cX12_pairs 7 (some .int) ∈ GW := GW_t10 38 rfl rfl
set_option maxRecDepth 30000 in
theorem wk_2199 : Cond.methodLink "DryDockModel" 491 ⟨"DryDockModel", "laysPairs", "()V"⟩ ∈ GW := GW_t10 39 rfl rfl
set_option maxRecDepth 30000 in
theorem wk_2201 : Cond.instanceMethod ⟨"DryDockModel", "laysPairs", "()V"⟩ ∈ GW := GW_t10 41 rfl rfl
set_option maxRecDepth 30000 in
theorem wk_2202 : Cond.code yX12_laysPairs cX12_laysPairs 4 none ∈ GW := GW_t10 42 rfl rfl
set_option maxRecDepth 30000 in
theorem wk_2203 : Cond.methodLink "DryDockModel" 488 ⟨"DryDockModel", "pairedBy", "(II)I"⟩ ∈ GW := GW_t10 43 rfl rfl
set_option maxRecDepth 30000 in
theorem wk_2205 : Cond.instanceMethod ⟨"DryDockModel", "pairedBy", "(II)I"⟩ ∈ GW := GW_t10 45 rfl rfl
set_option maxRecDepth 30000 in
theorem wk_2206 : Cond.code yX12_pairedBy cX12_pairedBy 5 (some .int) ∈ GW := GW_t10 46 rfl rfl
set_option maxRecDepth 30000 in
theorem wk_2207 : Cond.methodLink "DryDockModel" 482 ⟨"DryDockModel", "firstOf", "(I)I"⟩ ∈ GW := GW_t10 47 rfl rfl
set_option maxRecDepth 30000 in
theorem wk_2208 : Cond.static ⟨"DryDockModel", "firstOf", "(I)I"⟩ ∈ GW := GW_t10 48 rfl rfl
set_option maxRecDepth 30000 in
theorem wk_2209 : Cond.code yX12_firstOf cX12_firstOf 1 (some .int) ∈ GW := GW_t10 49 rfl rfl
set_option maxRecDepth 30000 in
theorem wk_2210 : Cond.methodLink "DryDockModel" 480 ⟨"java/lang/Integer", "numberOfTrailingZeros", "(I)I"⟩ ∈ GW := GW_t10 50 rfl rfl
set_option maxRecDepth 30000 in
theorem wk_2211 : Cond.methodLink "DryDockModel" 485 ⟨"DryDockModel", "canPair", "(II)Z"⟩ ∈ GW := GW_t10 51 rfl rfl
set_option maxRecDepth 30000 in
theorem wk_2213 : Cond.instanceMethod ⟨"DryDockModel", "canPair", "(II)Z"⟩ ∈ GW := GW_t10 53 rfl rfl
set_option maxRecDepth 30000 in
theorem wk_2214 : Cond.code yX12_canPair cX12_canPair 3 (some .boolean) ∈ GW := GW_t10 54 rfl rfl
set_option maxRecDepth 30000 in
theorem wk_2215 : Cond.methodLink "DryDockLaw" 261 ⟨"DryDockModel", "rests", "(I)I"⟩ ∈ GW := GW_t10 55 rfl rfl
set_option maxRecDepth 30000 in
theorem wk_2216 : Cond.instanceMethod ⟨"DryDockModel", "rests", "(I)I"⟩ ∈ GW := GW_t10 56 rfl rfl
set_option maxRecDepth 30000 in
theorem wk_2217 : Cond.selects "DryDockModel" ⟨"DryDockModel", "rests", "(I)I"⟩ ⟨"DryDockModel", "rests", "(I)I"⟩ ∈ GW := GW_t10 57 rfl rfl
set_option maxRecDepth 30000 in
theorem wk_2218 : Cond.code yX12_rests cX12_rests 5 (some .int) ∈ GW := GW_t10 58 rfl rfl
set_option maxRecDepth 30000 in
theorem wk_2219 : Cond.methodLink "DryDockModel" 494 ⟨"DryDockModel", "masterHas", "(III)I"⟩ ∈ GW := GW_t10 59 rfl rfl
set_option maxRecDepth 30000 in
theorem wk_2221 : Cond.instanceMethod ⟨"DryDockModel", "masterHas", "(III)I"⟩ ∈ GW := GW_t10 61 rfl rfl
set_option maxRecDepth 30000 in
theorem wk_2222 : Cond.code yX12_masterHas cX12_masterHas 4 (some .int) ∈ GW := GW_t10 62 rfl rfl
set_option maxRecDepth 30000 in
theorem wk_2223 : Cond.methodLink "DryDockModel" 497 ⟨"DryDockModel", "pilotHas", "(II)I"⟩ ∈ GW := GW_t10 63 rfl rfl
set_option maxRecDepth 30000 in
theorem wk_2224 : Cond.static ⟨"DryDockModel", "pilotHas", "(II)I"⟩ ∈ GW := GW_t10 64 rfl rfl
set_option maxRecDepth 30000 in
theorem wk_2225 : Cond.code yX12_pilotHas cX12_pilotHas 2 (some .int) ∈ GW := GW_t10 65 rfl rfl
set_option maxRecDepth 30000 in
theorem wk_2226 : Cond.methodLink "DryDockLaw" 264 ⟨"DryDockModel", "odds", "(II)I"⟩ ∈ GW := GW_t10 66 rfl rfl
set_option maxRecDepth 30000 in
theorem wk_2227 : Cond.instanceMethod ⟨"DryDockModel", "odds", "(II)I"⟩ ∈ GW := GW_t10 67 rfl rfl
set_option maxRecDepth 30000 in
theorem wk_2228 : Cond.selects "DryDockModel" ⟨"DryDockModel", "odds", "(II)I"⟩ ⟨"DryDockModel", "odds", "(II)I"⟩ ∈ GW := GW_t10 68 rfl rfl
set_option maxRecDepth 30000 in
theorem wk_2229 : Cond.code yX12_odds cX12_odds 8 (some .int) ∈ GW := GW_t10 69 rfl rfl
set_option maxRecDepth 30000 in
theorem wk_2230 : Cond.constantLong "DryDockModel" 500 (10000 : Int64) ∈ GW := GW_t10 70 rfl rfl
set_option maxRecDepth 30000 in
theorem wk_2231 : Cond.methodLink "DryDockLaw" 267 ⟨"DryDockModel", "most", "(I)I"⟩ ∈ GW := GW_t10 71 rfl rfl
set_option maxRecDepth 30000 in
theorem wk_2232 : Cond.instanceMethod ⟨"DryDockModel", "most", "(I)I"⟩ ∈ GW := GW_t10 72 rfl rfl
set_option maxRecDepth 30000 in
theorem wk_2233 : Cond.selects "DryDockModel" ⟨"DryDockModel", "most", "(I)I"⟩ ⟨"DryDockModel", "most", "(I)I"⟩ ∈ GW := GW_t10 73 rfl rfl
set_option maxRecDepth 30000 in
theorem wk_2234 : Cond.code yX12_most cX12_most 4 (some .int) ∈ GW := GW_t10 74 rfl rfl
set_option maxRecDepth 30000 in
theorem wk_2235 : Cond.methodLink "DryDockLaw" 271 ⟨"DryDockModel", "waiting", "()I"⟩ ∈ GW := GW_t10 75 rfl rfl
set_option maxRecDepth 30000 in
theorem wk_2236 : Cond.instanceMethod ⟨"DryDockModel", "waiting", "()I"⟩ ∈ GW := GW_t10 76 rfl rfl
set_option maxRecDepth 30000 in
theorem wk_2237 : Cond.selects "DryDockModel" ⟨"DryDockModel", "waiting", "()I"⟩ ⟨"DryDockModel", "waiting", "()I"⟩ ∈ GW := GW_t10 77 rfl rfl
set_option maxRecDepth 30000 in
theorem wk_2238 : Cond.code yX12_waiting cX12_waiting 1 (some .int) ∈ GW := GW_t10 78 rfl rfl
set_option maxRecDepth 30000 in
theorem wk_2239 : Cond.methodLink "DryDockModel" 502 ⟨"DryDockModel", "allThat", "(II)I"⟩ ∈ GW := GW_t10 79 rfl rfl
set_option maxRecDepth 30000 in
theorem wk_2241 : Cond.instanceMethod ⟨"DryDockModel", "allThat", "(II)I"⟩ ∈ GW := GW_t10 81 rfl rfl
set_option maxRecDepth 30000 in
theorem wk_2242 : Cond.code yX12_allThat cX12_allThat 5 (some .int) ∈ GW := GW_t10 82 rfl rfl
set_option maxRecDepth 30000 in
theorem wk_2243 : Cond.methodLink "DryDockLaw" 275 ⟨"DryDockModel", "docked", "()I"⟩ ∈ GW := GW_t10 83 rfl rfl
set_option maxRecDepth 30000 in
theorem wk_2244 : Cond.instanceMethod ⟨"DryDockModel", "docked", "()I"⟩ ∈ GW := GW_t10 84 rfl rfl
set_option maxRecDepth 30000 in
theorem wk_2245 : Cond.selects "DryDockModel" ⟨"DryDockModel", "docked", "()I"⟩ ⟨"DryDockModel", "docked", "()I"⟩ ∈ GW := GW_t10 85 rfl rfl
set_option maxRecDepth 30000 in
theorem wk_2246 : Cond.code yX12_docked cX12_docked 1 (some .int) ∈ GW := GW_t10 86 rfl rfl
set_option maxRecDepth 30000 in
theorem wk_2247 : Cond.methodLink "DryDockLaw" 279 ⟨"DryDockModel", "gone", "()I"⟩ ∈ GW := GW_t10 87 rfl rfl
set_option maxRecDepth 30000 in
theorem wk_2248 : Cond.instanceMethod ⟨"DryDockModel", "gone", "()I"⟩ ∈ GW := GW_t10 88 rfl rfl
set_option maxRecDepth 30000 in
theorem wk_2249 : Cond.selects "DryDockModel" ⟨"DryDockModel", "gone", "()I"⟩ ⟨"DryDockModel", "gone", "()I"⟩ ∈ GW := GW_t10 89 rfl rfl
set_option maxRecDepth 30000 in
theorem wk_2250 : Cond.code yX12_gone cX12_gone 1 (some .int) ∈ GW := GW_t10 90 rfl rfl
set_option maxRecDepth 30000 in
theorem wk_2251 : Cond.methodLink "DryDockLaw" 283 ⟨"DryDockModel", "hurt", "()I"⟩ ∈ GW := GW_t10 91 rfl rfl
set_option maxRecDepth 30000 in
theorem wk_2252 : Cond.instanceMethod ⟨"DryDockModel", "hurt", "()I"⟩ ∈ GW := GW_t10 92 rfl rfl
set_option maxRecDepth 30000 in
theorem wk_2253 : Cond.selects "DryDockModel" ⟨"DryDockModel", "hurt", "()I"⟩ ⟨"DryDockModel", "hurt", "()I"⟩ ∈ GW := GW_t10 93 rfl rfl
set_option maxRecDepth 30000 in
theorem wk_2254 : Cond.code yX12_hurt cX12_hurt 1 (some .int) ∈ GW := GW_t10 94 rfl rfl
set_option maxRecDepth 30000 in
theorem wk_2255 : Cond.methodLink "DryDockLaw" 287 ⟨"DryDockModel", "twins", "()I"⟩ ∈ GW := GW_t10 95 rfl rfl
set_option maxRecDepth 30000 in
theorem wk_2256 : Cond.instanceMethod ⟨"DryDockModel", "twins", "()I"⟩ ∈ GW := GW_t10 96 rfl rfl
set_option maxRecDepth 30000 in
theorem wk_2257 : Cond.selects "DryDockModel" ⟨"DryDockModel", "twins", "()I"⟩ ⟨"DryDockModel", "twins", "()I"⟩ ∈ GW := GW_t10 97 rfl rfl
set_option maxRecDepth 30000 in
theorem wk_2258 : Cond.code yX12_twins cX12_twins 4 (some .int) ∈ GW := GW_t10 98 rfl rfl
set_option maxRecDepth 30000 in
theorem wk_2259 : Cond.methodLink "DryDockLaw" 291 ⟨"DryDockModel", "water", "(Z)I"⟩ ∈ GW := GW_t10 99 rfl rfl
set_option maxRecDepth 30000 in
theorem wk_2260 : Cond.instanceMethod ⟨"DryDockModel", "water", "(Z)I"⟩ ∈ GW := GW_t10 100 rfl rfl
set_option maxRecDepth 30000 in
theorem wk_2261 : Cond.selects "DryDockModel" ⟨"DryDockModel", "water", "(Z)I"⟩ ⟨"DryDockModel", "water", "(Z)I"⟩ ∈ GW := GW_t10 101 rfl rfl
set_option maxRecDepth 30000 in
theorem wk_2262 : Cond.code yX12_water cX12_water 4 (some .int) ∈ GW := GW_t10 102 rfl rfl
set_option maxRecDepth 30000 in
theorem wk_2263 : Cond.methodLink "DryDockLaw" 294 ⟨"DryDockModel", "ahead", "(IZ)I"⟩ ∈ GW := GW_t10 103 rfl rfl
set_option maxRecDepth 30000 in
theorem wk_2264 : Cond.instanceMethod ⟨"DryDockModel", "ahead", "(IZ)I"⟩ ∈ GW := GW_t10 104 rfl rfl
set_option maxRecDepth 30000 in
theorem wk_2265 : Cond.selects "DryDockModel" ⟨"DryDockModel", "ahead", "(IZ)I"⟩ ⟨"DryDockModel", "ahead", "(IZ)I"⟩ ∈ GW := GW_t10 105 rfl rfl
set_option maxRecDepth 30000 in
theorem wk_2266 : Cond.code yX12_ahead cX12_ahead 3 (some .int) ∈ GW := GW_t10 106 rfl rfl
set_option maxRecDepth 30000 in
theorem wk_2267 : Cond.methodLink "DryDockModel" 505 ⟨"DryDockModel", "noHours", "(I)Z"⟩ ∈ GW := GW_t10 107 rfl rfl
set_option maxRecDepth 30000 in
theorem wk_2268 : Cond.static ⟨"DryDockModel", "noHours", "(I)Z"⟩ ∈ GW := GW_t10 108 rfl rfl
set_option maxRecDepth 30000 in
theorem wk_2269 : Cond.code yX12_noHours cX12_noHours 1 (some .boolean) ∈ GW := GW_t10 109 rfl rfl
set_option maxRecDepth 30000 in
theorem wk_2270 : Cond.methodLink "DryDockModel" 508 ⟨"DryDockModel", "levelOrWork", "(IZZ)I"⟩ ∈ GW := GW_t10 110 rfl rfl
set_option maxRecDepth 30000 in
theorem wk_2272 : Cond.instanceMethod ⟨"DryDockModel", "levelOrWork", "(IZZ)I"⟩ ∈ GW := GW_t10 112 rfl rfl
set_option maxRecDepth 30000 in
theorem wk_2273 : Cond.code yX12_levelOrWork cX12_levelOrWork 5 (some .int) ∈ GW := GW_t10 113 rfl rfl
set_option maxRecDepth 30000 in
theorem wk_2274 : Cond.methodLink "DryDockLaw" 297 ⟨"DryDockModel", "trial", "(IZ)I"⟩ ∈ GW := GW_t10 114 rfl rfl
set_option maxRecDepth 30000 in
theorem wk_2275 : Cond.instanceMethod ⟨"DryDockModel", "trial", "(IZ)I"⟩ ∈ GW := GW_t10 115 rfl rfl
set_option maxRecDepth 30000 in
theorem wk_2276 : Cond.selects "DryDockModel" ⟨"DryDockModel", "trial", "(IZ)I"⟩ ⟨"DryDockModel", "trial", "(IZ)I"⟩ ∈ GW := GW_t10 116 rfl rfl
set_option maxRecDepth 30000 in
theorem wk_2277 : Cond.code yX12_trial cX12_trial 3 (some .int) ∈ GW := GW_t10 117 rfl rfl
set_option maxRecDepth 30000 in
theorem wk_2278 : Cond.methodLink "DryDockLaw" 300 ⟨"DryDockModel", "span", "(IZ)I"⟩ ∈ GW := GW_t10 118 rfl rfl
set_option maxRecDepth 30000 in
theorem wk_2279 : Cond.instanceMethod ⟨"DryDockModel", "span", "(IZ)I"⟩ ∈ GW := GW_t10 119 rfl rfl
set_option maxRecDepth 30000 in
theorem wk_2280 : Cond.selects "DryDockModel" ⟨"DryDockModel", "span", "(IZ)I"⟩ ⟨"DryDockModel", "span", "(IZ)I"⟩ ∈ GW := GW_t10 120 rfl rfl
set_option maxRecDepth 30000 in
theorem wk_2281 : Cond.code yX12_span cX12_span 6 (some .int) ∈ GW := GW_t10 121 rfl rfl
set_option maxRecDepth 30000 in
theorem wk_2282 : Cond.methodLink "DryDockLaw" 303 ⟨"DryDockModel", "led", "(IZ)I"⟩ ∈ GW := GW_t10 122 rfl rfl
set_option maxRecDepth 30000 in
theorem wk_2283 : Cond.instanceMethod ⟨"DryDockModel", "led", "(IZ)I"⟩ ∈ GW := GW_t10 123 rfl rfl
set_option maxRecDepth 30000 in
theorem wk_2284 : Cond.selects "DryDockModel" ⟨"DryDockModel", "led", "(IZ)I"⟩ ⟨"DryDockModel", "led", "(IZ)I"⟩ ∈ GW := GW_t10 124 rfl rfl
set_option maxRecDepth 30000 in
theorem wk_2285 : Cond.code yX12_led cX12_led 6 (some .int) ∈ GW := GW_t10 125 rfl rfl
set_option maxRecDepth 30000 in
theorem wk_2286 : Cond.methodLink "DryDockModel" 512 ⟨"DryDockModel", "ofLog", "(II)I"⟩ ∈ GW := GW_t10 126 rfl rfl
set_option maxRecDepth 30000 in
theorem wk_2288 : Cond.instanceMethod ⟨"DryDockModel", "ofLog", "(II)I"⟩ ∈ GW := GW_t10 128 rfl rfl
set_option maxRecDepth 30000 in
theorem wk_2289 : Cond.code yX12_ofLog cX12_ofLog 3 (some .int) ∈ GW := GW_t10 129 rfl rfl
set_option maxRecDepth 30000 in
theorem wk_2290 : Cond.methodLink "DryDockLaw" 306 ⟨"DryDockModel", "log", "(II)I"⟩ ∈ GW := GW_t10 130 rfl rfl
set_option maxRecDepth 30000 in
theorem wk_2291 : Cond.instanceMethod ⟨"DryDockModel", "log", "(II)I"⟩ ∈ GW := GW_t10 131 rfl rfl
set_option maxRecDepth 30000 in
theorem wk_2292 : Cond.selects "DryDockModel" ⟨"DryDockModel", "log", "(II)I"⟩ ⟨"DryDockModel", "log", "(II)I"⟩ ∈ GW := GW_t10 132 rfl rfl
set_option maxRecDepth 30000 in
theorem wk_2293 : Cond.code yX12_log cX12_log 3 (some .int) ∈ GW := GW_t10 133 rfl rfl
set_option maxRecDepth 30000 in
theorem wk_2294 : Cond.methodLink "DryDockLaw" 310 ⟨"DryDockModel", "seed", "(I)I"⟩ ∈ GW := GW_t10 134 rfl rfl
set_option maxRecDepth 30000 in
theorem wk_2295 : Cond.instanceMethod ⟨"DryDockModel", "seed", "(I)I"⟩ ∈ GW := GW_t10 135 rfl rfl
set_option maxRecDepth 30000 in
theorem wk_2296 : Cond.selects "DryDockModel" ⟨"DryDockModel", "seed", "(I)I"⟩ ⟨"DryDockModel", "seed", "(I)I"⟩ ∈ GW := GW_t10 136 rfl rfl
set_option maxRecDepth 30000 in
theorem wk_2297 : Cond.code yX12_seed cX12_seed 3 (some .int) ∈ GW := GW_t10 137 rfl rfl
set_option maxRecDepth 30000 in
theorem wk_2298 : Cond.methodLink "DryDockLaw" 326 ⟨"DryDockModel", "count", "(I)I"⟩ ∈ GW := GW_t10 138 rfl rfl
set_option maxRecDepth 30000 in
theorem wk_2299 : Cond.instanceMethod ⟨"DryDockModel", "count", "(I)I"⟩ ∈ GW := GW_t10 139 rfl rfl
set_option maxRecDepth 30000 in
theorem wk_2300 : Cond.selects "DryDockModel" ⟨"DryDockModel", "count", "(I)I"⟩ ⟨"DryDockModel", "count", "(I)I"⟩ ∈ GW := GW_t10 140 rfl rfl
set_option maxRecDepth 30000 in
theorem wk_2301 : Cond.code yX12_count cX12_count 2 (some .int) ∈ GW := GW_t10 141 rfl rfl
set_option maxRecDepth 30000 in
theorem wk_2302 : Cond.sameMethod "DryDock$Reader" "DryDock$Reader" "split" "()V" ∈ GW := GW_t10 142 rfl rfl
set_option maxRecDepth 30000 in
theorem wk_2303 : Cond.sameMethod "DryDock$Reader" "DryDock$Reader" "takeSign" "(C)Z" ∈ GW := GW_t10 143 rfl rfl
set_option maxRecDepth 30000 in
theorem wk_2304 : Cond.selects "DryDock$DockReader" ⟨"DryDock$Reader", "takeSign", "(C)Z"⟩ ⟨"DryDock$Reader", "takeSign", "(C)Z"⟩ ∈ GW := GW_t10 144 rfl rfl
set_option maxRecDepth 30000 in
theorem wk_2305 : Cond.selects "DryDock$LawReader" ⟨"DryDock$Reader", "takeSign", "(C)Z"⟩ ⟨"DryDock$Reader", "takeSign", "(C)Z"⟩ ∈ GW := GW_t10 145 rfl rfl
set_option maxRecDepth 30000 in
theorem wk_2306 : Cond.sameMethod "java/lang/Throwable" "java/lang/Throwable" "fillInStackTrace" "(I)Ljava/lang/Throwable;" ∈ GW := GW_t10 146 rfl rfl
set_option maxRecDepth 30000 in
theorem wk_2326 : Cond.fieldLink "java/lang/String" 9 "java/lang/String" "value" "[B" ∈ GW := GW_t10 166 rfl rfl
set_option maxRecDepth 30000 in
theorem wk_2327 : Cond.fieldLink "java/lang/String" 15 "java/lang/String" "coder" "B" ∈ GW := GW_t10 167 rfl rfl
set_option maxRecDepth 30000 in
theorem wp_0 : Cond.selects "DryDock$Law" ⟨"DryDock$Law", "holds", "(IILDryDock$State;I)Z"⟩ ⟨"DryDock$Law", "holds", "(IILDryDock$State;I)Z"⟩ ∈ GW := GW_p 0 rfl rfl
set_option maxRecDepth 30000 in
theorem wp_1 : Cond.selects "DryDock$Plans" ⟨"DryDock$Plans", "findBins", "(I)V"⟩ ⟨"DryDock$Plans", "findBins", "(I)V"⟩ ∈ GW := GW_p 1 rfl rfl
set_option maxRecDepth 30000 in
theorem wp_2 : Cond.selects "DryDock$Plans" ⟨"DryDock$Plans", "findFees", "(LDryDock$State;LDryDock$Law;)V"⟩ ⟨"DryDock$Plans", "findFees", "(LDryDock$State;LDryDock$Law;)V"⟩ ∈ GW := GW_p 2 rfl rfl
set_option maxRecDepth 30000 in
theorem wp_3 : Cond.selects "DryDock$Plans" ⟨"DryDock$Plans", "leastFilling", "(ILDryDock$State;)I"⟩ ⟨"DryDock$Plans", "leastFilling", "(ILDryDock$State;)I"⟩ ∈ GW := GW_p 3 rfl rfl
set_option maxRecDepth 30000 in
theorem wp_4 : Cond.selects "DryDock$Plans" ⟨"DryDock$Plans", "filledBy", "(II)I"⟩ ⟨"DryDock$Plans", "filledBy", "(II)I"⟩ ∈ GW := GW_p 4 rfl rfl
set_option maxRecDepth 30000 in
theorem wp_5 : Cond.selects "DryDock$Plans" ⟨"DryDock$Plans", "feesOf", "(I)I"⟩ ⟨"DryDock$Plans", "feesOf", "(I)I"⟩ ∈ GW := GW_p 5 rfl rfl
set_option maxRecDepth 30000 in
theorem wp_6 : Cond.selects "DryDock" ⟨"DryDock", "firstHour", "(I)I"⟩ ⟨"DryDock", "firstHour", "(I)I"⟩ ∈ GW := GW_p 6 rfl rfl
set_option maxRecDepth 30000 in
theorem wp_7 : Cond.selects "DryDock$State" ⟨"DryDock$State", "nextSurge", "()I"⟩ ⟨"DryDock$State", "nextSurge", "()I"⟩ ∈ GW := GW_p 7 rfl rfl
set_option maxRecDepth 30000 in
theorem wp_8 : Cond.selects "DryDock$State" ⟨"DryDock$State", "hurtUnborne", "()V"⟩ ⟨"DryDock$State", "hurtUnborne", "()V"⟩ ∈ GW := GW_p 8 rfl rfl
set_option maxRecDepth 30000 in
theorem wp_9 : Cond.selects "DryDock$State" ⟨"DryDock$State", "sits", "(I)Z"⟩ ⟨"DryDock$State", "sits", "(I)Z"⟩ ∈ GW := GW_p 9 rfl rfl
set_option maxRecDepth 30000 in
theorem wp_10 : Cond.selects "DryDock$State" ⟨"DryDock$State", "workHands", "()I"⟩ ⟨"DryDock$State", "workHands", "()I"⟩ ∈ GW := GW_p 10 rfl rfl
set_option maxRecDepth 30000 in
theorem wp_11 : Cond.selects "DryDock$Plans" ⟨"DryDock$Plans", "orderRest", "(IILDryDock$State;)V"⟩ ⟨"DryDock$Plans", "orderRest", "(IILDryDock$State;)V"⟩ ∈ GW := GW_p 11 rfl rfl
set_option maxRecDepth 30000 in
theorem wp_12 : Cond.selects "DryDock$DockReader" ⟨"DryDock$DockReader", "readShip", "(I)Z"⟩ ⟨"DryDock$DockReader", "readShip", "(I)Z"⟩ ∈ GW := GW_p 12 rfl rfl
set_option maxRecDepth 30000 in
theorem wp_13 : Cond.selects "DryDock$DockReader" ⟨"DryDock$DockReader", "takeFreePlace", "(I)Z"⟩ ⟨"DryDock$DockReader", "takeFreePlace", "(I)Z"⟩ ∈ GW := GW_p 13 rfl rfl
set_option maxRecDepth 30000 in
theorem wp_14 : Cond.selects "DryDock$DockReader" ⟨"DryDock$DockReader", "readTides", "()Z"⟩ ⟨"DryDock$DockReader", "readTides", "()Z"⟩ ∈ GW := GW_p 14 rfl rfl
set_option maxRecDepth 30000 in
theorem wp_15 : Cond.selects "DryDock$DockReader" ⟨"DryDock$DockReader", "readBlocks", "()Z"⟩ ⟨"DryDock$DockReader", "readBlocks", "()Z"⟩ ∈ GW := GW_p 15 rfl rfl
set_option maxRecDepth 30000 in
theorem wp_16 : Cond.selects "DryDock$DockReader" ⟨"DryDock$DockReader", "readSetting", "()Z"⟩ ⟨"DryDock$DockReader", "readSetting", "()Z"⟩ ∈ GW := GW_p 16 rfl rfl
set_option maxRecDepth 30000 in
theorem wp_17 : Cond.selects "DryDock$DockReader" ⟨"DryDock$DockReader", "setLevel", "()Z"⟩ ⟨"DryDock$DockReader", "setLevel", "()Z"⟩ ∈ GW := GW_p 17 rfl rfl
set_option maxRecDepth 30000 in
theorem wp_18 : Cond.selects "DryDock$DockReader" ⟨"DryDock$DockReader", "setPumps", "()Z"⟩ ⟨"DryDock$DockReader", "setPumps", "()Z"⟩ ∈ GW := GW_p 18 rfl rfl
set_option maxRecDepth 30000 in
theorem wp_19 : Cond.selects "DryDock$DockReader" ⟨"DryDock$DockReader", "setHands", "()Z"⟩ ⟨"DryDock$DockReader", "setHands", "()Z"⟩ ∈ GW := GW_p 19 rfl rfl
set_option maxRecDepth 30000 in
theorem wp_20 : Cond.selects "DryDock$DockReader" ⟨"DryDock$DockReader", "setSurge", "()Z"⟩ ⟨"DryDock$DockReader", "setSurge", "()Z"⟩ ∈ GW := GW_p 20 rfl rfl
set_option maxRecDepth 30000 in
theorem wp_21 : Cond.selects "DryDock$DockReader" ⟨"DryDock$DockReader", "setHour", "()Z"⟩ ⟨"DryDock$DockReader", "setHour", "()Z"⟩ ∈ GW := GW_p 21 rfl rfl
set_option maxRecDepth 30000 in
theorem wp_22 : Cond.selects "DryDock$LawReader" ⟨"DryDock$LawReader", "takeKind", "()I"⟩ ⟨"DryDock$LawReader", "takeKind", "()I"⟩ ∈ GW := GW_p 22 rfl rfl
set_option maxRecDepth 30000 in
theorem wp_23 : Cond.selects "DryDock$LawReader" ⟨"DryDock$LawReader", "readAny", "(I)Z"⟩ ⟨"DryDock$LawReader", "readAny", "(I)Z"⟩ ∈ GW := GW_p 23 rfl rfl
set_option maxRecDepth 30000 in
theorem wp_24 : Cond.selects "DryDock$LawReader" ⟨"DryDock$LawReader", "readAll", "(I)Z"⟩ ⟨"DryDock$LawReader", "readAll", "(I)Z"⟩ ∈ GW := GW_p 24 rfl rfl
set_option maxRecDepth 30000 in
theorem wp_25 : Cond.selects "DryDock$LawReader" ⟨"DryDock$LawReader", "readAtom", "(I)Z"⟩ ⟨"DryDock$LawReader", "readAtom", "(I)Z"⟩ ∈ GW := GW_p 25 rfl rfl
set_option maxRecDepth 30000 in
theorem wp_26 : Cond.selects "DryDock$LawReader" ⟨"DryDock$LawReader", "readComparison", "()Z"⟩ ⟨"DryDock$LawReader", "readComparison", "()Z"⟩ ∈ GW := GW_p 26 rfl rfl
set_option maxRecDepth 30000 in
theorem wp_27 : Cond.selects "DryDock$LawReader" ⟨"DryDock$LawReader", "readSum", "()Z"⟩ ⟨"DryDock$LawReader", "readSum", "()Z"⟩ ∈ GW := GW_p 27 rfl rfl
set_option maxRecDepth 30000 in
theorem wp_28 : Cond.selects "DryDock$LawReader" ⟨"DryDock$LawReader", "readPart", "()Z"⟩ ⟨"DryDock$LawReader", "readPart", "()Z"⟩ ∈ GW := GW_p 28 rfl rfl
set_option maxRecDepth 30000 in
theorem wp_29 : Cond.selects "java/lang/Throwable" ⟨"java/lang/Throwable", "fillInStackTrace", "(I)Ljava/lang/Throwable;"⟩ ⟨"java/lang/Throwable", "fillInStackTrace", "(I)Ljava/lang/Throwable;"⟩ ∈ GW := GW_p 29 rfl rfl
set_option maxRecDepth 30000 in
theorem wp_30 : Cond.selects "DryDock" ⟨"DryDock", "needShip", "(I)V"⟩ ⟨"DryDock", "needShip", "(I)V"⟩ ∈ GW := GW_p 30 rfl rfl
set_option maxRecDepth 30000 in
theorem wp_31 : Cond.selects "DryDock" ⟨"DryDock", "needPlace", "(I)V"⟩ ⟨"DryDock", "needPlace", "(I)V"⟩ ∈ GW := GW_p 31 rfl rfl
set_option maxRecDepth 30000 in
theorem wp_32 : Cond.selects "DryDock" ⟨"DryDock", "needTide", "(I)V"⟩ ⟨"DryDock", "needTide", "(I)V"⟩ ∈ GW := GW_p 32 rfl rfl
set_option maxRecDepth 30000 in
theorem wp_33 : Cond.selects "DryDock" ⟨"DryDock", "needNumber", "(II)V"⟩ ⟨"DryDock", "needNumber", "(II)V"⟩ ∈ GW := GW_p 33 rfl rfl
set_option maxRecDepth 30000 in
theorem wp_34 : Cond.selects "DryDock" ⟨"DryDock", "needCurves", "()V"⟩ ⟨"DryDock", "needCurves", "()V"⟩ ∈ GW := GW_p 34 rfl rfl
set_option maxRecDepth 30000 in
theorem wp_35 : Cond.selects "DryDock$Curves" ⟨"DryDock$Curves", "searchLate", "(IIZ)V"⟩ ⟨"DryDock$Curves", "searchLate", "(IIZ)V"⟩ ∈ GW := GW_p 35 rfl rfl
set_option maxRecDepth 30000 in
theorem wp_36 : Cond.selects "DryDock$Curves" ⟨"DryDock$Curves", "fits", "(I)Z"⟩ ⟨"DryDock$Curves", "fits", "(I)Z"⟩ ∈ GW := GW_p 36 rfl rfl
set_option maxRecDepth 30000 in
theorem wp_37 : Cond.selects "DryDock$Curves" ⟨"DryDock$Curves", "heightAt", "(II)I"⟩ ⟨"DryDock$Curves", "heightAt", "(II)I"⟩ ∈ GW := GW_p 37 rfl rfl
set_option maxRecDepth 30000 in
theorem wp_38 : Cond.selects "DryDock$Curves" ⟨"DryDock$Curves", "part", "(I)V"⟩ ⟨"DryDock$Curves", "part", "(I)V"⟩ ∈ GW := GW_p 38 rfl rfl
set_option maxRecDepth 30000 in
theorem wp_39 : Cond.selects "DryDock$Curves" ⟨"DryDock$Curves", "greatestPart", "(I)I"⟩ ⟨"DryDock$Curves", "greatestPart", "(I)I"⟩ ∈ GW := GW_p 39 rfl rfl
set_option maxRecDepth 30000 in
theorem wp_40 : Cond.selects "DryDock" ⟨"DryDock", "needSoundings", "()V"⟩ ⟨"DryDock", "needSoundings", "()V"⟩ ∈ GW := GW_p 40 rfl rfl
set_option maxRecDepth 30000 in
theorem wp_41 : Cond.selects "DryDock$Soundings" ⟨"DryDock$Soundings", "weigh", "(II)V"⟩ ⟨"DryDock$Soundings", "weigh", "(II)V"⟩ ∈ GW := GW_p 41 rfl rfl
set_option maxRecDepth 30000 in
theorem wp_42 : Cond.selects "DryDock$Soundings" ⟨"DryDock$Soundings", "wrongRows", "(II)I"⟩ ⟨"DryDock$Soundings", "wrongRows", "(II)I"⟩ ∈ GW := GW_p 42 rfl rfl
set_option maxRecDepth 30000 in
theorem wp_43 : Cond.selects "DryDock$Plans" ⟨"DryDock$Plans", "beddedAt", "(LDryDock$State;III)I"⟩ ⟨"DryDock$Plans", "beddedAt", "(LDryDock$State;III)I"⟩ ∈ GW := GW_p 43 rfl rfl
set_option maxRecDepth 30000 in
theorem wp_44 : Cond.selects "DryDock$Plans" ⟨"DryDock$Plans", "findBeds", "(LDryDock$State;I)V"⟩ ⟨"DryDock$Plans", "findBeds", "(LDryDock$State;I)V"⟩ ∈ GW := GW_p 44 rfl rfl
set_option maxRecDepth 30000 in
theorem wp_45 : Cond.selects "DryDock$Plans" ⟨"DryDock$Plans", "pairedWork", "(ILDryDock$State;)I"⟩ ⟨"DryDock$Plans", "pairedWork", "(ILDryDock$State;)I"⟩ ∈ GW := GW_p 45 rfl rfl
set_option maxRecDepth 30000 in
theorem wp_46 : Cond.selects "DryDock$Plans" ⟨"DryDock$Plans", "pairedWith", "(IIILDryDock$State;)I"⟩ ⟨"DryDock$Plans", "pairedWith", "(IIILDryDock$State;)I"⟩ ∈ GW := GW_p 46 rfl rfl
set_option maxRecDepth 30000 in
theorem wp_47 : Cond.selects "DryDock$Plans" ⟨"DryDock$Plans", "findMates", "(ILDryDock$State;)V"⟩ ⟨"DryDock$Plans", "findMates", "(ILDryDock$State;)V"⟩ ∈ GW := GW_p 47 rfl rfl
set_option maxRecDepth 30000 in
theorem wp_48 : Cond.selects "DryDock$Plans" ⟨"DryDock$Plans", "findMate", "(IIILDryDock$State;)I"⟩ ⟨"DryDock$Plans", "findMate", "(IIILDryDock$State;)I"⟩ ∈ GW := GW_p 48 rfl rfl
set_option maxRecDepth 30000 in
theorem wp_49 : Cond.selects "DryDock" ⟨"DryDock", "tryHours", "(IZZ)I"⟩ ⟨"DryDock", "tryHours", "(IZZ)I"⟩ ∈ GW := GW_p 49 rfl rfl
set_option maxRecDepth 30000 in
theorem wp_50 : Cond.selects "DryDockModel" ⟨"DryDockModel", "readAll", "(Z)I"⟩ ⟨"DryDockModel", "readAll", "(Z)I"⟩ ∈ GW := GW_p 50 rfl rfl
set_option maxRecDepth 30000 in
theorem wp_51 : Cond.selects "DryDockModel" ⟨"DryDockModel", "uses", "()V"⟩ ⟨"DryDockModel", "uses", "()V"⟩ ∈ GW := GW_p 51 rfl rfl
set_option maxRecDepth 30000 in
theorem wp_52 : Cond.selects "DryDockModel" ⟨"DryDockModel", "blanks", "()V"⟩ ⟨"DryDockModel", "blanks", "()V"⟩ ∈ GW := GW_p 52 rfl rfl
set_option maxRecDepth 30000 in
theorem wp_53 : Cond.selects "DryDockModel" ⟨"DryDockModel", "isAt", "(II)Z"⟩ ⟨"DryDockModel", "isAt", "(II)Z"⟩ ∈ GW := GW_p 53 rfl rfl
set_option maxRecDepth 30000 in
theorem wp_54 : Cond.selects "DryDockModel" ⟨"DryDockModel", "readLine", "(ZI)Z"⟩ ⟨"DryDockModel", "readLine", "(ZI)Z"⟩ ∈ GW := GW_p 54 rfl rfl
set_option maxRecDepth 30000 in
theorem wp_55 : Cond.selects "DryDockModel" ⟨"DryDockModel", "letters", "()V"⟩ ⟨"DryDockModel", "letters", "()V"⟩ ∈ GW := GW_p 55 rfl rfl
set_option maxRecDepth 30000 in
theorem wp_56 : Cond.selects "DryDockModel" ⟨"DryDockModel", "readDockLine", "()Z"⟩ ⟨"DryDockModel", "readDockLine", "()Z"⟩ ∈ GW := GW_p 56 rfl rfl
set_option maxRecDepth 30000 in
theorem wp_57 : Cond.selects "DryDockModel" ⟨"DryDockModel", "isWord", "(Ljava/lang/String;)Z"⟩ ⟨"DryDockModel", "isWord", "(Ljava/lang/String;)Z"⟩ ∈ GW := GW_p 57 rfl rfl
set_option maxRecDepth 30000 in
theorem wp_58 : Cond.selects "DryDockModel" ⟨"DryDockModel", "readShip", "()Z"⟩ ⟨"DryDockModel", "readShip", "()Z"⟩ ∈ GW := GW_p 58 rfl rfl
set_option maxRecDepth 30000 in
theorem wp_59 : Cond.selects "DryDockModel" ⟨"DryDockModel", "ships", "()I"⟩ ⟨"DryDockModel", "ships", "()I"⟩ ∈ GW := GW_p 59 rfl rfl
set_option maxRecDepth 30000 in
theorem wp_60 : Cond.selects "DryDockModel" ⟨"DryDockModel", "behind", "(Ljava/lang/String;II)I"⟩ ⟨"DryDockModel", "behind", "(Ljava/lang/String;II)I"⟩ ∈ GW := GW_p 60 rfl rfl
set_option maxRecDepth 30000 in
theorem wp_61 : Cond.selects "DryDockModel" ⟨"DryDockModel", "number", "(II)I"⟩ ⟨"DryDockModel", "number", "(II)I"⟩ ∈ GW := GW_p 61 rfl rfl
set_option maxRecDepth 30000 in
theorem wp_62 : Cond.selects "DryDockModel" ⟨"DryDockModel", "told", "(Ljava/lang/String;II)I"⟩ ⟨"DryDockModel", "told", "(Ljava/lang/String;II)I"⟩ ∈ GW := GW_p 62 rfl rfl
set_option maxRecDepth 30000 in
theorem wp_63 : Cond.selects "DryDockModel" ⟨"DryDockModel", "passes", "(Ljava/lang/String;)Z"⟩ ⟨"DryDockModel", "passes", "(Ljava/lang/String;)Z"⟩ ∈ GW := GW_p 63 rfl rfl
set_option maxRecDepth 30000 in
theorem wp_64 : Cond.selects "DryDockModel" ⟨"DryDockModel", "isShip", "(III)V"⟩ ⟨"DryDockModel", "isShip", "(III)V"⟩ ∈ GW := GW_p 64 rfl rfl
set_option maxRecDepth 30000 in
theorem wp_65 : Cond.selects "DryDockModel" ⟨"DryDockModel", "taken", "()I"⟩ ⟨"DryDockModel", "taken", "()I"⟩ ∈ GW := GW_p 65 rfl rfl
set_option maxRecDepth 30000 in
theorem wp_66 : Cond.selects "DryDockModel" ⟨"DryDockModel", "placesOf", "(I)I"⟩ ⟨"DryDockModel", "placesOf", "(I)I"⟩ ∈ GW := GW_p 66 rfl rfl
set_option maxRecDepth 30000 in
theorem wp_67 : Cond.selects "DryDockModel" ⟨"DryDockModel", "isDocked", "(I)Z"⟩ ⟨"DryDockModel", "isDocked", "(I)Z"⟩ ∈ GW := GW_p 67 rfl rfl
set_option maxRecDepth 30000 in
theorem wp_68 : Cond.selects "DryDockModel" ⟨"DryDockModel", "of", "(II)I"⟩ ⟨"DryDockModel", "of", "(II)I"⟩ ∈ GW := GW_p 68 rfl rfl
set_option maxRecDepth 30000 in
theorem wp_69 : Cond.selects "DryDockModel" ⟨"DryDockModel", "readTide", "()Z"⟩ ⟨"DryDockModel", "readTide", "()Z"⟩ ∈ GW := GW_p 69 rfl rfl
set_option maxRecDepth 30000 in
theorem wp_70 : Cond.selects "DryDockModel" ⟨"DryDockModel", "isNumberNext", "()Z"⟩ ⟨"DryDockModel", "isNumberNext", "()Z"⟩ ∈ GW := GW_p 70 rfl rfl
set_option maxRecDepth 30000 in
theorem wp_71 : Cond.selects "DryDockModel" ⟨"DryDockModel", "readBlocks", "()Z"⟩ ⟨"DryDockModel", "readBlocks", "()Z"⟩ ∈ GW := GW_p 71 rfl rfl
set_option maxRecDepth 30000 in
theorem wp_72 : Cond.selects "DryDockModel" ⟨"DryDockModel", "readNumber", "(III)Z"⟩ ⟨"DryDockModel", "readNumber", "(III)Z"⟩ ∈ GW := GW_p 72 rfl rfl
set_option maxRecDepth 30000 in
theorem wp_73 : Cond.selects "DryDockModel" ⟨"DryDockModel", "readShut", "()Z"⟩ ⟨"DryDockModel", "readShut", "()Z"⟩ ∈ GW := GW_p 73 rfl rfl
set_option maxRecDepth 30000 in
theorem wp_74 : Cond.selects "DryDockModel" ⟨"DryDockModel", "readLawLine", "(I)Z"⟩ ⟨"DryDockModel", "readLawLine", "(I)Z"⟩ ∈ GW := GW_p 74 rfl rfl
set_option maxRecDepth 30000 in
theorem wp_75 : Cond.selects "DryDockModel" ⟨"DryDockModel", "readCond", "()Z"⟩ ⟨"DryDockModel", "readCond", "()Z"⟩ ∈ GW := GW_p 75 rfl rfl
set_option maxRecDepth 30000 in
theorem wp_76 : Cond.selects "DryDockModel" ⟨"DryDockModel", "readAllOf", "()Z"⟩ ⟨"DryDockModel", "readAllOf", "()Z"⟩ ∈ GW := GW_p 76 rfl rfl
set_option maxRecDepth 30000 in
theorem wp_77 : Cond.selects "DryDockModel" ⟨"DryDockModel", "readAtom", "()Z"⟩ ⟨"DryDockModel", "readAtom", "()Z"⟩ ∈ GW := GW_p 77 rfl rfl
set_option maxRecDepth 30000 in
theorem wp_78 : Cond.selects "DryDockModel" ⟨"DryDockModel", "sign", "(I)Z"⟩ ⟨"DryDockModel", "sign", "(I)Z"⟩ ∈ GW := GW_p 78 rfl rfl
set_option maxRecDepth 30000 in
theorem wp_79 : Cond.selects "DryDockModel" ⟨"DryDockModel", "emits", "(II)V"⟩ ⟨"DryDockModel", "emits", "(II)V"⟩ ∈ GW := GW_p 79 rfl rfl
set_option maxRecDepth 30000 in
theorem wp_80 : Cond.selects "DryDockModel" ⟨"DryDockModel", "readTag", "()Z"⟩ ⟨"DryDockModel", "readTag", "()Z"⟩ ∈ GW := GW_p 80 rfl rfl
set_option maxRecDepth 30000 in
theorem wp_81 : Cond.selects "DryDockModel" ⟨"DryDockModel", "readSum", "()Z"⟩ ⟨"DryDockModel", "readSum", "()Z"⟩ ∈ GW := GW_p 81 rfl rfl
set_option maxRecDepth 30000 in
theorem wp_82 : Cond.selects "DryDockModel" ⟨"DryDockModel", "readPart", "()Z"⟩ ⟨"DryDockModel", "readPart", "()Z"⟩ ∈ GW := GW_p 82 rfl rfl
set_option maxRecDepth 30000 in
theorem wp_83 : Cond.selects "DryDockModel" ⟨"DryDockModel", "wordOfPart", "()I"⟩ ⟨"DryDockModel", "wordOfPart", "()I"⟩ ∈ GW := GW_p 83 rfl rfl
set_option maxRecDepth 30000 in
theorem wp_84 : Cond.selects "DryDockModel" ⟨"DryDockModel", "throwsIf", "(ZI)Z"⟩ ⟨"DryDockModel", "throwsIf", "(ZI)Z"⟩ ∈ GW := GW_p 84 rfl rfl
set_option maxRecDepth 30000 in
theorem wp_85 : Cond.selects "DryDockModel" ⟨"DryDockModel", "noShip", "(I)Z"⟩ ⟨"DryDockModel", "noShip", "(I)Z"⟩ ∈ GW := GW_p 85 rfl rfl
set_option maxRecDepth 30000 in
theorem wp_86 : Cond.selects "DryDockModel" ⟨"DryDockModel", "feeOf", "(I)I"⟩ ⟨"DryDockModel", "feeOf", "(I)I"⟩ ∈ GW := GW_p 86 rfl rfl
set_option maxRecDepth 30000 in
theorem wp_87 : Cond.selects "DryDockModel" ⟨"DryDockModel", "sumOf", "(II)I"⟩ ⟨"DryDockModel", "sumOf", "(II)I"⟩ ∈ GW := GW_p 87 rfl rfl
set_option maxRecDepth 30000 in
theorem wp_88 : Cond.selects "DryDockModel" ⟨"DryDockModel", "holdsLine", "(II)Z"⟩ ⟨"DryDockModel", "holdsLine", "(II)Z"⟩ ∈ GW := GW_p 88 rfl rfl
set_option maxRecDepth 30000 in
theorem wp_89 : Cond.selects "DryDockModel" ⟨"DryDockModel", "factOf", "(III)I"⟩ ⟨"DryDockModel", "factOf", "(III)I"⟩ ∈ GW := GW_p 89 rfl rfl
set_option maxRecDepth 30000 in
theorem wp_90 : Cond.selects "DryDockModel" ⟨"DryDockModel", "ofShip", "(II)I"⟩ ⟨"DryDockModel", "ofShip", "(II)I"⟩ ∈ GW := GW_p 90 rfl rfl
set_option maxRecDepth 30000 in
theorem wp_91 : Cond.selects "DryDockModel" ⟨"DryDockModel", "tideIn", "(I)I"⟩ ⟨"DryDockModel", "tideIn", "(I)I"⟩ ∈ GW := GW_p 91 rfl rfl
set_option maxRecDepth 30000 in
theorem wp_92 : Cond.selects "DryDockModel" ⟨"DryDockModel", "sits", "(I)Z"⟩ ⟨"DryDockModel", "sits", "(I)Z"⟩ ∈ GW := GW_p 92 rfl rfl
set_option maxRecDepth 30000 in
theorem wp_93 : Cond.selects "DryDockModel" ⟨"DryDockModel", "isBorne", "(I)Z"⟩ ⟨"DryDockModel", "isBorne", "(I)Z"⟩ ∈ GW := GW_p 93 rfl rfl
set_option maxRecDepth 30000 in
theorem wp_94 : Cond.selects "DryDockModel" ⟨"DryDockModel", "wedgesOf", "(I)I"⟩ ⟨"DryDockModel", "wedgesOf", "(I)I"⟩ ∈ GW := GW_p 94 rfl rfl
set_option maxRecDepth 30000 in
theorem wp_95 : Cond.selects "DryDockModel" ⟨"DryDockModel", "whenOf", "(I)I"⟩ ⟨"DryDockModel", "whenOf", "(I)I"⟩ ∈ GW := GW_p 95 rfl rfl
set_option maxRecDepth 30000 in
theorem wp_96 : Cond.selects "DryDockModel" ⟨"DryDockModel", "firstFit", "(I)I"⟩ ⟨"DryDockModel", "firstFit", "(I)I"⟩ ∈ GW := GW_p 96 rfl rfl
set_option maxRecDepth 30000 in
theorem wp_97 : Cond.selects "DryDockModel" ⟨"DryDockModel", "workOf", "(Z)I"⟩ ⟨"DryDockModel", "workOf", "(Z)I"⟩ ∈ GW := GW_p 97 rfl rfl
set_option maxRecDepth 30000 in
theorem wp_98 : Cond.selects "DryDockModel" ⟨"DryDockModel", "remembers", "()V"⟩ ⟨"DryDockModel", "remembers", "()V"⟩ ∈ GW := GW_p 98 rfl rfl
set_option maxRecDepth 30000 in
theorem wp_99 : Cond.selects "DryDockModel" ⟨"DryDockModel", "goesOn", "(IZ)I"⟩ ⟨"DryDockModel", "goesOn", "(IZ)I"⟩ ∈ GW := GW_p 99 rfl rfl
set_option maxRecDepth 30000 in
theorem wp_100 : Cond.selects "DryDockModel" ⟨"DryDockModel", "oneHour", "(Z)I"⟩ ⟨"DryDockModel", "oneHour", "(Z)I"⟩ ∈ GW := GW_p 100 rfl rfl
set_option maxRecDepth 30000 in
theorem wp_101 : Cond.selects "DryDockModel" ⟨"DryDockModel", "drawn", "(I)I"⟩ ⟨"DryDockModel", "drawn", "(I)I"⟩ ∈ GW := GW_p 101 rfl rfl
set_option maxRecDepth 30000 in
theorem wp_102 : Cond.selects "DryDockModel" ⟨"DryDockModel", "leaksNow", "()I"⟩ ⟨"DryDockModel", "leaksNow", "()I"⟩ ∈ GW := GW_p 102 rfl rfl
set_option maxRecDepth 30000 in
theorem wp_103 : Cond.selects "DryDockModel" ⟨"DryDockModel", "pullsNow", "()I"⟩ ⟨"DryDockModel", "pullsNow", "()I"⟩ ∈ GW := GW_p 103 rfl rfl
set_option maxRecDepth 30000 in
theorem wp_104 : Cond.selects "DryDockModel" ⟨"DryDockModel", "someHurt", "()V"⟩ ⟨"DryDockModel", "someHurt", "()V"⟩ ∈ GW := GW_p 104 rfl rfl
set_option maxRecDepth 30000 in
theorem wp_105 : Cond.selects "DryDockModel" ⟨"DryDockModel", "isTold", "(III)V"⟩ ⟨"DryDockModel", "isTold", "(III)V"⟩ ∈ GW := GW_p 105 rfl rfl
set_option maxRecDepth 30000 in
theorem wp_106 : Cond.selects "DryDockModel" ⟨"DryDockModel", "allWork", "()I"⟩ ⟨"DryDockModel", "allWork", "()I"⟩ ∈ GW := GW_p 106 rfl rfl
set_option maxRecDepth 30000 in
theorem wp_107 : Cond.selects "DryDockModel" ⟨"DryDockModel", "isEven", "()Z"⟩ ⟨"DryDockModel", "isEven", "()Z"⟩ ∈ GW := GW_p 107 rfl rfl
set_option maxRecDepth 30000 in
theorem wp_108 : Cond.selects "DryDockModel" ⟨"DryDockModel", "isNow", "(II)I"⟩ ⟨"DryDockModel", "isNow", "(II)I"⟩ ∈ GW := GW_p 108 rfl rfl
set_option maxRecDepth 30000 in
theorem wp_109 : Cond.selects "DryDockModel" ⟨"DryDockModel", "canEnter", "(II)Z"⟩ ⟨"DryDockModel", "canEnter", "(II)Z"⟩ ∈ GW := GW_p 109 rfl rfl
set_option maxRecDepth 30000 in
theorem wp_110 : Cond.selects "DryDockModel" ⟨"DryDockModel", "freePlaces", "()I"⟩ ⟨"DryDockModel", "freePlaces", "()I"⟩ ∈ GW := GW_p 110 rfl rfl
set_option maxRecDepth 30000 in
theorem wp_111 : Cond.selects "DryDockModel" ⟨"DryDockModel", "isFigure", "(II)I"⟩ ⟨"DryDockModel", "isFigure", "(II)I"⟩ ∈ GW := GW_p 111 rfl rfl
set_option maxRecDepth 30000 in
theorem wp_112 : Cond.selects "DryDockModel" ⟨"DryDockModel", "bestLoad", "()I"⟩ ⟨"DryDockModel", "bestLoad", "()I"⟩ ∈ GW := GW_p 112 rfl rfl
set_option maxRecDepth 30000 in
theorem wp_113 : Cond.selects "DryDockModel" ⟨"DryDockModel", "mayEnter", "()I"⟩ ⟨"DryDockModel", "mayEnter", "()I"⟩ ∈ GW := GW_p 113 rfl rfl
set_option maxRecDepth 30000 in
theorem wp_114 : Cond.selects "DryDockModel" ⟨"DryDockModel", "feesOf", "(I)I"⟩ ⟨"DryDockModel", "feesOf", "(I)I"⟩ ∈ GW := GW_p 114 rfl rfl
set_option maxRecDepth 30000 in
theorem wp_115 : Cond.selects "DryDockModel" ⟨"DryDockModel", "canLoad", "(I)Z"⟩ ⟨"DryDockModel", "canLoad", "(I)Z"⟩ ∈ GW := GW_p 115 rfl rfl
set_option maxRecDepth 30000 in
theorem wp_116 : Cond.selects "DryDockModel" ⟨"DryDockModel", "laysRuns", "()I"⟩ ⟨"DryDockModel", "laysRuns", "()I"⟩ ∈ GW := GW_p 116 rfl rfl
set_option maxRecDepth 30000 in
theorem wp_117 : Cond.selects "DryDockModel" ⟨"DryDockModel", "laysMembers", "(I)I"⟩ ⟨"DryDockModel", "laysMembers", "(I)I"⟩ ∈ GW := GW_p 117 rfl rfl
set_option maxRecDepth 30000 in
theorem wp_118 : Cond.selects "DryDockModel" ⟨"DryDockModel", "firstIn", "(I)I"⟩ ⟨"DryDockModel", "firstIn", "(I)I"⟩ ∈ GW := GW_p 118 rfl rfl
set_option maxRecDepth 30000 in
theorem wp_119 : Cond.selects "DryDockModel" ⟨"DryDockModel", "keepsAll", "()V"⟩ ⟨"DryDockModel", "keepsAll", "()V"⟩ ∈ GW := GW_p 119 rfl rfl
set_option maxRecDepth 30000 in
theorem wp_120 : Cond.selects "DryDockModel" ⟨"DryDockModel", "isSo", "(I)Z"⟩ ⟨"DryDockModel", "isSo", "(I)Z"⟩ ∈ GW := GW_p 120 rfl rfl
set_option maxRecDepth 30000 in
theorem wp_121 : Cond.selects "DryDockModel" ⟨"DryDockModel", "workDocked", "()I"⟩ ⟨"DryDockModel", "workDocked", "()I"⟩ ∈ GW := GW_p 121 rfl rfl
set_option maxRecDepth 30000 in
theorem wp_122 : Cond.selects "DryDockModel" ⟨"DryDockModel", "bringsBack", "()V"⟩ ⟨"DryDockModel", "bringsBack", "()V"⟩ ∈ GW := GW_p 122 rfl rfl
set_option maxRecDepth 30000 in
theorem wp_123 : Cond.selects "DryDockModel" ⟨"DryDockModel", "busyOnes", "()I"⟩ ⟨"DryDockModel", "busyOnes", "()I"⟩ ∈ GW := GW_p 123 rfl rfl
set_option maxRecDepth 30000 in
theorem wp_124 : Cond.selects "DryDockModel" ⟨"DryDockModel", "laysCosts", "(I)V"⟩ ⟨"DryDockModel", "laysCosts", "(I)V"⟩ ∈ GW := GW_p 124 rfl rfl
set_option maxRecDepth 30000 in
theorem wp_125 : Cond.selects "DryDockModel" ⟨"DryDockModel", "costNext", "(II)I"⟩ ⟨"DryDockModel", "costNext", "(II)I"⟩ ∈ GW := GW_p 125 rfl rfl
set_option maxRecDepth 30000 in
theorem wp_126 : Cond.selects "DryDockModel" ⟨"DryDockModel", "isHeights", "()Z"⟩ ⟨"DryDockModel", "isHeights", "()Z"⟩ ∈ GW := GW_p 126 rfl rfl
set_option maxRecDepth 30000 in
theorem wp_127 : Cond.selects "DryDockModel" ⟨"DryDockModel", "laysCurves", "()I"⟩ ⟨"DryDockModel", "laysCurves", "()I"⟩ ∈ GW := GW_p 127 rfl rfl
set_option maxRecDepth 30000 in
theorem wp_128 : Cond.selects "DryDockModel" ⟨"DryDockModel", "firstFitting", "(I)I"⟩ ⟨"DryDockModel", "firstFitting", "(I)I"⟩ ∈ GW := GW_p 128 rfl rfl
set_option maxRecDepth 30000 in
theorem wp_129 : Cond.selects "DryDockModel" ⟨"DryDockModel", "partIn", "(I)I"⟩ ⟨"DryDockModel", "partIn", "(I)I"⟩ ∈ GW := GW_p 129 rfl rfl
set_option maxRecDepth 30000 in
theorem wp_130 : Cond.selects "DryDockModel" ⟨"DryDockModel", "isTouched", "()Z"⟩ ⟨"DryDockModel", "isTouched", "()Z"⟩ ∈ GW := GW_p 130 rfl rfl
set_option maxRecDepth 30000 in
theorem wp_131 : Cond.selects "DryDockModel" ⟨"DryDockModel", "manyLies", "(I)I"⟩ ⟨"DryDockModel", "manyLies", "(I)I"⟩ ∈ GW := GW_p 131 rfl rfl
set_option maxRecDepth 30000 in
theorem wp_132 : Cond.selects "DryDockModel" ⟨"DryDockModel", "wrongRows", "(I)I"⟩ ⟨"DryDockModel", "wrongRows", "(I)I"⟩ ∈ GW := GW_p 132 rfl rfl
set_option maxRecDepth 30000 in
theorem wp_133 : Cond.selects "DryDockModel" ⟨"DryDockModel", "laysWorth", "()V"⟩ ⟨"DryDockModel", "laysWorth", "()V"⟩ ∈ GW := GW_p 133 rfl rfl
set_option maxRecDepth 30000 in
theorem wp_134 : Cond.selects "DryDockModel" ⟨"DryDockModel", "worthOf", "(I)I"⟩ ⟨"DryDockModel", "worthOf", "(I)I"⟩ ∈ GW := GW_p 134 rfl rfl
set_option maxRecDepth 30000 in
theorem wp_135 : Cond.selects "DryDockModel" ⟨"DryDockModel", "bedIf", "(III)I"⟩ ⟨"DryDockModel", "bedIf", "(III)I"⟩ ∈ GW := GW_p 135 rfl rfl
set_option maxRecDepth 30000 in
theorem wp_136 : Cond.selects "DryDockModel" ⟨"DryDockModel", "laysPairs", "()V"⟩ ⟨"DryDockModel", "laysPairs", "()V"⟩ ∈ GW := GW_p 136 rfl rfl
set_option maxRecDepth 30000 in
theorem wp_137 : Cond.selects "DryDockModel" ⟨"DryDockModel", "pairedBy", "(II)I"⟩ ⟨"DryDockModel", "pairedBy", "(II)I"⟩ ∈ GW := GW_p 137 rfl rfl
set_option maxRecDepth 30000 in
theorem wp_138 : Cond.selects "DryDockModel" ⟨"DryDockModel", "canPair", "(II)Z"⟩ ⟨"DryDockModel", "canPair", "(II)Z"⟩ ∈ GW := GW_p 138 rfl rfl
set_option maxRecDepth 30000 in
theorem wp_139 : Cond.selects "DryDockModel" ⟨"DryDockModel", "masterHas", "(III)I"⟩ ⟨"DryDockModel", "masterHas", "(III)I"⟩ ∈ GW := GW_p 139 rfl rfl
set_option maxRecDepth 30000 in
theorem wp_140 : Cond.selects "DryDockModel" ⟨"DryDockModel", "allThat", "(II)I"⟩ ⟨"DryDockModel", "allThat", "(II)I"⟩ ∈ GW := GW_p 140 rfl rfl
set_option maxRecDepth 30000 in
theorem wp_141 : Cond.selects "DryDockModel" ⟨"DryDockModel", "levelOrWork", "(IZZ)I"⟩ ⟨"DryDockModel", "levelOrWork", "(IZZ)I"⟩ ∈ GW := GW_p 141 rfl rfl
set_option maxRecDepth 30000 in
theorem wp_142 : Cond.selects "DryDockModel" ⟨"DryDockModel", "ofLog", "(II)I"⟩ ⟨"DryDockModel", "ofLog", "(II)I"⟩ ∈ GW := GW_p 142 rfl rfl
