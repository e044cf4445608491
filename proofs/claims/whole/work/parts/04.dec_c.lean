theorem dX11_init_0 : decode cX11_init 0 = .ok (.aload_n 0, 1) := by decide +kernel
theorem dX11_init_1 : decode cX11_init 1 = .ok (.invokespecial 1, 3) := by decide +kernel
theorem dX11_init_4 : decode cX11_init 4 = .ok (.aload_n 0, 1) := by decide +kernel
theorem dX11_init_5 : decode cX11_init 5 = .ok (.new 7, 3) := by decide +kernel
theorem dX11_init_8 : decode cX11_init 8 = .ok (.dup, 1) := by decide +kernel
theorem dX11_init_9 : decode cX11_init 9 = .ok (.invokespecial 9, 3) := by decide +kernel
theorem dX11_init_12 : decode cX11_init 12 = .ok (.putfield 10, 3) := by decide +kernel
theorem dX11_init_15 : decode cX11_init 15 = .ok (.aload_n 0, 1) := by decide +kernel
theorem dX11_init_16 : decode cX11_init 16 = .ok (.new 16, 3) := by decide +kernel
theorem dX11_init_19 : decode cX11_init 19 = .ok (.dup, 1) := by decide +kernel
theorem dX11_init_20 : decode cX11_init 20 = .ok (.invokespecial 18, 3) := by decide +kernel
theorem dX11_init_23 : decode cX11_init 23 = .ok (.putfield 19, 3) := by decide +kernel
theorem dX11_init_26 : decode cX11_init 26 = .ok (.aload_n 0, 1) := by decide +kernel
theorem dX11_init_27 : decode cX11_init 27 = .ok (.new 16, 3) := by decide +kernel
theorem dX11_init_30 : decode cX11_init 30 = .ok (.dup, 1) := by decide +kernel
theorem dX11_init_31 : decode cX11_init 31 = .ok (.invokespecial 18, 3) := by decide +kernel
theorem dX11_init_34 : decode cX11_init 34 = .ok (.putfield 23, 3) := by decide +kernel
theorem dX11_init_37 : decode cX11_init 37 = .ok (.aload_n 0, 1) := by decide +kernel
theorem dX11_init_38 : decode cX11_init 38 = .ok (.new 16, 3) := by decide +kernel
theorem dX11_init_41 : decode cX11_init 41 = .ok (.dup, 1) := by decide +kernel
theorem dX11_init_42 : decode cX11_init 42 = .ok (.invokespecial 18, 3) := by decide +kernel
theorem dX11_init_45 : decode cX11_init 45 = .ok (.putfield 26, 3) := by decide +kernel
theorem dX11_init_48 : decode cX11_init 48 = .ok (.aload_n 0, 1) := by decide +kernel
theorem dX11_init_49 : decode cX11_init 49 = .ok (.new 29, 3) := by decide +kernel
theorem dX11_init_52 : decode cX11_init 52 = .ok (.dup, 1) := by decide +kernel
theorem dX11_init_53 : decode cX11_init 53 = .ok (.invokespecial 31, 3) := by decide +kernel
theorem dX11_init_56 : decode cX11_init 56 = .ok (.putfield 32, 3) := by decide +kernel
theorem dX11_init_59 : decode cX11_init 59 = .ok (.aload_n 0, 1) := by decide +kernel
theorem dX11_init_60 : decode cX11_init 60 = .ok (.new 29, 3) := by decide +kernel
theorem dX11_init_63 : decode cX11_init 63 = .ok (.dup, 1) := by decide +kernel
theorem dX11_init_64 : decode cX11_init 64 = .ok (.invokespecial 31, 3) := by decide +kernel
theorem dX11_init_67 : decode cX11_init 67 = .ok (.putfield 36, 3) := by decide +kernel
theorem dX11_init_70 : decode cX11_init 70 = .ok (.aload_n 0, 1) := by decide +kernel
theorem dX11_init_71 : decode cX11_init 71 = .ok (.new 29, 3) := by decide +kernel
theorem dX11_init_74 : decode cX11_init 74 = .ok (.dup, 1) := by decide +kernel
theorem dX11_init_75 : decode cX11_init 75 = .ok (.invokespecial 31, 3) := by decide +kernel
theorem dX11_init_78 : decode cX11_init 78 = .ok (.putfield 39, 3) := by decide +kernel
theorem dX11_init_81 : decode cX11_init 81 = .ok (.aload_n 0, 1) := by decide +kernel
theorem dX11_init_82 : decode cX11_init 82 = .ok (.new 42, 3) := by decide +kernel
theorem dX11_init_85 : decode cX11_init 85 = .ok (.dup, 1) := by decide +kernel
theorem dX11_init_86 : decode cX11_init 86 = .ok (.aload_n 0, 1) := by decide +kernel
theorem dX11_init_87 : decode cX11_init 87 = .ok (.getfield 10, 3) := by decide +kernel
theorem dX11_init_90 : decode cX11_init 90 = .ok (.aload_n 0, 1) := by decide +kernel
theorem dX11_init_91 : decode cX11_init 91 = .ok (.getfield 23, 3) := by decide +kernel
theorem dX11_init_94 : decode cX11_init 94 = .ok (.invokespecial 44, 3) := by decide +kernel
theorem dX11_init_97 : decode cX11_init 97 = .ok (.putfield 47, 3) := by decide +kernel
theorem dX11_init_100 : decode cX11_init 100 = .ok (.aload_n 0, 1) := by decide +kernel
theorem dX11_init_101 : decode cX11_init 101 = .ok (.new 51, 3) := by decide +kernel
theorem dX11_init_104 : decode cX11_init 104 = .ok (.dup, 1) := by decide +kernel
theorem dX11_init_105 : decode cX11_init 105 = .ok (.aload_n 0, 1) := by decide +kernel
theorem dX11_init_106 : decode cX11_init 106 = .ok (.getfield 10, 3) := by decide +kernel
theorem dX11_init_109 : decode cX11_init 109 = .ok (.aload_n 0, 1) := by decide +kernel
theorem dX11_init_110 : decode cX11_init 110 = .ok (.getfield 36, 3) := by decide +kernel
theorem dX11_init_113 : decode cX11_init 113 = .ok (.invokespecial 53, 3) := by decide +kernel
theorem dX11_init_116 : decode cX11_init 116 = .ok (.putfield 56, 3) := by decide +kernel
theorem dX11_init_119 : decode cX11_init 119 = .ok (.aload_n 0, 1) := by decide +kernel
theorem dX11_init_120 : decode cX11_init 120 = .ok (.new 60, 3) := by decide +kernel
theorem dX11_init_123 : decode cX11_init 123 = .ok (.dup, 1) := by decide +kernel
theorem dX11_init_124 : decode cX11_init 124 = .ok (.invokespecial 62, 3) := by decide +kernel
theorem dX11_init_127 : decode cX11_init 127 = .ok (.putfield 63, 3) := by decide +kernel
theorem dX11_init_130 : decode cX11_init 130 = .ok (.aload_n 0, 1) := by decide +kernel
theorem dX11_init_131 : decode cX11_init 131 = .ok (.new 67, 3) := by decide +kernel
theorem dX11_init_134 : decode cX11_init 134 = .ok (.dup, 1) := by decide +kernel
theorem dX11_init_135 : decode cX11_init 135 = .ok (.invokespecial 69, 3) := by decide +kernel
theorem dX11_init_138 : decode cX11_init 138 = .ok (.putfield 70, 3) := by decide +kernel
theorem dX11_init_141 : decode cX11_init 141 = .ok (.aload_n 0, 1) := by decide +kernel
theorem dX11_init_142 : decode cX11_init 142 = .ok (.new 74, 3) := by decide +kernel
theorem dX11_init_145 : decode cX11_init 145 = .ok (.dup, 1) := by decide +kernel
theorem dX11_init_146 : decode cX11_init 146 = .ok (.invokespecial 76, 3) := by decide +kernel
theorem dX11_init_149 : decode cX11_init 149 = .ok (.putfield 77, 3) := by decide +kernel
theorem dX11_init_152 : decode cX11_init 152 = .ok (.aload_n 0, 1) := by decide +kernel
theorem dX11_init_153 : decode cX11_init 153 = .ok (.new 81, 3) := by decide +kernel
theorem dX11_init_156 : decode cX11_init 156 = .ok (.dup, 1) := by decide +kernel
theorem dX11_init_157 : decode cX11_init 157 = .ok (.invokespecial 83, 3) := by decide +kernel
theorem dX11_init_160 : decode cX11_init 160 = .ok (.putfield 84, 3) := by decide +kernel
theorem dX11_init_163 : decode cX11_init 163 = .ok (.aload_n 0, 1) := by decide +kernel
theorem dX11_init_164 : decode cX11_init 164 = .ok (.iconst (-1), 1) := by decide +kernel
theorem dX11_init_165 : decode cX11_init 165 = .ok (.putfield 88, 3) := by decide +kernel
theorem dX11_init_168 : decode cX11_init 168 = .ok (.return_, 1) := by decide +kernel
theorem dX11_feed_0 : decode cX11_feed 0 = .ok (.aload_n 0, 1) := by decide +kernel
theorem dX11_feed_1 : decode cX11_feed 1 = .ok (.getfield 10, 3) := by decide +kernel
theorem dX11_feed_4 : decode cX11_feed 4 = .ok (.getfield 92, 3) := by decide +kernel
theorem dX11_feed_7 : decode cX11_feed 7 = .ok (.bipush 20, 2) := by decide +kernel
theorem dX11_feed_9 : decode cX11_feed 9 = .ok (.iadd, 1) := by decide +kernel
theorem dX11_feed_10 : decode cX11_feed 10 = .ok (.sipush 400, 3) := by decide +kernel
theorem dX11_feed_13 : decode cX11_feed 13 = .ok (.if_icmp .le 5, 3) := by decide +kernel
theorem dX11_feed_16 : decode cX11_feed 16 = .ok (.iconst (-1), 1) := by decide +kernel
theorem dX11_feed_17 : decode cX11_feed 17 = .ok (.ireturn, 1) := by decide +kernel
theorem dX11_feed_18 : decode cX11_feed 18 = .ok (.aload_n 0, 1) := by decide +kernel
theorem dX11_feed_19 : decode cX11_feed 19 = .ok (.getfield 10, 3) := by decide +kernel
theorem dX11_feed_22 : decode cX11_feed 22 = .ok (.iload_n 1, 1) := by decide +kernel
theorem dX11_feed_23 : decode cX11_feed 23 = .ok (.invokevirtual 95, 3) := by decide +kernel
theorem dX11_feed_26 : decode cX11_feed 26 = .ok (.aload_n 0, 1) := by decide +kernel
theorem dX11_feed_27 : decode cX11_feed 27 = .ok (.getfield 10, 3) := by decide +kernel
theorem dX11_feed_30 : decode cX11_feed 30 = .ok (.iload_n 2, 1) := by decide +kernel
theorem dX11_feed_31 : decode cX11_feed 31 = .ok (.invokevirtual 95, 3) := by decide +kernel
theorem dX11_feed_34 : decode cX11_feed 34 = .ok (.aload_n 0, 1) := by decide +kernel
theorem dX11_feed_35 : decode cX11_feed 35 = .ok (.getfield 10, 3) := by decide +kernel
theorem dX11_feed_38 : decode cX11_feed 38 = .ok (.iload_n 3, 1) := by decide +kernel
theorem dX11_feed_39 : decode cX11_feed 39 = .ok (.invokevirtual 95, 3) := by decide +kernel
theorem dX11_feed_42 : decode cX11_feed 42 = .ok (.aload_n 0, 1) := by decide +kernel
theorem dX11_feed_43 : decode cX11_feed 43 = .ok (.getfield 10, 3) := by decide +kernel
theorem dX11_feed_46 : decode cX11_feed 46 = .ok (.iload 4, 2) := by decide +kernel
theorem dX11_feed_48 : decode cX11_feed 48 = .ok (.invokevirtual 95, 3) := by decide +kernel
theorem dX11_feed_51 : decode cX11_feed 51 = .ok (.aload_n 0, 1) := by decide +kernel
theorem dX11_feed_52 : decode cX11_feed 52 = .ok (.getfield 10, 3) := by decide +kernel
theorem dX11_feed_55 : decode cX11_feed 55 = .ok (.iload 5, 2) := by decide +kernel
theorem dX11_feed_57 : decode cX11_feed 57 = .ok (.invokevirtual 95, 3) := by decide +kernel
theorem dX11_feed_60 : decode cX11_feed 60 = .ok (.aload_n 0, 1) := by decide +kernel
theorem dX11_feed_61 : decode cX11_feed 61 = .ok (.getfield 10, 3) := by decide +kernel
theorem dX11_feed_64 : decode cX11_feed 64 = .ok (.getfield 92, 3) := by decide +kernel
theorem dX11_feed_67 : decode cX11_feed 67 = .ok (.ireturn, 1) := by decide +kernel
theorem dX11_end_0 : decode cX11_end 0 = .ok (.iload_n 1, 1) := by decide +kernel
theorem dX11_end_1 : decode cX11_end 1 = .ok (.ifCond .lt 14, 3) := by decide +kernel
theorem dX11_end_4 : decode cX11_end 4 = .ok (.iload_n 1, 1) := by decide +kernel
theorem dX11_end_5 : decode cX11_end 5 = .ok (.aload_n 0, 1) := by decide +kernel
theorem dX11_end_6 : decode cX11_end 6 = .ok (.getfield 10, 3) := by decide +kernel
theorem dX11_end_9 : decode cX11_end 9 = .ok (.getfield 92, 3) := by decide +kernel
theorem dX11_end_12 : decode cX11_end 12 = .ok (.if_icmp .le 5, 3) := by decide +kernel
theorem dX11_end_15 : decode cX11_end 15 = .ok (.iconst 0, 1) := by decide +kernel
theorem dX11_end_16 : decode cX11_end 16 = .ok (.ireturn, 1) := by decide +kernel
theorem dX11_end_17 : decode cX11_end 17 = .ok (.aload_n 0, 1) := by decide +kernel
theorem dX11_end_18 : decode cX11_end 18 = .ok (.getfield 10, 3) := by decide +kernel
theorem dX11_end_21 : decode cX11_end 21 = .ok (.iload_n 1, 1) := by decide +kernel
theorem dX11_end_22 : decode cX11_end 22 = .ok (.putfield 92, 3) := by decide +kernel
theorem dX11_end_25 : decode cX11_end 25 = .ok (.iconst 1, 1) := by decide +kernel
theorem dX11_end_26 : decode cX11_end 26 = .ok (.ireturn, 1) := by decide +kernel
theorem dX11_dock_0 : decode cX11_dock 0 = .ok (.aload_n 0, 1) := by decide +kernel
theorem dX11_dock_1 : decode cX11_dock 1 = .ok (.getfield 23, 3) := by decide +kernel
theorem dX11_dock_4 : decode cX11_dock 4 = .ok (.aload_n 0, 1) := by decide +kernel
theorem dX11_dock_5 : decode cX11_dock 5 = .ok (.getfield 19, 3) := by decide +kernel
theorem dX11_dock_8 : decode cX11_dock 8 = .ok (.invokevirtual 99, 3) := by decide +kernel
theorem dX11_dock_11 : decode cX11_dock 11 = .ok (.aload_n 0, 1) := by decide +kernel
theorem dX11_dock_12 : decode cX11_dock 12 = .ok (.aload_n 0, 1) := by decide +kernel
theorem dX11_dock_13 : decode cX11_dock 13 = .ok (.getfield 47, 3) := by decide +kernel
theorem dX11_dock_16 : decode cX11_dock 16 = .ok (.bipush 14, 2) := by decide +kernel
theorem dX11_dock_18 : decode cX11_dock 18 = .ok (.invokevirtual 103, 3) := by decide +kernel
theorem dX11_dock_21 : decode cX11_dock 21 = .ok (.putfield 88, 3) := by decide +kernel
theorem dX11_dock_24 : decode cX11_dock 24 = .ok (.aload_n 0, 1) := by decide +kernel
theorem dX11_dock_25 : decode cX11_dock 25 = .ok (.getfield 10, 3) := by decide +kernel
theorem dX11_dock_28 : decode cX11_dock 28 = .ok (.iconst 0, 1) := by decide +kernel
theorem dX11_dock_29 : decode cX11_dock 29 = .ok (.putfield 92, 3) := by decide +kernel
theorem dX11_dock_32 : decode cX11_dock 32 = .ok (.aload_n 0, 1) := by decide +kernel
theorem dX11_dock_33 : decode cX11_dock 33 = .ok (.getfield 88, 3) := by decide +kernel
theorem dX11_dock_36 : decode cX11_dock 36 = .ok (.iconst (-1), 1) := by decide +kernel
theorem dX11_dock_37 : decode cX11_dock 37 = .ok (.if_icmp .eq 13, 3) := by decide +kernel
theorem dX11_dock_40 : decode cX11_dock 40 = .ok (.new 107, 3) := by decide +kernel
theorem dX11_dock_43 : decode cX11_dock 43 = .ok (.dup, 1) := by decide +kernel
theorem dX11_dock_44 : decode cX11_dock 44 = .ok (.ldc 109, 2) := by decide +kernel
theorem dX11_dock_46 : decode cX11_dock 46 = .ok (.invokespecial 111, 3) := by decide +kernel
theorem dX11_dock_49 : decode cX11_dock 49 = .ok (.athrow, 1) := by decide +kernel
theorem dX11_dock_50 : decode cX11_dock 50 = .ok (.aload_n 0, 1) := by decide +kernel
theorem dX11_dock_51 : decode cX11_dock 51 = .ok (.getfield 19, 3) := by decide +kernel
theorem dX11_dock_54 : decode cX11_dock 54 = .ok (.getfield 114, 3) := by decide +kernel
theorem dX11_dock_57 : decode cX11_dock 57 = .ok (.bipush 12, 2) := by decide +kernel
theorem dX11_dock_59 : decode cX11_dock 59 = .ok (.if_icmp .lt 13, 3) := by decide +kernel
theorem dX11_dock_62 : decode cX11_dock 62 = .ok (.new 117, 3) := by decide +kernel
theorem dX11_dock_65 : decode cX11_dock 65 = .ok (.dup, 1) := by decide +kernel
theorem dX11_dock_66 : decode cX11_dock 66 = .ok (.ldc 119, 2) := by decide +kernel
theorem dX11_dock_68 : decode cX11_dock 68 = .ok (.invokespecial 121, 3) := by decide +kernel
theorem dX11_dock_71 : decode cX11_dock 71 = .ok (.athrow, 1) := by decide +kernel
theorem dX11_dock_72 : decode cX11_dock 72 = .ok (.aload_n 0, 1) := by decide +kernel
theorem dX11_dock_73 : decode cX11_dock 73 = .ok (.getfield 19, 3) := by decide +kernel
theorem dX11_dock_76 : decode cX11_dock 76 = .ok (.aload_n 0, 1) := by decide +kernel
theorem dX11_dock_77 : decode cX11_dock 77 = .ok (.getfield 23, 3) := by decide +kernel
theorem dX11_dock_80 : decode cX11_dock 80 = .ok (.invokevirtual 99, 3) := by decide +kernel
theorem dX11_dock_83 : decode cX11_dock 83 = .ok (.aload_n 0, 1) := by decide +kernel
theorem dX11_dock_84 : decode cX11_dock 84 = .ok (.getfield 19, 3) := by decide +kernel
theorem dX11_dock_87 : decode cX11_dock 87 = .ok (.dup, 1) := by decide +kernel
theorem dX11_dock_88 : decode cX11_dock 88 = .ok (.getfield 114, 3) := by decide +kernel
theorem dX11_dock_91 : decode cX11_dock 91 = .ok (.iconst 1, 1) := by decide +kernel
theorem dX11_dock_92 : decode cX11_dock 92 = .ok (.iadd, 1) := by decide +kernel
theorem dX11_dock_93 : decode cX11_dock 93 = .ok (.putfield 114, 3) := by decide +kernel
theorem dX11_dock_96 : decode cX11_dock 96 = .ok (.aload_n 0, 1) := by decide +kernel
theorem dX11_dock_97 : decode cX11_dock 97 = .ok (.getfield 63, 3) := by decide +kernel
theorem dX11_dock_100 : decode cX11_dock 100 = .ok (.invokevirtual 122, 3) := by decide +kernel
theorem dX11_dock_103 : decode cX11_dock 103 = .ok (.aload_n 0, 1) := by decide +kernel
theorem dX11_dock_104 : decode cX11_dock 104 = .ok (.getfield 19, 3) := by decide +kernel
theorem dX11_dock_107 : decode cX11_dock 107 = .ok (.getfield 114, 3) := by decide +kernel
theorem dX11_dock_110 : decode cX11_dock 110 = .ok (.ireturn, 1) := by decide +kernel
theorem dX11_law_0 : decode cX11_law 0 = .ok (.aload_n 0, 1) := by decide +kernel
theorem dX11_law_1 : decode cX11_law 1 = .ok (.getfield 36, 3) := by decide +kernel
theorem dX11_law_4 : decode cX11_law 4 = .ok (.invokevirtual 125, 3) := by decide +kernel
theorem dX11_law_7 : decode cX11_law 7 = .ok (.aload_n 0, 1) := by decide +kernel
theorem dX11_law_8 : decode cX11_law 8 = .ok (.aload_n 0, 1) := by decide +kernel
theorem dX11_law_9 : decode cX11_law 9 = .ok (.getfield 56, 3) := by decide +kernel
theorem dX11_law_12 : decode cX11_law 12 = .ok (.bipush 12, 2) := by decide +kernel
theorem dX11_law_14 : decode cX11_law 14 = .ok (.invokevirtual 128, 3) := by decide +kernel
theorem dX11_law_17 : decode cX11_law 17 = .ok (.putfield 88, 3) := by decide +kernel
theorem dX11_law_20 : decode cX11_law 20 = .ok (.aload_n 0, 1) := by decide +kernel
theorem dX11_law_21 : decode cX11_law 21 = .ok (.getfield 10, 3) := by decide +kernel
theorem dX11_law_24 : decode cX11_law 24 = .ok (.iconst 0, 1) := by decide +kernel
theorem dX11_law_25 : decode cX11_law 25 = .ok (.putfield 92, 3) := by decide +kernel
theorem dX11_law_28 : decode cX11_law 28 = .ok (.aload_n 0, 1) := by decide +kernel
theorem dX11_law_29 : decode cX11_law 29 = .ok (.getfield 88, 3) := by decide +kernel
theorem dX11_law_32 : decode cX11_law 32 = .ok (.iconst (-1), 1) := by decide +kernel
theorem dX11_law_33 : decode cX11_law 33 = .ok (.if_icmp .eq 13, 3) := by decide +kernel
theorem dX11_law_36 : decode cX11_law 36 = .ok (.new 107, 3) := by decide +kernel
theorem dX11_law_39 : decode cX11_law 39 = .ok (.dup, 1) := by decide +kernel
theorem dX11_law_40 : decode cX11_law 40 = .ok (.ldc 129, 2) := by decide +kernel
theorem dX11_law_42 : decode cX11_law 42 = .ok (.invokespecial 111, 3) := by decide +kernel
theorem dX11_law_45 : decode cX11_law 45 = .ok (.athrow, 1) := by decide +kernel
theorem dX11_law_46 : decode cX11_law 46 = .ok (.aload_n 0, 1) := by decide +kernel
theorem dX11_law_47 : decode cX11_law 47 = .ok (.getfield 32, 3) := by decide +kernel
theorem dX11_law_50 : decode cX11_law 50 = .ok (.aload_n 0, 1) := by decide +kernel
theorem dX11_law_51 : decode cX11_law 51 = .ok (.getfield 36, 3) := by decide +kernel
theorem dX11_law_54 : decode cX11_law 54 = .ok (.invokevirtual 131, 3) := by decide +kernel
theorem dX11_law_57 : decode cX11_law 57 = .ok (.aload_n 0, 1) := by decide +kernel
theorem dX11_law_58 : decode cX11_law 58 = .ok (.getfield 63, 3) := by decide +kernel
theorem dX11_law_61 : decode cX11_law 61 = .ok (.invokevirtual 122, 3) := by decide +kernel
theorem dX11_law_64 : decode cX11_law 64 = .ok (.aload_n 0, 1) := by decide +kernel
theorem dX11_law_65 : decode cX11_law 65 = .ok (.getfield 32, 3) := by decide +kernel
theorem dX11_law_68 : decode cX11_law 68 = .ok (.getfield 134, 3) := by decide +kernel
theorem dX11_law_71 : decode cX11_law 71 = .ok (.ireturn, 1) := by decide +kernel
theorem dX11_fault_0 : decode cX11_fault 0 = .ok (.aload_n 0, 1) := by decide +kernel
theorem dX11_fault_1 : decode cX11_fault 1 = .ok (.getfield 88, 3) := by decide +kernel
theorem dX11_fault_4 : decode cX11_fault 4 = .ok (.ireturn, 1) := by decide +kernel
theorem dX11_ship_0 : decode cX11_ship 0 = .ok (.aload_n 0, 1) := by decide +kernel
theorem dX11_ship_1 : decode cX11_ship 1 = .ok (.iload_n 1, 1) := by decide +kernel
theorem dX11_ship_2 : decode cX11_ship 2 = .ok (.invokevirtual 137, 3) := by decide +kernel
theorem dX11_ship_5 : decode cX11_ship 5 = .ok (.iload_n 2, 1) := by decide +kernel
theorem dX11_ship_6 : decode cX11_ship 6 = .ok (.tableswitch 216 0 12 #[66, 76, 86, 96, 106, 116, 133, 146, 163, 180, 189, 198, 207], 66) := by decide +kernel
theorem dX11_ship_72 : decode cX11_ship 72 = .ok (.aload_n 0, 1) := by decide +kernel
theorem dX11_ship_73 : decode cX11_ship 73 = .ok (.getfield 19, 3) := by decide +kernel
theorem dX11_ship_76 : decode cX11_ship 76 = .ok (.getfield 140, 3) := by decide +kernel
theorem dX11_ship_79 : decode cX11_ship 79 = .ok (.iload_n 1, 1) := by decide +kernel
theorem dX11_ship_80 : decode cX11_ship 80 = .ok (.iaload, 1) := by decide +kernel
theorem dX11_ship_81 : decode cX11_ship 81 = .ok (.ireturn, 1) := by decide +kernel
theorem dX11_ship_82 : decode cX11_ship 82 = .ok (.aload_n 0, 1) := by decide +kernel
theorem dX11_ship_83 : decode cX11_ship 83 = .ok (.getfield 19, 3) := by decide +kernel
theorem dX11_ship_86 : decode cX11_ship 86 = .ok (.getfield 144, 3) := by decide +kernel
theorem dX11_ship_89 : decode cX11_ship 89 = .ok (.iload_n 1, 1) := by decide +kernel
theorem dX11_ship_90 : decode cX11_ship 90 = .ok (.iaload, 1) := by decide +kernel
theorem dX11_ship_91 : decode cX11_ship 91 = .ok (.ireturn, 1) := by decide +kernel
theorem dX11_ship_92 : decode cX11_ship 92 = .ok (.aload_n 0, 1) := by decide +kernel
theorem dX11_ship_93 : decode cX11_ship 93 = .ok (.getfield 19, 3) := by decide +kernel
theorem dX11_ship_96 : decode cX11_ship 96 = .ok (.getfield 147, 3) := by decide +kernel
theorem dX11_ship_99 : decode cX11_ship 99 = .ok (.iload_n 1, 1) := by decide +kernel
theorem dX11_ship_100 : decode cX11_ship 100 = .ok (.iaload, 1) := by decide +kernel
theorem dX11_ship_101 : decode cX11_ship 101 = .ok (.ireturn, 1) := by decide +kernel
theorem dX11_ship_102 : decode cX11_ship 102 = .ok (.aload_n 0, 1) := by decide +kernel
theorem dX11_ship_103 : decode cX11_ship 103 = .ok (.getfield 19, 3) := by decide +kernel
theorem dX11_ship_106 : decode cX11_ship 106 = .ok (.getfield 150, 3) := by decide +kernel
theorem dX11_ship_109 : decode cX11_ship 109 = .ok (.iload_n 1, 1) := by decide +kernel
theorem dX11_ship_110 : decode cX11_ship 110 = .ok (.iaload, 1) := by decide +kernel
theorem dX11_ship_111 : decode cX11_ship 111 = .ok (.ireturn, 1) := by decide +kernel
theorem dX11_ship_112 : decode cX11_ship 112 = .ok (.aload_n 0, 1) := by decide +kernel
theorem dX11_ship_113 : decode cX11_ship 113 = .ok (.getfield 19, 3) := by decide +kernel
theorem dX11_ship_116 : decode cX11_ship 116 = .ok (.getfield 153, 3) := by decide +kernel
theorem dX11_ship_119 : decode cX11_ship 119 = .ok (.iload_n 1, 1) := by decide +kernel
theorem dX11_ship_120 : decode cX11_ship 120 = .ok (.iaload, 1) := by decide +kernel
theorem dX11_ship_121 : decode cX11_ship 121 = .ok (.ireturn, 1) := by decide +kernel
theorem dX11_ship_122 : decode cX11_ship 122 = .ok (.aload_n 0, 1) := by decide +kernel
theorem dX11_ship_123 : decode cX11_ship 123 = .ok (.getfield 19, 3) := by decide +kernel
theorem dX11_ship_126 : decode cX11_ship 126 = .ok (.iload_n 1, 1) := by decide +kernel
theorem dX11_ship_127 : decode cX11_ship 127 = .ok (.invokevirtual 156, 3) := by decide +kernel
theorem dX11_ship_130 : decode cX11_ship 130 = .ok (.ifCond .eq 7, 3) := by decide +kernel
theorem dX11_ship_133 : decode cX11_ship 133 = .ok (.iconst 1, 1) := by decide +kernel
theorem dX11_ship_134 : decode cX11_ship 134 = .ok (.goto 4, 3) := by decide +kernel
theorem dX11_ship_137 : decode cX11_ship 137 = .ok (.iconst 0, 1) := by decide +kernel
theorem dX11_ship_138 : decode cX11_ship 138 = .ok (.ireturn, 1) := by decide +kernel
theorem dX11_ship_139 : decode cX11_ship 139 = .ok (.aload_n 0, 1) := by decide +kernel
theorem dX11_ship_140 : decode cX11_ship 140 = .ok (.getfield 19, 3) := by decide +kernel
theorem dX11_ship_143 : decode cX11_ship 143 = .ok (.iload_n 1, 1) := by decide +kernel
theorem dX11_ship_144 : decode cX11_ship 144 = .ok (.aload_n 0, 1) := by decide +kernel
theorem dX11_ship_145 : decode cX11_ship 145 = .ok (.getfield 32, 3) := by decide +kernel
theorem dX11_ship_148 : decode cX11_ship 148 = .ok (.invokevirtual 160, 3) := by decide +kernel
theorem dX11_ship_151 : decode cX11_ship 151 = .ok (.ireturn, 1) := by decide +kernel
theorem dX11_ship_152 : decode cX11_ship 152 = .ok (.aload_n 0, 1) := by decide +kernel
theorem dX11_ship_153 : decode cX11_ship 153 = .ok (.getfield 19, 3) := by decide +kernel
theorem dX11_ship_156 : decode cX11_ship 156 = .ok (.iload_n 1, 1) := by decide +kernel
theorem dX11_ship_157 : decode cX11_ship 157 = .ok (.invokevirtual 164, 3) := by decide +kernel
theorem dX11_ship_160 : decode cX11_ship 160 = .ok (.ifCond .eq 7, 3) := by decide +kernel
theorem dX11_ship_163 : decode cX11_ship 163 = .ok (.iconst 1, 1) := by decide +kernel
theorem dX11_ship_164 : decode cX11_ship 164 = .ok (.goto 4, 3) := by decide +kernel
theorem dX11_ship_167 : decode cX11_ship 167 = .ok (.iconst 0, 1) := by decide +kernel
theorem dX11_ship_168 : decode cX11_ship 168 = .ok (.ireturn, 1) := by decide +kernel
theorem dX11_ship_169 : decode cX11_ship 169 = .ok (.aload_n 0, 1) := by decide +kernel
theorem dX11_ship_170 : decode cX11_ship 170 = .ok (.getfield 19, 3) := by decide +kernel
theorem dX11_ship_173 : decode cX11_ship 173 = .ok (.iload_n 1, 1) := by decide +kernel
theorem dX11_ship_174 : decode cX11_ship 174 = .ok (.invokevirtual 167, 3) := by decide +kernel
theorem dX11_ship_177 : decode cX11_ship 177 = .ok (.ifCond .eq 7, 3) := by decide +kernel
theorem dX11_ship_180 : decode cX11_ship 180 = .ok (.iconst 1, 1) := by decide +kernel
theorem dX11_ship_181 : decode cX11_ship 181 = .ok (.goto 4, 3) := by decide +kernel
theorem dX11_ship_184 : decode cX11_ship 184 = .ok (.iconst 0, 1) := by decide +kernel
theorem dX11_ship_185 : decode cX11_ship 185 = .ok (.ireturn, 1) := by decide +kernel
theorem dX11_ship_186 : decode cX11_ship 186 = .ok (.aload_n 0, 1) := by decide +kernel
theorem dX11_ship_187 : decode cX11_ship 187 = .ok (.getfield 19, 3) := by decide +kernel
theorem dX11_ship_190 : decode cX11_ship 190 = .ok (.iload_n 1, 1) := by decide +kernel
theorem dX11_ship_191 : decode cX11_ship 191 = .ok (.invokevirtual 170, 3) := by decide +kernel
theorem dX11_ship_194 : decode cX11_ship 194 = .ok (.ireturn, 1) := by decide +kernel
theorem dX11_ship_195 : decode cX11_ship 195 = .ok (.aload_n 0, 1) := by decide +kernel
theorem dX11_ship_196 : decode cX11_ship 196 = .ok (.getfield 19, 3) := by decide +kernel
theorem dX11_ship_199 : decode cX11_ship 199 = .ok (.iload_n 1, 1) := by decide +kernel
theorem dX11_ship_200 : decode cX11_ship 200 = .ok (.invokevirtual 173, 3) := by decide +kernel
theorem dX11_ship_203 : decode cX11_ship 203 = .ok (.ireturn, 1) := by decide +kernel
theorem dX11_ship_204 : decode cX11_ship 204 = .ok (.aload_n 0, 1) := by decide +kernel
theorem dX11_ship_205 : decode cX11_ship 205 = .ok (.getfield 19, 3) := by decide +kernel
theorem dX11_ship_208 : decode cX11_ship 208 = .ok (.iload_n 1, 1) := by decide +kernel
theorem dX11_ship_209 : decode cX11_ship 209 = .ok (.invokevirtual 176, 3) := by decide +kernel
theorem dX11_ship_212 : decode cX11_ship 212 = .ok (.ireturn, 1) := by decide +kernel
theorem dX11_ship_213 : decode cX11_ship 213 = .ok (.aload_n 0, 1) := by decide +kernel
theorem dX11_ship_214 : decode cX11_ship 214 = .ok (.getfield 19, 3) := by decide +kernel
theorem dX11_ship_217 : decode cX11_ship 217 = .ok (.iload_n 1, 1) := by decide +kernel
theorem dX11_ship_218 : decode cX11_ship 218 = .ok (.invokevirtual 179, 3) := by decide +kernel
theorem dX11_ship_221 : decode cX11_ship 221 = .ok (.ireturn, 1) := by decide +kernel
theorem dX11_ship_222 : decode cX11_ship 222 = .ok (.new 182, 3) := by decide +kernel
theorem dX11_ship_225 : decode cX11_ship 225 = .ok (.dup, 1) := by decide +kernel
theorem dX11_ship_226 : decode cX11_ship 226 = .ok (.ldc 184, 2) := by decide +kernel
theorem dX11_ship_228 : decode cX11_ship 228 = .ok (.invokespecial 186, 3) := by decide +kernel
theorem dX11_ship_231 : decode cX11_ship 231 = .ok (.athrow, 1) := by decide +kernel
theorem dX11_place_0 : decode cX11_place 0 = .ok (.aload_n 0, 1) := by decide +kernel
theorem dX11_place_1 : decode cX11_place 1 = .ok (.iload_n 1, 1) := by decide +kernel
theorem dX11_place_2 : decode cX11_place 2 = .ok (.invokevirtual 187, 3) := by decide +kernel
theorem dX11_place_5 : decode cX11_place 5 = .ok (.iload_n 2, 1) := by decide +kernel
theorem dX11_place_6 : decode cX11_place 6 = .ok (.lookupswitch 47 #[(0, 26), (1, 38)], 26) := by decide +kernel
theorem dX11_place_32 : decode cX11_place 32 = .ok (.aload_n 0, 1) := by decide +kernel
theorem dX11_place_33 : decode cX11_place 33 = .ok (.getfield 19, 3) := by decide +kernel
theorem dX11_place_36 : decode cX11_place 36 = .ok (.getfield 190, 3) := by decide +kernel
theorem dX11_place_39 : decode cX11_place 39 = .ok (.iload_n 1, 1) := by decide +kernel
theorem dX11_place_40 : decode cX11_place 40 = .ok (.ishr, 1) := by decide +kernel
theorem dX11_place_41 : decode cX11_place 41 = .ok (.iconst 1, 1) := by decide +kernel
theorem dX11_place_42 : decode cX11_place 42 = .ok (.iand, 1) := by decide +kernel
theorem dX11_place_43 : decode cX11_place 43 = .ok (.ireturn, 1) := by decide +kernel
theorem dX11_place_44 : decode cX11_place 44 = .ok (.aload_n 0, 1) := by decide +kernel
theorem dX11_place_45 : decode cX11_place 45 = .ok (.getfield 19, 3) := by decide +kernel
theorem dX11_place_48 : decode cX11_place 48 = .ok (.iload_n 1, 1) := by decide +kernel
theorem dX11_place_49 : decode cX11_place 49 = .ok (.invokevirtual 193, 3) := by decide +kernel
theorem dX11_place_52 : decode cX11_place 52 = .ok (.ireturn, 1) := by decide +kernel
theorem dX11_place_53 : decode cX11_place 53 = .ok (.new 182, 3) := by decide +kernel
theorem dX11_place_56 : decode cX11_place 56 = .ok (.dup, 1) := by decide +kernel
theorem dX11_place_57 : decode cX11_place 57 = .ok (.ldc 196, 2) := by decide +kernel
theorem dX11_place_59 : decode cX11_place 59 = .ok (.invokespecial 186, 3) := by decide +kernel
theorem dX11_place_62 : decode cX11_place 62 = .ok (.athrow, 1) := by decide +kernel
theorem dX11_tide_0 : decode cX11_tide 0 = .ok (.aload_n 0, 1) := by decide +kernel
theorem dX11_tide_1 : decode cX11_tide 1 = .ok (.iload_n 1, 1) := by decide +kernel
theorem dX11_tide_2 : decode cX11_tide 2 = .ok (.invokevirtual 198, 3) := by decide +kernel
theorem dX11_tide_5 : decode cX11_tide 5 = .ok (.aload_n 0, 1) := by decide +kernel
theorem dX11_tide_6 : decode cX11_tide 6 = .ok (.getfield 19, 3) := by decide +kernel
theorem dX11_tide_9 : decode cX11_tide 9 = .ok (.getfield 201, 3) := by decide +kernel
theorem dX11_tide_12 : decode cX11_tide 12 = .ok (.iload_n 1, 1) := by decide +kernel
theorem dX11_tide_13 : decode cX11_tide 13 = .ok (.iaload, 1) := by decide +kernel
theorem dX11_tide_14 : decode cX11_tide 14 = .ok (.ireturn, 1) := by decide +kernel
theorem dX11_hours_0 : decode cX11_hours 0 = .ok (.iload_n 1, 1) := by decide +kernel
theorem dX11_hours_1 : decode cX11_hours 1 = .ok (.iconst 1, 1) := by decide +kernel
theorem dX11_hours_2 : decode cX11_hours 2 = .ok (.if_icmp .lt 9, 3) := by decide +kernel
theorem dX11_hours_5 : decode cX11_hours 5 = .ok (.iload_n 1, 1) := by decide +kernel
theorem dX11_hours_6 : decode cX11_hours 6 = .ok (.bipush 60, 2) := by decide +kernel
theorem dX11_hours_8 : decode cX11_hours 8 = .ok (.if_icmp .le 13, 3) := by decide +kernel
theorem dX11_hours_11 : decode cX11_hours 11 = .ok (.new 107, 3) := by decide +kernel
theorem dX11_hours_14 : decode cX11_hours 14 = .ok (.dup, 1) := by decide +kernel
theorem dX11_hours_15 : decode cX11_hours 15 = .ok (.ldc 204, 2) := by decide +kernel
theorem dX11_hours_17 : decode cX11_hours 17 = .ok (.invokespecial 111, 3) := by decide +kernel
theorem dX11_hours_20 : decode cX11_hours 20 = .ok (.athrow, 1) := by decide +kernel
theorem dX11_hours_21 : decode cX11_hours 21 = .ok (.aload_n 0, 1) := by decide +kernel
theorem dX11_hours_22 : decode cX11_hours 22 = .ok (.getfield 63, 3) := by decide +kernel
theorem dX11_hours_25 : decode cX11_hours 25 = .ok (.aload_n 0, 1) := by decide +kernel
theorem dX11_hours_26 : decode cX11_hours 26 = .ok (.getfield 19, 3) := by decide +kernel
theorem dX11_hours_29 : decode cX11_hours 29 = .ok (.invokevirtual 206, 3) := by decide +kernel
theorem dX11_hours_32 : decode cX11_hours 32 = .ok (.aload_n 0, 1) := by decide +kernel
theorem dX11_hours_33 : decode cX11_hours 33 = .ok (.getfield 19, 3) := by decide +kernel
theorem dX11_hours_36 : decode cX11_hours 36 = .ok (.iload_n 1, 1) := by decide +kernel
theorem dX11_hours_37 : decode cX11_hours 37 = .ok (.aload_n 0, 1) := by decide +kernel
theorem dX11_hours_38 : decode cX11_hours 38 = .ok (.getfield 32, 3) := by decide +kernel
theorem dX11_hours_41 : decode cX11_hours 41 = .ok (.iconst 1, 1) := by decide +kernel
theorem dX11_hours_42 : decode cX11_hours 42 = .ok (.invokevirtual 209, 3) := by decide +kernel
theorem dX11_hours_45 : decode cX11_hours 45 = .ok (.ireturn, 1) := by decide +kernel
theorem dX11_gate_0 : decode cX11_gate 0 = .ok (.iload_n 1, 1) := by decide +kernel
theorem dX11_gate_1 : decode cX11_gate 1 = .ok (.ifCond .eq 33, 3) := by decide +kernel
theorem dX11_gate_4 : decode cX11_gate 4 = .ok (.aload_n 0, 1) := by decide +kernel
theorem dX11_gate_5 : decode cX11_gate 5 = .ok (.getfield 19, 3) := by decide +kernel
theorem dX11_gate_8 : decode cX11_gate 8 = .ok (.getfield 213, 3) := by decide +kernel
theorem dX11_gate_11 : decode cX11_gate 11 = .ok (.ifCond .ne 23, 3) := by decide +kernel
theorem dX11_gate_14 : decode cX11_gate 14 = .ok (.aload_n 0, 1) := by decide +kernel
theorem dX11_gate_15 : decode cX11_gate 15 = .ok (.getfield 19, 3) := by decide +kernel
theorem dX11_gate_18 : decode cX11_gate 18 = .ok (.invokevirtual 217, 3) := by decide +kernel
theorem dX11_gate_21 : decode cX11_gate 21 = .ok (.ifCond .ne 13, 3) := by decide +kernel
theorem dX11_gate_24 : decode cX11_gate 24 = .ok (.new 221, 3) := by decide +kernel
theorem dX11_gate_27 : decode cX11_gate 27 = .ok (.dup, 1) := by decide +kernel
theorem dX11_gate_28 : decode cX11_gate 28 = .ok (.ldc 223, 2) := by decide +kernel
theorem dX11_gate_30 : decode cX11_gate 30 = .ok (.invokespecial 225, 3) := by decide +kernel
theorem dX11_gate_33 : decode cX11_gate 33 = .ok (.athrow, 1) := by decide +kernel
theorem dX11_gate_34 : decode cX11_gate 34 = .ok (.aload_n 0, 1) := by decide +kernel
theorem dX11_gate_35 : decode cX11_gate 35 = .ok (.getfield 63, 3) := by decide +kernel
theorem dX11_gate_38 : decode cX11_gate 38 = .ok (.aload_n 0, 1) := by decide +kernel
theorem dX11_gate_39 : decode cX11_gate 39 = .ok (.getfield 19, 3) := by decide +kernel
theorem dX11_gate_42 : decode cX11_gate 42 = .ok (.invokevirtual 206, 3) := by decide +kernel
theorem dX11_gate_45 : decode cX11_gate 45 = .ok (.aload_n 0, 1) := by decide +kernel
theorem dX11_gate_46 : decode cX11_gate 46 = .ok (.getfield 19, 3) := by decide +kernel
theorem dX11_gate_49 : decode cX11_gate 49 = .ok (.getfield 213, 3) := by decide +kernel
theorem dX11_gate_52 : decode cX11_gate 52 = .ok (.iload_n 1, 1) := by decide +kernel
theorem dX11_gate_53 : decode cX11_gate 53 = .ok (.if_icmp .eq 7, 3) := by decide +kernel
theorem dX11_gate_56 : decode cX11_gate 56 = .ok (.iconst 1, 1) := by decide +kernel
theorem dX11_gate_57 : decode cX11_gate 57 = .ok (.goto 4, 3) := by decide +kernel
theorem dX11_gate_60 : decode cX11_gate 60 = .ok (.iconst 0, 1) := by decide +kernel
theorem dX11_gate_61 : decode cX11_gate 61 = .ok (.istore_n 2, 1) := by decide +kernel
theorem dX11_gate_62 : decode cX11_gate 62 = .ok (.aload_n 0, 1) := by decide +kernel
theorem dX11_gate_63 : decode cX11_gate 63 = .ok (.getfield 19, 3) := by decide +kernel
theorem dX11_gate_66 : decode cX11_gate 66 = .ok (.iload_n 1, 1) := by decide +kernel
theorem dX11_gate_67 : decode cX11_gate 67 = .ok (.putfield 213, 3) := by decide +kernel
theorem dX11_gate_70 : decode cX11_gate 70 = .ok (.iload_n 2, 1) := by decide +kernel
theorem dX11_gate_71 : decode cX11_gate 71 = .ok (.ireturn, 1) := by decide +kernel
theorem dX11_enter_0 : decode cX11_enter 0 = .ok (.aload_n 0, 1) := by decide +kernel
theorem dX11_enter_1 : decode cX11_enter 1 = .ok (.iload_n 1, 1) := by decide +kernel
theorem dX11_enter_2 : decode cX11_enter 2 = .ok (.invokevirtual 137, 3) := by decide +kernel
theorem dX11_enter_5 : decode cX11_enter 5 = .ok (.aload_n 0, 1) := by decide +kernel
theorem dX11_enter_6 : decode cX11_enter 6 = .ok (.iload_n 2, 1) := by decide +kernel
theorem dX11_enter_7 : decode cX11_enter 7 = .ok (.invokevirtual 187, 3) := by decide +kernel
theorem dX11_enter_10 : decode cX11_enter 10 = .ok (.aload_n 0, 1) := by decide +kernel
theorem dX11_enter_11 : decode cX11_enter 11 = .ok (.getfield 19, 3) := by decide +kernel
theorem dX11_enter_14 : decode cX11_enter 14 = .ok (.getfield 213, 3) := by decide +kernel
theorem dX11_enter_17 : decode cX11_enter 17 = .ok (.ifCond .eq 57, 3) := by decide +kernel
theorem dX11_enter_20 : decode cX11_enter 20 = .ok (.aload_n 0, 1) := by decide +kernel
theorem dX11_enter_21 : decode cX11_enter 21 = .ok (.getfield 19, 3) := by decide +kernel
theorem dX11_enter_24 : decode cX11_enter 24 = .ok (.getfield 150, 3) := by decide +kernel
theorem dX11_enter_27 : decode cX11_enter 27 = .ok (.iload_n 1, 1) := by decide +kernel
theorem dX11_enter_28 : decode cX11_enter 28 = .ok (.iaload, 1) := by decide +kernel
theorem dX11_enter_29 : decode cX11_enter 29 = .ok (.ifCond .ne 45, 3) := by decide +kernel
theorem dX11_enter_32 : decode cX11_enter 32 = .ok (.aload_n 0, 1) := by decide +kernel
theorem dX11_enter_33 : decode cX11_enter 33 = .ok (.getfield 19, 3) := by decide +kernel
theorem dX11_enter_36 : decode cX11_enter 36 = .ok (.getfield 144, 3) := by decide +kernel
theorem dX11_enter_39 : decode cX11_enter 39 = .ok (.iload_n 1, 1) := by decide +kernel
theorem dX11_enter_40 : decode cX11_enter 40 = .ok (.iaload, 1) := by decide +kernel
theorem dX11_enter_41 : decode cX11_enter 41 = .ok (.aload_n 0, 1) := by decide +kernel
theorem dX11_enter_42 : decode cX11_enter 42 = .ok (.getfield 19, 3) := by decide +kernel
theorem dX11_enter_45 : decode cX11_enter 45 = .ok (.getfield 226, 3) := by decide +kernel
theorem dX11_enter_48 : decode cX11_enter 48 = .ok (.if_icmp .gt 26, 3) := by decide +kernel
theorem dX11_enter_51 : decode cX11_enter 51 = .ok (.aload_n 0, 1) := by decide +kernel
theorem dX11_enter_52 : decode cX11_enter 52 = .ok (.getfield 19, 3) := by decide +kernel
theorem dX11_enter_55 : decode cX11_enter 55 = .ok (.invokevirtual 229, 3) := by decide +kernel
theorem dX11_enter_58 : decode cX11_enter 58 = .ok (.iload_n 2, 1) := by decide +kernel
theorem dX11_enter_59 : decode cX11_enter 59 = .ok (.aload_n 0, 1) := by decide +kernel
theorem dX11_enter_60 : decode cX11_enter 60 = .ok (.getfield 19, 3) := by decide +kernel
theorem dX11_enter_63 : decode cX11_enter 63 = .ok (.getfield 140, 3) := by decide +kernel
theorem dX11_enter_66 : decode cX11_enter 66 = .ok (.iload_n 1, 1) := by decide +kernel
theorem dX11_enter_67 : decode cX11_enter 67 = .ok (.iaload, 1) := by decide +kernel
theorem dX11_enter_68 : decode cX11_enter 68 = .ok (.invokestatic 233, 3) := by decide +kernel
theorem dX11_enter_71 : decode cX11_enter 71 = .ok (.ifCond .ne 13, 3) := by decide +kernel
theorem dX11_enter_74 : decode cX11_enter 74 = .ok (.new 221, 3) := by decide +kernel
theorem dX11_enter_77 : decode cX11_enter 77 = .ok (.dup, 1) := by decide +kernel
theorem dX11_enter_78 : decode cX11_enter 78 = .ok (.ldc 237, 2) := by decide +kernel
theorem dX11_enter_80 : decode cX11_enter 80 = .ok (.invokespecial 225, 3) := by decide +kernel
theorem dX11_enter_83 : decode cX11_enter 83 = .ok (.athrow, 1) := by decide +kernel
theorem dX11_enter_84 : decode cX11_enter 84 = .ok (.aload_n 0, 1) := by decide +kernel
theorem dX11_enter_85 : decode cX11_enter 85 = .ok (.getfield 63, 3) := by decide +kernel
theorem dX11_enter_88 : decode cX11_enter 88 = .ok (.aload_n 0, 1) := by decide +kernel
theorem dX11_enter_89 : decode cX11_enter 89 = .ok (.getfield 19, 3) := by decide +kernel
theorem dX11_enter_92 : decode cX11_enter 92 = .ok (.invokevirtual 206, 3) := by decide +kernel
theorem dX11_enter_95 : decode cX11_enter 95 = .ok (.aload_n 0, 1) := by decide +kernel
theorem dX11_enter_96 : decode cX11_enter 96 = .ok (.getfield 19, 3) := by decide +kernel
theorem dX11_enter_99 : decode cX11_enter 99 = .ok (.iload_n 1, 1) := by decide +kernel
theorem dX11_enter_100 : decode cX11_enter 100 = .ok (.iload_n 2, 1) := by decide +kernel
theorem dX11_enter_101 : decode cX11_enter 101 = .ok (.invokevirtual 239, 3) := by decide +kernel
theorem dX11_enter_104 : decode cX11_enter 104 = .ok (.aload_n 0, 1) := by decide +kernel
theorem dX11_enter_105 : decode cX11_enter 105 = .ok (.getfield 19, 3) := by decide +kernel
theorem dX11_enter_108 : decode cX11_enter 108 = .ok (.invokevirtual 243, 3) := by decide +kernel
theorem dX11_enter_111 : decode cX11_enter 111 = .ok (.ireturn, 1) := by decide +kernel
theorem dX11_leave_0 : decode cX11_leave 0 = .ok (.aload_n 0, 1) := by decide +kernel
theorem dX11_leave_1 : decode cX11_leave 1 = .ok (.iload_n 1, 1) := by decide +kernel
theorem dX11_leave_2 : decode cX11_leave 2 = .ok (.invokevirtual 137, 3) := by decide +kernel
theorem dX11_leave_5 : decode cX11_leave 5 = .ok (.aload_n 0, 1) := by decide +kernel
theorem dX11_leave_6 : decode cX11_leave 6 = .ok (.getfield 19, 3) := by decide +kernel
theorem dX11_leave_9 : decode cX11_leave 9 = .ok (.getfield 213, 3) := by decide +kernel
theorem dX11_leave_12 : decode cX11_leave 12 = .ok (.ifCond .eq 14, 3) := by decide +kernel
theorem dX11_leave_15 : decode cX11_leave 15 = .ok (.aload_n 0, 1) := by decide +kernel
theorem dX11_leave_16 : decode cX11_leave 16 = .ok (.getfield 19, 3) := by decide +kernel
theorem dX11_leave_19 : decode cX11_leave 19 = .ok (.iload_n 1, 1) := by decide +kernel
theorem dX11_leave_20 : decode cX11_leave 20 = .ok (.invokevirtual 164, 3) := by decide +kernel
theorem dX11_leave_23 : decode cX11_leave 23 = .ok (.ifCond .ne 13, 3) := by decide +kernel
theorem dX11_leave_26 : decode cX11_leave 26 = .ok (.new 221, 3) := by decide +kernel
theorem dX11_leave_29 : decode cX11_leave 29 = .ok (.dup, 1) := by decide +kernel
theorem dX11_leave_30 : decode cX11_leave 30 = .ok (.ldc 246, 2) := by decide +kernel
theorem dX11_leave_32 : decode cX11_leave 32 = .ok (.invokespecial 225, 3) := by decide +kernel
theorem dX11_leave_35 : decode cX11_leave 35 = .ok (.athrow, 1) := by decide +kernel
theorem dX11_leave_36 : decode cX11_leave 36 = .ok (.aload_n 0, 1) := by decide +kernel
theorem dX11_leave_37 : decode cX11_leave 37 = .ok (.getfield 63, 3) := by decide +kernel
theorem dX11_leave_40 : decode cX11_leave 40 = .ok (.aload_n 0, 1) := by decide +kernel
theorem dX11_leave_41 : decode cX11_leave 41 = .ok (.getfield 19, 3) := by decide +kernel
theorem dX11_leave_44 : decode cX11_leave 44 = .ok (.invokevirtual 206, 3) := by decide +kernel
theorem dX11_leave_47 : decode cX11_leave 47 = .ok (.aload_n 0, 1) := by decide +kernel
theorem dX11_leave_48 : decode cX11_leave 48 = .ok (.getfield 19, 3) := by decide +kernel
theorem dX11_leave_51 : decode cX11_leave 51 = .ok (.iload_n 1, 1) := by decide +kernel
theorem dX11_leave_52 : decode cX11_leave 52 = .ok (.aload_n 0, 1) := by decide +kernel
theorem dX11_leave_53 : decode cX11_leave 53 = .ok (.getfield 32, 3) := by decide +kernel
theorem dX11_leave_56 : decode cX11_leave 56 = .ok (.invokevirtual 248, 3) := by decide +kernel
theorem dX11_leave_59 : decode cX11_leave 59 = .ok (.ireturn, 1) := by decide +kernel
theorem dX11_comes_0 : decode cX11_comes 0 = .ok (.iload_n 1, 1) := by decide +kernel
theorem dX11_comes_1 : decode cX11_comes 1 = .ok (.iconst 1, 1) := by decide +kernel
theorem dX11_comes_2 : decode cX11_comes 2 = .ok (.if_icmp .lt 30, 3) := by decide +kernel
theorem dX11_comes_5 : decode cX11_comes 5 = .ok (.iload_n 1, 1) := by decide +kernel
theorem dX11_comes_6 : decode cX11_comes 6 = .ok (.bipush 12, 2) := by decide +kernel
theorem dX11_comes_8 : decode cX11_comes 8 = .ok (.if_icmp .gt 24, 3) := by decide +kernel
theorem dX11_comes_11 : decode cX11_comes 11 = .ok (.iload_n 2, 1) := by decide +kernel
theorem dX11_comes_12 : decode cX11_comes 12 = .ok (.iconst 1, 1) := by decide +kernel
theorem dX11_comes_13 : decode cX11_comes 13 = .ok (.if_icmp .lt 19, 3) := by decide +kernel
theorem dX11_comes_16 : decode cX11_comes 16 = .ok (.iload_n 2, 1) := by decide +kernel
theorem dX11_comes_17 : decode cX11_comes 17 = .ok (.bipush 20, 2) := by decide +kernel
theorem dX11_comes_19 : decode cX11_comes 19 = .ok (.if_icmp .gt 13, 3) := by decide +kernel
theorem dX11_comes_22 : decode cX11_comes 22 = .ok (.iload_n 3, 1) := by decide +kernel
theorem dX11_comes_23 : decode cX11_comes 23 = .ok (.ifCond .lt 9, 3) := by decide +kernel
theorem dX11_comes_26 : decode cX11_comes 26 = .ok (.iload_n 3, 1) := by decide +kernel
theorem dX11_comes_27 : decode cX11_comes 27 = .ok (.bipush 99, 2) := by decide +kernel
theorem dX11_comes_29 : decode cX11_comes 29 = .ok (.if_icmp .le 13, 3) := by decide +kernel
theorem dX11_comes_32 : decode cX11_comes 32 = .ok (.new 107, 3) := by decide +kernel
theorem dX11_comes_35 : decode cX11_comes 35 = .ok (.dup, 1) := by decide +kernel
theorem dX11_comes_36 : decode cX11_comes 36 = .ok (.ldc 251, 2) := by decide +kernel
theorem dX11_comes_38 : decode cX11_comes 38 = .ok (.invokespecial 111, 3) := by decide +kernel
theorem dX11_comes_41 : decode cX11_comes 41 = .ok (.athrow, 1) := by decide +kernel
theorem dX11_comes_42 : decode cX11_comes 42 = .ok (.aload_n 0, 1) := by decide +kernel
theorem dX11_comes_43 : decode cX11_comes 43 = .ok (.getfield 19, 3) := by decide +kernel
theorem dX11_comes_46 : decode cX11_comes 46 = .ok (.getfield 253, 3) := by decide +kernel
theorem dX11_comes_49 : decode cX11_comes 49 = .ok (.bipush 8, 2) := by decide +kernel
theorem dX11_comes_51 : decode cX11_comes 51 = .ok (.if_icmp .lt 14, 3) := by decide +kernel
theorem dX11_comes_54 : decode cX11_comes 54 = .ok (.new 221, 3) := by decide +kernel
theorem dX11_comes_57 : decode cX11_comes 57 = .ok (.dup, 1) := by decide +kernel
theorem dX11_comes_58 : decode cX11_comes 58 = .ok (.ldc_w 256, 3) := by decide +kernel
theorem dX11_comes_61 : decode cX11_comes 61 = .ok (.invokespecial 225, 3) := by decide +kernel
theorem dX11_comes_64 : decode cX11_comes 64 = .ok (.athrow, 1) := by decide +kernel
theorem dX11_comes_65 : decode cX11_comes 65 = .ok (.aload_n 0, 1) := by decide +kernel
theorem dX11_comes_66 : decode cX11_comes 66 = .ok (.getfield 63, 3) := by decide +kernel
theorem dX11_comes_69 : decode cX11_comes 69 = .ok (.aload_n 0, 1) := by decide +kernel
theorem dX11_comes_70 : decode cX11_comes 70 = .ok (.getfield 19, 3) := by decide +kernel
theorem dX11_comes_73 : decode cX11_comes 73 = .ok (.invokevirtual 206, 3) := by decide +kernel
theorem dX11_comes_76 : decode cX11_comes 76 = .ok (.aload_n 0, 1) := by decide +kernel
theorem dX11_comes_77 : decode cX11_comes 77 = .ok (.getfield 19, 3) := by decide +kernel
theorem dX11_comes_80 : decode cX11_comes 80 = .ok (.iload_n 1, 1) := by decide +kernel
theorem dX11_comes_81 : decode cX11_comes 81 = .ok (.iload_n 2, 1) := by decide +kernel
theorem dX11_comes_82 : decode cX11_comes 82 = .ok (.iload_n 3, 1) := by decide +kernel
theorem dX11_comes_83 : decode cX11_comes 83 = .ok (.iconst (-1), 1) := by decide +kernel
theorem dX11_comes_84 : decode cX11_comes 84 = .ok (.invokevirtual 258, 3) := by decide +kernel
theorem dX11_comes_87 : decode cX11_comes 87 = .ok (.ireturn, 1) := by decide +kernel
theorem dX11_block_0 : decode cX11_block 0 = .ok (.aload_n 0, 1) := by decide +kernel
theorem dX11_block_1 : decode cX11_block 1 = .ok (.iload_n 1, 1) := by decide +kernel
theorem dX11_block_2 : decode cX11_block 2 = .ok (.invokevirtual 187, 3) := by decide +kernel
theorem dX11_block_5 : decode cX11_block 5 = .ok (.aload_n 0, 1) := by decide +kernel
theorem dX11_block_6 : decode cX11_block 6 = .ok (.getfield 63, 3) := by decide +kernel
theorem dX11_block_9 : decode cX11_block 9 = .ok (.aload_n 0, 1) := by decide +kernel
theorem dX11_block_10 : decode cX11_block 10 = .ok (.getfield 19, 3) := by decide +kernel
theorem dX11_block_13 : decode cX11_block 13 = .ok (.invokevirtual 206, 3) := by decide +kernel
theorem dX11_block_16 : decode cX11_block 16 = .ok (.aload_n 0, 1) := by decide +kernel
theorem dX11_block_17 : decode cX11_block 17 = .ok (.getfield 19, 3) := by decide +kernel
theorem dX11_block_20 : decode cX11_block 20 = .ok (.getfield 190, 3) := by decide +kernel
theorem dX11_block_23 : decode cX11_block 23 = .ok (.istore_n 3, 1) := by decide +kernel
theorem dX11_block_24 : decode cX11_block 24 = .ok (.iconst 1, 1) := by decide +kernel
theorem dX11_block_25 : decode cX11_block 25 = .ok (.iload_n 1, 1) := by decide +kernel
theorem dX11_block_26 : decode cX11_block 26 = .ok (.ishl, 1) := by decide +kernel
theorem dX11_block_27 : decode cX11_block 27 = .ok (.istore 4, 2) := by decide +kernel
theorem dX11_block_29 : decode cX11_block 29 = .ok (.aload_n 0, 1) := by decide +kernel
theorem dX11_block_30 : decode cX11_block 30 = .ok (.getfield 19, 3) := by decide +kernel
theorem dX11_block_33 : decode cX11_block 33 = .ok (.iload_n 2, 1) := by decide +kernel
theorem dX11_block_34 : decode cX11_block 34 = .ok (.ifCond .eq 10, 3) := by decide +kernel
theorem dX11_block_37 : decode cX11_block 37 = .ok (.iload_n 3, 1) := by decide +kernel
theorem dX11_block_38 : decode cX11_block 38 = .ok (.iload 4, 2) := by decide +kernel
theorem dX11_block_40 : decode cX11_block 40 = .ok (.ior, 1) := by decide +kernel
theorem dX11_block_41 : decode cX11_block 41 = .ok (.goto 9, 3) := by decide +kernel
theorem dX11_block_44 : decode cX11_block 44 = .ok (.iload_n 3, 1) := by decide +kernel
theorem dX11_block_45 : decode cX11_block 45 = .ok (.iload 4, 2) := by decide +kernel
theorem dX11_block_47 : decode cX11_block 47 = .ok (.iconst (-1), 1) := by decide +kernel
theorem dX11_block_48 : decode cX11_block 48 = .ok (.ixor, 1) := by decide +kernel
theorem dX11_block_49 : decode cX11_block 49 = .ok (.iand, 1) := by decide +kernel
theorem dX11_block_50 : decode cX11_block 50 = .ok (.putfield 190, 3) := by decide +kernel
theorem dX11_block_53 : decode cX11_block 53 = .ok (.aload_n 0, 1) := by decide +kernel
theorem dX11_block_54 : decode cX11_block 54 = .ok (.getfield 19, 3) := by decide +kernel
theorem dX11_block_57 : decode cX11_block 57 = .ok (.getfield 190, 3) := by decide +kernel
theorem dX11_block_60 : decode cX11_block 60 = .ok (.iload_n 3, 1) := by decide +kernel
theorem dX11_block_61 : decode cX11_block 61 = .ok (.if_icmp .eq 7, 3) := by decide +kernel
theorem dX11_block_64 : decode cX11_block 64 = .ok (.iconst 1, 1) := by decide +kernel
theorem dX11_block_65 : decode cX11_block 65 = .ok (.goto 4, 3) := by decide +kernel
theorem dX11_block_68 : decode cX11_block 68 = .ok (.iconst 0, 1) := by decide +kernel
theorem dX11_block_69 : decode cX11_block 69 = .ok (.ireturn, 1) := by decide +kernel
theorem dX11_pumps_0 : decode cX11_pumps 0 = .ok (.aload_n 0, 1) := by decide +kernel
theorem dX11_pumps_1 : decode cX11_pumps 1 = .ok (.iload_n 1, 1) := by decide +kernel
theorem dX11_pumps_2 : decode cX11_pumps 2 = .ok (.bipush 9, 2) := by decide +kernel
theorem dX11_pumps_4 : decode cX11_pumps 4 = .ok (.invokevirtual 262, 3) := by decide +kernel
theorem dX11_pumps_7 : decode cX11_pumps 7 = .ok (.aload_n 0, 1) := by decide +kernel
theorem dX11_pumps_8 : decode cX11_pumps 8 = .ok (.getfield 63, 3) := by decide +kernel
theorem dX11_pumps_11 : decode cX11_pumps 11 = .ok (.aload_n 0, 1) := by decide +kernel
theorem dX11_pumps_12 : decode cX11_pumps 12 = .ok (.getfield 19, 3) := by decide +kernel
theorem dX11_pumps_15 : decode cX11_pumps 15 = .ok (.invokevirtual 206, 3) := by decide +kernel
theorem dX11_pumps_18 : decode cX11_pumps 18 = .ok (.aload_n 0, 1) := by decide +kernel
theorem dX11_pumps_19 : decode cX11_pumps 19 = .ok (.getfield 19, 3) := by decide +kernel
theorem dX11_pumps_22 : decode cX11_pumps 22 = .ok (.getfield 265, 3) := by decide +kernel
theorem dX11_pumps_25 : decode cX11_pumps 25 = .ok (.istore_n 2, 1) := by decide +kernel
theorem dX11_pumps_26 : decode cX11_pumps 26 = .ok (.aload_n 0, 1) := by decide +kernel
theorem dX11_pumps_27 : decode cX11_pumps 27 = .ok (.getfield 19, 3) := by decide +kernel
theorem dX11_pumps_30 : decode cX11_pumps 30 = .ok (.iload_n 1, 1) := by decide +kernel
theorem dX11_pumps_31 : decode cX11_pumps 31 = .ok (.putfield 265, 3) := by decide +kernel
theorem dX11_pumps_34 : decode cX11_pumps 34 = .ok (.iload_n 2, 1) := by decide +kernel
theorem dX11_pumps_35 : decode cX11_pumps 35 = .ok (.ireturn, 1) := by decide +kernel
theorem dX11_hands_0 : decode cX11_hands 0 = .ok (.aload_n 0, 1) := by decide +kernel
theorem dX11_hands_1 : decode cX11_hands 1 = .ok (.iload_n 1, 1) := by decide +kernel
theorem dX11_hands_2 : decode cX11_hands 2 = .ok (.bipush 9, 2) := by decide +kernel
theorem dX11_hands_4 : decode cX11_hands 4 = .ok (.invokevirtual 262, 3) := by decide +kernel
theorem dX11_hands_7 : decode cX11_hands 7 = .ok (.aload_n 0, 1) := by decide +kernel
theorem dX11_hands_8 : decode cX11_hands 8 = .ok (.getfield 63, 3) := by decide +kernel
theorem dX11_hands_11 : decode cX11_hands 11 = .ok (.aload_n 0, 1) := by decide +kernel
theorem dX11_hands_12 : decode cX11_hands 12 = .ok (.getfield 19, 3) := by decide +kernel
theorem dX11_hands_15 : decode cX11_hands 15 = .ok (.invokevirtual 206, 3) := by decide +kernel
theorem dX11_hands_18 : decode cX11_hands 18 = .ok (.aload_n 0, 1) := by decide +kernel
theorem dX11_hands_19 : decode cX11_hands 19 = .ok (.getfield 19, 3) := by decide +kernel
theorem dX11_hands_22 : decode cX11_hands 22 = .ok (.getfield 268, 3) := by decide +kernel
theorem dX11_hands_25 : decode cX11_hands 25 = .ok (.istore_n 2, 1) := by decide +kernel
theorem dX11_hands_26 : decode cX11_hands 26 = .ok (.aload_n 0, 1) := by decide +kernel
theorem dX11_hands_27 : decode cX11_hands 27 = .ok (.getfield 19, 3) := by decide +kernel
theorem dX11_hands_30 : decode cX11_hands 30 = .ok (.iload_n 1, 1) := by decide +kernel
theorem dX11_hands_31 : decode cX11_hands 31 = .ok (.putfield 268, 3) := by decide +kernel
theorem dX11_hands_34 : decode cX11_hands 34 = .ok (.iload_n 2, 1) := by decide +kernel
theorem dX11_hands_35 : decode cX11_hands 35 = .ok (.ireturn, 1) := by decide +kernel
theorem dX11_flow_0 : decode cX11_flow 0 = .ok (.aload_n 0, 1) := by decide +kernel
theorem dX11_flow_1 : decode cX11_flow 1 = .ok (.iload_n 1, 1) := by decide +kernel
theorem dX11_flow_2 : decode cX11_flow 2 = .ok (.invokevirtual 198, 3) := by decide +kernel
theorem dX11_flow_5 : decode cX11_flow 5 = .ok (.aload_n 0, 1) := by decide +kernel
theorem dX11_flow_6 : decode cX11_flow 6 = .ok (.iload_n 2, 1) := by decide +kernel
theorem dX11_flow_7 : decode cX11_flow 7 = .ok (.bipush 30, 2) := by decide +kernel
theorem dX11_flow_9 : decode cX11_flow 9 = .ok (.invokevirtual 262, 3) := by decide +kernel
theorem dX11_flow_12 : decode cX11_flow 12 = .ok (.aload_n 0, 1) := by decide +kernel
theorem dX11_flow_13 : decode cX11_flow 13 = .ok (.getfield 63, 3) := by decide +kernel
theorem dX11_flow_16 : decode cX11_flow 16 = .ok (.aload_n 0, 1) := by decide +kernel
theorem dX11_flow_17 : decode cX11_flow 17 = .ok (.getfield 19, 3) := by decide +kernel
theorem dX11_flow_20 : decode cX11_flow 20 = .ok (.invokevirtual 206, 3) := by decide +kernel
theorem dX11_flow_23 : decode cX11_flow 23 = .ok (.aload_n 0, 1) := by decide +kernel
theorem dX11_flow_24 : decode cX11_flow 24 = .ok (.getfield 19, 3) := by decide +kernel
theorem dX11_flow_27 : decode cX11_flow 27 = .ok (.getfield 201, 3) := by decide +kernel
theorem dX11_flow_30 : decode cX11_flow 30 = .ok (.iload_n 1, 1) := by decide +kernel
theorem dX11_flow_31 : decode cX11_flow 31 = .ok (.iaload, 1) := by decide +kernel
theorem dX11_flow_32 : decode cX11_flow 32 = .ok (.istore_n 3, 1) := by decide +kernel
theorem dX11_flow_33 : decode cX11_flow 33 = .ok (.aload_n 0, 1) := by decide +kernel
theorem dX11_flow_34 : decode cX11_flow 34 = .ok (.getfield 19, 3) := by decide +kernel
theorem dX11_flow_37 : decode cX11_flow 37 = .ok (.getfield 201, 3) := by decide +kernel
theorem dX11_flow_40 : decode cX11_flow 40 = .ok (.iload_n 1, 1) := by decide +kernel
theorem dX11_flow_41 : decode cX11_flow 41 = .ok (.iload_n 2, 1) := by decide +kernel
theorem dX11_flow_42 : decode cX11_flow 42 = .ok (.iastore, 1) := by decide +kernel
theorem dX11_flow_43 : decode cX11_flow 43 = .ok (.iload_n 3, 1) := by decide +kernel
theorem dX11_flow_44 : decode cX11_flow 44 = .ok (.ireturn, 1) := by decide +kernel
theorem dX11_pulls_0 : decode cX11_pulls 0 = .ok (.aload_n 0, 1) := by decide +kernel
theorem dX11_pulls_1 : decode cX11_pulls 1 = .ok (.getfield 19, 3) := by decide +kernel
theorem dX11_pulls_4 : decode cX11_pulls 4 = .ok (.aload_n 0, 1) := by decide +kernel
theorem dX11_pulls_5 : decode cX11_pulls 5 = .ok (.getfield 32, 3) := by decide +kernel
theorem dX11_pulls_8 : decode cX11_pulls 8 = .ok (.invokevirtual 271, 3) := by decide +kernel
theorem dX11_pulls_11 : decode cX11_pulls 11 = .ok (.ireturn, 1) := by decide +kernel
theorem dX11_leaks_0 : decode cX11_leaks 0 = .ok (.aload_n 0, 1) := by decide +kernel
theorem dX11_leaks_1 : decode cX11_leaks 1 = .ok (.getfield 19, 3) := by decide +kernel
theorem dX11_leaks_4 : decode cX11_leaks 4 = .ok (.aload_n 0, 1) := by decide +kernel
theorem dX11_leaks_5 : decode cX11_leaks 5 = .ok (.getfield 32, 3) := by decide +kernel
theorem dX11_leaks_8 : decode cX11_leaks 8 = .ok (.invokevirtual 275, 3) := by decide +kernel
theorem dX11_leaks_11 : decode cX11_leaks 11 = .ok (.ireturn, 1) := by decide +kernel
theorem dX11_even_0 : decode cX11_even 0 = .ok (.aload_n 0, 1) := by decide +kernel
theorem dX11_even_1 : decode cX11_even 1 = .ok (.getfield 19, 3) := by decide +kernel
theorem dX11_even_4 : decode cX11_even 4 = .ok (.invokevirtual 217, 3) := by decide +kernel
theorem dX11_even_7 : decode cX11_even 7 = .ok (.ireturn, 1) := by decide +kernel
theorem dX11_room_0 : decode cX11_room 0 = .ok (.aload_n 0, 1) := by decide +kernel
theorem dX11_room_1 : decode cX11_room 1 = .ok (.getfield 19, 3) := by decide +kernel
theorem dX11_room_4 : decode cX11_room 4 = .ok (.invokevirtual 229, 3) := by decide +kernel
theorem dX11_room_7 : decode cX11_room 7 = .ok (.istore_n 1, 1) := by decide +kernel
theorem dX11_room_8 : decode cX11_room 8 = .ok (.iconst 0, 1) := by decide +kernel
theorem dX11_room_9 : decode cX11_room 9 = .ok (.istore_n 2, 1) := by decide +kernel
theorem dX11_room_10 : decode cX11_room 10 = .ok (.iconst 0, 1) := by decide +kernel
theorem dX11_room_11 : decode cX11_room 11 = .ok (.istore_n 3, 1) := by decide +kernel
theorem dX11_room_12 : decode cX11_room 12 = .ok (.iconst 0, 1) := by decide +kernel
theorem dX11_room_13 : decode cX11_room 13 = .ok (.istore 4, 2) := by decide +kernel
theorem dX11_room_15 : decode cX11_room 15 = .ok (.iload 4, 2) := by decide +kernel
theorem dX11_room_17 : decode cX11_room 17 = .ok (.bipush 24, 2) := by decide +kernel
theorem dX11_room_19 : decode cX11_room 19 = .ok (.if_icmp .ge 32, 3) := by decide +kernel
theorem dX11_room_22 : decode cX11_room 22 = .ok (.iload_n 1, 1) := by decide +kernel
theorem dX11_room_23 : decode cX11_room 23 = .ok (.iload 4, 2) := by decide +kernel
theorem dX11_room_25 : decode cX11_room 25 = .ok (.ishr, 1) := by decide +kernel
theorem dX11_room_26 : decode cX11_room 26 = .ok (.iconst 1, 1) := by decide +kernel
theorem dX11_room_27 : decode cX11_room 27 = .ok (.iand, 1) := by decide +kernel
theorem dX11_room_28 : decode cX11_room 28 = .ok (.ifCond .ne 9, 3) := by decide +kernel
theorem dX11_room_31 : decode cX11_room 31 = .ok (.iload_n 2, 1) := by decide +kernel
theorem dX11_room_32 : decode cX11_room 32 = .ok (.iconst 1, 1) := by decide +kernel
theorem dX11_room_33 : decode cX11_room 33 = .ok (.iadd, 1) := by decide +kernel
theorem dX11_room_34 : decode cX11_room 34 = .ok (.goto 4, 3) := by decide +kernel
theorem dX11_room_37 : decode cX11_room 37 = .ok (.iconst 0, 1) := by decide +kernel
theorem dX11_room_38 : decode cX11_room 38 = .ok (.istore_n 2, 1) := by decide +kernel
theorem dX11_room_39 : decode cX11_room 39 = .ok (.iload_n 3, 1) := by decide +kernel
theorem dX11_room_40 : decode cX11_room 40 = .ok (.iload_n 2, 1) := by decide +kernel
theorem dX11_room_41 : decode cX11_room 41 = .ok (.invokestatic 278, 3) := by decide +kernel
theorem dX11_room_44 : decode cX11_room 44 = .ok (.istore_n 3, 1) := by decide +kernel
theorem dX11_room_45 : decode cX11_room 45 = .ok (.iinc 4 1, 3) := by decide +kernel
theorem dX11_room_48 : decode cX11_room 48 = .ok (.goto (-33), 3) := by decide +kernel
theorem dX11_room_51 : decode cX11_room 51 = .ok (.iload_n 3, 1) := by decide +kernel
theorem dX11_room_52 : decode cX11_room 52 = .ok (.ireturn, 1) := by decide +kernel
theorem dX11_load_0 : decode cX11_load 0 = .ok (.aload_n 0, 1) := by decide +kernel
theorem dX11_load_1 : decode cX11_load 1 = .ok (.getfield 84, 3) := by decide +kernel
theorem dX11_load_4 : decode cX11_load 4 = .ok (.aload_n 0, 1) := by decide +kernel
theorem dX11_load_5 : decode cX11_load 5 = .ok (.getfield 19, 3) := by decide +kernel
theorem dX11_load_8 : decode cX11_load 8 = .ok (.aload_n 0, 1) := by decide +kernel
theorem dX11_load_9 : decode cX11_load 9 = .ok (.getfield 32, 3) := by decide +kernel
theorem dX11_load_12 : decode cX11_load 12 = .ok (.invokevirtual 284, 3) := by decide +kernel
theorem dX11_load_15 : decode cX11_load 15 = .ok (.aload_n 0, 1) := by decide +kernel
theorem dX11_load_16 : decode cX11_load 16 = .ok (.getfield 84, 3) := by decide +kernel
theorem dX11_load_19 : decode cX11_load 19 = .ok (.getfield 288, 3) := by decide +kernel
theorem dX11_load_22 : decode cX11_load 22 = .ok (.ireturn, 1) := by decide +kernel
theorem dX11_which_0 : decode cX11_which 0 = .ok (.aload_n 0, 1) := by decide +kernel
theorem dX11_which_1 : decode cX11_which 1 = .ok (.getfield 84, 3) := by decide +kernel
theorem dX11_which_4 : decode cX11_which 4 = .ok (.aload_n 0, 1) := by decide +kernel
theorem dX11_which_5 : decode cX11_which 5 = .ok (.getfield 19, 3) := by decide +kernel
theorem dX11_which_8 : decode cX11_which 8 = .ok (.aload_n 0, 1) := by decide +kernel
theorem dX11_which_9 : decode cX11_which 9 = .ok (.getfield 32, 3) := by decide +kernel
theorem dX11_which_12 : decode cX11_which 12 = .ok (.invokevirtual 284, 3) := by decide +kernel
theorem dX11_which_15 : decode cX11_which 15 = .ok (.aload_n 0, 1) := by decide +kernel
theorem dX11_which_16 : decode cX11_which 16 = .ok (.getfield 84, 3) := by decide +kernel
theorem dX11_which_19 : decode cX11_which 19 = .ok (.getfield 291, 3) := by decide +kernel
theorem dX11_which_22 : decode cX11_which 22 = .ok (.ireturn, 1) := by decide +kernel
theorem dX11_dry_0 : decode cX11_dry 0 = .ok (.aload_n 0, 1) := by decide +kernel
theorem dX11_dry_1 : decode cX11_dry 1 = .ok (.iconst 0, 1) := by decide +kernel
theorem dX11_dry_2 : decode cX11_dry 2 = .ok (.invokevirtual 294, 3) := by decide +kernel
theorem dX11_dry_5 : decode cX11_dry 5 = .ok (.ireturn, 1) := by decide +kernel
theorem dX11_ready_0 : decode cX11_ready 0 = .ok (.aload_n 0, 1) := by decide +kernel
theorem dX11_ready_1 : decode cX11_ready 1 = .ok (.iconst 1, 1) := by decide +kernel
theorem dX11_ready_2 : decode cX11_ready 2 = .ok (.invokevirtual 294, 3) := by decide +kernel
theorem dX11_ready_5 : decode cX11_ready 5 = .ok (.ireturn, 1) := by decide +kernel
theorem dX11_ease_0 : decode cX11_ease 0 = .ok (.aload_n 0, 1) := by decide +kernel
theorem dX11_ease_1 : decode cX11_ease 1 = .ok (.iconst 2, 1) := by decide +kernel
theorem dX11_ease_2 : decode cX11_ease 2 = .ok (.invokevirtual 294, 3) := by decide +kernel
theorem dX11_ease_5 : decode cX11_ease 5 = .ok (.ireturn, 1) := by decide +kernel
theorem dX11_cost_0 : decode cX11_cost 0 = .ok (.aload_n 0, 1) := by decide +kernel
theorem dX11_cost_1 : decode cX11_cost 1 = .ok (.getfield 84, 3) := by decide +kernel
theorem dX11_cost_4 : decode cX11_cost 4 = .ok (.aload_n 0, 1) := by decide +kernel
theorem dX11_cost_5 : decode cX11_cost 5 = .ok (.getfield 19, 3) := by decide +kernel
theorem dX11_cost_8 : decode cX11_cost 8 = .ok (.aload_n 0, 1) := by decide +kernel
theorem dX11_cost_9 : decode cX11_cost 9 = .ok (.getfield 32, 3) := by decide +kernel
theorem dX11_cost_12 : decode cX11_cost 12 = .ok (.invokevirtual 297, 3) := by decide +kernel
theorem dX11_cost_15 : decode cX11_cost 15 = .ok (.aload_n 0, 1) := by decide +kernel
theorem dX11_cost_16 : decode cX11_cost 16 = .ok (.getfield 84, 3) := by decide +kernel
theorem dX11_cost_19 : decode cX11_cost 19 = .ok (.getfield 288, 3) := by decide +kernel
theorem dX11_cost_22 : decode cX11_cost 22 = .ok (.ireturn, 1) := by decide +kernel
theorem dX11_first_0 : decode cX11_first 0 = .ok (.aload_n 0, 1) := by decide +kernel
theorem dX11_first_1 : decode cX11_first 1 = .ok (.getfield 84, 3) := by decide +kernel
theorem dX11_first_4 : decode cX11_first 4 = .ok (.aload_n 0, 1) := by decide +kernel
theorem dX11_first_5 : decode cX11_first 5 = .ok (.getfield 19, 3) := by decide +kernel
theorem dX11_first_8 : decode cX11_first 8 = .ok (.aload_n 0, 1) := by decide +kernel
theorem dX11_first_9 : decode cX11_first 9 = .ok (.getfield 32, 3) := by decide +kernel
theorem dX11_first_12 : decode cX11_first 12 = .ok (.invokevirtual 297, 3) := by decide +kernel
theorem dX11_first_15 : decode cX11_first 15 = .ok (.aload_n 0, 1) := by decide +kernel
theorem dX11_first_16 : decode cX11_first 16 = .ok (.getfield 84, 3) := by decide +kernel
theorem dX11_first_19 : decode cX11_first 19 = .ok (.getfield 291, 3) := by decide +kernel
theorem dX11_first_22 : decode cX11_first 22 = .ok (.ireturn, 1) := by decide +kernel
theorem dX11_goes_0 : decode cX11_goes 0 = .ok (.aload_n 0, 1) := by decide +kernel
theorem dX11_goes_1 : decode cX11_goes 1 = .ok (.invokevirtual 300, 3) := by decide +kernel
theorem dX11_goes_4 : decode cX11_goes 4 = .ok (.aload_n 0, 1) := by decide +kernel
theorem dX11_goes_5 : decode cX11_goes 5 = .ok (.getfield 70, 3) := by decide +kernel
theorem dX11_goes_8 : decode cX11_goes 8 = .ok (.iconst 0, 1) := by decide +kernel
theorem dX11_goes_9 : decode cX11_goes 9 = .ok (.invokevirtual 303, 3) := by decide +kernel
theorem dX11_goes_12 : decode cX11_goes 12 = .ok (.iload_n 1, 1) := by decide +kernel
theorem dX11_goes_13 : decode cX11_goes 13 = .ok (.ifCond .eq 13, 3) := by decide +kernel
theorem dX11_goes_16 : decode cX11_goes 16 = .ok (.aload_n 0, 1) := by decide +kernel
theorem dX11_goes_17 : decode cX11_goes 17 = .ok (.getfield 70, 3) := by decide +kernel
theorem dX11_goes_20 : decode cX11_goes 20 = .ok (.getfield 307, 3) := by decide +kernel
theorem dX11_goes_23 : decode cX11_goes 23 = .ok (.goto 10, 3) := by decide +kernel
theorem dX11_goes_26 : decode cX11_goes 26 = .ok (.aload_n 0, 1) := by decide +kernel
theorem dX11_goes_27 : decode cX11_goes 27 = .ok (.getfield 70, 3) := by decide +kernel
theorem dX11_goes_30 : decode cX11_goes 30 = .ok (.getfield 310, 3) := by decide +kernel
theorem dX11_goes_33 : decode cX11_goes 33 = .ok (.ireturn, 1) := by decide +kernel
theorem dX11_ask_0 : decode cX11_ask 0 = .ok (.aload_n 0, 1) := by decide +kernel
theorem dX11_ask_1 : decode cX11_ask 1 = .ok (.invokevirtual 300, 3) := by decide +kernel
theorem dX11_ask_4 : decode cX11_ask 4 = .ok (.aload_n 0, 1) := by decide +kernel
theorem dX11_ask_5 : decode cX11_ask 5 = .ok (.getfield 70, 3) := by decide +kernel
theorem dX11_ask_8 : decode cX11_ask 8 = .ok (.iconst 1, 1) := by decide +kernel
theorem dX11_ask_9 : decode cX11_ask 9 = .ok (.invokevirtual 303, 3) := by decide +kernel
theorem dX11_ask_12 : decode cX11_ask 12 = .ok (.aload_n 0, 1) := by decide +kernel
theorem dX11_ask_13 : decode cX11_ask 13 = .ok (.getfield 70, 3) := by decide +kernel
theorem dX11_ask_16 : decode cX11_ask 16 = .ok (.invokevirtual 313, 3) := by decide +kernel
theorem dX11_ask_19 : decode cX11_ask 19 = .ok (.ireturn, 1) := by decide +kernel
theorem dX11_lies_0 : decode cX11_lies 0 = .ok (.aload_n 0, 1) := by decide +kernel
theorem dX11_lies_1 : decode cX11_lies 1 = .ok (.invokevirtual 316, 3) := by decide +kernel
theorem dX11_lies_4 : decode cX11_lies 4 = .ok (.aload_n 0, 1) := by decide +kernel
theorem dX11_lies_5 : decode cX11_lies 5 = .ok (.getfield 77, 3) := by decide +kernel
theorem dX11_lies_8 : decode cX11_lies 8 = .ok (.invokevirtual 319, 3) := by decide +kernel
theorem dX11_lies_11 : decode cX11_lies 11 = .ok (.aload_n 0, 1) := by decide +kernel
theorem dX11_lies_12 : decode cX11_lies 12 = .ok (.getfield 77, 3) := by decide +kernel
theorem dX11_lies_15 : decode cX11_lies 15 = .ok (.getfield 321, 3) := by decide +kernel
theorem dX11_lies_18 : decode cX11_lies 18 = .ok (.ireturn, 1) := by decide +kernel
theorem dX11_likely_0 : decode cX11_likely 0 = .ok (.aload_n 0, 1) := by decide +kernel
theorem dX11_likely_1 : decode cX11_likely 1 = .ok (.invokevirtual 316, 3) := by decide +kernel
theorem dX11_likely_4 : decode cX11_likely 4 = .ok (.aload_n 0, 1) := by decide +kernel
theorem dX11_likely_5 : decode cX11_likely 5 = .ok (.getfield 77, 3) := by decide +kernel
theorem dX11_likely_8 : decode cX11_likely 8 = .ok (.invokevirtual 319, 3) := by decide +kernel
theorem dX11_likely_11 : decode cX11_likely 11 = .ok (.aload_n 0, 1) := by decide +kernel
theorem dX11_likely_12 : decode cX11_likely 12 = .ok (.getfield 77, 3) := by decide +kernel
theorem dX11_likely_15 : decode cX11_likely 15 = .ok (.getfield 322, 3) := by decide +kernel
theorem dX11_likely_18 : decode cX11_likely 18 = .ok (.ireturn, 1) := by decide +kernel
theorem dX11_sound_0 : decode cX11_sound 0 = .ok (.aload_n 0, 1) := by decide +kernel
theorem dX11_sound_1 : decode cX11_sound 1 = .ok (.invokevirtual 316, 3) := by decide +kernel
theorem dX11_sound_4 : decode cX11_sound 4 = .ok (.aload_n 0, 1) := by decide +kernel
theorem dX11_sound_5 : decode cX11_sound 5 = .ok (.getfield 77, 3) := by decide +kernel
theorem dX11_sound_8 : decode cX11_sound 8 = .ok (.invokevirtual 319, 3) := by decide +kernel
theorem dX11_sound_11 : decode cX11_sound 11 = .ok (.aload_n 0, 1) := by decide +kernel
theorem dX11_sound_12 : decode cX11_sound 12 = .ok (.getfield 77, 3) := by decide +kernel
theorem dX11_sound_15 : decode cX11_sound 15 = .ok (.invokevirtual 323, 3) := by decide +kernel
theorem dX11_sound_18 : decode cX11_sound 18 = .ok (.ireturn, 1) := by decide +kernel
theorem dX11_knocks_0 : decode cX11_knocks 0 = .ok (.aload_n 0, 1) := by decide +kernel
theorem dX11_knocks_1 : decode cX11_knocks 1 = .ok (.getfield 19, 3) := by decide +kernel
theorem dX11_knocks_4 : decode cX11_knocks 4 = .ok (.getfield 190, 3) := by decide +kernel
theorem dX11_knocks_7 : decode cX11_knocks 7 = .ok (.invokestatic 326, 3) := by decide +kernel
theorem dX11_knocks_10 : decode cX11_knocks 10 = .ok (.ifCond .eq 7, 3) := by decide +kernel
theorem dX11_knocks_13 : decode cX11_knocks 13 = .ok (.iconst 1, 1) := by decide +kernel
theorem dX11_knocks_14 : decode cX11_knocks 14 = .ok (.goto 4, 3) := by decide +kernel
theorem dX11_knocks_17 : decode cX11_knocks 17 = .ok (.iconst 0, 1) := by decide +kernel
theorem dX11_knocks_18 : decode cX11_knocks 18 = .ok (.ireturn, 1) := by decide +kernel
theorem dX11_knock_0 : decode cX11_knock 0 = .ok (.aload_n 0, 1) := by decide +kernel
theorem dX11_knock_1 : decode cX11_knock 1 = .ok (.getfield 19, 3) := by decide +kernel
theorem dX11_knock_4 : decode cX11_knock 4 = .ok (.getfield 190, 3) := by decide +kernel
theorem dX11_knock_7 : decode cX11_knock 7 = .ok (.invokestatic 329, 3) := by decide +kernel
theorem dX11_knock_10 : decode cX11_knock 10 = .ok (.ireturn, 1) := by decide +kernel
theorem dX11_beds_0 : decode cX11_beds 0 = .ok (.iload_n 1, 1) := by decide +kernel
theorem dX11_beds_1 : decode cX11_beds 1 = .ok (.iconst (-1), 1) := by decide +kernel
theorem dX11_beds_2 : decode cX11_beds 2 = .ok (.if_icmp .eq 8, 3) := by decide +kernel
theorem dX11_beds_5 : decode cX11_beds 5 = .ok (.aload_n 0, 1) := by decide +kernel
theorem dX11_beds_6 : decode cX11_beds 6 = .ok (.iload_n 1, 1) := by decide +kernel
theorem dX11_beds_7 : decode cX11_beds 7 = .ok (.invokevirtual 137, 3) := by decide +kernel
theorem dX11_beds_10 : decode cX11_beds 10 = .ok (.aload_n 0, 1) := by decide +kernel
theorem dX11_beds_11 : decode cX11_beds 11 = .ok (.getfield 84, 3) := by decide +kernel
theorem dX11_beds_14 : decode cX11_beds 14 = .ok (.aload_n 0, 1) := by decide +kernel
theorem dX11_beds_15 : decode cX11_beds 15 = .ok (.getfield 19, 3) := by decide +kernel
theorem dX11_beds_18 : decode cX11_beds 18 = .ok (.invokevirtual 332, 3) := by decide +kernel
theorem dX11_beds_21 : decode cX11_beds 21 = .ok (.iload_n 1, 1) := by decide +kernel
theorem dX11_beds_22 : decode cX11_beds 22 = .ok (.iconst (-1), 1) := by decide +kernel
theorem dX11_beds_23 : decode cX11_beds 23 = .ok (.if_icmp .ne 13, 3) := by decide +kernel
theorem dX11_beds_26 : decode cX11_beds 26 = .ok (.aload_n 0, 1) := by decide +kernel
theorem dX11_beds_27 : decode cX11_beds 27 = .ok (.getfield 84, 3) := by decide +kernel
theorem dX11_beds_30 : decode cX11_beds 30 = .ok (.getfield 288, 3) := by decide +kernel
theorem dX11_beds_33 : decode cX11_beds 33 = .ok (.goto 12, 3) := by decide +kernel
theorem dX11_beds_36 : decode cX11_beds 36 = .ok (.aload_n 0, 1) := by decide +kernel
theorem dX11_beds_37 : decode cX11_beds 37 = .ok (.getfield 84, 3) := by decide +kernel
theorem dX11_beds_40 : decode cX11_beds 40 = .ok (.getfield 335, 3) := by decide +kernel
theorem dX11_beds_43 : decode cX11_beds 43 = .ok (.iload_n 1, 1) := by decide +kernel
theorem dX11_beds_44 : decode cX11_beds 44 = .ok (.iaload, 1) := by decide +kernel
theorem dX11_beds_45 : decode cX11_beds 45 = .ok (.ireturn, 1) := by decide +kernel
theorem dX11_pairs_0 : decode cX11_pairs 0 = .ok (.iload_n 1, 1) := by decide +kernel
theorem dX11_pairs_1 : decode cX11_pairs 1 = .ok (.iconst (-1), 1) := by decide +kernel
theorem dX11_pairs_2 : decode cX11_pairs 2 = .ok (.if_icmp .eq 8, 3) := by decide +kernel
theorem dX11_pairs_5 : decode cX11_pairs 5 = .ok (.aload_n 0, 1) := by decide +kernel
theorem dX11_pairs_6 : decode cX11_pairs 6 = .ok (.iload_n 1, 1) := by decide +kernel
theorem dX11_pairs_7 : decode cX11_pairs 7 = .ok (.invokevirtual 137, 3) := by decide +kernel
theorem dX11_pairs_10 : decode cX11_pairs 10 = .ok (.aload_n 0, 1) := by decide +kernel
theorem dX11_pairs_11 : decode cX11_pairs 11 = .ok (.getfield 84, 3) := by decide +kernel
theorem dX11_pairs_14 : decode cX11_pairs 14 = .ok (.aload_n 0, 1) := by decide +kernel
theorem dX11_pairs_15 : decode cX11_pairs 15 = .ok (.getfield 19, 3) := by decide +kernel
theorem dX11_pairs_18 : decode cX11_pairs 18 = .ok (.invokevirtual 338, 3) := by decide +kernel
theorem dX11_pairs_21 : decode cX11_pairs 21 = .ok (.iload_n 1, 1) := by decide +kernel
theorem dX11_pairs_22 : decode cX11_pairs 22 = .ok (.iconst (-1), 1) := by decide +kernel
theorem dX11_pairs_23 : decode cX11_pairs 23 = .ok (.if_icmp .ne 13, 3) := by decide +kernel
theorem dX11_pairs_26 : decode cX11_pairs 26 = .ok (.aload_n 0, 1) := by decide +kernel
theorem dX11_pairs_27 : decode cX11_pairs 27 = .ok (.getfield 84, 3) := by decide +kernel
theorem dX11_pairs_30 : decode cX11_pairs 30 = .ok (.getfield 288, 3) := by decide +kernel
theorem dX11_pairs_33 : decode cX11_pairs 33 = .ok (.goto 12, 3) := by decide +kernel
theorem dX11_pairs_36 : decode cX11_pairs 36 = .ok (.aload_n 0, 1) := by decide +kernel
theorem dX11_pairs_37 : decode cX11_pairs 37 = .ok (.getfield 84, 3) := by decide +kernel
theorem dX11_pairs_40 : decode cX11_pairs 40 = .ok (.getfield 335, 3) := by decide +kernel
theorem dX11_pairs_43 : decode cX11_pairs 43 = .ok (.iload_n 1, 1) := by decide +kernel
theorem dX11_pairs_44 : decode cX11_pairs 44 = .ok (.iaload, 1) := by decide +kernel
theorem dX11_pairs_45 : decode cX11_pairs 45 = .ok (.ireturn, 1) := by decide +kernel
theorem dX11_rests_0 : decode cX11_rests 0 = .ok (.aload_n 0, 1) := by decide +kernel
theorem dX11_rests_1 : decode cX11_rests 1 = .ok (.iload_n 1, 1) := by decide +kernel
theorem dX11_rests_2 : decode cX11_rests 2 = .ok (.invokevirtual 137, 3) := by decide +kernel
theorem dX11_rests_5 : decode cX11_rests 5 = .ok (.aload_n 0, 1) := by decide +kernel
theorem dX11_rests_6 : decode cX11_rests 6 = .ok (.getfield 19, 3) := by decide +kernel
theorem dX11_rests_9 : decode cX11_rests 9 = .ok (.getfield 140, 3) := by decide +kernel
theorem dX11_rests_12 : decode cX11_rests 12 = .ok (.iload_n 1, 1) := by decide +kernel
theorem dX11_rests_13 : decode cX11_rests 13 = .ok (.iaload, 1) := by decide +kernel
theorem dX11_rests_14 : decode cX11_rests 14 = .ok (.aload_n 0, 1) := by decide +kernel
theorem dX11_rests_15 : decode cX11_rests 15 = .ok (.getfield 19, 3) := by decide +kernel
theorem dX11_rests_18 : decode cX11_rests 18 = .ok (.getfield 144, 3) := by decide +kernel
theorem dX11_rests_21 : decode cX11_rests 21 = .ok (.iload_n 1, 1) := by decide +kernel
theorem dX11_rests_22 : decode cX11_rests 22 = .ok (.iaload, 1) := by decide +kernel
theorem dX11_rests_23 : decode cX11_rests 23 = .ok (.aload_n 0, 1) := by decide +kernel
theorem dX11_rests_24 : decode cX11_rests 24 = .ok (.getfield 19, 3) := by decide +kernel
theorem dX11_rests_27 : decode cX11_rests 27 = .ok (.getfield 268, 3) := by decide +kernel
theorem dX11_rests_30 : decode cX11_rests 30 = .ok (.invokestatic 341, 3) := by decide +kernel
theorem dX11_rests_33 : decode cX11_rests 33 = .ok (.ireturn, 1) := by decide +kernel
theorem dX11_odds_0 : decode cX11_odds 0 = .ok (.aload_n 0, 1) := by decide +kernel
theorem dX11_odds_1 : decode cX11_odds 1 = .ok (.iload_n 1, 1) := by decide +kernel
theorem dX11_odds_2 : decode cX11_odds 2 = .ok (.iconst 5, 1) := by decide +kernel
theorem dX11_odds_3 : decode cX11_odds 3 = .ok (.invokevirtual 262, 3) := by decide +kernel
theorem dX11_odds_6 : decode cX11_odds 6 = .ok (.aload_n 0, 1) := by decide +kernel
theorem dX11_odds_7 : decode cX11_odds 7 = .ok (.iload_n 2, 1) := by decide +kernel
theorem dX11_odds_8 : decode cX11_odds 8 = .ok (.iconst 5, 1) := by decide +kernel
theorem dX11_odds_9 : decode cX11_odds 9 = .ok (.invokevirtual 262, 3) := by decide +kernel
theorem dX11_odds_12 : decode cX11_odds 12 = .ok (.iload_n 1, 1) := by decide +kernel
theorem dX11_odds_13 : decode cX11_odds 13 = .ok (.iload_n 2, 1) := by decide +kernel
theorem dX11_odds_14 : decode cX11_odds 14 = .ok (.aload_n 0, 1) := by decide +kernel
theorem dX11_odds_15 : decode cX11_odds 15 = .ok (.getfield 19, 3) := by decide +kernel
theorem dX11_odds_18 : decode cX11_odds 18 = .ok (.getfield 345, 3) := by decide +kernel
theorem dX11_odds_21 : decode cX11_odds 21 = .ok (.invokestatic 348, 3) := by decide +kernel
theorem dX11_odds_24 : decode cX11_odds 24 = .ok (.ireturn, 1) := by decide +kernel
theorem dX11_most_0 : decode cX11_most 0 = .ok (.iload_n 1, 1) := by decide +kernel
theorem dX11_most_1 : decode cX11_most 1 = .ok (.tableswitch 72 0 2 #[27, 42, 57], 27) := by decide +kernel
theorem dX11_most_28 : decode cX11_most 28 = .ok (.aload_n 0, 1) := by decide +kernel
theorem dX11_most_29 : decode cX11_most 29 = .ok (.getfield 19, 3) := by decide +kernel
theorem dX11_most_32 : decode cX11_most 32 = .ok (.aload_n 0, 1) := by decide +kernel
theorem dX11_most_33 : decode cX11_most 33 = .ok (.getfield 19, 3) := by decide +kernel
theorem dX11_most_36 : decode cX11_most 36 = .ok (.getfield 140, 3) := by decide +kernel
theorem dX11_most_39 : decode cX11_most 39 = .ok (.invokevirtual 351, 3) := by decide +kernel
theorem dX11_most_42 : decode cX11_most 42 = .ok (.ireturn, 1) := by decide +kernel
theorem dX11_most_43 : decode cX11_most 43 = .ok (.aload_n 0, 1) := by decide +kernel
theorem dX11_most_44 : decode cX11_most 44 = .ok (.getfield 19, 3) := by decide +kernel
theorem dX11_most_47 : decode cX11_most 47 = .ok (.aload_n 0, 1) := by decide +kernel
theorem dX11_most_48 : decode cX11_most 48 = .ok (.getfield 19, 3) := by decide +kernel
theorem dX11_most_51 : decode cX11_most 51 = .ok (.getfield 144, 3) := by decide +kernel
theorem dX11_most_54 : decode cX11_most 54 = .ok (.invokevirtual 351, 3) := by decide +kernel
theorem dX11_most_57 : decode cX11_most 57 = .ok (.ireturn, 1) := by decide +kernel
theorem dX11_most_58 : decode cX11_most 58 = .ok (.aload_n 0, 1) := by decide +kernel
theorem dX11_most_59 : decode cX11_most 59 = .ok (.getfield 19, 3) := by decide +kernel
theorem dX11_most_62 : decode cX11_most 62 = .ok (.aload_n 0, 1) := by decide +kernel
theorem dX11_most_63 : decode cX11_most 63 = .ok (.getfield 19, 3) := by decide +kernel
theorem dX11_most_66 : decode cX11_most 66 = .ok (.getfield 147, 3) := by decide +kernel
theorem dX11_most_69 : decode cX11_most 69 = .ok (.invokevirtual 351, 3) := by decide +kernel
theorem dX11_most_72 : decode cX11_most 72 = .ok (.ireturn, 1) := by decide +kernel
theorem dX11_most_73 : decode cX11_most 73 = .ok (.new 182, 3) := by decide +kernel
theorem dX11_most_76 : decode cX11_most 76 = .ok (.dup, 1) := by decide +kernel
theorem dX11_most_77 : decode cX11_most 77 = .ok (.ldc_w 355, 3) := by decide +kernel
theorem dX11_most_80 : decode cX11_most 80 = .ok (.invokespecial 186, 3) := by decide +kernel
theorem dX11_most_83 : decode cX11_most 83 = .ok (.athrow, 1) := by decide +kernel
theorem dX11_waiting_0 : decode cX11_waiting 0 = .ok (.aload_n 0, 1) := by decide +kernel
theorem dX11_waiting_1 : decode cX11_waiting 1 = .ok (.getfield 19, 3) := by decide +kernel
theorem dX11_waiting_4 : decode cX11_waiting 4 = .ok (.iconst 0, 1) := by decide +kernel
theorem dX11_waiting_5 : decode cX11_waiting 5 = .ok (.invokevirtual 357, 3) := by decide +kernel
theorem dX11_waiting_8 : decode cX11_waiting 8 = .ok (.ireturn, 1) := by decide +kernel
theorem dX11_docked_0 : decode cX11_docked 0 = .ok (.aload_n 0, 1) := by decide +kernel
theorem dX11_docked_1 : decode cX11_docked 1 = .ok (.getfield 19, 3) := by decide +kernel
theorem dX11_docked_4 : decode cX11_docked 4 = .ok (.iconst 1, 1) := by decide +kernel
theorem dX11_docked_5 : decode cX11_docked 5 = .ok (.invokevirtual 357, 3) := by decide +kernel
theorem dX11_docked_8 : decode cX11_docked 8 = .ok (.ireturn, 1) := by decide +kernel
theorem dX11_gone_0 : decode cX11_gone 0 = .ok (.aload_n 0, 1) := by decide +kernel
theorem dX11_gone_1 : decode cX11_gone 1 = .ok (.getfield 19, 3) := by decide +kernel
theorem dX11_gone_4 : decode cX11_gone 4 = .ok (.iconst 2, 1) := by decide +kernel
theorem dX11_gone_5 : decode cX11_gone 5 = .ok (.invokevirtual 357, 3) := by decide +kernel
theorem dX11_gone_8 : decode cX11_gone 8 = .ok (.ireturn, 1) := by decide +kernel
theorem dX11_hurt_0 : decode cX11_hurt 0 = .ok (.aload_n 0, 1) := by decide +kernel
theorem dX11_hurt_1 : decode cX11_hurt 1 = .ok (.getfield 19, 3) := by decide +kernel
theorem dX11_hurt_4 : decode cX11_hurt 4 = .ok (.getfield 360, 3) := by decide +kernel
theorem dX11_hurt_7 : decode cX11_hurt 7 = .ok (.ireturn, 1) := by decide +kernel
theorem dX11_twins_0 : decode cX11_twins 0 = .ok (.iconst 0, 1) := by decide +kernel
theorem dX11_twins_1 : decode cX11_twins 1 = .ok (.istore_n 1, 1) := by decide +kernel
theorem dX11_twins_2 : decode cX11_twins 2 = .ok (.iconst 0, 1) := by decide +kernel
theorem dX11_twins_3 : decode cX11_twins 3 = .ok (.istore_n 2, 1) := by decide +kernel
theorem dX11_twins_4 : decode cX11_twins 4 = .ok (.iload_n 2, 1) := by decide +kernel
theorem dX11_twins_5 : decode cX11_twins 5 = .ok (.aload_n 0, 1) := by decide +kernel
theorem dX11_twins_6 : decode cX11_twins 6 = .ok (.getfield 19, 3) := by decide +kernel
theorem dX11_twins_9 : decode cX11_twins 9 = .ok (.getfield 253, 3) := by decide +kernel
theorem dX11_twins_12 : decode cX11_twins 12 = .ok (.if_icmp .ge 75, 3) := by decide +kernel
theorem dX11_twins_15 : decode cX11_twins 15 = .ok (.iload_n 2, 1) := by decide +kernel
theorem dX11_twins_16 : decode cX11_twins 16 = .ok (.iconst 1, 1) := by decide +kernel
theorem dX11_twins_17 : decode cX11_twins 17 = .ok (.iadd, 1) := by decide +kernel
theorem dX11_twins_18 : decode cX11_twins 18 = .ok (.istore_n 3, 1) := by decide +kernel
theorem dX11_twins_19 : decode cX11_twins 19 = .ok (.iload_n 3, 1) := by decide +kernel
theorem dX11_twins_20 : decode cX11_twins 20 = .ok (.aload_n 0, 1) := by decide +kernel
theorem dX11_twins_21 : decode cX11_twins 21 = .ok (.getfield 19, 3) := by decide +kernel
theorem dX11_twins_24 : decode cX11_twins 24 = .ok (.getfield 253, 3) := by decide +kernel
theorem dX11_twins_27 : decode cX11_twins 27 = .ok (.if_icmp .ge 54, 3) := by decide +kernel
theorem dX11_twins_30 : decode cX11_twins 30 = .ok (.aload_n 0, 1) := by decide +kernel
theorem dX11_twins_31 : decode cX11_twins 31 = .ok (.getfield 19, 3) := by decide +kernel
theorem dX11_twins_34 : decode cX11_twins 34 = .ok (.getfield 140, 3) := by decide +kernel
theorem dX11_twins_37 : decode cX11_twins 37 = .ok (.iload_n 2, 1) := by decide +kernel
theorem dX11_twins_38 : decode cX11_twins 38 = .ok (.iaload, 1) := by decide +kernel
theorem dX11_twins_39 : decode cX11_twins 39 = .ok (.aload_n 0, 1) := by decide +kernel
theorem dX11_twins_40 : decode cX11_twins 40 = .ok (.getfield 19, 3) := by decide +kernel
theorem dX11_twins_43 : decode cX11_twins 43 = .ok (.getfield 140, 3) := by decide +kernel
theorem dX11_twins_46 : decode cX11_twins 46 = .ok (.iload_n 3, 1) := by decide +kernel
theorem dX11_twins_47 : decode cX11_twins 47 = .ok (.iaload, 1) := by decide +kernel
theorem dX11_twins_48 : decode cX11_twins 48 = .ok (.if_icmp .ne 27, 3) := by decide +kernel
theorem dX11_twins_51 : decode cX11_twins 51 = .ok (.aload_n 0, 1) := by decide +kernel
theorem dX11_twins_52 : decode cX11_twins 52 = .ok (.getfield 19, 3) := by decide +kernel
theorem dX11_twins_55 : decode cX11_twins 55 = .ok (.getfield 144, 3) := by decide +kernel
theorem dX11_twins_58 : decode cX11_twins 58 = .ok (.iload_n 2, 1) := by decide +kernel
theorem dX11_twins_59 : decode cX11_twins 59 = .ok (.iaload, 1) := by decide +kernel
theorem dX11_twins_60 : decode cX11_twins 60 = .ok (.aload_n 0, 1) := by decide +kernel
theorem dX11_twins_61 : decode cX11_twins 61 = .ok (.getfield 19, 3) := by decide +kernel
theorem dX11_twins_64 : decode cX11_twins 64 = .ok (.getfield 144, 3) := by decide +kernel
theorem dX11_twins_67 : decode cX11_twins 67 = .ok (.iload_n 3, 1) := by decide +kernel
theorem dX11_twins_68 : decode cX11_twins 68 = .ok (.iaload, 1) := by decide +kernel
theorem dX11_twins_69 : decode cX11_twins 69 = .ok (.if_icmp .ne 6, 3) := by decide +kernel
theorem dX11_twins_72 : decode cX11_twins 72 = .ok (.iinc 1 1, 3) := by decide +kernel
theorem dX11_twins_75 : decode cX11_twins 75 = .ok (.iinc 3 1, 3) := by decide +kernel
theorem dX11_twins_78 : decode cX11_twins 78 = .ok (.goto (-59), 3) := by decide +kernel
theorem dX11_twins_81 : decode cX11_twins 81 = .ok (.iinc 2 1, 3) := by decide +kernel
theorem dX11_twins_84 : decode cX11_twins 84 = .ok (.goto (-80), 3) := by decide +kernel
theorem dX11_twins_87 : decode cX11_twins 87 = .ok (.iload_n 1, 1) := by decide +kernel
theorem dX11_twins_88 : decode cX11_twins 88 = .ok (.ireturn, 1) := by decide +kernel
theorem dX11_water_0 : decode cX11_water 0 = .ok (.iconst 0, 1) := by decide +kernel
theorem dX11_water_1 : decode cX11_water 1 = .ok (.istore_n 2, 1) := by decide +kernel
theorem dX11_water_2 : decode cX11_water 2 = .ok (.iconst 1, 1) := by decide +kernel
theorem dX11_water_3 : decode cX11_water 3 = .ok (.istore_n 3, 1) := by decide +kernel
theorem dX11_water_4 : decode cX11_water 4 = .ok (.iload_n 3, 1) := by decide +kernel
theorem dX11_water_5 : decode cX11_water 5 = .ok (.bipush 12, 2) := by decide +kernel
theorem dX11_water_7 : decode cX11_water 7 = .ok (.if_icmp .ge 49, 3) := by decide +kernel
theorem dX11_water_10 : decode cX11_water 10 = .ok (.aload_n 0, 1) := by decide +kernel
theorem dX11_water_11 : decode cX11_water 11 = .ok (.getfield 19, 3) := by decide +kernel
theorem dX11_water_14 : decode cX11_water 14 = .ok (.getfield 201, 3) := by decide +kernel
theorem dX11_water_17 : decode cX11_water 17 = .ok (.iload_n 3, 1) := by decide +kernel
theorem dX11_water_18 : decode cX11_water 18 = .ok (.iaload, 1) := by decide +kernel
theorem dX11_water_19 : decode cX11_water 19 = .ok (.aload_n 0, 1) := by decide +kernel
theorem dX11_water_20 : decode cX11_water 20 = .ok (.getfield 19, 3) := by decide +kernel
theorem dX11_water_23 : decode cX11_water 23 = .ok (.getfield 201, 3) := by decide +kernel
theorem dX11_water_26 : decode cX11_water 26 = .ok (.iload_n 2, 1) := by decide +kernel
theorem dX11_water_27 : decode cX11_water 27 = .ok (.iaload, 1) := by decide +kernel
theorem dX11_water_28 : decode cX11_water 28 = .ok (.isub, 1) := by decide +kernel
theorem dX11_water_29 : decode cX11_water 29 = .ok (.istore 4, 2) := by decide +kernel
theorem dX11_water_31 : decode cX11_water 31 = .ok (.iload_n 1, 1) := by decide +kernel
theorem dX11_water_32 : decode cX11_water 32 = .ok (.ifCond .eq 11, 3) := by decide +kernel
theorem dX11_water_35 : decode cX11_water 35 = .ok (.iload 4, 2) := by decide +kernel
theorem dX11_water_37 : decode cX11_water 37 = .ok (.ifCond .le 13, 3) := by decide +kernel
theorem dX11_water_40 : decode cX11_water 40 = .ok (.goto 8, 3) := by decide +kernel
theorem dX11_water_43 : decode cX11_water 43 = .ok (.iload 4, 2) := by decide +kernel
theorem dX11_water_45 : decode cX11_water 45 = .ok (.ifCond .ge 5, 3) := by decide +kernel
theorem dX11_water_48 : decode cX11_water 48 = .ok (.iload_n 3, 1) := by decide +kernel
theorem dX11_water_49 : decode cX11_water 49 = .ok (.istore_n 2, 1) := by decide +kernel
theorem dX11_water_50 : decode cX11_water 50 = .ok (.iinc 3 1, 3) := by decide +kernel
theorem dX11_water_53 : decode cX11_water 53 = .ok (.goto (-49), 3) := by decide +kernel
theorem dX11_water_56 : decode cX11_water 56 = .ok (.iload_n 2, 1) := by decide +kernel
theorem dX11_water_57 : decode cX11_water 57 = .ok (.ireturn, 1) := by decide +kernel
theorem dX11_ahead_0 : decode cX11_ahead 0 = .ok (.aload_n 0, 1) := by decide +kernel
theorem dX11_ahead_1 : decode cX11_ahead 1 = .ok (.iload_n 1, 1) := by decide +kernel
theorem dX11_ahead_2 : decode cX11_ahead 2 = .ok (.bipush 60, 2) := by decide +kernel
theorem dX11_ahead_4 : decode cX11_ahead 4 = .ok (.invokevirtual 262, 3) := by decide +kernel
theorem dX11_ahead_7 : decode cX11_ahead 7 = .ok (.aload_n 0, 1) := by decide +kernel
theorem dX11_ahead_8 : decode cX11_ahead 8 = .ok (.iload_n 1, 1) := by decide +kernel
theorem dX11_ahead_9 : decode cX11_ahead 9 = .ok (.iload_n 2, 1) := by decide +kernel
theorem dX11_ahead_10 : decode cX11_ahead 10 = .ok (.iconst 0, 1) := by decide +kernel
theorem dX11_ahead_11 : decode cX11_ahead 11 = .ok (.invokevirtual 363, 3) := by decide +kernel
theorem dX11_ahead_14 : decode cX11_ahead 14 = .ok (.ireturn, 1) := by decide +kernel
theorem dX11_trial_0 : decode cX11_trial 0 = .ok (.aload_n 0, 1) := by decide +kernel
theorem dX11_trial_1 : decode cX11_trial 1 = .ok (.iload_n 1, 1) := by decide +kernel
theorem dX11_trial_2 : decode cX11_trial 2 = .ok (.bipush 60, 2) := by decide +kernel
theorem dX11_trial_4 : decode cX11_trial 4 = .ok (.invokevirtual 262, 3) := by decide +kernel
theorem dX11_trial_7 : decode cX11_trial 7 = .ok (.aload_n 0, 1) := by decide +kernel
theorem dX11_trial_8 : decode cX11_trial 8 = .ok (.iload_n 1, 1) := by decide +kernel
theorem dX11_trial_9 : decode cX11_trial 9 = .ok (.iload_n 2, 1) := by decide +kernel
theorem dX11_trial_10 : decode cX11_trial 10 = .ok (.iconst 1, 1) := by decide +kernel
theorem dX11_trial_11 : decode cX11_trial 11 = .ok (.invokevirtual 363, 3) := by decide +kernel
theorem dX11_trial_14 : decode cX11_trial 14 = .ok (.ireturn, 1) := by decide +kernel
theorem dX11_span_0 : decode cX11_span 0 = .ok (.aload_n 0, 1) := by decide +kernel
theorem dX11_span_1 : decode cX11_span 1 = .ok (.iload_n 1, 1) := by decide +kernel
theorem dX11_span_2 : decode cX11_span 2 = .ok (.bipush 60, 2) := by decide +kernel
theorem dX11_span_4 : decode cX11_span 4 = .ok (.invokevirtual 262, 3) := by decide +kernel
theorem dX11_span_7 : decode cX11_span 7 = .ok (.iload_n 2, 1) := by decide +kernel
theorem dX11_span_8 : decode cX11_span 8 = .ok (.ifCond .eq 7, 3) := by decide +kernel
theorem dX11_span_11 : decode cX11_span 11 = .ok (.iconst 0, 1) := by decide +kernel
theorem dX11_span_12 : decode cX11_span 12 = .ok (.goto 5, 3) := by decide +kernel
theorem dX11_span_15 : decode cX11_span 15 = .ok (.bipush 40, 2) := by decide +kernel
theorem dX11_span_17 : decode cX11_span 17 = .ok (.istore_n 3, 1) := by decide +kernel
theorem dX11_span_18 : decode cX11_span 18 = .ok (.iconst 1, 1) := by decide +kernel
theorem dX11_span_19 : decode cX11_span 19 = .ok (.istore 4, 2) := by decide +kernel
theorem dX11_span_21 : decode cX11_span 21 = .ok (.iload 4, 2) := by decide +kernel
theorem dX11_span_23 : decode cX11_span 23 = .ok (.bipush 6, 2) := by decide +kernel
theorem dX11_span_25 : decode cX11_span 25 = .ok (.if_icmp .gt 73, 3) := by decide +kernel
theorem dX11_span_28 : decode cX11_span 28 = .ok (.aload_n 0, 1) := by decide +kernel
theorem dX11_span_29 : decode cX11_span 29 = .ok (.getfield 23, 3) := by decide +kernel
theorem dX11_span_32 : decode cX11_span 32 = .ok (.aload_n 0, 1) := by decide +kernel
theorem dX11_span_33 : decode cX11_span 33 = .ok (.getfield 19, 3) := by decide +kernel
theorem dX11_span_36 : decode cX11_span 36 = .ok (.invokevirtual 99, 3) := by decide +kernel
theorem dX11_span_39 : decode cX11_span 39 = .ok (.aload_n 0, 1) := by decide +kernel
theorem dX11_span_40 : decode cX11_span 40 = .ok (.getfield 23, 3) := by decide +kernel
theorem dX11_span_43 : decode cX11_span 43 = .ok (.iload 4, 2) := by decide +kernel
theorem dX11_span_45 : decode cX11_span 45 = .ok (.putfield 367, 3) := by decide +kernel
theorem dX11_span_48 : decode cX11_span 48 = .ok (.aload_n 0, 1) := by decide +kernel
theorem dX11_span_49 : decode cX11_span 49 = .ok (.getfield 23, 3) := by decide +kernel
theorem dX11_span_52 : decode cX11_span 52 = .ok (.iload_n 1, 1) := by decide +kernel
theorem dX11_span_53 : decode cX11_span 53 = .ok (.aload_n 0, 1) := by decide +kernel
theorem dX11_span_54 : decode cX11_span 54 = .ok (.getfield 32, 3) := by decide +kernel
theorem dX11_span_57 : decode cX11_span 57 = .ok (.iconst 1, 1) := by decide +kernel
theorem dX11_span_58 : decode cX11_span 58 = .ok (.invokevirtual 209, 3) := by decide +kernel
theorem dX11_span_61 : decode cX11_span 61 = .ok (.pop, 1) := by decide +kernel
theorem dX11_span_62 : decode cX11_span 62 = .ok (.iload_n 2, 1) := by decide +kernel
theorem dX11_span_63 : decode cX11_span 63 = .ok (.ifCond .eq 17, 3) := by decide +kernel
theorem dX11_span_66 : decode cX11_span 66 = .ok (.iload_n 3, 1) := by decide +kernel
theorem dX11_span_67 : decode cX11_span 67 = .ok (.aload_n 0, 1) := by decide +kernel
theorem dX11_span_68 : decode cX11_span 68 = .ok (.getfield 23, 3) := by decide +kernel
theorem dX11_span_71 : decode cX11_span 71 = .ok (.getfield 226, 3) := by decide +kernel
theorem dX11_span_74 : decode cX11_span 74 = .ok (.invokestatic 278, 3) := by decide +kernel
theorem dX11_span_77 : decode cX11_span 77 = .ok (.goto 14, 3) := by decide +kernel
theorem dX11_span_80 : decode cX11_span 80 = .ok (.iload_n 3, 1) := by decide +kernel
theorem dX11_span_81 : decode cX11_span 81 = .ok (.aload_n 0, 1) := by decide +kernel
theorem dX11_span_82 : decode cX11_span 82 = .ok (.getfield 23, 3) := by decide +kernel
theorem dX11_span_85 : decode cX11_span 85 = .ok (.getfield 226, 3) := by decide +kernel
theorem dX11_span_88 : decode cX11_span 88 = .ok (.invokestatic 370, 3) := by decide +kernel
theorem dX11_span_91 : decode cX11_span 91 = .ok (.istore_n 3, 1) := by decide +kernel
theorem dX11_span_92 : decode cX11_span 92 = .ok (.iinc 4 1, 3) := by decide +kernel
theorem dX11_span_95 : decode cX11_span 95 = .ok (.goto (-74), 3) := by decide +kernel
theorem dX11_span_98 : decode cX11_span 98 = .ok (.iload_n 3, 1) := by decide +kernel
theorem dX11_span_99 : decode cX11_span 99 = .ok (.ireturn, 1) := by decide +kernel
theorem dX11_led_0 : decode cX11_led 0 = .ok (.aload_n 0, 1) := by decide +kernel
theorem dX11_led_1 : decode cX11_led 1 = .ok (.iload_n 1, 1) := by decide +kernel
theorem dX11_led_2 : decode cX11_led 2 = .ok (.invokevirtual 137, 3) := by decide +kernel
theorem dX11_led_5 : decode cX11_led 5 = .ok (.iload_n 2, 1) := by decide +kernel
theorem dX11_led_6 : decode cX11_led 6 = .ok (.ifCond .eq 17, 3) := by decide +kernel
theorem dX11_led_9 : decode cX11_led 9 = .ok (.aload_n 0, 1) := by decide +kernel
theorem dX11_led_10 : decode cX11_led 10 = .ok (.getfield 19, 3) := by decide +kernel
theorem dX11_led_13 : decode cX11_led 13 = .ok (.getfield 373, 3) := by decide +kernel
theorem dX11_led_16 : decode cX11_led 16 = .ok (.iload_n 1, 1) := by decide +kernel
theorem dX11_led_17 : decode cX11_led 17 = .ok (.invokevirtual 377, 3) := by decide +kernel
theorem dX11_led_20 : decode cX11_led 20 = .ok (.goto 14, 3) := by decide +kernel
theorem dX11_led_23 : decode cX11_led 23 = .ok (.aload_n 0, 1) := by decide +kernel
theorem dX11_led_24 : decode cX11_led 24 = .ok (.getfield 19, 3) := by decide +kernel
theorem dX11_led_27 : decode cX11_led 27 = .ok (.getfield 373, 3) := by decide +kernel
theorem dX11_led_30 : decode cX11_led 30 = .ok (.iload_n 1, 1) := by decide +kernel
theorem dX11_led_31 : decode cX11_led 31 = .ok (.invokevirtual 382, 3) := by decide +kernel
theorem dX11_led_34 : decode cX11_led 34 = .ok (.ireturn, 1) := by decide +kernel
theorem dX11_log_0 : decode cX11_log 0 = .ok (.iload_n 2, 1) := by decide +kernel
theorem dX11_log_1 : decode cX11_log 1 = .ok (.ifCond .lt 8, 3) := by decide +kernel
theorem dX11_log_4 : decode cX11_log 4 = .ok (.iload_n 2, 1) := by decide +kernel
theorem dX11_log_5 : decode cX11_log 5 = .ok (.iconst 5, 1) := by decide +kernel
theorem dX11_log_6 : decode cX11_log 6 = .ok (.if_icmp .lt 14, 3) := by decide +kernel
theorem dX11_log_9 : decode cX11_log 9 = .ok (.new 182, 3) := by decide +kernel
theorem dX11_log_12 : decode cX11_log 12 = .ok (.dup, 1) := by decide +kernel
theorem dX11_log_13 : decode cX11_log 13 = .ok (.ldc_w 385, 3) := by decide +kernel
theorem dX11_log_16 : decode cX11_log 16 = .ok (.invokespecial 186, 3) := by decide +kernel
theorem dX11_log_19 : decode cX11_log 19 = .ok (.athrow, 1) := by decide +kernel
theorem dX11_log_20 : decode cX11_log 20 = .ok (.aload_n 0, 1) := by decide +kernel
theorem dX11_log_21 : decode cX11_log 21 = .ok (.getfield 19, 3) := by decide +kernel
theorem dX11_log_24 : decode cX11_log 24 = .ok (.getfield 373, 3) := by decide +kernel
theorem dX11_log_27 : decode cX11_log 27 = .ok (.iload_n 1, 1) := by decide +kernel
theorem dX11_log_28 : decode cX11_log 28 = .ok (.iload_n 2, 1) := by decide +kernel
theorem dX11_log_29 : decode cX11_log 29 = .ok (.invokevirtual 387, 3) := by decide +kernel
theorem dX11_log_32 : decode cX11_log 32 = .ok (.ireturn, 1) := by decide +kernel
theorem dX11_seed_0 : decode cX11_seed 0 = .ok (.aload_n 0, 1) := by decide +kernel
theorem dX11_seed_1 : decode cX11_seed 1 = .ok (.getfield 19, 3) := by decide +kernel
theorem dX11_seed_4 : decode cX11_seed 4 = .ok (.getfield 367, 3) := by decide +kernel
theorem dX11_seed_7 : decode cX11_seed 7 = .ok (.istore_n 2, 1) := by decide +kernel
theorem dX11_seed_8 : decode cX11_seed 8 = .ok (.aload_n 0, 1) := by decide +kernel
theorem dX11_seed_9 : decode cX11_seed 9 = .ok (.getfield 19, 3) := by decide +kernel
theorem dX11_seed_12 : decode cX11_seed 12 = .ok (.iload_n 1, 1) := by decide +kernel
theorem dX11_seed_13 : decode cX11_seed 13 = .ok (.putfield 367, 3) := by decide +kernel
theorem dX11_seed_16 : decode cX11_seed 16 = .ok (.iload_n 2, 1) := by decide +kernel
theorem dX11_seed_17 : decode cX11_seed 17 = .ok (.ireturn, 1) := by decide +kernel
theorem dX11_undo_0 : decode cX11_undo 0 = .ok (.aload_n 0, 1) := by decide +kernel
theorem dX11_undo_1 : decode cX11_undo 1 = .ok (.getfield 63, 3) := by decide +kernel
theorem dX11_undo_4 : decode cX11_undo 4 = .ok (.aload_n 0, 1) := by decide +kernel
theorem dX11_undo_5 : decode cX11_undo 5 = .ok (.getfield 19, 3) := by decide +kernel
theorem dX11_undo_8 : decode cX11_undo 8 = .ok (.invokevirtual 390, 3) := by decide +kernel
theorem dX11_undo_11 : decode cX11_undo 11 = .ok (.ireturn, 1) := by decide +kernel
theorem dX11_image_0 : decode cX11_image 0 = .ok (.aload_n 0, 1) := by decide +kernel
theorem dX11_image_1 : decode cX11_image 1 = .ok (.getfield 26, 3) := by decide +kernel
theorem dX11_image_4 : decode cX11_image 4 = .ok (.aload_n 0, 1) := by decide +kernel
theorem dX11_image_5 : decode cX11_image 5 = .ok (.getfield 19, 3) := by decide +kernel
theorem dX11_image_8 : decode cX11_image 8 = .ok (.invokevirtual 99, 3) := by decide +kernel
theorem dX11_image_11 : decode cX11_image 11 = .ok (.aload_n 0, 1) := by decide +kernel
theorem dX11_image_12 : decode cX11_image 12 = .ok (.getfield 39, 3) := by decide +kernel
theorem dX11_image_15 : decode cX11_image 15 = .ok (.aload_n 0, 1) := by decide +kernel
theorem dX11_image_16 : decode cX11_image 16 = .ok (.getfield 32, 3) := by decide +kernel
theorem dX11_image_19 : decode cX11_image 19 = .ok (.invokevirtual 131, 3) := by decide +kernel
theorem dX11_image_22 : decode cX11_image 22 = .ok (.aload_n 0, 1) := by decide +kernel
theorem dX11_image_23 : decode cX11_image 23 = .ok (.iconst 1, 1) := by decide +kernel
theorem dX11_image_24 : decode cX11_image 24 = .ok (.putfield 394, 3) := by decide +kernel
theorem dX11_image_27 : decode cX11_image 27 = .ok (.return_, 1) := by decide +kernel
theorem dX11_back_0 : decode cX11_back 0 = .ok (.aload_n 0, 1) := by decide +kernel
theorem dX11_back_1 : decode cX11_back 1 = .ok (.getfield 394, 3) := by decide +kernel
theorem dX11_back_4 : decode cX11_back 4 = .ok (.ifCond .ne 5, 3) := by decide +kernel
theorem dX11_back_7 : decode cX11_back 7 = .ok (.iconst 0, 1) := by decide +kernel
theorem dX11_back_8 : decode cX11_back 8 = .ok (.ireturn, 1) := by decide +kernel
theorem dX11_back_9 : decode cX11_back 9 = .ok (.aload_n 0, 1) := by decide +kernel
theorem dX11_back_10 : decode cX11_back 10 = .ok (.getfield 19, 3) := by decide +kernel
theorem dX11_back_13 : decode cX11_back 13 = .ok (.aload_n 0, 1) := by decide +kernel
theorem dX11_back_14 : decode cX11_back 14 = .ok (.getfield 26, 3) := by decide +kernel
theorem dX11_back_17 : decode cX11_back 17 = .ok (.invokevirtual 99, 3) := by decide +kernel
theorem dX11_back_20 : decode cX11_back 20 = .ok (.aload_n 0, 1) := by decide +kernel
theorem dX11_back_21 : decode cX11_back 21 = .ok (.getfield 32, 3) := by decide +kernel
theorem dX11_back_24 : decode cX11_back 24 = .ok (.aload_n 0, 1) := by decide +kernel
theorem dX11_back_25 : decode cX11_back 25 = .ok (.getfield 39, 3) := by decide +kernel
theorem dX11_back_28 : decode cX11_back 28 = .ok (.invokevirtual 131, 3) := by decide +kernel
theorem dX11_back_31 : decode cX11_back 31 = .ok (.aload_n 0, 1) := by decide +kernel
theorem dX11_back_32 : decode cX11_back 32 = .ok (.getfield 63, 3) := by decide +kernel
theorem dX11_back_35 : decode cX11_back 35 = .ok (.invokevirtual 122, 3) := by decide +kernel
theorem dX11_back_38 : decode cX11_back 38 = .ok (.iconst 1, 1) := by decide +kernel
theorem dX11_back_39 : decode cX11_back 39 = .ok (.ireturn, 1) := by decide +kernel
theorem dX11_count_0 : decode cX11_count 0 = .ok (.iload_n 1, 1) := by decide +kernel
theorem dX11_count_1 : decode cX11_count 1 = .ok (.tableswitch 209 0 14 #[75, 83, 91, 99, 107, 123, 131, 139, 147, 155, 163, 174, 182, 190, 201], 75) := by decide +kernel
theorem dX11_count_76 : decode cX11_count 76 = .ok (.aload_n 0, 1) := by decide +kernel
theorem dX11_count_77 : decode cX11_count 77 = .ok (.getfield 19, 3) := by decide +kernel
theorem dX11_count_80 : decode cX11_count 80 = .ok (.getfield 253, 3) := by decide +kernel
theorem dX11_count_83 : decode cX11_count 83 = .ok (.ireturn, 1) := by decide +kernel
theorem dX11_count_84 : decode cX11_count 84 = .ok (.aload_n 0, 1) := by decide +kernel
theorem dX11_count_85 : decode cX11_count 85 = .ok (.getfield 19, 3) := by decide +kernel
theorem dX11_count_88 : decode cX11_count 88 = .ok (.getfield 114, 3) := by decide +kernel
theorem dX11_count_91 : decode cX11_count 91 = .ok (.ireturn, 1) := by decide +kernel
theorem dX11_count_92 : decode cX11_count 92 = .ok (.aload_n 0, 1) := by decide +kernel
theorem dX11_count_93 : decode cX11_count 93 = .ok (.getfield 32, 3) := by decide +kernel
theorem dX11_count_96 : decode cX11_count 96 = .ok (.getfield 134, 3) := by decide +kernel
theorem dX11_count_99 : decode cX11_count 99 = .ok (.ireturn, 1) := by decide +kernel
theorem dX11_count_100 : decode cX11_count 100 = .ok (.aload_n 0, 1) := by decide +kernel
theorem dX11_count_101 : decode cX11_count 101 = .ok (.getfield 19, 3) := by decide +kernel
theorem dX11_count_104 : decode cX11_count 104 = .ok (.getfield 226, 3) := by decide +kernel
theorem dX11_count_107 : decode cX11_count 107 = .ok (.ireturn, 1) := by decide +kernel
theorem dX11_count_108 : decode cX11_count 108 = .ok (.aload_n 0, 1) := by decide +kernel
theorem dX11_count_109 : decode cX11_count 109 = .ok (.getfield 19, 3) := by decide +kernel
theorem dX11_count_112 : decode cX11_count 112 = .ok (.getfield 213, 3) := by decide +kernel
theorem dX11_count_115 : decode cX11_count 115 = .ok (.ifCond .eq 7, 3) := by decide +kernel
theorem dX11_count_118 : decode cX11_count 118 = .ok (.iconst 1, 1) := by decide +kernel
theorem dX11_count_119 : decode cX11_count 119 = .ok (.goto 4, 3) := by decide +kernel
theorem dX11_count_122 : decode cX11_count 122 = .ok (.iconst 0, 1) := by decide +kernel
theorem dX11_count_123 : decode cX11_count 123 = .ok (.ireturn, 1) := by decide +kernel
theorem dX11_count_124 : decode cX11_count 124 = .ok (.aload_n 0, 1) := by decide +kernel
theorem dX11_count_125 : decode cX11_count 125 = .ok (.getfield 19, 3) := by decide +kernel
theorem dX11_count_128 : decode cX11_count 128 = .ok (.getfield 265, 3) := by decide +kernel
theorem dX11_count_131 : decode cX11_count 131 = .ok (.ireturn, 1) := by decide +kernel
theorem dX11_count_132 : decode cX11_count 132 = .ok (.aload_n 0, 1) := by decide +kernel
theorem dX11_count_133 : decode cX11_count 133 = .ok (.getfield 19, 3) := by decide +kernel
theorem dX11_count_136 : decode cX11_count 136 = .ok (.getfield 268, 3) := by decide +kernel
theorem dX11_count_139 : decode cX11_count 139 = .ok (.ireturn, 1) := by decide +kernel
theorem dX11_count_140 : decode cX11_count 140 = .ok (.aload_n 0, 1) := by decide +kernel
theorem dX11_count_141 : decode cX11_count 141 = .ok (.getfield 19, 3) := by decide +kernel
theorem dX11_count_144 : decode cX11_count 144 = .ok (.getfield 345, 3) := by decide +kernel
theorem dX11_count_147 : decode cX11_count 147 = .ok (.ireturn, 1) := by decide +kernel
theorem dX11_count_148 : decode cX11_count 148 = .ok (.aload_n 0, 1) := by decide +kernel
theorem dX11_count_149 : decode cX11_count 149 = .ok (.getfield 19, 3) := by decide +kernel
theorem dX11_count_152 : decode cX11_count 152 = .ok (.getfield 397, 3) := by decide +kernel
theorem dX11_count_155 : decode cX11_count 155 = .ok (.ireturn, 1) := by decide +kernel
theorem dX11_count_156 : decode cX11_count 156 = .ok (.aload_n 0, 1) := by decide +kernel
theorem dX11_count_157 : decode cX11_count 157 = .ok (.getfield 19, 3) := by decide +kernel
theorem dX11_count_160 : decode cX11_count 160 = .ok (.getfield 400, 3) := by decide +kernel
theorem dX11_count_163 : decode cX11_count 163 = .ok (.ireturn, 1) := by decide +kernel
theorem dX11_count_164 : decode cX11_count 164 = .ok (.aload_n 0, 1) := by decide +kernel
theorem dX11_count_165 : decode cX11_count 165 = .ok (.getfield 19, 3) := by decide +kernel
theorem dX11_count_168 : decode cX11_count 168 = .ok (.getfield 190, 3) := by decide +kernel
theorem dX11_count_171 : decode cX11_count 171 = .ok (.invokestatic 403, 3) := by decide +kernel
theorem dX11_count_174 : decode cX11_count 174 = .ok (.ireturn, 1) := by decide +kernel
theorem dX11_count_175 : decode cX11_count 175 = .ok (.aload_n 0, 1) := by decide +kernel
theorem dX11_count_176 : decode cX11_count 176 = .ok (.getfield 19, 3) := by decide +kernel
theorem dX11_count_179 : decode cX11_count 179 = .ok (.invokevirtual 243, 3) := by decide +kernel
theorem dX11_count_182 : decode cX11_count 182 = .ok (.ireturn, 1) := by decide +kernel
theorem dX11_count_183 : decode cX11_count 183 = .ok (.aload_n 0, 1) := by decide +kernel
theorem dX11_count_184 : decode cX11_count 184 = .ok (.getfield 19, 3) := by decide +kernel
theorem dX11_count_187 : decode cX11_count 187 = .ok (.invokevirtual 408, 3) := by decide +kernel
theorem dX11_count_190 : decode cX11_count 190 = .ok (.ireturn, 1) := by decide +kernel
theorem dX11_count_191 : decode cX11_count 191 = .ok (.aload_n 0, 1) := by decide +kernel
theorem dX11_count_192 : decode cX11_count 192 = .ok (.getfield 19, 3) := by decide +kernel
theorem dX11_count_195 : decode cX11_count 195 = .ok (.getfield 373, 3) := by decide +kernel
theorem dX11_count_198 : decode cX11_count 198 = .ok (.getfield 411, 3) := by decide +kernel
theorem dX11_count_201 : decode cX11_count 201 = .ok (.ireturn, 1) := by decide +kernel
theorem dX11_count_202 : decode cX11_count 202 = .ok (.aload_n 0, 1) := by decide +kernel
theorem dX11_count_203 : decode cX11_count 203 = .ok (.getfield 63, 3) := by decide +kernel
theorem dX11_count_206 : decode cX11_count 206 = .ok (.getfield 414, 3) := by decide +kernel
theorem dX11_count_209 : decode cX11_count 209 = .ok (.ireturn, 1) := by decide +kernel
theorem dX11_count_210 : decode cX11_count 210 = .ok (.iconst (-1), 1) := by decide +kernel
theorem dX11_count_211 : decode cX11_count 211 = .ok (.ireturn, 1) := by decide +kernel
theorem dX11_needShip_0 : decode cX11_needShip 0 = .ok (.iload_n 1, 1) := by decide +kernel
theorem dX11_needShip_1 : decode cX11_needShip 1 = .ok (.ifCond .lt 14, 3) := by decide +kernel
theorem dX11_needShip_4 : decode cX11_needShip 4 = .ok (.iload_n 1, 1) := by decide +kernel
theorem dX11_needShip_5 : decode cX11_needShip 5 = .ok (.aload_n 0, 1) := by decide +kernel
theorem dX11_needShip_6 : decode cX11_needShip 6 = .ok (.getfield 19, 3) := by decide +kernel
theorem dX11_needShip_9 : decode cX11_needShip 9 = .ok (.getfield 253, 3) := by decide +kernel
theorem dX11_needShip_12 : decode cX11_needShip 12 = .ok (.if_icmp .lt 14, 3) := by decide +kernel
theorem dX11_needShip_15 : decode cX11_needShip 15 = .ok (.new 417, 3) := by decide +kernel
theorem dX11_needShip_18 : decode cX11_needShip 18 = .ok (.dup, 1) := by decide +kernel
theorem dX11_needShip_19 : decode cX11_needShip 19 = .ok (.ldc_w 419, 3) := by decide +kernel
theorem dX11_needShip_22 : decode cX11_needShip 22 = .ok (.invokespecial 421, 3) := by decide +kernel
theorem dX11_needShip_25 : decode cX11_needShip 25 = .ok (.athrow, 1) := by decide +kernel
theorem dX11_needShip_26 : decode cX11_needShip 26 = .ok (.return_, 1) := by decide +kernel
theorem dX11_needPlace_0 : decode cX11_needPlace 0 = .ok (.iload_n 1, 1) := by decide +kernel
theorem dX11_needPlace_1 : decode cX11_needPlace 1 = .ok (.ifCond .lt 9, 3) := by decide +kernel
theorem dX11_needPlace_4 : decode cX11_needPlace 4 = .ok (.iload_n 1, 1) := by decide +kernel
theorem dX11_needPlace_5 : decode cX11_needPlace 5 = .ok (.bipush 24, 2) := by decide +kernel
theorem dX11_needPlace_7 : decode cX11_needPlace 7 = .ok (.if_icmp .lt 14, 3) := by decide +kernel
theorem dX11_needPlace_10 : decode cX11_needPlace 10 = .ok (.new 417, 3) := by decide +kernel
theorem dX11_needPlace_13 : decode cX11_needPlace 13 = .ok (.dup, 1) := by decide +kernel
theorem dX11_needPlace_14 : decode cX11_needPlace 14 = .ok (.ldc_w 422, 3) := by decide +kernel
theorem dX11_needPlace_17 : decode cX11_needPlace 17 = .ok (.invokespecial 421, 3) := by decide +kernel
theorem dX11_needPlace_20 : decode cX11_needPlace 20 = .ok (.athrow, 1) := by decide +kernel
theorem dX11_needPlace_21 : decode cX11_needPlace 21 = .ok (.return_, 1) := by decide +kernel
theorem dX11_needTide_0 : decode cX11_needTide 0 = .ok (.iload_n 1, 1) := by decide +kernel
theorem dX11_needTide_1 : decode cX11_needTide 1 = .ok (.ifCond .lt 9, 3) := by decide +kernel
theorem dX11_needTide_4 : decode cX11_needTide 4 = .ok (.iload_n 1, 1) := by decide +kernel
theorem dX11_needTide_5 : decode cX11_needTide 5 = .ok (.bipush 12, 2) := by decide +kernel
theorem dX11_needTide_7 : decode cX11_needTide 7 = .ok (.if_icmp .lt 14, 3) := by decide +kernel
theorem dX11_needTide_10 : decode cX11_needTide 10 = .ok (.new 417, 3) := by decide +kernel
theorem dX11_needTide_13 : decode cX11_needTide 13 = .ok (.dup, 1) := by decide +kernel
theorem dX11_needTide_14 : decode cX11_needTide 14 = .ok (.ldc_w 424, 3) := by decide +kernel
theorem dX11_needTide_17 : decode cX11_needTide 17 = .ok (.invokespecial 421, 3) := by decide +kernel
theorem dX11_needTide_20 : decode cX11_needTide 20 = .ok (.athrow, 1) := by decide +kernel
theorem dX11_needTide_21 : decode cX11_needTide 21 = .ok (.return_, 1) := by decide +kernel
theorem dX11_needNumber_0 : decode cX11_needNumber 0 = .ok (.iload_n 1, 1) := by decide +kernel
theorem dX11_needNumber_1 : decode cX11_needNumber 1 = .ok (.ifCond .lt 8, 3) := by decide +kernel
theorem dX11_needNumber_4 : decode cX11_needNumber 4 = .ok (.iload_n 1, 1) := by decide +kernel
theorem dX11_needNumber_5 : decode cX11_needNumber 5 = .ok (.iload_n 2, 1) := by decide +kernel
theorem dX11_needNumber_6 : decode cX11_needNumber 6 = .ok (.if_icmp .le 14, 3) := by decide +kernel
theorem dX11_needNumber_9 : decode cX11_needNumber 9 = .ok (.new 107, 3) := by decide +kernel
theorem dX11_needNumber_12 : decode cX11_needNumber 12 = .ok (.dup, 1) := by decide +kernel
theorem dX11_needNumber_13 : decode cX11_needNumber 13 = .ok (.ldc_w 426, 3) := by decide +kernel
theorem dX11_needNumber_16 : decode cX11_needNumber 16 = .ok (.invokespecial 111, 3) := by decide +kernel
theorem dX11_needNumber_19 : decode cX11_needNumber 19 = .ok (.athrow, 1) := by decide +kernel
theorem dX11_needNumber_20 : decode cX11_needNumber 20 = .ok (.return_, 1) := by decide +kernel
theorem dX11_needCurves_0 : decode cX11_needCurves 0 = .ok (.aload_n 0, 1) := by decide +kernel
theorem dX11_needCurves_1 : decode cX11_needCurves 1 = .ok (.getfield 70, 3) := by decide +kernel
theorem dX11_needCurves_4 : decode cX11_needCurves 4 = .ok (.aload_n 0, 1) := by decide +kernel
theorem dX11_needCurves_5 : decode cX11_needCurves 5 = .ok (.getfield 10, 3) := by decide +kernel
theorem dX11_needCurves_8 : decode cX11_needCurves 8 = .ok (.invokevirtual 428, 3) := by decide +kernel
theorem dX11_needCurves_11 : decode cX11_needCurves 11 = .ok (.istore_n 1, 1) := by decide +kernel
theorem dX11_needCurves_12 : decode cX11_needCurves 12 = .ok (.aload_n 0, 1) := by decide +kernel
theorem dX11_needCurves_13 : decode cX11_needCurves 13 = .ok (.getfield 10, 3) := by decide +kernel
theorem dX11_needCurves_16 : decode cX11_needCurves 16 = .ok (.iconst 0, 1) := by decide +kernel
theorem dX11_needCurves_17 : decode cX11_needCurves 17 = .ok (.putfield 92, 3) := by decide +kernel
theorem dX11_needCurves_20 : decode cX11_needCurves 20 = .ok (.iload_n 1, 1) := by decide +kernel
theorem dX11_needCurves_21 : decode cX11_needCurves 21 = .ok (.ifCond .ne 14, 3) := by decide +kernel
theorem dX11_needCurves_24 : decode cX11_needCurves 24 = .ok (.new 107, 3) := by decide +kernel
theorem dX11_needCurves_27 : decode cX11_needCurves 27 = .ok (.dup, 1) := by decide +kernel
theorem dX11_needCurves_28 : decode cX11_needCurves 28 = .ok (.ldc_w 432, 3) := by decide +kernel
theorem dX11_needCurves_31 : decode cX11_needCurves 31 = .ok (.invokespecial 111, 3) := by decide +kernel
theorem dX11_needCurves_34 : decode cX11_needCurves 34 = .ok (.athrow, 1) := by decide +kernel
theorem dX11_needCurves_35 : decode cX11_needCurves 35 = .ok (.return_, 1) := by decide +kernel
theorem dX11_needSoundings_0 : decode cX11_needSoundings 0 = .ok (.aload_n 0, 1) := by decide +kernel
theorem dX11_needSoundings_1 : decode cX11_needSoundings 1 = .ok (.getfield 77, 3) := by decide +kernel
theorem dX11_needSoundings_4 : decode cX11_needSoundings 4 = .ok (.aload_n 0, 1) := by decide +kernel
theorem dX11_needSoundings_5 : decode cX11_needSoundings 5 = .ok (.getfield 10, 3) := by decide +kernel
theorem dX11_needSoundings_8 : decode cX11_needSoundings 8 = .ok (.invokevirtual 434, 3) := by decide +kernel
theorem dX11_needSoundings_11 : decode cX11_needSoundings 11 = .ok (.istore_n 1, 1) := by decide +kernel
theorem dX11_needSoundings_12 : decode cX11_needSoundings 12 = .ok (.aload_n 0, 1) := by decide +kernel
theorem dX11_needSoundings_13 : decode cX11_needSoundings 13 = .ok (.getfield 10, 3) := by decide +kernel
theorem dX11_needSoundings_16 : decode cX11_needSoundings 16 = .ok (.iconst 0, 1) := by decide +kernel
theorem dX11_needSoundings_17 : decode cX11_needSoundings 17 = .ok (.putfield 92, 3) := by decide +kernel
theorem dX11_needSoundings_20 : decode cX11_needSoundings 20 = .ok (.iload_n 1, 1) := by decide +kernel
theorem dX11_needSoundings_21 : decode cX11_needSoundings 21 = .ok (.ifCond .ne 14, 3) := by decide +kernel
theorem dX11_needSoundings_24 : decode cX11_needSoundings 24 = .ok (.new 107, 3) := by decide +kernel
theorem dX11_needSoundings_27 : decode cX11_needSoundings 27 = .ok (.dup, 1) := by decide +kernel
theorem dX11_needSoundings_28 : decode cX11_needSoundings 28 = .ok (.ldc_w 435, 3) := by decide +kernel
theorem dX11_needSoundings_31 : decode cX11_needSoundings 31 = .ok (.invokespecial 111, 3) := by decide +kernel
theorem dX11_needSoundings_34 : decode cX11_needSoundings 34 = .ok (.athrow, 1) := by decide +kernel
theorem dX11_needSoundings_35 : decode cX11_needSoundings 35 = .ok (.return_, 1) := by decide +kernel
theorem dX11_firstHour_0 : decode cX11_firstHour 0 = .ok (.aload_n 0, 1) := by decide +kernel
theorem dX11_firstHour_1 : decode cX11_firstHour 1 = .ok (.getfield 23, 3) := by decide +kernel
theorem dX11_firstHour_4 : decode cX11_firstHour 4 = .ok (.aload_n 0, 1) := by decide +kernel
theorem dX11_firstHour_5 : decode cX11_firstHour 5 = .ok (.getfield 19, 3) := by decide +kernel
theorem dX11_firstHour_8 : decode cX11_firstHour 8 = .ok (.invokevirtual 99, 3) := by decide +kernel
theorem dX11_firstHour_11 : decode cX11_firstHour 11 = .ok (.iconst 0, 1) := by decide +kernel
theorem dX11_firstHour_12 : decode cX11_firstHour 12 = .ok (.istore_n 2, 1) := by decide +kernel
theorem dX11_firstHour_13 : decode cX11_firstHour 13 = .ok (.iload_n 2, 1) := by decide +kernel
theorem dX11_firstHour_14 : decode cX11_firstHour 14 = .ok (.bipush 60, 2) := by decide +kernel
theorem dX11_firstHour_16 : decode cX11_firstHour 16 = .ok (.if_icmp .gt 35, 3) := by decide +kernel
theorem dX11_firstHour_19 : decode cX11_firstHour 19 = .ok (.aload_n 0, 1) := by decide +kernel
theorem dX11_firstHour_20 : decode cX11_firstHour 20 = .ok (.getfield 23, 3) := by decide +kernel
theorem dX11_firstHour_23 : decode cX11_firstHour 23 = .ok (.iload_n 1, 1) := by decide +kernel
theorem dX11_firstHour_24 : decode cX11_firstHour 24 = .ok (.invokevirtual 437, 3) := by decide +kernel
theorem dX11_firstHour_27 : decode cX11_firstHour 27 = .ok (.ifCond .eq 5, 3) := by decide +kernel
theorem dX11_firstHour_30 : decode cX11_firstHour 30 = .ok (.iload_n 2, 1) := by decide +kernel
theorem dX11_firstHour_31 : decode cX11_firstHour 31 = .ok (.ireturn, 1) := by decide +kernel
theorem dX11_firstHour_32 : decode cX11_firstHour 32 = .ok (.aload_n 0, 1) := by decide +kernel
theorem dX11_firstHour_33 : decode cX11_firstHour 33 = .ok (.getfield 23, 3) := by decide +kernel
theorem dX11_firstHour_36 : decode cX11_firstHour 36 = .ok (.aload_n 0, 1) := by decide +kernel
theorem dX11_firstHour_37 : decode cX11_firstHour 37 = .ok (.getfield 32, 3) := by decide +kernel
theorem dX11_firstHour_40 : decode cX11_firstHour 40 = .ok (.iconst 0, 1) := by decide +kernel
theorem dX11_firstHour_41 : decode cX11_firstHour 41 = .ok (.invokevirtual 440, 3) := by decide +kernel
theorem dX11_firstHour_44 : decode cX11_firstHour 44 = .ok (.pop, 1) := by decide +kernel
theorem dX11_firstHour_45 : decode cX11_firstHour 45 = .ok (.iinc 2 1, 3) := by decide +kernel
theorem dX11_firstHour_48 : decode cX11_firstHour 48 = .ok (.goto (-35), 3) := by decide +kernel
theorem dX11_firstHour_51 : decode cX11_firstHour 51 = .ok (.iconst (-1), 1) := by decide +kernel
theorem dX11_firstHour_52 : decode cX11_firstHour 52 = .ok (.ireturn, 1) := by decide +kernel
theorem dX11_tryHours_0 : decode cX11_tryHours 0 = .ok (.aload_n 0, 1) := by decide +kernel
theorem dX11_tryHours_1 : decode cX11_tryHours 1 = .ok (.getfield 23, 3) := by decide +kernel
theorem dX11_tryHours_4 : decode cX11_tryHours 4 = .ok (.aload_n 0, 1) := by decide +kernel
theorem dX11_tryHours_5 : decode cX11_tryHours 5 = .ok (.getfield 19, 3) := by decide +kernel
theorem dX11_tryHours_8 : decode cX11_tryHours 8 = .ok (.invokevirtual 99, 3) := by decide +kernel
theorem dX11_tryHours_11 : decode cX11_tryHours 11 = .ok (.aload_n 0, 1) := by decide +kernel
theorem dX11_tryHours_12 : decode cX11_tryHours 12 = .ok (.getfield 23, 3) := by decide +kernel
theorem dX11_tryHours_15 : decode cX11_tryHours 15 = .ok (.iload_n 1, 1) := by decide +kernel
theorem dX11_tryHours_16 : decode cX11_tryHours 16 = .ok (.aload_n 0, 1) := by decide +kernel
theorem dX11_tryHours_17 : decode cX11_tryHours 17 = .ok (.getfield 32, 3) := by decide +kernel
theorem dX11_tryHours_20 : decode cX11_tryHours 20 = .ok (.iload_n 3, 1) := by decide +kernel
theorem dX11_tryHours_21 : decode cX11_tryHours 21 = .ok (.invokevirtual 209, 3) := by decide +kernel
theorem dX11_tryHours_24 : decode cX11_tryHours 24 = .ok (.pop, 1) := by decide +kernel
theorem dX11_tryHours_25 : decode cX11_tryHours 25 = .ok (.iload_n 2, 1) := by decide +kernel
theorem dX11_tryHours_26 : decode cX11_tryHours 26 = .ok (.ifCond .eq 13, 3) := by decide +kernel
theorem dX11_tryHours_29 : decode cX11_tryHours 29 = .ok (.aload_n 0, 1) := by decide +kernel
theorem dX11_tryHours_30 : decode cX11_tryHours 30 = .ok (.getfield 23, 3) := by decide +kernel
theorem dX11_tryHours_33 : decode cX11_tryHours 33 = .ok (.invokevirtual 408, 3) := by decide +kernel
theorem dX11_tryHours_36 : decode cX11_tryHours 36 = .ok (.goto 10, 3) := by decide +kernel
theorem dX11_tryHours_39 : decode cX11_tryHours 39 = .ok (.aload_n 0, 1) := by decide +kernel
theorem dX11_tryHours_40 : decode cX11_tryHours 40 = .ok (.getfield 23, 3) := by decide +kernel
theorem dX11_tryHours_43 : decode cX11_tryHours 43 = .ok (.getfield 226, 3) := by decide +kernel
theorem dX11_tryHours_46 : decode cX11_tryHours 46 = .ok (.ireturn, 1) := by decide +kernel
theorem dX11_placeBits_0 : decode cX11_placeBits 0 = .ok (.iconst 1, 1) := by decide +kernel
theorem dX11_placeBits_1 : decode cX11_placeBits 1 = .ok (.iload_n 1, 1) := by decide +kernel
theorem dX11_placeBits_2 : decode cX11_placeBits 2 = .ok (.ishl, 1) := by decide +kernel
theorem dX11_placeBits_3 : decode cX11_placeBits 3 = .ok (.iconst 1, 1) := by decide +kernel
theorem dX11_placeBits_4 : decode cX11_placeBits 4 = .ok (.isub, 1) := by decide +kernel
theorem dX11_placeBits_5 : decode cX11_placeBits 5 = .ok (.iload_n 0, 1) := by decide +kernel
theorem dX11_placeBits_6 : decode cX11_placeBits 6 = .ok (.ishl, 1) := by decide +kernel
theorem dX11_placeBits_7 : decode cX11_placeBits 7 = .ok (.ireturn, 1) := by decide +kernel
theorem dX11_isRoom_0 : decode cX11_isRoom 0 = .ok (.iload_n 1, 1) := by decide +kernel
theorem dX11_isRoom_1 : decode cX11_isRoom 1 = .ok (.iload_n 2, 1) := by decide +kernel
theorem dX11_isRoom_2 : decode cX11_isRoom 2 = .ok (.iadd, 1) := by decide +kernel
theorem dX11_isRoom_3 : decode cX11_isRoom 3 = .ok (.bipush 24, 2) := by decide +kernel
theorem dX11_isRoom_5 : decode cX11_isRoom 5 = .ok (.if_icmp .gt 17, 3) := by decide +kernel
theorem dX11_isRoom_8 : decode cX11_isRoom 8 = .ok (.iload_n 0, 1) := by decide +kernel
theorem dX11_isRoom_9 : decode cX11_isRoom 9 = .ok (.iload_n 1, 1) := by decide +kernel
theorem dX11_isRoom_10 : decode cX11_isRoom 10 = .ok (.iload_n 2, 1) := by decide +kernel
theorem dX11_isRoom_11 : decode cX11_isRoom 11 = .ok (.invokestatic 444, 3) := by decide +kernel
theorem dX11_isRoom_14 : decode cX11_isRoom 14 = .ok (.iand, 1) := by decide +kernel
theorem dX11_isRoom_15 : decode cX11_isRoom 15 = .ok (.ifCond .ne 7, 3) := by decide +kernel
theorem dX11_isRoom_18 : decode cX11_isRoom 18 = .ok (.iconst 1, 1) := by decide +kernel
theorem dX11_isRoom_19 : decode cX11_isRoom 19 = .ok (.goto 4, 3) := by decide +kernel
theorem dX11_isRoom_22 : decode cX11_isRoom 22 = .ok (.iconst 0, 1) := by decide +kernel
theorem dX11_isRoom_23 : decode cX11_isRoom 23 = .ok (.ireturn, 1) := by decide +kernel
