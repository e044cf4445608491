theorem dX6_init_0 : decode cX6_init 0 = .ok (.aload_n 0, 1) := by decide +kernel
theorem dX6_init_1 : decode cX6_init 1 = .ok (.invokespecial 3, 3) := by decide +kernel
theorem dX6_init_4 : decode cX6_init 4 = .ok (.aload_n 0, 1) := by decide +kernel
theorem dX6_init_5 : decode cX6_init 5 = .ok (.bipush 8, 2) := by decide +kernel
theorem dX6_init_7 : decode cX6_init 7 = .ok (.newarray .int, 2) := by decide +kernel
theorem dX6_init_9 : decode cX6_init 9 = .ok (.putfield 9, 3) := by decide +kernel
theorem dX6_init_12 : decode cX6_init 12 = .ok (.aload_n 0, 1) := by decide +kernel
theorem dX6_init_13 : decode cX6_init 13 = .ok (.bipush 24, 2) := by decide +kernel
theorem dX6_init_15 : decode cX6_init 15 = .ok (.newarray .int, 2) := by decide +kernel
theorem dX6_init_17 : decode cX6_init 17 = .ok (.putfield 15, 3) := by decide +kernel
theorem dX6_init_20 : decode cX6_init 20 = .ok (.aload_n 0, 1) := by decide +kernel
theorem dX6_init_21 : decode cX6_init 21 = .ok (.bipush 8, 2) := by decide +kernel
theorem dX6_init_23 : decode cX6_init 23 = .ok (.newarray .int, 2) := by decide +kernel
theorem dX6_init_25 : decode cX6_init 25 = .ok (.putfield 18, 3) := by decide +kernel
theorem dX6_init_28 : decode cX6_init 28 = .ok (.aload_n 0, 1) := by decide +kernel
theorem dX6_init_29 : decode cX6_init 29 = .ok (.sipush 256, 3) := by decide +kernel
theorem dX6_init_32 : decode cX6_init 32 = .ok (.newarray .int, 2) := by decide +kernel
theorem dX6_init_34 : decode cX6_init 34 = .ok (.putfield 21, 3) := by decide +kernel
theorem dX6_init_37 : decode cX6_init 37 = .ok (.aload_n 0, 1) := by decide +kernel
theorem dX6_init_38 : decode cX6_init 38 = .ok (.sipush 225, 3) := by decide +kernel
theorem dX6_init_41 : decode cX6_init 41 = .ok (.newarray .int, 2) := by decide +kernel
theorem dX6_init_43 : decode cX6_init 43 = .ok (.putfield 24, 3) := by decide +kernel
theorem dX6_init_46 : decode cX6_init 46 = .ok (.return_, 1) := by decide +kernel
theorem dX6_fillDock_0 : decode cX6_fillDock 0 = .ok (.aload_n 0, 1) := by decide +kernel
theorem dX6_fillDock_1 : decode cX6_fillDock 1 = .ok (.aload_n 1, 1) := by decide +kernel
theorem dX6_fillDock_2 : decode cX6_fillDock 2 = .ok (.invokevirtual 27, 3) := by decide +kernel
theorem dX6_fillDock_5 : decode cX6_fillDock 5 = .ok (.invokevirtual 33, 3) := by decide +kernel
theorem dX6_fillDock_8 : decode cX6_fillDock 8 = .ok (.aload_n 0, 1) := by decide +kernel
theorem dX6_fillDock_9 : decode cX6_fillDock 9 = .ok (.aload_n 1, 1) := by decide +kernel
theorem dX6_fillDock_10 : decode cX6_fillDock 10 = .ok (.aload_n 2, 1) := by decide +kernel
theorem dX6_fillDock_11 : decode cX6_fillDock 11 = .ok (.invokevirtual 37, 3) := by decide +kernel
theorem dX6_fillDock_14 : decode cX6_fillDock 14 = .ok (.iconst 0, 1) := by decide +kernel
theorem dX6_fillDock_15 : decode cX6_fillDock 15 = .ok (.istore_n 3, 1) := by decide +kernel
theorem dX6_fillDock_16 : decode cX6_fillDock 16 = .ok (.iconst 0, 1) := by decide +kernel
theorem dX6_fillDock_17 : decode cX6_fillDock 17 = .ok (.istore 4, 2) := by decide +kernel
theorem dX6_fillDock_19 : decode cX6_fillDock 19 = .ok (.iload 4, 2) := by decide +kernel
theorem dX6_fillDock_21 : decode cX6_fillDock 21 = .ok (.aload_n 1, 1) := by decide +kernel
theorem dX6_fillDock_22 : decode cX6_fillDock 22 = .ok (.getfield 41, 3) := by decide +kernel
theorem dX6_fillDock_25 : decode cX6_fillDock 25 = .ok (.if_icmp .ge 44, 3) := by decide +kernel
theorem dX6_fillDock_28 : decode cX6_fillDock 28 = .ok (.iload_n 3, 1) := by decide +kernel
theorem dX6_fillDock_29 : decode cX6_fillDock 29 = .ok (.aload_n 1, 1) := by decide +kernel
theorem dX6_fillDock_30 : decode cX6_fillDock 30 = .ok (.getfield 45, 3) := by decide +kernel
theorem dX6_fillDock_33 : decode cX6_fillDock 33 = .ok (.iload 4, 2) := by decide +kernel
theorem dX6_fillDock_35 : decode cX6_fillDock 35 = .ok (.iaload, 1) := by decide +kernel
theorem dX6_fillDock_36 : decode cX6_fillDock 36 = .ok (.ifCond .ne 24, 3) := by decide +kernel
theorem dX6_fillDock_39 : decode cX6_fillDock 39 = .ok (.aload_n 1, 1) := by decide +kernel
theorem dX6_fillDock_40 : decode cX6_fillDock 40 = .ok (.getfield 48, 3) := by decide +kernel
theorem dX6_fillDock_43 : decode cX6_fillDock 43 = .ok (.iload 4, 2) := by decide +kernel
theorem dX6_fillDock_45 : decode cX6_fillDock 45 = .ok (.iaload, 1) := by decide +kernel
theorem dX6_fillDock_46 : decode cX6_fillDock 46 = .ok (.aload_n 1, 1) := by decide +kernel
theorem dX6_fillDock_47 : decode cX6_fillDock 47 = .ok (.getfield 51, 3) := by decide +kernel
theorem dX6_fillDock_50 : decode cX6_fillDock 50 = .ok (.if_icmp .gt 10, 3) := by decide +kernel
theorem dX6_fillDock_53 : decode cX6_fillDock 53 = .ok (.iconst 1, 1) := by decide +kernel
theorem dX6_fillDock_54 : decode cX6_fillDock 54 = .ok (.iload 4, 2) := by decide +kernel
theorem dX6_fillDock_56 : decode cX6_fillDock 56 = .ok (.ishl, 1) := by decide +kernel
theorem dX6_fillDock_57 : decode cX6_fillDock 57 = .ok (.goto 4, 3) := by decide +kernel
theorem dX6_fillDock_60 : decode cX6_fillDock 60 = .ok (.iconst 0, 1) := by decide +kernel
theorem dX6_fillDock_61 : decode cX6_fillDock 61 = .ok (.ior, 1) := by decide +kernel
theorem dX6_fillDock_62 : decode cX6_fillDock 62 = .ok (.istore_n 3, 1) := by decide +kernel
theorem dX6_fillDock_63 : decode cX6_fillDock 63 = .ok (.iinc 4 1, 3) := by decide +kernel
theorem dX6_fillDock_66 : decode cX6_fillDock 66 = .ok (.goto (-47), 3) := by decide +kernel
theorem dX6_fillDock_69 : decode cX6_fillDock 69 = .ok (.aload_n 0, 1) := by decide +kernel
theorem dX6_fillDock_70 : decode cX6_fillDock 70 = .ok (.iconst 0, 1) := by decide +kernel
theorem dX6_fillDock_71 : decode cX6_fillDock 71 = .ok (.putfield 54, 3) := by decide +kernel
theorem dX6_fillDock_74 : decode cX6_fillDock 74 = .ok (.aload_n 0, 1) := by decide +kernel
theorem dX6_fillDock_75 : decode cX6_fillDock 75 = .ok (.iconst 0, 1) := by decide +kernel
theorem dX6_fillDock_76 : decode cX6_fillDock 76 = .ok (.putfield 57, 3) := by decide +kernel
theorem dX6_fillDock_79 : decode cX6_fillDock 79 = .ok (.aload_n 0, 1) := by decide +kernel
theorem dX6_fillDock_80 : decode cX6_fillDock 80 = .ok (.getfield 21, 3) := by decide +kernel
theorem dX6_fillDock_83 : decode cX6_fillDock 83 = .ok (.iconst 0, 1) := by decide +kernel
theorem dX6_fillDock_84 : decode cX6_fillDock 84 = .ok (.iconst 0, 1) := by decide +kernel
theorem dX6_fillDock_85 : decode cX6_fillDock 85 = .ok (.iastore, 1) := by decide +kernel
theorem dX6_fillDock_86 : decode cX6_fillDock 86 = .ok (.iconst 1, 1) := by decide +kernel
theorem dX6_fillDock_87 : decode cX6_fillDock 87 = .ok (.istore 4, 2) := by decide +kernel
theorem dX6_fillDock_89 : decode cX6_fillDock 89 = .ok (.iload 4, 2) := by decide +kernel
theorem dX6_fillDock_91 : decode cX6_fillDock 91 = .ok (.sipush 256, 3) := by decide +kernel
theorem dX6_fillDock_94 : decode cX6_fillDock 94 = .ok (.if_icmp .ge 78, 3) := by decide +kernel
theorem dX6_fillDock_97 : decode cX6_fillDock 97 = .ok (.aload_n 0, 1) := by decide +kernel
theorem dX6_fillDock_98 : decode cX6_fillDock 98 = .ok (.getfield 21, 3) := by decide +kernel
theorem dX6_fillDock_101 : decode cX6_fillDock 101 = .ok (.iload 4, 2) := by decide +kernel
theorem dX6_fillDock_103 : decode cX6_fillDock 103 = .ok (.iload 4, 2) := by decide +kernel
theorem dX6_fillDock_105 : decode cX6_fillDock 105 = .ok (.iload_n 3, 1) := by decide +kernel
theorem dX6_fillDock_106 : decode cX6_fillDock 106 = .ok (.iconst (-1), 1) := by decide +kernel
theorem dX6_fillDock_107 : decode cX6_fillDock 107 = .ok (.ixor, 1) := by decide +kernel
theorem dX6_fillDock_108 : decode cX6_fillDock 108 = .ok (.iand, 1) := by decide +kernel
theorem dX6_fillDock_109 : decode cX6_fillDock 109 = .ok (.ifCond .ne 13, 3) := by decide +kernel
theorem dX6_fillDock_112 : decode cX6_fillDock 112 = .ok (.aload_n 0, 1) := by decide +kernel
theorem dX6_fillDock_113 : decode cX6_fillDock 113 = .ok (.iload 4, 2) := by decide +kernel
theorem dX6_fillDock_115 : decode cX6_fillDock 115 = .ok (.aload_n 1, 1) := by decide +kernel
theorem dX6_fillDock_116 : decode cX6_fillDock 116 = .ok (.invokevirtual 60, 3) := by decide +kernel
theorem dX6_fillDock_119 : decode cX6_fillDock 119 = .ok (.goto 5, 3) := by decide +kernel
theorem dX6_fillDock_122 : decode cX6_fillDock 122 = .ok (.ldc 64, 2) := by decide +kernel
theorem dX6_fillDock_124 : decode cX6_fillDock 124 = .ok (.iastore, 1) := by decide +kernel
theorem dX6_fillDock_125 : decode cX6_fillDock 125 = .ok (.aload_n 0, 1) := by decide +kernel
theorem dX6_fillDock_126 : decode cX6_fillDock 126 = .ok (.getfield 21, 3) := by decide +kernel
theorem dX6_fillDock_129 : decode cX6_fillDock 129 = .ok (.iload 4, 2) := by decide +kernel
theorem dX6_fillDock_131 : decode cX6_fillDock 131 = .ok (.iaload, 1) := by decide +kernel
theorem dX6_fillDock_132 : decode cX6_fillDock 132 = .ok (.ldc 64, 2) := by decide +kernel
theorem dX6_fillDock_134 : decode cX6_fillDock 134 = .ok (.if_icmp .eq 32, 3) := by decide +kernel
theorem dX6_fillDock_137 : decode cX6_fillDock 137 = .ok (.aload_n 0, 1) := by decide +kernel
theorem dX6_fillDock_138 : decode cX6_fillDock 138 = .ok (.iload 4, 2) := by decide +kernel
theorem dX6_fillDock_140 : decode cX6_fillDock 140 = .ok (.invokevirtual 65, 3) := by decide +kernel
theorem dX6_fillDock_143 : decode cX6_fillDock 143 = .ok (.aload_n 0, 1) := by decide +kernel
theorem dX6_fillDock_144 : decode cX6_fillDock 144 = .ok (.getfield 54, 3) := by decide +kernel
theorem dX6_fillDock_147 : decode cX6_fillDock 147 = .ok (.if_icmp .le 19, 3) := by decide +kernel
theorem dX6_fillDock_150 : decode cX6_fillDock 150 = .ok (.aload_n 0, 1) := by decide +kernel
theorem dX6_fillDock_151 : decode cX6_fillDock 151 = .ok (.aload_n 0, 1) := by decide +kernel
theorem dX6_fillDock_152 : decode cX6_fillDock 152 = .ok (.iload 4, 2) := by decide +kernel
theorem dX6_fillDock_154 : decode cX6_fillDock 154 = .ok (.invokevirtual 65, 3) := by decide +kernel
theorem dX6_fillDock_157 : decode cX6_fillDock 157 = .ok (.putfield 54, 3) := by decide +kernel
theorem dX6_fillDock_160 : decode cX6_fillDock 160 = .ok (.aload_n 0, 1) := by decide +kernel
theorem dX6_fillDock_161 : decode cX6_fillDock 161 = .ok (.iload 4, 2) := by decide +kernel
theorem dX6_fillDock_163 : decode cX6_fillDock 163 = .ok (.putfield 57, 3) := by decide +kernel
theorem dX6_fillDock_166 : decode cX6_fillDock 166 = .ok (.iinc 4 1, 3) := by decide +kernel
theorem dX6_fillDock_169 : decode cX6_fillDock 169 = .ok (.goto (-80), 3) := by decide +kernel
theorem dX6_fillDock_172 : decode cX6_fillDock 172 = .ok (.return_, 1) := by decide +kernel
theorem dX6_findBins_0 : decode cX6_findBins 0 = .ok (.aload_n 0, 1) := by decide +kernel
theorem dX6_findBins_1 : decode cX6_findBins 1 = .ok (.iconst 0, 1) := by decide +kernel
theorem dX6_findBins_2 : decode cX6_findBins 2 = .ok (.putfield 69, 3) := by decide +kernel
theorem dX6_findBins_5 : decode cX6_findBins 5 = .ok (.iconst 0, 1) := by decide +kernel
theorem dX6_findBins_6 : decode cX6_findBins 6 = .ok (.istore_n 2, 1) := by decide +kernel
theorem dX6_findBins_7 : decode cX6_findBins 7 = .ok (.iconst 0, 1) := by decide +kernel
theorem dX6_findBins_8 : decode cX6_findBins 8 = .ok (.istore_n 3, 1) := by decide +kernel
theorem dX6_findBins_9 : decode cX6_findBins 9 = .ok (.iload_n 3, 1) := by decide +kernel
theorem dX6_findBins_10 : decode cX6_findBins 10 = .ok (.bipush 24, 2) := by decide +kernel
theorem dX6_findBins_12 : decode cX6_findBins 12 = .ok (.if_icmp .gt 81, 3) := by decide +kernel
theorem dX6_findBins_15 : decode cX6_findBins 15 = .ok (.iload_n 3, 1) := by decide +kernel
theorem dX6_findBins_16 : decode cX6_findBins 16 = .ok (.bipush 24, 2) := by decide +kernel
theorem dX6_findBins_18 : decode cX6_findBins 18 = .ok (.if_icmp .ge 15, 3) := by decide +kernel
theorem dX6_findBins_21 : decode cX6_findBins 21 = .ok (.iload_n 1, 1) := by decide +kernel
theorem dX6_findBins_22 : decode cX6_findBins 22 = .ok (.iload_n 3, 1) := by decide +kernel
theorem dX6_findBins_23 : decode cX6_findBins 23 = .ok (.ishr, 1) := by decide +kernel
theorem dX6_findBins_24 : decode cX6_findBins 24 = .ok (.iconst 1, 1) := by decide +kernel
theorem dX6_findBins_25 : decode cX6_findBins 25 = .ok (.iand, 1) := by decide +kernel
theorem dX6_findBins_26 : decode cX6_findBins 26 = .ok (.ifCond .ne 7, 3) := by decide +kernel
theorem dX6_findBins_29 : decode cX6_findBins 29 = .ok (.iconst 1, 1) := by decide +kernel
theorem dX6_findBins_30 : decode cX6_findBins 30 = .ok (.goto 4, 3) := by decide +kernel
theorem dX6_findBins_33 : decode cX6_findBins 33 = .ok (.iconst 0, 1) := by decide +kernel
theorem dX6_findBins_34 : decode cX6_findBins 34 = .ok (.istore 4, 2) := by decide +kernel
theorem dX6_findBins_36 : decode cX6_findBins 36 = .ok (.iload 4, 2) := by decide +kernel
theorem dX6_findBins_38 : decode cX6_findBins 38 = .ok (.ifCond .ne 36, 3) := by decide +kernel
theorem dX6_findBins_41 : decode cX6_findBins 41 = .ok (.iload_n 2, 1) := by decide +kernel
theorem dX6_findBins_42 : decode cX6_findBins 42 = .ok (.ifCond .le 32, 3) := by decide +kernel
theorem dX6_findBins_45 : decode cX6_findBins 45 = .ok (.aload_n 0, 1) := by decide +kernel
theorem dX6_findBins_46 : decode cX6_findBins 46 = .ok (.getfield 69, 3) := by decide +kernel
theorem dX6_findBins_49 : decode cX6_findBins 49 = .ok (.bipush 24, 2) := by decide +kernel
theorem dX6_findBins_51 : decode cX6_findBins 51 = .ok (.if_icmp .ge 23, 3) := by decide +kernel
theorem dX6_findBins_54 : decode cX6_findBins 54 = .ok (.aload_n 0, 1) := by decide +kernel
theorem dX6_findBins_55 : decode cX6_findBins 55 = .ok (.getfield 15, 3) := by decide +kernel
theorem dX6_findBins_58 : decode cX6_findBins 58 = .ok (.aload_n 0, 1) := by decide +kernel
theorem dX6_findBins_59 : decode cX6_findBins 59 = .ok (.getfield 69, 3) := by decide +kernel
theorem dX6_findBins_62 : decode cX6_findBins 62 = .ok (.iload_n 2, 1) := by decide +kernel
theorem dX6_findBins_63 : decode cX6_findBins 63 = .ok (.iastore, 1) := by decide +kernel
theorem dX6_findBins_64 : decode cX6_findBins 64 = .ok (.aload_n 0, 1) := by decide +kernel
theorem dX6_findBins_65 : decode cX6_findBins 65 = .ok (.dup, 1) := by decide +kernel
theorem dX6_findBins_66 : decode cX6_findBins 66 = .ok (.getfield 69, 3) := by decide +kernel
theorem dX6_findBins_69 : decode cX6_findBins 69 = .ok (.iconst 1, 1) := by decide +kernel
theorem dX6_findBins_70 : decode cX6_findBins 70 = .ok (.iadd, 1) := by decide +kernel
theorem dX6_findBins_71 : decode cX6_findBins 71 = .ok (.putfield 69, 3) := by decide +kernel
theorem dX6_findBins_74 : decode cX6_findBins 74 = .ok (.iload 4, 2) := by decide +kernel
theorem dX6_findBins_76 : decode cX6_findBins 76 = .ok (.ifCond .eq 9, 3) := by decide +kernel
theorem dX6_findBins_79 : decode cX6_findBins 79 = .ok (.iload_n 2, 1) := by decide +kernel
theorem dX6_findBins_80 : decode cX6_findBins 80 = .ok (.iconst 1, 1) := by decide +kernel
theorem dX6_findBins_81 : decode cX6_findBins 81 = .ok (.iadd, 1) := by decide +kernel
theorem dX6_findBins_82 : decode cX6_findBins 82 = .ok (.goto 4, 3) := by decide +kernel
theorem dX6_findBins_85 : decode cX6_findBins 85 = .ok (.iconst 0, 1) := by decide +kernel
theorem dX6_findBins_86 : decode cX6_findBins 86 = .ok (.istore_n 2, 1) := by decide +kernel
theorem dX6_findBins_87 : decode cX6_findBins 87 = .ok (.iinc 3 1, 3) := by decide +kernel
theorem dX6_findBins_90 : decode cX6_findBins 90 = .ok (.goto (-81), 3) := by decide +kernel
theorem dX6_findBins_93 : decode cX6_findBins 93 = .ok (.return_, 1) := by decide +kernel
theorem dX6_findFees_0 : decode cX6_findFees 0 = .ok (.iconst 0, 1) := by decide +kernel
theorem dX6_findFees_1 : decode cX6_findFees 1 = .ok (.istore_n 3, 1) := by decide +kernel
theorem dX6_findFees_2 : decode cX6_findFees 2 = .ok (.iload_n 3, 1) := by decide +kernel
theorem dX6_findFees_3 : decode cX6_findFees 3 = .ok (.bipush 8, 2) := by decide +kernel
theorem dX6_findFees_5 : decode cX6_findFees 5 = .ok (.if_icmp .ge 33, 3) := by decide +kernel
theorem dX6_findFees_8 : decode cX6_findFees 8 = .ok (.aload_n 0, 1) := by decide +kernel
theorem dX6_findFees_9 : decode cX6_findFees 9 = .ok (.getfield 18, 3) := by decide +kernel
theorem dX6_findFees_12 : decode cX6_findFees 12 = .ok (.iload_n 3, 1) := by decide +kernel
theorem dX6_findFees_13 : decode cX6_findFees 13 = .ok (.iload_n 3, 1) := by decide +kernel
theorem dX6_findFees_14 : decode cX6_findFees 14 = .ok (.aload_n 1, 1) := by decide +kernel
theorem dX6_findFees_15 : decode cX6_findFees 15 = .ok (.getfield 41, 3) := by decide +kernel
theorem dX6_findFees_18 : decode cX6_findFees 18 = .ok (.if_icmp .ge 12, 3) := by decide +kernel
theorem dX6_findFees_21 : decode cX6_findFees 21 = .ok (.aload_n 1, 1) := by decide +kernel
theorem dX6_findFees_22 : decode cX6_findFees 22 = .ok (.iload_n 3, 1) := by decide +kernel
theorem dX6_findFees_23 : decode cX6_findFees 23 = .ok (.aload_n 2, 1) := by decide +kernel
theorem dX6_findFees_24 : decode cX6_findFees 24 = .ok (.invokevirtual 72, 3) := by decide +kernel
theorem dX6_findFees_27 : decode cX6_findFees 27 = .ok (.goto 4, 3) := by decide +kernel
theorem dX6_findFees_30 : decode cX6_findFees 30 = .ok (.iconst 0, 1) := by decide +kernel
theorem dX6_findFees_31 : decode cX6_findFees 31 = .ok (.iastore, 1) := by decide +kernel
theorem dX6_findFees_32 : decode cX6_findFees 32 = .ok (.iinc 3 1, 3) := by decide +kernel
theorem dX6_findFees_35 : decode cX6_findFees 35 = .ok (.goto (-33), 3) := by decide +kernel
theorem dX6_findFees_38 : decode cX6_findFees 38 = .ok (.return_, 1) := by decide +kernel
theorem dX6_feesOf_0 : decode cX6_feesOf 0 = .ok (.iconst 0, 1) := by decide +kernel
theorem dX6_feesOf_1 : decode cX6_feesOf 1 = .ok (.istore_n 2, 1) := by decide +kernel
theorem dX6_feesOf_2 : decode cX6_feesOf 2 = .ok (.iconst 0, 1) := by decide +kernel
theorem dX6_feesOf_3 : decode cX6_feesOf 3 = .ok (.istore_n 3, 1) := by decide +kernel
theorem dX6_feesOf_4 : decode cX6_feesOf 4 = .ok (.iload_n 3, 1) := by decide +kernel
theorem dX6_feesOf_5 : decode cX6_feesOf 5 = .ok (.bipush 8, 2) := by decide +kernel
theorem dX6_feesOf_7 : decode cX6_feesOf 7 = .ok (.if_icmp .ge 24, 3) := by decide +kernel
theorem dX6_feesOf_10 : decode cX6_feesOf 10 = .ok (.iload_n 2, 1) := by decide +kernel
theorem dX6_feesOf_11 : decode cX6_feesOf 11 = .ok (.iload_n 1, 1) := by decide +kernel
theorem dX6_feesOf_12 : decode cX6_feesOf 12 = .ok (.iload_n 3, 1) := by decide +kernel
theorem dX6_feesOf_13 : decode cX6_feesOf 13 = .ok (.ishr, 1) := by decide +kernel
theorem dX6_feesOf_14 : decode cX6_feesOf 14 = .ok (.iconst 1, 1) := by decide +kernel
theorem dX6_feesOf_15 : decode cX6_feesOf 15 = .ok (.iand, 1) := by decide +kernel
theorem dX6_feesOf_16 : decode cX6_feesOf 16 = .ok (.aload_n 0, 1) := by decide +kernel
theorem dX6_feesOf_17 : decode cX6_feesOf 17 = .ok (.getfield 18, 3) := by decide +kernel
theorem dX6_feesOf_20 : decode cX6_feesOf 20 = .ok (.iload_n 3, 1) := by decide +kernel
theorem dX6_feesOf_21 : decode cX6_feesOf 21 = .ok (.iaload, 1) := by decide +kernel
theorem dX6_feesOf_22 : decode cX6_feesOf 22 = .ok (.imul, 1) := by decide +kernel
theorem dX6_feesOf_23 : decode cX6_feesOf 23 = .ok (.iadd, 1) := by decide +kernel
theorem dX6_feesOf_24 : decode cX6_feesOf 24 = .ok (.istore_n 2, 1) := by decide +kernel
theorem dX6_feesOf_25 : decode cX6_feesOf 25 = .ok (.iinc 3 1, 3) := by decide +kernel
theorem dX6_feesOf_28 : decode cX6_feesOf 28 = .ok (.goto (-24), 3) := by decide +kernel
theorem dX6_feesOf_31 : decode cX6_feesOf 31 = .ok (.iload_n 2, 1) := by decide +kernel
theorem dX6_feesOf_32 : decode cX6_feesOf 32 = .ok (.ireturn, 1) := by decide +kernel
theorem dX6_leastFilling_0 : decode cX6_leastFilling 0 = .ok (.ldc 64, 2) := by decide +kernel
theorem dX6_leastFilling_2 : decode cX6_leastFilling 2 = .ok (.istore_n 3, 1) := by decide +kernel
theorem dX6_leastFilling_3 : decode cX6_leastFilling 3 = .ok (.iconst 0, 1) := by decide +kernel
theorem dX6_leastFilling_4 : decode cX6_leastFilling 4 = .ok (.istore 4, 2) := by decide +kernel
theorem dX6_leastFilling_6 : decode cX6_leastFilling 6 = .ok (.iload 4, 2) := by decide +kernel
theorem dX6_leastFilling_8 : decode cX6_leastFilling 8 = .ok (.bipush 8, 2) := by decide +kernel
theorem dX6_leastFilling_10 : decode cX6_leastFilling 10 = .ok (.if_icmp .ge 46, 3) := by decide +kernel
theorem dX6_leastFilling_13 : decode cX6_leastFilling 13 = .ok (.iload_n 1, 1) := by decide +kernel
theorem dX6_leastFilling_14 : decode cX6_leastFilling 14 = .ok (.iload 4, 2) := by decide +kernel
theorem dX6_leastFilling_16 : decode cX6_leastFilling 16 = .ok (.ishr, 1) := by decide +kernel
theorem dX6_leastFilling_17 : decode cX6_leastFilling 17 = .ok (.iconst 1, 1) := by decide +kernel
theorem dX6_leastFilling_18 : decode cX6_leastFilling 18 = .ok (.iand, 1) := by decide +kernel
theorem dX6_leastFilling_19 : decode cX6_leastFilling 19 = .ok (.iconst 1, 1) := by decide +kernel
theorem dX6_leastFilling_20 : decode cX6_leastFilling 20 = .ok (.if_icmp .ne 30, 3) := by decide +kernel
theorem dX6_leastFilling_23 : decode cX6_leastFilling 23 = .ok (.iload_n 3, 1) := by decide +kernel
theorem dX6_leastFilling_24 : decode cX6_leastFilling 24 = .ok (.aload_n 0, 1) := by decide +kernel
theorem dX6_leastFilling_25 : decode cX6_leastFilling 25 = .ok (.aload_n 0, 1) := by decide +kernel
theorem dX6_leastFilling_26 : decode cX6_leastFilling 26 = .ok (.getfield 21, 3) := by decide +kernel
theorem dX6_leastFilling_29 : decode cX6_leastFilling 29 = .ok (.iload_n 1, 1) := by decide +kernel
theorem dX6_leastFilling_30 : decode cX6_leastFilling 30 = .ok (.iconst 1, 1) := by decide +kernel
theorem dX6_leastFilling_31 : decode cX6_leastFilling 31 = .ok (.iload 4, 2) := by decide +kernel
theorem dX6_leastFilling_33 : decode cX6_leastFilling 33 = .ok (.ishl, 1) := by decide +kernel
theorem dX6_leastFilling_34 : decode cX6_leastFilling 34 = .ok (.ixor, 1) := by decide +kernel
theorem dX6_leastFilling_35 : decode cX6_leastFilling 35 = .ok (.iaload, 1) := by decide +kernel
theorem dX6_leastFilling_36 : decode cX6_leastFilling 36 = .ok (.aload_n 2, 1) := by decide +kernel
theorem dX6_leastFilling_37 : decode cX6_leastFilling 37 = .ok (.getfield 76, 3) := by decide +kernel
theorem dX6_leastFilling_40 : decode cX6_leastFilling 40 = .ok (.iload 4, 2) := by decide +kernel
theorem dX6_leastFilling_42 : decode cX6_leastFilling 42 = .ok (.iaload, 1) := by decide +kernel
theorem dX6_leastFilling_43 : decode cX6_leastFilling 43 = .ok (.invokevirtual 79, 3) := by decide +kernel
theorem dX6_leastFilling_46 : decode cX6_leastFilling 46 = .ok (.invokestatic 83, 3) := by decide +kernel
theorem dX6_leastFilling_49 : decode cX6_leastFilling 49 = .ok (.istore_n 3, 1) := by decide +kernel
theorem dX6_leastFilling_50 : decode cX6_leastFilling 50 = .ok (.iinc 4 1, 3) := by decide +kernel
theorem dX6_leastFilling_53 : decode cX6_leastFilling 53 = .ok (.goto (-47), 3) := by decide +kernel
theorem dX6_leastFilling_56 : decode cX6_leastFilling 56 = .ok (.iload_n 3, 1) := by decide +kernel
theorem dX6_leastFilling_57 : decode cX6_leastFilling 57 = .ok (.ireturn, 1) := by decide +kernel
theorem dX6_filledBy_0 : decode cX6_filledBy 0 = .ok (.iload_n 1, 1) := by decide +kernel
theorem dX6_filledBy_1 : decode cX6_filledBy 1 = .ok (.bipush 32, 2) := by decide +kernel
theorem dX6_filledBy_3 : decode cX6_filledBy 3 = .ok (.irem, 1) := by decide +kernel
theorem dX6_filledBy_4 : decode cX6_filledBy 4 = .ok (.istore_n 3, 1) := by decide +kernel
theorem dX6_filledBy_5 : decode cX6_filledBy 5 = .ok (.iload_n 1, 1) := by decide +kernel
theorem dX6_filledBy_6 : decode cX6_filledBy 6 = .ok (.bipush 32, 2) := by decide +kernel
theorem dX6_filledBy_8 : decode cX6_filledBy 8 = .ok (.idiv, 1) := by decide +kernel
theorem dX6_filledBy_9 : decode cX6_filledBy 9 = .ok (.istore 4, 2) := by decide +kernel
theorem dX6_filledBy_11 : decode cX6_filledBy 11 = .ok (.iload 4, 2) := by decide +kernel
theorem dX6_filledBy_13 : decode cX6_filledBy 13 = .ok (.aload_n 0, 1) := by decide +kernel
theorem dX6_filledBy_14 : decode cX6_filledBy 14 = .ok (.getfield 69, 3) := by decide +kernel
theorem dX6_filledBy_17 : decode cX6_filledBy 17 = .ok (.if_icmp .ge 34, 3) := by decide +kernel
theorem dX6_filledBy_20 : decode cX6_filledBy 20 = .ok (.iload_n 3, 1) := by decide +kernel
theorem dX6_filledBy_21 : decode cX6_filledBy 21 = .ok (.iload_n 2, 1) := by decide +kernel
theorem dX6_filledBy_22 : decode cX6_filledBy 22 = .ok (.iadd, 1) := by decide +kernel
theorem dX6_filledBy_23 : decode cX6_filledBy 23 = .ok (.aload_n 0, 1) := by decide +kernel
theorem dX6_filledBy_24 : decode cX6_filledBy 24 = .ok (.getfield 15, 3) := by decide +kernel
theorem dX6_filledBy_27 : decode cX6_filledBy 27 = .ok (.iload 4, 2) := by decide +kernel
theorem dX6_filledBy_29 : decode cX6_filledBy 29 = .ok (.iaload, 1) := by decide +kernel
theorem dX6_filledBy_30 : decode cX6_filledBy 30 = .ok (.if_icmp .gt 13, 3) := by decide +kernel
theorem dX6_filledBy_33 : decode cX6_filledBy 33 = .ok (.iload 4, 2) := by decide +kernel
theorem dX6_filledBy_35 : decode cX6_filledBy 35 = .ok (.bipush 32, 2) := by decide +kernel
theorem dX6_filledBy_37 : decode cX6_filledBy 37 = .ok (.imul, 1) := by decide +kernel
theorem dX6_filledBy_38 : decode cX6_filledBy 38 = .ok (.iload_n 3, 1) := by decide +kernel
theorem dX6_filledBy_39 : decode cX6_filledBy 39 = .ok (.iadd, 1) := by decide +kernel
theorem dX6_filledBy_40 : decode cX6_filledBy 40 = .ok (.iload_n 2, 1) := by decide +kernel
theorem dX6_filledBy_41 : decode cX6_filledBy 41 = .ok (.iadd, 1) := by decide +kernel
theorem dX6_filledBy_42 : decode cX6_filledBy 42 = .ok (.ireturn, 1) := by decide +kernel
theorem dX6_filledBy_43 : decode cX6_filledBy 43 = .ok (.iconst 0, 1) := by decide +kernel
theorem dX6_filledBy_44 : decode cX6_filledBy 44 = .ok (.istore_n 3, 1) := by decide +kernel
theorem dX6_filledBy_45 : decode cX6_filledBy 45 = .ok (.iinc 4 1, 3) := by decide +kernel
theorem dX6_filledBy_48 : decode cX6_filledBy 48 = .ok (.goto (-37), 3) := by decide +kernel
theorem dX6_filledBy_51 : decode cX6_filledBy 51 = .ok (.ldc 64, 2) := by decide +kernel
theorem dX6_filledBy_53 : decode cX6_filledBy 53 = .ok (.ireturn, 1) := by decide +kernel
theorem dX6_orderWork_0 : decode cX6_orderWork 0 = .ok (.aload_n 1, 1) := by decide +kernel
theorem dX6_orderWork_1 : decode cX6_orderWork 1 = .ok (.invokevirtual 88, 3) := by decide +kernel
theorem dX6_orderWork_4 : decode cX6_orderWork 4 = .ok (.istore_n 3, 1) := by decide +kernel
theorem dX6_orderWork_5 : decode cX6_orderWork 5 = .ok (.aload_n 0, 1) := by decide +kernel
theorem dX6_orderWork_6 : decode cX6_orderWork 6 = .ok (.iconst 0, 1) := by decide +kernel
theorem dX6_orderWork_7 : decode cX6_orderWork 7 = .ok (.putfield 54, 3) := by decide +kernel
theorem dX6_orderWork_10 : decode cX6_orderWork 10 = .ok (.aload_n 0, 1) := by decide +kernel
theorem dX6_orderWork_11 : decode cX6_orderWork 11 = .ok (.iconst (-1), 1) := by decide +kernel
theorem dX6_orderWork_12 : decode cX6_orderWork 12 = .ok (.putfield 57, 3) := by decide +kernel
theorem dX6_orderWork_15 : decode cX6_orderWork 15 = .ok (.iload_n 3, 1) := by decide +kernel
theorem dX6_orderWork_16 : decode cX6_orderWork 16 = .ok (.ifCond .ne 4, 3) := by decide +kernel
theorem dX6_orderWork_19 : decode cX6_orderWork 19 = .ok (.return_, 1) := by decide +kernel
theorem dX6_orderWork_20 : decode cX6_orderWork 20 = .ok (.aload_n 1, 1) := by decide +kernel
theorem dX6_orderWork_21 : decode cX6_orderWork 21 = .ok (.getfield 91, 3) := by decide +kernel
theorem dX6_orderWork_24 : decode cX6_orderWork 24 = .ok (.ifCond .gt 9, 3) := by decide +kernel
theorem dX6_orderWork_27 : decode cX6_orderWork 27 = .ok (.aload_n 0, 1) := by decide +kernel
theorem dX6_orderWork_28 : decode cX6_orderWork 28 = .ok (.iconst (-1), 1) := by decide +kernel
theorem dX6_orderWork_29 : decode cX6_orderWork 29 = .ok (.putfield 54, 3) := by decide +kernel
theorem dX6_orderWork_32 : decode cX6_orderWork 32 = .ok (.return_, 1) := by decide +kernel
theorem dX6_orderWork_33 : decode cX6_orderWork 33 = .ok (.aload_n 0, 1) := by decide +kernel
theorem dX6_orderWork_34 : decode cX6_orderWork 34 = .ok (.aload_n 1, 1) := by decide +kernel
theorem dX6_orderWork_35 : decode cX6_orderWork 35 = .ok (.aload_n 2, 1) := by decide +kernel
theorem dX6_orderWork_36 : decode cX6_orderWork 36 = .ok (.invokevirtual 37, 3) := by decide +kernel
theorem dX6_orderWork_39 : decode cX6_orderWork 39 = .ok (.aload_n 0, 1) := by decide +kernel
theorem dX6_orderWork_40 : decode cX6_orderWork 40 = .ok (.getfield 21, 3) := by decide +kernel
theorem dX6_orderWork_43 : decode cX6_orderWork 43 = .ok (.iload_n 3, 1) := by decide +kernel
theorem dX6_orderWork_44 : decode cX6_orderWork 44 = .ok (.iconst 0, 1) := by decide +kernel
theorem dX6_orderWork_45 : decode cX6_orderWork 45 = .ok (.iastore, 1) := by decide +kernel
theorem dX6_orderWork_46 : decode cX6_orderWork 46 = .ok (.iload_n 3, 1) := by decide +kernel
theorem dX6_orderWork_47 : decode cX6_orderWork 47 = .ok (.iconst 1, 1) := by decide +kernel
theorem dX6_orderWork_48 : decode cX6_orderWork 48 = .ok (.isub, 1) := by decide +kernel
theorem dX6_orderWork_49 : decode cX6_orderWork 49 = .ok (.istore 4, 2) := by decide +kernel
theorem dX6_orderWork_51 : decode cX6_orderWork 51 = .ok (.iload 4, 2) := by decide +kernel
theorem dX6_orderWork_53 : decode cX6_orderWork 53 = .ok (.ifCond .lt 26, 3) := by decide +kernel
theorem dX6_orderWork_56 : decode cX6_orderWork 56 = .ok (.iload 4, 2) := by decide +kernel
theorem dX6_orderWork_58 : decode cX6_orderWork 58 = .ok (.iload_n 3, 1) := by decide +kernel
theorem dX6_orderWork_59 : decode cX6_orderWork 59 = .ok (.iconst (-1), 1) := by decide +kernel
theorem dX6_orderWork_60 : decode cX6_orderWork 60 = .ok (.ixor, 1) := by decide +kernel
theorem dX6_orderWork_61 : decode cX6_orderWork 61 = .ok (.iand, 1) := by decide +kernel
theorem dX6_orderWork_62 : decode cX6_orderWork 62 = .ok (.ifCond .ne 11, 3) := by decide +kernel
theorem dX6_orderWork_65 : decode cX6_orderWork 65 = .ok (.aload_n 0, 1) := by decide +kernel
theorem dX6_orderWork_66 : decode cX6_orderWork 66 = .ok (.iload 4, 2) := by decide +kernel
theorem dX6_orderWork_68 : decode cX6_orderWork 68 = .ok (.iload_n 3, 1) := by decide +kernel
theorem dX6_orderWork_69 : decode cX6_orderWork 69 = .ok (.aload_n 1, 1) := by decide +kernel
theorem dX6_orderWork_70 : decode cX6_orderWork 70 = .ok (.invokevirtual 94, 3) := by decide +kernel
theorem dX6_orderWork_73 : decode cX6_orderWork 73 = .ok (.iinc 4 (-1), 3) := by decide +kernel
theorem dX6_orderWork_76 : decode cX6_orderWork 76 = .ok (.goto (-25), 3) := by decide +kernel
theorem dX6_orderWork_79 : decode cX6_orderWork 79 = .ok (.aload_n 0, 1) := by decide +kernel
theorem dX6_orderWork_80 : decode cX6_orderWork 80 = .ok (.aload_n 0, 1) := by decide +kernel
theorem dX6_orderWork_81 : decode cX6_orderWork 81 = .ok (.getfield 21, 3) := by decide +kernel
theorem dX6_orderWork_84 : decode cX6_orderWork 84 = .ok (.iconst 0, 1) := by decide +kernel
theorem dX6_orderWork_85 : decode cX6_orderWork 85 = .ok (.iaload, 1) := by decide +kernel
theorem dX6_orderWork_86 : decode cX6_orderWork 86 = .ok (.putfield 54, 3) := by decide +kernel
theorem dX6_orderWork_89 : decode cX6_orderWork 89 = .ok (.return_, 1) := by decide +kernel
theorem dX6_orderRest_0 : decode cX6_orderRest 0 = .ok (.iconst 0, 1) := by decide +kernel
theorem dX6_orderRest_1 : decode cX6_orderRest 1 = .ok (.istore 4, 2) := by decide +kernel
theorem dX6_orderRest_3 : decode cX6_orderRest 3 = .ok (.iconst 0, 1) := by decide +kernel
theorem dX6_orderRest_4 : decode cX6_orderRest 4 = .ok (.istore 5, 2) := by decide +kernel
theorem dX6_orderRest_6 : decode cX6_orderRest 6 = .ok (.iload 5, 2) := by decide +kernel
theorem dX6_orderRest_8 : decode cX6_orderRest 8 = .ok (.bipush 8, 2) := by decide +kernel
theorem dX6_orderRest_10 : decode cX6_orderRest 10 = .ok (.if_icmp .ge 28, 3) := by decide +kernel
theorem dX6_orderRest_13 : decode cX6_orderRest 13 = .ok (.iload 4, 2) := by decide +kernel
theorem dX6_orderRest_15 : decode cX6_orderRest 15 = .ok (.iload_n 1, 1) := by decide +kernel
theorem dX6_orderRest_16 : decode cX6_orderRest 16 = .ok (.iload 5, 2) := by decide +kernel
theorem dX6_orderRest_18 : decode cX6_orderRest 18 = .ok (.ishr, 1) := by decide +kernel
theorem dX6_orderRest_19 : decode cX6_orderRest 19 = .ok (.iconst 1, 1) := by decide +kernel
theorem dX6_orderRest_20 : decode cX6_orderRest 20 = .ok (.iand, 1) := by decide +kernel
theorem dX6_orderRest_21 : decode cX6_orderRest 21 = .ok (.aload_n 3, 1) := by decide +kernel
theorem dX6_orderRest_22 : decode cX6_orderRest 22 = .ok (.getfield 98, 3) := by decide +kernel
theorem dX6_orderRest_25 : decode cX6_orderRest 25 = .ok (.iload 5, 2) := by decide +kernel
theorem dX6_orderRest_27 : decode cX6_orderRest 27 = .ok (.iaload, 1) := by decide +kernel
theorem dX6_orderRest_28 : decode cX6_orderRest 28 = .ok (.imul, 1) := by decide +kernel
theorem dX6_orderRest_29 : decode cX6_orderRest 29 = .ok (.iadd, 1) := by decide +kernel
theorem dX6_orderRest_30 : decode cX6_orderRest 30 = .ok (.istore 4, 2) := by decide +kernel
theorem dX6_orderRest_32 : decode cX6_orderRest 32 = .ok (.iinc 5 1, 3) := by decide +kernel
theorem dX6_orderRest_35 : decode cX6_orderRest 35 = .ok (.goto (-29), 3) := by decide +kernel
theorem dX6_orderRest_38 : decode cX6_orderRest 38 = .ok (.aload_n 0, 1) := by decide +kernel
theorem dX6_orderRest_39 : decode cX6_orderRest 39 = .ok (.iconst (-1), 1) := by decide +kernel
theorem dX6_orderRest_40 : decode cX6_orderRest 40 = .ok (.putfield 57, 3) := by decide +kernel
theorem dX6_orderRest_43 : decode cX6_orderRest 43 = .ok (.iconst 0, 1) := by decide +kernel
theorem dX6_orderRest_44 : decode cX6_orderRest 44 = .ok (.istore 5, 2) := by decide +kernel
theorem dX6_orderRest_46 : decode cX6_orderRest 46 = .ok (.iload 5, 2) := by decide +kernel
theorem dX6_orderRest_48 : decode cX6_orderRest 48 = .ok (.bipush 8, 2) := by decide +kernel
theorem dX6_orderRest_50 : decode cX6_orderRest 50 = .ok (.if_icmp .ge 99, 3) := by decide +kernel
theorem dX6_orderRest_53 : decode cX6_orderRest 53 = .ok (.iload_n 2, 1) := by decide +kernel
theorem dX6_orderRest_54 : decode cX6_orderRest 54 = .ok (.iload_n 1, 1) := by decide +kernel
theorem dX6_orderRest_55 : decode cX6_orderRest 55 = .ok (.iconst (-1), 1) := by decide +kernel
theorem dX6_orderRest_56 : decode cX6_orderRest 56 = .ok (.ixor, 1) := by decide +kernel
theorem dX6_orderRest_57 : decode cX6_orderRest 57 = .ok (.iand, 1) := by decide +kernel
theorem dX6_orderRest_58 : decode cX6_orderRest 58 = .ok (.iload 5, 2) := by decide +kernel
theorem dX6_orderRest_60 : decode cX6_orderRest 60 = .ok (.ishr, 1) := by decide +kernel
theorem dX6_orderRest_61 : decode cX6_orderRest 61 = .ok (.iconst 1, 1) := by decide +kernel
theorem dX6_orderRest_62 : decode cX6_orderRest 62 = .ok (.iand, 1) := by decide +kernel
theorem dX6_orderRest_63 : decode cX6_orderRest 63 = .ok (.iconst 1, 1) := by decide +kernel
theorem dX6_orderRest_64 : decode cX6_orderRest 64 = .ok (.if_icmp .ne 79, 3) := by decide +kernel
theorem dX6_orderRest_67 : decode cX6_orderRest 67 = .ok (.iload 4, 2) := by decide +kernel
theorem dX6_orderRest_69 : decode cX6_orderRest 69 = .ok (.aload_n 3, 1) := by decide +kernel
theorem dX6_orderRest_70 : decode cX6_orderRest 70 = .ok (.getfield 98, 3) := by decide +kernel
theorem dX6_orderRest_73 : decode cX6_orderRest 73 = .ok (.iload 5, 2) := by decide +kernel
theorem dX6_orderRest_75 : decode cX6_orderRest 75 = .ok (.iaload, 1) := by decide +kernel
theorem dX6_orderRest_76 : decode cX6_orderRest 76 = .ok (.iadd, 1) := by decide +kernel
theorem dX6_orderRest_77 : decode cX6_orderRest 77 = .ok (.aload_n 3, 1) := by decide +kernel
theorem dX6_orderRest_78 : decode cX6_orderRest 78 = .ok (.getfield 91, 3) := by decide +kernel
theorem dX6_orderRest_81 : decode cX6_orderRest 81 = .ok (.invokestatic 101, 3) := by decide +kernel
theorem dX6_orderRest_84 : decode cX6_orderRest 84 = .ok (.istore 6, 2) := by decide +kernel
theorem dX6_orderRest_86 : decode cX6_orderRest 86 = .ok (.aload_n 0, 1) := by decide +kernel
theorem dX6_orderRest_87 : decode cX6_orderRest 87 = .ok (.getfield 18, 3) := by decide +kernel
theorem dX6_orderRest_90 : decode cX6_orderRest 90 = .ok (.iload 5, 2) := by decide +kernel
theorem dX6_orderRest_92 : decode cX6_orderRest 92 = .ok (.iaload, 1) := by decide +kernel
theorem dX6_orderRest_93 : decode cX6_orderRest 93 = .ok (.iload 6, 2) := by decide +kernel
theorem dX6_orderRest_95 : decode cX6_orderRest 95 = .ok (.imul, 1) := by decide +kernel
theorem dX6_orderRest_96 : decode cX6_orderRest 96 = .ok (.aload_n 0, 1) := by decide +kernel
theorem dX6_orderRest_97 : decode cX6_orderRest 97 = .ok (.getfield 21, 3) := by decide +kernel
theorem dX6_orderRest_100 : decode cX6_orderRest 100 = .ok (.iload_n 1, 1) := by decide +kernel
theorem dX6_orderRest_101 : decode cX6_orderRest 101 = .ok (.iconst 1, 1) := by decide +kernel
theorem dX6_orderRest_102 : decode cX6_orderRest 102 = .ok (.iload 5, 2) := by decide +kernel
theorem dX6_orderRest_104 : decode cX6_orderRest 104 = .ok (.ishl, 1) := by decide +kernel
theorem dX6_orderRest_105 : decode cX6_orderRest 105 = .ok (.ior, 1) := by decide +kernel
theorem dX6_orderRest_106 : decode cX6_orderRest 106 = .ok (.iaload, 1) := by decide +kernel
theorem dX6_orderRest_107 : decode cX6_orderRest 107 = .ok (.iadd, 1) := by decide +kernel
theorem dX6_orderRest_108 : decode cX6_orderRest 108 = .ok (.istore 7, 2) := by decide +kernel
theorem dX6_orderRest_110 : decode cX6_orderRest 110 = .ok (.aload_n 0, 1) := by decide +kernel
theorem dX6_orderRest_111 : decode cX6_orderRest 111 = .ok (.getfield 57, 3) := by decide +kernel
theorem dX6_orderRest_114 : decode cX6_orderRest 114 = .ok (.iconst (-1), 1) := by decide +kernel
theorem dX6_orderRest_115 : decode cX6_orderRest 115 = .ok (.if_icmp .eq 14, 3) := by decide +kernel
theorem dX6_orderRest_118 : decode cX6_orderRest 118 = .ok (.iload 7, 2) := by decide +kernel
theorem dX6_orderRest_120 : decode cX6_orderRest 120 = .ok (.aload_n 0, 1) := by decide +kernel
theorem dX6_orderRest_121 : decode cX6_orderRest 121 = .ok (.getfield 21, 3) := by decide +kernel
theorem dX6_orderRest_124 : decode cX6_orderRest 124 = .ok (.iload_n 1, 1) := by decide +kernel
theorem dX6_orderRest_125 : decode cX6_orderRest 125 = .ok (.iaload, 1) := by decide +kernel
theorem dX6_orderRest_126 : decode cX6_orderRest 126 = .ok (.if_icmp .ge 17, 3) := by decide +kernel
theorem dX6_orderRest_129 : decode cX6_orderRest 129 = .ok (.aload_n 0, 1) := by decide +kernel
theorem dX6_orderRest_130 : decode cX6_orderRest 130 = .ok (.getfield 21, 3) := by decide +kernel
theorem dX6_orderRest_133 : decode cX6_orderRest 133 = .ok (.iload_n 1, 1) := by decide +kernel
theorem dX6_orderRest_134 : decode cX6_orderRest 134 = .ok (.iload 7, 2) := by decide +kernel
theorem dX6_orderRest_136 : decode cX6_orderRest 136 = .ok (.iastore, 1) := by decide +kernel
theorem dX6_orderRest_137 : decode cX6_orderRest 137 = .ok (.aload_n 0, 1) := by decide +kernel
theorem dX6_orderRest_138 : decode cX6_orderRest 138 = .ok (.iload 5, 2) := by decide +kernel
theorem dX6_orderRest_140 : decode cX6_orderRest 140 = .ok (.putfield 57, 3) := by decide +kernel
theorem dX6_orderRest_143 : decode cX6_orderRest 143 = .ok (.iinc 5 1, 3) := by decide +kernel
theorem dX6_orderRest_146 : decode cX6_orderRest 146 = .ok (.goto (-100), 3) := by decide +kernel
theorem dX6_orderRest_149 : decode cX6_orderRest 149 = .ok (.return_, 1) := by decide +kernel
theorem dX6_roundedUp_0 : decode cX6_roundedUp 0 = .ok (.iload_n 1, 1) := by decide +kernel
theorem dX6_roundedUp_1 : decode cX6_roundedUp 1 = .ok (.ifCond .le 13, 3) := by decide +kernel
theorem dX6_roundedUp_4 : decode cX6_roundedUp 4 = .ok (.iload_n 0, 1) := by decide +kernel
theorem dX6_roundedUp_5 : decode cX6_roundedUp 5 = .ok (.iload_n 1, 1) := by decide +kernel
theorem dX6_roundedUp_6 : decode cX6_roundedUp 6 = .ok (.iadd, 1) := by decide +kernel
theorem dX6_roundedUp_7 : decode cX6_roundedUp 7 = .ok (.iconst 1, 1) := by decide +kernel
theorem dX6_roundedUp_8 : decode cX6_roundedUp 8 = .ok (.isub, 1) := by decide +kernel
theorem dX6_roundedUp_9 : decode cX6_roundedUp 9 = .ok (.iload_n 1, 1) := by decide +kernel
theorem dX6_roundedUp_10 : decode cX6_roundedUp 10 = .ok (.idiv, 1) := by decide +kernel
theorem dX6_roundedUp_11 : decode cX6_roundedUp 11 = .ok (.goto 4, 3) := by decide +kernel
theorem dX6_roundedUp_14 : decode cX6_roundedUp 14 = .ok (.iconst 0, 1) := by decide +kernel
theorem dX6_roundedUp_15 : decode cX6_roundedUp 15 = .ok (.ireturn, 1) := by decide +kernel
theorem dX6_putToBeds_0 : decode cX6_putToBeds 0 = .ok (.aload_n 1, 1) := by decide +kernel
theorem dX6_putToBeds_1 : decode cX6_putToBeds 1 = .ok (.invokevirtual 27, 3) := by decide +kernel
theorem dX6_putToBeds_4 : decode cX6_putToBeds 4 = .ok (.istore_n 2, 1) := by decide +kernel
theorem dX6_putToBeds_5 : decode cX6_putToBeds 5 = .ok (.iconst 0, 1) := by decide +kernel
theorem dX6_putToBeds_6 : decode cX6_putToBeds 6 = .ok (.istore_n 3, 1) := by decide +kernel
theorem dX6_putToBeds_7 : decode cX6_putToBeds 7 = .ok (.iload_n 3, 1) := by decide +kernel
theorem dX6_putToBeds_8 : decode cX6_putToBeds 8 = .ok (.sipush 225, 3) := by decide +kernel
theorem dX6_putToBeds_11 : decode cX6_putToBeds 11 = .ok (.if_icmp .ge 16, 3) := by decide +kernel
theorem dX6_putToBeds_14 : decode cX6_putToBeds 14 = .ok (.aload_n 0, 1) := by decide +kernel
theorem dX6_putToBeds_15 : decode cX6_putToBeds 15 = .ok (.getfield 24, 3) := by decide +kernel
theorem dX6_putToBeds_18 : decode cX6_putToBeds 18 = .ok (.iload_n 3, 1) := by decide +kernel
theorem dX6_putToBeds_19 : decode cX6_putToBeds 19 = .ok (.iconst 0, 1) := by decide +kernel
theorem dX6_putToBeds_20 : decode cX6_putToBeds 20 = .ok (.iastore, 1) := by decide +kernel
theorem dX6_putToBeds_21 : decode cX6_putToBeds 21 = .ok (.iinc 3 1, 3) := by decide +kernel
theorem dX6_putToBeds_24 : decode cX6_putToBeds 24 = .ok (.goto (-17), 3) := by decide +kernel
theorem dX6_putToBeds_27 : decode cX6_putToBeds 27 = .ok (.aload_n 1, 1) := by decide +kernel
theorem dX6_putToBeds_28 : decode cX6_putToBeds 28 = .ok (.getfield 41, 3) := by decide +kernel
theorem dX6_putToBeds_31 : decode cX6_putToBeds 31 = .ok (.iconst 1, 1) := by decide +kernel
theorem dX6_putToBeds_32 : decode cX6_putToBeds 32 = .ok (.isub, 1) := by decide +kernel
theorem dX6_putToBeds_33 : decode cX6_putToBeds 33 = .ok (.istore_n 3, 1) := by decide +kernel
theorem dX6_putToBeds_34 : decode cX6_putToBeds 34 = .ok (.iload_n 3, 1) := by decide +kernel
theorem dX6_putToBeds_35 : decode cX6_putToBeds 35 = .ok (.ifCond .lt 99, 3) := by decide +kernel
theorem dX6_putToBeds_38 : decode cX6_putToBeds 38 = .ok (.bipush 24, 2) := by decide +kernel
theorem dX6_putToBeds_40 : decode cX6_putToBeds 40 = .ok (.istore 4, 2) := by decide +kernel
theorem dX6_putToBeds_42 : decode cX6_putToBeds 42 = .ok (.iload 4, 2) := by decide +kernel
theorem dX6_putToBeds_44 : decode cX6_putToBeds 44 = .ok (.ifCond .lt 84, 3) := by decide +kernel
theorem dX6_putToBeds_47 : decode cX6_putToBeds 47 = .ok (.aload_n 0, 1) := by decide +kernel
theorem dX6_putToBeds_48 : decode cX6_putToBeds 48 = .ok (.getfield 24, 3) := by decide +kernel
theorem dX6_putToBeds_51 : decode cX6_putToBeds 51 = .ok (.iload_n 3, 1) := by decide +kernel
theorem dX6_putToBeds_52 : decode cX6_putToBeds 52 = .ok (.iconst 1, 1) := by decide +kernel
theorem dX6_putToBeds_53 : decode cX6_putToBeds 53 = .ok (.iadd, 1) := by decide +kernel
theorem dX6_putToBeds_54 : decode cX6_putToBeds 54 = .ok (.iload 4, 2) := by decide +kernel
theorem dX6_putToBeds_56 : decode cX6_putToBeds 56 = .ok (.invokestatic 104, 3) := by decide +kernel
theorem dX6_putToBeds_59 : decode cX6_putToBeds 59 = .ok (.iaload, 1) := by decide +kernel
theorem dX6_putToBeds_60 : decode cX6_putToBeds 60 = .ok (.istore 5, 2) := by decide +kernel
theorem dX6_putToBeds_62 : decode cX6_putToBeds 62 = .ok (.iload 4, 2) := by decide +kernel
theorem dX6_putToBeds_64 : decode cX6_putToBeds 64 = .ok (.bipush 24, 2) := by decide +kernel
theorem dX6_putToBeds_66 : decode cX6_putToBeds 66 = .ok (.if_icmp .ge 19, 3) := by decide +kernel
theorem dX6_putToBeds_69 : decode cX6_putToBeds 69 = .ok (.aload_n 0, 1) := by decide +kernel
theorem dX6_putToBeds_70 : decode cX6_putToBeds 70 = .ok (.getfield 24, 3) := by decide +kernel
theorem dX6_putToBeds_73 : decode cX6_putToBeds 73 = .ok (.iload_n 3, 1) := by decide +kernel
theorem dX6_putToBeds_74 : decode cX6_putToBeds 74 = .ok (.iload 4, 2) := by decide +kernel
theorem dX6_putToBeds_76 : decode cX6_putToBeds 76 = .ok (.iconst 1, 1) := by decide +kernel
theorem dX6_putToBeds_77 : decode cX6_putToBeds 77 = .ok (.iadd, 1) := by decide +kernel
theorem dX6_putToBeds_78 : decode cX6_putToBeds 78 = .ok (.invokestatic 104, 3) := by decide +kernel
theorem dX6_putToBeds_81 : decode cX6_putToBeds 81 = .ok (.iaload, 1) := by decide +kernel
theorem dX6_putToBeds_82 : decode cX6_putToBeds 82 = .ok (.goto 4, 3) := by decide +kernel
theorem dX6_putToBeds_85 : decode cX6_putToBeds 85 = .ok (.iconst 0, 1) := by decide +kernel
theorem dX6_putToBeds_86 : decode cX6_putToBeds 86 = .ok (.istore 6, 2) := by decide +kernel
theorem dX6_putToBeds_88 : decode cX6_putToBeds 88 = .ok (.aload_n 0, 1) := by decide +kernel
theorem dX6_putToBeds_89 : decode cX6_putToBeds 89 = .ok (.aload_n 1, 1) := by decide +kernel
theorem dX6_putToBeds_90 : decode cX6_putToBeds 90 = .ok (.iload_n 2, 1) := by decide +kernel
theorem dX6_putToBeds_91 : decode cX6_putToBeds 91 = .ok (.iload_n 3, 1) := by decide +kernel
theorem dX6_putToBeds_92 : decode cX6_putToBeds 92 = .ok (.iload 4, 2) := by decide +kernel
theorem dX6_putToBeds_94 : decode cX6_putToBeds 94 = .ok (.invokevirtual 107, 3) := by decide +kernel
theorem dX6_putToBeds_97 : decode cX6_putToBeds 97 = .ok (.istore 7, 2) := by decide +kernel
theorem dX6_putToBeds_99 : decode cX6_putToBeds 99 = .ok (.aload_n 0, 1) := by decide +kernel
theorem dX6_putToBeds_100 : decode cX6_putToBeds 100 = .ok (.getfield 24, 3) := by decide +kernel
theorem dX6_putToBeds_103 : decode cX6_putToBeds 103 = .ok (.iload_n 3, 1) := by decide +kernel
theorem dX6_putToBeds_104 : decode cX6_putToBeds 104 = .ok (.iload 4, 2) := by decide +kernel
theorem dX6_putToBeds_106 : decode cX6_putToBeds 106 = .ok (.invokestatic 104, 3) := by decide +kernel
theorem dX6_putToBeds_109 : decode cX6_putToBeds 109 = .ok (.iload 5, 2) := by decide +kernel
theorem dX6_putToBeds_111 : decode cX6_putToBeds 111 = .ok (.iload 6, 2) := by decide +kernel
theorem dX6_putToBeds_113 : decode cX6_putToBeds 113 = .ok (.iload 7, 2) := by decide +kernel
theorem dX6_putToBeds_115 : decode cX6_putToBeds 115 = .ok (.invokestatic 111, 3) := by decide +kernel
theorem dX6_putToBeds_118 : decode cX6_putToBeds 118 = .ok (.invokestatic 111, 3) := by decide +kernel
theorem dX6_putToBeds_121 : decode cX6_putToBeds 121 = .ok (.iastore, 1) := by decide +kernel
theorem dX6_putToBeds_122 : decode cX6_putToBeds 122 = .ok (.iinc 4 (-1), 3) := by decide +kernel
theorem dX6_putToBeds_125 : decode cX6_putToBeds 125 = .ok (.goto (-83), 3) := by decide +kernel
theorem dX6_putToBeds_128 : decode cX6_putToBeds 128 = .ok (.iinc 3 (-1), 3) := by decide +kernel
theorem dX6_putToBeds_131 : decode cX6_putToBeds 131 = .ok (.goto (-97), 3) := by decide +kernel
theorem dX6_putToBeds_134 : decode cX6_putToBeds 134 = .ok (.aload_n 0, 1) := by decide +kernel
theorem dX6_putToBeds_135 : decode cX6_putToBeds 135 = .ok (.aload_n 0, 1) := by decide +kernel
theorem dX6_putToBeds_136 : decode cX6_putToBeds 136 = .ok (.getfield 24, 3) := by decide +kernel
theorem dX6_putToBeds_139 : decode cX6_putToBeds 139 = .ok (.iconst 0, 1) := by decide +kernel
theorem dX6_putToBeds_140 : decode cX6_putToBeds 140 = .ok (.iaload, 1) := by decide +kernel
theorem dX6_putToBeds_141 : decode cX6_putToBeds 141 = .ok (.putfield 54, 3) := by decide +kernel
theorem dX6_putToBeds_144 : decode cX6_putToBeds 144 = .ok (.aload_n 0, 1) := by decide +kernel
theorem dX6_putToBeds_145 : decode cX6_putToBeds 145 = .ok (.aload_n 1, 1) := by decide +kernel
theorem dX6_putToBeds_146 : decode cX6_putToBeds 146 = .ok (.iload_n 2, 1) := by decide +kernel
theorem dX6_putToBeds_147 : decode cX6_putToBeds 147 = .ok (.invokevirtual 114, 3) := by decide +kernel
theorem dX6_putToBeds_150 : decode cX6_putToBeds 150 = .ok (.return_, 1) := by decide +kernel
theorem dX6_findBeds_0 : decode cX6_findBeds 0 = .ok (.iconst 0, 1) := by decide +kernel
theorem dX6_findBeds_1 : decode cX6_findBeds 1 = .ok (.istore_n 3, 1) := by decide +kernel
theorem dX6_findBeds_2 : decode cX6_findBeds 2 = .ok (.iconst 0, 1) := by decide +kernel
theorem dX6_findBeds_3 : decode cX6_findBeds 3 = .ok (.istore 4, 2) := by decide +kernel
theorem dX6_findBeds_5 : decode cX6_findBeds 5 = .ok (.iload 4, 2) := by decide +kernel
theorem dX6_findBeds_7 : decode cX6_findBeds 7 = .ok (.aload_n 1, 1) := by decide +kernel
theorem dX6_findBeds_8 : decode cX6_findBeds 8 = .ok (.getfield 41, 3) := by decide +kernel
theorem dX6_findBeds_11 : decode cX6_findBeds 11 = .ok (.if_icmp .ge 92, 3) := by decide +kernel
theorem dX6_findBeds_14 : decode cX6_findBeds 14 = .ok (.aload_n 0, 1) := by decide +kernel
theorem dX6_findBeds_15 : decode cX6_findBeds 15 = .ok (.getfield 24, 3) := by decide +kernel
theorem dX6_findBeds_18 : decode cX6_findBeds 18 = .ok (.iload 4, 2) := by decide +kernel
theorem dX6_findBeds_20 : decode cX6_findBeds 20 = .ok (.iload_n 3, 1) := by decide +kernel
theorem dX6_findBeds_21 : decode cX6_findBeds 21 = .ok (.invokestatic 104, 3) := by decide +kernel
theorem dX6_findBeds_24 : decode cX6_findBeds 24 = .ok (.iaload, 1) := by decide +kernel
theorem dX6_findBeds_25 : decode cX6_findBeds 25 = .ok (.istore 5, 2) := by decide +kernel
theorem dX6_findBeds_27 : decode cX6_findBeds 27 = .ok (.aload_n 0, 1) := by decide +kernel
theorem dX6_findBeds_28 : decode cX6_findBeds 28 = .ok (.getfield 9, 3) := by decide +kernel
theorem dX6_findBeds_31 : decode cX6_findBeds 31 = .ok (.iload 4, 2) := by decide +kernel
theorem dX6_findBeds_33 : decode cX6_findBeds 33 = .ok (.iconst (-1), 1) := by decide +kernel
theorem dX6_findBeds_34 : decode cX6_findBeds 34 = .ok (.iastore, 1) := by decide +kernel
theorem dX6_findBeds_35 : decode cX6_findBeds 35 = .ok (.iload_n 3, 1) := by decide +kernel
theorem dX6_findBeds_36 : decode cX6_findBeds 36 = .ok (.istore 6, 2) := by decide +kernel
theorem dX6_findBeds_38 : decode cX6_findBeds 38 = .ok (.iload 6, 2) := by decide +kernel
theorem dX6_findBeds_40 : decode cX6_findBeds 40 = .ok (.bipush 24, 2) := by decide +kernel
theorem dX6_findBeds_42 : decode cX6_findBeds 42 = .ok (.if_icmp .ge 55, 3) := by decide +kernel
theorem dX6_findBeds_45 : decode cX6_findBeds 45 = .ok (.aload_n 0, 1) := by decide +kernel
theorem dX6_findBeds_46 : decode cX6_findBeds 46 = .ok (.getfield 9, 3) := by decide +kernel
theorem dX6_findBeds_49 : decode cX6_findBeds 49 = .ok (.iload 4, 2) := by decide +kernel
theorem dX6_findBeds_51 : decode cX6_findBeds 51 = .ok (.iaload, 1) := by decide +kernel
theorem dX6_findBeds_52 : decode cX6_findBeds 52 = .ok (.iconst (-1), 1) := by decide +kernel
theorem dX6_findBeds_53 : decode cX6_findBeds 53 = .ok (.if_icmp .ne 44, 3) := by decide +kernel
theorem dX6_findBeds_56 : decode cX6_findBeds 56 = .ok (.aload_n 0, 1) := by decide +kernel
theorem dX6_findBeds_57 : decode cX6_findBeds 57 = .ok (.aload_n 1, 1) := by decide +kernel
theorem dX6_findBeds_58 : decode cX6_findBeds 58 = .ok (.iload_n 2, 1) := by decide +kernel
theorem dX6_findBeds_59 : decode cX6_findBeds 59 = .ok (.iload 4, 2) := by decide +kernel
theorem dX6_findBeds_61 : decode cX6_findBeds 61 = .ok (.iload 6, 2) := by decide +kernel
theorem dX6_findBeds_63 : decode cX6_findBeds 63 = .ok (.invokevirtual 107, 3) := by decide +kernel
theorem dX6_findBeds_66 : decode cX6_findBeds 66 = .ok (.iload 5, 2) := by decide +kernel
theorem dX6_findBeds_68 : decode cX6_findBeds 68 = .ok (.if_icmp .ne 23, 3) := by decide +kernel
theorem dX6_findBeds_71 : decode cX6_findBeds 71 = .ok (.aload_n 0, 1) := by decide +kernel
theorem dX6_findBeds_72 : decode cX6_findBeds 72 = .ok (.getfield 9, 3) := by decide +kernel
theorem dX6_findBeds_75 : decode cX6_findBeds 75 = .ok (.iload 4, 2) := by decide +kernel
theorem dX6_findBeds_77 : decode cX6_findBeds 77 = .ok (.iload 6, 2) := by decide +kernel
theorem dX6_findBeds_79 : decode cX6_findBeds 79 = .ok (.iastore, 1) := by decide +kernel
theorem dX6_findBeds_80 : decode cX6_findBeds 80 = .ok (.iload 6, 2) := by decide +kernel
theorem dX6_findBeds_82 : decode cX6_findBeds 82 = .ok (.aload_n 1, 1) := by decide +kernel
theorem dX6_findBeds_83 : decode cX6_findBeds 83 = .ok (.getfield 76, 3) := by decide +kernel
theorem dX6_findBeds_86 : decode cX6_findBeds 86 = .ok (.iload 4, 2) := by decide +kernel
theorem dX6_findBeds_88 : decode cX6_findBeds 88 = .ok (.iaload, 1) := by decide +kernel
theorem dX6_findBeds_89 : decode cX6_findBeds 89 = .ok (.iadd, 1) := by decide +kernel
theorem dX6_findBeds_90 : decode cX6_findBeds 90 = .ok (.istore_n 3, 1) := by decide +kernel
theorem dX6_findBeds_91 : decode cX6_findBeds 91 = .ok (.iinc 6 1, 3) := by decide +kernel
theorem dX6_findBeds_94 : decode cX6_findBeds 94 = .ok (.goto (-56), 3) := by decide +kernel
theorem dX6_findBeds_97 : decode cX6_findBeds 97 = .ok (.iinc 4 1, 3) := by decide +kernel
theorem dX6_findBeds_100 : decode cX6_findBeds 100 = .ok (.goto (-95), 3) := by decide +kernel
theorem dX6_findBeds_103 : decode cX6_findBeds 103 = .ok (.return_, 1) := by decide +kernel
theorem dX6_bed_0 : decode cX6_bed 0 = .ok (.iload_n 0, 1) := by decide +kernel
theorem dX6_bed_1 : decode cX6_bed 1 = .ok (.bipush 25, 2) := by decide +kernel
theorem dX6_bed_3 : decode cX6_bed 3 = .ok (.imul, 1) := by decide +kernel
theorem dX6_bed_4 : decode cX6_bed 4 = .ok (.iload_n 1, 1) := by decide +kernel
theorem dX6_bed_5 : decode cX6_bed 5 = .ok (.iadd, 1) := by decide +kernel
theorem dX6_bed_6 : decode cX6_bed 6 = .ok (.ireturn, 1) := by decide +kernel
theorem dX6_beddedAt_0 : decode cX6_beddedAt 0 = .ok (.aload_n 1, 1) := by decide +kernel
theorem dX6_beddedAt_1 : decode cX6_beddedAt 1 = .ok (.getfield 76, 3) := by decide +kernel
theorem dX6_beddedAt_4 : decode cX6_beddedAt 4 = .ok (.iload_n 3, 1) := by decide +kernel
theorem dX6_beddedAt_5 : decode cX6_beddedAt 5 = .ok (.iaload, 1) := by decide +kernel
theorem dX6_beddedAt_6 : decode cX6_beddedAt 6 = .ok (.istore 5, 2) := by decide +kernel
theorem dX6_beddedAt_8 : decode cX6_beddedAt 8 = .ok (.aload_n 1, 1) := by decide +kernel
theorem dX6_beddedAt_9 : decode cX6_beddedAt 9 = .ok (.getfield 45, 3) := by decide +kernel
theorem dX6_beddedAt_12 : decode cX6_beddedAt 12 = .ok (.iload_n 3, 1) := by decide +kernel
theorem dX6_beddedAt_13 : decode cX6_beddedAt 13 = .ok (.iaload, 1) := by decide +kernel
theorem dX6_beddedAt_14 : decode cX6_beddedAt 14 = .ok (.ifCond .ne 14, 3) := by decide +kernel
theorem dX6_beddedAt_17 : decode cX6_beddedAt 17 = .ok (.iload_n 2, 1) := by decide +kernel
theorem dX6_beddedAt_18 : decode cX6_beddedAt 18 = .ok (.iload 4, 2) := by decide +kernel
theorem dX6_beddedAt_20 : decode cX6_beddedAt 20 = .ok (.iload 5, 2) := by decide +kernel
theorem dX6_beddedAt_22 : decode cX6_beddedAt 22 = .ok (.invokestatic 118, 3) := by decide +kernel
theorem dX6_beddedAt_25 : decode cX6_beddedAt 25 = .ok (.ifCond .ne 5, 3) := by decide +kernel
theorem dX6_beddedAt_28 : decode cX6_beddedAt 28 = .ok (.iconst (-1), 1) := by decide +kernel
theorem dX6_beddedAt_29 : decode cX6_beddedAt 29 = .ok (.ireturn, 1) := by decide +kernel
theorem dX6_beddedAt_30 : decode cX6_beddedAt 30 = .ok (.iload 5, 2) := by decide +kernel
theorem dX6_beddedAt_32 : decode cX6_beddedAt 32 = .ok (.aload_n 0, 1) := by decide +kernel
theorem dX6_beddedAt_33 : decode cX6_beddedAt 33 = .ok (.getfield 24, 3) := by decide +kernel
theorem dX6_beddedAt_36 : decode cX6_beddedAt 36 = .ok (.iload_n 3, 1) := by decide +kernel
theorem dX6_beddedAt_37 : decode cX6_beddedAt 37 = .ok (.iconst 1, 1) := by decide +kernel
theorem dX6_beddedAt_38 : decode cX6_beddedAt 38 = .ok (.iadd, 1) := by decide +kernel
theorem dX6_beddedAt_39 : decode cX6_beddedAt 39 = .ok (.iload 4, 2) := by decide +kernel
theorem dX6_beddedAt_41 : decode cX6_beddedAt 41 = .ok (.iload 5, 2) := by decide +kernel
theorem dX6_beddedAt_43 : decode cX6_beddedAt 43 = .ok (.iadd, 1) := by decide +kernel
theorem dX6_beddedAt_44 : decode cX6_beddedAt 44 = .ok (.invokestatic 104, 3) := by decide +kernel
theorem dX6_beddedAt_47 : decode cX6_beddedAt 47 = .ok (.iaload, 1) := by decide +kernel
theorem dX6_beddedAt_48 : decode cX6_beddedAt 48 = .ok (.iadd, 1) := by decide +kernel
theorem dX6_beddedAt_49 : decode cX6_beddedAt 49 = .ok (.ireturn, 1) := by decide +kernel
theorem dX6_pairShips_0 : decode cX6_pairShips 0 = .ok (.iconst 0, 1) := by decide +kernel
theorem dX6_pairShips_1 : decode cX6_pairShips 1 = .ok (.istore_n 2, 1) := by decide +kernel
theorem dX6_pairShips_2 : decode cX6_pairShips 2 = .ok (.iconst 0, 1) := by decide +kernel
theorem dX6_pairShips_3 : decode cX6_pairShips 3 = .ok (.istore_n 3, 1) := by decide +kernel
theorem dX6_pairShips_4 : decode cX6_pairShips 4 = .ok (.iload_n 3, 1) := by decide +kernel
theorem dX6_pairShips_5 : decode cX6_pairShips 5 = .ok (.aload_n 1, 1) := by decide +kernel
theorem dX6_pairShips_6 : decode cX6_pairShips 6 = .ok (.getfield 41, 3) := by decide +kernel
theorem dX6_pairShips_9 : decode cX6_pairShips 9 = .ok (.if_icmp .ge 36, 3) := by decide +kernel
theorem dX6_pairShips_12 : decode cX6_pairShips 12 = .ok (.iload_n 2, 1) := by decide +kernel
theorem dX6_pairShips_13 : decode cX6_pairShips 13 = .ok (.aload_n 1, 1) := by decide +kernel
theorem dX6_pairShips_14 : decode cX6_pairShips 14 = .ok (.getfield 45, 3) := by decide +kernel
theorem dX6_pairShips_17 : decode cX6_pairShips 17 = .ok (.iload_n 3, 1) := by decide +kernel
theorem dX6_pairShips_18 : decode cX6_pairShips 18 = .ok (.iaload, 1) := by decide +kernel
theorem dX6_pairShips_19 : decode cX6_pairShips 19 = .ok (.iconst 2, 1) := by decide +kernel
theorem dX6_pairShips_20 : decode cX6_pairShips 20 = .ok (.if_icmp .eq 9, 3) := by decide +kernel
theorem dX6_pairShips_23 : decode cX6_pairShips 23 = .ok (.iconst 1, 1) := by decide +kernel
theorem dX6_pairShips_24 : decode cX6_pairShips 24 = .ok (.iload_n 3, 1) := by decide +kernel
theorem dX6_pairShips_25 : decode cX6_pairShips 25 = .ok (.ishl, 1) := by decide +kernel
theorem dX6_pairShips_26 : decode cX6_pairShips 26 = .ok (.goto 4, 3) := by decide +kernel
theorem dX6_pairShips_29 : decode cX6_pairShips 29 = .ok (.iconst 0, 1) := by decide +kernel
theorem dX6_pairShips_30 : decode cX6_pairShips 30 = .ok (.ior, 1) := by decide +kernel
theorem dX6_pairShips_31 : decode cX6_pairShips 31 = .ok (.istore_n 2, 1) := by decide +kernel
theorem dX6_pairShips_32 : decode cX6_pairShips 32 = .ok (.aload_n 0, 1) := by decide +kernel
theorem dX6_pairShips_33 : decode cX6_pairShips 33 = .ok (.getfield 9, 3) := by decide +kernel
theorem dX6_pairShips_36 : decode cX6_pairShips 36 = .ok (.iload_n 3, 1) := by decide +kernel
theorem dX6_pairShips_37 : decode cX6_pairShips 37 = .ok (.iconst (-1), 1) := by decide +kernel
theorem dX6_pairShips_38 : decode cX6_pairShips 38 = .ok (.iastore, 1) := by decide +kernel
theorem dX6_pairShips_39 : decode cX6_pairShips 39 = .ok (.iinc 3 1, 3) := by decide +kernel
theorem dX6_pairShips_42 : decode cX6_pairShips 42 = .ok (.goto (-38), 3) := by decide +kernel
theorem dX6_pairShips_45 : decode cX6_pairShips 45 = .ok (.aload_n 0, 1) := by decide +kernel
theorem dX6_pairShips_46 : decode cX6_pairShips 46 = .ok (.getfield 21, 3) := by decide +kernel
theorem dX6_pairShips_49 : decode cX6_pairShips 49 = .ok (.iconst 0, 1) := by decide +kernel
theorem dX6_pairShips_50 : decode cX6_pairShips 50 = .ok (.iconst 0, 1) := by decide +kernel
theorem dX6_pairShips_51 : decode cX6_pairShips 51 = .ok (.iastore, 1) := by decide +kernel
theorem dX6_pairShips_52 : decode cX6_pairShips 52 = .ok (.iconst 1, 1) := by decide +kernel
theorem dX6_pairShips_53 : decode cX6_pairShips 53 = .ok (.istore_n 3, 1) := by decide +kernel
theorem dX6_pairShips_54 : decode cX6_pairShips 54 = .ok (.iload_n 3, 1) := by decide +kernel
theorem dX6_pairShips_55 : decode cX6_pairShips 55 = .ok (.iload_n 2, 1) := by decide +kernel
theorem dX6_pairShips_56 : decode cX6_pairShips 56 = .ok (.if_icmp .gt 29, 3) := by decide +kernel
theorem dX6_pairShips_59 : decode cX6_pairShips 59 = .ok (.iload_n 3, 1) := by decide +kernel
theorem dX6_pairShips_60 : decode cX6_pairShips 60 = .ok (.iload_n 2, 1) := by decide +kernel
theorem dX6_pairShips_61 : decode cX6_pairShips 61 = .ok (.iconst (-1), 1) := by decide +kernel
theorem dX6_pairShips_62 : decode cX6_pairShips 62 = .ok (.ixor, 1) := by decide +kernel
theorem dX6_pairShips_63 : decode cX6_pairShips 63 = .ok (.iand, 1) := by decide +kernel
theorem dX6_pairShips_64 : decode cX6_pairShips 64 = .ok (.ifCond .ne 15, 3) := by decide +kernel
theorem dX6_pairShips_67 : decode cX6_pairShips 67 = .ok (.aload_n 0, 1) := by decide +kernel
theorem dX6_pairShips_68 : decode cX6_pairShips 68 = .ok (.getfield 21, 3) := by decide +kernel
theorem dX6_pairShips_71 : decode cX6_pairShips 71 = .ok (.iload_n 3, 1) := by decide +kernel
theorem dX6_pairShips_72 : decode cX6_pairShips 72 = .ok (.aload_n 0, 1) := by decide +kernel
theorem dX6_pairShips_73 : decode cX6_pairShips 73 = .ok (.iload_n 3, 1) := by decide +kernel
theorem dX6_pairShips_74 : decode cX6_pairShips 74 = .ok (.aload_n 1, 1) := by decide +kernel
theorem dX6_pairShips_75 : decode cX6_pairShips 75 = .ok (.invokevirtual 122, 3) := by decide +kernel
theorem dX6_pairShips_78 : decode cX6_pairShips 78 = .ok (.iastore, 1) := by decide +kernel
theorem dX6_pairShips_79 : decode cX6_pairShips 79 = .ok (.iinc 3 1, 3) := by decide +kernel
theorem dX6_pairShips_82 : decode cX6_pairShips 82 = .ok (.goto (-28), 3) := by decide +kernel
theorem dX6_pairShips_85 : decode cX6_pairShips 85 = .ok (.aload_n 0, 1) := by decide +kernel
theorem dX6_pairShips_86 : decode cX6_pairShips 86 = .ok (.aload_n 0, 1) := by decide +kernel
theorem dX6_pairShips_87 : decode cX6_pairShips 87 = .ok (.getfield 21, 3) := by decide +kernel
theorem dX6_pairShips_90 : decode cX6_pairShips 90 = .ok (.iload_n 2, 1) := by decide +kernel
theorem dX6_pairShips_91 : decode cX6_pairShips 91 = .ok (.iaload, 1) := by decide +kernel
theorem dX6_pairShips_92 : decode cX6_pairShips 92 = .ok (.putfield 54, 3) := by decide +kernel
theorem dX6_pairShips_95 : decode cX6_pairShips 95 = .ok (.aload_n 0, 1) := by decide +kernel
theorem dX6_pairShips_96 : decode cX6_pairShips 96 = .ok (.iload_n 2, 1) := by decide +kernel
theorem dX6_pairShips_97 : decode cX6_pairShips 97 = .ok (.aload_n 1, 1) := by decide +kernel
theorem dX6_pairShips_98 : decode cX6_pairShips 98 = .ok (.invokevirtual 125, 3) := by decide +kernel
theorem dX6_pairShips_101 : decode cX6_pairShips 101 = .ok (.return_, 1) := by decide +kernel
theorem dX6_pairedWork_0 : decode cX6_pairedWork 0 = .ok (.iload_n 1, 1) := by decide +kernel
theorem dX6_pairedWork_1 : decode cX6_pairedWork 1 = .ok (.invokestatic 129, 3) := by decide +kernel
theorem dX6_pairedWork_4 : decode cX6_pairedWork 4 = .ok (.istore_n 3, 1) := by decide +kernel
theorem dX6_pairedWork_5 : decode cX6_pairedWork 5 = .ok (.iload_n 1, 1) := by decide +kernel
theorem dX6_pairedWork_6 : decode cX6_pairedWork 6 = .ok (.iload_n 1, 1) := by decide +kernel
theorem dX6_pairedWork_7 : decode cX6_pairedWork 7 = .ok (.iconst 1, 1) := by decide +kernel
theorem dX6_pairedWork_8 : decode cX6_pairedWork 8 = .ok (.isub, 1) := by decide +kernel
theorem dX6_pairedWork_9 : decode cX6_pairedWork 9 = .ok (.iand, 1) := by decide +kernel
theorem dX6_pairedWork_10 : decode cX6_pairedWork 10 = .ok (.istore 4, 2) := by decide +kernel
theorem dX6_pairedWork_12 : decode cX6_pairedWork 12 = .ok (.aload_n 0, 1) := by decide +kernel
theorem dX6_pairedWork_13 : decode cX6_pairedWork 13 = .ok (.getfield 21, 3) := by decide +kernel
theorem dX6_pairedWork_16 : decode cX6_pairedWork 16 = .ok (.iload 4, 2) := by decide +kernel
theorem dX6_pairedWork_18 : decode cX6_pairedWork 18 = .ok (.iaload, 1) := by decide +kernel
theorem dX6_pairedWork_19 : decode cX6_pairedWork 19 = .ok (.istore 5, 2) := by decide +kernel
theorem dX6_pairedWork_21 : decode cX6_pairedWork 21 = .ok (.iload_n 3, 1) := by decide +kernel
theorem dX6_pairedWork_22 : decode cX6_pairedWork 22 = .ok (.iconst 1, 1) := by decide +kernel
theorem dX6_pairedWork_23 : decode cX6_pairedWork 23 = .ok (.iadd, 1) := by decide +kernel
theorem dX6_pairedWork_24 : decode cX6_pairedWork 24 = .ok (.istore 6, 2) := by decide +kernel
theorem dX6_pairedWork_26 : decode cX6_pairedWork 26 = .ok (.iload 6, 2) := by decide +kernel
theorem dX6_pairedWork_28 : decode cX6_pairedWork 28 = .ok (.bipush 8, 2) := by decide +kernel
theorem dX6_pairedWork_30 : decode cX6_pairedWork 30 = .ok (.if_icmp .ge 26, 3) := by decide +kernel
theorem dX6_pairedWork_33 : decode cX6_pairedWork 33 = .ok (.iload 5, 2) := by decide +kernel
theorem dX6_pairedWork_35 : decode cX6_pairedWork 35 = .ok (.aload_n 0, 1) := by decide +kernel
theorem dX6_pairedWork_36 : decode cX6_pairedWork 36 = .ok (.iload_n 3, 1) := by decide +kernel
theorem dX6_pairedWork_37 : decode cX6_pairedWork 37 = .ok (.iload 6, 2) := by decide +kernel
theorem dX6_pairedWork_39 : decode cX6_pairedWork 39 = .ok (.iload 4, 2) := by decide +kernel
theorem dX6_pairedWork_41 : decode cX6_pairedWork 41 = .ok (.aload_n 2, 1) := by decide +kernel
theorem dX6_pairedWork_42 : decode cX6_pairedWork 42 = .ok (.invokevirtual 134, 3) := by decide +kernel
theorem dX6_pairedWork_45 : decode cX6_pairedWork 45 = .ok (.invokestatic 111, 3) := by decide +kernel
theorem dX6_pairedWork_48 : decode cX6_pairedWork 48 = .ok (.istore 5, 2) := by decide +kernel
theorem dX6_pairedWork_50 : decode cX6_pairedWork 50 = .ok (.iinc 6 1, 3) := by decide +kernel
theorem dX6_pairedWork_53 : decode cX6_pairedWork 53 = .ok (.goto (-27), 3) := by decide +kernel
theorem dX6_pairedWork_56 : decode cX6_pairedWork 56 = .ok (.iload 5, 2) := by decide +kernel
theorem dX6_pairedWork_58 : decode cX6_pairedWork 58 = .ok (.ireturn, 1) := by decide +kernel
theorem dX6_pairedWith_0 : decode cX6_pairedWith 0 = .ok (.iload_n 3, 1) := by decide +kernel
theorem dX6_pairedWith_1 : decode cX6_pairedWith 1 = .ok (.iload_n 2, 1) := by decide +kernel
theorem dX6_pairedWith_2 : decode cX6_pairedWith 2 = .ok (.ishr, 1) := by decide +kernel
theorem dX6_pairedWith_3 : decode cX6_pairedWith 3 = .ok (.iconst 1, 1) := by decide +kernel
theorem dX6_pairedWith_4 : decode cX6_pairedWith 4 = .ok (.iand, 1) := by decide +kernel
theorem dX6_pairedWith_5 : decode cX6_pairedWith 5 = .ok (.ifCond .eq 23, 3) := by decide +kernel
theorem dX6_pairedWith_8 : decode cX6_pairedWith 8 = .ok (.aload 4, 2) := by decide +kernel
theorem dX6_pairedWith_10 : decode cX6_pairedWith 10 = .ok (.getfield 76, 3) := by decide +kernel
theorem dX6_pairedWith_13 : decode cX6_pairedWith 13 = .ok (.iload_n 1, 1) := by decide +kernel
theorem dX6_pairedWith_14 : decode cX6_pairedWith 14 = .ok (.iaload, 1) := by decide +kernel
theorem dX6_pairedWith_15 : decode cX6_pairedWith 15 = .ok (.aload 4, 2) := by decide +kernel
theorem dX6_pairedWith_17 : decode cX6_pairedWith 17 = .ok (.getfield 76, 3) := by decide +kernel
theorem dX6_pairedWith_20 : decode cX6_pairedWith 20 = .ok (.iload_n 2, 1) := by decide +kernel
theorem dX6_pairedWith_21 : decode cX6_pairedWith 21 = .ok (.iaload, 1) := by decide +kernel
theorem dX6_pairedWith_22 : decode cX6_pairedWith 22 = .ok (.iadd, 1) := by decide +kernel
theorem dX6_pairedWith_23 : decode cX6_pairedWith 23 = .ok (.bipush 12, 2) := by decide +kernel
theorem dX6_pairedWith_25 : decode cX6_pairedWith 25 = .ok (.if_icmp .le 5, 3) := by decide +kernel
theorem dX6_pairedWith_28 : decode cX6_pairedWith 28 = .ok (.iconst (-1), 1) := by decide +kernel
theorem dX6_pairedWith_29 : decode cX6_pairedWith 29 = .ok (.ireturn, 1) := by decide +kernel
theorem dX6_pairedWith_30 : decode cX6_pairedWith 30 = .ok (.aload 4, 2) := by decide +kernel
theorem dX6_pairedWith_32 : decode cX6_pairedWith 32 = .ok (.getfield 98, 3) := by decide +kernel
theorem dX6_pairedWith_35 : decode cX6_pairedWith 35 = .ok (.iload_n 1, 1) := by decide +kernel
theorem dX6_pairedWith_36 : decode cX6_pairedWith 36 = .ok (.iaload, 1) := by decide +kernel
theorem dX6_pairedWith_37 : decode cX6_pairedWith 37 = .ok (.aload 4, 2) := by decide +kernel
theorem dX6_pairedWith_39 : decode cX6_pairedWith 39 = .ok (.getfield 98, 3) := by decide +kernel
theorem dX6_pairedWith_42 : decode cX6_pairedWith 42 = .ok (.iload_n 2, 1) := by decide +kernel
theorem dX6_pairedWith_43 : decode cX6_pairedWith 43 = .ok (.iaload, 1) := by decide +kernel
theorem dX6_pairedWith_44 : decode cX6_pairedWith 44 = .ok (.iadd, 1) := by decide +kernel
theorem dX6_pairedWith_45 : decode cX6_pairedWith 45 = .ok (.aload_n 0, 1) := by decide +kernel
theorem dX6_pairedWith_46 : decode cX6_pairedWith 46 = .ok (.getfield 21, 3) := by decide +kernel
theorem dX6_pairedWith_49 : decode cX6_pairedWith 49 = .ok (.iload_n 3, 1) := by decide +kernel
theorem dX6_pairedWith_50 : decode cX6_pairedWith 50 = .ok (.iconst 1, 1) := by decide +kernel
theorem dX6_pairedWith_51 : decode cX6_pairedWith 51 = .ok (.iload_n 2, 1) := by decide +kernel
theorem dX6_pairedWith_52 : decode cX6_pairedWith 52 = .ok (.ishl, 1) := by decide +kernel
theorem dX6_pairedWith_53 : decode cX6_pairedWith 53 = .ok (.ixor, 1) := by decide +kernel
theorem dX6_pairedWith_54 : decode cX6_pairedWith 54 = .ok (.iaload, 1) := by decide +kernel
theorem dX6_pairedWith_55 : decode cX6_pairedWith 55 = .ok (.iadd, 1) := by decide +kernel
theorem dX6_pairedWith_56 : decode cX6_pairedWith 56 = .ok (.ireturn, 1) := by decide +kernel
theorem dX6_findMates_0 : decode cX6_findMates 0 = .ok (.iload_n 1, 1) := by decide +kernel
theorem dX6_findMates_1 : decode cX6_findMates 1 = .ok (.istore_n 3, 1) := by decide +kernel
theorem dX6_findMates_2 : decode cX6_findMates 2 = .ok (.iconst 0, 1) := by decide +kernel
theorem dX6_findMates_3 : decode cX6_findMates 3 = .ok (.istore 4, 2) := by decide +kernel
theorem dX6_findMates_5 : decode cX6_findMates 5 = .ok (.iload 4, 2) := by decide +kernel
theorem dX6_findMates_7 : decode cX6_findMates 7 = .ok (.aload_n 2, 1) := by decide +kernel
theorem dX6_findMates_8 : decode cX6_findMates 8 = .ok (.getfield 41, 3) := by decide +kernel
theorem dX6_findMates_11 : decode cX6_findMates 11 = .ok (.if_icmp .ge 60, 3) := by decide +kernel
theorem dX6_findMates_14 : decode cX6_findMates 14 = .ok (.iload_n 3, 1) := by decide +kernel
theorem dX6_findMates_15 : decode cX6_findMates 15 = .ok (.iload 4, 2) := by decide +kernel
theorem dX6_findMates_17 : decode cX6_findMates 17 = .ok (.ishr, 1) := by decide +kernel
theorem dX6_findMates_18 : decode cX6_findMates 18 = .ok (.iconst 1, 1) := by decide +kernel
theorem dX6_findMates_19 : decode cX6_findMates 19 = .ok (.iand, 1) := by decide +kernel
theorem dX6_findMates_20 : decode cX6_findMates 20 = .ok (.iconst 1, 1) := by decide +kernel
theorem dX6_findMates_21 : decode cX6_findMates 21 = .ok (.if_icmp .ne 44, 3) := by decide +kernel
theorem dX6_findMates_24 : decode cX6_findMates 24 = .ok (.aload_n 0, 1) := by decide +kernel
theorem dX6_findMates_25 : decode cX6_findMates 25 = .ok (.getfield 21, 3) := by decide +kernel
theorem dX6_findMates_28 : decode cX6_findMates 28 = .ok (.iload_n 3, 1) := by decide +kernel
theorem dX6_findMates_29 : decode cX6_findMates 29 = .ok (.iaload, 1) := by decide +kernel
theorem dX6_findMates_30 : decode cX6_findMates 30 = .ok (.istore 5, 2) := by decide +kernel
theorem dX6_findMates_32 : decode cX6_findMates 32 = .ok (.iload_n 3, 1) := by decide +kernel
theorem dX6_findMates_33 : decode cX6_findMates 33 = .ok (.iconst 1, 1) := by decide +kernel
theorem dX6_findMates_34 : decode cX6_findMates 34 = .ok (.iload 4, 2) := by decide +kernel
theorem dX6_findMates_36 : decode cX6_findMates 36 = .ok (.ishl, 1) := by decide +kernel
theorem dX6_findMates_37 : decode cX6_findMates 37 = .ok (.ixor, 1) := by decide +kernel
theorem dX6_findMates_38 : decode cX6_findMates 38 = .ok (.istore_n 3, 1) := by decide +kernel
theorem dX6_findMates_39 : decode cX6_findMates 39 = .ok (.aload_n 0, 1) := by decide +kernel
theorem dX6_findMates_40 : decode cX6_findMates 40 = .ok (.getfield 21, 3) := by decide +kernel
theorem dX6_findMates_43 : decode cX6_findMates 43 = .ok (.iload_n 3, 1) := by decide +kernel
theorem dX6_findMates_44 : decode cX6_findMates 44 = .ok (.iaload, 1) := by decide +kernel
theorem dX6_findMates_45 : decode cX6_findMates 45 = .ok (.iload 5, 2) := by decide +kernel
theorem dX6_findMates_47 : decode cX6_findMates 47 = .ok (.if_icmp .eq 18, 3) := by decide +kernel
theorem dX6_findMates_50 : decode cX6_findMates 50 = .ok (.iload_n 3, 1) := by decide +kernel
theorem dX6_findMates_51 : decode cX6_findMates 51 = .ok (.iconst 1, 1) := by decide +kernel
theorem dX6_findMates_52 : decode cX6_findMates 52 = .ok (.aload_n 0, 1) := by decide +kernel
theorem dX6_findMates_53 : decode cX6_findMates 53 = .ok (.iload 4, 2) := by decide +kernel
theorem dX6_findMates_55 : decode cX6_findMates 55 = .ok (.iload_n 3, 1) := by decide +kernel
theorem dX6_findMates_56 : decode cX6_findMates 56 = .ok (.iload 5, 2) := by decide +kernel
theorem dX6_findMates_58 : decode cX6_findMates 58 = .ok (.aload_n 2, 1) := by decide +kernel
theorem dX6_findMates_59 : decode cX6_findMates 59 = .ok (.invokevirtual 138, 3) := by decide +kernel
theorem dX6_findMates_62 : decode cX6_findMates 62 = .ok (.ishl, 1) := by decide +kernel
theorem dX6_findMates_63 : decode cX6_findMates 63 = .ok (.ixor, 1) := by decide +kernel
theorem dX6_findMates_64 : decode cX6_findMates 64 = .ok (.istore_n 3, 1) := by decide +kernel
theorem dX6_findMates_65 : decode cX6_findMates 65 = .ok (.iinc 4 1, 3) := by decide +kernel
theorem dX6_findMates_68 : decode cX6_findMates 68 = .ok (.goto (-63), 3) := by decide +kernel
theorem dX6_findMates_71 : decode cX6_findMates 71 = .ok (.return_, 1) := by decide +kernel
theorem dX6_findMate_0 : decode cX6_findMate 0 = .ok (.iload_n 1, 1) := by decide +kernel
theorem dX6_findMate_1 : decode cX6_findMate 1 = .ok (.iconst 1, 1) := by decide +kernel
theorem dX6_findMate_2 : decode cX6_findMate 2 = .ok (.iadd, 1) := by decide +kernel
theorem dX6_findMate_3 : decode cX6_findMate 3 = .ok (.istore 5, 2) := by decide +kernel
theorem dX6_findMate_5 : decode cX6_findMate 5 = .ok (.iload 5, 2) := by decide +kernel
theorem dX6_findMate_7 : decode cX6_findMate 7 = .ok (.aload 4, 2) := by decide +kernel
theorem dX6_findMate_9 : decode cX6_findMate 9 = .ok (.getfield 41, 3) := by decide +kernel
theorem dX6_findMate_12 : decode cX6_findMate 12 = .ok (.if_icmp .ge 42, 3) := by decide +kernel
theorem dX6_findMate_15 : decode cX6_findMate 15 = .ok (.aload_n 0, 1) := by decide +kernel
theorem dX6_findMate_16 : decode cX6_findMate 16 = .ok (.iload_n 1, 1) := by decide +kernel
theorem dX6_findMate_17 : decode cX6_findMate 17 = .ok (.iload 5, 2) := by decide +kernel
theorem dX6_findMate_19 : decode cX6_findMate 19 = .ok (.iload_n 2, 1) := by decide +kernel
theorem dX6_findMate_20 : decode cX6_findMate 20 = .ok (.aload 4, 2) := by decide +kernel
theorem dX6_findMate_22 : decode cX6_findMate 22 = .ok (.invokevirtual 134, 3) := by decide +kernel
theorem dX6_findMate_25 : decode cX6_findMate 25 = .ok (.iload_n 3, 1) := by decide +kernel
theorem dX6_findMate_26 : decode cX6_findMate 26 = .ok (.if_icmp .ne 22, 3) := by decide +kernel
theorem dX6_findMate_29 : decode cX6_findMate 29 = .ok (.aload_n 0, 1) := by decide +kernel
theorem dX6_findMate_30 : decode cX6_findMate 30 = .ok (.getfield 9, 3) := by decide +kernel
theorem dX6_findMate_33 : decode cX6_findMate 33 = .ok (.iload_n 1, 1) := by decide +kernel
theorem dX6_findMate_34 : decode cX6_findMate 34 = .ok (.iload 5, 2) := by decide +kernel
theorem dX6_findMate_36 : decode cX6_findMate 36 = .ok (.iastore, 1) := by decide +kernel
theorem dX6_findMate_37 : decode cX6_findMate 37 = .ok (.aload_n 0, 1) := by decide +kernel
theorem dX6_findMate_38 : decode cX6_findMate 38 = .ok (.getfield 9, 3) := by decide +kernel
theorem dX6_findMate_41 : decode cX6_findMate 41 = .ok (.iload 5, 2) := by decide +kernel
theorem dX6_findMate_43 : decode cX6_findMate 43 = .ok (.iload_n 1, 1) := by decide +kernel
theorem dX6_findMate_44 : decode cX6_findMate 44 = .ok (.iastore, 1) := by decide +kernel
theorem dX6_findMate_45 : decode cX6_findMate 45 = .ok (.iload 5, 2) := by decide +kernel
theorem dX6_findMate_47 : decode cX6_findMate 47 = .ok (.ireturn, 1) := by decide +kernel
theorem dX6_findMate_48 : decode cX6_findMate 48 = .ok (.iinc 5 1, 3) := by decide +kernel
theorem dX6_findMate_51 : decode cX6_findMate 51 = .ok (.goto (-46), 3) := by decide +kernel
theorem dX6_findMate_54 : decode cX6_findMate 54 = .ok (.iload_n 1, 1) := by decide +kernel
theorem dX6_findMate_55 : decode cX6_findMate 55 = .ok (.ireturn, 1) := by decide +kernel
theorem dX6_knockValue_0 : decode cX6_knockValue 0 = .ok (.iconst 0, 1) := by decide +kernel
theorem dX6_knockValue_1 : decode cX6_knockValue 1 = .ok (.istore_n 1, 1) := by decide +kernel
theorem dX6_knockValue_2 : decode cX6_knockValue 2 = .ok (.iconst 0, 1) := by decide +kernel
theorem dX6_knockValue_3 : decode cX6_knockValue 3 = .ok (.istore_n 2, 1) := by decide +kernel
theorem dX6_knockValue_4 : decode cX6_knockValue 4 = .ok (.iconst 0, 1) := by decide +kernel
theorem dX6_knockValue_5 : decode cX6_knockValue 5 = .ok (.istore_n 3, 1) := by decide +kernel
theorem dX6_knockValue_6 : decode cX6_knockValue 6 = .ok (.iload_n 3, 1) := by decide +kernel
theorem dX6_knockValue_7 : decode cX6_knockValue 7 = .ok (.bipush 24, 2) := by decide +kernel
theorem dX6_knockValue_9 : decode cX6_knockValue 9 = .ok (.if_icmp .gt 40, 3) := by decide +kernel
theorem dX6_knockValue_12 : decode cX6_knockValue 12 = .ok (.iload_n 3, 1) := by decide +kernel
theorem dX6_knockValue_13 : decode cX6_knockValue 13 = .ok (.bipush 24, 2) := by decide +kernel
theorem dX6_knockValue_15 : decode cX6_knockValue 15 = .ok (.if_icmp .ge 18, 3) := by decide +kernel
theorem dX6_knockValue_18 : decode cX6_knockValue 18 = .ok (.iload_n 0, 1) := by decide +kernel
theorem dX6_knockValue_19 : decode cX6_knockValue 19 = .ok (.iload_n 3, 1) := by decide +kernel
theorem dX6_knockValue_20 : decode cX6_knockValue 20 = .ok (.ishr, 1) := by decide +kernel
theorem dX6_knockValue_21 : decode cX6_knockValue 21 = .ok (.iconst 1, 1) := by decide +kernel
theorem dX6_knockValue_22 : decode cX6_knockValue 22 = .ok (.iand, 1) := by decide +kernel
theorem dX6_knockValue_23 : decode cX6_knockValue 23 = .ok (.iconst 1, 1) := by decide +kernel
theorem dX6_knockValue_24 : decode cX6_knockValue 24 = .ok (.if_icmp .ne 9, 3) := by decide +kernel
theorem dX6_knockValue_27 : decode cX6_knockValue 27 = .ok (.iinc 2 1, 3) := by decide +kernel
theorem dX6_knockValue_30 : decode cX6_knockValue 30 = .ok (.goto 13, 3) := by decide +kernel
theorem dX6_knockValue_33 : decode cX6_knockValue 33 = .ok (.iload_n 1, 1) := by decide +kernel
theorem dX6_knockValue_34 : decode cX6_knockValue 34 = .ok (.getstatic 141, 3) := by decide +kernel
theorem dX6_knockValue_37 : decode cX6_knockValue 37 = .ok (.iload_n 2, 1) := by decide +kernel
theorem dX6_knockValue_38 : decode cX6_knockValue 38 = .ok (.iaload, 1) := by decide +kernel
theorem dX6_knockValue_39 : decode cX6_knockValue 39 = .ok (.ixor, 1) := by decide +kernel
theorem dX6_knockValue_40 : decode cX6_knockValue 40 = .ok (.istore_n 1, 1) := by decide +kernel
theorem dX6_knockValue_41 : decode cX6_knockValue 41 = .ok (.iconst 0, 1) := by decide +kernel
theorem dX6_knockValue_42 : decode cX6_knockValue 42 = .ok (.istore_n 2, 1) := by decide +kernel
theorem dX6_knockValue_43 : decode cX6_knockValue 43 = .ok (.iinc 3 1, 3) := by decide +kernel
theorem dX6_knockValue_46 : decode cX6_knockValue 46 = .ok (.goto (-40), 3) := by decide +kernel
theorem dX6_knockValue_49 : decode cX6_knockValue 49 = .ok (.iload_n 1, 1) := by decide +kernel
theorem dX6_knockValue_50 : decode cX6_knockValue 50 = .ok (.ireturn, 1) := by decide +kernel
theorem dX6_winningKnock_0 : decode cX6_winningKnock 0 = .ok (.iconst 0, 1) := by decide +kernel
theorem dX6_winningKnock_1 : decode cX6_winningKnock 1 = .ok (.istore_n 1, 1) := by decide +kernel
theorem dX6_winningKnock_2 : decode cX6_winningKnock 2 = .ok (.iload_n 1, 1) := by decide +kernel
theorem dX6_winningKnock_3 : decode cX6_winningKnock 3 = .ok (.bipush 48, 2) := by decide +kernel
theorem dX6_winningKnock_5 : decode cX6_winningKnock 5 = .ok (.if_icmp .ge 45, 3) := by decide +kernel
theorem dX6_winningKnock_8 : decode cX6_winningKnock 8 = .ok (.iload_n 1, 1) := by decide +kernel
theorem dX6_winningKnock_9 : decode cX6_winningKnock 9 = .ok (.iconst 2, 1) := by decide +kernel
theorem dX6_winningKnock_10 : decode cX6_winningKnock 10 = .ok (.irem, 1) := by decide +kernel
theorem dX6_winningKnock_11 : decode cX6_winningKnock 11 = .ok (.ifCond .ne 7, 3) := by decide +kernel
theorem dX6_winningKnock_14 : decode cX6_winningKnock 14 = .ok (.iconst 1, 1) := by decide +kernel
theorem dX6_winningKnock_15 : decode cX6_winningKnock 15 = .ok (.goto 4, 3) := by decide +kernel
theorem dX6_winningKnock_18 : decode cX6_winningKnock 18 = .ok (.iconst 3, 1) := by decide +kernel
theorem dX6_winningKnock_19 : decode cX6_winningKnock 19 = .ok (.iload_n 1, 1) := by decide +kernel
theorem dX6_winningKnock_20 : decode cX6_winningKnock 20 = .ok (.iconst 2, 1) := by decide +kernel
theorem dX6_winningKnock_21 : decode cX6_winningKnock 21 = .ok (.idiv, 1) := by decide +kernel
theorem dX6_winningKnock_22 : decode cX6_winningKnock 22 = .ok (.ishl, 1) := by decide +kernel
theorem dX6_winningKnock_23 : decode cX6_winningKnock 23 = .ok (.istore_n 2, 1) := by decide +kernel
theorem dX6_winningKnock_24 : decode cX6_winningKnock 24 = .ok (.iload_n 0, 1) := by decide +kernel
theorem dX6_winningKnock_25 : decode cX6_winningKnock 25 = .ok (.iload_n 2, 1) := by decide +kernel
theorem dX6_winningKnock_26 : decode cX6_winningKnock 26 = .ok (.iand, 1) := by decide +kernel
theorem dX6_winningKnock_27 : decode cX6_winningKnock 27 = .ok (.iload_n 2, 1) := by decide +kernel
theorem dX6_winningKnock_28 : decode cX6_winningKnock 28 = .ok (.if_icmp .ne 16, 3) := by decide +kernel
theorem dX6_winningKnock_31 : decode cX6_winningKnock 31 = .ok (.iload_n 0, 1) := by decide +kernel
theorem dX6_winningKnock_32 : decode cX6_winningKnock 32 = .ok (.iload_n 2, 1) := by decide +kernel
theorem dX6_winningKnock_33 : decode cX6_winningKnock 33 = .ok (.iconst (-1), 1) := by decide +kernel
theorem dX6_winningKnock_34 : decode cX6_winningKnock 34 = .ok (.ixor, 1) := by decide +kernel
theorem dX6_winningKnock_35 : decode cX6_winningKnock 35 = .ok (.iand, 1) := by decide +kernel
theorem dX6_winningKnock_36 : decode cX6_winningKnock 36 = .ok (.invokestatic 144, 3) := by decide +kernel
theorem dX6_winningKnock_39 : decode cX6_winningKnock 39 = .ok (.ifCond .ne 5, 3) := by decide +kernel
theorem dX6_winningKnock_42 : decode cX6_winningKnock 42 = .ok (.iload_n 1, 1) := by decide +kernel
theorem dX6_winningKnock_43 : decode cX6_winningKnock 43 = .ok (.ireturn, 1) := by decide +kernel
theorem dX6_winningKnock_44 : decode cX6_winningKnock 44 = .ok (.iinc 1 1, 3) := by decide +kernel
theorem dX6_winningKnock_47 : decode cX6_winningKnock 47 = .ok (.goto (-45), 3) := by decide +kernel
theorem dX6_winningKnock_50 : decode cX6_winningKnock 50 = .ok (.iconst (-1), 1) := by decide +kernel
theorem dX6_winningKnock_51 : decode cX6_winningKnock 51 = .ok (.ireturn, 1) := by decide +kernel
theorem dX6_restingChoices_0 : decode cX6_restingChoices 0 = .ok (.iconst 0, 1) := by decide +kernel
theorem dX6_restingChoices_1 : decode cX6_restingChoices 1 = .ok (.istore_n 3, 1) := by decide +kernel
theorem dX6_restingChoices_2 : decode cX6_restingChoices 2 = .ok (.iconst 0, 1) := by decide +kernel
theorem dX6_restingChoices_3 : decode cX6_restingChoices 3 = .ok (.istore 4, 2) := by decide +kernel
theorem dX6_restingChoices_5 : decode cX6_restingChoices 5 = .ok (.iload 4, 2) := by decide +kernel
theorem dX6_restingChoices_7 : decode cX6_restingChoices 7 = .ok (.iconst 4, 1) := by decide +kernel
theorem dX6_restingChoices_8 : decode cX6_restingChoices 8 = .ok (.if_icmp .ge 80, 3) := by decide +kernel
theorem dX6_restingChoices_11 : decode cX6_restingChoices 11 = .ok (.iload 4, 2) := by decide +kernel
theorem dX6_restingChoices_13 : decode cX6_restingChoices 13 = .ok (.iload_n 0, 1) := by decide +kernel
theorem dX6_restingChoices_14 : decode cX6_restingChoices 14 = .ok (.iload_n 1, 1) := by decide +kernel
theorem dX6_restingChoices_15 : decode cX6_restingChoices 15 = .ok (.iload_n 2, 1) := by decide +kernel
theorem dX6_restingChoices_16 : decode cX6_restingChoices 16 = .ok (.invokestatic 147, 3) := by decide +kernel
theorem dX6_restingChoices_19 : decode cX6_restingChoices 19 = .ok (.iload 4, 2) := by decide +kernel
theorem dX6_restingChoices_21 : decode cX6_restingChoices 21 = .ok (.iconst 2, 1) := by decide +kernel
theorem dX6_restingChoices_22 : decode cX6_restingChoices 22 = .ok (.ixor, 1) := by decide +kernel
theorem dX6_restingChoices_23 : decode cX6_restingChoices 23 = .ok (.iload_n 0, 1) := by decide +kernel
theorem dX6_restingChoices_24 : decode cX6_restingChoices 24 = .ok (.iload_n 1, 1) := by decide +kernel
theorem dX6_restingChoices_25 : decode cX6_restingChoices 25 = .ok (.iload_n 2, 1) := by decide +kernel
theorem dX6_restingChoices_26 : decode cX6_restingChoices 26 = .ok (.invokestatic 147, 3) := by decide +kernel
theorem dX6_restingChoices_29 : decode cX6_restingChoices 29 = .ok (.if_icmp .lt 7, 3) := by decide +kernel
theorem dX6_restingChoices_32 : decode cX6_restingChoices 32 = .ok (.iconst 1, 1) := by decide +kernel
theorem dX6_restingChoices_33 : decode cX6_restingChoices 33 = .ok (.goto 4, 3) := by decide +kernel
theorem dX6_restingChoices_36 : decode cX6_restingChoices 36 = .ok (.iconst 0, 1) := by decide +kernel
theorem dX6_restingChoices_37 : decode cX6_restingChoices 37 = .ok (.istore 5, 2) := by decide +kernel
theorem dX6_restingChoices_39 : decode cX6_restingChoices 39 = .ok (.iload 4, 2) := by decide +kernel
theorem dX6_restingChoices_41 : decode cX6_restingChoices 41 = .ok (.invokestatic 151, 3) := by decide +kernel
theorem dX6_restingChoices_44 : decode cX6_restingChoices 44 = .ok (.iload 4, 2) := by decide +kernel
theorem dX6_restingChoices_46 : decode cX6_restingChoices 46 = .ok (.iconst 1, 1) := by decide +kernel
theorem dX6_restingChoices_47 : decode cX6_restingChoices 47 = .ok (.ixor, 1) := by decide +kernel
theorem dX6_restingChoices_48 : decode cX6_restingChoices 48 = .ok (.invokestatic 151, 3) := by decide +kernel
theorem dX6_restingChoices_51 : decode cX6_restingChoices 51 = .ok (.if_icmp .lt 7, 3) := by decide +kernel
theorem dX6_restingChoices_54 : decode cX6_restingChoices 54 = .ok (.iconst 1, 1) := by decide +kernel
theorem dX6_restingChoices_55 : decode cX6_restingChoices 55 = .ok (.goto 4, 3) := by decide +kernel
theorem dX6_restingChoices_58 : decode cX6_restingChoices 58 = .ok (.iconst 0, 1) := by decide +kernel
theorem dX6_restingChoices_59 : decode cX6_restingChoices 59 = .ok (.istore 6, 2) := by decide +kernel
theorem dX6_restingChoices_61 : decode cX6_restingChoices 61 = .ok (.iload_n 3, 1) := by decide +kernel
theorem dX6_restingChoices_62 : decode cX6_restingChoices 62 = .ok (.iload 5, 2) := by decide +kernel
theorem dX6_restingChoices_64 : decode cX6_restingChoices 64 = .ok (.ifCond .eq 15, 3) := by decide +kernel
theorem dX6_restingChoices_67 : decode cX6_restingChoices 67 = .ok (.iload 6, 2) := by decide +kernel
theorem dX6_restingChoices_69 : decode cX6_restingChoices 69 = .ok (.ifCond .eq 10, 3) := by decide +kernel
theorem dX6_restingChoices_72 : decode cX6_restingChoices 72 = .ok (.iconst 1, 1) := by decide +kernel
theorem dX6_restingChoices_73 : decode cX6_restingChoices 73 = .ok (.iload 4, 2) := by decide +kernel
theorem dX6_restingChoices_75 : decode cX6_restingChoices 75 = .ok (.ishl, 1) := by decide +kernel
theorem dX6_restingChoices_76 : decode cX6_restingChoices 76 = .ok (.goto 4, 3) := by decide +kernel
theorem dX6_restingChoices_79 : decode cX6_restingChoices 79 = .ok (.iconst 0, 1) := by decide +kernel
theorem dX6_restingChoices_80 : decode cX6_restingChoices 80 = .ok (.ior, 1) := by decide +kernel
theorem dX6_restingChoices_81 : decode cX6_restingChoices 81 = .ok (.istore_n 3, 1) := by decide +kernel
theorem dX6_restingChoices_82 : decode cX6_restingChoices 82 = .ok (.iinc 4 1, 3) := by decide +kernel
theorem dX6_restingChoices_85 : decode cX6_restingChoices 85 = .ok (.goto (-80), 3) := by decide +kernel
theorem dX6_restingChoices_88 : decode cX6_restingChoices 88 = .ok (.iload_n 3, 1) := by decide +kernel
theorem dX6_restingChoices_89 : decode cX6_restingChoices 89 = .ok (.ireturn, 1) := by decide +kernel
theorem dX6_mastersShare_0 : decode cX6_mastersShare 0 = .ok (.iload_n 0, 1) := by decide +kernel
theorem dX6_mastersShare_1 : decode cX6_mastersShare 1 = .ok (.tableswitch 35 0 2 #[27, 29, 32], 27) := by decide +kernel
theorem dX6_mastersShare_28 : decode cX6_mastersShare 28 = .ok (.iload_n 1, 1) := by decide +kernel
theorem dX6_mastersShare_29 : decode cX6_mastersShare 29 = .ok (.ireturn, 1) := by decide +kernel
theorem dX6_mastersShare_30 : decode cX6_mastersShare 30 = .ok (.bipush (-3), 2) := by decide +kernel
theorem dX6_mastersShare_32 : decode cX6_mastersShare 32 = .ok (.ireturn, 1) := by decide +kernel
theorem dX6_mastersShare_33 : decode cX6_mastersShare 33 = .ok (.iload_n 2, 1) := by decide +kernel
theorem dX6_mastersShare_34 : decode cX6_mastersShare 34 = .ok (.ineg, 1) := by decide +kernel
theorem dX6_mastersShare_35 : decode cX6_mastersShare 35 = .ok (.ireturn, 1) := by decide +kernel
theorem dX6_mastersShare_36 : decode cX6_mastersShare 36 = .ok (.iload_n 3, 1) := by decide +kernel
theorem dX6_mastersShare_37 : decode cX6_mastersShare 37 = .ok (.ireturn, 1) := by decide +kernel
theorem dX6_pilotsShare_0 : decode cX6_pilotsShare 0 = .ok (.iload_n 0, 1) := by decide +kernel
theorem dX6_pilotsShare_1 : decode cX6_pilotsShare 1 = .ok (.lookupswitch 31 #[(0, 27), (2, 29)], 27) := by decide +kernel
theorem dX6_pilotsShare_28 : decode cX6_pilotsShare 28 = .ok (.iconst 2, 1) := by decide +kernel
theorem dX6_pilotsShare_29 : decode cX6_pilotsShare 29 = .ok (.ireturn, 1) := by decide +kernel
theorem dX6_pilotsShare_30 : decode cX6_pilotsShare 30 = .ok (.iconst (-1), 1) := by decide +kernel
theorem dX6_pilotsShare_31 : decode cX6_pilotsShare 31 = .ok (.ireturn, 1) := by decide +kernel
theorem dX6_pilotsShare_32 : decode cX6_pilotsShare 32 = .ok (.iconst 1, 1) := by decide +kernel
theorem dX6_pilotsShare_33 : decode cX6_pilotsShare 33 = .ok (.ireturn, 1) := by decide +kernel
theorem dX6_oddsOf_0 : decode cX6_oddsOf 0 = .ok (.iconst 1, 1) := by decide +kernel
theorem dX6_oddsOf_1 : decode cX6_oddsOf 1 = .ok (.istore_n 3, 1) := by decide +kernel
theorem dX6_oddsOf_2 : decode cX6_oddsOf 2 = .ok (.iconst 0, 1) := by decide +kernel
theorem dX6_oddsOf_3 : decode cX6_oddsOf 3 = .ok (.istore 4, 2) := by decide +kernel
theorem dX6_oddsOf_5 : decode cX6_oddsOf 5 = .ok (.iload 4, 2) := by decide +kernel
theorem dX6_oddsOf_7 : decode cX6_oddsOf 7 = .ok (.iload_n 0, 1) := by decide +kernel
theorem dX6_oddsOf_8 : decode cX6_oddsOf 8 = .ok (.if_icmp .ge 15, 3) := by decide +kernel
theorem dX6_oddsOf_11 : decode cX6_oddsOf 11 = .ok (.iload_n 3, 1) := by decide +kernel
theorem dX6_oddsOf_12 : decode cX6_oddsOf 12 = .ok (.iload_n 2, 1) := by decide +kernel
theorem dX6_oddsOf_13 : decode cX6_oddsOf 13 = .ok (.iconst 1, 1) := by decide +kernel
theorem dX6_oddsOf_14 : decode cX6_oddsOf 14 = .ok (.iadd, 1) := by decide +kernel
theorem dX6_oddsOf_15 : decode cX6_oddsOf 15 = .ok (.imul, 1) := by decide +kernel
theorem dX6_oddsOf_16 : decode cX6_oddsOf 16 = .ok (.istore_n 3, 1) := by decide +kernel
theorem dX6_oddsOf_17 : decode cX6_oddsOf 17 = .ok (.iinc 4 1, 3) := by decide +kernel
theorem dX6_oddsOf_20 : decode cX6_oddsOf 20 = .ok (.goto (-15), 3) := by decide +kernel
theorem dX6_oddsOf_23 : decode cX6_oddsOf 23 = .ok (.iconst 0, 1) := by decide +kernel
theorem dX6_oddsOf_24 : decode cX6_oddsOf 24 = .ok (.istore 4, 2) := by decide +kernel
theorem dX6_oddsOf_26 : decode cX6_oddsOf 26 = .ok (.iload_n 1, 1) := by decide +kernel
theorem dX6_oddsOf_27 : decode cX6_oddsOf 27 = .ok (.istore 5, 2) := by decide +kernel
theorem dX6_oddsOf_29 : decode cX6_oddsOf 29 = .ok (.iload 5, 2) := by decide +kernel
theorem dX6_oddsOf_31 : decode cX6_oddsOf 31 = .ok (.iload_n 0, 1) := by decide +kernel
theorem dX6_oddsOf_32 : decode cX6_oddsOf 32 = .ok (.if_icmp .gt 27, 3) := by decide +kernel
theorem dX6_oddsOf_35 : decode cX6_oddsOf 35 = .ok (.iload 4, 2) := by decide +kernel
theorem dX6_oddsOf_37 : decode cX6_oddsOf 37 = .ok (.iload_n 0, 1) := by decide +kernel
theorem dX6_oddsOf_38 : decode cX6_oddsOf 38 = .ok (.iload 5, 2) := by decide +kernel
theorem dX6_oddsOf_40 : decode cX6_oddsOf 40 = .ok (.invokestatic 154, 3) := by decide +kernel
theorem dX6_oddsOf_43 : decode cX6_oddsOf 43 = .ok (.iload_n 2, 1) := by decide +kernel
theorem dX6_oddsOf_44 : decode cX6_oddsOf 44 = .ok (.iload 5, 2) := by decide +kernel
theorem dX6_oddsOf_46 : decode cX6_oddsOf 46 = .ok (.invokestatic 157, 3) := by decide +kernel
theorem dX6_oddsOf_49 : decode cX6_oddsOf 49 = .ok (.imul, 1) := by decide +kernel
theorem dX6_oddsOf_50 : decode cX6_oddsOf 50 = .ok (.iadd, 1) := by decide +kernel
theorem dX6_oddsOf_51 : decode cX6_oddsOf 51 = .ok (.istore 4, 2) := by decide +kernel
theorem dX6_oddsOf_53 : decode cX6_oddsOf 53 = .ok (.iinc 5 1, 3) := by decide +kernel
theorem dX6_oddsOf_56 : decode cX6_oddsOf 56 = .ok (.goto (-27), 3) := by decide +kernel
theorem dX6_oddsOf_59 : decode cX6_oddsOf 59 = .ok (.iload_n 3, 1) := by decide +kernel
theorem dX6_oddsOf_60 : decode cX6_oddsOf 60 = .ok (.ifCond .le 14, 3) := by decide +kernel
theorem dX6_oddsOf_63 : decode cX6_oddsOf 63 = .ok (.sipush 10000, 3) := by decide +kernel
theorem dX6_oddsOf_66 : decode cX6_oddsOf 66 = .ok (.iload 4, 2) := by decide +kernel
theorem dX6_oddsOf_68 : decode cX6_oddsOf 68 = .ok (.imul, 1) := by decide +kernel
theorem dX6_oddsOf_69 : decode cX6_oddsOf 69 = .ok (.iload_n 3, 1) := by decide +kernel
theorem dX6_oddsOf_70 : decode cX6_oddsOf 70 = .ok (.idiv, 1) := by decide +kernel
theorem dX6_oddsOf_71 : decode cX6_oddsOf 71 = .ok (.goto 4, 3) := by decide +kernel
theorem dX6_oddsOf_74 : decode cX6_oddsOf 74 = .ok (.iconst 0, 1) := by decide +kernel
theorem dX6_oddsOf_75 : decode cX6_oddsOf 75 = .ok (.ireturn, 1) := by decide +kernel
theorem dX6_power_0 : decode cX6_power 0 = .ok (.iconst 1, 1) := by decide +kernel
theorem dX6_power_1 : decode cX6_power 1 = .ok (.istore_n 2, 1) := by decide +kernel
theorem dX6_power_2 : decode cX6_power 2 = .ok (.iconst 0, 1) := by decide +kernel
theorem dX6_power_3 : decode cX6_power 3 = .ok (.istore_n 3, 1) := by decide +kernel
theorem dX6_power_4 : decode cX6_power 4 = .ok (.iload_n 3, 1) := by decide +kernel
theorem dX6_power_5 : decode cX6_power 5 = .ok (.iload_n 1, 1) := by decide +kernel
theorem dX6_power_6 : decode cX6_power 6 = .ok (.if_icmp .ge 13, 3) := by decide +kernel
theorem dX6_power_9 : decode cX6_power 9 = .ok (.iload_n 2, 1) := by decide +kernel
theorem dX6_power_10 : decode cX6_power 10 = .ok (.iload_n 0, 1) := by decide +kernel
theorem dX6_power_11 : decode cX6_power 11 = .ok (.imul, 1) := by decide +kernel
theorem dX6_power_12 : decode cX6_power 12 = .ok (.istore_n 2, 1) := by decide +kernel
theorem dX6_power_13 : decode cX6_power 13 = .ok (.iinc 3 1, 3) := by decide +kernel
theorem dX6_power_16 : decode cX6_power 16 = .ok (.goto (-12), 3) := by decide +kernel
theorem dX6_power_19 : decode cX6_power 19 = .ok (.iload_n 2, 1) := by decide +kernel
theorem dX6_power_20 : decode cX6_power 20 = .ok (.ireturn, 1) := by decide +kernel
theorem dX6_choices_0 : decode cX6_choices 0 = .ok (.iconst 1, 1) := by decide +kernel
theorem dX6_choices_1 : decode cX6_choices 1 = .ok (.istore_n 2, 1) := by decide +kernel
theorem dX6_choices_2 : decode cX6_choices 2 = .ok (.iconst 1, 1) := by decide +kernel
theorem dX6_choices_3 : decode cX6_choices 3 = .ok (.istore_n 3, 1) := by decide +kernel
theorem dX6_choices_4 : decode cX6_choices 4 = .ok (.iload_n 3, 1) := by decide +kernel
theorem dX6_choices_5 : decode cX6_choices 5 = .ok (.iload_n 1, 1) := by decide +kernel
theorem dX6_choices_6 : decode cX6_choices 6 = .ok (.if_icmp .gt 19, 3) := by decide +kernel
theorem dX6_choices_9 : decode cX6_choices 9 = .ok (.iload_n 2, 1) := by decide +kernel
theorem dX6_choices_10 : decode cX6_choices 10 = .ok (.iload_n 0, 1) := by decide +kernel
theorem dX6_choices_11 : decode cX6_choices 11 = .ok (.iload_n 1, 1) := by decide +kernel
theorem dX6_choices_12 : decode cX6_choices 12 = .ok (.isub, 1) := by decide +kernel
theorem dX6_choices_13 : decode cX6_choices 13 = .ok (.iload_n 3, 1) := by decide +kernel
theorem dX6_choices_14 : decode cX6_choices 14 = .ok (.iadd, 1) := by decide +kernel
theorem dX6_choices_15 : decode cX6_choices 15 = .ok (.imul, 1) := by decide +kernel
theorem dX6_choices_16 : decode cX6_choices 16 = .ok (.iload_n 3, 1) := by decide +kernel
theorem dX6_choices_17 : decode cX6_choices 17 = .ok (.idiv, 1) := by decide +kernel
theorem dX6_choices_18 : decode cX6_choices 18 = .ok (.istore_n 2, 1) := by decide +kernel
theorem dX6_choices_19 : decode cX6_choices 19 = .ok (.iinc 3 1, 3) := by decide +kernel
theorem dX6_choices_22 : decode cX6_choices 22 = .ok (.goto (-18), 3) := by decide +kernel
theorem dX6_choices_25 : decode cX6_choices 25 = .ok (.iload_n 2, 1) := by decide +kernel
theorem dX6_choices_26 : decode cX6_choices 26 = .ok (.ireturn, 1) := by decide +kernel
theorem dX9_init_0 : decode cX9_init 0 = .ok (.aload_n 0, 1) := by decide +kernel
theorem dX9_init_1 : decode cX9_init 1 = .ok (.invokespecial 3, 3) := by decide +kernel
theorem dX9_init_4 : decode cX9_init 4 = .ok (.aload_n 0, 1) := by decide +kernel
theorem dX9_init_5 : decode cX9_init 5 = .ok (.bipush 10, 2) := by decide +kernel
theorem dX9_init_7 : decode cX9_init 7 = .ok (.putfield 9, 3) := by decide +kernel
theorem dX9_init_10 : decode cX9_init 10 = .ok (.aload_n 0, 1) := by decide +kernel
theorem dX9_init_11 : decode cX9_init 11 = .ok (.iconst 2, 1) := by decide +kernel
theorem dX9_init_12 : decode cX9_init 12 = .ok (.putfield 15, 3) := by decide +kernel
theorem dX9_init_15 : decode cX9_init 15 = .ok (.aload_n 0, 1) := by decide +kernel
theorem dX9_init_16 : decode cX9_init 16 = .ok (.iconst 3, 1) := by decide +kernel
theorem dX9_init_17 : decode cX9_init 17 = .ok (.putfield 18, 3) := by decide +kernel
theorem dX9_init_20 : decode cX9_init 20 = .ok (.aload_n 0, 1) := by decide +kernel
theorem dX9_init_21 : decode cX9_init 21 = .ok (.iconst 1, 1) := by decide +kernel
theorem dX9_init_22 : decode cX9_init 22 = .ok (.putfield 21, 3) := by decide +kernel
theorem dX9_init_25 : decode cX9_init 25 = .ok (.aload_n 0, 1) := by decide +kernel
theorem dX9_init_26 : decode cX9_init 26 = .ok (.iconst 1, 1) := by decide +kernel
theorem dX9_init_27 : decode cX9_init 27 = .ok (.putfield 24, 3) := by decide +kernel
theorem dX9_init_30 : decode cX9_init 30 = .ok (.aload_n 0, 1) := by decide +kernel
theorem dX9_init_31 : decode cX9_init 31 = .ok (.bipush 12, 2) := by decide +kernel
theorem dX9_init_33 : decode cX9_init 33 = .ok (.newarray .int, 2) := by decide +kernel
theorem dX9_init_35 : decode cX9_init 35 = .ok (.dup, 1) := by decide +kernel
theorem dX9_init_36 : decode cX9_init 36 = .ok (.iconst 0, 1) := by decide +kernel
theorem dX9_init_37 : decode cX9_init 37 = .ok (.bipush 10, 2) := by decide +kernel
theorem dX9_init_39 : decode cX9_init 39 = .ok (.iastore, 1) := by decide +kernel
theorem dX9_init_40 : decode cX9_init 40 = .ok (.dup, 1) := by decide +kernel
theorem dX9_init_41 : decode cX9_init 41 = .ok (.iconst 1, 1) := by decide +kernel
theorem dX9_init_42 : decode cX9_init 42 = .ok (.bipush 10, 2) := by decide +kernel
theorem dX9_init_44 : decode cX9_init 44 = .ok (.iastore, 1) := by decide +kernel
theorem dX9_init_45 : decode cX9_init 45 = .ok (.dup, 1) := by decide +kernel
theorem dX9_init_46 : decode cX9_init 46 = .ok (.iconst 2, 1) := by decide +kernel
theorem dX9_init_47 : decode cX9_init 47 = .ok (.bipush 10, 2) := by decide +kernel
theorem dX9_init_49 : decode cX9_init 49 = .ok (.iastore, 1) := by decide +kernel
theorem dX9_init_50 : decode cX9_init 50 = .ok (.dup, 1) := by decide +kernel
theorem dX9_init_51 : decode cX9_init 51 = .ok (.iconst 3, 1) := by decide +kernel
theorem dX9_init_52 : decode cX9_init 52 = .ok (.bipush 10, 2) := by decide +kernel
theorem dX9_init_54 : decode cX9_init 54 = .ok (.iastore, 1) := by decide +kernel
theorem dX9_init_55 : decode cX9_init 55 = .ok (.dup, 1) := by decide +kernel
theorem dX9_init_56 : decode cX9_init 56 = .ok (.iconst 4, 1) := by decide +kernel
theorem dX9_init_57 : decode cX9_init 57 = .ok (.bipush 10, 2) := by decide +kernel
theorem dX9_init_59 : decode cX9_init 59 = .ok (.iastore, 1) := by decide +kernel
theorem dX9_init_60 : decode cX9_init 60 = .ok (.dup, 1) := by decide +kernel
theorem dX9_init_61 : decode cX9_init 61 = .ok (.iconst 5, 1) := by decide +kernel
theorem dX9_init_62 : decode cX9_init 62 = .ok (.bipush 10, 2) := by decide +kernel
theorem dX9_init_64 : decode cX9_init 64 = .ok (.iastore, 1) := by decide +kernel
theorem dX9_init_65 : decode cX9_init 65 = .ok (.dup, 1) := by decide +kernel
theorem dX9_init_66 : decode cX9_init 66 = .ok (.bipush 6, 2) := by decide +kernel
theorem dX9_init_68 : decode cX9_init 68 = .ok (.bipush 10, 2) := by decide +kernel
theorem dX9_init_70 : decode cX9_init 70 = .ok (.iastore, 1) := by decide +kernel
theorem dX9_init_71 : decode cX9_init 71 = .ok (.dup, 1) := by decide +kernel
theorem dX9_init_72 : decode cX9_init 72 = .ok (.bipush 7, 2) := by decide +kernel
theorem dX9_init_74 : decode cX9_init 74 = .ok (.bipush 10, 2) := by decide +kernel
theorem dX9_init_76 : decode cX9_init 76 = .ok (.iastore, 1) := by decide +kernel
theorem dX9_init_77 : decode cX9_init 77 = .ok (.dup, 1) := by decide +kernel
theorem dX9_init_78 : decode cX9_init 78 = .ok (.bipush 8, 2) := by decide +kernel
theorem dX9_init_80 : decode cX9_init 80 = .ok (.bipush 10, 2) := by decide +kernel
theorem dX9_init_82 : decode cX9_init 82 = .ok (.iastore, 1) := by decide +kernel
theorem dX9_init_83 : decode cX9_init 83 = .ok (.dup, 1) := by decide +kernel
theorem dX9_init_84 : decode cX9_init 84 = .ok (.bipush 9, 2) := by decide +kernel
theorem dX9_init_86 : decode cX9_init 86 = .ok (.bipush 10, 2) := by decide +kernel
theorem dX9_init_88 : decode cX9_init 88 = .ok (.iastore, 1) := by decide +kernel
theorem dX9_init_89 : decode cX9_init 89 = .ok (.dup, 1) := by decide +kernel
theorem dX9_init_90 : decode cX9_init 90 = .ok (.bipush 10, 2) := by decide +kernel
theorem dX9_init_92 : decode cX9_init 92 = .ok (.bipush 10, 2) := by decide +kernel
theorem dX9_init_94 : decode cX9_init 94 = .ok (.iastore, 1) := by decide +kernel
theorem dX9_init_95 : decode cX9_init 95 = .ok (.dup, 1) := by decide +kernel
theorem dX9_init_96 : decode cX9_init 96 = .ok (.bipush 11, 2) := by decide +kernel
theorem dX9_init_98 : decode cX9_init 98 = .ok (.bipush 10, 2) := by decide +kernel
theorem dX9_init_100 : decode cX9_init 100 = .ok (.iastore, 1) := by decide +kernel
theorem dX9_init_101 : decode cX9_init 101 = .ok (.putfield 28, 3) := by decide +kernel
theorem dX9_init_104 : decode cX9_init 104 = .ok (.aload_n 0, 1) := by decide +kernel
theorem dX9_init_105 : decode cX9_init 105 = .ok (.bipush 8, 2) := by decide +kernel
theorem dX9_init_107 : decode cX9_init 107 = .ok (.newarray .int, 2) := by decide +kernel
theorem dX9_init_109 : decode cX9_init 109 = .ok (.putfield 32, 3) := by decide +kernel
theorem dX9_init_112 : decode cX9_init 112 = .ok (.aload_n 0, 1) := by decide +kernel
theorem dX9_init_113 : decode cX9_init 113 = .ok (.bipush 8, 2) := by decide +kernel
theorem dX9_init_115 : decode cX9_init 115 = .ok (.newarray .int, 2) := by decide +kernel
theorem dX9_init_117 : decode cX9_init 117 = .ok (.putfield 35, 3) := by decide +kernel
theorem dX9_init_120 : decode cX9_init 120 = .ok (.aload_n 0, 1) := by decide +kernel
theorem dX9_init_121 : decode cX9_init 121 = .ok (.bipush 8, 2) := by decide +kernel
theorem dX9_init_123 : decode cX9_init 123 = .ok (.newarray .int, 2) := by decide +kernel
theorem dX9_init_125 : decode cX9_init 125 = .ok (.putfield 38, 3) := by decide +kernel
theorem dX9_init_128 : decode cX9_init 128 = .ok (.aload_n 0, 1) := by decide +kernel
theorem dX9_init_129 : decode cX9_init 129 = .ok (.bipush 8, 2) := by decide +kernel
theorem dX9_init_131 : decode cX9_init 131 = .ok (.newarray .int, 2) := by decide +kernel
theorem dX9_init_133 : decode cX9_init 133 = .ok (.putfield 41, 3) := by decide +kernel
theorem dX9_init_136 : decode cX9_init 136 = .ok (.aload_n 0, 1) := by decide +kernel
theorem dX9_init_137 : decode cX9_init 137 = .ok (.bipush 8, 2) := by decide +kernel
theorem dX9_init_139 : decode cX9_init 139 = .ok (.newarray .int, 2) := by decide +kernel
theorem dX9_init_141 : decode cX9_init 141 = .ok (.putfield 44, 3) := by decide +kernel
theorem dX9_init_144 : decode cX9_init 144 = .ok (.aload_n 0, 1) := by decide +kernel
theorem dX9_init_145 : decode cX9_init 145 = .ok (.new 47, 3) := by decide +kernel
theorem dX9_init_148 : decode cX9_init 148 = .ok (.dup, 1) := by decide +kernel
theorem dX9_init_149 : decode cX9_init 149 = .ok (.invokespecial 49, 3) := by decide +kernel
theorem dX9_init_152 : decode cX9_init 152 = .ok (.putfield 50, 3) := by decide +kernel
theorem dX9_init_155 : decode cX9_init 155 = .ok (.return_, 1) := by decide +kernel
theorem dX9_copy_0 : decode cX9_copy 0 = .ok (.aload_n 0, 1) := by decide +kernel
theorem dX9_copy_1 : decode cX9_copy 1 = .ok (.aload_n 1, 1) := by decide +kernel
theorem dX9_copy_2 : decode cX9_copy 2 = .ok (.getfield 9, 3) := by decide +kernel
theorem dX9_copy_5 : decode cX9_copy 5 = .ok (.putfield 9, 3) := by decide +kernel
theorem dX9_copy_8 : decode cX9_copy 8 = .ok (.aload_n 0, 1) := by decide +kernel
theorem dX9_copy_9 : decode cX9_copy 9 = .ok (.aload_n 1, 1) := by decide +kernel
theorem dX9_copy_10 : decode cX9_copy 10 = .ok (.getfield 54, 3) := by decide +kernel
theorem dX9_copy_13 : decode cX9_copy 13 = .ok (.putfield 54, 3) := by decide +kernel
theorem dX9_copy_16 : decode cX9_copy 16 = .ok (.aload_n 0, 1) := by decide +kernel
theorem dX9_copy_17 : decode cX9_copy 17 = .ok (.aload_n 1, 1) := by decide +kernel
theorem dX9_copy_18 : decode cX9_copy 18 = .ok (.getfield 15, 3) := by decide +kernel
theorem dX9_copy_21 : decode cX9_copy 21 = .ok (.putfield 15, 3) := by decide +kernel
theorem dX9_copy_24 : decode cX9_copy 24 = .ok (.aload_n 0, 1) := by decide +kernel
theorem dX9_copy_25 : decode cX9_copy 25 = .ok (.aload_n 1, 1) := by decide +kernel
theorem dX9_copy_26 : decode cX9_copy 26 = .ok (.getfield 18, 3) := by decide +kernel
theorem dX9_copy_29 : decode cX9_copy 29 = .ok (.putfield 18, 3) := by decide +kernel
theorem dX9_copy_32 : decode cX9_copy 32 = .ok (.aload_n 0, 1) := by decide +kernel
theorem dX9_copy_33 : decode cX9_copy 33 = .ok (.aload_n 1, 1) := by decide +kernel
theorem dX9_copy_34 : decode cX9_copy 34 = .ok (.getfield 57, 3) := by decide +kernel
theorem dX9_copy_37 : decode cX9_copy 37 = .ok (.putfield 57, 3) := by decide +kernel
theorem dX9_copy_40 : decode cX9_copy 40 = .ok (.aload_n 0, 1) := by decide +kernel
theorem dX9_copy_41 : decode cX9_copy 41 = .ok (.aload_n 1, 1) := by decide +kernel
theorem dX9_copy_42 : decode cX9_copy 42 = .ok (.getfield 60, 3) := by decide +kernel
theorem dX9_copy_45 : decode cX9_copy 45 = .ok (.putfield 60, 3) := by decide +kernel
theorem dX9_copy_48 : decode cX9_copy 48 = .ok (.aload_n 0, 1) := by decide +kernel
theorem dX9_copy_49 : decode cX9_copy 49 = .ok (.aload_n 1, 1) := by decide +kernel
theorem dX9_copy_50 : decode cX9_copy 50 = .ok (.getfield 21, 3) := by decide +kernel
theorem dX9_copy_53 : decode cX9_copy 53 = .ok (.putfield 21, 3) := by decide +kernel
theorem dX9_copy_56 : decode cX9_copy 56 = .ok (.aload_n 0, 1) := by decide +kernel
theorem dX9_copy_57 : decode cX9_copy 57 = .ok (.aload_n 1, 1) := by decide +kernel
theorem dX9_copy_58 : decode cX9_copy 58 = .ok (.getfield 63, 3) := by decide +kernel
theorem dX9_copy_61 : decode cX9_copy 61 = .ok (.putfield 63, 3) := by decide +kernel
theorem dX9_copy_64 : decode cX9_copy 64 = .ok (.aload_n 0, 1) := by decide +kernel
theorem dX9_copy_65 : decode cX9_copy 65 = .ok (.aload_n 1, 1) := by decide +kernel
theorem dX9_copy_66 : decode cX9_copy 66 = .ok (.getfield 66, 3) := by decide +kernel
theorem dX9_copy_69 : decode cX9_copy 69 = .ok (.putfield 66, 3) := by decide +kernel
theorem dX9_copy_72 : decode cX9_copy 72 = .ok (.aload_n 0, 1) := by decide +kernel
theorem dX9_copy_73 : decode cX9_copy 73 = .ok (.aload_n 1, 1) := by decide +kernel
theorem dX9_copy_74 : decode cX9_copy 74 = .ok (.getfield 69, 3) := by decide +kernel
theorem dX9_copy_77 : decode cX9_copy 77 = .ok (.putfield 69, 3) := by decide +kernel
theorem dX9_copy_80 : decode cX9_copy 80 = .ok (.aload_n 0, 1) := by decide +kernel
theorem dX9_copy_81 : decode cX9_copy 81 = .ok (.aload_n 1, 1) := by decide +kernel
theorem dX9_copy_82 : decode cX9_copy 82 = .ok (.getfield 72, 3) := by decide +kernel
theorem dX9_copy_85 : decode cX9_copy 85 = .ok (.putfield 72, 3) := by decide +kernel
theorem dX9_copy_88 : decode cX9_copy 88 = .ok (.aload_n 0, 1) := by decide +kernel
theorem dX9_copy_89 : decode cX9_copy 89 = .ok (.aload_n 1, 1) := by decide +kernel
theorem dX9_copy_90 : decode cX9_copy 90 = .ok (.getfield 24, 3) := by decide +kernel
theorem dX9_copy_93 : decode cX9_copy 93 = .ok (.putfield 24, 3) := by decide +kernel
theorem dX9_copy_96 : decode cX9_copy 96 = .ok (.aload_n 1, 1) := by decide +kernel
theorem dX9_copy_97 : decode cX9_copy 97 = .ok (.getfield 28, 3) := by decide +kernel
theorem dX9_copy_100 : decode cX9_copy 100 = .ok (.iconst 0, 1) := by decide +kernel
theorem dX9_copy_101 : decode cX9_copy 101 = .ok (.aload_n 0, 1) := by decide +kernel
theorem dX9_copy_102 : decode cX9_copy 102 = .ok (.getfield 28, 3) := by decide +kernel
theorem dX9_copy_105 : decode cX9_copy 105 = .ok (.iconst 0, 1) := by decide +kernel
theorem dX9_copy_106 : decode cX9_copy 106 = .ok (.bipush 12, 2) := by decide +kernel
theorem dX9_copy_108 : decode cX9_copy 108 = .ok (.invokestatic 75, 3) := by decide +kernel
theorem dX9_copy_111 : decode cX9_copy 111 = .ok (.aload_n 1, 1) := by decide +kernel
theorem dX9_copy_112 : decode cX9_copy 112 = .ok (.getfield 32, 3) := by decide +kernel
theorem dX9_copy_115 : decode cX9_copy 115 = .ok (.iconst 0, 1) := by decide +kernel
theorem dX9_copy_116 : decode cX9_copy 116 = .ok (.aload_n 0, 1) := by decide +kernel
theorem dX9_copy_117 : decode cX9_copy 117 = .ok (.getfield 32, 3) := by decide +kernel
theorem dX9_copy_120 : decode cX9_copy 120 = .ok (.iconst 0, 1) := by decide +kernel
theorem dX9_copy_121 : decode cX9_copy 121 = .ok (.bipush 8, 2) := by decide +kernel
theorem dX9_copy_123 : decode cX9_copy 123 = .ok (.invokestatic 75, 3) := by decide +kernel
theorem dX9_copy_126 : decode cX9_copy 126 = .ok (.aload_n 1, 1) := by decide +kernel
theorem dX9_copy_127 : decode cX9_copy 127 = .ok (.getfield 35, 3) := by decide +kernel
theorem dX9_copy_130 : decode cX9_copy 130 = .ok (.iconst 0, 1) := by decide +kernel
theorem dX9_copy_131 : decode cX9_copy 131 = .ok (.aload_n 0, 1) := by decide +kernel
theorem dX9_copy_132 : decode cX9_copy 132 = .ok (.getfield 35, 3) := by decide +kernel
theorem dX9_copy_135 : decode cX9_copy 135 = .ok (.iconst 0, 1) := by decide +kernel
theorem dX9_copy_136 : decode cX9_copy 136 = .ok (.bipush 8, 2) := by decide +kernel
theorem dX9_copy_138 : decode cX9_copy 138 = .ok (.invokestatic 75, 3) := by decide +kernel
theorem dX9_copy_141 : decode cX9_copy 141 = .ok (.aload_n 1, 1) := by decide +kernel
theorem dX9_copy_142 : decode cX9_copy 142 = .ok (.getfield 38, 3) := by decide +kernel
theorem dX9_copy_145 : decode cX9_copy 145 = .ok (.iconst 0, 1) := by decide +kernel
theorem dX9_copy_146 : decode cX9_copy 146 = .ok (.aload_n 0, 1) := by decide +kernel
theorem dX9_copy_147 : decode cX9_copy 147 = .ok (.getfield 38, 3) := by decide +kernel
theorem dX9_copy_150 : decode cX9_copy 150 = .ok (.iconst 0, 1) := by decide +kernel
theorem dX9_copy_151 : decode cX9_copy 151 = .ok (.bipush 8, 2) := by decide +kernel
theorem dX9_copy_153 : decode cX9_copy 153 = .ok (.invokestatic 75, 3) := by decide +kernel
theorem dX9_copy_156 : decode cX9_copy 156 = .ok (.aload_n 1, 1) := by decide +kernel
theorem dX9_copy_157 : decode cX9_copy 157 = .ok (.getfield 41, 3) := by decide +kernel
theorem dX9_copy_160 : decode cX9_copy 160 = .ok (.iconst 0, 1) := by decide +kernel
theorem dX9_copy_161 : decode cX9_copy 161 = .ok (.aload_n 0, 1) := by decide +kernel
theorem dX9_copy_162 : decode cX9_copy 162 = .ok (.getfield 41, 3) := by decide +kernel
theorem dX9_copy_165 : decode cX9_copy 165 = .ok (.iconst 0, 1) := by decide +kernel
theorem dX9_copy_166 : decode cX9_copy 166 = .ok (.bipush 8, 2) := by decide +kernel
theorem dX9_copy_168 : decode cX9_copy 168 = .ok (.invokestatic 75, 3) := by decide +kernel
theorem dX9_copy_171 : decode cX9_copy 171 = .ok (.aload_n 1, 1) := by decide +kernel
theorem dX9_copy_172 : decode cX9_copy 172 = .ok (.getfield 44, 3) := by decide +kernel
theorem dX9_copy_175 : decode cX9_copy 175 = .ok (.iconst 0, 1) := by decide +kernel
theorem dX9_copy_176 : decode cX9_copy 176 = .ok (.aload_n 0, 1) := by decide +kernel
theorem dX9_copy_177 : decode cX9_copy 177 = .ok (.getfield 44, 3) := by decide +kernel
theorem dX9_copy_180 : decode cX9_copy 180 = .ok (.iconst 0, 1) := by decide +kernel
theorem dX9_copy_181 : decode cX9_copy 181 = .ok (.bipush 8, 2) := by decide +kernel
theorem dX9_copy_183 : decode cX9_copy 183 = .ok (.invokestatic 75, 3) := by decide +kernel
theorem dX9_copy_186 : decode cX9_copy 186 = .ok (.aload_n 0, 1) := by decide +kernel
theorem dX9_copy_187 : decode cX9_copy 187 = .ok (.getfield 50, 3) := by decide +kernel
theorem dX9_copy_190 : decode cX9_copy 190 = .ok (.aload_n 1, 1) := by decide +kernel
theorem dX9_copy_191 : decode cX9_copy 191 = .ok (.getfield 50, 3) := by decide +kernel
theorem dX9_copy_194 : decode cX9_copy 194 = .ok (.invokevirtual 81, 3) := by decide +kernel
theorem dX9_copy_197 : decode cX9_copy 197 = .ok (.return_, 1) := by decide +kernel
theorem dX9_tideNow_0 : decode cX9_tideNow 0 = .ok (.aload_n 0, 1) := by decide +kernel
theorem dX9_tideNow_1 : decode cX9_tideNow 1 = .ok (.getfield 28, 3) := by decide +kernel
theorem dX9_tideNow_4 : decode cX9_tideNow 4 = .ok (.aload_n 0, 1) := by decide +kernel
theorem dX9_tideNow_5 : decode cX9_tideNow 5 = .ok (.getfield 54, 3) := by decide +kernel
theorem dX9_tideNow_8 : decode cX9_tideNow 8 = .ok (.bipush 12, 2) := by decide +kernel
theorem dX9_tideNow_10 : decode cX9_tideNow 10 = .ok (.irem, 1) := by decide +kernel
theorem dX9_tideNow_11 : decode cX9_tideNow 11 = .ok (.iaload, 1) := by decide +kernel
theorem dX9_tideNow_12 : decode cX9_tideNow 12 = .ok (.ireturn, 1) := by decide +kernel
theorem dX9_isEven_0 : decode cX9_isEven 0 = .ok (.aload_n 0, 1) := by decide +kernel
theorem dX9_isEven_1 : decode cX9_isEven 1 = .ok (.getfield 9, 3) := by decide +kernel
theorem dX9_isEven_4 : decode cX9_isEven 4 = .ok (.aload_n 0, 1) := by decide +kernel
theorem dX9_isEven_5 : decode cX9_isEven 5 = .ok (.invokevirtual 85, 3) := by decide +kernel
theorem dX9_isEven_8 : decode cX9_isEven 8 = .ok (.isub, 1) := by decide +kernel
theorem dX9_isEven_9 : decode cX9_isEven 9 = .ok (.invokestatic 89, 3) := by decide +kernel
theorem dX9_isEven_12 : decode cX9_isEven 12 = .ok (.iconst 1, 1) := by decide +kernel
theorem dX9_isEven_13 : decode cX9_isEven 13 = .ok (.if_icmp .gt 7, 3) := by decide +kernel
theorem dX9_isEven_16 : decode cX9_isEven 16 = .ok (.iconst 1, 1) := by decide +kernel
theorem dX9_isEven_17 : decode cX9_isEven 17 = .ok (.goto 4, 3) := by decide +kernel
theorem dX9_isEven_20 : decode cX9_isEven 20 = .ok (.iconst 0, 1) := by decide +kernel
theorem dX9_isEven_21 : decode cX9_isEven 21 = .ok (.ireturn, 1) := by decide +kernel
theorem dX9_pulling_0 : decode cX9_pulling 0 = .ok (.aload_n 0, 1) := by decide +kernel
theorem dX9_pulling_1 : decode cX9_pulling 1 = .ok (.getfield 15, 3) := by decide +kernel
theorem dX9_pulling_4 : decode cX9_pulling 4 = .ok (.aload_n 1, 1) := by decide +kernel
theorem dX9_pulling_5 : decode cX9_pulling 5 = .ok (.iconst 0, 1) := by decide +kernel
theorem dX9_pulling_6 : decode cX9_pulling 6 = .ok (.aload_n 0, 1) := by decide +kernel
theorem dX9_pulling_7 : decode cX9_pulling 7 = .ok (.iconst (-1), 1) := by decide +kernel
theorem dX9_pulling_8 : decode cX9_pulling 8 = .ok (.invokevirtual 95, 3) := by decide +kernel
theorem dX9_pulling_11 : decode cX9_pulling 11 = .ok (.iadd, 1) := by decide +kernel
theorem dX9_pulling_12 : decode cX9_pulling 12 = .ok (.ireturn, 1) := by decide +kernel
theorem dX9_leaking_0 : decode cX9_leaking 0 = .ok (.aload_n 0, 1) := by decide +kernel
theorem dX9_leaking_1 : decode cX9_leaking 1 = .ok (.invokevirtual 85, 3) := by decide +kernel
theorem dX9_leaking_4 : decode cX9_leaking 4 = .ok (.aload_n 0, 1) := by decide +kernel
theorem dX9_leaking_5 : decode cX9_leaking 5 = .ok (.getfield 9, 3) := by decide +kernel
theorem dX9_leaking_8 : decode cX9_leaking 8 = .ok (.if_icmp .le 7, 3) := by decide +kernel
theorem dX9_leaking_11 : decode cX9_leaking 11 = .ok (.iconst 1, 1) := by decide +kernel
theorem dX9_leaking_12 : decode cX9_leaking 12 = .ok (.goto 4, 3) := by decide +kernel
theorem dX9_leaking_15 : decode cX9_leaking 15 = .ok (.iconst 0, 1) := by decide +kernel
theorem dX9_leaking_16 : decode cX9_leaking 16 = .ok (.aload_n 1, 1) := by decide +kernel
theorem dX9_leaking_17 : decode cX9_leaking 17 = .ok (.iconst 1, 1) := by decide +kernel
theorem dX9_leaking_18 : decode cX9_leaking 18 = .ok (.aload_n 0, 1) := by decide +kernel
theorem dX9_leaking_19 : decode cX9_leaking 19 = .ok (.iconst (-1), 1) := by decide +kernel
theorem dX9_leaking_20 : decode cX9_leaking 20 = .ok (.invokevirtual 95, 3) := by decide +kernel
theorem dX9_leaking_23 : decode cX9_leaking 23 = .ok (.iadd, 1) := by decide +kernel
theorem dX9_leaking_24 : decode cX9_leaking 24 = .ok (.ireturn, 1) := by decide +kernel
theorem dX9_nextSurge_0 : decode cX9_nextSurge 0 = .ok (.aload_n 0, 1) := by decide +kernel
theorem dX9_nextSurge_1 : decode cX9_nextSurge 1 = .ok (.ldc 101, 2) := by decide +kernel
theorem dX9_nextSurge_3 : decode cX9_nextSurge 3 = .ok (.aload_n 0, 1) := by decide +kernel
theorem dX9_nextSurge_4 : decode cX9_nextSurge 4 = .ok (.getfield 21, 3) := by decide +kernel
theorem dX9_nextSurge_7 : decode cX9_nextSurge 7 = .ok (.imul, 1) := by decide +kernel
theorem dX9_nextSurge_8 : decode cX9_nextSurge 8 = .ok (.sipush 12345, 3) := by decide +kernel
theorem dX9_nextSurge_11 : decode cX9_nextSurge 11 = .ok (.iadd, 1) := by decide +kernel
theorem dX9_nextSurge_12 : decode cX9_nextSurge 12 = .ok (.putfield 21, 3) := by decide +kernel
theorem dX9_nextSurge_15 : decode cX9_nextSurge 15 = .ok (.aload_n 0, 1) := by decide +kernel
theorem dX9_nextSurge_16 : decode cX9_nextSurge 16 = .ok (.getfield 21, 3) := by decide +kernel
theorem dX9_nextSurge_19 : decode cX9_nextSurge 19 = .ok (.bipush 16, 2) := by decide +kernel
theorem dX9_nextSurge_21 : decode cX9_nextSurge 21 = .ok (.iushr, 1) := by decide +kernel
theorem dX9_nextSurge_22 : decode cX9_nextSurge 22 = .ok (.sipush 32767, 3) := by decide +kernel
theorem dX9_nextSurge_25 : decode cX9_nextSurge 25 = .ok (.iand, 1) := by decide +kernel
theorem dX9_nextSurge_26 : decode cX9_nextSurge 26 = .ok (.istore_n 1, 1) := by decide +kernel
theorem dX9_nextSurge_27 : decode cX9_nextSurge 27 = .ok (.aload_n 0, 1) := by decide +kernel
theorem dX9_nextSurge_28 : decode cX9_nextSurge 28 = .ok (.getfield 57, 3) := by decide +kernel
theorem dX9_nextSurge_31 : decode cX9_nextSurge 31 = .ok (.ifCond .le 14, 3) := by decide +kernel
theorem dX9_nextSurge_34 : decode cX9_nextSurge 34 = .ok (.iload_n 1, 1) := by decide +kernel
theorem dX9_nextSurge_35 : decode cX9_nextSurge 35 = .ok (.aload_n 0, 1) := by decide +kernel
theorem dX9_nextSurge_36 : decode cX9_nextSurge 36 = .ok (.getfield 57, 3) := by decide +kernel
theorem dX9_nextSurge_39 : decode cX9_nextSurge 39 = .ok (.iconst 1, 1) := by decide +kernel
theorem dX9_nextSurge_40 : decode cX9_nextSurge 40 = .ok (.iadd, 1) := by decide +kernel
theorem dX9_nextSurge_41 : decode cX9_nextSurge 41 = .ok (.irem, 1) := by decide +kernel
theorem dX9_nextSurge_42 : decode cX9_nextSurge 42 = .ok (.goto 4, 3) := by decide +kernel
theorem dX9_nextSurge_45 : decode cX9_nextSurge 45 = .ok (.iconst 0, 1) := by decide +kernel
theorem dX9_nextSurge_46 : decode cX9_nextSurge 46 = .ok (.ireturn, 1) := by decide +kernel
theorem dX9_pass_0 : decode cX9_pass 0 = .ok (.iconst 0, 1) := by decide +kernel
theorem dX9_pass_1 : decode cX9_pass 1 = .ok (.istore 4, 2) := by decide +kernel
theorem dX9_pass_3 : decode cX9_pass 3 = .ok (.iconst 0, 1) := by decide +kernel
theorem dX9_pass_4 : decode cX9_pass 4 = .ok (.istore 5, 2) := by decide +kernel
theorem dX9_pass_6 : decode cX9_pass 6 = .ok (.iload 5, 2) := by decide +kernel
theorem dX9_pass_8 : decode cX9_pass 8 = .ok (.iload_n 1, 1) := by decide +kernel
theorem dX9_pass_9 : decode cX9_pass 9 = .ok (.if_icmp .ge 20, 3) := by decide +kernel
theorem dX9_pass_12 : decode cX9_pass 12 = .ok (.iload 4, 2) := by decide +kernel
theorem dX9_pass_14 : decode cX9_pass 14 = .ok (.aload_n 0, 1) := by decide +kernel
theorem dX9_pass_15 : decode cX9_pass 15 = .ok (.aload_n 2, 1) := by decide +kernel
theorem dX9_pass_16 : decode cX9_pass 16 = .ok (.iload_n 3, 1) := by decide +kernel
theorem dX9_pass_17 : decode cX9_pass 17 = .ok (.invokevirtual 102, 3) := by decide +kernel
theorem dX9_pass_20 : decode cX9_pass 20 = .ok (.iadd, 1) := by decide +kernel
theorem dX9_pass_21 : decode cX9_pass 21 = .ok (.istore 4, 2) := by decide +kernel
theorem dX9_pass_23 : decode cX9_pass 23 = .ok (.iinc 5 1, 3) := by decide +kernel
theorem dX9_pass_26 : decode cX9_pass 26 = .ok (.goto (-20), 3) := by decide +kernel
theorem dX9_pass_29 : decode cX9_pass 29 = .ok (.iload 4, 2) := by decide +kernel
theorem dX9_pass_31 : decode cX9_pass 31 = .ok (.ireturn, 1) := by decide +kernel
theorem dX9_step_0 : decode cX9_step 0 = .ok (.aload_n 0, 1) := by decide +kernel
theorem dX9_step_1 : decode cX9_step 1 = .ok (.aload_n 0, 1) := by decide +kernel
theorem dX9_step_2 : decode cX9_step 2 = .ok (.getfield 54, 3) := by decide +kernel
theorem dX9_step_5 : decode cX9_step 5 = .ok (.iconst 1, 1) := by decide +kernel
theorem dX9_step_6 : decode cX9_step 6 = .ok (.iadd, 1) := by decide +kernel
theorem dX9_step_7 : decode cX9_step 7 = .ok (.sipush 9999, 3) := by decide +kernel
theorem dX9_step_10 : decode cX9_step 10 = .ok (.invokestatic 106, 3) := by decide +kernel
theorem dX9_step_13 : decode cX9_step 13 = .ok (.putfield 54, 3) := by decide +kernel
theorem dX9_step_16 : decode cX9_step 16 = .ok (.aload_n 0, 1) := by decide +kernel
theorem dX9_step_17 : decode cX9_step 17 = .ok (.getfield 24, 3) := by decide +kernel
theorem dX9_step_20 : decode cX9_step 20 = .ok (.ifCond .eq 27, 3) := by decide +kernel
theorem dX9_step_23 : decode cX9_step 23 = .ok (.aload_n 0, 1) := by decide +kernel
theorem dX9_step_24 : decode cX9_step 24 = .ok (.aload_n 0, 1) := by decide +kernel
theorem dX9_step_25 : decode cX9_step 25 = .ok (.invokevirtual 85, 3) := by decide +kernel
theorem dX9_step_28 : decode cX9_step 28 = .ok (.iload_n 2, 1) := by decide +kernel
theorem dX9_step_29 : decode cX9_step 29 = .ok (.ifCond .eq 10, 3) := by decide +kernel
theorem dX9_step_32 : decode cX9_step 32 = .ok (.aload_n 0, 1) := by decide +kernel
theorem dX9_step_33 : decode cX9_step 33 = .ok (.invokevirtual 110, 3) := by decide +kernel
theorem dX9_step_36 : decode cX9_step 36 = .ok (.goto 4, 3) := by decide +kernel
theorem dX9_step_39 : decode cX9_step 39 = .ok (.iconst 0, 1) := by decide +kernel
theorem dX9_step_40 : decode cX9_step 40 = .ok (.iadd, 1) := by decide +kernel
theorem dX9_step_41 : decode cX9_step 41 = .ok (.putfield 9, 3) := by decide +kernel
theorem dX9_step_44 : decode cX9_step 44 = .ok (.goto 32, 3) := by decide +kernel
theorem dX9_step_47 : decode cX9_step 47 = .ok (.aload_n 0, 1) := by decide +kernel
theorem dX9_step_48 : decode cX9_step 48 = .ok (.iconst 0, 1) := by decide +kernel
theorem dX9_step_49 : decode cX9_step 49 = .ok (.bipush 40, 2) := by decide +kernel
theorem dX9_step_51 : decode cX9_step 51 = .ok (.aload_n 0, 1) := by decide +kernel
theorem dX9_step_52 : decode cX9_step 52 = .ok (.getfield 9, 3) := by decide +kernel
theorem dX9_step_55 : decode cX9_step 55 = .ok (.aload_n 0, 1) := by decide +kernel
theorem dX9_step_56 : decode cX9_step 56 = .ok (.aload_n 1, 1) := by decide +kernel
theorem dX9_step_57 : decode cX9_step 57 = .ok (.invokevirtual 113, 3) := by decide +kernel
theorem dX9_step_60 : decode cX9_step 60 = .ok (.iadd, 1) := by decide +kernel
theorem dX9_step_61 : decode cX9_step 61 = .ok (.aload_n 0, 1) := by decide +kernel
theorem dX9_step_62 : decode cX9_step 62 = .ok (.aload_n 1, 1) := by decide +kernel
theorem dX9_step_63 : decode cX9_step 63 = .ok (.invokevirtual 117, 3) := by decide +kernel
theorem dX9_step_66 : decode cX9_step 66 = .ok (.isub, 1) := by decide +kernel
theorem dX9_step_67 : decode cX9_step 67 = .ok (.invokestatic 106, 3) := by decide +kernel
theorem dX9_step_70 : decode cX9_step 70 = .ok (.invokestatic 120, 3) := by decide +kernel
theorem dX9_step_73 : decode cX9_step 73 = .ok (.putfield 9, 3) := by decide +kernel
theorem dX9_step_76 : decode cX9_step 76 = .ok (.aload_n 0, 1) := by decide +kernel
theorem dX9_step_77 : decode cX9_step 77 = .ok (.invokevirtual 123, 3) := by decide +kernel
theorem dX9_step_80 : decode cX9_step 80 = .ok (.aload_n 0, 1) := by decide +kernel
theorem dX9_step_81 : decode cX9_step 81 = .ok (.getfield 9, 3) := by decide +kernel
theorem dX9_step_84 : decode cX9_step 84 = .ok (.iconst 2, 1) := by decide +kernel
theorem dX9_step_85 : decode cX9_step 85 = .ok (.if_icmp .gt 10, 3) := by decide +kernel
theorem dX9_step_88 : decode cX9_step 88 = .ok (.aload_n 0, 1) := by decide +kernel
theorem dX9_step_89 : decode cX9_step 89 = .ok (.invokevirtual 126, 3) := by decide +kernel
theorem dX9_step_92 : decode cX9_step 92 = .ok (.goto 4, 3) := by decide +kernel
theorem dX9_step_95 : decode cX9_step 95 = .ok (.iconst 0, 1) := by decide +kernel
theorem dX9_step_96 : decode cX9_step 96 = .ok (.ireturn, 1) := by decide +kernel
theorem dX9_hurtUnborne_0 : decode cX9_hurtUnborne 0 = .ok (.iconst 0, 1) := by decide +kernel
theorem dX9_hurtUnborne_1 : decode cX9_hurtUnborne 1 = .ok (.istore_n 1, 1) := by decide +kernel
theorem dX9_hurtUnborne_2 : decode cX9_hurtUnborne 2 = .ok (.iload_n 1, 1) := by decide +kernel
theorem dX9_hurtUnborne_3 : decode cX9_hurtUnborne 3 = .ok (.aload_n 0, 1) := by decide +kernel
theorem dX9_hurtUnborne_4 : decode cX9_hurtUnborne 4 = .ok (.getfield 66, 3) := by decide +kernel
theorem dX9_hurtUnborne_7 : decode cX9_hurtUnborne 7 = .ok (.if_icmp .ge 87, 3) := by decide +kernel
theorem dX9_hurtUnborne_10 : decode cX9_hurtUnborne 10 = .ok (.aload_n 0, 1) := by decide +kernel
theorem dX9_hurtUnborne_11 : decode cX9_hurtUnborne 11 = .ok (.iload_n 1, 1) := by decide +kernel
theorem dX9_hurtUnborne_12 : decode cX9_hurtUnborne 12 = .ok (.invokevirtual 129, 3) := by decide +kernel
theorem dX9_hurtUnborne_15 : decode cX9_hurtUnborne 15 = .ok (.ifCond .eq 73, 3) := by decide +kernel
theorem dX9_hurtUnborne_18 : decode cX9_hurtUnborne 18 = .ok (.aload_n 0, 1) := by decide +kernel
theorem dX9_hurtUnborne_19 : decode cX9_hurtUnborne 19 = .ok (.iload_n 1, 1) := by decide +kernel
theorem dX9_hurtUnborne_20 : decode cX9_hurtUnborne 20 = .ok (.invokevirtual 133, 3) := by decide +kernel
theorem dX9_hurtUnborne_23 : decode cX9_hurtUnborne 23 = .ok (.ifCond .ne 65, 3) := by decide +kernel
theorem dX9_hurtUnborne_26 : decode cX9_hurtUnborne 26 = .ok (.aload_n 0, 1) := by decide +kernel
theorem dX9_hurtUnborne_27 : decode cX9_hurtUnborne 27 = .ok (.iload_n 1, 1) := by decide +kernel
theorem dX9_hurtUnborne_28 : decode cX9_hurtUnborne 28 = .ok (.invokevirtual 136, 3) := by decide +kernel
theorem dX9_hurtUnborne_31 : decode cX9_hurtUnborne 31 = .ok (.ifCond .ne 57, 3) := by decide +kernel
theorem dX9_hurtUnborne_34 : decode cX9_hurtUnborne 34 = .ok (.aload_n 0, 1) := by decide +kernel
theorem dX9_hurtUnborne_35 : decode cX9_hurtUnborne 35 = .ok (.dup, 1) := by decide +kernel
theorem dX9_hurtUnborne_36 : decode cX9_hurtUnborne 36 = .ok (.getfield 72, 3) := by decide +kernel
theorem dX9_hurtUnborne_39 : decode cX9_hurtUnborne 39 = .ok (.iconst 1, 1) := by decide +kernel
theorem dX9_hurtUnborne_40 : decode cX9_hurtUnborne 40 = .ok (.iload_n 1, 1) := by decide +kernel
theorem dX9_hurtUnborne_41 : decode cX9_hurtUnborne 41 = .ok (.ishl, 1) := by decide +kernel
theorem dX9_hurtUnborne_42 : decode cX9_hurtUnborne 42 = .ok (.ior, 1) := by decide +kernel
theorem dX9_hurtUnborne_43 : decode cX9_hurtUnborne 43 = .ok (.putfield 72, 3) := by decide +kernel
theorem dX9_hurtUnborne_46 : decode cX9_hurtUnborne 46 = .ok (.aload_n 0, 1) := by decide +kernel
theorem dX9_hurtUnborne_47 : decode cX9_hurtUnborne 47 = .ok (.getfield 38, 3) := by decide +kernel
theorem dX9_hurtUnborne_50 : decode cX9_hurtUnborne 50 = .ok (.iload_n 1, 1) := by decide +kernel
theorem dX9_hurtUnborne_51 : decode cX9_hurtUnborne 51 = .ok (.aload_n 0, 1) := by decide +kernel
theorem dX9_hurtUnborne_52 : decode cX9_hurtUnborne 52 = .ok (.getfield 38, 3) := by decide +kernel
theorem dX9_hurtUnborne_55 : decode cX9_hurtUnborne 55 = .ok (.iload_n 1, 1) := by decide +kernel
theorem dX9_hurtUnborne_56 : decode cX9_hurtUnborne 56 = .ok (.iaload, 1) := by decide +kernel
theorem dX9_hurtUnborne_57 : decode cX9_hurtUnborne 57 = .ok (.iconst 5, 1) := by decide +kernel
theorem dX9_hurtUnborne_58 : decode cX9_hurtUnborne 58 = .ok (.iadd, 1) := by decide +kernel
theorem dX9_hurtUnborne_59 : decode cX9_hurtUnborne 59 = .ok (.bipush 99, 2) := by decide +kernel
theorem dX9_hurtUnborne_61 : decode cX9_hurtUnborne 61 = .ok (.invokestatic 106, 3) := by decide +kernel
theorem dX9_hurtUnborne_64 : decode cX9_hurtUnborne 64 = .ok (.iastore, 1) := by decide +kernel
theorem dX9_hurtUnborne_65 : decode cX9_hurtUnborne 65 = .ok (.aload_n 0, 1) := by decide +kernel
theorem dX9_hurtUnborne_66 : decode cX9_hurtUnborne 66 = .ok (.getfield 50, 3) := by decide +kernel
theorem dX9_hurtUnborne_69 : decode cX9_hurtUnborne 69 = .ok (.aload_n 0, 1) := by decide +kernel
theorem dX9_hurtUnborne_70 : decode cX9_hurtUnborne 70 = .ok (.getfield 54, 3) := by decide +kernel
theorem dX9_hurtUnborne_73 : decode cX9_hurtUnborne 73 = .ok (.iload_n 1, 1) := by decide +kernel
theorem dX9_hurtUnborne_74 : decode cX9_hurtUnborne 74 = .ok (.iconst 2, 1) := by decide +kernel
theorem dX9_hurtUnborne_75 : decode cX9_hurtUnborne 75 = .ok (.aload_n 0, 1) := by decide +kernel
theorem dX9_hurtUnborne_76 : decode cX9_hurtUnborne 76 = .ok (.getfield 44, 3) := by decide +kernel
theorem dX9_hurtUnborne_79 : decode cX9_hurtUnborne 79 = .ok (.iload_n 1, 1) := by decide +kernel
theorem dX9_hurtUnborne_80 : decode cX9_hurtUnborne 80 = .ok (.iaload, 1) := by decide +kernel
theorem dX9_hurtUnborne_81 : decode cX9_hurtUnborne 81 = .ok (.aload_n 0, 1) := by decide +kernel
theorem dX9_hurtUnborne_82 : decode cX9_hurtUnborne 82 = .ok (.getfield 9, 3) := by decide +kernel
theorem dX9_hurtUnborne_85 : decode cX9_hurtUnborne 85 = .ok (.invokevirtual 139, 3) := by decide +kernel
theorem dX9_hurtUnborne_88 : decode cX9_hurtUnborne 88 = .ok (.iinc 1 1, 3) := by decide +kernel
theorem dX9_hurtUnborne_91 : decode cX9_hurtUnborne 91 = .ok (.goto (-89), 3) := by decide +kernel
theorem dX9_hurtUnborne_94 : decode cX9_hurtUnborne 94 = .ok (.return_, 1) := by decide +kernel
theorem dX9_workHands_0 : decode cX9_workHands 0 = .ok (.aload_n 0, 1) := by decide +kernel
theorem dX9_workHands_1 : decode cX9_workHands 1 = .ok (.getfield 18, 3) := by decide +kernel
theorem dX9_workHands_4 : decode cX9_workHands 4 = .ok (.istore_n 1, 1) := by decide +kernel
theorem dX9_workHands_5 : decode cX9_workHands 5 = .ok (.iconst 0, 1) := by decide +kernel
theorem dX9_workHands_6 : decode cX9_workHands 6 = .ok (.istore_n 2, 1) := by decide +kernel
theorem dX9_workHands_7 : decode cX9_workHands 7 = .ok (.iload_n 2, 1) := by decide +kernel
theorem dX9_workHands_8 : decode cX9_workHands 8 = .ok (.aload_n 0, 1) := by decide +kernel
theorem dX9_workHands_9 : decode cX9_workHands 9 = .ok (.getfield 66, 3) := by decide +kernel
theorem dX9_workHands_12 : decode cX9_workHands 12 = .ok (.if_icmp .ge 78, 3) := by decide +kernel
theorem dX9_workHands_15 : decode cX9_workHands 15 = .ok (.aload_n 0, 1) := by decide +kernel
theorem dX9_workHands_16 : decode cX9_workHands 16 = .ok (.iload_n 2, 1) := by decide +kernel
theorem dX9_workHands_17 : decode cX9_workHands 17 = .ok (.invokevirtual 129, 3) := by decide +kernel
theorem dX9_workHands_20 : decode cX9_workHands 20 = .ok (.ifCond .eq 64, 3) := by decide +kernel
theorem dX9_workHands_23 : decode cX9_workHands 23 = .ok (.iload_n 1, 1) := by decide +kernel
theorem dX9_workHands_24 : decode cX9_workHands 24 = .ok (.aload_n 0, 1) := by decide +kernel
theorem dX9_workHands_25 : decode cX9_workHands 25 = .ok (.getfield 38, 3) := by decide +kernel
theorem dX9_workHands_28 : decode cX9_workHands 28 = .ok (.iload_n 2, 1) := by decide +kernel
theorem dX9_workHands_29 : decode cX9_workHands 29 = .ok (.iaload, 1) := by decide +kernel
theorem dX9_workHands_30 : decode cX9_workHands 30 = .ok (.invokestatic 106, 3) := by decide +kernel
theorem dX9_workHands_33 : decode cX9_workHands 33 = .ok (.istore_n 3, 1) := by decide +kernel
theorem dX9_workHands_34 : decode cX9_workHands 34 = .ok (.iload_n 1, 1) := by decide +kernel
theorem dX9_workHands_35 : decode cX9_workHands 35 = .ok (.iload_n 3, 1) := by decide +kernel
theorem dX9_workHands_36 : decode cX9_workHands 36 = .ok (.isub, 1) := by decide +kernel
theorem dX9_workHands_37 : decode cX9_workHands 37 = .ok (.istore_n 1, 1) := by decide +kernel
theorem dX9_workHands_38 : decode cX9_workHands 38 = .ok (.aload_n 0, 1) := by decide +kernel
theorem dX9_workHands_39 : decode cX9_workHands 39 = .ok (.getfield 38, 3) := by decide +kernel
theorem dX9_workHands_42 : decode cX9_workHands 42 = .ok (.iload_n 2, 1) := by decide +kernel
theorem dX9_workHands_43 : decode cX9_workHands 43 = .ok (.dup2, 1) := by decide +kernel
theorem dX9_workHands_44 : decode cX9_workHands 44 = .ok (.iaload, 1) := by decide +kernel
theorem dX9_workHands_45 : decode cX9_workHands 45 = .ok (.iload_n 3, 1) := by decide +kernel
theorem dX9_workHands_46 : decode cX9_workHands 46 = .ok (.isub, 1) := by decide +kernel
theorem dX9_workHands_47 : decode cX9_workHands 47 = .ok (.iastore, 1) := by decide +kernel
theorem dX9_workHands_48 : decode cX9_workHands 48 = .ok (.iload_n 3, 1) := by decide +kernel
theorem dX9_workHands_49 : decode cX9_workHands 49 = .ok (.ifCond .le 35, 3) := by decide +kernel
theorem dX9_workHands_52 : decode cX9_workHands 52 = .ok (.aload_n 0, 1) := by decide +kernel
theorem dX9_workHands_53 : decode cX9_workHands 53 = .ok (.getfield 38, 3) := by decide +kernel
theorem dX9_workHands_56 : decode cX9_workHands 56 = .ok (.iload_n 2, 1) := by decide +kernel
theorem dX9_workHands_57 : decode cX9_workHands 57 = .ok (.iaload, 1) := by decide +kernel
theorem dX9_workHands_58 : decode cX9_workHands 58 = .ok (.ifCond .ne 26, 3) := by decide +kernel
theorem dX9_workHands_61 : decode cX9_workHands 61 = .ok (.aload_n 0, 1) := by decide +kernel
theorem dX9_workHands_62 : decode cX9_workHands 62 = .ok (.getfield 50, 3) := by decide +kernel
theorem dX9_workHands_65 : decode cX9_workHands 65 = .ok (.aload_n 0, 1) := by decide +kernel
theorem dX9_workHands_66 : decode cX9_workHands 66 = .ok (.getfield 54, 3) := by decide +kernel
theorem dX9_workHands_69 : decode cX9_workHands 69 = .ok (.iload_n 2, 1) := by decide +kernel
theorem dX9_workHands_70 : decode cX9_workHands 70 = .ok (.iconst 3, 1) := by decide +kernel
theorem dX9_workHands_71 : decode cX9_workHands 71 = .ok (.aload_n 0, 1) := by decide +kernel
theorem dX9_workHands_72 : decode cX9_workHands 72 = .ok (.getfield 44, 3) := by decide +kernel
theorem dX9_workHands_75 : decode cX9_workHands 75 = .ok (.iload_n 2, 1) := by decide +kernel
theorem dX9_workHands_76 : decode cX9_workHands 76 = .ok (.iaload, 1) := by decide +kernel
theorem dX9_workHands_77 : decode cX9_workHands 77 = .ok (.aload_n 0, 1) := by decide +kernel
theorem dX9_workHands_78 : decode cX9_workHands 78 = .ok (.getfield 9, 3) := by decide +kernel
theorem dX9_workHands_81 : decode cX9_workHands 81 = .ok (.invokevirtual 139, 3) := by decide +kernel
theorem dX9_workHands_84 : decode cX9_workHands 84 = .ok (.iinc 2 1, 3) := by decide +kernel
theorem dX9_workHands_87 : decode cX9_workHands 87 = .ok (.goto (-80), 3) := by decide +kernel
theorem dX9_workHands_90 : decode cX9_workHands 90 = .ok (.aload_n 0, 1) := by decide +kernel
theorem dX9_workHands_91 : decode cX9_workHands 91 = .ok (.getfield 18, 3) := by decide +kernel
theorem dX9_workHands_94 : decode cX9_workHands 94 = .ok (.iload_n 1, 1) := by decide +kernel
theorem dX9_workHands_95 : decode cX9_workHands 95 = .ok (.isub, 1) := by decide +kernel
theorem dX9_workHands_96 : decode cX9_workHands 96 = .ok (.ireturn, 1) := by decide +kernel
theorem dX9_reaches_0 : decode cX9_reaches 0 = .ok (.iload_n 1, 1) := by decide +kernel
theorem dX9_reaches_1 : decode cX9_reaches 1 = .ok (.lookupswitch 54 #[(0, 27), (1, 41)], 27) := by decide +kernel
theorem dX9_reaches_28 : decode cX9_reaches 28 = .ok (.aload_n 0, 1) := by decide +kernel
theorem dX9_reaches_29 : decode cX9_reaches 29 = .ok (.getfield 9, 3) := by decide +kernel
theorem dX9_reaches_32 : decode cX9_reaches 32 = .ok (.iconst 2, 1) := by decide +kernel
theorem dX9_reaches_33 : decode cX9_reaches 33 = .ok (.if_icmp .gt 7, 3) := by decide +kernel
theorem dX9_reaches_36 : decode cX9_reaches 36 = .ok (.iconst 1, 1) := by decide +kernel
theorem dX9_reaches_37 : decode cX9_reaches 37 = .ok (.goto 4, 3) := by decide +kernel
theorem dX9_reaches_40 : decode cX9_reaches 40 = .ok (.iconst 0, 1) := by decide +kernel
theorem dX9_reaches_41 : decode cX9_reaches 41 = .ok (.ireturn, 1) := by decide +kernel
theorem dX9_reaches_42 : decode cX9_reaches 42 = .ok (.aload_n 0, 1) := by decide +kernel
theorem dX9_reaches_43 : decode cX9_reaches 43 = .ok (.invokevirtual 143, 3) := by decide +kernel
theorem dX9_reaches_46 : decode cX9_reaches 46 = .ok (.ifCond .ne 7, 3) := by decide +kernel
theorem dX9_reaches_49 : decode cX9_reaches 49 = .ok (.iconst 1, 1) := by decide +kernel
theorem dX9_reaches_50 : decode cX9_reaches 50 = .ok (.goto 4, 3) := by decide +kernel
theorem dX9_reaches_53 : decode cX9_reaches 53 = .ok (.iconst 0, 1) := by decide +kernel
theorem dX9_reaches_54 : decode cX9_reaches 54 = .ok (.ireturn, 1) := by decide +kernel
theorem dX9_reaches_55 : decode cX9_reaches 55 = .ok (.aload_n 0, 1) := by decide +kernel
theorem dX9_reaches_56 : decode cX9_reaches 56 = .ok (.getfield 24, 3) := by decide +kernel
theorem dX9_reaches_59 : decode cX9_reaches 59 = .ok (.ifCond .ne 10, 3) := by decide +kernel
theorem dX9_reaches_62 : decode cX9_reaches 62 = .ok (.aload_n 0, 1) := by decide +kernel
theorem dX9_reaches_63 : decode cX9_reaches 63 = .ok (.invokevirtual 146, 3) := by decide +kernel
theorem dX9_reaches_66 : decode cX9_reaches 66 = .ok (.ifCond .eq 7, 3) := by decide +kernel
theorem dX9_reaches_69 : decode cX9_reaches 69 = .ok (.iconst 1, 1) := by decide +kernel
theorem dX9_reaches_70 : decode cX9_reaches 70 = .ok (.goto 4, 3) := by decide +kernel
theorem dX9_reaches_73 : decode cX9_reaches 73 = .ok (.iconst 0, 1) := by decide +kernel
theorem dX9_reaches_74 : decode cX9_reaches 74 = .ok (.ireturn, 1) := by decide +kernel
theorem dX9_addShip_0 : decode cX9_addShip 0 = .ok (.aload_n 0, 1) := by decide +kernel
theorem dX9_addShip_1 : decode cX9_addShip 1 = .ok (.getfield 66, 3) := by decide +kernel
theorem dX9_addShip_4 : decode cX9_addShip 4 = .ok (.bipush 8, 2) := by decide +kernel
theorem dX9_addShip_6 : decode cX9_addShip 6 = .ok (.if_icmp .lt 5, 3) := by decide +kernel
theorem dX9_addShip_9 : decode cX9_addShip 9 = .ok (.iconst (-1), 1) := by decide +kernel
theorem dX9_addShip_10 : decode cX9_addShip 10 = .ok (.ireturn, 1) := by decide +kernel
theorem dX9_addShip_11 : decode cX9_addShip 11 = .ok (.aload_n 0, 1) := by decide +kernel
theorem dX9_addShip_12 : decode cX9_addShip 12 = .ok (.getfield 66, 3) := by decide +kernel
theorem dX9_addShip_15 : decode cX9_addShip 15 = .ok (.istore 5, 2) := by decide +kernel
theorem dX9_addShip_17 : decode cX9_addShip 17 = .ok (.aload_n 0, 1) := by decide +kernel
theorem dX9_addShip_18 : decode cX9_addShip 18 = .ok (.getfield 32, 3) := by decide +kernel
theorem dX9_addShip_21 : decode cX9_addShip 21 = .ok (.iload 5, 2) := by decide +kernel
theorem dX9_addShip_23 : decode cX9_addShip 23 = .ok (.iload_n 1, 1) := by decide +kernel
theorem dX9_addShip_24 : decode cX9_addShip 24 = .ok (.iastore, 1) := by decide +kernel
theorem dX9_addShip_25 : decode cX9_addShip 25 = .ok (.aload_n 0, 1) := by decide +kernel
theorem dX9_addShip_26 : decode cX9_addShip 26 = .ok (.getfield 35, 3) := by decide +kernel
theorem dX9_addShip_29 : decode cX9_addShip 29 = .ok (.iload 5, 2) := by decide +kernel
theorem dX9_addShip_31 : decode cX9_addShip 31 = .ok (.iload_n 2, 1) := by decide +kernel
theorem dX9_addShip_32 : decode cX9_addShip 32 = .ok (.iastore, 1) := by decide +kernel
theorem dX9_addShip_33 : decode cX9_addShip 33 = .ok (.aload_n 0, 1) := by decide +kernel
theorem dX9_addShip_34 : decode cX9_addShip 34 = .ok (.getfield 38, 3) := by decide +kernel
theorem dX9_addShip_37 : decode cX9_addShip 37 = .ok (.iload 5, 2) := by decide +kernel
theorem dX9_addShip_39 : decode cX9_addShip 39 = .ok (.iload_n 3, 1) := by decide +kernel
theorem dX9_addShip_40 : decode cX9_addShip 40 = .ok (.iastore, 1) := by decide +kernel
theorem dX9_addShip_41 : decode cX9_addShip 41 = .ok (.aload_n 0, 1) := by decide +kernel
theorem dX9_addShip_42 : decode cX9_addShip 42 = .ok (.getfield 41, 3) := by decide +kernel
theorem dX9_addShip_45 : decode cX9_addShip 45 = .ok (.iload 5, 2) := by decide +kernel
theorem dX9_addShip_47 : decode cX9_addShip 47 = .ok (.iload 4, 2) := by decide +kernel
theorem dX9_addShip_49 : decode cX9_addShip 49 = .ok (.iconst (-1), 1) := by decide +kernel
theorem dX9_addShip_50 : decode cX9_addShip 50 = .ok (.if_icmp .ne 7, 3) := by decide +kernel
theorem dX9_addShip_53 : decode cX9_addShip 53 = .ok (.iconst 0, 1) := by decide +kernel
theorem dX9_addShip_54 : decode cX9_addShip 54 = .ok (.goto 4, 3) := by decide +kernel
theorem dX9_addShip_57 : decode cX9_addShip 57 = .ok (.iconst 1, 1) := by decide +kernel
theorem dX9_addShip_58 : decode cX9_addShip 58 = .ok (.iastore, 1) := by decide +kernel
theorem dX9_addShip_59 : decode cX9_addShip 59 = .ok (.aload_n 0, 1) := by decide +kernel
theorem dX9_addShip_60 : decode cX9_addShip 60 = .ok (.getfield 44, 3) := by decide +kernel
theorem dX9_addShip_63 : decode cX9_addShip 63 = .ok (.iload 5, 2) := by decide +kernel
theorem dX9_addShip_65 : decode cX9_addShip 65 = .ok (.iload 4, 2) := by decide +kernel
theorem dX9_addShip_67 : decode cX9_addShip 67 = .ok (.iastore, 1) := by decide +kernel
theorem dX9_addShip_68 : decode cX9_addShip 68 = .ok (.aload_n 0, 1) := by decide +kernel
theorem dX9_addShip_69 : decode cX9_addShip 69 = .ok (.dup, 1) := by decide +kernel
theorem dX9_addShip_70 : decode cX9_addShip 70 = .ok (.getfield 66, 3) := by decide +kernel
theorem dX9_addShip_73 : decode cX9_addShip 73 = .ok (.iconst 1, 1) := by decide +kernel
theorem dX9_addShip_74 : decode cX9_addShip 74 = .ok (.iadd, 1) := by decide +kernel
theorem dX9_addShip_75 : decode cX9_addShip 75 = .ok (.putfield 66, 3) := by decide +kernel
theorem dX9_addShip_78 : decode cX9_addShip 78 = .ok (.iload 5, 2) := by decide +kernel
theorem dX9_addShip_80 : decode cX9_addShip 80 = .ok (.ireturn, 1) := by decide +kernel
theorem dX9_letIn_0 : decode cX9_letIn 0 = .ok (.aload_n 0, 1) := by decide +kernel
theorem dX9_letIn_1 : decode cX9_letIn 1 = .ok (.getfield 41, 3) := by decide +kernel
theorem dX9_letIn_4 : decode cX9_letIn 4 = .ok (.iload_n 1, 1) := by decide +kernel
theorem dX9_letIn_5 : decode cX9_letIn 5 = .ok (.iconst 1, 1) := by decide +kernel
theorem dX9_letIn_6 : decode cX9_letIn 6 = .ok (.iastore, 1) := by decide +kernel
theorem dX9_letIn_7 : decode cX9_letIn 7 = .ok (.aload_n 0, 1) := by decide +kernel
theorem dX9_letIn_8 : decode cX9_letIn 8 = .ok (.getfield 44, 3) := by decide +kernel
theorem dX9_letIn_11 : decode cX9_letIn 11 = .ok (.iload_n 1, 1) := by decide +kernel
theorem dX9_letIn_12 : decode cX9_letIn 12 = .ok (.iload_n 2, 1) := by decide +kernel
theorem dX9_letIn_13 : decode cX9_letIn 13 = .ok (.iastore, 1) := by decide +kernel
theorem dX9_letIn_14 : decode cX9_letIn 14 = .ok (.aload_n 0, 1) := by decide +kernel
theorem dX9_letIn_15 : decode cX9_letIn 15 = .ok (.getfield 50, 3) := by decide +kernel
theorem dX9_letIn_18 : decode cX9_letIn 18 = .ok (.aload_n 0, 1) := by decide +kernel
theorem dX9_letIn_19 : decode cX9_letIn 19 = .ok (.getfield 54, 3) := by decide +kernel
theorem dX9_letIn_22 : decode cX9_letIn 22 = .ok (.iload_n 1, 1) := by decide +kernel
theorem dX9_letIn_23 : decode cX9_letIn 23 = .ok (.iconst 0, 1) := by decide +kernel
theorem dX9_letIn_24 : decode cX9_letIn 24 = .ok (.iload_n 2, 1) := by decide +kernel
theorem dX9_letIn_25 : decode cX9_letIn 25 = .ok (.aload_n 0, 1) := by decide +kernel
theorem dX9_letIn_26 : decode cX9_letIn 26 = .ok (.getfield 9, 3) := by decide +kernel
theorem dX9_letIn_29 : decode cX9_letIn 29 = .ok (.invokevirtual 139, 3) := by decide +kernel
theorem dX9_letIn_32 : decode cX9_letIn 32 = .ok (.return_, 1) := by decide +kernel
theorem dX9_letOut_0 : decode cX9_letOut 0 = .ok (.aload_n 0, 1) := by decide +kernel
theorem dX9_letOut_1 : decode cX9_letOut 1 = .ok (.iload_n 1, 1) := by decide +kernel
theorem dX9_letOut_2 : decode cX9_letOut 2 = .ok (.aload_n 2, 1) := by decide +kernel
theorem dX9_letOut_3 : decode cX9_letOut 3 = .ok (.invokevirtual 150, 3) := by decide +kernel
theorem dX9_letOut_6 : decode cX9_letOut 6 = .ok (.istore_n 3, 1) := by decide +kernel
theorem dX9_letOut_7 : decode cX9_letOut 7 = .ok (.aload_n 0, 1) := by decide +kernel
theorem dX9_letOut_8 : decode cX9_letOut 8 = .ok (.getfield 50, 3) := by decide +kernel
theorem dX9_letOut_11 : decode cX9_letOut 11 = .ok (.aload_n 0, 1) := by decide +kernel
theorem dX9_letOut_12 : decode cX9_letOut 12 = .ok (.getfield 54, 3) := by decide +kernel
theorem dX9_letOut_15 : decode cX9_letOut 15 = .ok (.iload_n 1, 1) := by decide +kernel
theorem dX9_letOut_16 : decode cX9_letOut 16 = .ok (.iconst 1, 1) := by decide +kernel
theorem dX9_letOut_17 : decode cX9_letOut 17 = .ok (.aload_n 0, 1) := by decide +kernel
theorem dX9_letOut_18 : decode cX9_letOut 18 = .ok (.getfield 44, 3) := by decide +kernel
theorem dX9_letOut_21 : decode cX9_letOut 21 = .ok (.iload_n 1, 1) := by decide +kernel
theorem dX9_letOut_22 : decode cX9_letOut 22 = .ok (.iaload, 1) := by decide +kernel
theorem dX9_letOut_23 : decode cX9_letOut 23 = .ok (.aload_n 0, 1) := by decide +kernel
theorem dX9_letOut_24 : decode cX9_letOut 24 = .ok (.getfield 9, 3) := by decide +kernel
theorem dX9_letOut_27 : decode cX9_letOut 27 = .ok (.invokevirtual 139, 3) := by decide +kernel
theorem dX9_letOut_30 : decode cX9_letOut 30 = .ok (.aload_n 0, 1) := by decide +kernel
theorem dX9_letOut_31 : decode cX9_letOut 31 = .ok (.getfield 41, 3) := by decide +kernel
theorem dX9_letOut_34 : decode cX9_letOut 34 = .ok (.iload_n 1, 1) := by decide +kernel
theorem dX9_letOut_35 : decode cX9_letOut 35 = .ok (.iconst 2, 1) := by decide +kernel
theorem dX9_letOut_36 : decode cX9_letOut 36 = .ok (.iastore, 1) := by decide +kernel
theorem dX9_letOut_37 : decode cX9_letOut 37 = .ok (.aload_n 0, 1) := by decide +kernel
theorem dX9_letOut_38 : decode cX9_letOut 38 = .ok (.getfield 44, 3) := by decide +kernel
theorem dX9_letOut_41 : decode cX9_letOut 41 = .ok (.iload_n 1, 1) := by decide +kernel
theorem dX9_letOut_42 : decode cX9_letOut 42 = .ok (.iconst (-1), 1) := by decide +kernel
theorem dX9_letOut_43 : decode cX9_letOut 43 = .ok (.iastore, 1) := by decide +kernel
theorem dX9_letOut_44 : decode cX9_letOut 44 = .ok (.aload_n 0, 1) := by decide +kernel
theorem dX9_letOut_45 : decode cX9_letOut 45 = .ok (.aload_n 0, 1) := by decide +kernel
theorem dX9_letOut_46 : decode cX9_letOut 46 = .ok (.getfield 60, 3) := by decide +kernel
theorem dX9_letOut_49 : decode cX9_letOut 49 = .ok (.iload_n 3, 1) := by decide +kernel
theorem dX9_letOut_50 : decode cX9_letOut 50 = .ok (.iadd, 1) := by decide +kernel
theorem dX9_letOut_51 : decode cX9_letOut 51 = .ok (.sipush 9999, 3) := by decide +kernel
theorem dX9_letOut_54 : decode cX9_letOut 54 = .ok (.invokestatic 106, 3) := by decide +kernel
theorem dX9_letOut_57 : decode cX9_letOut 57 = .ok (.putfield 60, 3) := by decide +kernel
theorem dX9_letOut_60 : decode cX9_letOut 60 = .ok (.iload_n 3, 1) := by decide +kernel
theorem dX9_letOut_61 : decode cX9_letOut 61 = .ok (.ireturn, 1) := by decide +kernel
theorem dX9_isHurt_0 : decode cX9_isHurt 0 = .ok (.aload_n 0, 1) := by decide +kernel
theorem dX9_isHurt_1 : decode cX9_isHurt 1 = .ok (.getfield 72, 3) := by decide +kernel
theorem dX9_isHurt_4 : decode cX9_isHurt 4 = .ok (.iload_n 1, 1) := by decide +kernel
theorem dX9_isHurt_5 : decode cX9_isHurt 5 = .ok (.ishr, 1) := by decide +kernel
theorem dX9_isHurt_6 : decode cX9_isHurt 6 = .ok (.iconst 1, 1) := by decide +kernel
theorem dX9_isHurt_7 : decode cX9_isHurt 7 = .ok (.iand, 1) := by decide +kernel
theorem dX9_isHurt_8 : decode cX9_isHurt 8 = .ok (.iconst 1, 1) := by decide +kernel
theorem dX9_isHurt_9 : decode cX9_isHurt 9 = .ok (.if_icmp .ne 7, 3) := by decide +kernel
theorem dX9_isHurt_12 : decode cX9_isHurt 12 = .ok (.iconst 1, 1) := by decide +kernel
theorem dX9_isHurt_13 : decode cX9_isHurt 13 = .ok (.goto 4, 3) := by decide +kernel
theorem dX9_isHurt_16 : decode cX9_isHurt 16 = .ok (.iconst 0, 1) := by decide +kernel
theorem dX9_isHurt_17 : decode cX9_isHurt 17 = .ok (.ireturn, 1) := by decide +kernel
theorem dX9_floats_0 : decode cX9_floats 0 = .ok (.aload_n 0, 1) := by decide +kernel
theorem dX9_floats_1 : decode cX9_floats 1 = .ok (.getfield 41, 3) := by decide +kernel
theorem dX9_floats_4 : decode cX9_floats 4 = .ok (.iload_n 1, 1) := by decide +kernel
theorem dX9_floats_5 : decode cX9_floats 5 = .ok (.iaload, 1) := by decide +kernel
theorem dX9_floats_6 : decode cX9_floats 6 = .ok (.iconst 1, 1) := by decide +kernel
theorem dX9_floats_7 : decode cX9_floats 7 = .ok (.if_icmp .ne 20, 3) := by decide +kernel
theorem dX9_floats_10 : decode cX9_floats 10 = .ok (.aload_n 0, 1) := by decide +kernel
theorem dX9_floats_11 : decode cX9_floats 11 = .ok (.getfield 35, 3) := by decide +kernel
theorem dX9_floats_14 : decode cX9_floats 14 = .ok (.iload_n 1, 1) := by decide +kernel
theorem dX9_floats_15 : decode cX9_floats 15 = .ok (.iaload, 1) := by decide +kernel
theorem dX9_floats_16 : decode cX9_floats 16 = .ok (.aload_n 0, 1) := by decide +kernel
theorem dX9_floats_17 : decode cX9_floats 17 = .ok (.getfield 9, 3) := by decide +kernel
theorem dX9_floats_20 : decode cX9_floats 20 = .ok (.if_icmp .gt 7, 3) := by decide +kernel
theorem dX9_floats_23 : decode cX9_floats 23 = .ok (.iconst 1, 1) := by decide +kernel
theorem dX9_floats_24 : decode cX9_floats 24 = .ok (.goto 4, 3) := by decide +kernel
theorem dX9_floats_27 : decode cX9_floats 27 = .ok (.iconst 0, 1) := by decide +kernel
theorem dX9_floats_28 : decode cX9_floats 28 = .ok (.ireturn, 1) := by decide +kernel
theorem dX9_sits_0 : decode cX9_sits 0 = .ok (.aload_n 0, 1) := by decide +kernel
theorem dX9_sits_1 : decode cX9_sits 1 = .ok (.getfield 41, 3) := by decide +kernel
theorem dX9_sits_4 : decode cX9_sits 4 = .ok (.iload_n 1, 1) := by decide +kernel
theorem dX9_sits_5 : decode cX9_sits 5 = .ok (.iaload, 1) := by decide +kernel
theorem dX9_sits_6 : decode cX9_sits 6 = .ok (.iconst 1, 1) := by decide +kernel
theorem dX9_sits_7 : decode cX9_sits 7 = .ok (.if_icmp .ne 20, 3) := by decide +kernel
theorem dX9_sits_10 : decode cX9_sits 10 = .ok (.aload_n 0, 1) := by decide +kernel
theorem dX9_sits_11 : decode cX9_sits 11 = .ok (.getfield 35, 3) := by decide +kernel
theorem dX9_sits_14 : decode cX9_sits 14 = .ok (.iload_n 1, 1) := by decide +kernel
theorem dX9_sits_15 : decode cX9_sits 15 = .ok (.iaload, 1) := by decide +kernel
theorem dX9_sits_16 : decode cX9_sits 16 = .ok (.aload_n 0, 1) := by decide +kernel
theorem dX9_sits_17 : decode cX9_sits 17 = .ok (.getfield 9, 3) := by decide +kernel
theorem dX9_sits_20 : decode cX9_sits 20 = .ok (.if_icmp .le 7, 3) := by decide +kernel
theorem dX9_sits_23 : decode cX9_sits 23 = .ok (.iconst 1, 1) := by decide +kernel
theorem dX9_sits_24 : decode cX9_sits 24 = .ok (.goto 4, 3) := by decide +kernel
theorem dX9_sits_27 : decode cX9_sits 27 = .ok (.iconst 0, 1) := by decide +kernel
theorem dX9_sits_28 : decode cX9_sits 28 = .ok (.ireturn, 1) := by decide +kernel
theorem dX9_isBorne_0 : decode cX9_isBorne 0 = .ok (.aload_n 0, 1) := by decide +kernel
theorem dX9_isBorne_1 : decode cX9_isBorne 1 = .ok (.iload_n 1, 1) := by decide +kernel
theorem dX9_isBorne_2 : decode cX9_isBorne 2 = .ok (.invokevirtual 154, 3) := by decide +kernel
theorem dX9_isBorne_5 : decode cX9_isBorne 5 = .ok (.ifCond .ne 7, 3) := by decide +kernel
theorem dX9_isBorne_8 : decode cX9_isBorne 8 = .ok (.iconst 1, 1) := by decide +kernel
theorem dX9_isBorne_9 : decode cX9_isBorne 9 = .ok (.goto 4, 3) := by decide +kernel
theorem dX9_isBorne_12 : decode cX9_isBorne 12 = .ok (.iconst 0, 1) := by decide +kernel
theorem dX9_isBorne_13 : decode cX9_isBorne 13 = .ok (.ireturn, 1) := by decide +kernel
theorem dX9_wedgesOf_0 : decode cX9_wedgesOf 0 = .ok (.aload_n 0, 1) := by decide +kernel
theorem dX9_wedgesOf_1 : decode cX9_wedgesOf 1 = .ok (.getfield 41, 3) := by decide +kernel
theorem dX9_wedgesOf_4 : decode cX9_wedgesOf 4 = .ok (.iload_n 1, 1) := by decide +kernel
theorem dX9_wedgesOf_5 : decode cX9_wedgesOf 5 = .ok (.iaload, 1) := by decide +kernel
theorem dX9_wedgesOf_6 : decode cX9_wedgesOf 6 = .ok (.iconst 1, 1) := by decide +kernel
theorem dX9_wedgesOf_7 : decode cX9_wedgesOf 7 = .ok (.if_icmp .eq 5, 3) := by decide +kernel
theorem dX9_wedgesOf_10 : decode cX9_wedgesOf 10 = .ok (.iconst (-1), 1) := by decide +kernel
theorem dX9_wedgesOf_11 : decode cX9_wedgesOf 11 = .ok (.ireturn, 1) := by decide +kernel
theorem dX9_wedgesOf_12 : decode cX9_wedgesOf 12 = .ok (.aload_n 0, 1) := by decide +kernel
theorem dX9_wedgesOf_13 : decode cX9_wedgesOf 13 = .ok (.getfield 32, 3) := by decide +kernel
theorem dX9_wedgesOf_16 : decode cX9_wedgesOf 16 = .ok (.iload_n 1, 1) := by decide +kernel
theorem dX9_wedgesOf_17 : decode cX9_wedgesOf 17 = .ok (.iaload, 1) := by decide +kernel
theorem dX9_wedgesOf_18 : decode cX9_wedgesOf 18 = .ok (.iconst 3, 1) := by decide +kernel
theorem dX9_wedgesOf_19 : decode cX9_wedgesOf 19 = .ok (.if_icmp .ge 32, 3) := by decide +kernel
theorem dX9_wedgesOf_22 : decode cX9_wedgesOf 22 = .ok (.aload_n 0, 1) := by decide +kernel
theorem dX9_wedgesOf_23 : decode cX9_wedgesOf 23 = .ok (.getfield 69, 3) := by decide +kernel
theorem dX9_wedgesOf_26 : decode cX9_wedgesOf 26 = .ok (.aload_n 0, 1) := by decide +kernel
theorem dX9_wedgesOf_27 : decode cX9_wedgesOf 27 = .ok (.getfield 44, 3) := by decide +kernel
theorem dX9_wedgesOf_30 : decode cX9_wedgesOf 30 = .ok (.iload_n 1, 1) := by decide +kernel
theorem dX9_wedgesOf_31 : decode cX9_wedgesOf 31 = .ok (.iaload, 1) := by decide +kernel
theorem dX9_wedgesOf_32 : decode cX9_wedgesOf 32 = .ok (.aload_n 0, 1) := by decide +kernel
theorem dX9_wedgesOf_33 : decode cX9_wedgesOf 33 = .ok (.getfield 32, 3) := by decide +kernel
theorem dX9_wedgesOf_36 : decode cX9_wedgesOf 36 = .ok (.iload_n 1, 1) := by decide +kernel
theorem dX9_wedgesOf_37 : decode cX9_wedgesOf 37 = .ok (.iaload, 1) := by decide +kernel
theorem dX9_wedgesOf_38 : decode cX9_wedgesOf 38 = .ok (.invokestatic 157, 3) := by decide +kernel
theorem dX9_wedgesOf_41 : decode cX9_wedgesOf 41 = .ok (.iand, 1) := by decide +kernel
theorem dX9_wedgesOf_42 : decode cX9_wedgesOf 42 = .ok (.ifCond .ne 7, 3) := by decide +kernel
theorem dX9_wedgesOf_45 : decode cX9_wedgesOf 45 = .ok (.iconst 1, 1) := by decide +kernel
theorem dX9_wedgesOf_46 : decode cX9_wedgesOf 46 = .ok (.goto 4, 3) := by decide +kernel
theorem dX9_wedgesOf_49 : decode cX9_wedgesOf 49 = .ok (.iconst 0, 1) := by decide +kernel
theorem dX9_wedgesOf_50 : decode cX9_wedgesOf 50 = .ok (.ireturn, 1) := by decide +kernel
theorem dX9_wedgesOf_51 : decode cX9_wedgesOf 51 = .ok (.iconst 0, 1) := by decide +kernel
theorem dX9_wedgesOf_52 : decode cX9_wedgesOf 52 = .ok (.istore_n 2, 1) := by decide +kernel
theorem dX9_wedgesOf_53 : decode cX9_wedgesOf 53 = .ok (.iconst 0, 1) := by decide +kernel
theorem dX9_wedgesOf_54 : decode cX9_wedgesOf 54 = .ok (.istore_n 3, 1) := by decide +kernel
theorem dX9_wedgesOf_55 : decode cX9_wedgesOf 55 = .ok (.iconst 0, 1) := by decide +kernel
theorem dX9_wedgesOf_56 : decode cX9_wedgesOf 56 = .ok (.istore 4, 2) := by decide +kernel
theorem dX9_wedgesOf_58 : decode cX9_wedgesOf 58 = .ok (.iload 4, 2) := by decide +kernel
theorem dX9_wedgesOf_60 : decode cX9_wedgesOf 60 = .ok (.aload_n 0, 1) := by decide +kernel
theorem dX9_wedgesOf_61 : decode cX9_wedgesOf 61 = .ok (.getfield 32, 3) := by decide +kernel
theorem dX9_wedgesOf_64 : decode cX9_wedgesOf 64 = .ok (.iload_n 1, 1) := by decide +kernel
theorem dX9_wedgesOf_65 : decode cX9_wedgesOf 65 = .ok (.iaload, 1) := by decide +kernel
theorem dX9_wedgesOf_66 : decode cX9_wedgesOf 66 = .ok (.if_icmp .ge 47, 3) := by decide +kernel
theorem dX9_wedgesOf_69 : decode cX9_wedgesOf 69 = .ok (.aload_n 0, 1) := by decide +kernel
theorem dX9_wedgesOf_70 : decode cX9_wedgesOf 70 = .ok (.getfield 69, 3) := by decide +kernel
theorem dX9_wedgesOf_73 : decode cX9_wedgesOf 73 = .ok (.aload_n 0, 1) := by decide +kernel
theorem dX9_wedgesOf_74 : decode cX9_wedgesOf 74 = .ok (.getfield 44, 3) := by decide +kernel
theorem dX9_wedgesOf_77 : decode cX9_wedgesOf 77 = .ok (.iload_n 1, 1) := by decide +kernel
theorem dX9_wedgesOf_78 : decode cX9_wedgesOf 78 = .ok (.iaload, 1) := by decide +kernel
theorem dX9_wedgesOf_79 : decode cX9_wedgesOf 79 = .ok (.iload 4, 2) := by decide +kernel
theorem dX9_wedgesOf_81 : decode cX9_wedgesOf 81 = .ok (.iadd, 1) := by decide +kernel
theorem dX9_wedgesOf_82 : decode cX9_wedgesOf 82 = .ok (.ishr, 1) := by decide +kernel
theorem dX9_wedgesOf_83 : decode cX9_wedgesOf 83 = .ok (.iconst 1, 1) := by decide +kernel
theorem dX9_wedgesOf_84 : decode cX9_wedgesOf 84 = .ok (.iand, 1) := by decide +kernel
theorem dX9_wedgesOf_85 : decode cX9_wedgesOf 85 = .ok (.iconst 1, 1) := by decide +kernel
theorem dX9_wedgesOf_86 : decode cX9_wedgesOf 86 = .ok (.if_icmp .ne 7, 3) := by decide +kernel
theorem dX9_wedgesOf_89 : decode cX9_wedgesOf 89 = .ok (.iconst 0, 1) := by decide +kernel
theorem dX9_wedgesOf_90 : decode cX9_wedgesOf 90 = .ok (.goto 6, 3) := by decide +kernel
theorem dX9_wedgesOf_93 : decode cX9_wedgesOf 93 = .ok (.iload_n 2, 1) := by decide +kernel
theorem dX9_wedgesOf_94 : decode cX9_wedgesOf 94 = .ok (.iconst 1, 1) := by decide +kernel
theorem dX9_wedgesOf_95 : decode cX9_wedgesOf 95 = .ok (.iadd, 1) := by decide +kernel
theorem dX9_wedgesOf_96 : decode cX9_wedgesOf 96 = .ok (.istore_n 2, 1) := by decide +kernel
theorem dX9_wedgesOf_97 : decode cX9_wedgesOf 97 = .ok (.iload_n 2, 1) := by decide +kernel
theorem dX9_wedgesOf_98 : decode cX9_wedgesOf 98 = .ok (.iconst 3, 1) := by decide +kernel
theorem dX9_wedgesOf_99 : decode cX9_wedgesOf 99 = .ok (.if_icmp .ne 8, 3) := by decide +kernel
theorem dX9_wedgesOf_102 : decode cX9_wedgesOf 102 = .ok (.iinc 3 1, 3) := by decide +kernel
theorem dX9_wedgesOf_105 : decode cX9_wedgesOf 105 = .ok (.iconst 0, 1) := by decide +kernel
theorem dX9_wedgesOf_106 : decode cX9_wedgesOf 106 = .ok (.istore_n 2, 1) := by decide +kernel
theorem dX9_wedgesOf_107 : decode cX9_wedgesOf 107 = .ok (.iinc 4 1, 3) := by decide +kernel
theorem dX9_wedgesOf_110 : decode cX9_wedgesOf 110 = .ok (.goto (-52), 3) := by decide +kernel
theorem dX9_wedgesOf_113 : decode cX9_wedgesOf 113 = .ok (.iload_n 3, 1) := by decide +kernel
theorem dX9_wedgesOf_114 : decode cX9_wedgesOf 114 = .ok (.ireturn, 1) := by decide +kernel
theorem dX9_whenFor_0 : decode cX9_whenFor 0 = .ok (.iconst 0, 1) := by decide +kernel
theorem dX9_whenFor_1 : decode cX9_whenFor 1 = .ok (.istore_n 2, 1) := by decide +kernel
theorem dX9_whenFor_2 : decode cX9_whenFor 2 = .ok (.iload_n 2, 1) := by decide +kernel
theorem dX9_whenFor_3 : decode cX9_whenFor 3 = .ok (.bipush 60, 2) := by decide +kernel
theorem dX9_whenFor_5 : decode cX9_whenFor 5 = .ok (.if_icmp .gt 34, 3) := by decide +kernel
theorem dX9_whenFor_8 : decode cX9_whenFor 8 = .ok (.aload_n 0, 1) := by decide +kernel
theorem dX9_whenFor_9 : decode cX9_whenFor 9 = .ok (.getfield 28, 3) := by decide +kernel
theorem dX9_whenFor_12 : decode cX9_whenFor 12 = .ok (.aload_n 0, 1) := by decide +kernel
theorem dX9_whenFor_13 : decode cX9_whenFor 13 = .ok (.getfield 54, 3) := by decide +kernel
theorem dX9_whenFor_16 : decode cX9_whenFor 16 = .ok (.iload_n 2, 1) := by decide +kernel
theorem dX9_whenFor_17 : decode cX9_whenFor 17 = .ok (.iadd, 1) := by decide +kernel
theorem dX9_whenFor_18 : decode cX9_whenFor 18 = .ok (.bipush 12, 2) := by decide +kernel
theorem dX9_whenFor_20 : decode cX9_whenFor 20 = .ok (.irem, 1) := by decide +kernel
theorem dX9_whenFor_21 : decode cX9_whenFor 21 = .ok (.iaload, 1) := by decide +kernel
theorem dX9_whenFor_22 : decode cX9_whenFor 22 = .ok (.aload_n 0, 1) := by decide +kernel
theorem dX9_whenFor_23 : decode cX9_whenFor 23 = .ok (.getfield 35, 3) := by decide +kernel
theorem dX9_whenFor_26 : decode cX9_whenFor 26 = .ok (.iload_n 1, 1) := by decide +kernel
theorem dX9_whenFor_27 : decode cX9_whenFor 27 = .ok (.iaload, 1) := by decide +kernel
theorem dX9_whenFor_28 : decode cX9_whenFor 28 = .ok (.if_icmp .lt 5, 3) := by decide +kernel
theorem dX9_whenFor_31 : decode cX9_whenFor 31 = .ok (.iload_n 2, 1) := by decide +kernel
theorem dX9_whenFor_32 : decode cX9_whenFor 32 = .ok (.ireturn, 1) := by decide +kernel
theorem dX9_whenFor_33 : decode cX9_whenFor 33 = .ok (.iinc 2 1, 3) := by decide +kernel
theorem dX9_whenFor_36 : decode cX9_whenFor 36 = .ok (.goto (-34), 3) := by decide +kernel
theorem dX9_whenFor_39 : decode cX9_whenFor 39 = .ok (.iconst (-1), 1) := by decide +kernel
theorem dX9_whenFor_40 : decode cX9_whenFor 40 = .ok (.ireturn, 1) := by decide +kernel
theorem dX9_fitsAt_0 : decode cX9_fitsAt 0 = .ok (.aload_n 0, 1) := by decide +kernel
theorem dX9_fitsAt_1 : decode cX9_fitsAt 1 = .ok (.invokevirtual 160, 3) := by decide +kernel
theorem dX9_fitsAt_4 : decode cX9_fitsAt 4 = .ok (.istore_n 2, 1) := by decide +kernel
theorem dX9_fitsAt_5 : decode cX9_fitsAt 5 = .ok (.iconst 0, 1) := by decide +kernel
theorem dX9_fitsAt_6 : decode cX9_fitsAt 6 = .ok (.istore_n 3, 1) := by decide +kernel
theorem dX9_fitsAt_7 : decode cX9_fitsAt 7 = .ok (.iload_n 3, 1) := by decide +kernel
theorem dX9_fitsAt_8 : decode cX9_fitsAt 8 = .ok (.bipush 24, 2) := by decide +kernel
theorem dX9_fitsAt_10 : decode cX9_fitsAt 10 = .ok (.if_icmp .ge 34, 3) := by decide +kernel
theorem dX9_fitsAt_13 : decode cX9_fitsAt 13 = .ok (.aload_n 0, 1) := by decide +kernel
theorem dX9_fitsAt_14 : decode cX9_fitsAt 14 = .ok (.getfield 41, 3) := by decide +kernel
theorem dX9_fitsAt_17 : decode cX9_fitsAt 17 = .ok (.iload_n 1, 1) := by decide +kernel
theorem dX9_fitsAt_18 : decode cX9_fitsAt 18 = .ok (.iaload, 1) := by decide +kernel
theorem dX9_fitsAt_19 : decode cX9_fitsAt 19 = .ok (.ifCond .ne 19, 3) := by decide +kernel
theorem dX9_fitsAt_22 : decode cX9_fitsAt 22 = .ok (.iload_n 2, 1) := by decide +kernel
theorem dX9_fitsAt_23 : decode cX9_fitsAt 23 = .ok (.iload_n 3, 1) := by decide +kernel
theorem dX9_fitsAt_24 : decode cX9_fitsAt 24 = .ok (.aload_n 0, 1) := by decide +kernel
theorem dX9_fitsAt_25 : decode cX9_fitsAt 25 = .ok (.getfield 32, 3) := by decide +kernel
theorem dX9_fitsAt_28 : decode cX9_fitsAt 28 = .ok (.iload_n 1, 1) := by decide +kernel
theorem dX9_fitsAt_29 : decode cX9_fitsAt 29 = .ok (.iaload, 1) := by decide +kernel
theorem dX9_fitsAt_30 : decode cX9_fitsAt 30 = .ok (.invokestatic 163, 3) := by decide +kernel
theorem dX9_fitsAt_33 : decode cX9_fitsAt 33 = .ok (.ifCond .eq 5, 3) := by decide +kernel
theorem dX9_fitsAt_36 : decode cX9_fitsAt 36 = .ok (.iload_n 3, 1) := by decide +kernel
theorem dX9_fitsAt_37 : decode cX9_fitsAt 37 = .ok (.ireturn, 1) := by decide +kernel
theorem dX9_fitsAt_38 : decode cX9_fitsAt 38 = .ok (.iinc 3 1, 3) := by decide +kernel
theorem dX9_fitsAt_41 : decode cX9_fitsAt 41 = .ok (.goto (-34), 3) := by decide +kernel
theorem dX9_fitsAt_44 : decode cX9_fitsAt 44 = .ok (.iconst (-1), 1) := by decide +kernel
theorem dX9_fitsAt_45 : decode cX9_fitsAt 45 = .ok (.ireturn, 1) := by decide +kernel
theorem dX9_feeOf_0 : decode cX9_feeOf 0 = .ok (.iconst 3, 1) := by decide +kernel
theorem dX9_feeOf_1 : decode cX9_feeOf 1 = .ok (.aload_n 0, 1) := by decide +kernel
theorem dX9_feeOf_2 : decode cX9_feeOf 2 = .ok (.getfield 32, 3) := by decide +kernel
theorem dX9_feeOf_5 : decode cX9_feeOf 5 = .ok (.iload_n 1, 1) := by decide +kernel
theorem dX9_feeOf_6 : decode cX9_feeOf 6 = .ok (.iaload, 1) := by decide +kernel
theorem dX9_feeOf_7 : decode cX9_feeOf 7 = .ok (.imul, 1) := by decide +kernel
theorem dX9_feeOf_8 : decode cX9_feeOf 8 = .ok (.aload_n 2, 1) := by decide +kernel
theorem dX9_feeOf_9 : decode cX9_feeOf 9 = .ok (.iconst 2, 1) := by decide +kernel
theorem dX9_feeOf_10 : decode cX9_feeOf 10 = .ok (.aload_n 0, 1) := by decide +kernel
theorem dX9_feeOf_11 : decode cX9_feeOf 11 = .ok (.iload_n 1, 1) := by decide +kernel
theorem dX9_feeOf_12 : decode cX9_feeOf 12 = .ok (.invokevirtual 95, 3) := by decide +kernel
theorem dX9_feeOf_15 : decode cX9_feeOf 15 = .ok (.iadd, 1) := by decide +kernel
theorem dX9_feeOf_16 : decode cX9_feeOf 16 = .ok (.ireturn, 1) := by decide +kernel
theorem dX9_shareOf_0 : decode cX9_shareOf 0 = .ok (.iconst 0, 1) := by decide +kernel
theorem dX9_shareOf_1 : decode cX9_shareOf 1 = .ok (.istore_n 2, 1) := by decide +kernel
theorem dX9_shareOf_2 : decode cX9_shareOf 2 = .ok (.iconst 0, 1) := by decide +kernel
theorem dX9_shareOf_3 : decode cX9_shareOf 3 = .ok (.istore_n 3, 1) := by decide +kernel
theorem dX9_shareOf_4 : decode cX9_shareOf 4 = .ok (.iload_n 3, 1) := by decide +kernel
theorem dX9_shareOf_5 : decode cX9_shareOf 5 = .ok (.aload_n 0, 1) := by decide +kernel
theorem dX9_shareOf_6 : decode cX9_shareOf 6 = .ok (.getfield 66, 3) := by decide +kernel
theorem dX9_shareOf_9 : decode cX9_shareOf 9 = .ok (.if_icmp .ge 32, 3) := by decide +kernel
theorem dX9_shareOf_12 : decode cX9_shareOf 12 = .ok (.iload_n 2, 1) := by decide +kernel
theorem dX9_shareOf_13 : decode cX9_shareOf 13 = .ok (.aload_n 0, 1) := by decide +kernel
theorem dX9_shareOf_14 : decode cX9_shareOf 14 = .ok (.getfield 41, 3) := by decide +kernel
theorem dX9_shareOf_17 : decode cX9_shareOf 17 = .ok (.iload_n 3, 1) := by decide +kernel
theorem dX9_shareOf_18 : decode cX9_shareOf 18 = .ok (.iaload, 1) := by decide +kernel
theorem dX9_shareOf_19 : decode cX9_shareOf 19 = .ok (.iconst 2, 1) := by decide +kernel
theorem dX9_shareOf_20 : decode cX9_shareOf 20 = .ok (.if_icmp .ne 7, 3) := by decide +kernel
theorem dX9_shareOf_23 : decode cX9_shareOf 23 = .ok (.iconst 0, 1) := by decide +kernel
theorem dX9_shareOf_24 : decode cX9_shareOf 24 = .ok (.goto 9, 3) := by decide +kernel
theorem dX9_shareOf_27 : decode cX9_shareOf 27 = .ok (.aload_n 0, 1) := by decide +kernel
theorem dX9_shareOf_28 : decode cX9_shareOf 28 = .ok (.getfield 38, 3) := by decide +kernel
theorem dX9_shareOf_31 : decode cX9_shareOf 31 = .ok (.iload_n 3, 1) := by decide +kernel
theorem dX9_shareOf_32 : decode cX9_shareOf 32 = .ok (.iaload, 1) := by decide +kernel
theorem dX9_shareOf_33 : decode cX9_shareOf 33 = .ok (.iadd, 1) := by decide +kernel
theorem dX9_shareOf_34 : decode cX9_shareOf 34 = .ok (.istore_n 2, 1) := by decide +kernel
theorem dX9_shareOf_35 : decode cX9_shareOf 35 = .ok (.iinc 3 1, 3) := by decide +kernel
theorem dX9_shareOf_38 : decode cX9_shareOf 38 = .ok (.goto (-34), 3) := by decide +kernel
theorem dX9_shareOf_41 : decode cX9_shareOf 41 = .ok (.iload_n 2, 1) := by decide +kernel
theorem dX9_shareOf_42 : decode cX9_shareOf 42 = .ok (.ifCond .le 27, 3) := by decide +kernel
theorem dX9_shareOf_45 : decode cX9_shareOf 45 = .ok (.aload_n 0, 1) := by decide +kernel
theorem dX9_shareOf_46 : decode cX9_shareOf 46 = .ok (.getfield 41, 3) := by decide +kernel
theorem dX9_shareOf_49 : decode cX9_shareOf 49 = .ok (.iload_n 1, 1) := by decide +kernel
theorem dX9_shareOf_50 : decode cX9_shareOf 50 = .ok (.iaload, 1) := by decide +kernel
theorem dX9_shareOf_51 : decode cX9_shareOf 51 = .ok (.iconst 2, 1) := by decide +kernel
theorem dX9_shareOf_52 : decode cX9_shareOf 52 = .ok (.if_icmp .eq 17, 3) := by decide +kernel
theorem dX9_shareOf_55 : decode cX9_shareOf 55 = .ok (.bipush 100, 2) := by decide +kernel
theorem dX9_shareOf_57 : decode cX9_shareOf 57 = .ok (.aload_n 0, 1) := by decide +kernel
theorem dX9_shareOf_58 : decode cX9_shareOf 58 = .ok (.getfield 38, 3) := by decide +kernel
theorem dX9_shareOf_61 : decode cX9_shareOf 61 = .ok (.iload_n 1, 1) := by decide +kernel
theorem dX9_shareOf_62 : decode cX9_shareOf 62 = .ok (.iaload, 1) := by decide +kernel
theorem dX9_shareOf_63 : decode cX9_shareOf 63 = .ok (.imul, 1) := by decide +kernel
theorem dX9_shareOf_64 : decode cX9_shareOf 64 = .ok (.iload_n 2, 1) := by decide +kernel
theorem dX9_shareOf_65 : decode cX9_shareOf 65 = .ok (.idiv, 1) := by decide +kernel
theorem dX9_shareOf_66 : decode cX9_shareOf 66 = .ok (.goto 4, 3) := by decide +kernel
theorem dX9_shareOf_69 : decode cX9_shareOf 69 = .ok (.iconst 0, 1) := by decide +kernel
theorem dX9_shareOf_70 : decode cX9_shareOf 70 = .ok (.ireturn, 1) := by decide +kernel
theorem dX9_standing_0 : decode cX9_standing 0 = .ok (.iconst 0, 1) := by decide +kernel
theorem dX9_standing_1 : decode cX9_standing 1 = .ok (.istore_n 2, 1) := by decide +kernel
theorem dX9_standing_2 : decode cX9_standing 2 = .ok (.iconst 0, 1) := by decide +kernel
theorem dX9_standing_3 : decode cX9_standing 3 = .ok (.istore_n 3, 1) := by decide +kernel
theorem dX9_standing_4 : decode cX9_standing 4 = .ok (.iload_n 3, 1) := by decide +kernel
theorem dX9_standing_5 : decode cX9_standing 5 = .ok (.aload_n 0, 1) := by decide +kernel
theorem dX9_standing_6 : decode cX9_standing 6 = .ok (.getfield 66, 3) := by decide +kernel
theorem dX9_standing_9 : decode cX9_standing 9 = .ok (.if_icmp .ge 29, 3) := by decide +kernel
theorem dX9_standing_12 : decode cX9_standing 12 = .ok (.iload_n 2, 1) := by decide +kernel
theorem dX9_standing_13 : decode cX9_standing 13 = .ok (.aload_n 0, 1) := by decide +kernel
theorem dX9_standing_14 : decode cX9_standing 14 = .ok (.getfield 41, 3) := by decide +kernel
theorem dX9_standing_17 : decode cX9_standing 17 = .ok (.iload_n 3, 1) := by decide +kernel
theorem dX9_standing_18 : decode cX9_standing 18 = .ok (.iaload, 1) := by decide +kernel
theorem dX9_standing_19 : decode cX9_standing 19 = .ok (.iload_n 1, 1) := by decide +kernel
theorem dX9_standing_20 : decode cX9_standing 20 = .ok (.if_icmp .ne 9, 3) := by decide +kernel
theorem dX9_standing_23 : decode cX9_standing 23 = .ok (.iconst 1, 1) := by decide +kernel
theorem dX9_standing_24 : decode cX9_standing 24 = .ok (.iload_n 3, 1) := by decide +kernel
theorem dX9_standing_25 : decode cX9_standing 25 = .ok (.ishl, 1) := by decide +kernel
theorem dX9_standing_26 : decode cX9_standing 26 = .ok (.goto 4, 3) := by decide +kernel
theorem dX9_standing_29 : decode cX9_standing 29 = .ok (.iconst 0, 1) := by decide +kernel
theorem dX9_standing_30 : decode cX9_standing 30 = .ok (.ior, 1) := by decide +kernel
theorem dX9_standing_31 : decode cX9_standing 31 = .ok (.istore_n 2, 1) := by decide +kernel
theorem dX9_standing_32 : decode cX9_standing 32 = .ok (.iinc 3 1, 3) := by decide +kernel
theorem dX9_standing_35 : decode cX9_standing 35 = .ok (.goto (-31), 3) := by decide +kernel
theorem dX9_standing_38 : decode cX9_standing 38 = .ok (.iload_n 2, 1) := by decide +kernel
theorem dX9_standing_39 : decode cX9_standing 39 = .ok (.ireturn, 1) := by decide +kernel
theorem dX9_busyDocked_0 : decode cX9_busyDocked 0 = .ok (.iconst 0, 1) := by decide +kernel
theorem dX9_busyDocked_1 : decode cX9_busyDocked 1 = .ok (.istore_n 1, 1) := by decide +kernel
theorem dX9_busyDocked_2 : decode cX9_busyDocked 2 = .ok (.iconst 0, 1) := by decide +kernel
theorem dX9_busyDocked_3 : decode cX9_busyDocked 3 = .ok (.istore_n 2, 1) := by decide +kernel
theorem dX9_busyDocked_4 : decode cX9_busyDocked 4 = .ok (.iload_n 2, 1) := by decide +kernel
theorem dX9_busyDocked_5 : decode cX9_busyDocked 5 = .ok (.aload_n 0, 1) := by decide +kernel
theorem dX9_busyDocked_6 : decode cX9_busyDocked 6 = .ok (.getfield 66, 3) := by decide +kernel
theorem dX9_busyDocked_9 : decode cX9_busyDocked 9 = .ok (.if_icmp .ge 38, 3) := by decide +kernel
theorem dX9_busyDocked_12 : decode cX9_busyDocked 12 = .ok (.iload_n 1, 1) := by decide +kernel
theorem dX9_busyDocked_13 : decode cX9_busyDocked 13 = .ok (.aload_n 0, 1) := by decide +kernel
theorem dX9_busyDocked_14 : decode cX9_busyDocked 14 = .ok (.getfield 41, 3) := by decide +kernel
theorem dX9_busyDocked_17 : decode cX9_busyDocked 17 = .ok (.iload_n 2, 1) := by decide +kernel
theorem dX9_busyDocked_18 : decode cX9_busyDocked 18 = .ok (.iaload, 1) := by decide +kernel
theorem dX9_busyDocked_19 : decode cX9_busyDocked 19 = .ok (.iconst 1, 1) := by decide +kernel
theorem dX9_busyDocked_20 : decode cX9_busyDocked 20 = .ok (.if_icmp .ne 18, 3) := by decide +kernel
theorem dX9_busyDocked_23 : decode cX9_busyDocked 23 = .ok (.aload_n 0, 1) := by decide +kernel
theorem dX9_busyDocked_24 : decode cX9_busyDocked 24 = .ok (.getfield 38, 3) := by decide +kernel
theorem dX9_busyDocked_27 : decode cX9_busyDocked 27 = .ok (.iload_n 2, 1) := by decide +kernel
theorem dX9_busyDocked_28 : decode cX9_busyDocked 28 = .ok (.iaload, 1) := by decide +kernel
theorem dX9_busyDocked_29 : decode cX9_busyDocked 29 = .ok (.ifCond .le 9, 3) := by decide +kernel
theorem dX9_busyDocked_32 : decode cX9_busyDocked 32 = .ok (.iconst 1, 1) := by decide +kernel
theorem dX9_busyDocked_33 : decode cX9_busyDocked 33 = .ok (.iload_n 2, 1) := by decide +kernel
theorem dX9_busyDocked_34 : decode cX9_busyDocked 34 = .ok (.ishl, 1) := by decide +kernel
theorem dX9_busyDocked_35 : decode cX9_busyDocked 35 = .ok (.goto 4, 3) := by decide +kernel
theorem dX9_busyDocked_38 : decode cX9_busyDocked 38 = .ok (.iconst 0, 1) := by decide +kernel
theorem dX9_busyDocked_39 : decode cX9_busyDocked 39 = .ok (.ior, 1) := by decide +kernel
theorem dX9_busyDocked_40 : decode cX9_busyDocked 40 = .ok (.istore_n 1, 1) := by decide +kernel
theorem dX9_busyDocked_41 : decode cX9_busyDocked 41 = .ok (.iinc 2 1, 3) := by decide +kernel
theorem dX9_busyDocked_44 : decode cX9_busyDocked 44 = .ok (.goto (-40), 3) := by decide +kernel
theorem dX9_busyDocked_47 : decode cX9_busyDocked 47 = .ok (.iload_n 1, 1) := by decide +kernel
theorem dX9_busyDocked_48 : decode cX9_busyDocked 48 = .ok (.ireturn, 1) := by decide +kernel
theorem dX9_takenPlaces_0 : decode cX9_takenPlaces 0 = .ok (.iconst 0, 1) := by decide +kernel
theorem dX9_takenPlaces_1 : decode cX9_takenPlaces 1 = .ok (.istore_n 1, 1) := by decide +kernel
theorem dX9_takenPlaces_2 : decode cX9_takenPlaces 2 = .ok (.iconst 0, 1) := by decide +kernel
theorem dX9_takenPlaces_3 : decode cX9_takenPlaces 3 = .ok (.istore_n 2, 1) := by decide +kernel
theorem dX9_takenPlaces_4 : decode cX9_takenPlaces 4 = .ok (.iload_n 2, 1) := by decide +kernel
theorem dX9_takenPlaces_5 : decode cX9_takenPlaces 5 = .ok (.aload_n 0, 1) := by decide +kernel
theorem dX9_takenPlaces_6 : decode cX9_takenPlaces 6 = .ok (.getfield 66, 3) := by decide +kernel
theorem dX9_takenPlaces_9 : decode cX9_takenPlaces 9 = .ok (.if_icmp .ge 41, 3) := by decide +kernel
theorem dX9_takenPlaces_12 : decode cX9_takenPlaces 12 = .ok (.iload_n 1, 1) := by decide +kernel
theorem dX9_takenPlaces_13 : decode cX9_takenPlaces 13 = .ok (.aload_n 0, 1) := by decide +kernel
theorem dX9_takenPlaces_14 : decode cX9_takenPlaces 14 = .ok (.getfield 41, 3) := by decide +kernel
theorem dX9_takenPlaces_17 : decode cX9_takenPlaces 17 = .ok (.iload_n 2, 1) := by decide +kernel
theorem dX9_takenPlaces_18 : decode cX9_takenPlaces 18 = .ok (.iaload, 1) := by decide +kernel
theorem dX9_takenPlaces_19 : decode cX9_takenPlaces 19 = .ok (.iconst 1, 1) := by decide +kernel
theorem dX9_takenPlaces_20 : decode cX9_takenPlaces 20 = .ok (.if_icmp .ne 21, 3) := by decide +kernel
theorem dX9_takenPlaces_23 : decode cX9_takenPlaces 23 = .ok (.aload_n 0, 1) := by decide +kernel
theorem dX9_takenPlaces_24 : decode cX9_takenPlaces 24 = .ok (.getfield 44, 3) := by decide +kernel
theorem dX9_takenPlaces_27 : decode cX9_takenPlaces 27 = .ok (.iload_n 2, 1) := by decide +kernel
theorem dX9_takenPlaces_28 : decode cX9_takenPlaces 28 = .ok (.iaload, 1) := by decide +kernel
theorem dX9_takenPlaces_29 : decode cX9_takenPlaces 29 = .ok (.aload_n 0, 1) := by decide +kernel
theorem dX9_takenPlaces_30 : decode cX9_takenPlaces 30 = .ok (.getfield 32, 3) := by decide +kernel
theorem dX9_takenPlaces_33 : decode cX9_takenPlaces 33 = .ok (.iload_n 2, 1) := by decide +kernel
theorem dX9_takenPlaces_34 : decode cX9_takenPlaces 34 = .ok (.iaload, 1) := by decide +kernel
theorem dX9_takenPlaces_35 : decode cX9_takenPlaces 35 = .ok (.invokestatic 157, 3) := by decide +kernel
theorem dX9_takenPlaces_38 : decode cX9_takenPlaces 38 = .ok (.goto 4, 3) := by decide +kernel
theorem dX9_takenPlaces_41 : decode cX9_takenPlaces 41 = .ok (.iconst 0, 1) := by decide +kernel
theorem dX9_takenPlaces_42 : decode cX9_takenPlaces 42 = .ok (.ior, 1) := by decide +kernel
theorem dX9_takenPlaces_43 : decode cX9_takenPlaces 43 = .ok (.istore_n 1, 1) := by decide +kernel
theorem dX9_takenPlaces_44 : decode cX9_takenPlaces 44 = .ok (.iinc 2 1, 3) := by decide +kernel
theorem dX9_takenPlaces_47 : decode cX9_takenPlaces 47 = .ok (.goto (-43), 3) := by decide +kernel
theorem dX9_takenPlaces_50 : decode cX9_takenPlaces 50 = .ok (.iload_n 1, 1) := by decide +kernel
theorem dX9_takenPlaces_51 : decode cX9_takenPlaces 51 = .ok (.ireturn, 1) := by decide +kernel
theorem dX9_freePlaces_0 : decode cX9_freePlaces 0 = .ok (.bipush 24, 2) := by decide +kernel
theorem dX9_freePlaces_2 : decode cX9_freePlaces 2 = .ok (.aload_n 0, 1) := by decide +kernel
theorem dX9_freePlaces_3 : decode cX9_freePlaces 3 = .ok (.invokevirtual 160, 3) := by decide +kernel
theorem dX9_freePlaces_6 : decode cX9_freePlaces 6 = .ok (.invokestatic 167, 3) := by decide +kernel
theorem dX9_freePlaces_9 : decode cX9_freePlaces 9 = .ok (.isub, 1) := by decide +kernel
theorem dX9_freePlaces_10 : decode cX9_freePlaces 10 = .ok (.ireturn, 1) := by decide +kernel
theorem dX9_shipOn_0 : decode cX9_shipOn 0 = .ok (.iconst 0, 1) := by decide +kernel
theorem dX9_shipOn_1 : decode cX9_shipOn 1 = .ok (.istore_n 2, 1) := by decide +kernel
theorem dX9_shipOn_2 : decode cX9_shipOn 2 = .ok (.iload_n 2, 1) := by decide +kernel
theorem dX9_shipOn_3 : decode cX9_shipOn 3 = .ok (.aload_n 0, 1) := by decide +kernel
theorem dX9_shipOn_4 : decode cX9_shipOn 4 = .ok (.getfield 66, 3) := by decide +kernel
theorem dX9_shipOn_7 : decode cX9_shipOn 7 = .ok (.if_icmp .ge 48, 3) := by decide +kernel
theorem dX9_shipOn_10 : decode cX9_shipOn 10 = .ok (.aload_n 0, 1) := by decide +kernel
theorem dX9_shipOn_11 : decode cX9_shipOn 11 = .ok (.getfield 41, 3) := by decide +kernel
theorem dX9_shipOn_14 : decode cX9_shipOn 14 = .ok (.iload_n 2, 1) := by decide +kernel
theorem dX9_shipOn_15 : decode cX9_shipOn 15 = .ok (.iaload, 1) := by decide +kernel
theorem dX9_shipOn_16 : decode cX9_shipOn 16 = .ok (.iconst 1, 1) := by decide +kernel
theorem dX9_shipOn_17 : decode cX9_shipOn 17 = .ok (.if_icmp .ne 32, 3) := by decide +kernel
theorem dX9_shipOn_20 : decode cX9_shipOn 20 = .ok (.iload_n 1, 1) := by decide +kernel
theorem dX9_shipOn_21 : decode cX9_shipOn 21 = .ok (.aload_n 0, 1) := by decide +kernel
theorem dX9_shipOn_22 : decode cX9_shipOn 22 = .ok (.getfield 44, 3) := by decide +kernel
theorem dX9_shipOn_25 : decode cX9_shipOn 25 = .ok (.iload_n 2, 1) := by decide +kernel
theorem dX9_shipOn_26 : decode cX9_shipOn 26 = .ok (.iaload, 1) := by decide +kernel
theorem dX9_shipOn_27 : decode cX9_shipOn 27 = .ok (.if_icmp .lt 22, 3) := by decide +kernel
theorem dX9_shipOn_30 : decode cX9_shipOn 30 = .ok (.iload_n 1, 1) := by decide +kernel
theorem dX9_shipOn_31 : decode cX9_shipOn 31 = .ok (.aload_n 0, 1) := by decide +kernel
theorem dX9_shipOn_32 : decode cX9_shipOn 32 = .ok (.getfield 44, 3) := by decide +kernel
theorem dX9_shipOn_35 : decode cX9_shipOn 35 = .ok (.iload_n 2, 1) := by decide +kernel
theorem dX9_shipOn_36 : decode cX9_shipOn 36 = .ok (.iaload, 1) := by decide +kernel
theorem dX9_shipOn_37 : decode cX9_shipOn 37 = .ok (.aload_n 0, 1) := by decide +kernel
theorem dX9_shipOn_38 : decode cX9_shipOn 38 = .ok (.getfield 32, 3) := by decide +kernel
theorem dX9_shipOn_41 : decode cX9_shipOn 41 = .ok (.iload_n 2, 1) := by decide +kernel
theorem dX9_shipOn_42 : decode cX9_shipOn 42 = .ok (.iaload, 1) := by decide +kernel
theorem dX9_shipOn_43 : decode cX9_shipOn 43 = .ok (.iadd, 1) := by decide +kernel
theorem dX9_shipOn_44 : decode cX9_shipOn 44 = .ok (.if_icmp .ge 5, 3) := by decide +kernel
theorem dX9_shipOn_47 : decode cX9_shipOn 47 = .ok (.iload_n 2, 1) := by decide +kernel
theorem dX9_shipOn_48 : decode cX9_shipOn 48 = .ok (.ireturn, 1) := by decide +kernel
theorem dX9_shipOn_49 : decode cX9_shipOn 49 = .ok (.iinc 2 1, 3) := by decide +kernel
theorem dX9_shipOn_52 : decode cX9_shipOn 52 = .ok (.goto (-50), 3) := by decide +kernel
theorem dX9_shipOn_55 : decode cX9_shipOn 55 = .ok (.iconst (-1), 1) := by decide +kernel
theorem dX9_shipOn_56 : decode cX9_shipOn 56 = .ok (.ireturn, 1) := by decide +kernel
theorem dX9_allWork_0 : decode cX9_allWork 0 = .ok (.iconst 0, 1) := by decide +kernel
theorem dX9_allWork_1 : decode cX9_allWork 1 = .ok (.istore_n 1, 1) := by decide +kernel
theorem dX9_allWork_2 : decode cX9_allWork 2 = .ok (.iconst 0, 1) := by decide +kernel
theorem dX9_allWork_3 : decode cX9_allWork 3 = .ok (.istore_n 2, 1) := by decide +kernel
theorem dX9_allWork_4 : decode cX9_allWork 4 = .ok (.iload_n 2, 1) := by decide +kernel
theorem dX9_allWork_5 : decode cX9_allWork 5 = .ok (.aload_n 0, 1) := by decide +kernel
theorem dX9_allWork_6 : decode cX9_allWork 6 = .ok (.getfield 66, 3) := by decide +kernel
theorem dX9_allWork_9 : decode cX9_allWork 9 = .ok (.if_icmp .ge 18, 3) := by decide +kernel
theorem dX9_allWork_12 : decode cX9_allWork 12 = .ok (.iload_n 1, 1) := by decide +kernel
theorem dX9_allWork_13 : decode cX9_allWork 13 = .ok (.aload_n 0, 1) := by decide +kernel
theorem dX9_allWork_14 : decode cX9_allWork 14 = .ok (.getfield 38, 3) := by decide +kernel
theorem dX9_allWork_17 : decode cX9_allWork 17 = .ok (.iload_n 2, 1) := by decide +kernel
theorem dX9_allWork_18 : decode cX9_allWork 18 = .ok (.iaload, 1) := by decide +kernel
theorem dX9_allWork_19 : decode cX9_allWork 19 = .ok (.iadd, 1) := by decide +kernel
theorem dX9_allWork_20 : decode cX9_allWork 20 = .ok (.istore_n 1, 1) := by decide +kernel
theorem dX9_allWork_21 : decode cX9_allWork 21 = .ok (.iinc 2 1, 3) := by decide +kernel
theorem dX9_allWork_24 : decode cX9_allWork 24 = .ok (.goto (-20), 3) := by decide +kernel
theorem dX9_allWork_27 : decode cX9_allWork 27 = .ok (.iload_n 1, 1) := by decide +kernel
theorem dX9_allWork_28 : decode cX9_allWork 28 = .ok (.ireturn, 1) := by decide +kernel
theorem dX9_greatest_0 : decode cX9_greatest 0 = .ok (.iconst (-1), 1) := by decide +kernel
theorem dX9_greatest_1 : decode cX9_greatest 1 = .ok (.istore_n 2, 1) := by decide +kernel
theorem dX9_greatest_2 : decode cX9_greatest 2 = .ok (.iconst 0, 1) := by decide +kernel
theorem dX9_greatest_3 : decode cX9_greatest 3 = .ok (.istore_n 3, 1) := by decide +kernel
theorem dX9_greatest_4 : decode cX9_greatest 4 = .ok (.iload_n 3, 1) := by decide +kernel
theorem dX9_greatest_5 : decode cX9_greatest 5 = .ok (.aload_n 0, 1) := by decide +kernel
theorem dX9_greatest_6 : decode cX9_greatest 6 = .ok (.getfield 66, 3) := by decide +kernel
theorem dX9_greatest_9 : decode cX9_greatest 9 = .ok (.if_icmp .ge 35, 3) := by decide +kernel
theorem dX9_greatest_12 : decode cX9_greatest 12 = .ok (.aload_n 0, 1) := by decide +kernel
theorem dX9_greatest_13 : decode cX9_greatest 13 = .ok (.getfield 41, 3) := by decide +kernel
theorem dX9_greatest_16 : decode cX9_greatest 16 = .ok (.iload_n 3, 1) := by decide +kernel
theorem dX9_greatest_17 : decode cX9_greatest 17 = .ok (.iaload, 1) := by decide +kernel
theorem dX9_greatest_18 : decode cX9_greatest 18 = .ok (.iconst 2, 1) := by decide +kernel
theorem dX9_greatest_19 : decode cX9_greatest 19 = .ok (.if_icmp .eq 19, 3) := by decide +kernel
theorem dX9_greatest_22 : decode cX9_greatest 22 = .ok (.iload_n 2, 1) := by decide +kernel
theorem dX9_greatest_23 : decode cX9_greatest 23 = .ok (.iconst (-1), 1) := by decide +kernel
theorem dX9_greatest_24 : decode cX9_greatest 24 = .ok (.if_icmp .eq 12, 3) := by decide +kernel
theorem dX9_greatest_27 : decode cX9_greatest 27 = .ok (.aload_n 1, 1) := by decide +kernel
theorem dX9_greatest_28 : decode cX9_greatest 28 = .ok (.iload_n 3, 1) := by decide +kernel
theorem dX9_greatest_29 : decode cX9_greatest 29 = .ok (.iaload, 1) := by decide +kernel
theorem dX9_greatest_30 : decode cX9_greatest 30 = .ok (.aload_n 1, 1) := by decide +kernel
theorem dX9_greatest_31 : decode cX9_greatest 31 = .ok (.iload_n 2, 1) := by decide +kernel
theorem dX9_greatest_32 : decode cX9_greatest 32 = .ok (.iaload, 1) := by decide +kernel
theorem dX9_greatest_33 : decode cX9_greatest 33 = .ok (.if_icmp .le 5, 3) := by decide +kernel
theorem dX9_greatest_36 : decode cX9_greatest 36 = .ok (.iload_n 3, 1) := by decide +kernel
theorem dX9_greatest_37 : decode cX9_greatest 37 = .ok (.istore_n 2, 1) := by decide +kernel
theorem dX9_greatest_38 : decode cX9_greatest 38 = .ok (.iinc 3 1, 3) := by decide +kernel
theorem dX9_greatest_41 : decode cX9_greatest 41 = .ok (.goto (-37), 3) := by decide +kernel
theorem dX9_greatest_44 : decode cX9_greatest 44 = .ok (.iload_n 2, 1) := by decide +kernel
theorem dX9_greatest_45 : decode cX9_greatest 45 = .ok (.ireturn, 1) := by decide +kernel
