theorem dX12_gate_0 : decode cX12_gate 0 = .ok (.aload_n 0, 1) := by decide +kernel
theorem dX12_gate_1 : decode cX12_gate 1 = .ok (.iconst 0, 1) := by decide +kernel
theorem dX12_gate_2 : decode cX12_gate 2 = .ok (.putfield 3, 3) := by decide +kernel
theorem dX12_gate_5 : decode cX12_gate 5 = .ok (.aload_n 0, 1) := by decide +kernel
theorem dX12_gate_6 : decode cX12_gate 6 = .ok (.iload_n 1, 1) := by decide +kernel
theorem dX12_gate_7 : decode cX12_gate 7 = .ok (.ifCond .eq 23, 3) := by decide +kernel
theorem dX12_gate_10 : decode cX12_gate 10 = .ok (.aload_n 0, 1) := by decide +kernel
theorem dX12_gate_11 : decode cX12_gate 11 = .ok (.getfield 13, 3) := by decide +kernel
theorem dX12_gate_14 : decode cX12_gate 14 = .ok (.iconst 4, 1) := by decide +kernel
theorem dX12_gate_15 : decode cX12_gate 15 = .ok (.iaload, 1) := by decide +kernel
theorem dX12_gate_16 : decode cX12_gate 16 = .ok (.ifCond .ne 14, 3) := by decide +kernel
theorem dX12_gate_19 : decode cX12_gate 19 = .ok (.aload_n 0, 1) := by decide +kernel
theorem dX12_gate_20 : decode cX12_gate 20 = .ok (.invokevirtual 370, 3) := by decide +kernel
theorem dX12_gate_23 : decode cX12_gate 23 = .ok (.ifCond .ne 7, 3) := by decide +kernel
theorem dX12_gate_26 : decode cX12_gate 26 = .ok (.iconst 1, 1) := by decide +kernel
theorem dX12_gate_27 : decode cX12_gate 27 = .ok (.goto 4, 3) := by decide +kernel
theorem dX12_gate_30 : decode cX12_gate 30 = .ok (.iconst 0, 1) := by decide +kernel
theorem dX12_gate_31 : decode cX12_gate 31 = .ok (.iconst 1, 1) := by decide +kernel
theorem dX12_gate_32 : decode cX12_gate 32 = .ok (.invokevirtual 282, 3) := by decide +kernel
theorem dX12_gate_35 : decode cX12_gate 35 = .ok (.ifCond .eq 5, 3) := by decide +kernel
theorem dX12_gate_38 : decode cX12_gate 38 = .ok (.iconst 0, 1) := by decide +kernel
theorem dX12_gate_39 : decode cX12_gate 39 = .ok (.ireturn, 1) := by decide +kernel
theorem dX12_gate_40 : decode cX12_gate 40 = .ok (.iload_n 1, 1) := by decide +kernel
theorem dX12_gate_41 : decode cX12_gate 41 = .ok (.ifCond .eq 7, 3) := by decide +kernel
theorem dX12_gate_44 : decode cX12_gate 44 = .ok (.iconst 1, 1) := by decide +kernel
theorem dX12_gate_45 : decode cX12_gate 45 = .ok (.goto 4, 3) := by decide +kernel
theorem dX12_gate_48 : decode cX12_gate 48 = .ok (.iconst 0, 1) := by decide +kernel
theorem dX12_gate_49 : decode cX12_gate 49 = .ok (.istore_n 2, 1) := by decide +kernel
theorem dX12_gate_50 : decode cX12_gate 50 = .ok (.aload_n 0, 1) := by decide +kernel
theorem dX12_gate_51 : decode cX12_gate 51 = .ok (.iconst 4, 1) := by decide +kernel
theorem dX12_gate_52 : decode cX12_gate 52 = .ok (.iload_n 2, 1) := by decide +kernel
theorem dX12_gate_53 : decode cX12_gate 53 = .ok (.invokevirtual 373, 3) := by decide +kernel
theorem dX12_gate_56 : decode cX12_gate 56 = .ok (.iload_n 2, 1) := by decide +kernel
theorem dX12_gate_57 : decode cX12_gate 57 = .ok (.if_icmp .eq 7, 3) := by decide +kernel
theorem dX12_gate_60 : decode cX12_gate 60 = .ok (.iconst 1, 1) := by decide +kernel
theorem dX12_gate_61 : decode cX12_gate 61 = .ok (.goto 4, 3) := by decide +kernel
theorem dX12_gate_64 : decode cX12_gate 64 = .ok (.iconst 0, 1) := by decide +kernel
theorem dX12_gate_65 : decode cX12_gate 65 = .ok (.ireturn, 1) := by decide +kernel
theorem dX12_freePlaces_0 : decode cX12_freePlaces 0 = .ok (.bipush 24, 2) := by decide +kernel
theorem dX12_freePlaces_2 : decode cX12_freePlaces 2 = .ok (.aload_n 0, 1) := by decide +kernel
theorem dX12_freePlaces_3 : decode cX12_freePlaces 3 = .ok (.invokevirtual 168, 3) := by decide +kernel
theorem dX12_freePlaces_6 : decode cX12_freePlaces 6 = .ok (.invokestatic 376, 3) := by decide +kernel
theorem dX12_freePlaces_9 : decode cX12_freePlaces 9 = .ok (.isub, 1) := by decide +kernel
theorem dX12_freePlaces_10 : decode cX12_freePlaces 10 = .ok (.ireturn, 1) := by decide +kernel
theorem dX12_canEnter_0 : decode cX12_canEnter 0 = .ok (.aload_n 0, 1) := by decide +kernel
theorem dX12_canEnter_1 : decode cX12_canEnter 1 = .ok (.getfield 13, 3) := by decide +kernel
theorem dX12_canEnter_4 : decode cX12_canEnter 4 = .ok (.iconst 4, 1) := by decide +kernel
theorem dX12_canEnter_5 : decode cX12_canEnter 5 = .ok (.iaload, 1) := by decide +kernel
theorem dX12_canEnter_6 : decode cX12_canEnter 6 = .ok (.iconst 1, 1) := by decide +kernel
theorem dX12_canEnter_7 : decode cX12_canEnter 7 = .ok (.if_icmp .ne 48, 3) := by decide +kernel
theorem dX12_canEnter_10 : decode cX12_canEnter 10 = .ok (.aload_n 0, 1) := by decide +kernel
theorem dX12_canEnter_11 : decode cX12_canEnter 11 = .ok (.iload_n 1, 1) := by decide +kernel
theorem dX12_canEnter_12 : decode cX12_canEnter 12 = .ok (.iconst 3, 1) := by decide +kernel
theorem dX12_canEnter_13 : decode cX12_canEnter 13 = .ok (.invokevirtual 85, 3) := by decide +kernel
theorem dX12_canEnter_16 : decode cX12_canEnter 16 = .ok (.ifCond .ne 39, 3) := by decide +kernel
theorem dX12_canEnter_19 : decode cX12_canEnter 19 = .ok (.aload_n 0, 1) := by decide +kernel
theorem dX12_canEnter_20 : decode cX12_canEnter 20 = .ok (.iload_n 1, 1) := by decide +kernel
theorem dX12_canEnter_21 : decode cX12_canEnter 21 = .ok (.iconst 1, 1) := by decide +kernel
theorem dX12_canEnter_22 : decode cX12_canEnter 22 = .ok (.invokevirtual 85, 3) := by decide +kernel
theorem dX12_canEnter_25 : decode cX12_canEnter 25 = .ok (.aload_n 0, 1) := by decide +kernel
theorem dX12_canEnter_26 : decode cX12_canEnter 26 = .ok (.getfield 13, 3) := by decide +kernel
theorem dX12_canEnter_29 : decode cX12_canEnter 29 = .ok (.iconst 3, 1) := by decide +kernel
theorem dX12_canEnter_30 : decode cX12_canEnter 30 = .ok (.iaload, 1) := by decide +kernel
theorem dX12_canEnter_31 : decode cX12_canEnter 31 = .ok (.if_icmp .gt 24, 3) := by decide +kernel
theorem dX12_canEnter_34 : decode cX12_canEnter 34 = .ok (.aload_n 0, 1) := by decide +kernel
theorem dX12_canEnter_35 : decode cX12_canEnter 35 = .ok (.invokevirtual 168, 3) := by decide +kernel
theorem dX12_canEnter_38 : decode cX12_canEnter 38 = .ok (.iload_n 2, 1) := by decide +kernel
theorem dX12_canEnter_39 : decode cX12_canEnter 39 = .ok (.aload_n 0, 1) := by decide +kernel
theorem dX12_canEnter_40 : decode cX12_canEnter 40 = .ok (.iload_n 1, 1) := by decide +kernel
theorem dX12_canEnter_41 : decode cX12_canEnter 41 = .ok (.iconst 0, 1) := by decide +kernel
theorem dX12_canEnter_42 : decode cX12_canEnter 42 = .ok (.invokevirtual 85, 3) := by decide +kernel
theorem dX12_canEnter_45 : decode cX12_canEnter 45 = .ok (.invokestatic 171, 3) := by decide +kernel
theorem dX12_canEnter_48 : decode cX12_canEnter 48 = .ok (.ifCond .eq 7, 3) := by decide +kernel
theorem dX12_canEnter_51 : decode cX12_canEnter 51 = .ok (.iconst 1, 1) := by decide +kernel
theorem dX12_canEnter_52 : decode cX12_canEnter 52 = .ok (.goto 4, 3) := by decide +kernel
theorem dX12_canEnter_55 : decode cX12_canEnter 55 = .ok (.iconst 0, 1) := by decide +kernel
theorem dX12_canEnter_56 : decode cX12_canEnter 56 = .ok (.ireturn, 1) := by decide +kernel
theorem dX12_enter_0 : decode cX12_enter 0 = .ok (.aload_n 0, 1) := by decide +kernel
theorem dX12_enter_1 : decode cX12_enter 1 = .ok (.iconst 0, 1) := by decide +kernel
theorem dX12_enter_2 : decode cX12_enter 2 = .ok (.putfield 3, 3) := by decide +kernel
theorem dX12_enter_5 : decode cX12_enter 5 = .ok (.aload_n 0, 1) := by decide +kernel
theorem dX12_enter_6 : decode cX12_enter 6 = .ok (.aload_n 0, 1) := by decide +kernel
theorem dX12_enter_7 : decode cX12_enter 7 = .ok (.iload_n 1, 1) := by decide +kernel
theorem dX12_enter_8 : decode cX12_enter 8 = .ok (.invokevirtual 345, 3) := by decide +kernel
theorem dX12_enter_11 : decode cX12_enter 11 = .ok (.ifCond .ne 10, 3) := by decide +kernel
theorem dX12_enter_14 : decode cX12_enter 14 = .ok (.iload_n 2, 1) := by decide +kernel
theorem dX12_enter_15 : decode cX12_enter 15 = .ok (.invokestatic 360, 3) := by decide +kernel
theorem dX12_enter_18 : decode cX12_enter 18 = .ok (.ifCond .eq 7, 3) := by decide +kernel
theorem dX12_enter_21 : decode cX12_enter 21 = .ok (.iconst 1, 1) := by decide +kernel
theorem dX12_enter_22 : decode cX12_enter 22 = .ok (.goto 4, 3) := by decide +kernel
theorem dX12_enter_25 : decode cX12_enter 25 = .ok (.iconst 0, 1) := by decide +kernel
theorem dX12_enter_26 : decode cX12_enter 26 = .ok (.iconst 1, 1) := by decide +kernel
theorem dX12_enter_27 : decode cX12_enter 27 = .ok (.invokevirtual 282, 3) := by decide +kernel
theorem dX12_enter_30 : decode cX12_enter 30 = .ok (.ifCond .ne 25, 3) := by decide +kernel
theorem dX12_enter_33 : decode cX12_enter 33 = .ok (.aload_n 0, 1) := by decide +kernel
theorem dX12_enter_34 : decode cX12_enter 34 = .ok (.aload_n 0, 1) := by decide +kernel
theorem dX12_enter_35 : decode cX12_enter 35 = .ok (.iload_n 1, 1) := by decide +kernel
theorem dX12_enter_36 : decode cX12_enter 36 = .ok (.iload_n 2, 1) := by decide +kernel
theorem dX12_enter_37 : decode cX12_enter 37 = .ok (.invokevirtual 381, 3) := by decide +kernel
theorem dX12_enter_40 : decode cX12_enter 40 = .ok (.ifCond .ne 7, 3) := by decide +kernel
theorem dX12_enter_43 : decode cX12_enter 43 = .ok (.iconst 1, 1) := by decide +kernel
theorem dX12_enter_44 : decode cX12_enter 44 = .ok (.goto 4, 3) := by decide +kernel
theorem dX12_enter_47 : decode cX12_enter 47 = .ok (.iconst 0, 1) := by decide +kernel
theorem dX12_enter_48 : decode cX12_enter 48 = .ok (.iconst 2, 1) := by decide +kernel
theorem dX12_enter_49 : decode cX12_enter 49 = .ok (.invokevirtual 282, 3) := by decide +kernel
theorem dX12_enter_52 : decode cX12_enter 52 = .ok (.ifCond .eq 5, 3) := by decide +kernel
theorem dX12_enter_55 : decode cX12_enter 55 = .ok (.iconst 0, 1) := by decide +kernel
theorem dX12_enter_56 : decode cX12_enter 56 = .ok (.ireturn, 1) := by decide +kernel
theorem dX12_enter_57 : decode cX12_enter 57 = .ok (.aload_n 0, 1) := by decide +kernel
theorem dX12_enter_58 : decode cX12_enter 58 = .ok (.invokevirtual 363, 3) := by decide +kernel
theorem dX12_enter_61 : decode cX12_enter 61 = .ok (.aload_n 0, 1) := by decide +kernel
theorem dX12_enter_62 : decode cX12_enter 62 = .ok (.getfield 13, 3) := by decide +kernel
theorem dX12_enter_65 : decode cX12_enter 65 = .ok (.iload_n 1, 1) := by decide +kernel
theorem dX12_enter_66 : decode cX12_enter 66 = .ok (.iconst 3, 1) := by decide +kernel
theorem dX12_enter_67 : decode cX12_enter 67 = .ok (.invokestatic 81, 3) := by decide +kernel
theorem dX12_enter_70 : decode cX12_enter 70 = .ok (.iconst 1, 1) := by decide +kernel
theorem dX12_enter_71 : decode cX12_enter 71 = .ok (.iastore, 1) := by decide +kernel
theorem dX12_enter_72 : decode cX12_enter 72 = .ok (.aload_n 0, 1) := by decide +kernel
theorem dX12_enter_73 : decode cX12_enter 73 = .ok (.getfield 13, 3) := by decide +kernel
theorem dX12_enter_76 : decode cX12_enter 76 = .ok (.iload_n 1, 1) := by decide +kernel
theorem dX12_enter_77 : decode cX12_enter 77 = .ok (.iconst 4, 1) := by decide +kernel
theorem dX12_enter_78 : decode cX12_enter 78 = .ok (.invokestatic 81, 3) := by decide +kernel
theorem dX12_enter_81 : decode cX12_enter 81 = .ok (.iload_n 2, 1) := by decide +kernel
theorem dX12_enter_82 : decode cX12_enter 82 = .ok (.iastore, 1) := by decide +kernel
theorem dX12_enter_83 : decode cX12_enter 83 = .ok (.aload_n 0, 1) := by decide +kernel
theorem dX12_enter_84 : decode cX12_enter 84 = .ok (.iload_n 1, 1) := by decide +kernel
theorem dX12_enter_85 : decode cX12_enter 85 = .ok (.iconst 0, 1) := by decide +kernel
theorem dX12_enter_86 : decode cX12_enter 86 = .ok (.iload_n 2, 1) := by decide +kernel
theorem dX12_enter_87 : decode cX12_enter 87 = .ok (.invokevirtual 321, 3) := by decide +kernel
theorem dX12_enter_90 : decode cX12_enter 90 = .ok (.aload_n 0, 1) := by decide +kernel
theorem dX12_enter_91 : decode cX12_enter 91 = .ok (.invokevirtual 384, 3) := by decide +kernel
theorem dX12_enter_94 : decode cX12_enter 94 = .ok (.ireturn, 1) := by decide +kernel
theorem dX12_leave_0 : decode cX12_leave 0 = .ok (.aload_n 0, 1) := by decide +kernel
theorem dX12_leave_1 : decode cX12_leave 1 = .ok (.iconst 0, 1) := by decide +kernel
theorem dX12_leave_2 : decode cX12_leave 2 = .ok (.putfield 3, 3) := by decide +kernel
theorem dX12_leave_5 : decode cX12_leave 5 = .ok (.aload_n 0, 1) := by decide +kernel
theorem dX12_leave_6 : decode cX12_leave 6 = .ok (.aload_n 0, 1) := by decide +kernel
theorem dX12_leave_7 : decode cX12_leave 7 = .ok (.iload_n 1, 1) := by decide +kernel
theorem dX12_leave_8 : decode cX12_leave 8 = .ok (.invokevirtual 345, 3) := by decide +kernel
theorem dX12_leave_11 : decode cX12_leave 11 = .ok (.iconst 1, 1) := by decide +kernel
theorem dX12_leave_12 : decode cX12_leave 12 = .ok (.invokevirtual 282, 3) := by decide +kernel
theorem dX12_leave_15 : decode cX12_leave 15 = .ok (.ifCond .ne 41, 3) := by decide +kernel
theorem dX12_leave_18 : decode cX12_leave 18 = .ok (.aload_n 0, 1) := by decide +kernel
theorem dX12_leave_19 : decode cX12_leave 19 = .ok (.aload_n 0, 1) := by decide +kernel
theorem dX12_leave_20 : decode cX12_leave 20 = .ok (.getfield 13, 3) := by decide +kernel
theorem dX12_leave_23 : decode cX12_leave 23 = .ok (.iconst 4, 1) := by decide +kernel
theorem dX12_leave_24 : decode cX12_leave 24 = .ok (.iaload, 1) := by decide +kernel
theorem dX12_leave_25 : decode cX12_leave 25 = .ok (.ifCond .eq 19, 3) := by decide +kernel
theorem dX12_leave_28 : decode cX12_leave 28 = .ok (.aload_n 0, 1) := by decide +kernel
theorem dX12_leave_29 : decode cX12_leave 29 = .ok (.iload_n 1, 1) := by decide +kernel
theorem dX12_leave_30 : decode cX12_leave 30 = .ok (.invokevirtual 88, 3) := by decide +kernel
theorem dX12_leave_33 : decode cX12_leave 33 = .ok (.ifCond .eq 11, 3) := by decide +kernel
theorem dX12_leave_36 : decode cX12_leave 36 = .ok (.aload_n 0, 1) := by decide +kernel
theorem dX12_leave_37 : decode cX12_leave 37 = .ok (.iload_n 1, 1) := by decide +kernel
theorem dX12_leave_38 : decode cX12_leave 38 = .ok (.invokevirtual 315, 3) := by decide +kernel
theorem dX12_leave_41 : decode cX12_leave 41 = .ok (.ifCond .eq 7, 3) := by decide +kernel
theorem dX12_leave_44 : decode cX12_leave 44 = .ok (.iconst 1, 1) := by decide +kernel
theorem dX12_leave_45 : decode cX12_leave 45 = .ok (.goto 4, 3) := by decide +kernel
theorem dX12_leave_48 : decode cX12_leave 48 = .ok (.iconst 0, 1) := by decide +kernel
theorem dX12_leave_49 : decode cX12_leave 49 = .ok (.iconst 2, 1) := by decide +kernel
theorem dX12_leave_50 : decode cX12_leave 50 = .ok (.invokevirtual 282, 3) := by decide +kernel
theorem dX12_leave_53 : decode cX12_leave 53 = .ok (.ifCond .eq 5, 3) := by decide +kernel
theorem dX12_leave_56 : decode cX12_leave 56 = .ok (.iconst 0, 1) := by decide +kernel
theorem dX12_leave_57 : decode cX12_leave 57 = .ok (.ireturn, 1) := by decide +kernel
theorem dX12_leave_58 : decode cX12_leave 58 = .ok (.aload_n 0, 1) := by decide +kernel
theorem dX12_leave_59 : decode cX12_leave 59 = .ok (.invokevirtual 363, 3) := by decide +kernel
theorem dX12_leave_62 : decode cX12_leave 62 = .ok (.aload_n 0, 1) := by decide +kernel
theorem dX12_leave_63 : decode cX12_leave 63 = .ok (.iload_n 1, 1) := by decide +kernel
theorem dX12_leave_64 : decode cX12_leave 64 = .ok (.invokevirtual 348, 3) := by decide +kernel
theorem dX12_leave_67 : decode cX12_leave 67 = .ok (.istore_n 2, 1) := by decide +kernel
theorem dX12_leave_68 : decode cX12_leave 68 = .ok (.aload_n 0, 1) := by decide +kernel
theorem dX12_leave_69 : decode cX12_leave 69 = .ok (.iload_n 1, 1) := by decide +kernel
theorem dX12_leave_70 : decode cX12_leave 70 = .ok (.iconst 1, 1) := by decide +kernel
theorem dX12_leave_71 : decode cX12_leave 71 = .ok (.aload_n 0, 1) := by decide +kernel
theorem dX12_leave_72 : decode cX12_leave 72 = .ok (.iload_n 1, 1) := by decide +kernel
theorem dX12_leave_73 : decode cX12_leave 73 = .ok (.iconst 4, 1) := by decide +kernel
theorem dX12_leave_74 : decode cX12_leave 74 = .ok (.invokevirtual 85, 3) := by decide +kernel
theorem dX12_leave_77 : decode cX12_leave 77 = .ok (.invokevirtual 321, 3) := by decide +kernel
theorem dX12_leave_80 : decode cX12_leave 80 = .ok (.aload_n 0, 1) := by decide +kernel
theorem dX12_leave_81 : decode cX12_leave 81 = .ok (.getfield 13, 3) := by decide +kernel
theorem dX12_leave_84 : decode cX12_leave 84 = .ok (.bipush 8, 2) := by decide +kernel
theorem dX12_leave_86 : decode cX12_leave 86 = .ok (.sipush 9999, 3) := by decide +kernel
theorem dX12_leave_89 : decode cX12_leave 89 = .ok (.aload_n 0, 1) := by decide +kernel
theorem dX12_leave_90 : decode cX12_leave 90 = .ok (.getfield 13, 3) := by decide +kernel
theorem dX12_leave_93 : decode cX12_leave 93 = .ok (.bipush 8, 2) := by decide +kernel
theorem dX12_leave_95 : decode cX12_leave 95 = .ok (.iaload, 1) := by decide +kernel
theorem dX12_leave_96 : decode cX12_leave 96 = .ok (.iload_n 2, 1) := by decide +kernel
theorem dX12_leave_97 : decode cX12_leave 97 = .ok (.iadd, 1) := by decide +kernel
theorem dX12_leave_98 : decode cX12_leave 98 = .ok (.invokestatic 312, 3) := by decide +kernel
theorem dX12_leave_101 : decode cX12_leave 101 = .ok (.iastore, 1) := by decide +kernel
theorem dX12_leave_102 : decode cX12_leave 102 = .ok (.aload_n 0, 1) := by decide +kernel
theorem dX12_leave_103 : decode cX12_leave 103 = .ok (.getfield 13, 3) := by decide +kernel
theorem dX12_leave_106 : decode cX12_leave 106 = .ok (.iload_n 1, 1) := by decide +kernel
theorem dX12_leave_107 : decode cX12_leave 107 = .ok (.iconst 3, 1) := by decide +kernel
theorem dX12_leave_108 : decode cX12_leave 108 = .ok (.invokestatic 81, 3) := by decide +kernel
theorem dX12_leave_111 : decode cX12_leave 111 = .ok (.iconst 2, 1) := by decide +kernel
theorem dX12_leave_112 : decode cX12_leave 112 = .ok (.iastore, 1) := by decide +kernel
theorem dX12_leave_113 : decode cX12_leave 113 = .ok (.aload_n 0, 1) := by decide +kernel
theorem dX12_leave_114 : decode cX12_leave 114 = .ok (.getfield 13, 3) := by decide +kernel
theorem dX12_leave_117 : decode cX12_leave 117 = .ok (.iload_n 1, 1) := by decide +kernel
theorem dX12_leave_118 : decode cX12_leave 118 = .ok (.iconst 4, 1) := by decide +kernel
theorem dX12_leave_119 : decode cX12_leave 119 = .ok (.invokestatic 81, 3) := by decide +kernel
theorem dX12_leave_122 : decode cX12_leave 122 = .ok (.iconst (-1), 1) := by decide +kernel
theorem dX12_leave_123 : decode cX12_leave 123 = .ok (.iastore, 1) := by decide +kernel
theorem dX12_leave_124 : decode cX12_leave 124 = .ok (.iload_n 2, 1) := by decide +kernel
theorem dX12_leave_125 : decode cX12_leave 125 = .ok (.ireturn, 1) := by decide +kernel
theorem dX12_comes_0 : decode cX12_comes 0 = .ok (.aload_n 0, 1) := by decide +kernel
theorem dX12_comes_1 : decode cX12_comes 1 = .ok (.iconst 0, 1) := by decide +kernel
theorem dX12_comes_2 : decode cX12_comes 2 = .ok (.putfield 3, 3) := by decide +kernel
theorem dX12_comes_5 : decode cX12_comes 5 = .ok (.aload_n 0, 1) := by decide +kernel
theorem dX12_comes_6 : decode cX12_comes 6 = .ok (.iload_n 1, 1) := by decide +kernel
theorem dX12_comes_7 : decode cX12_comes 7 = .ok (.iconst 1, 1) := by decide +kernel
theorem dX12_comes_8 : decode cX12_comes 8 = .ok (.bipush 12, 2) := by decide +kernel
theorem dX12_comes_10 : decode cX12_comes 10 = .ok (.invokestatic 103, 3) := by decide +kernel
theorem dX12_comes_13 : decode cX12_comes 13 = .ok (.ifCond .eq 23, 3) := by decide +kernel
theorem dX12_comes_16 : decode cX12_comes 16 = .ok (.iload_n 2, 1) := by decide +kernel
theorem dX12_comes_17 : decode cX12_comes 17 = .ok (.iconst 1, 1) := by decide +kernel
theorem dX12_comes_18 : decode cX12_comes 18 = .ok (.bipush 20, 2) := by decide +kernel
theorem dX12_comes_20 : decode cX12_comes 20 = .ok (.invokestatic 103, 3) := by decide +kernel
theorem dX12_comes_23 : decode cX12_comes 23 = .ok (.ifCond .eq 13, 3) := by decide +kernel
theorem dX12_comes_26 : decode cX12_comes 26 = .ok (.iload_n 3, 1) := by decide +kernel
theorem dX12_comes_27 : decode cX12_comes 27 = .ok (.iconst 0, 1) := by decide +kernel
theorem dX12_comes_28 : decode cX12_comes 28 = .ok (.bipush 99, 2) := by decide +kernel
theorem dX12_comes_30 : decode cX12_comes 30 = .ok (.invokestatic 103, 3) := by decide +kernel
theorem dX12_comes_33 : decode cX12_comes 33 = .ok (.ifCond .ne 7, 3) := by decide +kernel
theorem dX12_comes_36 : decode cX12_comes 36 = .ok (.iconst 1, 1) := by decide +kernel
theorem dX12_comes_37 : decode cX12_comes 37 = .ok (.goto 4, 3) := by decide +kernel
theorem dX12_comes_40 : decode cX12_comes 40 = .ok (.iconst 0, 1) := by decide +kernel
theorem dX12_comes_41 : decode cX12_comes 41 = .ok (.iconst 1, 1) := by decide +kernel
theorem dX12_comes_42 : decode cX12_comes 42 = .ok (.invokevirtual 282, 3) := by decide +kernel
theorem dX12_comes_45 : decode cX12_comes 45 = .ok (.ifCond .ne 25, 3) := by decide +kernel
theorem dX12_comes_48 : decode cX12_comes 48 = .ok (.aload_n 0, 1) := by decide +kernel
theorem dX12_comes_49 : decode cX12_comes 49 = .ok (.aload_n 0, 1) := by decide +kernel
theorem dX12_comes_50 : decode cX12_comes 50 = .ok (.invokevirtual 95, 3) := by decide +kernel
theorem dX12_comes_53 : decode cX12_comes 53 = .ok (.bipush 8, 2) := by decide +kernel
theorem dX12_comes_55 : decode cX12_comes 55 = .ok (.if_icmp .ne 7, 3) := by decide +kernel
theorem dX12_comes_58 : decode cX12_comes 58 = .ok (.iconst 1, 1) := by decide +kernel
theorem dX12_comes_59 : decode cX12_comes 59 = .ok (.goto 4, 3) := by decide +kernel
theorem dX12_comes_62 : decode cX12_comes 62 = .ok (.iconst 0, 1) := by decide +kernel
theorem dX12_comes_63 : decode cX12_comes 63 = .ok (.iconst 2, 1) := by decide +kernel
theorem dX12_comes_64 : decode cX12_comes 64 = .ok (.invokevirtual 282, 3) := by decide +kernel
theorem dX12_comes_67 : decode cX12_comes 67 = .ok (.ifCond .eq 5, 3) := by decide +kernel
theorem dX12_comes_70 : decode cX12_comes 70 = .ok (.iconst 0, 1) := by decide +kernel
theorem dX12_comes_71 : decode cX12_comes 71 = .ok (.ireturn, 1) := by decide +kernel
theorem dX12_comes_72 : decode cX12_comes 72 = .ok (.aload_n 0, 1) := by decide +kernel
theorem dX12_comes_73 : decode cX12_comes 73 = .ok (.invokevirtual 363, 3) := by decide +kernel
theorem dX12_comes_76 : decode cX12_comes 76 = .ok (.aload_n 0, 1) := by decide +kernel
theorem dX12_comes_77 : decode cX12_comes 77 = .ok (.iload_n 1, 1) := by decide +kernel
theorem dX12_comes_78 : decode cX12_comes 78 = .ok (.iload_n 2, 1) := by decide +kernel
theorem dX12_comes_79 : decode cX12_comes 79 = .ok (.iload_n 3, 1) := by decide +kernel
theorem dX12_comes_80 : decode cX12_comes 80 = .ok (.invokevirtual 162, 3) := by decide +kernel
theorem dX12_comes_83 : decode cX12_comes 83 = .ok (.aload_n 0, 1) := by decide +kernel
theorem dX12_comes_84 : decode cX12_comes 84 = .ok (.invokevirtual 95, 3) := by decide +kernel
theorem dX12_comes_87 : decode cX12_comes 87 = .ok (.iconst 1, 1) := by decide +kernel
theorem dX12_comes_88 : decode cX12_comes 88 = .ok (.isub, 1) := by decide +kernel
theorem dX12_comes_89 : decode cX12_comes 89 = .ok (.ireturn, 1) := by decide +kernel
theorem dX12_block_0 : decode cX12_block 0 = .ok (.aload_n 0, 1) := by decide +kernel
theorem dX12_block_1 : decode cX12_block 1 = .ok (.iconst 0, 1) := by decide +kernel
theorem dX12_block_2 : decode cX12_block 2 = .ok (.putfield 3, 3) := by decide +kernel
theorem dX12_block_5 : decode cX12_block 5 = .ok (.aload_n 0, 1) := by decide +kernel
theorem dX12_block_6 : decode cX12_block 6 = .ok (.iload_n 1, 1) := by decide +kernel
theorem dX12_block_7 : decode cX12_block 7 = .ok (.invokestatic 360, 3) := by decide +kernel
theorem dX12_block_10 : decode cX12_block 10 = .ok (.iconst 1, 1) := by decide +kernel
theorem dX12_block_11 : decode cX12_block 11 = .ok (.invokevirtual 282, 3) := by decide +kernel
theorem dX12_block_14 : decode cX12_block 14 = .ok (.ifCond .eq 5, 3) := by decide +kernel
theorem dX12_block_17 : decode cX12_block 17 = .ok (.iconst 0, 1) := by decide +kernel
theorem dX12_block_18 : decode cX12_block 18 = .ok (.ireturn, 1) := by decide +kernel
theorem dX12_block_19 : decode cX12_block 19 = .ok (.aload_n 0, 1) := by decide +kernel
theorem dX12_block_20 : decode cX12_block 20 = .ok (.getfield 13, 3) := by decide +kernel
theorem dX12_block_23 : decode cX12_block 23 = .ok (.bipush 10, 2) := by decide +kernel
theorem dX12_block_25 : decode cX12_block 25 = .ok (.iaload, 1) := by decide +kernel
theorem dX12_block_26 : decode cX12_block 26 = .ok (.iconst 1, 1) := by decide +kernel
theorem dX12_block_27 : decode cX12_block 27 = .ok (.iload_n 1, 1) := by decide +kernel
theorem dX12_block_28 : decode cX12_block 28 = .ok (.ishl, 1) := by decide +kernel
theorem dX12_block_29 : decode cX12_block 29 = .ok (.iconst (-1), 1) := by decide +kernel
theorem dX12_block_30 : decode cX12_block 30 = .ok (.ixor, 1) := by decide +kernel
theorem dX12_block_31 : decode cX12_block 31 = .ok (.iand, 1) := by decide +kernel
theorem dX12_block_32 : decode cX12_block 32 = .ok (.iload_n 2, 1) := by decide +kernel
theorem dX12_block_33 : decode cX12_block 33 = .ok (.ifCond .eq 9, 3) := by decide +kernel
theorem dX12_block_36 : decode cX12_block 36 = .ok (.iconst 1, 1) := by decide +kernel
theorem dX12_block_37 : decode cX12_block 37 = .ok (.iload_n 1, 1) := by decide +kernel
theorem dX12_block_38 : decode cX12_block 38 = .ok (.ishl, 1) := by decide +kernel
theorem dX12_block_39 : decode cX12_block 39 = .ok (.goto 4, 3) := by decide +kernel
theorem dX12_block_42 : decode cX12_block 42 = .ok (.iconst 0, 1) := by decide +kernel
theorem dX12_block_43 : decode cX12_block 43 = .ok (.ior, 1) := by decide +kernel
theorem dX12_block_44 : decode cX12_block 44 = .ok (.istore_n 3, 1) := by decide +kernel
theorem dX12_block_45 : decode cX12_block 45 = .ok (.aload_n 0, 1) := by decide +kernel
theorem dX12_block_46 : decode cX12_block 46 = .ok (.bipush 10, 2) := by decide +kernel
theorem dX12_block_48 : decode cX12_block 48 = .ok (.iload_n 3, 1) := by decide +kernel
theorem dX12_block_49 : decode cX12_block 49 = .ok (.invokevirtual 373, 3) := by decide +kernel
theorem dX12_block_52 : decode cX12_block 52 = .ok (.iload_n 3, 1) := by decide +kernel
theorem dX12_block_53 : decode cX12_block 53 = .ok (.if_icmp .eq 7, 3) := by decide +kernel
theorem dX12_block_56 : decode cX12_block 56 = .ok (.iconst 1, 1) := by decide +kernel
theorem dX12_block_57 : decode cX12_block 57 = .ok (.goto 4, 3) := by decide +kernel
theorem dX12_block_60 : decode cX12_block 60 = .ok (.iconst 0, 1) := by decide +kernel
theorem dX12_block_61 : decode cX12_block 61 = .ok (.ireturn, 1) := by decide +kernel
theorem dX12_isFigure_0 : decode cX12_isFigure 0 = .ok (.aload_n 0, 1) := by decide +kernel
theorem dX12_isFigure_1 : decode cX12_isFigure 1 = .ok (.iconst 0, 1) := by decide +kernel
theorem dX12_isFigure_2 : decode cX12_isFigure 2 = .ok (.putfield 3, 3) := by decide +kernel
theorem dX12_isFigure_5 : decode cX12_isFigure 5 = .ok (.aload_n 0, 1) := by decide +kernel
theorem dX12_isFigure_6 : decode cX12_isFigure 6 = .ok (.iload_n 2, 1) := by decide +kernel
theorem dX12_isFigure_7 : decode cX12_isFigure 7 = .ok (.iconst 0, 1) := by decide +kernel
theorem dX12_isFigure_8 : decode cX12_isFigure 8 = .ok (.bipush 9, 2) := by decide +kernel
theorem dX12_isFigure_10 : decode cX12_isFigure 10 = .ok (.invokestatic 103, 3) := by decide +kernel
theorem dX12_isFigure_13 : decode cX12_isFigure 13 = .ok (.ifCond .ne 7, 3) := by decide +kernel
theorem dX12_isFigure_16 : decode cX12_isFigure 16 = .ok (.iconst 1, 1) := by decide +kernel
theorem dX12_isFigure_17 : decode cX12_isFigure 17 = .ok (.goto 4, 3) := by decide +kernel
theorem dX12_isFigure_20 : decode cX12_isFigure 20 = .ok (.iconst 0, 1) := by decide +kernel
theorem dX12_isFigure_21 : decode cX12_isFigure 21 = .ok (.iconst 1, 1) := by decide +kernel
theorem dX12_isFigure_22 : decode cX12_isFigure 22 = .ok (.invokevirtual 282, 3) := by decide +kernel
theorem dX12_isFigure_25 : decode cX12_isFigure 25 = .ok (.ifCond .eq 7, 3) := by decide +kernel
theorem dX12_isFigure_28 : decode cX12_isFigure 28 = .ok (.iconst 0, 1) := by decide +kernel
theorem dX12_isFigure_29 : decode cX12_isFigure 29 = .ok (.goto 9, 3) := by decide +kernel
theorem dX12_isFigure_32 : decode cX12_isFigure 32 = .ok (.aload_n 0, 1) := by decide +kernel
theorem dX12_isFigure_33 : decode cX12_isFigure 33 = .ok (.iload_n 1, 1) := by decide +kernel
theorem dX12_isFigure_34 : decode cX12_isFigure 34 = .ok (.iload_n 2, 1) := by decide +kernel
theorem dX12_isFigure_35 : decode cX12_isFigure 35 = .ok (.invokevirtual 373, 3) := by decide +kernel
theorem dX12_isFigure_38 : decode cX12_isFigure 38 = .ok (.ireturn, 1) := by decide +kernel
theorem dX12_pumps_0 : decode cX12_pumps 0 = .ok (.aload_n 0, 1) := by decide +kernel
theorem dX12_pumps_1 : decode cX12_pumps 1 = .ok (.iconst 5, 1) := by decide +kernel
theorem dX12_pumps_2 : decode cX12_pumps 2 = .ok (.iload_n 1, 1) := by decide +kernel
theorem dX12_pumps_3 : decode cX12_pumps 3 = .ok (.invokevirtual 387, 3) := by decide +kernel
theorem dX12_pumps_6 : decode cX12_pumps 6 = .ok (.ireturn, 1) := by decide +kernel
theorem dX12_hands_0 : decode cX12_hands 0 = .ok (.aload_n 0, 1) := by decide +kernel
theorem dX12_hands_1 : decode cX12_hands 1 = .ok (.bipush 6, 2) := by decide +kernel
theorem dX12_hands_3 : decode cX12_hands 3 = .ok (.iload_n 1, 1) := by decide +kernel
theorem dX12_hands_4 : decode cX12_hands 4 = .ok (.invokevirtual 387, 3) := by decide +kernel
theorem dX12_hands_7 : decode cX12_hands 7 = .ok (.ireturn, 1) := by decide +kernel
theorem dX12_flow_0 : decode cX12_flow 0 = .ok (.aload_n 0, 1) := by decide +kernel
theorem dX12_flow_1 : decode cX12_flow 1 = .ok (.iconst 0, 1) := by decide +kernel
theorem dX12_flow_2 : decode cX12_flow 2 = .ok (.putfield 3, 3) := by decide +kernel
theorem dX12_flow_5 : decode cX12_flow 5 = .ok (.aload_n 0, 1) := by decide +kernel
theorem dX12_flow_6 : decode cX12_flow 6 = .ok (.iload_n 1, 1) := by decide +kernel
theorem dX12_flow_7 : decode cX12_flow 7 = .ok (.iconst 0, 1) := by decide +kernel
theorem dX12_flow_8 : decode cX12_flow 8 = .ok (.bipush 11, 2) := by decide +kernel
theorem dX12_flow_10 : decode cX12_flow 10 = .ok (.invokestatic 103, 3) := by decide +kernel
theorem dX12_flow_13 : decode cX12_flow 13 = .ok (.ifCond .ne 7, 3) := by decide +kernel
theorem dX12_flow_16 : decode cX12_flow 16 = .ok (.iconst 1, 1) := by decide +kernel
theorem dX12_flow_17 : decode cX12_flow 17 = .ok (.goto 4, 3) := by decide +kernel
theorem dX12_flow_20 : decode cX12_flow 20 = .ok (.iconst 0, 1) := by decide +kernel
theorem dX12_flow_21 : decode cX12_flow 21 = .ok (.iconst 1, 1) := by decide +kernel
theorem dX12_flow_22 : decode cX12_flow 22 = .ok (.invokevirtual 282, 3) := by decide +kernel
theorem dX12_flow_25 : decode cX12_flow 25 = .ok (.ifCond .ne 26, 3) := by decide +kernel
theorem dX12_flow_28 : decode cX12_flow 28 = .ok (.aload_n 0, 1) := by decide +kernel
theorem dX12_flow_29 : decode cX12_flow 29 = .ok (.iload_n 2, 1) := by decide +kernel
theorem dX12_flow_30 : decode cX12_flow 30 = .ok (.iconst 0, 1) := by decide +kernel
theorem dX12_flow_31 : decode cX12_flow 31 = .ok (.bipush 30, 2) := by decide +kernel
theorem dX12_flow_33 : decode cX12_flow 33 = .ok (.invokestatic 103, 3) := by decide +kernel
theorem dX12_flow_36 : decode cX12_flow 36 = .ok (.ifCond .ne 7, 3) := by decide +kernel
theorem dX12_flow_39 : decode cX12_flow 39 = .ok (.iconst 1, 1) := by decide +kernel
theorem dX12_flow_40 : decode cX12_flow 40 = .ok (.goto 4, 3) := by decide +kernel
theorem dX12_flow_43 : decode cX12_flow 43 = .ok (.iconst 0, 1) := by decide +kernel
theorem dX12_flow_44 : decode cX12_flow 44 = .ok (.iconst 2, 1) := by decide +kernel
theorem dX12_flow_45 : decode cX12_flow 45 = .ok (.invokevirtual 282, 3) := by decide +kernel
theorem dX12_flow_48 : decode cX12_flow 48 = .ok (.ifCond .eq 7, 3) := by decide +kernel
theorem dX12_flow_51 : decode cX12_flow 51 = .ok (.iconst 0, 1) := by decide +kernel
theorem dX12_flow_52 : decode cX12_flow 52 = .ok (.goto 12, 3) := by decide +kernel
theorem dX12_flow_55 : decode cX12_flow 55 = .ok (.aload_n 0, 1) := by decide +kernel
theorem dX12_flow_56 : decode cX12_flow 56 = .ok (.bipush 13, 2) := by decide +kernel
theorem dX12_flow_58 : decode cX12_flow 58 = .ok (.iload_n 1, 1) := by decide +kernel
theorem dX12_flow_59 : decode cX12_flow 59 = .ok (.iadd, 1) := by decide +kernel
theorem dX12_flow_60 : decode cX12_flow 60 = .ok (.iload_n 2, 1) := by decide +kernel
theorem dX12_flow_61 : decode cX12_flow 61 = .ok (.invokevirtual 373, 3) := by decide +kernel
theorem dX12_flow_64 : decode cX12_flow 64 = .ok (.ireturn, 1) := by decide +kernel
theorem dX12_pulls_0 : decode cX12_pulls 0 = .ok (.aload_n 0, 1) := by decide +kernel
theorem dX12_pulls_1 : decode cX12_pulls 1 = .ok (.iconst 0, 1) := by decide +kernel
theorem dX12_pulls_2 : decode cX12_pulls 2 = .ok (.putfield 3, 3) := by decide +kernel
theorem dX12_pulls_5 : decode cX12_pulls 5 = .ok (.aload_n 0, 1) := by decide +kernel
theorem dX12_pulls_6 : decode cX12_pulls 6 = .ok (.invokevirtual 330, 3) := by decide +kernel
theorem dX12_pulls_9 : decode cX12_pulls 9 = .ok (.ireturn, 1) := by decide +kernel
theorem dX12_leaks_0 : decode cX12_leaks 0 = .ok (.aload_n 0, 1) := by decide +kernel
theorem dX12_leaks_1 : decode cX12_leaks 1 = .ok (.iconst 0, 1) := by decide +kernel
theorem dX12_leaks_2 : decode cX12_leaks 2 = .ok (.putfield 3, 3) := by decide +kernel
theorem dX12_leaks_5 : decode cX12_leaks 5 = .ok (.aload_n 0, 1) := by decide +kernel
theorem dX12_leaks_6 : decode cX12_leaks 6 = .ok (.invokevirtual 327, 3) := by decide +kernel
theorem dX12_leaks_9 : decode cX12_leaks 9 = .ok (.ireturn, 1) := by decide +kernel
theorem dX12_even_0 : decode cX12_even 0 = .ok (.aload_n 0, 1) := by decide +kernel
theorem dX12_even_1 : decode cX12_even 1 = .ok (.iconst 0, 1) := by decide +kernel
theorem dX12_even_2 : decode cX12_even 2 = .ok (.putfield 3, 3) := by decide +kernel
theorem dX12_even_5 : decode cX12_even 5 = .ok (.aload_n 0, 1) := by decide +kernel
theorem dX12_even_6 : decode cX12_even 6 = .ok (.invokevirtual 370, 3) := by decide +kernel
theorem dX12_even_9 : decode cX12_even 9 = .ok (.ireturn, 1) := by decide +kernel
theorem dX12_room_0 : decode cX12_room 0 = .ok (.aload_n 0, 1) := by decide +kernel
theorem dX12_room_1 : decode cX12_room 1 = .ok (.iconst 0, 1) := by decide +kernel
theorem dX12_room_2 : decode cX12_room 2 = .ok (.putfield 3, 3) := by decide +kernel
theorem dX12_room_5 : decode cX12_room 5 = .ok (.aload_n 0, 1) := by decide +kernel
theorem dX12_room_6 : decode cX12_room 6 = .ok (.invokevirtual 168, 3) := by decide +kernel
theorem dX12_room_9 : decode cX12_room 9 = .ok (.istore_n 1, 1) := by decide +kernel
theorem dX12_room_10 : decode cX12_room 10 = .ok (.iconst 0, 1) := by decide +kernel
theorem dX12_room_11 : decode cX12_room 11 = .ok (.istore_n 2, 1) := by decide +kernel
theorem dX12_room_12 : decode cX12_room 12 = .ok (.iconst 0, 1) := by decide +kernel
theorem dX12_room_13 : decode cX12_room 13 = .ok (.istore_n 3, 1) := by decide +kernel
theorem dX12_room_14 : decode cX12_room 14 = .ok (.iconst 0, 1) := by decide +kernel
theorem dX12_room_15 : decode cX12_room 15 = .ok (.istore 4, 2) := by decide +kernel
theorem dX12_room_17 : decode cX12_room 17 = .ok (.iload 4, 2) := by decide +kernel
theorem dX12_room_19 : decode cX12_room 19 = .ok (.bipush 24, 2) := by decide +kernel
theorem dX12_room_21 : decode cX12_room 21 = .ok (.if_icmp .ge 32, 3) := by decide +kernel
theorem dX12_room_24 : decode cX12_room 24 = .ok (.iload_n 1, 1) := by decide +kernel
theorem dX12_room_25 : decode cX12_room 25 = .ok (.iload 4, 2) := by decide +kernel
theorem dX12_room_27 : decode cX12_room 27 = .ok (.invokestatic 306, 3) := by decide +kernel
theorem dX12_room_30 : decode cX12_room 30 = .ok (.ifCond .eq 7, 3) := by decide +kernel
theorem dX12_room_33 : decode cX12_room 33 = .ok (.iconst 0, 1) := by decide +kernel
theorem dX12_room_34 : decode cX12_room 34 = .ok (.goto 6, 3) := by decide +kernel
theorem dX12_room_37 : decode cX12_room 37 = .ok (.iload_n 3, 1) := by decide +kernel
theorem dX12_room_38 : decode cX12_room 38 = .ok (.iconst 1, 1) := by decide +kernel
theorem dX12_room_39 : decode cX12_room 39 = .ok (.iadd, 1) := by decide +kernel
theorem dX12_room_40 : decode cX12_room 40 = .ok (.istore_n 3, 1) := by decide +kernel
theorem dX12_room_41 : decode cX12_room 41 = .ok (.iload_n 2, 1) := by decide +kernel
theorem dX12_room_42 : decode cX12_room 42 = .ok (.iload_n 3, 1) := by decide +kernel
theorem dX12_room_43 : decode cX12_room 43 = .ok (.invokestatic 333, 3) := by decide +kernel
theorem dX12_room_46 : decode cX12_room 46 = .ok (.istore_n 2, 1) := by decide +kernel
theorem dX12_room_47 : decode cX12_room 47 = .ok (.iinc 4 1, 3) := by decide +kernel
theorem dX12_room_50 : decode cX12_room 50 = .ok (.goto (-33), 3) := by decide +kernel
theorem dX12_room_53 : decode cX12_room 53 = .ok (.iload_n 2, 1) := by decide +kernel
theorem dX12_room_54 : decode cX12_room 54 = .ok (.ireturn, 1) := by decide +kernel
theorem dX12_laysMembers_0 : decode cX12_laysMembers 0 = .ok (.iconst 0, 1) := by decide +kernel
theorem dX12_laysMembers_1 : decode cX12_laysMembers 1 = .ok (.istore_n 2, 1) := by decide +kernel
theorem dX12_laysMembers_2 : decode cX12_laysMembers 2 = .ok (.iconst 0, 1) := by decide +kernel
theorem dX12_laysMembers_3 : decode cX12_laysMembers 3 = .ok (.istore_n 3, 1) := by decide +kernel
theorem dX12_laysMembers_4 : decode cX12_laysMembers 4 = .ok (.iload_n 3, 1) := by decide +kernel
theorem dX12_laysMembers_5 : decode cX12_laysMembers 5 = .ok (.aload_n 0, 1) := by decide +kernel
theorem dX12_laysMembers_6 : decode cX12_laysMembers 6 = .ok (.invokevirtual 95, 3) := by decide +kernel
theorem dX12_laysMembers_9 : decode cX12_laysMembers 9 = .ok (.if_icmp .ge 30, 3) := by decide +kernel
theorem dX12_laysMembers_12 : decode cX12_laysMembers 12 = .ok (.iload_n 1, 1) := by decide +kernel
theorem dX12_laysMembers_13 : decode cX12_laysMembers 13 = .ok (.iload_n 3, 1) := by decide +kernel
theorem dX12_laysMembers_14 : decode cX12_laysMembers 14 = .ok (.invokestatic 306, 3) := by decide +kernel
theorem dX12_laysMembers_17 : decode cX12_laysMembers 17 = .ok (.ifCond .ne 6, 3) := by decide +kernel
theorem dX12_laysMembers_20 : decode cX12_laysMembers 20 = .ok (.goto 13, 3) := by decide +kernel
theorem dX12_laysMembers_23 : decode cX12_laysMembers 23 = .ok (.aload_n 0, 1) := by decide +kernel
theorem dX12_laysMembers_24 : decode cX12_laysMembers 24 = .ok (.getfield 42, 3) := by decide +kernel
theorem dX12_laysMembers_27 : decode cX12_laysMembers 27 = .ok (.iload_n 2, 1) := by decide +kernel
theorem dX12_laysMembers_28 : decode cX12_laysMembers 28 = .ok (.iload_n 3, 1) := by decide +kernel
theorem dX12_laysMembers_29 : decode cX12_laysMembers 29 = .ok (.iastore, 1) := by decide +kernel
theorem dX12_laysMembers_30 : decode cX12_laysMembers 30 = .ok (.iinc 2 1, 3) := by decide +kernel
theorem dX12_laysMembers_33 : decode cX12_laysMembers 33 = .ok (.iinc 3 1, 3) := by decide +kernel
theorem dX12_laysMembers_36 : decode cX12_laysMembers 36 = .ok (.goto (-32), 3) := by decide +kernel
theorem dX12_laysMembers_39 : decode cX12_laysMembers 39 = .ok (.iload_n 2, 1) := by decide +kernel
theorem dX12_laysMembers_40 : decode cX12_laysMembers 40 = .ok (.ireturn, 1) := by decide +kernel
theorem dX12_feesOf_0 : decode cX12_feesOf 0 = .ok (.iconst 0, 1) := by decide +kernel
theorem dX12_feesOf_1 : decode cX12_feesOf 1 = .ok (.istore_n 2, 1) := by decide +kernel
theorem dX12_feesOf_2 : decode cX12_feesOf 2 = .ok (.iconst 0, 1) := by decide +kernel
theorem dX12_feesOf_3 : decode cX12_feesOf 3 = .ok (.istore_n 3, 1) := by decide +kernel
theorem dX12_feesOf_4 : decode cX12_feesOf 4 = .ok (.iload_n 3, 1) := by decide +kernel
theorem dX12_feesOf_5 : decode cX12_feesOf 5 = .ok (.aload_n 0, 1) := by decide +kernel
theorem dX12_feesOf_6 : decode cX12_feesOf 6 = .ok (.invokevirtual 95, 3) := by decide +kernel
theorem dX12_feesOf_9 : decode cX12_feesOf 9 = .ok (.if_icmp .ge 29, 3) := by decide +kernel
theorem dX12_feesOf_12 : decode cX12_feesOf 12 = .ok (.iload_n 2, 1) := by decide +kernel
theorem dX12_feesOf_13 : decode cX12_feesOf 13 = .ok (.iload_n 1, 1) := by decide +kernel
theorem dX12_feesOf_14 : decode cX12_feesOf 14 = .ok (.iload_n 3, 1) := by decide +kernel
theorem dX12_feesOf_15 : decode cX12_feesOf 15 = .ok (.invokestatic 306, 3) := by decide +kernel
theorem dX12_feesOf_18 : decode cX12_feesOf 18 = .ok (.ifCond .eq 11, 3) := by decide +kernel
theorem dX12_feesOf_21 : decode cX12_feesOf 21 = .ok (.aload_n 0, 1) := by decide +kernel
theorem dX12_feesOf_22 : decode cX12_feesOf 22 = .ok (.iload_n 3, 1) := by decide +kernel
theorem dX12_feesOf_23 : decode cX12_feesOf 23 = .ok (.invokevirtual 348, 3) := by decide +kernel
theorem dX12_feesOf_26 : decode cX12_feesOf 26 = .ok (.goto 4, 3) := by decide +kernel
theorem dX12_feesOf_29 : decode cX12_feesOf 29 = .ok (.iconst 0, 1) := by decide +kernel
theorem dX12_feesOf_30 : decode cX12_feesOf 30 = .ok (.iadd, 1) := by decide +kernel
theorem dX12_feesOf_31 : decode cX12_feesOf 31 = .ok (.istore_n 2, 1) := by decide +kernel
theorem dX12_feesOf_32 : decode cX12_feesOf 32 = .ok (.iinc 3 1, 3) := by decide +kernel
theorem dX12_feesOf_35 : decode cX12_feesOf 35 = .ok (.goto (-31), 3) := by decide +kernel
theorem dX12_feesOf_38 : decode cX12_feesOf 38 = .ok (.iload_n 2, 1) := by decide +kernel
theorem dX12_feesOf_39 : decode cX12_feesOf 39 = .ok (.ireturn, 1) := by decide +kernel
theorem dX12_mayEnter_0 : decode cX12_mayEnter 0 = .ok (.iconst 0, 1) := by decide +kernel
theorem dX12_mayEnter_1 : decode cX12_mayEnter 1 = .ok (.istore_n 1, 1) := by decide +kernel
theorem dX12_mayEnter_2 : decode cX12_mayEnter 2 = .ok (.iconst 0, 1) := by decide +kernel
theorem dX12_mayEnter_3 : decode cX12_mayEnter 3 = .ok (.istore_n 2, 1) := by decide +kernel
theorem dX12_mayEnter_4 : decode cX12_mayEnter 4 = .ok (.iload_n 2, 1) := by decide +kernel
theorem dX12_mayEnter_5 : decode cX12_mayEnter 5 = .ok (.aload_n 0, 1) := by decide +kernel
theorem dX12_mayEnter_6 : decode cX12_mayEnter 6 = .ok (.invokevirtual 95, 3) := by decide +kernel
theorem dX12_mayEnter_9 : decode cX12_mayEnter 9 = .ok (.if_icmp .ge 43, 3) := by decide +kernel
theorem dX12_mayEnter_12 : decode cX12_mayEnter 12 = .ok (.iload_n 1, 1) := by decide +kernel
theorem dX12_mayEnter_13 : decode cX12_mayEnter 13 = .ok (.aload_n 0, 1) := by decide +kernel
theorem dX12_mayEnter_14 : decode cX12_mayEnter 14 = .ok (.iload_n 2, 1) := by decide +kernel
theorem dX12_mayEnter_15 : decode cX12_mayEnter 15 = .ok (.iconst 3, 1) := by decide +kernel
theorem dX12_mayEnter_16 : decode cX12_mayEnter 16 = .ok (.invokevirtual 85, 3) := by decide +kernel
theorem dX12_mayEnter_19 : decode cX12_mayEnter 19 = .ok (.ifCond .ne 24, 3) := by decide +kernel
theorem dX12_mayEnter_22 : decode cX12_mayEnter 22 = .ok (.aload_n 0, 1) := by decide +kernel
theorem dX12_mayEnter_23 : decode cX12_mayEnter 23 = .ok (.iload_n 2, 1) := by decide +kernel
theorem dX12_mayEnter_24 : decode cX12_mayEnter 24 = .ok (.iconst 1, 1) := by decide +kernel
theorem dX12_mayEnter_25 : decode cX12_mayEnter 25 = .ok (.invokevirtual 85, 3) := by decide +kernel
theorem dX12_mayEnter_28 : decode cX12_mayEnter 28 = .ok (.aload_n 0, 1) := by decide +kernel
theorem dX12_mayEnter_29 : decode cX12_mayEnter 29 = .ok (.getfield 13, 3) := by decide +kernel
theorem dX12_mayEnter_32 : decode cX12_mayEnter 32 = .ok (.iconst 3, 1) := by decide +kernel
theorem dX12_mayEnter_33 : decode cX12_mayEnter 33 = .ok (.iaload, 1) := by decide +kernel
theorem dX12_mayEnter_34 : decode cX12_mayEnter 34 = .ok (.if_icmp .gt 9, 3) := by decide +kernel
theorem dX12_mayEnter_37 : decode cX12_mayEnter 37 = .ok (.iconst 1, 1) := by decide +kernel
theorem dX12_mayEnter_38 : decode cX12_mayEnter 38 = .ok (.iload_n 2, 1) := by decide +kernel
theorem dX12_mayEnter_39 : decode cX12_mayEnter 39 = .ok (.ishl, 1) := by decide +kernel
theorem dX12_mayEnter_40 : decode cX12_mayEnter 40 = .ok (.goto 4, 3) := by decide +kernel
theorem dX12_mayEnter_43 : decode cX12_mayEnter 43 = .ok (.iconst 0, 1) := by decide +kernel
theorem dX12_mayEnter_44 : decode cX12_mayEnter 44 = .ok (.ior, 1) := by decide +kernel
theorem dX12_mayEnter_45 : decode cX12_mayEnter 45 = .ok (.istore_n 1, 1) := by decide +kernel
theorem dX12_mayEnter_46 : decode cX12_mayEnter 46 = .ok (.iinc 2 1, 3) := by decide +kernel
theorem dX12_mayEnter_49 : decode cX12_mayEnter 49 = .ok (.goto (-45), 3) := by decide +kernel
theorem dX12_mayEnter_52 : decode cX12_mayEnter 52 = .ok (.iload_n 1, 1) := by decide +kernel
theorem dX12_mayEnter_53 : decode cX12_mayEnter 53 = .ok (.ireturn, 1) := by decide +kernel
theorem dX12_laysRuns_0 : decode cX12_laysRuns 0 = .ok (.aload_n 0, 1) := by decide +kernel
theorem dX12_laysRuns_1 : decode cX12_laysRuns 1 = .ok (.invokevirtual 168, 3) := by decide +kernel
theorem dX12_laysRuns_4 : decode cX12_laysRuns 4 = .ok (.istore_n 1, 1) := by decide +kernel
theorem dX12_laysRuns_5 : decode cX12_laysRuns 5 = .ok (.iconst 0, 1) := by decide +kernel
theorem dX12_laysRuns_6 : decode cX12_laysRuns 6 = .ok (.istore_n 2, 1) := by decide +kernel
theorem dX12_laysRuns_7 : decode cX12_laysRuns 7 = .ok (.iconst 0, 1) := by decide +kernel
theorem dX12_laysRuns_8 : decode cX12_laysRuns 8 = .ok (.istore_n 3, 1) := by decide +kernel
theorem dX12_laysRuns_9 : decode cX12_laysRuns 9 = .ok (.iload_n 3, 1) := by decide +kernel
theorem dX12_laysRuns_10 : decode cX12_laysRuns 10 = .ok (.bipush 24, 2) := by decide +kernel
theorem dX12_laysRuns_12 : decode cX12_laysRuns 12 = .ok (.if_icmp .ge 56, 3) := by decide +kernel
theorem dX12_laysRuns_15 : decode cX12_laysRuns 15 = .ok (.iload_n 1, 1) := by decide +kernel
theorem dX12_laysRuns_16 : decode cX12_laysRuns 16 = .ok (.iload_n 3, 1) := by decide +kernel
theorem dX12_laysRuns_17 : decode cX12_laysRuns 17 = .ok (.invokestatic 306, 3) := by decide +kernel
theorem dX12_laysRuns_20 : decode cX12_laysRuns 20 = .ok (.ifCond .eq 6, 3) := by decide +kernel
theorem dX12_laysRuns_23 : decode cX12_laysRuns 23 = .ok (.goto 39, 3) := by decide +kernel
theorem dX12_laysRuns_26 : decode cX12_laysRuns 26 = .ok (.iload_n 3, 1) := by decide +kernel
theorem dX12_laysRuns_27 : decode cX12_laysRuns 27 = .ok (.ifCond .eq 13, 3) := by decide +kernel
theorem dX12_laysRuns_30 : decode cX12_laysRuns 30 = .ok (.iload_n 1, 1) := by decide +kernel
theorem dX12_laysRuns_31 : decode cX12_laysRuns 31 = .ok (.iload_n 3, 1) := by decide +kernel
theorem dX12_laysRuns_32 : decode cX12_laysRuns 32 = .ok (.iconst 1, 1) := by decide +kernel
theorem dX12_laysRuns_33 : decode cX12_laysRuns 33 = .ok (.isub, 1) := by decide +kernel
theorem dX12_laysRuns_34 : decode cX12_laysRuns 34 = .ok (.invokestatic 306, 3) := by decide +kernel
theorem dX12_laysRuns_37 : decode cX12_laysRuns 37 = .ok (.ifCond .eq 13, 3) := by decide +kernel
theorem dX12_laysRuns_40 : decode cX12_laysRuns 40 = .ok (.aload_n 0, 1) := by decide +kernel
theorem dX12_laysRuns_41 : decode cX12_laysRuns 41 = .ok (.getfield 45, 3) := by decide +kernel
theorem dX12_laysRuns_44 : decode cX12_laysRuns 44 = .ok (.iload_n 2, 1) := by decide +kernel
theorem dX12_laysRuns_45 : decode cX12_laysRuns 45 = .ok (.iconst 0, 1) := by decide +kernel
theorem dX12_laysRuns_46 : decode cX12_laysRuns 46 = .ok (.iastore, 1) := by decide +kernel
theorem dX12_laysRuns_47 : decode cX12_laysRuns 47 = .ok (.iinc 2 1, 3) := by decide +kernel
theorem dX12_laysRuns_50 : decode cX12_laysRuns 50 = .ok (.aload_n 0, 1) := by decide +kernel
theorem dX12_laysRuns_51 : decode cX12_laysRuns 51 = .ok (.getfield 45, 3) := by decide +kernel
theorem dX12_laysRuns_54 : decode cX12_laysRuns 54 = .ok (.iload_n 2, 1) := by decide +kernel
theorem dX12_laysRuns_55 : decode cX12_laysRuns 55 = .ok (.iconst 1, 1) := by decide +kernel
theorem dX12_laysRuns_56 : decode cX12_laysRuns 56 = .ok (.isub, 1) := by decide +kernel
theorem dX12_laysRuns_57 : decode cX12_laysRuns 57 = .ok (.dup2, 1) := by decide +kernel
theorem dX12_laysRuns_58 : decode cX12_laysRuns 58 = .ok (.iaload, 1) := by decide +kernel
theorem dX12_laysRuns_59 : decode cX12_laysRuns 59 = .ok (.iconst 1, 1) := by decide +kernel
theorem dX12_laysRuns_60 : decode cX12_laysRuns 60 = .ok (.iadd, 1) := by decide +kernel
theorem dX12_laysRuns_61 : decode cX12_laysRuns 61 = .ok (.iastore, 1) := by decide +kernel
theorem dX12_laysRuns_62 : decode cX12_laysRuns 62 = .ok (.iinc 3 1, 3) := by decide +kernel
theorem dX12_laysRuns_65 : decode cX12_laysRuns 65 = .ok (.goto (-56), 3) := by decide +kernel
theorem dX12_laysRuns_68 : decode cX12_laysRuns 68 = .ok (.iload_n 2, 1) := by decide +kernel
theorem dX12_laysRuns_69 : decode cX12_laysRuns 69 = .ok (.ireturn, 1) := by decide +kernel
theorem dX12_canLoad_0 : decode cX12_canLoad 0 = .ok (.aload_n 0, 1) := by decide +kernel
theorem dX12_canLoad_1 : decode cX12_canLoad 1 = .ok (.invokevirtual 390, 3) := by decide +kernel
theorem dX12_canLoad_4 : decode cX12_canLoad 4 = .ok (.istore_n 2, 1) := by decide +kernel
theorem dX12_canLoad_5 : decode cX12_canLoad 5 = .ok (.aload_n 0, 1) := by decide +kernel
theorem dX12_canLoad_6 : decode cX12_canLoad 6 = .ok (.iload_n 1, 1) := by decide +kernel
theorem dX12_canLoad_7 : decode cX12_canLoad 7 = .ok (.invokevirtual 393, 3) := by decide +kernel
theorem dX12_canLoad_10 : decode cX12_canLoad 10 = .ok (.istore_n 3, 1) := by decide +kernel
theorem dX12_canLoad_11 : decode cX12_canLoad 11 = .ok (.iconst 0, 1) := by decide +kernel
theorem dX12_canLoad_12 : decode cX12_canLoad 12 = .ok (.istore 4, 2) := by decide +kernel
theorem dX12_canLoad_14 : decode cX12_canLoad 14 = .ok (.iconst 0, 1) := by decide +kernel
theorem dX12_canLoad_15 : decode cX12_canLoad 15 = .ok (.istore 5, 2) := by decide +kernel
theorem dX12_canLoad_17 : decode cX12_canLoad 17 = .ok (.iload 5, 2) := by decide +kernel
theorem dX12_canLoad_19 : decode cX12_canLoad 19 = .ok (.iload_n 3, 1) := by decide +kernel
theorem dX12_canLoad_20 : decode cX12_canLoad 20 = .ok (.if_icmp .ge 17, 3) := by decide +kernel
theorem dX12_canLoad_23 : decode cX12_canLoad 23 = .ok (.aload_n 0, 1) := by decide +kernel
theorem dX12_canLoad_24 : decode cX12_canLoad 24 = .ok (.getfield 48, 3) := by decide +kernel
theorem dX12_canLoad_27 : decode cX12_canLoad 27 = .ok (.iload 5, 2) := by decide +kernel
theorem dX12_canLoad_29 : decode cX12_canLoad 29 = .ok (.iconst (-1), 1) := by decide +kernel
theorem dX12_canLoad_30 : decode cX12_canLoad 30 = .ok (.iastore, 1) := by decide +kernel
theorem dX12_canLoad_31 : decode cX12_canLoad 31 = .ok (.iinc 5 1, 3) := by decide +kernel
theorem dX12_canLoad_34 : decode cX12_canLoad 34 = .ok (.goto (-17), 3) := by decide +kernel
theorem dX12_canLoad_37 : decode cX12_canLoad 37 = .ok (.iload 4, 2) := by decide +kernel
theorem dX12_canLoad_39 : decode cX12_canLoad 39 = .ok (.ifCond .lt 142, 3) := by decide +kernel
theorem dX12_canLoad_42 : decode cX12_canLoad 42 = .ok (.iload 4, 2) := by decide +kernel
theorem dX12_canLoad_44 : decode cX12_canLoad 44 = .ok (.iload_n 3, 1) := by decide +kernel
theorem dX12_canLoad_45 : decode cX12_canLoad 45 = .ok (.if_icmp .ge 136, 3) := by decide +kernel
theorem dX12_canLoad_48 : decode cX12_canLoad 48 = .ok (.aload_n 0, 1) := by decide +kernel
theorem dX12_canLoad_49 : decode cX12_canLoad 49 = .ok (.aload_n 0, 1) := by decide +kernel
theorem dX12_canLoad_50 : decode cX12_canLoad 50 = .ok (.getfield 42, 3) := by decide +kernel
theorem dX12_canLoad_53 : decode cX12_canLoad 53 = .ok (.iload 4, 2) := by decide +kernel
theorem dX12_canLoad_55 : decode cX12_canLoad 55 = .ok (.iaload, 1) := by decide +kernel
theorem dX12_canLoad_56 : decode cX12_canLoad 56 = .ok (.iconst 0, 1) := by decide +kernel
theorem dX12_canLoad_57 : decode cX12_canLoad 57 = .ok (.invokevirtual 85, 3) := by decide +kernel
theorem dX12_canLoad_60 : decode cX12_canLoad 60 = .ok (.istore 5, 2) := by decide +kernel
theorem dX12_canLoad_62 : decode cX12_canLoad 62 = .ok (.aload_n 0, 1) := by decide +kernel
theorem dX12_canLoad_63 : decode cX12_canLoad 63 = .ok (.getfield 48, 3) := by decide +kernel
theorem dX12_canLoad_66 : decode cX12_canLoad 66 = .ok (.iload 4, 2) := by decide +kernel
theorem dX12_canLoad_68 : decode cX12_canLoad 68 = .ok (.iaload, 1) := by decide +kernel
theorem dX12_canLoad_69 : decode cX12_canLoad 69 = .ok (.iconst (-1), 1) := by decide +kernel
theorem dX12_canLoad_70 : decode cX12_canLoad 70 = .ok (.if_icmp .eq 20, 3) := by decide +kernel
theorem dX12_canLoad_73 : decode cX12_canLoad 73 = .ok (.aload_n 0, 1) := by decide +kernel
theorem dX12_canLoad_74 : decode cX12_canLoad 74 = .ok (.getfield 45, 3) := by decide +kernel
theorem dX12_canLoad_77 : decode cX12_canLoad 77 = .ok (.aload_n 0, 1) := by decide +kernel
theorem dX12_canLoad_78 : decode cX12_canLoad 78 = .ok (.getfield 48, 3) := by decide +kernel
theorem dX12_canLoad_81 : decode cX12_canLoad 81 = .ok (.iload 4, 2) := by decide +kernel
theorem dX12_canLoad_83 : decode cX12_canLoad 83 = .ok (.iaload, 1) := by decide +kernel
theorem dX12_canLoad_84 : decode cX12_canLoad 84 = .ok (.dup2, 1) := by decide +kernel
theorem dX12_canLoad_85 : decode cX12_canLoad 85 = .ok (.iaload, 1) := by decide +kernel
theorem dX12_canLoad_86 : decode cX12_canLoad 86 = .ok (.iload 5, 2) := by decide +kernel
theorem dX12_canLoad_88 : decode cX12_canLoad 88 = .ok (.iadd, 1) := by decide +kernel
theorem dX12_canLoad_89 : decode cX12_canLoad 89 = .ok (.iastore, 1) := by decide +kernel
theorem dX12_canLoad_90 : decode cX12_canLoad 90 = .ok (.aload_n 0, 1) := by decide +kernel
theorem dX12_canLoad_91 : decode cX12_canLoad 91 = .ok (.getfield 48, 3) := by decide +kernel
theorem dX12_canLoad_94 : decode cX12_canLoad 94 = .ok (.iload 4, 2) := by decide +kernel
theorem dX12_canLoad_96 : decode cX12_canLoad 96 = .ok (.iaload, 1) := by decide +kernel
theorem dX12_canLoad_97 : decode cX12_canLoad 97 = .ok (.iconst 1, 1) := by decide +kernel
theorem dX12_canLoad_98 : decode cX12_canLoad 98 = .ok (.iadd, 1) := by decide +kernel
theorem dX12_canLoad_99 : decode cX12_canLoad 99 = .ok (.istore 6, 2) := by decide +kernel
theorem dX12_canLoad_101 : decode cX12_canLoad 101 = .ok (.iload 6, 2) := by decide +kernel
theorem dX12_canLoad_103 : decode cX12_canLoad 103 = .ok (.iload_n 2, 1) := by decide +kernel
theorem dX12_canLoad_104 : decode cX12_canLoad 104 = .ok (.if_icmp .ge 21, 3) := by decide +kernel
theorem dX12_canLoad_107 : decode cX12_canLoad 107 = .ok (.aload_n 0, 1) := by decide +kernel
theorem dX12_canLoad_108 : decode cX12_canLoad 108 = .ok (.getfield 45, 3) := by decide +kernel
theorem dX12_canLoad_111 : decode cX12_canLoad 111 = .ok (.iload 6, 2) := by decide +kernel
theorem dX12_canLoad_113 : decode cX12_canLoad 113 = .ok (.iaload, 1) := by decide +kernel
theorem dX12_canLoad_114 : decode cX12_canLoad 114 = .ok (.iload 5, 2) := by decide +kernel
theorem dX12_canLoad_116 : decode cX12_canLoad 116 = .ok (.if_icmp .ge 9, 3) := by decide +kernel
theorem dX12_canLoad_119 : decode cX12_canLoad 119 = .ok (.iinc 6 1, 3) := by decide +kernel
theorem dX12_canLoad_122 : decode cX12_canLoad 122 = .ok (.goto (-21), 3) := by decide +kernel
theorem dX12_canLoad_125 : decode cX12_canLoad 125 = .ok (.aload_n 0, 1) := by decide +kernel
theorem dX12_canLoad_126 : decode cX12_canLoad 126 = .ok (.getfield 48, 3) := by decide +kernel
theorem dX12_canLoad_129 : decode cX12_canLoad 129 = .ok (.iload 4, 2) := by decide +kernel
theorem dX12_canLoad_131 : decode cX12_canLoad 131 = .ok (.iload 6, 2) := by decide +kernel
theorem dX12_canLoad_133 : decode cX12_canLoad 133 = .ok (.iload_n 2, 1) := by decide +kernel
theorem dX12_canLoad_134 : decode cX12_canLoad 134 = .ok (.if_icmp .ge 8, 3) := by decide +kernel
theorem dX12_canLoad_137 : decode cX12_canLoad 137 = .ok (.iload 6, 2) := by decide +kernel
theorem dX12_canLoad_139 : decode cX12_canLoad 139 = .ok (.goto 4, 3) := by decide +kernel
theorem dX12_canLoad_142 : decode cX12_canLoad 142 = .ok (.iconst (-1), 1) := by decide +kernel
theorem dX12_canLoad_143 : decode cX12_canLoad 143 = .ok (.iastore, 1) := by decide +kernel
theorem dX12_canLoad_144 : decode cX12_canLoad 144 = .ok (.iload 6, 2) := by decide +kernel
theorem dX12_canLoad_146 : decode cX12_canLoad 146 = .ok (.iload_n 2, 1) := by decide +kernel
theorem dX12_canLoad_147 : decode cX12_canLoad 147 = .ok (.if_icmp .ge 15, 3) := by decide +kernel
theorem dX12_canLoad_150 : decode cX12_canLoad 150 = .ok (.aload_n 0, 1) := by decide +kernel
theorem dX12_canLoad_151 : decode cX12_canLoad 151 = .ok (.getfield 45, 3) := by decide +kernel
theorem dX12_canLoad_154 : decode cX12_canLoad 154 = .ok (.iload 6, 2) := by decide +kernel
theorem dX12_canLoad_156 : decode cX12_canLoad 156 = .ok (.dup2, 1) := by decide +kernel
theorem dX12_canLoad_157 : decode cX12_canLoad 157 = .ok (.iaload, 1) := by decide +kernel
theorem dX12_canLoad_158 : decode cX12_canLoad 158 = .ok (.iload 5, 2) := by decide +kernel
theorem dX12_canLoad_160 : decode cX12_canLoad 160 = .ok (.isub, 1) := by decide +kernel
theorem dX12_canLoad_161 : decode cX12_canLoad 161 = .ok (.iastore, 1) := by decide +kernel
theorem dX12_canLoad_162 : decode cX12_canLoad 162 = .ok (.iload 4, 2) := by decide +kernel
theorem dX12_canLoad_164 : decode cX12_canLoad 164 = .ok (.iload 6, 2) := by decide +kernel
theorem dX12_canLoad_166 : decode cX12_canLoad 166 = .ok (.iload_n 2, 1) := by decide +kernel
theorem dX12_canLoad_167 : decode cX12_canLoad 167 = .ok (.if_icmp .ge 7, 3) := by decide +kernel
theorem dX12_canLoad_170 : decode cX12_canLoad 170 = .ok (.iconst 1, 1) := by decide +kernel
theorem dX12_canLoad_171 : decode cX12_canLoad 171 = .ok (.goto 4, 3) := by decide +kernel
theorem dX12_canLoad_174 : decode cX12_canLoad 174 = .ok (.iconst (-1), 1) := by decide +kernel
theorem dX12_canLoad_175 : decode cX12_canLoad 175 = .ok (.iadd, 1) := by decide +kernel
theorem dX12_canLoad_176 : decode cX12_canLoad 176 = .ok (.istore 4, 2) := by decide +kernel
theorem dX12_canLoad_178 : decode cX12_canLoad 178 = .ok (.goto (-141), 3) := by decide +kernel
theorem dX12_canLoad_181 : decode cX12_canLoad 181 = .ok (.iload 4, 2) := by decide +kernel
theorem dX12_canLoad_183 : decode cX12_canLoad 183 = .ok (.iload_n 3, 1) := by decide +kernel
theorem dX12_canLoad_184 : decode cX12_canLoad 184 = .ok (.if_icmp .ne 7, 3) := by decide +kernel
theorem dX12_canLoad_187 : decode cX12_canLoad 187 = .ok (.iconst 1, 1) := by decide +kernel
theorem dX12_canLoad_188 : decode cX12_canLoad 188 = .ok (.goto 4, 3) := by decide +kernel
theorem dX12_canLoad_191 : decode cX12_canLoad 191 = .ok (.iconst 0, 1) := by decide +kernel
theorem dX12_canLoad_192 : decode cX12_canLoad 192 = .ok (.ireturn, 1) := by decide +kernel
theorem dX12_bestLoad_0 : decode cX12_bestLoad 0 = .ok (.aload_n 0, 1) := by decide +kernel
theorem dX12_bestLoad_1 : decode cX12_bestLoad 1 = .ok (.invokevirtual 396, 3) := by decide +kernel
theorem dX12_bestLoad_4 : decode cX12_bestLoad 4 = .ok (.istore_n 1, 1) := by decide +kernel
theorem dX12_bestLoad_5 : decode cX12_bestLoad 5 = .ok (.iconst 0, 1) := by decide +kernel
theorem dX12_bestLoad_6 : decode cX12_bestLoad 6 = .ok (.istore_n 2, 1) := by decide +kernel
theorem dX12_bestLoad_7 : decode cX12_bestLoad 7 = .ok (.iconst 0, 1) := by decide +kernel
theorem dX12_bestLoad_8 : decode cX12_bestLoad 8 = .ok (.istore_n 3, 1) := by decide +kernel
theorem dX12_bestLoad_9 : decode cX12_bestLoad 9 = .ok (.iconst 1, 1) := by decide +kernel
theorem dX12_bestLoad_10 : decode cX12_bestLoad 10 = .ok (.istore 4, 2) := by decide +kernel
theorem dX12_bestLoad_12 : decode cX12_bestLoad 12 = .ok (.iload 4, 2) := by decide +kernel
theorem dX12_bestLoad_14 : decode cX12_bestLoad 14 = .ok (.iload_n 1, 1) := by decide +kernel
theorem dX12_bestLoad_15 : decode cX12_bestLoad 15 = .ok (.if_icmp .gt 50, 3) := by decide +kernel
theorem dX12_bestLoad_18 : decode cX12_bestLoad 18 = .ok (.iload 4, 2) := by decide +kernel
theorem dX12_bestLoad_20 : decode cX12_bestLoad 20 = .ok (.iload_n 1, 1) := by decide +kernel
theorem dX12_bestLoad_21 : decode cX12_bestLoad 21 = .ok (.iconst (-1), 1) := by decide +kernel
theorem dX12_bestLoad_22 : decode cX12_bestLoad 22 = .ok (.ixor, 1) := by decide +kernel
theorem dX12_bestLoad_23 : decode cX12_bestLoad 23 = .ok (.iand, 1) := by decide +kernel
theorem dX12_bestLoad_24 : decode cX12_bestLoad 24 = .ok (.ifCond .ne 35, 3) := by decide +kernel
theorem dX12_bestLoad_27 : decode cX12_bestLoad 27 = .ok (.aload_n 0, 1) := by decide +kernel
theorem dX12_bestLoad_28 : decode cX12_bestLoad 28 = .ok (.iload 4, 2) := by decide +kernel
theorem dX12_bestLoad_30 : decode cX12_bestLoad 30 = .ok (.invokevirtual 399, 3) := by decide +kernel
theorem dX12_bestLoad_33 : decode cX12_bestLoad 33 = .ok (.iload_n 3, 1) := by decide +kernel
theorem dX12_bestLoad_34 : decode cX12_bestLoad 34 = .ok (.if_icmp .le 25, 3) := by decide +kernel
theorem dX12_bestLoad_37 : decode cX12_bestLoad 37 = .ok (.aload_n 0, 1) := by decide +kernel
theorem dX12_bestLoad_38 : decode cX12_bestLoad 38 = .ok (.iload 4, 2) := by decide +kernel
theorem dX12_bestLoad_40 : decode cX12_bestLoad 40 = .ok (.invokevirtual 402, 3) := by decide +kernel
theorem dX12_bestLoad_43 : decode cX12_bestLoad 43 = .ok (.ifCond .ne 6, 3) := by decide +kernel
theorem dX12_bestLoad_46 : decode cX12_bestLoad 46 = .ok (.goto 13, 3) := by decide +kernel
theorem dX12_bestLoad_49 : decode cX12_bestLoad 49 = .ok (.iload 4, 2) := by decide +kernel
theorem dX12_bestLoad_51 : decode cX12_bestLoad 51 = .ok (.istore_n 2, 1) := by decide +kernel
theorem dX12_bestLoad_52 : decode cX12_bestLoad 52 = .ok (.aload_n 0, 1) := by decide +kernel
theorem dX12_bestLoad_53 : decode cX12_bestLoad 53 = .ok (.iload 4, 2) := by decide +kernel
theorem dX12_bestLoad_55 : decode cX12_bestLoad 55 = .ok (.invokevirtual 399, 3) := by decide +kernel
theorem dX12_bestLoad_58 : decode cX12_bestLoad 58 = .ok (.istore_n 3, 1) := by decide +kernel
theorem dX12_bestLoad_59 : decode cX12_bestLoad 59 = .ok (.iinc 4 1, 3) := by decide +kernel
theorem dX12_bestLoad_62 : decode cX12_bestLoad 62 = .ok (.goto (-50), 3) := by decide +kernel
theorem dX12_bestLoad_65 : decode cX12_bestLoad 65 = .ok (.iload_n 2, 1) := by decide +kernel
theorem dX12_bestLoad_66 : decode cX12_bestLoad 66 = .ok (.ireturn, 1) := by decide +kernel
theorem dX12_load_0 : decode cX12_load 0 = .ok (.aload_n 0, 1) := by decide +kernel
theorem dX12_load_1 : decode cX12_load 1 = .ok (.iconst 0, 1) := by decide +kernel
theorem dX12_load_2 : decode cX12_load 2 = .ok (.putfield 3, 3) := by decide +kernel
theorem dX12_load_5 : decode cX12_load 5 = .ok (.aload_n 0, 1) := by decide +kernel
theorem dX12_load_6 : decode cX12_load 6 = .ok (.aload_n 0, 1) := by decide +kernel
theorem dX12_load_7 : decode cX12_load 7 = .ok (.invokevirtual 405, 3) := by decide +kernel
theorem dX12_load_10 : decode cX12_load 10 = .ok (.invokevirtual 399, 3) := by decide +kernel
theorem dX12_load_13 : decode cX12_load 13 = .ok (.ireturn, 1) := by decide +kernel
theorem dX12_which_0 : decode cX12_which 0 = .ok (.aload_n 0, 1) := by decide +kernel
theorem dX12_which_1 : decode cX12_which 1 = .ok (.iconst 0, 1) := by decide +kernel
theorem dX12_which_2 : decode cX12_which 2 = .ok (.putfield 3, 3) := by decide +kernel
theorem dX12_which_5 : decode cX12_which 5 = .ok (.aload_n 0, 1) := by decide +kernel
theorem dX12_which_6 : decode cX12_which 6 = .ok (.invokevirtual 405, 3) := by decide +kernel
theorem dX12_which_9 : decode cX12_which 9 = .ok (.ireturn, 1) := by decide +kernel
theorem dX12_workDocked_0 : decode cX12_workDocked 0 = .ok (.iconst 0, 1) := by decide +kernel
theorem dX12_workDocked_1 : decode cX12_workDocked 1 = .ok (.istore_n 1, 1) := by decide +kernel
theorem dX12_workDocked_2 : decode cX12_workDocked 2 = .ok (.iconst 0, 1) := by decide +kernel
theorem dX12_workDocked_3 : decode cX12_workDocked 3 = .ok (.istore_n 2, 1) := by decide +kernel
theorem dX12_workDocked_4 : decode cX12_workDocked 4 = .ok (.iload_n 2, 1) := by decide +kernel
theorem dX12_workDocked_5 : decode cX12_workDocked 5 = .ok (.aload_n 0, 1) := by decide +kernel
theorem dX12_workDocked_6 : decode cX12_workDocked 6 = .ok (.invokevirtual 95, 3) := by decide +kernel
theorem dX12_workDocked_9 : decode cX12_workDocked 9 = .ok (.if_icmp .ge 30, 3) := by decide +kernel
theorem dX12_workDocked_12 : decode cX12_workDocked 12 = .ok (.iload_n 1, 1) := by decide +kernel
theorem dX12_workDocked_13 : decode cX12_workDocked 13 = .ok (.aload_n 0, 1) := by decide +kernel
theorem dX12_workDocked_14 : decode cX12_workDocked 14 = .ok (.iload_n 2, 1) := by decide +kernel
theorem dX12_workDocked_15 : decode cX12_workDocked 15 = .ok (.invokevirtual 88, 3) := by decide +kernel
theorem dX12_workDocked_18 : decode cX12_workDocked 18 = .ok (.ifCond .eq 12, 3) := by decide +kernel
theorem dX12_workDocked_21 : decode cX12_workDocked 21 = .ok (.aload_n 0, 1) := by decide +kernel
theorem dX12_workDocked_22 : decode cX12_workDocked 22 = .ok (.iload_n 2, 1) := by decide +kernel
theorem dX12_workDocked_23 : decode cX12_workDocked 23 = .ok (.iconst 2, 1) := by decide +kernel
theorem dX12_workDocked_24 : decode cX12_workDocked 24 = .ok (.invokevirtual 85, 3) := by decide +kernel
theorem dX12_workDocked_27 : decode cX12_workDocked 27 = .ok (.goto 4, 3) := by decide +kernel
theorem dX12_workDocked_30 : decode cX12_workDocked 30 = .ok (.iconst 0, 1) := by decide +kernel
theorem dX12_workDocked_31 : decode cX12_workDocked 31 = .ok (.iadd, 1) := by decide +kernel
theorem dX12_workDocked_32 : decode cX12_workDocked 32 = .ok (.istore_n 1, 1) := by decide +kernel
theorem dX12_workDocked_33 : decode cX12_workDocked 33 = .ok (.iinc 2 1, 3) := by decide +kernel
theorem dX12_workDocked_36 : decode cX12_workDocked 36 = .ok (.goto (-32), 3) := by decide +kernel
theorem dX12_workDocked_39 : decode cX12_workDocked 39 = .ok (.iload_n 1, 1) := by decide +kernel
theorem dX12_workDocked_40 : decode cX12_workDocked 40 = .ok (.ireturn, 1) := by decide +kernel
theorem dX12_isSo_0 : decode cX12_isSo 0 = .ok (.iload_n 1, 1) := by decide +kernel
theorem dX12_isSo_1 : decode cX12_isSo 1 = .ok (.ifCond .ne 21, 3) := by decide +kernel
theorem dX12_isSo_4 : decode cX12_isSo 4 = .ok (.aload_n 0, 1) := by decide +kernel
theorem dX12_isSo_5 : decode cX12_isSo 5 = .ok (.getfield 13, 3) := by decide +kernel
theorem dX12_isSo_8 : decode cX12_isSo 8 = .ok (.iconst 3, 1) := by decide +kernel
theorem dX12_isSo_9 : decode cX12_isSo 9 = .ok (.iaload, 1) := by decide +kernel
theorem dX12_isSo_10 : decode cX12_isSo 10 = .ok (.iconst 2, 1) := by decide +kernel
theorem dX12_isSo_11 : decode cX12_isSo 11 = .ok (.if_icmp .gt 7, 3) := by decide +kernel
theorem dX12_isSo_14 : decode cX12_isSo 14 = .ok (.iconst 1, 1) := by decide +kernel
theorem dX12_isSo_15 : decode cX12_isSo 15 = .ok (.goto 49, 3) := by decide +kernel
theorem dX12_isSo_18 : decode cX12_isSo 18 = .ok (.iconst 0, 1) := by decide +kernel
theorem dX12_isSo_19 : decode cX12_isSo 19 = .ok (.goto 45, 3) := by decide +kernel
theorem dX12_isSo_22 : decode cX12_isSo 22 = .ok (.iload_n 1, 1) := by decide +kernel
theorem dX12_isSo_23 : decode cX12_isSo 23 = .ok (.iconst 1, 1) := by decide +kernel
theorem dX12_isSo_24 : decode cX12_isSo 24 = .ok (.if_icmp .ne 18, 3) := by decide +kernel
theorem dX12_isSo_27 : decode cX12_isSo 27 = .ok (.aload_n 0, 1) := by decide +kernel
theorem dX12_isSo_28 : decode cX12_isSo 28 = .ok (.invokevirtual 408, 3) := by decide +kernel
theorem dX12_isSo_31 : decode cX12_isSo 31 = .ok (.ifCond .ne 7, 3) := by decide +kernel
theorem dX12_isSo_34 : decode cX12_isSo 34 = .ok (.iconst 1, 1) := by decide +kernel
theorem dX12_isSo_35 : decode cX12_isSo 35 = .ok (.goto 29, 3) := by decide +kernel
theorem dX12_isSo_38 : decode cX12_isSo 38 = .ok (.iconst 0, 1) := by decide +kernel
theorem dX12_isSo_39 : decode cX12_isSo 39 = .ok (.goto 25, 3) := by decide +kernel
theorem dX12_isSo_42 : decode cX12_isSo 42 = .ok (.aload_n 0, 1) := by decide +kernel
theorem dX12_isSo_43 : decode cX12_isSo 43 = .ok (.invokevirtual 370, 3) := by decide +kernel
theorem dX12_isSo_46 : decode cX12_isSo 46 = .ok (.ifCond .ne 13, 3) := by decide +kernel
theorem dX12_isSo_49 : decode cX12_isSo 49 = .ok (.aload_n 0, 1) := by decide +kernel
theorem dX12_isSo_50 : decode cX12_isSo 50 = .ok (.getfield 13, 3) := by decide +kernel
theorem dX12_isSo_53 : decode cX12_isSo 53 = .ok (.iconst 4, 1) := by decide +kernel
theorem dX12_isSo_54 : decode cX12_isSo 54 = .ok (.iaload, 1) := by decide +kernel
theorem dX12_isSo_55 : decode cX12_isSo 55 = .ok (.iconst 1, 1) := by decide +kernel
theorem dX12_isSo_56 : decode cX12_isSo 56 = .ok (.if_icmp .ne 7, 3) := by decide +kernel
theorem dX12_isSo_59 : decode cX12_isSo 59 = .ok (.iconst 1, 1) := by decide +kernel
theorem dX12_isSo_60 : decode cX12_isSo 60 = .ok (.goto 4, 3) := by decide +kernel
theorem dX12_isSo_63 : decode cX12_isSo 63 = .ok (.iconst 0, 1) := by decide +kernel
theorem dX12_isSo_64 : decode cX12_isSo 64 = .ok (.ireturn, 1) := by decide +kernel
theorem dX12_firstIn_0 : decode cX12_firstIn 0 = .ok (.aload_n 0, 1) := by decide +kernel
theorem dX12_firstIn_1 : decode cX12_firstIn 1 = .ok (.iconst 0, 1) := by decide +kernel
theorem dX12_firstIn_2 : decode cX12_firstIn 2 = .ok (.putfield 3, 3) := by decide +kernel
theorem dX12_firstIn_5 : decode cX12_firstIn 5 = .ok (.aload_n 0, 1) := by decide +kernel
theorem dX12_firstIn_6 : decode cX12_firstIn 6 = .ok (.invokevirtual 411, 3) := by decide +kernel
theorem dX12_firstIn_9 : decode cX12_firstIn 9 = .ok (.iconst (-1), 1) := by decide +kernel
theorem dX12_firstIn_10 : decode cX12_firstIn 10 = .ok (.istore_n 2, 1) := by decide +kernel
theorem dX12_firstIn_11 : decode cX12_firstIn 11 = .ok (.iconst 0, 1) := by decide +kernel
theorem dX12_firstIn_12 : decode cX12_firstIn 12 = .ok (.istore_n 3, 1) := by decide +kernel
theorem dX12_firstIn_13 : decode cX12_firstIn 13 = .ok (.iload_n 3, 1) := by decide +kernel
theorem dX12_firstIn_14 : decode cX12_firstIn 14 = .ok (.bipush 60, 2) := by decide +kernel
theorem dX12_firstIn_16 : decode cX12_firstIn 16 = .ok (.if_icmp .gt 34, 3) := by decide +kernel
theorem dX12_firstIn_19 : decode cX12_firstIn 19 = .ok (.iload_n 2, 1) := by decide +kernel
theorem dX12_firstIn_20 : decode cX12_firstIn 20 = .ok (.iconst (-1), 1) := by decide +kernel
theorem dX12_firstIn_21 : decode cX12_firstIn 21 = .ok (.if_icmp .ne 29, 3) := by decide +kernel
theorem dX12_firstIn_24 : decode cX12_firstIn 24 = .ok (.aload_n 0, 1) := by decide +kernel
theorem dX12_firstIn_25 : decode cX12_firstIn 25 = .ok (.iload_n 1, 1) := by decide +kernel
theorem dX12_firstIn_26 : decode cX12_firstIn 26 = .ok (.invokevirtual 414, 3) := by decide +kernel
theorem dX12_firstIn_29 : decode cX12_firstIn 29 = .ok (.ifCond .eq 7, 3) := by decide +kernel
theorem dX12_firstIn_32 : decode cX12_firstIn 32 = .ok (.iload_n 3, 1) := by decide +kernel
theorem dX12_firstIn_33 : decode cX12_firstIn 33 = .ok (.goto 4, 3) := by decide +kernel
theorem dX12_firstIn_36 : decode cX12_firstIn 36 = .ok (.iconst (-1), 1) := by decide +kernel
theorem dX12_firstIn_37 : decode cX12_firstIn 37 = .ok (.istore_n 2, 1) := by decide +kernel
theorem dX12_firstIn_38 : decode cX12_firstIn 38 = .ok (.aload_n 0, 1) := by decide +kernel
theorem dX12_firstIn_39 : decode cX12_firstIn 39 = .ok (.iconst 1, 1) := by decide +kernel
theorem dX12_firstIn_40 : decode cX12_firstIn 40 = .ok (.invokevirtual 342, 3) := by decide +kernel
theorem dX12_firstIn_43 : decode cX12_firstIn 43 = .ok (.pop, 1) := by decide +kernel
theorem dX12_firstIn_44 : decode cX12_firstIn 44 = .ok (.iinc 3 1, 3) := by decide +kernel
theorem dX12_firstIn_47 : decode cX12_firstIn 47 = .ok (.goto (-34), 3) := by decide +kernel
theorem dX12_firstIn_50 : decode cX12_firstIn 50 = .ok (.aload_n 0, 1) := by decide +kernel
theorem dX12_firstIn_51 : decode cX12_firstIn 51 = .ok (.invokevirtual 417, 3) := by decide +kernel
theorem dX12_firstIn_54 : decode cX12_firstIn 54 = .ok (.iload_n 2, 1) := by decide +kernel
theorem dX12_firstIn_55 : decode cX12_firstIn 55 = .ok (.ireturn, 1) := by decide +kernel
theorem dX12_dry_0 : decode cX12_dry 0 = .ok (.aload_n 0, 1) := by decide +kernel
theorem dX12_dry_1 : decode cX12_dry 1 = .ok (.iconst 0, 1) := by decide +kernel
theorem dX12_dry_2 : decode cX12_dry 2 = .ok (.invokevirtual 420, 3) := by decide +kernel
theorem dX12_dry_5 : decode cX12_dry 5 = .ok (.ireturn, 1) := by decide +kernel
theorem dX12_ready_0 : decode cX12_ready 0 = .ok (.aload_n 0, 1) := by decide +kernel
theorem dX12_ready_1 : decode cX12_ready 1 = .ok (.iconst 1, 1) := by decide +kernel
theorem dX12_ready_2 : decode cX12_ready 2 = .ok (.invokevirtual 420, 3) := by decide +kernel
theorem dX12_ready_5 : decode cX12_ready 5 = .ok (.ireturn, 1) := by decide +kernel
theorem dX12_ease_0 : decode cX12_ease 0 = .ok (.aload_n 0, 1) := by decide +kernel
theorem dX12_ease_1 : decode cX12_ease 1 = .ok (.iconst 2, 1) := by decide +kernel
theorem dX12_ease_2 : decode cX12_ease 2 = .ok (.invokevirtual 420, 3) := by decide +kernel
theorem dX12_ease_5 : decode cX12_ease 5 = .ok (.ireturn, 1) := by decide +kernel
theorem dX12_busyOnes_0 : decode cX12_busyOnes 0 = .ok (.iconst 0, 1) := by decide +kernel
theorem dX12_busyOnes_1 : decode cX12_busyOnes 1 = .ok (.istore_n 1, 1) := by decide +kernel
theorem dX12_busyOnes_2 : decode cX12_busyOnes 2 = .ok (.iconst 0, 1) := by decide +kernel
theorem dX12_busyOnes_3 : decode cX12_busyOnes 3 = .ok (.istore_n 2, 1) := by decide +kernel
theorem dX12_busyOnes_4 : decode cX12_busyOnes 4 = .ok (.iload_n 2, 1) := by decide +kernel
theorem dX12_busyOnes_5 : decode cX12_busyOnes 5 = .ok (.aload_n 0, 1) := by decide +kernel
theorem dX12_busyOnes_6 : decode cX12_busyOnes 6 = .ok (.invokevirtual 95, 3) := by decide +kernel
theorem dX12_busyOnes_9 : decode cX12_busyOnes 9 = .ok (.if_icmp .ge 36, 3) := by decide +kernel
theorem dX12_busyOnes_12 : decode cX12_busyOnes 12 = .ok (.iload_n 1, 1) := by decide +kernel
theorem dX12_busyOnes_13 : decode cX12_busyOnes 13 = .ok (.aload_n 0, 1) := by decide +kernel
theorem dX12_busyOnes_14 : decode cX12_busyOnes 14 = .ok (.iload_n 2, 1) := by decide +kernel
theorem dX12_busyOnes_15 : decode cX12_busyOnes 15 = .ok (.invokevirtual 88, 3) := by decide +kernel
theorem dX12_busyOnes_18 : decode cX12_busyOnes 18 = .ok (.ifCond .eq 18, 3) := by decide +kernel
theorem dX12_busyOnes_21 : decode cX12_busyOnes 21 = .ok (.aload_n 0, 1) := by decide +kernel
theorem dX12_busyOnes_22 : decode cX12_busyOnes 22 = .ok (.iload_n 2, 1) := by decide +kernel
theorem dX12_busyOnes_23 : decode cX12_busyOnes 23 = .ok (.iconst 2, 1) := by decide +kernel
theorem dX12_busyOnes_24 : decode cX12_busyOnes 24 = .ok (.invokevirtual 85, 3) := by decide +kernel
theorem dX12_busyOnes_27 : decode cX12_busyOnes 27 = .ok (.ifCond .le 9, 3) := by decide +kernel
theorem dX12_busyOnes_30 : decode cX12_busyOnes 30 = .ok (.iconst 1, 1) := by decide +kernel
theorem dX12_busyOnes_31 : decode cX12_busyOnes 31 = .ok (.iload_n 2, 1) := by decide +kernel
theorem dX12_busyOnes_32 : decode cX12_busyOnes 32 = .ok (.ishl, 1) := by decide +kernel
theorem dX12_busyOnes_33 : decode cX12_busyOnes 33 = .ok (.goto 4, 3) := by decide +kernel
theorem dX12_busyOnes_36 : decode cX12_busyOnes 36 = .ok (.iconst 0, 1) := by decide +kernel
theorem dX12_busyOnes_37 : decode cX12_busyOnes 37 = .ok (.ior, 1) := by decide +kernel
theorem dX12_busyOnes_38 : decode cX12_busyOnes 38 = .ok (.istore_n 1, 1) := by decide +kernel
theorem dX12_busyOnes_39 : decode cX12_busyOnes 39 = .ok (.iinc 2 1, 3) := by decide +kernel
theorem dX12_busyOnes_42 : decode cX12_busyOnes 42 = .ok (.goto (-38), 3) := by decide +kernel
theorem dX12_busyOnes_45 : decode cX12_busyOnes 45 = .ok (.iload_n 1, 1) := by decide +kernel
theorem dX12_busyOnes_46 : decode cX12_busyOnes 46 = .ok (.ireturn, 1) := by decide +kernel
theorem dX12_costNext_0 : decode cX12_costNext 0 = .ok (.aload_n 0, 1) := by decide +kernel
theorem dX12_costNext_1 : decode cX12_costNext 1 = .ok (.iload_n 2, 1) := by decide +kernel
theorem dX12_costNext_2 : decode cX12_costNext 2 = .ok (.iconst 2, 1) := by decide +kernel
theorem dX12_costNext_3 : decode cX12_costNext 3 = .ok (.invokevirtual 85, 3) := by decide +kernel
theorem dX12_costNext_6 : decode cX12_costNext 6 = .ok (.istore_n 3, 1) := by decide +kernel
theorem dX12_costNext_7 : decode cX12_costNext 7 = .ok (.iconst 0, 1) := by decide +kernel
theorem dX12_costNext_8 : decode cX12_costNext 8 = .ok (.istore 4, 2) := by decide +kernel
theorem dX12_costNext_10 : decode cX12_costNext 10 = .ok (.iload 4, 2) := by decide +kernel
theorem dX12_costNext_12 : decode cX12_costNext 12 = .ok (.aload_n 0, 1) := by decide +kernel
theorem dX12_costNext_13 : decode cX12_costNext 13 = .ok (.invokevirtual 95, 3) := by decide +kernel
theorem dX12_costNext_16 : decode cX12_costNext 16 = .ok (.if_icmp .ge 32, 3) := by decide +kernel
theorem dX12_costNext_19 : decode cX12_costNext 19 = .ok (.iload_n 3, 1) := by decide +kernel
theorem dX12_costNext_20 : decode cX12_costNext 20 = .ok (.iload_n 1, 1) := by decide +kernel
theorem dX12_costNext_21 : decode cX12_costNext 21 = .ok (.iload 4, 2) := by decide +kernel
theorem dX12_costNext_23 : decode cX12_costNext 23 = .ok (.invokestatic 306, 3) := by decide +kernel
theorem dX12_costNext_26 : decode cX12_costNext 26 = .ok (.ifCond .eq 13, 3) := by decide +kernel
theorem dX12_costNext_29 : decode cX12_costNext 29 = .ok (.aload_n 0, 1) := by decide +kernel
theorem dX12_costNext_30 : decode cX12_costNext 30 = .ok (.iload 4, 2) := by decide +kernel
theorem dX12_costNext_32 : decode cX12_costNext 32 = .ok (.iconst 2, 1) := by decide +kernel
theorem dX12_costNext_33 : decode cX12_costNext 33 = .ok (.invokevirtual 85, 3) := by decide +kernel
theorem dX12_costNext_36 : decode cX12_costNext 36 = .ok (.goto 4, 3) := by decide +kernel
theorem dX12_costNext_39 : decode cX12_costNext 39 = .ok (.iconst 0, 1) := by decide +kernel
theorem dX12_costNext_40 : decode cX12_costNext 40 = .ok (.iadd, 1) := by decide +kernel
theorem dX12_costNext_41 : decode cX12_costNext 41 = .ok (.istore_n 3, 1) := by decide +kernel
theorem dX12_costNext_42 : decode cX12_costNext 42 = .ok (.iinc 4 1, 3) := by decide +kernel
theorem dX12_costNext_45 : decode cX12_costNext 45 = .ok (.goto (-35), 3) := by decide +kernel
theorem dX12_costNext_48 : decode cX12_costNext 48 = .ok (.aload_n 0, 1) := by decide +kernel
theorem dX12_costNext_49 : decode cX12_costNext 49 = .ok (.iload_n 2, 1) := by decide +kernel
theorem dX12_costNext_50 : decode cX12_costNext 50 = .ok (.invokevirtual 348, 3) := by decide +kernel
theorem dX12_costNext_53 : decode cX12_costNext 53 = .ok (.iload_n 3, 1) := by decide +kernel
theorem dX12_costNext_54 : decode cX12_costNext 54 = .ok (.aload_n 0, 1) := by decide +kernel
theorem dX12_costNext_55 : decode cX12_costNext 55 = .ok (.getfield 13, 3) := by decide +kernel
theorem dX12_costNext_58 : decode cX12_costNext 58 = .ok (.bipush 6, 2) := by decide +kernel
theorem dX12_costNext_60 : decode cX12_costNext 60 = .ok (.iaload, 1) := by decide +kernel
theorem dX12_costNext_61 : decode cX12_costNext 61 = .ok (.iadd, 1) := by decide +kernel
theorem dX12_costNext_62 : decode cX12_costNext 62 = .ok (.iconst 1, 1) := by decide +kernel
theorem dX12_costNext_63 : decode cX12_costNext 63 = .ok (.isub, 1) := by decide +kernel
theorem dX12_costNext_64 : decode cX12_costNext 64 = .ok (.aload_n 0, 1) := by decide +kernel
theorem dX12_costNext_65 : decode cX12_costNext 65 = .ok (.getfield 13, 3) := by decide +kernel
theorem dX12_costNext_68 : decode cX12_costNext 68 = .ok (.bipush 6, 2) := by decide +kernel
theorem dX12_costNext_70 : decode cX12_costNext 70 = .ok (.iaload, 1) := by decide +kernel
theorem dX12_costNext_71 : decode cX12_costNext 71 = .ok (.idiv, 1) := by decide +kernel
theorem dX12_costNext_72 : decode cX12_costNext 72 = .ok (.imul, 1) := by decide +kernel
theorem dX12_costNext_73 : decode cX12_costNext 73 = .ok (.aload_n 0, 1) := by decide +kernel
theorem dX12_costNext_74 : decode cX12_costNext 74 = .ok (.getfield 51, 3) := by decide +kernel
theorem dX12_costNext_77 : decode cX12_costNext 77 = .ok (.iload_n 1, 1) := by decide +kernel
theorem dX12_costNext_78 : decode cX12_costNext 78 = .ok (.iconst 1, 1) := by decide +kernel
theorem dX12_costNext_79 : decode cX12_costNext 79 = .ok (.iload_n 2, 1) := by decide +kernel
theorem dX12_costNext_80 : decode cX12_costNext 80 = .ok (.ishl, 1) := by decide +kernel
theorem dX12_costNext_81 : decode cX12_costNext 81 = .ok (.ior, 1) := by decide +kernel
theorem dX12_costNext_82 : decode cX12_costNext 82 = .ok (.iaload, 1) := by decide +kernel
theorem dX12_costNext_83 : decode cX12_costNext 83 = .ok (.iadd, 1) := by decide +kernel
theorem dX12_costNext_84 : decode cX12_costNext 84 = .ok (.ireturn, 1) := by decide +kernel
theorem dX12_laysCosts_0 : decode cX12_laysCosts 0 = .ok (.iload_n 1, 1) := by decide +kernel
theorem dX12_laysCosts_1 : decode cX12_laysCosts 1 = .ok (.istore_n 2, 1) := by decide +kernel
theorem dX12_laysCosts_2 : decode cX12_laysCosts 2 = .ok (.iload_n 2, 1) := by decide +kernel
theorem dX12_laysCosts_3 : decode cX12_laysCosts 3 = .ok (.ifCond .lt 82, 3) := by decide +kernel
theorem dX12_laysCosts_6 : decode cX12_laysCosts 6 = .ok (.iload_n 2, 1) := by decide +kernel
theorem dX12_laysCosts_7 : decode cX12_laysCosts 7 = .ok (.iload_n 1, 1) := by decide +kernel
theorem dX12_laysCosts_8 : decode cX12_laysCosts 8 = .ok (.iconst (-1), 1) := by decide +kernel
theorem dX12_laysCosts_9 : decode cX12_laysCosts 9 = .ok (.ixor, 1) := by decide +kernel
theorem dX12_laysCosts_10 : decode cX12_laysCosts 10 = .ok (.iand, 1) := by decide +kernel
theorem dX12_laysCosts_11 : decode cX12_laysCosts 11 = .ok (.ifCond .eq 6, 3) := by decide +kernel
theorem dX12_laysCosts_14 : decode cX12_laysCosts 14 = .ok (.goto 65, 3) := by decide +kernel
theorem dX12_laysCosts_17 : decode cX12_laysCosts 17 = .ok (.iload_n 2, 1) := by decide +kernel
theorem dX12_laysCosts_18 : decode cX12_laysCosts 18 = .ok (.iload_n 1, 1) := by decide +kernel
theorem dX12_laysCosts_19 : decode cX12_laysCosts 19 = .ok (.if_icmp .ne 7, 3) := by decide +kernel
theorem dX12_laysCosts_22 : decode cX12_laysCosts 22 = .ok (.iconst 0, 1) := by decide +kernel
theorem dX12_laysCosts_23 : decode cX12_laysCosts 23 = .ok (.goto 5, 3) := by decide +kernel
theorem dX12_laysCosts_26 : decode cX12_laysCosts 26 = .ok (.ldc 149, 2) := by decide +kernel
theorem dX12_laysCosts_28 : decode cX12_laysCosts 28 = .ok (.istore_n 3, 1) := by decide +kernel
theorem dX12_laysCosts_29 : decode cX12_laysCosts 29 = .ok (.iconst 0, 1) := by decide +kernel
theorem dX12_laysCosts_30 : decode cX12_laysCosts 30 = .ok (.istore 4, 2) := by decide +kernel
theorem dX12_laysCosts_32 : decode cX12_laysCosts 32 = .ok (.iload 4, 2) := by decide +kernel
theorem dX12_laysCosts_34 : decode cX12_laysCosts 34 = .ok (.aload_n 0, 1) := by decide +kernel
theorem dX12_laysCosts_35 : decode cX12_laysCosts 35 = .ok (.invokevirtual 95, 3) := by decide +kernel
theorem dX12_laysCosts_38 : decode cX12_laysCosts 38 = .ok (.if_icmp .ge 34, 3) := by decide +kernel
theorem dX12_laysCosts_41 : decode cX12_laysCosts 41 = .ok (.iload_n 1, 1) := by decide +kernel
theorem dX12_laysCosts_42 : decode cX12_laysCosts 42 = .ok (.iload_n 2, 1) := by decide +kernel
theorem dX12_laysCosts_43 : decode cX12_laysCosts 43 = .ok (.iconst (-1), 1) := by decide +kernel
theorem dX12_laysCosts_44 : decode cX12_laysCosts 44 = .ok (.ixor, 1) := by decide +kernel
theorem dX12_laysCosts_45 : decode cX12_laysCosts 45 = .ok (.iand, 1) := by decide +kernel
theorem dX12_laysCosts_46 : decode cX12_laysCosts 46 = .ok (.iload 4, 2) := by decide +kernel
theorem dX12_laysCosts_48 : decode cX12_laysCosts 48 = .ok (.invokestatic 306, 3) := by decide +kernel
theorem dX12_laysCosts_51 : decode cX12_laysCosts 51 = .ok (.ifCond .eq 15, 3) := by decide +kernel
theorem dX12_laysCosts_54 : decode cX12_laysCosts 54 = .ok (.iload_n 3, 1) := by decide +kernel
theorem dX12_laysCosts_55 : decode cX12_laysCosts 55 = .ok (.aload_n 0, 1) := by decide +kernel
theorem dX12_laysCosts_56 : decode cX12_laysCosts 56 = .ok (.iload_n 2, 1) := by decide +kernel
theorem dX12_laysCosts_57 : decode cX12_laysCosts 57 = .ok (.iload 4, 2) := by decide +kernel
theorem dX12_laysCosts_59 : decode cX12_laysCosts 59 = .ok (.invokevirtual 423, 3) := by decide +kernel
theorem dX12_laysCosts_62 : decode cX12_laysCosts 62 = .ok (.invokestatic 312, 3) := by decide +kernel
theorem dX12_laysCosts_65 : decode cX12_laysCosts 65 = .ok (.istore_n 3, 1) := by decide +kernel
theorem dX12_laysCosts_66 : decode cX12_laysCosts 66 = .ok (.iinc 4 1, 3) := by decide +kernel
theorem dX12_laysCosts_69 : decode cX12_laysCosts 69 = .ok (.goto (-37), 3) := by decide +kernel
theorem dX12_laysCosts_72 : decode cX12_laysCosts 72 = .ok (.aload_n 0, 1) := by decide +kernel
theorem dX12_laysCosts_73 : decode cX12_laysCosts 73 = .ok (.getfield 51, 3) := by decide +kernel
theorem dX12_laysCosts_76 : decode cX12_laysCosts 76 = .ok (.iload_n 2, 1) := by decide +kernel
theorem dX12_laysCosts_77 : decode cX12_laysCosts 77 = .ok (.iload_n 3, 1) := by decide +kernel
theorem dX12_laysCosts_78 : decode cX12_laysCosts 78 = .ok (.iastore, 1) := by decide +kernel
theorem dX12_laysCosts_79 : decode cX12_laysCosts 79 = .ok (.iinc 2 (-1), 3) := by decide +kernel
theorem dX12_laysCosts_82 : decode cX12_laysCosts 82 = .ok (.goto (-80), 3) := by decide +kernel
theorem dX12_laysCosts_85 : decode cX12_laysCosts 85 = .ok (.return_, 1) := by decide +kernel
theorem dX12_cost_0 : decode cX12_cost 0 = .ok (.aload_n 0, 1) := by decide +kernel
theorem dX12_cost_1 : decode cX12_cost 1 = .ok (.iconst 0, 1) := by decide +kernel
theorem dX12_cost_2 : decode cX12_cost 2 = .ok (.putfield 3, 3) := by decide +kernel
theorem dX12_cost_5 : decode cX12_cost 5 = .ok (.aload_n 0, 1) := by decide +kernel
theorem dX12_cost_6 : decode cX12_cost 6 = .ok (.invokevirtual 426, 3) := by decide +kernel
theorem dX12_cost_9 : decode cX12_cost 9 = .ok (.istore_n 1, 1) := by decide +kernel
theorem dX12_cost_10 : decode cX12_cost 10 = .ok (.iload_n 1, 1) := by decide +kernel
theorem dX12_cost_11 : decode cX12_cost 11 = .ok (.ifCond .eq 13, 3) := by decide +kernel
theorem dX12_cost_14 : decode cX12_cost 14 = .ok (.aload_n 0, 1) := by decide +kernel
theorem dX12_cost_15 : decode cX12_cost 15 = .ok (.getfield 13, 3) := by decide +kernel
theorem dX12_cost_18 : decode cX12_cost 18 = .ok (.bipush 6, 2) := by decide +kernel
theorem dX12_cost_20 : decode cX12_cost 20 = .ok (.iaload, 1) := by decide +kernel
theorem dX12_cost_21 : decode cX12_cost 21 = .ok (.ifCond .ne 13, 3) := by decide +kernel
theorem dX12_cost_24 : decode cX12_cost 24 = .ok (.iload_n 1, 1) := by decide +kernel
theorem dX12_cost_25 : decode cX12_cost 25 = .ok (.ifCond .ne 7, 3) := by decide +kernel
theorem dX12_cost_28 : decode cX12_cost 28 = .ok (.iconst 0, 1) := by decide +kernel
theorem dX12_cost_29 : decode cX12_cost 29 = .ok (.goto 4, 3) := by decide +kernel
theorem dX12_cost_32 : decode cX12_cost 32 = .ok (.iconst (-1), 1) := by decide +kernel
theorem dX12_cost_33 : decode cX12_cost 33 = .ok (.ireturn, 1) := by decide +kernel
theorem dX12_cost_34 : decode cX12_cost 34 = .ok (.aload_n 0, 1) := by decide +kernel
theorem dX12_cost_35 : decode cX12_cost 35 = .ok (.iload_n 1, 1) := by decide +kernel
theorem dX12_cost_36 : decode cX12_cost 36 = .ok (.invokevirtual 429, 3) := by decide +kernel
theorem dX12_cost_39 : decode cX12_cost 39 = .ok (.aload_n 0, 1) := by decide +kernel
theorem dX12_cost_40 : decode cX12_cost 40 = .ok (.getfield 51, 3) := by decide +kernel
theorem dX12_cost_43 : decode cX12_cost 43 = .ok (.iconst 0, 1) := by decide +kernel
theorem dX12_cost_44 : decode cX12_cost 44 = .ok (.iaload, 1) := by decide +kernel
theorem dX12_cost_45 : decode cX12_cost 45 = .ok (.ireturn, 1) := by decide +kernel
theorem dX12_first_0 : decode cX12_first 0 = .ok (.aload_n 0, 1) := by decide +kernel
theorem dX12_first_1 : decode cX12_first 1 = .ok (.iconst 0, 1) := by decide +kernel
theorem dX12_first_2 : decode cX12_first 2 = .ok (.putfield 3, 3) := by decide +kernel
theorem dX12_first_5 : decode cX12_first 5 = .ok (.aload_n 0, 1) := by decide +kernel
theorem dX12_first_6 : decode cX12_first 6 = .ok (.invokevirtual 426, 3) := by decide +kernel
theorem dX12_first_9 : decode cX12_first 9 = .ok (.istore_n 1, 1) := by decide +kernel
theorem dX12_first_10 : decode cX12_first 10 = .ok (.iload_n 1, 1) := by decide +kernel
theorem dX12_first_11 : decode cX12_first 11 = .ok (.ifCond .eq 13, 3) := by decide +kernel
theorem dX12_first_14 : decode cX12_first 14 = .ok (.aload_n 0, 1) := by decide +kernel
theorem dX12_first_15 : decode cX12_first 15 = .ok (.getfield 13, 3) := by decide +kernel
theorem dX12_first_18 : decode cX12_first 18 = .ok (.bipush 6, 2) := by decide +kernel
theorem dX12_first_20 : decode cX12_first 20 = .ok (.iaload, 1) := by decide +kernel
theorem dX12_first_21 : decode cX12_first 21 = .ok (.ifCond .ne 5, 3) := by decide +kernel
theorem dX12_first_24 : decode cX12_first 24 = .ok (.iconst (-1), 1) := by decide +kernel
theorem dX12_first_25 : decode cX12_first 25 = .ok (.ireturn, 1) := by decide +kernel
theorem dX12_first_26 : decode cX12_first 26 = .ok (.aload_n 0, 1) := by decide +kernel
theorem dX12_first_27 : decode cX12_first 27 = .ok (.iload_n 1, 1) := by decide +kernel
theorem dX12_first_28 : decode cX12_first 28 = .ok (.invokevirtual 429, 3) := by decide +kernel
theorem dX12_first_31 : decode cX12_first 31 = .ok (.iconst 0, 1) := by decide +kernel
theorem dX12_first_32 : decode cX12_first 32 = .ok (.istore_n 2, 1) := by decide +kernel
theorem dX12_first_33 : decode cX12_first 33 = .ok (.iload_n 1, 1) := by decide +kernel
theorem dX12_first_34 : decode cX12_first 34 = .ok (.iload_n 2, 1) := by decide +kernel
theorem dX12_first_35 : decode cX12_first 35 = .ok (.invokestatic 306, 3) := by decide +kernel
theorem dX12_first_38 : decode cX12_first 38 = .ok (.ifCond .eq 18, 3) := by decide +kernel
theorem dX12_first_41 : decode cX12_first 41 = .ok (.aload_n 0, 1) := by decide +kernel
theorem dX12_first_42 : decode cX12_first 42 = .ok (.iconst 0, 1) := by decide +kernel
theorem dX12_first_43 : decode cX12_first 43 = .ok (.iload_n 2, 1) := by decide +kernel
theorem dX12_first_44 : decode cX12_first 44 = .ok (.invokevirtual 423, 3) := by decide +kernel
theorem dX12_first_47 : decode cX12_first 47 = .ok (.aload_n 0, 1) := by decide +kernel
theorem dX12_first_48 : decode cX12_first 48 = .ok (.getfield 51, 3) := by decide +kernel
theorem dX12_first_51 : decode cX12_first 51 = .ok (.iconst 0, 1) := by decide +kernel
theorem dX12_first_52 : decode cX12_first 52 = .ok (.iaload, 1) := by decide +kernel
theorem dX12_first_53 : decode cX12_first 53 = .ok (.if_icmp .eq 9, 3) := by decide +kernel
theorem dX12_first_56 : decode cX12_first 56 = .ok (.iinc 2 1, 3) := by decide +kernel
theorem dX12_first_59 : decode cX12_first 59 = .ok (.goto (-26), 3) := by decide +kernel
theorem dX12_first_62 : decode cX12_first 62 = .ok (.iload_n 2, 1) := by decide +kernel
theorem dX12_first_63 : decode cX12_first 63 = .ok (.ireturn, 1) := by decide +kernel
theorem dX12_isHeights_0 : decode cX12_isHeights 0 = .ok (.aload_n 0, 1) := by decide +kernel
theorem dX12_isHeights_1 : decode cX12_isHeights 1 = .ok (.getfield 114, 3) := by decide +kernel
theorem dX12_isHeights_4 : decode cX12_isHeights 4 = .ok (.iconst 2, 1) := by decide +kernel
theorem dX12_isHeights_5 : decode cX12_isHeights 5 = .ok (.irem, 1) := by decide +kernel
theorem dX12_isHeights_6 : decode cX12_isHeights 6 = .ok (.ifCond .ne 16, 3) := by decide +kernel
theorem dX12_isHeights_9 : decode cX12_isHeights 9 = .ok (.aload_n 0, 1) := by decide +kernel
theorem dX12_isHeights_10 : decode cX12_isHeights 10 = .ok (.getfield 114, 3) := by decide +kernel
theorem dX12_isHeights_13 : decode cX12_isHeights 13 = .ok (.bipush 40, 2) := by decide +kernel
theorem dX12_isHeights_15 : decode cX12_isHeights 15 = .ok (.if_icmp .gt 7, 3) := by decide +kernel
theorem dX12_isHeights_18 : decode cX12_isHeights 18 = .ok (.iconst 1, 1) := by decide +kernel
theorem dX12_isHeights_19 : decode cX12_isHeights 19 = .ok (.goto 4, 3) := by decide +kernel
theorem dX12_isHeights_22 : decode cX12_isHeights 22 = .ok (.iconst 0, 1) := by decide +kernel
theorem dX12_isHeights_23 : decode cX12_isHeights 23 = .ok (.istore_n 1, 1) := by decide +kernel
theorem dX12_isHeights_24 : decode cX12_isHeights 24 = .ok (.iconst 0, 1) := by decide +kernel
theorem dX12_isHeights_25 : decode cX12_isHeights 25 = .ok (.istore_n 2, 1) := by decide +kernel
theorem dX12_isHeights_26 : decode cX12_isHeights 26 = .ok (.iload_n 2, 1) := by decide +kernel
theorem dX12_isHeights_27 : decode cX12_isHeights 27 = .ok (.aload_n 0, 1) := by decide +kernel
theorem dX12_isHeights_28 : decode cX12_isHeights 28 = .ok (.getfield 114, 3) := by decide +kernel
theorem dX12_isHeights_31 : decode cX12_isHeights 31 = .ok (.if_icmp .ge 51, 3) := by decide +kernel
theorem dX12_isHeights_34 : decode cX12_isHeights 34 = .ok (.iload_n 1, 1) := by decide +kernel
theorem dX12_isHeights_35 : decode cX12_isHeights 35 = .ok (.ifCond .eq 47, 3) := by decide +kernel
theorem dX12_isHeights_38 : decode cX12_isHeights 38 = .ok (.aload_n 0, 1) := by decide +kernel
theorem dX12_isHeights_39 : decode cX12_isHeights 39 = .ok (.getfield 29, 3) := by decide +kernel
theorem dX12_isHeights_42 : decode cX12_isHeights 42 = .ok (.iload_n 2, 1) := by decide +kernel
theorem dX12_isHeights_43 : decode cX12_isHeights 43 = .ok (.baload, 1) := by decide +kernel
theorem dX12_isHeights_44 : decode cX12_isHeights 44 = .ok (.iconst 0, 1) := by decide +kernel
theorem dX12_isHeights_45 : decode cX12_isHeights 45 = .ok (.bipush 99, 2) := by decide +kernel
theorem dX12_isHeights_47 : decode cX12_isHeights 47 = .ok (.invokestatic 103, 3) := by decide +kernel
theorem dX12_isHeights_50 : decode cX12_isHeights 50 = .ok (.ifCond .eq 24, 3) := by decide +kernel
theorem dX12_isHeights_53 : decode cX12_isHeights 53 = .ok (.aload_n 0, 1) := by decide +kernel
theorem dX12_isHeights_54 : decode cX12_isHeights 54 = .ok (.getfield 29, 3) := by decide +kernel
theorem dX12_isHeights_57 : decode cX12_isHeights 57 = .ok (.iload_n 2, 1) := by decide +kernel
theorem dX12_isHeights_58 : decode cX12_isHeights 58 = .ok (.iconst 1, 1) := by decide +kernel
theorem dX12_isHeights_59 : decode cX12_isHeights 59 = .ok (.iadd, 1) := by decide +kernel
theorem dX12_isHeights_60 : decode cX12_isHeights 60 = .ok (.baload, 1) := by decide +kernel
theorem dX12_isHeights_61 : decode cX12_isHeights 61 = .ok (.iconst 0, 1) := by decide +kernel
theorem dX12_isHeights_62 : decode cX12_isHeights 62 = .ok (.bipush 30, 2) := by decide +kernel
theorem dX12_isHeights_64 : decode cX12_isHeights 64 = .ok (.invokestatic 103, 3) := by decide +kernel
theorem dX12_isHeights_67 : decode cX12_isHeights 67 = .ok (.ifCond .eq 7, 3) := by decide +kernel
theorem dX12_isHeights_70 : decode cX12_isHeights 70 = .ok (.iconst 1, 1) := by decide +kernel
theorem dX12_isHeights_71 : decode cX12_isHeights 71 = .ok (.goto 4, 3) := by decide +kernel
theorem dX12_isHeights_74 : decode cX12_isHeights 74 = .ok (.iconst 0, 1) := by decide +kernel
theorem dX12_isHeights_75 : decode cX12_isHeights 75 = .ok (.istore_n 1, 1) := by decide +kernel
theorem dX12_isHeights_76 : decode cX12_isHeights 76 = .ok (.iinc 2 2, 3) := by decide +kernel
theorem dX12_isHeights_79 : decode cX12_isHeights 79 = .ok (.goto (-53), 3) := by decide +kernel
theorem dX12_isHeights_82 : decode cX12_isHeights 82 = .ok (.iload_n 1, 1) := by decide +kernel
theorem dX12_isHeights_83 : decode cX12_isHeights 83 = .ok (.ireturn, 1) := by decide +kernel
theorem dX12_heightBy_0 : decode cX12_heightBy 0 = .ok (.iload_n 0, 1) := by decide +kernel
theorem dX12_heightBy_1 : decode cX12_heightBy 1 = .ok (.sipush 372, 3) := by decide +kernel
theorem dX12_heightBy_4 : decode cX12_heightBy 4 = .ok (.idiv, 1) := by decide +kernel
theorem dX12_heightBy_5 : decode cX12_heightBy 5 = .ok (.istore_n 2, 1) := by decide +kernel
theorem dX12_heightBy_6 : decode cX12_heightBy 6 = .ok (.iload_n 0, 1) := by decide +kernel
theorem dX12_heightBy_7 : decode cX12_heightBy 7 = .ok (.bipush 12, 2) := by decide +kernel
theorem dX12_heightBy_9 : decode cX12_heightBy 9 = .ok (.idiv, 1) := by decide +kernel
theorem dX12_heightBy_10 : decode cX12_heightBy 10 = .ok (.bipush 31, 2) := by decide +kernel
theorem dX12_heightBy_12 : decode cX12_heightBy 12 = .ok (.irem, 1) := by decide +kernel
theorem dX12_heightBy_13 : decode cX12_heightBy 13 = .ok (.istore_n 3, 1) := by decide +kernel
theorem dX12_heightBy_14 : decode cX12_heightBy 14 = .ok (.iload_n 2, 1) := by decide +kernel
theorem dX12_heightBy_15 : decode cX12_heightBy 15 = .ok (.iload_n 3, 1) := by decide +kernel
theorem dX12_heightBy_16 : decode cX12_heightBy 16 = .ok (.iload_n 2, 1) := by decide +kernel
theorem dX12_heightBy_17 : decode cX12_heightBy 17 = .ok (.isub, 1) := by decide +kernel
theorem dX12_heightBy_18 : decode cX12_heightBy 18 = .ok (.iload_n 1, 1) := by decide +kernel
theorem dX12_heightBy_19 : decode cX12_heightBy 19 = .ok (.iload_n 0, 1) := by decide +kernel
theorem dX12_heightBy_20 : decode cX12_heightBy 20 = .ok (.bipush 12, 2) := by decide +kernel
theorem dX12_heightBy_22 : decode cX12_heightBy 22 = .ok (.irem, 1) := by decide +kernel
theorem dX12_heightBy_23 : decode cX12_heightBy 23 = .ok (.iadd, 1) := by decide +kernel
theorem dX12_heightBy_24 : decode cX12_heightBy 24 = .ok (.bipush 12, 2) := by decide +kernel
theorem dX12_heightBy_26 : decode cX12_heightBy 26 = .ok (.irem, 1) := by decide +kernel
theorem dX12_heightBy_27 : decode cX12_heightBy 27 = .ok (.bipush 6, 2) := by decide +kernel
theorem dX12_heightBy_29 : decode cX12_heightBy 29 = .ok (.isub, 1) := by decide +kernel
theorem dX12_heightBy_30 : decode cX12_heightBy 30 = .ok (.invokestatic 301, 3) := by decide +kernel
theorem dX12_heightBy_33 : decode cX12_heightBy 33 = .ok (.imul, 1) := by decide +kernel
theorem dX12_heightBy_34 : decode cX12_heightBy 34 = .ok (.bipush 6, 2) := by decide +kernel
theorem dX12_heightBy_36 : decode cX12_heightBy 36 = .ok (.idiv, 1) := by decide +kernel
theorem dX12_heightBy_37 : decode cX12_heightBy 37 = .ok (.iadd, 1) := by decide +kernel
theorem dX12_heightBy_38 : decode cX12_heightBy 38 = .ok (.ireturn, 1) := by decide +kernel
theorem dX12_laysCurves_0 : decode cX12_laysCurves 0 = .ok (.iconst 0, 1) := by decide +kernel
theorem dX12_laysCurves_1 : decode cX12_laysCurves 1 = .ok (.istore_n 1, 1) := by decide +kernel
theorem dX12_laysCurves_2 : decode cX12_laysCurves 2 = .ok (.iconst 0, 1) := by decide +kernel
theorem dX12_laysCurves_3 : decode cX12_laysCurves 3 = .ok (.istore_n 2, 1) := by decide +kernel
theorem dX12_laysCurves_4 : decode cX12_laysCurves 4 = .ok (.iload_n 2, 1) := by decide +kernel
theorem dX12_laysCurves_5 : decode cX12_laysCurves 5 = .ok (.sipush 11532, 3) := by decide +kernel
theorem dX12_laysCurves_8 : decode cX12_laysCurves 8 = .ok (.if_icmp .ge 100, 3) := by decide +kernel
theorem dX12_laysCurves_11 : decode cX12_laysCurves 11 = .ok (.iload_n 2, 1) := by decide +kernel
theorem dX12_laysCurves_12 : decode cX12_laysCurves 12 = .ok (.sipush 372, 3) := by decide +kernel
theorem dX12_laysCurves_15 : decode cX12_laysCurves 15 = .ok (.idiv, 1) := by decide +kernel
theorem dX12_laysCurves_16 : decode cX12_laysCurves 16 = .ok (.iload_n 2, 1) := by decide +kernel
theorem dX12_laysCurves_17 : decode cX12_laysCurves 17 = .ok (.bipush 12, 2) := by decide +kernel
theorem dX12_laysCurves_19 : decode cX12_laysCurves 19 = .ok (.idiv, 1) := by decide +kernel
theorem dX12_laysCurves_20 : decode cX12_laysCurves 20 = .ok (.bipush 31, 2) := by decide +kernel
theorem dX12_laysCurves_22 : decode cX12_laysCurves 22 = .ok (.irem, 1) := by decide +kernel
theorem dX12_laysCurves_23 : decode cX12_laysCurves 23 = .ok (.if_icmp .gt 7, 3) := by decide +kernel
theorem dX12_laysCurves_26 : decode cX12_laysCurves 26 = .ok (.iconst 1, 1) := by decide +kernel
theorem dX12_laysCurves_27 : decode cX12_laysCurves 27 = .ok (.goto 4, 3) := by decide +kernel
theorem dX12_laysCurves_30 : decode cX12_laysCurves 30 = .ok (.iconst 0, 1) := by decide +kernel
theorem dX12_laysCurves_31 : decode cX12_laysCurves 31 = .ok (.istore_n 3, 1) := by decide +kernel
theorem dX12_laysCurves_32 : decode cX12_laysCurves 32 = .ok (.iconst 0, 1) := by decide +kernel
theorem dX12_laysCurves_33 : decode cX12_laysCurves 33 = .ok (.istore 4, 2) := by decide +kernel
theorem dX12_laysCurves_35 : decode cX12_laysCurves 35 = .ok (.iload 4, 2) := by decide +kernel
theorem dX12_laysCurves_37 : decode cX12_laysCurves 37 = .ok (.aload_n 0, 1) := by decide +kernel
theorem dX12_laysCurves_38 : decode cX12_laysCurves 38 = .ok (.getfield 114, 3) := by decide +kernel
theorem dX12_laysCurves_41 : decode cX12_laysCurves 41 = .ok (.if_icmp .ge 42, 3) := by decide +kernel
theorem dX12_laysCurves_44 : decode cX12_laysCurves 44 = .ok (.iload_n 3, 1) := by decide +kernel
theorem dX12_laysCurves_45 : decode cX12_laysCurves 45 = .ok (.ifCond .eq 38, 3) := by decide +kernel
theorem dX12_laysCurves_48 : decode cX12_laysCurves 48 = .ok (.iload_n 2, 1) := by decide +kernel
theorem dX12_laysCurves_49 : decode cX12_laysCurves 49 = .ok (.aload_n 0, 1) := by decide +kernel
theorem dX12_laysCurves_50 : decode cX12_laysCurves 50 = .ok (.getfield 29, 3) := by decide +kernel
theorem dX12_laysCurves_53 : decode cX12_laysCurves 53 = .ok (.iload 4, 2) := by decide +kernel
theorem dX12_laysCurves_55 : decode cX12_laysCurves 55 = .ok (.baload, 1) := by decide +kernel
theorem dX12_laysCurves_56 : decode cX12_laysCurves 56 = .ok (.invokestatic 433, 3) := by decide +kernel
theorem dX12_laysCurves_59 : decode cX12_laysCurves 59 = .ok (.aload_n 0, 1) := by decide +kernel
theorem dX12_laysCurves_60 : decode cX12_laysCurves 60 = .ok (.getfield 29, 3) := by decide +kernel
theorem dX12_laysCurves_63 : decode cX12_laysCurves 63 = .ok (.iload 4, 2) := by decide +kernel
theorem dX12_laysCurves_65 : decode cX12_laysCurves 65 = .ok (.iconst 1, 1) := by decide +kernel
theorem dX12_laysCurves_66 : decode cX12_laysCurves 66 = .ok (.iadd, 1) := by decide +kernel
theorem dX12_laysCurves_67 : decode cX12_laysCurves 67 = .ok (.baload, 1) := by decide +kernel
theorem dX12_laysCurves_68 : decode cX12_laysCurves 68 = .ok (.if_icmp .ne 7, 3) := by decide +kernel
theorem dX12_laysCurves_71 : decode cX12_laysCurves 71 = .ok (.iconst 1, 1) := by decide +kernel
theorem dX12_laysCurves_72 : decode cX12_laysCurves 72 = .ok (.goto 4, 3) := by decide +kernel
theorem dX12_laysCurves_75 : decode cX12_laysCurves 75 = .ok (.iconst 0, 1) := by decide +kernel
theorem dX12_laysCurves_76 : decode cX12_laysCurves 76 = .ok (.istore_n 3, 1) := by decide +kernel
theorem dX12_laysCurves_77 : decode cX12_laysCurves 77 = .ok (.iinc 4 2, 3) := by decide +kernel
theorem dX12_laysCurves_80 : decode cX12_laysCurves 80 = .ok (.goto (-45), 3) := by decide +kernel
theorem dX12_laysCurves_83 : decode cX12_laysCurves 83 = .ok (.aload_n 0, 1) := by decide +kernel
theorem dX12_laysCurves_84 : decode cX12_laysCurves 84 = .ok (.getfield 54, 3) := by decide +kernel
theorem dX12_laysCurves_87 : decode cX12_laysCurves 87 = .ok (.iload_n 2, 1) := by decide +kernel
theorem dX12_laysCurves_88 : decode cX12_laysCurves 88 = .ok (.iload_n 3, 1) := by decide +kernel
theorem dX12_laysCurves_89 : decode cX12_laysCurves 89 = .ok (.bastore, 1) := by decide +kernel
theorem dX12_laysCurves_90 : decode cX12_laysCurves 90 = .ok (.iload_n 1, 1) := by decide +kernel
theorem dX12_laysCurves_91 : decode cX12_laysCurves 91 = .ok (.iload_n 3, 1) := by decide +kernel
theorem dX12_laysCurves_92 : decode cX12_laysCurves 92 = .ok (.ifCond .eq 7, 3) := by decide +kernel
theorem dX12_laysCurves_95 : decode cX12_laysCurves 95 = .ok (.iconst 1, 1) := by decide +kernel
theorem dX12_laysCurves_96 : decode cX12_laysCurves 96 = .ok (.goto 4, 3) := by decide +kernel
theorem dX12_laysCurves_99 : decode cX12_laysCurves 99 = .ok (.iconst 0, 1) := by decide +kernel
theorem dX12_laysCurves_100 : decode cX12_laysCurves 100 = .ok (.iadd, 1) := by decide +kernel
theorem dX12_laysCurves_101 : decode cX12_laysCurves 101 = .ok (.istore_n 1, 1) := by decide +kernel
theorem dX12_laysCurves_102 : decode cX12_laysCurves 102 = .ok (.iinc 2 1, 3) := by decide +kernel
theorem dX12_laysCurves_105 : decode cX12_laysCurves 105 = .ok (.goto (-101), 3) := by decide +kernel
theorem dX12_laysCurves_108 : decode cX12_laysCurves 108 = .ok (.iload_n 1, 1) := by decide +kernel
theorem dX12_laysCurves_109 : decode cX12_laysCurves 109 = .ok (.ireturn, 1) := by decide +kernel
theorem dX12_firstFitting_0 : decode cX12_firstFitting 0 = .ok (.iconst (-1), 1) := by decide +kernel
theorem dX12_firstFitting_1 : decode cX12_firstFitting 1 = .ok (.istore_n 2, 1) := by decide +kernel
theorem dX12_firstFitting_2 : decode cX12_firstFitting 2 = .ok (.iload_n 1, 1) := by decide +kernel
theorem dX12_firstFitting_3 : decode cX12_firstFitting 3 = .ok (.iconst 1, 1) := by decide +kernel
theorem dX12_firstFitting_4 : decode cX12_firstFitting 4 = .ok (.isub, 1) := by decide +kernel
theorem dX12_firstFitting_5 : decode cX12_firstFitting 5 = .ok (.istore_n 3, 1) := by decide +kernel
theorem dX12_firstFitting_6 : decode cX12_firstFitting 6 = .ok (.iload_n 3, 1) := by decide +kernel
theorem dX12_firstFitting_7 : decode cX12_firstFitting 7 = .ok (.ifCond .lt 24, 3) := by decide +kernel
theorem dX12_firstFitting_10 : decode cX12_firstFitting 10 = .ok (.aload_n 0, 1) := by decide +kernel
theorem dX12_firstFitting_11 : decode cX12_firstFitting 11 = .ok (.getfield 54, 3) := by decide +kernel
theorem dX12_firstFitting_14 : decode cX12_firstFitting 14 = .ok (.iload_n 3, 1) := by decide +kernel
theorem dX12_firstFitting_15 : decode cX12_firstFitting 15 = .ok (.baload, 1) := by decide +kernel
theorem dX12_firstFitting_16 : decode cX12_firstFitting 16 = .ok (.ifCond .eq 7, 3) := by decide +kernel
theorem dX12_firstFitting_19 : decode cX12_firstFitting 19 = .ok (.iload_n 3, 1) := by decide +kernel
theorem dX12_firstFitting_20 : decode cX12_firstFitting 20 = .ok (.goto 4, 3) := by decide +kernel
theorem dX12_firstFitting_23 : decode cX12_firstFitting 23 = .ok (.iload_n 2, 1) := by decide +kernel
theorem dX12_firstFitting_24 : decode cX12_firstFitting 24 = .ok (.istore_n 2, 1) := by decide +kernel
theorem dX12_firstFitting_25 : decode cX12_firstFitting 25 = .ok (.iinc 3 (-1), 3) := by decide +kernel
theorem dX12_firstFitting_28 : decode cX12_firstFitting 28 = .ok (.goto (-22), 3) := by decide +kernel
theorem dX12_firstFitting_31 : decode cX12_firstFitting 31 = .ok (.iload_n 2, 1) := by decide +kernel
theorem dX12_firstFitting_32 : decode cX12_firstFitting 32 = .ok (.ireturn, 1) := by decide +kernel
theorem dX12_goes_0 : decode cX12_goes 0 = .ok (.aload_n 0, 1) := by decide +kernel
theorem dX12_goes_1 : decode cX12_goes 1 = .ok (.invokevirtual 271, 3) := by decide +kernel
theorem dX12_goes_4 : decode cX12_goes 4 = .ok (.aload_n 0, 1) := by decide +kernel
theorem dX12_goes_5 : decode cX12_goes 5 = .ok (.aload_n 0, 1) := by decide +kernel
theorem dX12_goes_6 : decode cX12_goes 6 = .ok (.invokevirtual 436, 3) := by decide +kernel
theorem dX12_goes_9 : decode cX12_goes 9 = .ok (.ifCond .ne 7, 3) := by decide +kernel
theorem dX12_goes_12 : decode cX12_goes 12 = .ok (.iconst 1, 1) := by decide +kernel
theorem dX12_goes_13 : decode cX12_goes 13 = .ok (.goto 4, 3) := by decide +kernel
theorem dX12_goes_16 : decode cX12_goes 16 = .ok (.iconst 0, 1) := by decide +kernel
theorem dX12_goes_17 : decode cX12_goes 17 = .ok (.iconst 1, 1) := by decide +kernel
theorem dX12_goes_18 : decode cX12_goes 18 = .ok (.invokevirtual 282, 3) := by decide +kernel
theorem dX12_goes_21 : decode cX12_goes 21 = .ok (.ifCond .eq 5, 3) := by decide +kernel
theorem dX12_goes_24 : decode cX12_goes 24 = .ok (.iconst 0, 1) := by decide +kernel
theorem dX12_goes_25 : decode cX12_goes 25 = .ok (.ireturn, 1) := by decide +kernel
theorem dX12_goes_26 : decode cX12_goes 26 = .ok (.aload_n 0, 1) := by decide +kernel
theorem dX12_goes_27 : decode cX12_goes 27 = .ok (.invokevirtual 439, 3) := by decide +kernel
theorem dX12_goes_30 : decode cX12_goes 30 = .ok (.istore_n 2, 1) := by decide +kernel
theorem dX12_goes_31 : decode cX12_goes 31 = .ok (.iload_n 1, 1) := by decide +kernel
theorem dX12_goes_32 : decode cX12_goes 32 = .ok (.ifCond .eq 13, 3) := by decide +kernel
theorem dX12_goes_35 : decode cX12_goes 35 = .ok (.aload_n 0, 1) := by decide +kernel
theorem dX12_goes_36 : decode cX12_goes 36 = .ok (.sipush 11532, 3) := by decide +kernel
theorem dX12_goes_39 : decode cX12_goes 39 = .ok (.invokevirtual 442, 3) := by decide +kernel
theorem dX12_goes_42 : decode cX12_goes 42 = .ok (.goto 4, 3) := by decide +kernel
theorem dX12_goes_45 : decode cX12_goes 45 = .ok (.iload_n 2, 1) := by decide +kernel
theorem dX12_goes_46 : decode cX12_goes 46 = .ok (.ireturn, 1) := by decide +kernel
theorem dX12_partIn_0 : decode cX12_partIn 0 = .ok (.iconst 0, 1) := by decide +kernel
theorem dX12_partIn_1 : decode cX12_partIn 1 = .ok (.istore_n 2, 1) := by decide +kernel
theorem dX12_partIn_2 : decode cX12_partIn 2 = .ok (.iload_n 2, 1) := by decide +kernel
theorem dX12_partIn_3 : decode cX12_partIn 3 = .ok (.bipush 30, 2) := by decide +kernel
theorem dX12_partIn_5 : decode cX12_partIn 5 = .ok (.if_icmp .gt 16, 3) := by decide +kernel
theorem dX12_partIn_8 : decode cX12_partIn 8 = .ok (.aload_n 0, 1) := by decide +kernel
theorem dX12_partIn_9 : decode cX12_partIn 9 = .ok (.getfield 58, 3) := by decide +kernel
theorem dX12_partIn_12 : decode cX12_partIn 12 = .ok (.iload_n 2, 1) := by decide +kernel
theorem dX12_partIn_13 : decode cX12_partIn 13 = .ok (.iconst 0, 1) := by decide +kernel
theorem dX12_partIn_14 : decode cX12_partIn 14 = .ok (.iastore, 1) := by decide +kernel
theorem dX12_partIn_15 : decode cX12_partIn 15 = .ok (.iinc 2 1, 3) := by decide +kernel
theorem dX12_partIn_18 : decode cX12_partIn 18 = .ok (.goto (-16), 3) := by decide +kernel
theorem dX12_partIn_21 : decode cX12_partIn 21 = .ok (.iconst 0, 1) := by decide +kernel
theorem dX12_partIn_22 : decode cX12_partIn 22 = .ok (.istore_n 2, 1) := by decide +kernel
theorem dX12_partIn_23 : decode cX12_partIn 23 = .ok (.iconst 0, 1) := by decide +kernel
theorem dX12_partIn_24 : decode cX12_partIn 24 = .ok (.istore_n 3, 1) := by decide +kernel
theorem dX12_partIn_25 : decode cX12_partIn 25 = .ok (.iload_n 3, 1) := by decide +kernel
theorem dX12_partIn_26 : decode cX12_partIn 26 = .ok (.sipush 11532, 3) := by decide +kernel
theorem dX12_partIn_29 : decode cX12_partIn 29 = .ok (.if_icmp .ge 51, 3) := by decide +kernel
theorem dX12_partIn_32 : decode cX12_partIn 32 = .ok (.aload_n 0, 1) := by decide +kernel
theorem dX12_partIn_33 : decode cX12_partIn 33 = .ok (.getfield 54, 3) := by decide +kernel
theorem dX12_partIn_36 : decode cX12_partIn 36 = .ok (.iload_n 3, 1) := by decide +kernel
theorem dX12_partIn_37 : decode cX12_partIn 37 = .ok (.baload, 1) := by decide +kernel
theorem dX12_partIn_38 : decode cX12_partIn 38 = .ok (.ifCond .ne 6, 3) := by decide +kernel
theorem dX12_partIn_41 : decode cX12_partIn 41 = .ok (.goto 33, 3) := by decide +kernel
theorem dX12_partIn_44 : decode cX12_partIn 44 = .ok (.iload_n 3, 1) := by decide +kernel
theorem dX12_partIn_45 : decode cX12_partIn 45 = .ok (.iload_n 1, 1) := by decide +kernel
theorem dX12_partIn_46 : decode cX12_partIn 46 = .ok (.invokestatic 433, 3) := by decide +kernel
theorem dX12_partIn_49 : decode cX12_partIn 49 = .ok (.istore 4, 2) := by decide +kernel
theorem dX12_partIn_51 : decode cX12_partIn 51 = .ok (.aload_n 0, 1) := by decide +kernel
theorem dX12_partIn_52 : decode cX12_partIn 52 = .ok (.getfield 58, 3) := by decide +kernel
theorem dX12_partIn_55 : decode cX12_partIn 55 = .ok (.iload 4, 2) := by decide +kernel
theorem dX12_partIn_57 : decode cX12_partIn 57 = .ok (.dup2, 1) := by decide +kernel
theorem dX12_partIn_58 : decode cX12_partIn 58 = .ok (.iaload, 1) := by decide +kernel
theorem dX12_partIn_59 : decode cX12_partIn 59 = .ok (.iconst 1, 1) := by decide +kernel
theorem dX12_partIn_60 : decode cX12_partIn 60 = .ok (.iadd, 1) := by decide +kernel
theorem dX12_partIn_61 : decode cX12_partIn 61 = .ok (.iastore, 1) := by decide +kernel
theorem dX12_partIn_62 : decode cX12_partIn 62 = .ok (.iload_n 2, 1) := by decide +kernel
theorem dX12_partIn_63 : decode cX12_partIn 63 = .ok (.aload_n 0, 1) := by decide +kernel
theorem dX12_partIn_64 : decode cX12_partIn 64 = .ok (.getfield 58, 3) := by decide +kernel
theorem dX12_partIn_67 : decode cX12_partIn 67 = .ok (.iload 4, 2) := by decide +kernel
theorem dX12_partIn_69 : decode cX12_partIn 69 = .ok (.iaload, 1) := by decide +kernel
theorem dX12_partIn_70 : decode cX12_partIn 70 = .ok (.invokestatic 333, 3) := by decide +kernel
theorem dX12_partIn_73 : decode cX12_partIn 73 = .ok (.istore_n 2, 1) := by decide +kernel
theorem dX12_partIn_74 : decode cX12_partIn 74 = .ok (.iinc 3 1, 3) := by decide +kernel
theorem dX12_partIn_77 : decode cX12_partIn 77 = .ok (.goto (-52), 3) := by decide +kernel
theorem dX12_partIn_80 : decode cX12_partIn 80 = .ok (.iload_n 2, 1) := by decide +kernel
theorem dX12_partIn_81 : decode cX12_partIn 81 = .ok (.ireturn, 1) := by decide +kernel
theorem dX12_ask_0 : decode cX12_ask 0 = .ok (.aload_n 0, 1) := by decide +kernel
theorem dX12_ask_1 : decode cX12_ask 1 = .ok (.invokevirtual 271, 3) := by decide +kernel
theorem dX12_ask_4 : decode cX12_ask 4 = .ok (.aload_n 0, 1) := by decide +kernel
theorem dX12_ask_5 : decode cX12_ask 5 = .ok (.aload_n 0, 1) := by decide +kernel
theorem dX12_ask_6 : decode cX12_ask 6 = .ok (.invokevirtual 436, 3) := by decide +kernel
theorem dX12_ask_9 : decode cX12_ask 9 = .ok (.ifCond .ne 7, 3) := by decide +kernel
theorem dX12_ask_12 : decode cX12_ask 12 = .ok (.iconst 1, 1) := by decide +kernel
theorem dX12_ask_13 : decode cX12_ask 13 = .ok (.goto 4, 3) := by decide +kernel
theorem dX12_ask_16 : decode cX12_ask 16 = .ok (.iconst 0, 1) := by decide +kernel
theorem dX12_ask_17 : decode cX12_ask 17 = .ok (.iconst 1, 1) := by decide +kernel
theorem dX12_ask_18 : decode cX12_ask 18 = .ok (.invokevirtual 282, 3) := by decide +kernel
theorem dX12_ask_21 : decode cX12_ask 21 = .ok (.ifCond .eq 5, 3) := by decide +kernel
theorem dX12_ask_24 : decode cX12_ask 24 = .ok (.iconst 0, 1) := by decide +kernel
theorem dX12_ask_25 : decode cX12_ask 25 = .ok (.ireturn, 1) := by decide +kernel
theorem dX12_ask_26 : decode cX12_ask 26 = .ok (.aload_n 0, 1) := by decide +kernel
theorem dX12_ask_27 : decode cX12_ask 27 = .ok (.invokevirtual 439, 3) := by decide +kernel
theorem dX12_ask_30 : decode cX12_ask 30 = .ok (.istore_n 1, 1) := by decide +kernel
theorem dX12_ask_31 : decode cX12_ask 31 = .ok (.iconst (-1), 1) := by decide +kernel
theorem dX12_ask_32 : decode cX12_ask 32 = .ok (.istore_n 2, 1) := by decide +kernel
theorem dX12_ask_33 : decode cX12_ask 33 = .ok (.ldc 149, 2) := by decide +kernel
theorem dX12_ask_35 : decode cX12_ask 35 = .ok (.istore_n 3, 1) := by decide +kernel
theorem dX12_ask_36 : decode cX12_ask 36 = .ok (.iconst 0, 1) := by decide +kernel
theorem dX12_ask_37 : decode cX12_ask 37 = .ok (.istore 4, 2) := by decide +kernel
theorem dX12_ask_39 : decode cX12_ask 39 = .ok (.iload 4, 2) := by decide +kernel
theorem dX12_ask_41 : decode cX12_ask 41 = .ok (.bipush 99, 2) := by decide +kernel
theorem dX12_ask_43 : decode cX12_ask 43 = .ok (.if_icmp .gt 42, 3) := by decide +kernel
theorem dX12_ask_46 : decode cX12_ask 46 = .ok (.iload_n 1, 1) := by decide +kernel
theorem dX12_ask_47 : decode cX12_ask 47 = .ok (.iconst 1, 1) := by decide +kernel
theorem dX12_ask_48 : decode cX12_ask 48 = .ok (.if_icmp .le 37, 3) := by decide +kernel
theorem dX12_ask_51 : decode cX12_ask 51 = .ok (.aload_n 0, 1) := by decide +kernel
theorem dX12_ask_52 : decode cX12_ask 52 = .ok (.iload 4, 2) := by decide +kernel
theorem dX12_ask_54 : decode cX12_ask 54 = .ok (.invokevirtual 445, 3) := by decide +kernel
theorem dX12_ask_57 : decode cX12_ask 57 = .ok (.istore 5, 2) := by decide +kernel
theorem dX12_ask_59 : decode cX12_ask 59 = .ok (.iload 5, 2) := by decide +kernel
theorem dX12_ask_61 : decode cX12_ask 61 = .ok (.iload_n 3, 1) := by decide +kernel
theorem dX12_ask_62 : decode cX12_ask 62 = .ok (.if_icmp .ge 8, 3) := by decide +kernel
theorem dX12_ask_65 : decode cX12_ask 65 = .ok (.iload 4, 2) := by decide +kernel
theorem dX12_ask_67 : decode cX12_ask 67 = .ok (.goto 4, 3) := by decide +kernel
theorem dX12_ask_70 : decode cX12_ask 70 = .ok (.iload_n 2, 1) := by decide +kernel
theorem dX12_ask_71 : decode cX12_ask 71 = .ok (.istore_n 2, 1) := by decide +kernel
theorem dX12_ask_72 : decode cX12_ask 72 = .ok (.iload_n 3, 1) := by decide +kernel
theorem dX12_ask_73 : decode cX12_ask 73 = .ok (.iload 5, 2) := by decide +kernel
theorem dX12_ask_75 : decode cX12_ask 75 = .ok (.invokestatic 312, 3) := by decide +kernel
theorem dX12_ask_78 : decode cX12_ask 78 = .ok (.istore_n 3, 1) := by decide +kernel
theorem dX12_ask_79 : decode cX12_ask 79 = .ok (.iinc 4 1, 3) := by decide +kernel
theorem dX12_ask_82 : decode cX12_ask 82 = .ok (.goto (-43), 3) := by decide +kernel
theorem dX12_ask_85 : decode cX12_ask 85 = .ok (.iload_n 2, 1) := by decide +kernel
theorem dX12_ask_86 : decode cX12_ask 86 = .ok (.ireturn, 1) := by decide +kernel
theorem dX12_isTouched_0 : decode cX12_isTouched 0 = .ok (.aload_n 0, 1) := by decide +kernel
theorem dX12_isTouched_1 : decode cX12_isTouched 1 = .ok (.getfield 114, 3) := by decide +kernel
theorem dX12_isTouched_4 : decode cX12_isTouched 4 = .ok (.iconst 2, 1) := by decide +kernel
theorem dX12_isTouched_5 : decode cX12_isTouched 5 = .ok (.irem, 1) := by decide +kernel
theorem dX12_isTouched_6 : decode cX12_isTouched 6 = .ok (.ifCond .ne 16, 3) := by decide +kernel
theorem dX12_isTouched_9 : decode cX12_isTouched 9 = .ok (.aload_n 0, 1) := by decide +kernel
theorem dX12_isTouched_10 : decode cX12_isTouched 10 = .ok (.getfield 114, 3) := by decide +kernel
theorem dX12_isTouched_13 : decode cX12_isTouched 13 = .ok (.bipush 40, 2) := by decide +kernel
theorem dX12_isTouched_15 : decode cX12_isTouched 15 = .ok (.if_icmp .gt 7, 3) := by decide +kernel
theorem dX12_isTouched_18 : decode cX12_isTouched 18 = .ok (.iconst 1, 1) := by decide +kernel
theorem dX12_isTouched_19 : decode cX12_isTouched 19 = .ok (.goto 4, 3) := by decide +kernel
theorem dX12_isTouched_22 : decode cX12_isTouched 22 = .ok (.iconst 0, 1) := by decide +kernel
theorem dX12_isTouched_23 : decode cX12_isTouched 23 = .ok (.istore_n 1, 1) := by decide +kernel
theorem dX12_isTouched_24 : decode cX12_isTouched 24 = .ok (.iconst 0, 1) := by decide +kernel
theorem dX12_isTouched_25 : decode cX12_isTouched 25 = .ok (.istore_n 2, 1) := by decide +kernel
theorem dX12_isTouched_26 : decode cX12_isTouched 26 = .ok (.iload_n 2, 1) := by decide +kernel
theorem dX12_isTouched_27 : decode cX12_isTouched 27 = .ok (.aload_n 0, 1) := by decide +kernel
theorem dX12_isTouched_28 : decode cX12_isTouched 28 = .ok (.getfield 114, 3) := by decide +kernel
theorem dX12_isTouched_31 : decode cX12_isTouched 31 = .ok (.if_icmp .ge 47, 3) := by decide +kernel
theorem dX12_isTouched_34 : decode cX12_isTouched 34 = .ok (.iload_n 1, 1) := by decide +kernel
theorem dX12_isTouched_35 : decode cX12_isTouched 35 = .ok (.ifCond .eq 43, 3) := by decide +kernel
theorem dX12_isTouched_38 : decode cX12_isTouched 38 = .ok (.aload_n 0, 1) := by decide +kernel
theorem dX12_isTouched_39 : decode cX12_isTouched 39 = .ok (.getfield 29, 3) := by decide +kernel
theorem dX12_isTouched_42 : decode cX12_isTouched 42 = .ok (.iload_n 2, 1) := by decide +kernel
theorem dX12_isTouched_43 : decode cX12_isTouched 43 = .ok (.baload, 1) := by decide +kernel
theorem dX12_isTouched_44 : decode cX12_isTouched 44 = .ok (.invokestatic 360, 3) := by decide +kernel
theorem dX12_isTouched_47 : decode cX12_isTouched 47 = .ok (.ifCond .ne 23, 3) := by decide +kernel
theorem dX12_isTouched_50 : decode cX12_isTouched 50 = .ok (.aload_n 0, 1) := by decide +kernel
theorem dX12_isTouched_51 : decode cX12_isTouched 51 = .ok (.getfield 29, 3) := by decide +kernel
theorem dX12_isTouched_54 : decode cX12_isTouched 54 = .ok (.iload_n 2, 1) := by decide +kernel
theorem dX12_isTouched_55 : decode cX12_isTouched 55 = .ok (.iconst 1, 1) := by decide +kernel
theorem dX12_isTouched_56 : decode cX12_isTouched 56 = .ok (.iadd, 1) := by decide +kernel
theorem dX12_isTouched_57 : decode cX12_isTouched 57 = .ok (.baload, 1) := by decide +kernel
theorem dX12_isTouched_58 : decode cX12_isTouched 58 = .ok (.iconst 0, 1) := by decide +kernel
theorem dX12_isTouched_59 : decode cX12_isTouched 59 = .ok (.iconst 1, 1) := by decide +kernel
theorem dX12_isTouched_60 : decode cX12_isTouched 60 = .ok (.invokestatic 103, 3) := by decide +kernel
theorem dX12_isTouched_63 : decode cX12_isTouched 63 = .ok (.ifCond .eq 7, 3) := by decide +kernel
theorem dX12_isTouched_66 : decode cX12_isTouched 66 = .ok (.iconst 1, 1) := by decide +kernel
theorem dX12_isTouched_67 : decode cX12_isTouched 67 = .ok (.goto 4, 3) := by decide +kernel
theorem dX12_isTouched_70 : decode cX12_isTouched 70 = .ok (.iconst 0, 1) := by decide +kernel
theorem dX12_isTouched_71 : decode cX12_isTouched 71 = .ok (.istore_n 1, 1) := by decide +kernel
theorem dX12_isTouched_72 : decode cX12_isTouched 72 = .ok (.iinc 2 2, 3) := by decide +kernel
theorem dX12_isTouched_75 : decode cX12_isTouched 75 = .ok (.goto (-49), 3) := by decide +kernel
theorem dX12_isTouched_78 : decode cX12_isTouched 78 = .ok (.iload_n 1, 1) := by decide +kernel
theorem dX12_isTouched_79 : decode cX12_isTouched 79 = .ok (.ireturn, 1) := by decide +kernel
theorem dX12_liesAt_0 : decode cX12_liesAt 0 = .ok (.iload_n 0, 1) := by decide +kernel
theorem dX12_liesAt_1 : decode cX12_liesAt 1 = .ok (.bipush 12, 2) := by decide +kernel
theorem dX12_liesAt_3 : decode cX12_liesAt 3 = .ok (.idiv, 1) := by decide +kernel
theorem dX12_liesAt_4 : decode cX12_liesAt 4 = .ok (.iload_n 0, 1) := by decide +kernel
theorem dX12_liesAt_5 : decode cX12_liesAt 5 = .ok (.bipush 12, 2) := by decide +kernel
theorem dX12_liesAt_7 : decode cX12_liesAt 7 = .ok (.irem, 1) := by decide +kernel
theorem dX12_liesAt_8 : decode cX12_liesAt 8 = .ok (.iconst 1, 1) := by decide +kernel
theorem dX12_liesAt_9 : decode cX12_liesAt 9 = .ok (.iadd, 1) := by decide +kernel
theorem dX12_liesAt_10 : decode cX12_liesAt 10 = .ok (.invokestatic 92, 3) := by decide +kernel
theorem dX12_liesAt_13 : decode cX12_liesAt 13 = .ok (.ireturn, 1) := by decide +kernel
theorem dX12_wrongRows_0 : decode cX12_wrongRows 0 = .ok (.iload_n 1, 1) := by decide +kernel
theorem dX12_wrongRows_1 : decode cX12_wrongRows 1 = .ok (.bipush 12, 2) := by decide +kernel
theorem dX12_wrongRows_3 : decode cX12_wrongRows 3 = .ok (.idiv, 1) := by decide +kernel
theorem dX12_wrongRows_4 : decode cX12_wrongRows 4 = .ok (.iload_n 1, 1) := by decide +kernel
theorem dX12_wrongRows_5 : decode cX12_wrongRows 5 = .ok (.bipush 12, 2) := by decide +kernel
theorem dX12_wrongRows_7 : decode cX12_wrongRows 7 = .ok (.irem, 1) := by decide +kernel
theorem dX12_wrongRows_8 : decode cX12_wrongRows 8 = .ok (.iadd, 1) := by decide +kernel
theorem dX12_wrongRows_9 : decode cX12_wrongRows 9 = .ok (.iconst 1, 1) := by decide +kernel
theorem dX12_wrongRows_10 : decode cX12_wrongRows 10 = .ok (.iadd, 1) := by decide +kernel
theorem dX12_wrongRows_11 : decode cX12_wrongRows 11 = .ok (.bipush 24, 2) := by decide +kernel
theorem dX12_wrongRows_13 : decode cX12_wrongRows 13 = .ok (.if_icmp .le 6, 3) := by decide +kernel
theorem dX12_wrongRows_16 : decode cX12_wrongRows 16 = .ok (.ldc 149, 2) := by decide +kernel
theorem dX12_wrongRows_18 : decode cX12_wrongRows 18 = .ok (.ireturn, 1) := by decide +kernel
theorem dX12_wrongRows_19 : decode cX12_wrongRows 19 = .ok (.iconst 0, 1) := by decide +kernel
theorem dX12_wrongRows_20 : decode cX12_wrongRows 20 = .ok (.istore_n 2, 1) := by decide +kernel
theorem dX12_wrongRows_21 : decode cX12_wrongRows 21 = .ok (.iconst 0, 1) := by decide +kernel
theorem dX12_wrongRows_22 : decode cX12_wrongRows 22 = .ok (.istore_n 3, 1) := by decide +kernel
theorem dX12_wrongRows_23 : decode cX12_wrongRows 23 = .ok (.iload_n 3, 1) := by decide +kernel
theorem dX12_wrongRows_24 : decode cX12_wrongRows 24 = .ok (.aload_n 0, 1) := by decide +kernel
theorem dX12_wrongRows_25 : decode cX12_wrongRows 25 = .ok (.getfield 114, 3) := by decide +kernel
theorem dX12_wrongRows_28 : decode cX12_wrongRows 28 = .ok (.if_icmp .ge 41, 3) := by decide +kernel
theorem dX12_wrongRows_31 : decode cX12_wrongRows 31 = .ok (.iload_n 2, 1) := by decide +kernel
theorem dX12_wrongRows_32 : decode cX12_wrongRows 32 = .ok (.iload_n 1, 1) := by decide +kernel
theorem dX12_wrongRows_33 : decode cX12_wrongRows 33 = .ok (.invokestatic 448, 3) := by decide +kernel
theorem dX12_wrongRows_36 : decode cX12_wrongRows 36 = .ok (.aload_n 0, 1) := by decide +kernel
theorem dX12_wrongRows_37 : decode cX12_wrongRows 37 = .ok (.getfield 29, 3) := by decide +kernel
theorem dX12_wrongRows_40 : decode cX12_wrongRows 40 = .ok (.iload_n 3, 1) := by decide +kernel
theorem dX12_wrongRows_41 : decode cX12_wrongRows 41 = .ok (.baload, 1) := by decide +kernel
theorem dX12_wrongRows_42 : decode cX12_wrongRows 42 = .ok (.ishr, 1) := by decide +kernel
theorem dX12_wrongRows_43 : decode cX12_wrongRows 43 = .ok (.iconst 1, 1) := by decide +kernel
theorem dX12_wrongRows_44 : decode cX12_wrongRows 44 = .ok (.iand, 1) := by decide +kernel
theorem dX12_wrongRows_45 : decode cX12_wrongRows 45 = .ok (.aload_n 0, 1) := by decide +kernel
theorem dX12_wrongRows_46 : decode cX12_wrongRows 46 = .ok (.getfield 29, 3) := by decide +kernel
theorem dX12_wrongRows_49 : decode cX12_wrongRows 49 = .ok (.iload_n 3, 1) := by decide +kernel
theorem dX12_wrongRows_50 : decode cX12_wrongRows 50 = .ok (.iconst 1, 1) := by decide +kernel
theorem dX12_wrongRows_51 : decode cX12_wrongRows 51 = .ok (.iadd, 1) := by decide +kernel
theorem dX12_wrongRows_52 : decode cX12_wrongRows 52 = .ok (.baload, 1) := by decide +kernel
theorem dX12_wrongRows_53 : decode cX12_wrongRows 53 = .ok (.if_icmp .ne 7, 3) := by decide +kernel
theorem dX12_wrongRows_56 : decode cX12_wrongRows 56 = .ok (.iconst 0, 1) := by decide +kernel
theorem dX12_wrongRows_57 : decode cX12_wrongRows 57 = .ok (.goto 4, 3) := by decide +kernel
theorem dX12_wrongRows_60 : decode cX12_wrongRows 60 = .ok (.iconst 1, 1) := by decide +kernel
theorem dX12_wrongRows_61 : decode cX12_wrongRows 61 = .ok (.iadd, 1) := by decide +kernel
theorem dX12_wrongRows_62 : decode cX12_wrongRows 62 = .ok (.istore_n 2, 1) := by decide +kernel
theorem dX12_wrongRows_63 : decode cX12_wrongRows 63 = .ok (.iinc 3 2, 3) := by decide +kernel
theorem dX12_wrongRows_66 : decode cX12_wrongRows 66 = .ok (.goto (-43), 3) := by decide +kernel
theorem dX12_wrongRows_69 : decode cX12_wrongRows 69 = .ok (.iload_n 2, 1) := by decide +kernel
theorem dX12_wrongRows_70 : decode cX12_wrongRows 70 = .ok (.ireturn, 1) := by decide +kernel
theorem dX12_manyLies_0 : decode cX12_manyLies 0 = .ok (.iconst 0, 1) := by decide +kernel
theorem dX12_manyLies_1 : decode cX12_manyLies 1 = .ok (.istore_n 2, 1) := by decide +kernel
theorem dX12_manyLies_2 : decode cX12_manyLies 2 = .ok (.iconst 0, 1) := by decide +kernel
theorem dX12_manyLies_3 : decode cX12_manyLies 3 = .ok (.istore_n 3, 1) := by decide +kernel
theorem dX12_manyLies_4 : decode cX12_manyLies 4 = .ok (.iload_n 3, 1) := by decide +kernel
theorem dX12_manyLies_5 : decode cX12_manyLies 5 = .ok (.sipush 288, 3) := by decide +kernel
theorem dX12_manyLies_8 : decode cX12_manyLies 8 = .ok (.if_icmp .ge 42, 3) := by decide +kernel
theorem dX12_manyLies_11 : decode cX12_manyLies 11 = .ok (.iload_n 2, 1) := by decide +kernel
theorem dX12_manyLies_12 : decode cX12_manyLies 12 = .ok (.aload_n 0, 1) := by decide +kernel
theorem dX12_manyLies_13 : decode cX12_manyLies 13 = .ok (.iload_n 3, 1) := by decide +kernel
theorem dX12_manyLies_14 : decode cX12_manyLies 14 = .ok (.invokevirtual 451, 3) := by decide +kernel
theorem dX12_manyLies_17 : decode cX12_manyLies 17 = .ok (.iconst 2, 1) := by decide +kernel
theorem dX12_manyLies_18 : decode cX12_manyLies 18 = .ok (.if_icmp .ge 23, 3) := by decide +kernel
theorem dX12_manyLies_21 : decode cX12_manyLies 21 = .ok (.iload_n 1, 1) := by decide +kernel
theorem dX12_manyLies_22 : decode cX12_manyLies 22 = .ok (.iconst (-1), 1) := by decide +kernel
theorem dX12_manyLies_23 : decode cX12_manyLies 23 = .ok (.if_icmp .eq 14, 3) := by decide +kernel
theorem dX12_manyLies_26 : decode cX12_manyLies 26 = .ok (.iload_n 3, 1) := by decide +kernel
theorem dX12_manyLies_27 : decode cX12_manyLies 27 = .ok (.invokestatic 448, 3) := by decide +kernel
theorem dX12_manyLies_30 : decode cX12_manyLies 30 = .ok (.iload_n 1, 1) := by decide +kernel
theorem dX12_manyLies_31 : decode cX12_manyLies 31 = .ok (.invokestatic 306, 3) := by decide +kernel
theorem dX12_manyLies_34 : decode cX12_manyLies 34 = .ok (.ifCond .eq 7, 3) := by decide +kernel
theorem dX12_manyLies_37 : decode cX12_manyLies 37 = .ok (.iconst 1, 1) := by decide +kernel
theorem dX12_manyLies_38 : decode cX12_manyLies 38 = .ok (.goto 4, 3) := by decide +kernel
theorem dX12_manyLies_41 : decode cX12_manyLies 41 = .ok (.iconst 0, 1) := by decide +kernel
theorem dX12_manyLies_42 : decode cX12_manyLies 42 = .ok (.iadd, 1) := by decide +kernel
theorem dX12_manyLies_43 : decode cX12_manyLies 43 = .ok (.istore_n 2, 1) := by decide +kernel
theorem dX12_manyLies_44 : decode cX12_manyLies 44 = .ok (.iinc 3 1, 3) := by decide +kernel
theorem dX12_manyLies_47 : decode cX12_manyLies 47 = .ok (.goto (-43), 3) := by decide +kernel
theorem dX12_manyLies_50 : decode cX12_manyLies 50 = .ok (.iload_n 2, 1) := by decide +kernel
theorem dX12_manyLies_51 : decode cX12_manyLies 51 = .ok (.ireturn, 1) := by decide +kernel
theorem dX12_lies_0 : decode cX12_lies 0 = .ok (.aload_n 0, 1) := by decide +kernel
theorem dX12_lies_1 : decode cX12_lies 1 = .ok (.invokevirtual 271, 3) := by decide +kernel
theorem dX12_lies_4 : decode cX12_lies 4 = .ok (.aload_n 0, 1) := by decide +kernel
theorem dX12_lies_5 : decode cX12_lies 5 = .ok (.aload_n 0, 1) := by decide +kernel
theorem dX12_lies_6 : decode cX12_lies 6 = .ok (.invokevirtual 454, 3) := by decide +kernel
theorem dX12_lies_9 : decode cX12_lies 9 = .ok (.ifCond .ne 7, 3) := by decide +kernel
theorem dX12_lies_12 : decode cX12_lies 12 = .ok (.iconst 1, 1) := by decide +kernel
theorem dX12_lies_13 : decode cX12_lies 13 = .ok (.goto 4, 3) := by decide +kernel
theorem dX12_lies_16 : decode cX12_lies 16 = .ok (.iconst 0, 1) := by decide +kernel
theorem dX12_lies_17 : decode cX12_lies 17 = .ok (.iconst 1, 1) := by decide +kernel
theorem dX12_lies_18 : decode cX12_lies 18 = .ok (.invokevirtual 282, 3) := by decide +kernel
theorem dX12_lies_21 : decode cX12_lies 21 = .ok (.ifCond .eq 7, 3) := by decide +kernel
theorem dX12_lies_24 : decode cX12_lies 24 = .ok (.iconst 0, 1) := by decide +kernel
theorem dX12_lies_25 : decode cX12_lies 25 = .ok (.goto 8, 3) := by decide +kernel
theorem dX12_lies_28 : decode cX12_lies 28 = .ok (.aload_n 0, 1) := by decide +kernel
theorem dX12_lies_29 : decode cX12_lies 29 = .ok (.iconst (-1), 1) := by decide +kernel
theorem dX12_lies_30 : decode cX12_lies 30 = .ok (.invokevirtual 457, 3) := by decide +kernel
theorem dX12_lies_33 : decode cX12_lies 33 = .ok (.ireturn, 1) := by decide +kernel
theorem dX12_likely_0 : decode cX12_likely 0 = .ok (.aload_n 0, 1) := by decide +kernel
theorem dX12_likely_1 : decode cX12_likely 1 = .ok (.invokevirtual 271, 3) := by decide +kernel
theorem dX12_likely_4 : decode cX12_likely 4 = .ok (.aload_n 0, 1) := by decide +kernel
theorem dX12_likely_5 : decode cX12_likely 5 = .ok (.aload_n 0, 1) := by decide +kernel
theorem dX12_likely_6 : decode cX12_likely 6 = .ok (.invokevirtual 454, 3) := by decide +kernel
theorem dX12_likely_9 : decode cX12_likely 9 = .ok (.ifCond .ne 7, 3) := by decide +kernel
theorem dX12_likely_12 : decode cX12_likely 12 = .ok (.iconst 1, 1) := by decide +kernel
theorem dX12_likely_13 : decode cX12_likely 13 = .ok (.goto 4, 3) := by decide +kernel
theorem dX12_likely_16 : decode cX12_likely 16 = .ok (.iconst 0, 1) := by decide +kernel
theorem dX12_likely_17 : decode cX12_likely 17 = .ok (.iconst 1, 1) := by decide +kernel
theorem dX12_likely_18 : decode cX12_likely 18 = .ok (.invokevirtual 282, 3) := by decide +kernel
theorem dX12_likely_21 : decode cX12_likely 21 = .ok (.ifCond .eq 5, 3) := by decide +kernel
theorem dX12_likely_24 : decode cX12_likely 24 = .ok (.iconst 0, 1) := by decide +kernel
theorem dX12_likely_25 : decode cX12_likely 25 = .ok (.ireturn, 1) := by decide +kernel
theorem dX12_likely_26 : decode cX12_likely 26 = .ok (.iconst (-1), 1) := by decide +kernel
theorem dX12_likely_27 : decode cX12_likely 27 = .ok (.istore_n 1, 1) := by decide +kernel
theorem dX12_likely_28 : decode cX12_likely 28 = .ok (.iconst 2, 1) := by decide +kernel
theorem dX12_likely_29 : decode cX12_likely 29 = .ok (.istore_n 2, 1) := by decide +kernel
theorem dX12_likely_30 : decode cX12_likely 30 = .ok (.iconst 0, 1) := by decide +kernel
theorem dX12_likely_31 : decode cX12_likely 31 = .ok (.istore_n 3, 1) := by decide +kernel
theorem dX12_likely_32 : decode cX12_likely 32 = .ok (.iload_n 3, 1) := by decide +kernel
theorem dX12_likely_33 : decode cX12_likely 33 = .ok (.sipush 288, 3) := by decide +kernel
theorem dX12_likely_36 : decode cX12_likely 36 = .ok (.if_icmp .ge 35, 3) := by decide +kernel
theorem dX12_likely_39 : decode cX12_likely 39 = .ok (.aload_n 0, 1) := by decide +kernel
theorem dX12_likely_40 : decode cX12_likely 40 = .ok (.iload_n 3, 1) := by decide +kernel
theorem dX12_likely_41 : decode cX12_likely 41 = .ok (.invokevirtual 451, 3) := by decide +kernel
theorem dX12_likely_44 : decode cX12_likely 44 = .ok (.istore 4, 2) := by decide +kernel
theorem dX12_likely_46 : decode cX12_likely 46 = .ok (.iload 4, 2) := by decide +kernel
theorem dX12_likely_48 : decode cX12_likely 48 = .ok (.iload_n 2, 1) := by decide +kernel
theorem dX12_likely_49 : decode cX12_likely 49 = .ok (.if_icmp .ge 7, 3) := by decide +kernel
theorem dX12_likely_52 : decode cX12_likely 52 = .ok (.iload_n 3, 1) := by decide +kernel
theorem dX12_likely_53 : decode cX12_likely 53 = .ok (.goto 4, 3) := by decide +kernel
theorem dX12_likely_56 : decode cX12_likely 56 = .ok (.iload_n 1, 1) := by decide +kernel
theorem dX12_likely_57 : decode cX12_likely 57 = .ok (.istore_n 1, 1) := by decide +kernel
theorem dX12_likely_58 : decode cX12_likely 58 = .ok (.iload_n 2, 1) := by decide +kernel
theorem dX12_likely_59 : decode cX12_likely 59 = .ok (.iload 4, 2) := by decide +kernel
theorem dX12_likely_61 : decode cX12_likely 61 = .ok (.invokestatic 312, 3) := by decide +kernel
theorem dX12_likely_64 : decode cX12_likely 64 = .ok (.istore_n 2, 1) := by decide +kernel
theorem dX12_likely_65 : decode cX12_likely 65 = .ok (.iinc 3 1, 3) := by decide +kernel
theorem dX12_likely_68 : decode cX12_likely 68 = .ok (.goto (-36), 3) := by decide +kernel
theorem dX12_likely_71 : decode cX12_likely 71 = .ok (.iload_n 1, 1) := by decide +kernel
theorem dX12_likely_72 : decode cX12_likely 72 = .ok (.ireturn, 1) := by decide +kernel
theorem dX12_sound_0 : decode cX12_sound 0 = .ok (.aload_n 0, 1) := by decide +kernel
theorem dX12_sound_1 : decode cX12_sound 1 = .ok (.invokevirtual 271, 3) := by decide +kernel
theorem dX12_sound_4 : decode cX12_sound 4 = .ok (.aload_n 0, 1) := by decide +kernel
theorem dX12_sound_5 : decode cX12_sound 5 = .ok (.aload_n 0, 1) := by decide +kernel
theorem dX12_sound_6 : decode cX12_sound 6 = .ok (.invokevirtual 454, 3) := by decide +kernel
theorem dX12_sound_9 : decode cX12_sound 9 = .ok (.ifCond .ne 7, 3) := by decide +kernel
theorem dX12_sound_12 : decode cX12_sound 12 = .ok (.iconst 1, 1) := by decide +kernel
theorem dX12_sound_13 : decode cX12_sound 13 = .ok (.goto 4, 3) := by decide +kernel
theorem dX12_sound_16 : decode cX12_sound 16 = .ok (.iconst 0, 1) := by decide +kernel
theorem dX12_sound_17 : decode cX12_sound 17 = .ok (.iconst 1, 1) := by decide +kernel
theorem dX12_sound_18 : decode cX12_sound 18 = .ok (.invokevirtual 282, 3) := by decide +kernel
theorem dX12_sound_21 : decode cX12_sound 21 = .ok (.ifCond .eq 5, 3) := by decide +kernel
theorem dX12_sound_24 : decode cX12_sound 24 = .ok (.iconst 0, 1) := by decide +kernel
theorem dX12_sound_25 : decode cX12_sound 25 = .ok (.ireturn, 1) := by decide +kernel
theorem dX12_sound_26 : decode cX12_sound 26 = .ok (.aload_n 0, 1) := by decide +kernel
theorem dX12_sound_27 : decode cX12_sound 27 = .ok (.iconst (-1), 1) := by decide +kernel
theorem dX12_sound_28 : decode cX12_sound 28 = .ok (.invokevirtual 457, 3) := by decide +kernel
theorem dX12_sound_31 : decode cX12_sound 31 = .ok (.istore_n 1, 1) := by decide +kernel
theorem dX12_sound_32 : decode cX12_sound 32 = .ok (.iconst (-1), 1) := by decide +kernel
theorem dX12_sound_33 : decode cX12_sound 33 = .ok (.istore_n 2, 1) := by decide +kernel
theorem dX12_sound_34 : decode cX12_sound 34 = .ok (.ldc 149, 2) := by decide +kernel
theorem dX12_sound_36 : decode cX12_sound 36 = .ok (.istore_n 3, 1) := by decide +kernel
theorem dX12_sound_37 : decode cX12_sound 37 = .ok (.iconst 0, 1) := by decide +kernel
theorem dX12_sound_38 : decode cX12_sound 38 = .ok (.istore 4, 2) := by decide +kernel
theorem dX12_sound_40 : decode cX12_sound 40 = .ok (.iload 4, 2) := by decide +kernel
theorem dX12_sound_42 : decode cX12_sound 42 = .ok (.bipush 24, 2) := by decide +kernel
theorem dX12_sound_44 : decode cX12_sound 44 = .ok (.if_icmp .ge 53, 3) := by decide +kernel
theorem dX12_sound_47 : decode cX12_sound 47 = .ok (.iload_n 1, 1) := by decide +kernel
theorem dX12_sound_48 : decode cX12_sound 48 = .ok (.iconst 1, 1) := by decide +kernel
theorem dX12_sound_49 : decode cX12_sound 49 = .ok (.if_icmp .le 48, 3) := by decide +kernel
theorem dX12_sound_52 : decode cX12_sound 52 = .ok (.aload_n 0, 1) := by decide +kernel
theorem dX12_sound_53 : decode cX12_sound 53 = .ok (.iload 4, 2) := by decide +kernel
theorem dX12_sound_55 : decode cX12_sound 55 = .ok (.invokevirtual 457, 3) := by decide +kernel
theorem dX12_sound_58 : decode cX12_sound 58 = .ok (.istore 5, 2) := by decide +kernel
theorem dX12_sound_60 : decode cX12_sound 60 = .ok (.iload 5, 2) := by decide +kernel
theorem dX12_sound_62 : decode cX12_sound 62 = .ok (.iload_n 1, 1) := by decide +kernel
theorem dX12_sound_63 : decode cX12_sound 63 = .ok (.iload 5, 2) := by decide +kernel
theorem dX12_sound_65 : decode cX12_sound 65 = .ok (.isub, 1) := by decide +kernel
theorem dX12_sound_66 : decode cX12_sound 66 = .ok (.invokestatic 333, 3) := by decide +kernel
theorem dX12_sound_69 : decode cX12_sound 69 = .ok (.istore 6, 2) := by decide +kernel
theorem dX12_sound_71 : decode cX12_sound 71 = .ok (.iload 6, 2) := by decide +kernel
theorem dX12_sound_73 : decode cX12_sound 73 = .ok (.iload_n 3, 1) := by decide +kernel
theorem dX12_sound_74 : decode cX12_sound 74 = .ok (.if_icmp .ge 8, 3) := by decide +kernel
theorem dX12_sound_77 : decode cX12_sound 77 = .ok (.iload 4, 2) := by decide +kernel
theorem dX12_sound_79 : decode cX12_sound 79 = .ok (.goto 4, 3) := by decide +kernel
theorem dX12_sound_82 : decode cX12_sound 82 = .ok (.iload_n 2, 1) := by decide +kernel
theorem dX12_sound_83 : decode cX12_sound 83 = .ok (.istore_n 2, 1) := by decide +kernel
theorem dX12_sound_84 : decode cX12_sound 84 = .ok (.iload_n 3, 1) := by decide +kernel
theorem dX12_sound_85 : decode cX12_sound 85 = .ok (.iload 6, 2) := by decide +kernel
theorem dX12_sound_87 : decode cX12_sound 87 = .ok (.invokestatic 312, 3) := by decide +kernel
theorem dX12_sound_90 : decode cX12_sound 90 = .ok (.istore_n 3, 1) := by decide +kernel
theorem dX12_sound_91 : decode cX12_sound 91 = .ok (.iinc 4 1, 3) := by decide +kernel
theorem dX12_sound_94 : decode cX12_sound 94 = .ok (.goto (-54), 3) := by decide +kernel
theorem dX12_sound_97 : decode cX12_sound 97 = .ok (.iload_n 2, 1) := by decide +kernel
theorem dX12_sound_98 : decode cX12_sound 98 = .ok (.ireturn, 1) := by decide +kernel
theorem dX12_laysWorth_0 : decode cX12_laysWorth 0 = .ok (.iconst 0, 1) := by decide +kernel
theorem dX12_laysWorth_1 : decode cX12_laysWorth 1 = .ok (.istore_n 1, 1) := by decide +kernel
theorem dX12_laysWorth_2 : decode cX12_laysWorth 2 = .ok (.iload_n 1, 1) := by decide +kernel
theorem dX12_laysWorth_3 : decode cX12_laysWorth 3 = .ok (.bipush 24, 2) := by decide +kernel
theorem dX12_laysWorth_5 : decode cX12_laysWorth 5 = .ok (.if_icmp .gt 83, 3) := by decide +kernel
theorem dX12_laysWorth_8 : decode cX12_laysWorth 8 = .ok (.lconst 0, 1) := by decide +kernel
theorem dX12_laysWorth_9 : decode cX12_laysWorth 9 = .ok (.lstore_n 2, 1) := by decide +kernel
theorem dX12_laysWorth_10 : decode cX12_laysWorth 10 = .ok (.iconst 1, 1) := by decide +kernel
theorem dX12_laysWorth_11 : decode cX12_laysWorth 11 = .ok (.istore 4, 2) := by decide +kernel
theorem dX12_laysWorth_13 : decode cX12_laysWorth 13 = .ok (.iload 4, 2) := by decide +kernel
theorem dX12_laysWorth_15 : decode cX12_laysWorth 15 = .ok (.iconst 2, 1) := by decide +kernel
theorem dX12_laysWorth_16 : decode cX12_laysWorth 16 = .ok (.if_icmp .gt 52, 3) := by decide +kernel
theorem dX12_laysWorth_19 : decode cX12_laysWorth 19 = .ok (.iconst 0, 1) := by decide +kernel
theorem dX12_laysWorth_20 : decode cX12_laysWorth 20 = .ok (.istore 5, 2) := by decide +kernel
theorem dX12_laysWorth_22 : decode cX12_laysWorth 22 = .ok (.iload 5, 2) := by decide +kernel
theorem dX12_laysWorth_24 : decode cX12_laysWorth 24 = .ok (.iload 4, 2) := by decide +kernel
theorem dX12_laysWorth_26 : decode cX12_laysWorth 26 = .ok (.iadd, 1) := by decide +kernel
theorem dX12_laysWorth_27 : decode cX12_laysWorth 27 = .ok (.iload_n 1, 1) := by decide +kernel
theorem dX12_laysWorth_28 : decode cX12_laysWorth 28 = .ok (.if_icmp .gt 34, 3) := by decide +kernel
theorem dX12_laysWorth_31 : decode cX12_laysWorth 31 = .ok (.lload_n 2, 1) := by decide +kernel
theorem dX12_laysWorth_32 : decode cX12_laysWorth 32 = .ok (.lconst 1, 1) := by decide +kernel
theorem dX12_laysWorth_33 : decode cX12_laysWorth 33 = .ok (.aload_n 0, 1) := by decide +kernel
theorem dX12_laysWorth_34 : decode cX12_laysWorth 34 = .ok (.getfield 61, 3) := by decide +kernel
theorem dX12_laysWorth_37 : decode cX12_laysWorth 37 = .ok (.iload 5, 2) := by decide +kernel
theorem dX12_laysWorth_39 : decode cX12_laysWorth 39 = .ok (.iaload, 1) := by decide +kernel
theorem dX12_laysWorth_40 : decode cX12_laysWorth 40 = .ok (.aload_n 0, 1) := by decide +kernel
theorem dX12_laysWorth_41 : decode cX12_laysWorth 41 = .ok (.getfield 61, 3) := by decide +kernel
theorem dX12_laysWorth_44 : decode cX12_laysWorth 44 = .ok (.iload_n 1, 1) := by decide +kernel
theorem dX12_laysWorth_45 : decode cX12_laysWorth 45 = .ok (.iload 5, 2) := by decide +kernel
theorem dX12_laysWorth_47 : decode cX12_laysWorth 47 = .ok (.isub, 1) := by decide +kernel
theorem dX12_laysWorth_48 : decode cX12_laysWorth 48 = .ok (.iload 4, 2) := by decide +kernel
theorem dX12_laysWorth_50 : decode cX12_laysWorth 50 = .ok (.isub, 1) := by decide +kernel
theorem dX12_laysWorth_51 : decode cX12_laysWorth 51 = .ok (.iaload, 1) := by decide +kernel
theorem dX12_laysWorth_52 : decode cX12_laysWorth 52 = .ok (.ixor, 1) := by decide +kernel
theorem dX12_laysWorth_53 : decode cX12_laysWorth 53 = .ok (.lshl, 1) := by decide +kernel
theorem dX12_laysWorth_54 : decode cX12_laysWorth 54 = .ok (.lor, 1) := by decide +kernel
theorem dX12_laysWorth_55 : decode cX12_laysWorth 55 = .ok (.lstore_n 2, 1) := by decide +kernel
theorem dX12_laysWorth_56 : decode cX12_laysWorth 56 = .ok (.iinc 5 1, 3) := by decide +kernel
theorem dX12_laysWorth_59 : decode cX12_laysWorth 59 = .ok (.goto (-37), 3) := by decide +kernel
theorem dX12_laysWorth_62 : decode cX12_laysWorth 62 = .ok (.iinc 4 1, 3) := by decide +kernel
theorem dX12_laysWorth_65 : decode cX12_laysWorth 65 = .ok (.goto (-52), 3) := by decide +kernel
theorem dX12_laysWorth_68 : decode cX12_laysWorth 68 = .ok (.aload_n 0, 1) := by decide +kernel
theorem dX12_laysWorth_69 : decode cX12_laysWorth 69 = .ok (.getfield 61, 3) := by decide +kernel
theorem dX12_laysWorth_72 : decode cX12_laysWorth 72 = .ok (.iload_n 1, 1) := by decide +kernel
theorem dX12_laysWorth_73 : decode cX12_laysWorth 73 = .ok (.lload_n 2, 1) := by decide +kernel
theorem dX12_laysWorth_74 : decode cX12_laysWorth 74 = .ok (.ldc2_w 460, 3) := by decide +kernel
theorem dX12_laysWorth_77 : decode cX12_laysWorth 77 = .ok (.lxor, 1) := by decide +kernel
theorem dX12_laysWorth_78 : decode cX12_laysWorth 78 = .ok (.invokestatic 462, 3) := by decide +kernel
theorem dX12_laysWorth_81 : decode cX12_laysWorth 81 = .ok (.iastore, 1) := by decide +kernel
theorem dX12_laysWorth_82 : decode cX12_laysWorth 82 = .ok (.iinc 1 1, 3) := by decide +kernel
theorem dX12_laysWorth_85 : decode cX12_laysWorth 85 = .ok (.goto (-83), 3) := by decide +kernel
theorem dX12_laysWorth_88 : decode cX12_laysWorth 88 = .ok (.return_, 1) := by decide +kernel
theorem dX12_worthOf_0 : decode cX12_worthOf 0 = .ok (.iconst 0, 1) := by decide +kernel
theorem dX12_worthOf_1 : decode cX12_worthOf 1 = .ok (.istore_n 2, 1) := by decide +kernel
theorem dX12_worthOf_2 : decode cX12_worthOf 2 = .ok (.iconst 0, 1) := by decide +kernel
theorem dX12_worthOf_3 : decode cX12_worthOf 3 = .ok (.istore_n 3, 1) := by decide +kernel
theorem dX12_worthOf_4 : decode cX12_worthOf 4 = .ok (.iconst 0, 1) := by decide +kernel
theorem dX12_worthOf_5 : decode cX12_worthOf 5 = .ok (.istore 4, 2) := by decide +kernel
theorem dX12_worthOf_7 : decode cX12_worthOf 7 = .ok (.iload 4, 2) := by decide +kernel
theorem dX12_worthOf_9 : decode cX12_worthOf 9 = .ok (.bipush 24, 2) := by decide +kernel
theorem dX12_worthOf_11 : decode cX12_worthOf 11 = .ok (.if_icmp .gt 59, 3) := by decide +kernel
theorem dX12_worthOf_14 : decode cX12_worthOf 14 = .ok (.iload 4, 2) := by decide +kernel
theorem dX12_worthOf_16 : decode cX12_worthOf 16 = .ok (.bipush 24, 2) := by decide +kernel
theorem dX12_worthOf_18 : decode cX12_worthOf 18 = .ok (.if_icmp .ge 16, 3) := by decide +kernel
theorem dX12_worthOf_21 : decode cX12_worthOf 21 = .ok (.iload_n 1, 1) := by decide +kernel
theorem dX12_worthOf_22 : decode cX12_worthOf 22 = .ok (.iload 4, 2) := by decide +kernel
theorem dX12_worthOf_24 : decode cX12_worthOf 24 = .ok (.invokestatic 306, 3) := by decide +kernel
theorem dX12_worthOf_27 : decode cX12_worthOf 27 = .ok (.ifCond .eq 7, 3) := by decide +kernel
theorem dX12_worthOf_30 : decode cX12_worthOf 30 = .ok (.iconst 1, 1) := by decide +kernel
theorem dX12_worthOf_31 : decode cX12_worthOf 31 = .ok (.goto 4, 3) := by decide +kernel
theorem dX12_worthOf_34 : decode cX12_worthOf 34 = .ok (.iconst 0, 1) := by decide +kernel
theorem dX12_worthOf_35 : decode cX12_worthOf 35 = .ok (.istore 5, 2) := by decide +kernel
theorem dX12_worthOf_37 : decode cX12_worthOf 37 = .ok (.iload 5, 2) := by decide +kernel
theorem dX12_worthOf_39 : decode cX12_worthOf 39 = .ok (.ifCond .ne 12, 3) := by decide +kernel
theorem dX12_worthOf_42 : decode cX12_worthOf 42 = .ok (.iload_n 2, 1) := by decide +kernel
theorem dX12_worthOf_43 : decode cX12_worthOf 43 = .ok (.aload_n 0, 1) := by decide +kernel
theorem dX12_worthOf_44 : decode cX12_worthOf 44 = .ok (.getfield 61, 3) := by decide +kernel
theorem dX12_worthOf_47 : decode cX12_worthOf 47 = .ok (.iload_n 3, 1) := by decide +kernel
theorem dX12_worthOf_48 : decode cX12_worthOf 48 = .ok (.iaload, 1) := by decide +kernel
theorem dX12_worthOf_49 : decode cX12_worthOf 49 = .ok (.ixor, 1) := by decide +kernel
theorem dX12_worthOf_50 : decode cX12_worthOf 50 = .ok (.istore_n 2, 1) := by decide +kernel
theorem dX12_worthOf_51 : decode cX12_worthOf 51 = .ok (.iload 5, 2) := by decide +kernel
theorem dX12_worthOf_53 : decode cX12_worthOf 53 = .ok (.ifCond .eq 9, 3) := by decide +kernel
theorem dX12_worthOf_56 : decode cX12_worthOf 56 = .ok (.iload_n 3, 1) := by decide +kernel
theorem dX12_worthOf_57 : decode cX12_worthOf 57 = .ok (.iconst 1, 1) := by decide +kernel
theorem dX12_worthOf_58 : decode cX12_worthOf 58 = .ok (.iadd, 1) := by decide +kernel
theorem dX12_worthOf_59 : decode cX12_worthOf 59 = .ok (.goto 4, 3) := by decide +kernel
theorem dX12_worthOf_62 : decode cX12_worthOf 62 = .ok (.iconst 0, 1) := by decide +kernel
theorem dX12_worthOf_63 : decode cX12_worthOf 63 = .ok (.istore_n 3, 1) := by decide +kernel
theorem dX12_worthOf_64 : decode cX12_worthOf 64 = .ok (.iinc 4 1, 3) := by decide +kernel
theorem dX12_worthOf_67 : decode cX12_worthOf 67 = .ok (.goto (-60), 3) := by decide +kernel
theorem dX12_worthOf_70 : decode cX12_worthOf 70 = .ok (.iload_n 2, 1) := by decide +kernel
theorem dX12_worthOf_71 : decode cX12_worthOf 71 = .ok (.ireturn, 1) := by decide +kernel
theorem dX12_knocks_0 : decode cX12_knocks 0 = .ok (.aload_n 0, 1) := by decide +kernel
theorem dX12_knocks_1 : decode cX12_knocks 1 = .ok (.iconst 0, 1) := by decide +kernel
theorem dX12_knocks_2 : decode cX12_knocks 2 = .ok (.putfield 3, 3) := by decide +kernel
theorem dX12_knocks_5 : decode cX12_knocks 5 = .ok (.aload_n 0, 1) := by decide +kernel
theorem dX12_knocks_6 : decode cX12_knocks 6 = .ok (.invokevirtual 468, 3) := by decide +kernel
theorem dX12_knocks_9 : decode cX12_knocks 9 = .ok (.aload_n 0, 1) := by decide +kernel
theorem dX12_knocks_10 : decode cX12_knocks 10 = .ok (.aload_n 0, 1) := by decide +kernel
theorem dX12_knocks_11 : decode cX12_knocks 11 = .ok (.getfield 13, 3) := by decide +kernel
theorem dX12_knocks_14 : decode cX12_knocks 14 = .ok (.bipush 10, 2) := by decide +kernel
theorem dX12_knocks_16 : decode cX12_knocks 16 = .ok (.iaload, 1) := by decide +kernel
theorem dX12_knocks_17 : decode cX12_knocks 17 = .ok (.invokevirtual 471, 3) := by decide +kernel
theorem dX12_knocks_20 : decode cX12_knocks 20 = .ok (.ifCond .eq 7, 3) := by decide +kernel
theorem dX12_knocks_23 : decode cX12_knocks 23 = .ok (.iconst 1, 1) := by decide +kernel
theorem dX12_knocks_24 : decode cX12_knocks 24 = .ok (.goto 4, 3) := by decide +kernel
theorem dX12_knocks_27 : decode cX12_knocks 27 = .ok (.iconst 0, 1) := by decide +kernel
theorem dX12_knocks_28 : decode cX12_knocks 28 = .ok (.ireturn, 1) := by decide +kernel
theorem dX12_knock_0 : decode cX12_knock 0 = .ok (.aload_n 0, 1) := by decide +kernel
theorem dX12_knock_1 : decode cX12_knock 1 = .ok (.iconst 0, 1) := by decide +kernel
theorem dX12_knock_2 : decode cX12_knock 2 = .ok (.putfield 3, 3) := by decide +kernel
theorem dX12_knock_5 : decode cX12_knock 5 = .ok (.aload_n 0, 1) := by decide +kernel
theorem dX12_knock_6 : decode cX12_knock 6 = .ok (.invokevirtual 468, 3) := by decide +kernel
theorem dX12_knock_9 : decode cX12_knock 9 = .ok (.aload_n 0, 1) := by decide +kernel
theorem dX12_knock_10 : decode cX12_knock 10 = .ok (.getfield 13, 3) := by decide +kernel
theorem dX12_knock_13 : decode cX12_knock 13 = .ok (.bipush 10, 2) := by decide +kernel
theorem dX12_knock_15 : decode cX12_knock 15 = .ok (.iaload, 1) := by decide +kernel
theorem dX12_knock_16 : decode cX12_knock 16 = .ok (.istore_n 1, 1) := by decide +kernel
theorem dX12_knock_17 : decode cX12_knock 17 = .ok (.iconst (-1), 1) := by decide +kernel
theorem dX12_knock_18 : decode cX12_knock 18 = .ok (.istore_n 2, 1) := by decide +kernel
theorem dX12_knock_19 : decode cX12_knock 19 = .ok (.bipush 47, 2) := by decide +kernel
theorem dX12_knock_21 : decode cX12_knock 21 = .ok (.istore_n 3, 1) := by decide +kernel
theorem dX12_knock_22 : decode cX12_knock 22 = .ok (.iload_n 3, 1) := by decide +kernel
theorem dX12_knock_23 : decode cX12_knock 23 = .ok (.ifCond .lt 50, 3) := by decide +kernel
theorem dX12_knock_26 : decode cX12_knock 26 = .ok (.iload_n 3, 1) := by decide +kernel
theorem dX12_knock_27 : decode cX12_knock 27 = .ok (.iconst 2, 1) := by decide +kernel
theorem dX12_knock_28 : decode cX12_knock 28 = .ok (.idiv, 1) := by decide +kernel
theorem dX12_knock_29 : decode cX12_knock 29 = .ok (.iload_n 3, 1) := by decide +kernel
theorem dX12_knock_30 : decode cX12_knock 30 = .ok (.iconst 2, 1) := by decide +kernel
theorem dX12_knock_31 : decode cX12_knock 31 = .ok (.irem, 1) := by decide +kernel
theorem dX12_knock_32 : decode cX12_knock 32 = .ok (.iconst 1, 1) := by decide +kernel
theorem dX12_knock_33 : decode cX12_knock 33 = .ok (.iadd, 1) := by decide +kernel
theorem dX12_knock_34 : decode cX12_knock 34 = .ok (.invokestatic 92, 3) := by decide +kernel
theorem dX12_knock_37 : decode cX12_knock 37 = .ok (.istore 4, 2) := by decide +kernel
theorem dX12_knock_39 : decode cX12_knock 39 = .ok (.iload 4, 2) := by decide +kernel
theorem dX12_knock_41 : decode cX12_knock 41 = .ok (.iload_n 1, 1) := by decide +kernel
theorem dX12_knock_42 : decode cX12_knock 42 = .ok (.iconst (-1), 1) := by decide +kernel
theorem dX12_knock_43 : decode cX12_knock 43 = .ok (.ixor, 1) := by decide +kernel
theorem dX12_knock_44 : decode cX12_knock 44 = .ok (.iand, 1) := by decide +kernel
theorem dX12_knock_45 : decode cX12_knock 45 = .ok (.ifCond .ne 20, 3) := by decide +kernel
theorem dX12_knock_48 : decode cX12_knock 48 = .ok (.aload_n 0, 1) := by decide +kernel
theorem dX12_knock_49 : decode cX12_knock 49 = .ok (.iload_n 1, 1) := by decide +kernel
theorem dX12_knock_50 : decode cX12_knock 50 = .ok (.iload 4, 2) := by decide +kernel
theorem dX12_knock_52 : decode cX12_knock 52 = .ok (.iconst (-1), 1) := by decide +kernel
theorem dX12_knock_53 : decode cX12_knock 53 = .ok (.ixor, 1) := by decide +kernel
theorem dX12_knock_54 : decode cX12_knock 54 = .ok (.iand, 1) := by decide +kernel
theorem dX12_knock_55 : decode cX12_knock 55 = .ok (.invokevirtual 471, 3) := by decide +kernel
theorem dX12_knock_58 : decode cX12_knock 58 = .ok (.ifCond .ne 7, 3) := by decide +kernel
theorem dX12_knock_61 : decode cX12_knock 61 = .ok (.iload_n 3, 1) := by decide +kernel
theorem dX12_knock_62 : decode cX12_knock 62 = .ok (.goto 4, 3) := by decide +kernel
theorem dX12_knock_65 : decode cX12_knock 65 = .ok (.iload_n 2, 1) := by decide +kernel
theorem dX12_knock_66 : decode cX12_knock 66 = .ok (.istore_n 2, 1) := by decide +kernel
theorem dX12_knock_67 : decode cX12_knock 67 = .ok (.iinc 3 (-1), 3) := by decide +kernel
theorem dX12_knock_70 : decode cX12_knock 70 = .ok (.goto (-48), 3) := by decide +kernel
theorem dX12_knock_73 : decode cX12_knock 73 = .ok (.iload_n 2, 1) := by decide +kernel
theorem dX12_knock_74 : decode cX12_knock 74 = .ok (.ireturn, 1) := by decide +kernel
theorem dX12_bedAt_0 : decode cX12_bedAt 0 = .ok (.bipush 25, 2) := by decide +kernel
theorem dX12_bedAt_2 : decode cX12_bedAt 2 = .ok (.iload_n 0, 1) := by decide +kernel
theorem dX12_bedAt_3 : decode cX12_bedAt 3 = .ok (.imul, 1) := by decide +kernel
theorem dX12_bedAt_4 : decode cX12_bedAt 4 = .ok (.iload_n 1, 1) := by decide +kernel
theorem dX12_bedAt_5 : decode cX12_bedAt 5 = .ok (.iadd, 1) := by decide +kernel
theorem dX12_bedAt_6 : decode cX12_bedAt 6 = .ok (.ireturn, 1) := by decide +kernel
theorem dX12_bedIf_0 : decode cX12_bedIf 0 = .ok (.iload_n 3, 1) := by decide +kernel
theorem dX12_bedIf_1 : decode cX12_bedIf 1 = .ok (.bipush 24, 2) := by decide +kernel
theorem dX12_bedIf_3 : decode cX12_bedIf 3 = .ok (.if_icmp .ne 16, 3) := by decide +kernel
theorem dX12_bedIf_6 : decode cX12_bedIf 6 = .ok (.aload_n 0, 1) := by decide +kernel
theorem dX12_bedIf_7 : decode cX12_bedIf 7 = .ok (.getfield 64, 3) := by decide +kernel
theorem dX12_bedIf_10 : decode cX12_bedIf 10 = .ok (.iload_n 1, 1) := by decide +kernel
theorem dX12_bedIf_11 : decode cX12_bedIf 11 = .ok (.iconst 1, 1) := by decide +kernel
theorem dX12_bedIf_12 : decode cX12_bedIf 12 = .ok (.iadd, 1) := by decide +kernel
theorem dX12_bedIf_13 : decode cX12_bedIf 13 = .ok (.iload_n 2, 1) := by decide +kernel
theorem dX12_bedIf_14 : decode cX12_bedIf 14 = .ok (.invokestatic 474, 3) := by decide +kernel
theorem dX12_bedIf_17 : decode cX12_bedIf 17 = .ok (.iaload, 1) := by decide +kernel
theorem dX12_bedIf_18 : decode cX12_bedIf 18 = .ok (.ireturn, 1) := by decide +kernel
theorem dX12_bedIf_19 : decode cX12_bedIf 19 = .ok (.aload_n 0, 1) := by decide +kernel
theorem dX12_bedIf_20 : decode cX12_bedIf 20 = .ok (.iload_n 1, 1) := by decide +kernel
theorem dX12_bedIf_21 : decode cX12_bedIf 21 = .ok (.iconst 3, 1) := by decide +kernel
theorem dX12_bedIf_22 : decode cX12_bedIf 22 = .ok (.invokevirtual 85, 3) := by decide +kernel
theorem dX12_bedIf_25 : decode cX12_bedIf 25 = .ok (.ifCond .ne 29, 3) := by decide +kernel
theorem dX12_bedIf_28 : decode cX12_bedIf 28 = .ok (.iload_n 3, 1) := by decide +kernel
theorem dX12_bedIf_29 : decode cX12_bedIf 29 = .ok (.iload_n 2, 1) := by decide +kernel
theorem dX12_bedIf_30 : decode cX12_bedIf 30 = .ok (.if_icmp .lt 24, 3) := by decide +kernel
theorem dX12_bedIf_33 : decode cX12_bedIf 33 = .ok (.aload_n 0, 1) := by decide +kernel
theorem dX12_bedIf_34 : decode cX12_bedIf 34 = .ok (.invokevirtual 168, 3) := by decide +kernel
theorem dX12_bedIf_37 : decode cX12_bedIf 37 = .ok (.iload_n 3, 1) := by decide +kernel
theorem dX12_bedIf_38 : decode cX12_bedIf 38 = .ok (.aload_n 0, 1) := by decide +kernel
theorem dX12_bedIf_39 : decode cX12_bedIf 39 = .ok (.iload_n 1, 1) := by decide +kernel
theorem dX12_bedIf_40 : decode cX12_bedIf 40 = .ok (.iconst 0, 1) := by decide +kernel
theorem dX12_bedIf_41 : decode cX12_bedIf 41 = .ok (.invokevirtual 85, 3) := by decide +kernel
theorem dX12_bedIf_44 : decode cX12_bedIf 44 = .ok (.invokestatic 171, 3) := by decide +kernel
theorem dX12_bedIf_47 : decode cX12_bedIf 47 = .ok (.ifCond .eq 7, 3) := by decide +kernel
theorem dX12_bedIf_50 : decode cX12_bedIf 50 = .ok (.iconst 1, 1) := by decide +kernel
theorem dX12_bedIf_51 : decode cX12_bedIf 51 = .ok (.goto 4, 3) := by decide +kernel
theorem dX12_bedIf_54 : decode cX12_bedIf 54 = .ok (.iconst 0, 1) := by decide +kernel
theorem dX12_bedIf_55 : decode cX12_bedIf 55 = .ok (.istore 4, 2) := by decide +kernel
theorem dX12_bedIf_57 : decode cX12_bedIf 57 = .ok (.iload 4, 2) := by decide +kernel
theorem dX12_bedIf_59 : decode cX12_bedIf 59 = .ok (.ifCond .eq 32, 3) := by decide +kernel
theorem dX12_bedIf_62 : decode cX12_bedIf 62 = .ok (.aload_n 0, 1) := by decide +kernel
theorem dX12_bedIf_63 : decode cX12_bedIf 63 = .ok (.iload_n 1, 1) := by decide +kernel
theorem dX12_bedIf_64 : decode cX12_bedIf 64 = .ok (.iconst 0, 1) := by decide +kernel
theorem dX12_bedIf_65 : decode cX12_bedIf 65 = .ok (.invokevirtual 85, 3) := by decide +kernel
theorem dX12_bedIf_68 : decode cX12_bedIf 68 = .ok (.aload_n 0, 1) := by decide +kernel
theorem dX12_bedIf_69 : decode cX12_bedIf 69 = .ok (.getfield 64, 3) := by decide +kernel
theorem dX12_bedIf_72 : decode cX12_bedIf 72 = .ok (.iload_n 1, 1) := by decide +kernel
theorem dX12_bedIf_73 : decode cX12_bedIf 73 = .ok (.iconst 1, 1) := by decide +kernel
theorem dX12_bedIf_74 : decode cX12_bedIf 74 = .ok (.iadd, 1) := by decide +kernel
theorem dX12_bedIf_75 : decode cX12_bedIf 75 = .ok (.iload_n 3, 1) := by decide +kernel
theorem dX12_bedIf_76 : decode cX12_bedIf 76 = .ok (.aload_n 0, 1) := by decide +kernel
theorem dX12_bedIf_77 : decode cX12_bedIf 77 = .ok (.iload_n 1, 1) := by decide +kernel
theorem dX12_bedIf_78 : decode cX12_bedIf 78 = .ok (.iconst 0, 1) := by decide +kernel
theorem dX12_bedIf_79 : decode cX12_bedIf 79 = .ok (.invokevirtual 85, 3) := by decide +kernel
theorem dX12_bedIf_82 : decode cX12_bedIf 82 = .ok (.iadd, 1) := by decide +kernel
theorem dX12_bedIf_83 : decode cX12_bedIf 83 = .ok (.invokestatic 474, 3) := by decide +kernel
theorem dX12_bedIf_86 : decode cX12_bedIf 86 = .ok (.iaload, 1) := by decide +kernel
theorem dX12_bedIf_87 : decode cX12_bedIf 87 = .ok (.iadd, 1) := by decide +kernel
theorem dX12_bedIf_88 : decode cX12_bedIf 88 = .ok (.goto 4, 3) := by decide +kernel
theorem dX12_bedIf_91 : decode cX12_bedIf 91 = .ok (.iconst (-1), 1) := by decide +kernel
theorem dX12_bedIf_92 : decode cX12_bedIf 92 = .ok (.ireturn, 1) := by decide +kernel
theorem dX12_beds_0 : decode cX12_beds 0 = .ok (.aload_n 0, 1) := by decide +kernel
theorem dX12_beds_1 : decode cX12_beds 1 = .ok (.iconst 0, 1) := by decide +kernel
theorem dX12_beds_2 : decode cX12_beds 2 = .ok (.putfield 3, 3) := by decide +kernel
theorem dX12_beds_5 : decode cX12_beds 5 = .ok (.aload_n 0, 1) := by decide +kernel
theorem dX12_beds_6 : decode cX12_beds 6 = .ok (.iload_n 1, 1) := by decide +kernel
theorem dX12_beds_7 : decode cX12_beds 7 = .ok (.iconst (-1), 1) := by decide +kernel
theorem dX12_beds_8 : decode cX12_beds 8 = .ok (.if_icmp .eq 15, 3) := by decide +kernel
theorem dX12_beds_11 : decode cX12_beds 11 = .ok (.aload_n 0, 1) := by decide +kernel
theorem dX12_beds_12 : decode cX12_beds 12 = .ok (.iload_n 1, 1) := by decide +kernel
theorem dX12_beds_13 : decode cX12_beds 13 = .ok (.invokevirtual 345, 3) := by decide +kernel
theorem dX12_beds_16 : decode cX12_beds 16 = .ok (.ifCond .eq 7, 3) := by decide +kernel
theorem dX12_beds_19 : decode cX12_beds 19 = .ok (.iconst 1, 1) := by decide +kernel
theorem dX12_beds_20 : decode cX12_beds 20 = .ok (.goto 4, 3) := by decide +kernel
theorem dX12_beds_23 : decode cX12_beds 23 = .ok (.iconst 0, 1) := by decide +kernel
theorem dX12_beds_24 : decode cX12_beds 24 = .ok (.iconst 1, 1) := by decide +kernel
theorem dX12_beds_25 : decode cX12_beds 25 = .ok (.invokevirtual 282, 3) := by decide +kernel
theorem dX12_beds_28 : decode cX12_beds 28 = .ok (.ifCond .eq 5, 3) := by decide +kernel
theorem dX12_beds_31 : decode cX12_beds 31 = .ok (.iconst 0, 1) := by decide +kernel
theorem dX12_beds_32 : decode cX12_beds 32 = .ok (.ireturn, 1) := by decide +kernel
theorem dX12_beds_33 : decode cX12_beds 33 = .ok (.iconst 0, 1) := by decide +kernel
theorem dX12_beds_34 : decode cX12_beds 34 = .ok (.istore_n 2, 1) := by decide +kernel
theorem dX12_beds_35 : decode cX12_beds 35 = .ok (.iload_n 2, 1) := by decide +kernel
theorem dX12_beds_36 : decode cX12_beds 36 = .ok (.bipush 24, 2) := by decide +kernel
theorem dX12_beds_38 : decode cX12_beds 38 = .ok (.if_icmp .gt 23, 3) := by decide +kernel
theorem dX12_beds_41 : decode cX12_beds 41 = .ok (.aload_n 0, 1) := by decide +kernel
theorem dX12_beds_42 : decode cX12_beds 42 = .ok (.getfield 64, 3) := by decide +kernel
theorem dX12_beds_45 : decode cX12_beds 45 = .ok (.aload_n 0, 1) := by decide +kernel
theorem dX12_beds_46 : decode cX12_beds 46 = .ok (.invokevirtual 95, 3) := by decide +kernel
theorem dX12_beds_49 : decode cX12_beds 49 = .ok (.iload_n 2, 1) := by decide +kernel
theorem dX12_beds_50 : decode cX12_beds 50 = .ok (.invokestatic 474, 3) := by decide +kernel
theorem dX12_beds_53 : decode cX12_beds 53 = .ok (.iconst 0, 1) := by decide +kernel
theorem dX12_beds_54 : decode cX12_beds 54 = .ok (.iastore, 1) := by decide +kernel
theorem dX12_beds_55 : decode cX12_beds 55 = .ok (.iinc 2 1, 3) := by decide +kernel
theorem dX12_beds_58 : decode cX12_beds 58 = .ok (.goto (-23), 3) := by decide +kernel
theorem dX12_beds_61 : decode cX12_beds 61 = .ok (.aload_n 0, 1) := by decide +kernel
theorem dX12_beds_62 : decode cX12_beds 62 = .ok (.invokevirtual 95, 3) := by decide +kernel
theorem dX12_beds_65 : decode cX12_beds 65 = .ok (.iconst 1, 1) := by decide +kernel
theorem dX12_beds_66 : decode cX12_beds 66 = .ok (.isub, 1) := by decide +kernel
theorem dX12_beds_67 : decode cX12_beds 67 = .ok (.istore_n 2, 1) := by decide +kernel
theorem dX12_beds_68 : decode cX12_beds 68 = .ok (.iload_n 2, 1) := by decide +kernel
theorem dX12_beds_69 : decode cX12_beds 69 = .ok (.ifCond .lt 69, 3) := by decide +kernel
theorem dX12_beds_72 : decode cX12_beds 72 = .ok (.iconst 0, 1) := by decide +kernel
theorem dX12_beds_73 : decode cX12_beds 73 = .ok (.istore_n 3, 1) := by decide +kernel
theorem dX12_beds_74 : decode cX12_beds 74 = .ok (.iload_n 3, 1) := by decide +kernel
theorem dX12_beds_75 : decode cX12_beds 75 = .ok (.bipush 24, 2) := by decide +kernel
theorem dX12_beds_77 : decode cX12_beds 77 = .ok (.if_icmp .gt 55, 3) := by decide +kernel
theorem dX12_beds_80 : decode cX12_beds 80 = .ok (.iconst 0, 1) := by decide +kernel
theorem dX12_beds_81 : decode cX12_beds 81 = .ok (.istore 4, 2) := by decide +kernel
theorem dX12_beds_83 : decode cX12_beds 83 = .ok (.iconst 0, 1) := by decide +kernel
theorem dX12_beds_84 : decode cX12_beds 84 = .ok (.istore 5, 2) := by decide +kernel
theorem dX12_beds_86 : decode cX12_beds 86 = .ok (.iload 5, 2) := by decide +kernel
theorem dX12_beds_88 : decode cX12_beds 88 = .ok (.bipush 24, 2) := by decide +kernel
theorem dX12_beds_90 : decode cX12_beds 90 = .ok (.if_icmp .gt 24, 3) := by decide +kernel
theorem dX12_beds_93 : decode cX12_beds 93 = .ok (.iload 4, 2) := by decide +kernel
theorem dX12_beds_95 : decode cX12_beds 95 = .ok (.aload_n 0, 1) := by decide +kernel
theorem dX12_beds_96 : decode cX12_beds 96 = .ok (.iload_n 2, 1) := by decide +kernel
theorem dX12_beds_97 : decode cX12_beds 97 = .ok (.iload_n 3, 1) := by decide +kernel
theorem dX12_beds_98 : decode cX12_beds 98 = .ok (.iload 5, 2) := by decide +kernel
theorem dX12_beds_100 : decode cX12_beds 100 = .ok (.invokevirtual 477, 3) := by decide +kernel
theorem dX12_beds_103 : decode cX12_beds 103 = .ok (.invokestatic 333, 3) := by decide +kernel
theorem dX12_beds_106 : decode cX12_beds 106 = .ok (.istore 4, 2) := by decide +kernel
theorem dX12_beds_108 : decode cX12_beds 108 = .ok (.iinc 5 1, 3) := by decide +kernel
theorem dX12_beds_111 : decode cX12_beds 111 = .ok (.goto (-25), 3) := by decide +kernel
theorem dX12_beds_114 : decode cX12_beds 114 = .ok (.aload_n 0, 1) := by decide +kernel
theorem dX12_beds_115 : decode cX12_beds 115 = .ok (.getfield 64, 3) := by decide +kernel
theorem dX12_beds_118 : decode cX12_beds 118 = .ok (.iload_n 2, 1) := by decide +kernel
theorem dX12_beds_119 : decode cX12_beds 119 = .ok (.iload_n 3, 1) := by decide +kernel
theorem dX12_beds_120 : decode cX12_beds 120 = .ok (.invokestatic 474, 3) := by decide +kernel
theorem dX12_beds_123 : decode cX12_beds 123 = .ok (.iload 4, 2) := by decide +kernel
theorem dX12_beds_125 : decode cX12_beds 125 = .ok (.iastore, 1) := by decide +kernel
theorem dX12_beds_126 : decode cX12_beds 126 = .ok (.iinc 3 1, 3) := by decide +kernel
theorem dX12_beds_129 : decode cX12_beds 129 = .ok (.goto (-55), 3) := by decide +kernel
theorem dX12_beds_132 : decode cX12_beds 132 = .ok (.iinc 2 (-1), 3) := by decide +kernel
theorem dX12_beds_135 : decode cX12_beds 135 = .ok (.goto (-67), 3) := by decide +kernel
theorem dX12_beds_138 : decode cX12_beds 138 = .ok (.iload_n 1, 1) := by decide +kernel
theorem dX12_beds_139 : decode cX12_beds 139 = .ok (.iconst (-1), 1) := by decide +kernel
theorem dX12_beds_140 : decode cX12_beds 140 = .ok (.if_icmp .ne 10, 3) := by decide +kernel
theorem dX12_beds_143 : decode cX12_beds 143 = .ok (.aload_n 0, 1) := by decide +kernel
theorem dX12_beds_144 : decode cX12_beds 144 = .ok (.getfield 64, 3) := by decide +kernel
theorem dX12_beds_147 : decode cX12_beds 147 = .ok (.iconst 0, 1) := by decide +kernel
theorem dX12_beds_148 : decode cX12_beds 148 = .ok (.iaload, 1) := by decide +kernel
theorem dX12_beds_149 : decode cX12_beds 149 = .ok (.ireturn, 1) := by decide +kernel
theorem dX12_beds_150 : decode cX12_beds 150 = .ok (.iconst 0, 1) := by decide +kernel
theorem dX12_beds_151 : decode cX12_beds 151 = .ok (.istore_n 2, 1) := by decide +kernel
theorem dX12_beds_152 : decode cX12_beds 152 = .ok (.iconst 0, 1) := by decide +kernel
theorem dX12_beds_153 : decode cX12_beds 153 = .ok (.istore_n 3, 1) := by decide +kernel
theorem dX12_beds_154 : decode cX12_beds 154 = .ok (.iconst 0, 1) := by decide +kernel
theorem dX12_beds_155 : decode cX12_beds 155 = .ok (.istore 4, 2) := by decide +kernel
theorem dX12_beds_157 : decode cX12_beds 157 = .ok (.iload 4, 2) := by decide +kernel
theorem dX12_beds_159 : decode cX12_beds 159 = .ok (.iload_n 1, 1) := by decide +kernel
theorem dX12_beds_160 : decode cX12_beds 160 = .ok (.if_icmp .gt 59, 3) := by decide +kernel
theorem dX12_beds_163 : decode cX12_beds 163 = .ok (.iconst 0, 1) := by decide +kernel
theorem dX12_beds_164 : decode cX12_beds 164 = .ok (.istore_n 3, 1) := by decide +kernel
theorem dX12_beds_165 : decode cX12_beds 165 = .ok (.aload_n 0, 1) := by decide +kernel
theorem dX12_beds_166 : decode cX12_beds 166 = .ok (.iload 4, 2) := by decide +kernel
theorem dX12_beds_168 : decode cX12_beds 168 = .ok (.iload_n 2, 1) := by decide +kernel
theorem dX12_beds_169 : decode cX12_beds 169 = .ok (.iload_n 3, 1) := by decide +kernel
theorem dX12_beds_170 : decode cX12_beds 170 = .ok (.invokevirtual 477, 3) := by decide +kernel
theorem dX12_beds_173 : decode cX12_beds 173 = .ok (.aload_n 0, 1) := by decide +kernel
theorem dX12_beds_174 : decode cX12_beds 174 = .ok (.getfield 64, 3) := by decide +kernel
theorem dX12_beds_177 : decode cX12_beds 177 = .ok (.iload 4, 2) := by decide +kernel
theorem dX12_beds_179 : decode cX12_beds 179 = .ok (.iload_n 2, 1) := by decide +kernel
theorem dX12_beds_180 : decode cX12_beds 180 = .ok (.invokestatic 474, 3) := by decide +kernel
theorem dX12_beds_183 : decode cX12_beds 183 = .ok (.iaload, 1) := by decide +kernel
theorem dX12_beds_184 : decode cX12_beds 184 = .ok (.if_icmp .eq 9, 3) := by decide +kernel
theorem dX12_beds_187 : decode cX12_beds 187 = .ok (.iinc 3 1, 3) := by decide +kernel
theorem dX12_beds_190 : decode cX12_beds 190 = .ok (.goto (-25), 3) := by decide +kernel
theorem dX12_beds_193 : decode cX12_beds 193 = .ok (.iload_n 3, 1) := by decide +kernel
theorem dX12_beds_194 : decode cX12_beds 194 = .ok (.bipush 24, 2) := by decide +kernel
theorem dX12_beds_196 : decode cX12_beds 196 = .ok (.if_icmp .ne 7, 3) := by decide +kernel
theorem dX12_beds_199 : decode cX12_beds 199 = .ok (.iload_n 2, 1) := by decide +kernel
theorem dX12_beds_200 : decode cX12_beds 200 = .ok (.goto 12, 3) := by decide +kernel
theorem dX12_beds_203 : decode cX12_beds 203 = .ok (.iload_n 3, 1) := by decide +kernel
theorem dX12_beds_204 : decode cX12_beds 204 = .ok (.aload_n 0, 1) := by decide +kernel
theorem dX12_beds_205 : decode cX12_beds 205 = .ok (.iload 4, 2) := by decide +kernel
theorem dX12_beds_207 : decode cX12_beds 207 = .ok (.iconst 0, 1) := by decide +kernel
theorem dX12_beds_208 : decode cX12_beds 208 = .ok (.invokevirtual 85, 3) := by decide +kernel
theorem dX12_beds_211 : decode cX12_beds 211 = .ok (.iadd, 1) := by decide +kernel
theorem dX12_beds_212 : decode cX12_beds 212 = .ok (.istore_n 2, 1) := by decide +kernel
theorem dX12_beds_213 : decode cX12_beds 213 = .ok (.iinc 4 1, 3) := by decide +kernel
theorem dX12_beds_216 : decode cX12_beds 216 = .ok (.goto (-59), 3) := by decide +kernel
theorem dX12_beds_219 : decode cX12_beds 219 = .ok (.iload_n 3, 1) := by decide +kernel
theorem dX12_beds_220 : decode cX12_beds 220 = .ok (.bipush 24, 2) := by decide +kernel
theorem dX12_beds_222 : decode cX12_beds 222 = .ok (.if_icmp .ne 7, 3) := by decide +kernel
theorem dX12_beds_225 : decode cX12_beds 225 = .ok (.iconst (-1), 1) := by decide +kernel
theorem dX12_beds_226 : decode cX12_beds 226 = .ok (.goto 4, 3) := by decide +kernel
theorem dX12_beds_229 : decode cX12_beds 229 = .ok (.iload_n 3, 1) := by decide +kernel
theorem dX12_beds_230 : decode cX12_beds 230 = .ok (.ireturn, 1) := by decide +kernel
theorem dX12_firstOf_0 : decode cX12_firstOf 0 = .ok (.iload_n 0, 1) := by decide +kernel
theorem dX12_firstOf_1 : decode cX12_firstOf 1 = .ok (.invokestatic 480, 3) := by decide +kernel
theorem dX12_firstOf_4 : decode cX12_firstOf 4 = .ok (.ireturn, 1) := by decide +kernel
theorem dX12_canPair_0 : decode cX12_canPair 0 = .ok (.aload_n 0, 1) := by decide +kernel
theorem dX12_canPair_1 : decode cX12_canPair 1 = .ok (.iload_n 1, 1) := by decide +kernel
theorem dX12_canPair_2 : decode cX12_canPair 2 = .ok (.iconst 3, 1) := by decide +kernel
theorem dX12_canPair_3 : decode cX12_canPair 3 = .ok (.invokevirtual 85, 3) := by decide +kernel
theorem dX12_canPair_6 : decode cX12_canPair 6 = .ok (.iconst 2, 1) := by decide +kernel
theorem dX12_canPair_7 : decode cX12_canPair 7 = .ok (.if_icmp .eq 35, 3) := by decide +kernel
theorem dX12_canPair_10 : decode cX12_canPair 10 = .ok (.aload_n 0, 1) := by decide +kernel
theorem dX12_canPair_11 : decode cX12_canPair 11 = .ok (.iload_n 2, 1) := by decide +kernel
theorem dX12_canPair_12 : decode cX12_canPair 12 = .ok (.iconst 3, 1) := by decide +kernel
theorem dX12_canPair_13 : decode cX12_canPair 13 = .ok (.invokevirtual 85, 3) := by decide +kernel
theorem dX12_canPair_16 : decode cX12_canPair 16 = .ok (.iconst 2, 1) := by decide +kernel
theorem dX12_canPair_17 : decode cX12_canPair 17 = .ok (.if_icmp .eq 25, 3) := by decide +kernel
theorem dX12_canPair_20 : decode cX12_canPair 20 = .ok (.aload_n 0, 1) := by decide +kernel
theorem dX12_canPair_21 : decode cX12_canPair 21 = .ok (.iload_n 1, 1) := by decide +kernel
theorem dX12_canPair_22 : decode cX12_canPair 22 = .ok (.iconst 0, 1) := by decide +kernel
theorem dX12_canPair_23 : decode cX12_canPair 23 = .ok (.invokevirtual 85, 3) := by decide +kernel
theorem dX12_canPair_26 : decode cX12_canPair 26 = .ok (.aload_n 0, 1) := by decide +kernel
theorem dX12_canPair_27 : decode cX12_canPair 27 = .ok (.iload_n 2, 1) := by decide +kernel
theorem dX12_canPair_28 : decode cX12_canPair 28 = .ok (.iconst 0, 1) := by decide +kernel
theorem dX12_canPair_29 : decode cX12_canPair 29 = .ok (.invokevirtual 85, 3) := by decide +kernel
theorem dX12_canPair_32 : decode cX12_canPair 32 = .ok (.iadd, 1) := by decide +kernel
theorem dX12_canPair_33 : decode cX12_canPair 33 = .ok (.bipush 12, 2) := by decide +kernel
theorem dX12_canPair_35 : decode cX12_canPair 35 = .ok (.if_icmp .gt 7, 3) := by decide +kernel
theorem dX12_canPair_38 : decode cX12_canPair 38 = .ok (.iconst 1, 1) := by decide +kernel
theorem dX12_canPair_39 : decode cX12_canPair 39 = .ok (.goto 4, 3) := by decide +kernel
theorem dX12_canPair_42 : decode cX12_canPair 42 = .ok (.iconst 0, 1) := by decide +kernel
theorem dX12_canPair_43 : decode cX12_canPair 43 = .ok (.ireturn, 1) := by decide +kernel
theorem dX12_pairedBy_0 : decode cX12_pairedBy 0 = .ok (.iload_n 1, 1) := by decide +kernel
theorem dX12_pairedBy_1 : decode cX12_pairedBy 1 = .ok (.invokestatic 482, 3) := by decide +kernel
theorem dX12_pairedBy_4 : decode cX12_pairedBy 4 = .ok (.istore_n 3, 1) := by decide +kernel
theorem dX12_pairedBy_5 : decode cX12_pairedBy 5 = .ok (.iload_n 1, 1) := by decide +kernel
theorem dX12_pairedBy_6 : decode cX12_pairedBy 6 = .ok (.iconst 1, 1) := by decide +kernel
theorem dX12_pairedBy_7 : decode cX12_pairedBy 7 = .ok (.iload_n 3, 1) := by decide +kernel
theorem dX12_pairedBy_8 : decode cX12_pairedBy 8 = .ok (.ishl, 1) := by decide +kernel
theorem dX12_pairedBy_9 : decode cX12_pairedBy 9 = .ok (.iconst (-1), 1) := by decide +kernel
theorem dX12_pairedBy_10 : decode cX12_pairedBy 10 = .ok (.ixor, 1) := by decide +kernel
theorem dX12_pairedBy_11 : decode cX12_pairedBy 11 = .ok (.iand, 1) := by decide +kernel
theorem dX12_pairedBy_12 : decode cX12_pairedBy 12 = .ok (.istore 4, 2) := by decide +kernel
theorem dX12_pairedBy_14 : decode cX12_pairedBy 14 = .ok (.iload_n 2, 1) := by decide +kernel
theorem dX12_pairedBy_15 : decode cX12_pairedBy 15 = .ok (.iconst (-1), 1) := by decide +kernel
theorem dX12_pairedBy_16 : decode cX12_pairedBy 16 = .ok (.if_icmp .ne 11, 3) := by decide +kernel
theorem dX12_pairedBy_19 : decode cX12_pairedBy 19 = .ok (.aload_n 0, 1) := by decide +kernel
theorem dX12_pairedBy_20 : decode cX12_pairedBy 20 = .ok (.getfield 67, 3) := by decide +kernel
theorem dX12_pairedBy_23 : decode cX12_pairedBy 23 = .ok (.iload 4, 2) := by decide +kernel
theorem dX12_pairedBy_25 : decode cX12_pairedBy 25 = .ok (.iaload, 1) := by decide +kernel
theorem dX12_pairedBy_26 : decode cX12_pairedBy 26 = .ok (.ireturn, 1) := by decide +kernel
theorem dX12_pairedBy_27 : decode cX12_pairedBy 27 = .ok (.iload 4, 2) := by decide +kernel
theorem dX12_pairedBy_29 : decode cX12_pairedBy 29 = .ok (.iload_n 2, 1) := by decide +kernel
theorem dX12_pairedBy_30 : decode cX12_pairedBy 30 = .ok (.invokestatic 306, 3) := by decide +kernel
theorem dX12_pairedBy_33 : decode cX12_pairedBy 33 = .ok (.ifCond .eq 42, 3) := by decide +kernel
theorem dX12_pairedBy_36 : decode cX12_pairedBy 36 = .ok (.aload_n 0, 1) := by decide +kernel
theorem dX12_pairedBy_37 : decode cX12_pairedBy 37 = .ok (.iload_n 3, 1) := by decide +kernel
theorem dX12_pairedBy_38 : decode cX12_pairedBy 38 = .ok (.iload_n 2, 1) := by decide +kernel
theorem dX12_pairedBy_39 : decode cX12_pairedBy 39 = .ok (.invokevirtual 485, 3) := by decide +kernel
theorem dX12_pairedBy_42 : decode cX12_pairedBy 42 = .ok (.ifCond .eq 33, 3) := by decide +kernel
theorem dX12_pairedBy_45 : decode cX12_pairedBy 45 = .ok (.aload_n 0, 1) := by decide +kernel
theorem dX12_pairedBy_46 : decode cX12_pairedBy 46 = .ok (.iload_n 3, 1) := by decide +kernel
theorem dX12_pairedBy_47 : decode cX12_pairedBy 47 = .ok (.iconst 2, 1) := by decide +kernel
theorem dX12_pairedBy_48 : decode cX12_pairedBy 48 = .ok (.invokevirtual 85, 3) := by decide +kernel
theorem dX12_pairedBy_51 : decode cX12_pairedBy 51 = .ok (.aload_n 0, 1) := by decide +kernel
theorem dX12_pairedBy_52 : decode cX12_pairedBy 52 = .ok (.iload_n 2, 1) := by decide +kernel
theorem dX12_pairedBy_53 : decode cX12_pairedBy 53 = .ok (.iconst 2, 1) := by decide +kernel
theorem dX12_pairedBy_54 : decode cX12_pairedBy 54 = .ok (.invokevirtual 85, 3) := by decide +kernel
theorem dX12_pairedBy_57 : decode cX12_pairedBy 57 = .ok (.iadd, 1) := by decide +kernel
theorem dX12_pairedBy_58 : decode cX12_pairedBy 58 = .ok (.aload_n 0, 1) := by decide +kernel
theorem dX12_pairedBy_59 : decode cX12_pairedBy 59 = .ok (.getfield 67, 3) := by decide +kernel
theorem dX12_pairedBy_62 : decode cX12_pairedBy 62 = .ok (.iload 4, 2) := by decide +kernel
theorem dX12_pairedBy_64 : decode cX12_pairedBy 64 = .ok (.iconst 1, 1) := by decide +kernel
theorem dX12_pairedBy_65 : decode cX12_pairedBy 65 = .ok (.iload_n 2, 1) := by decide +kernel
theorem dX12_pairedBy_66 : decode cX12_pairedBy 66 = .ok (.ishl, 1) := by decide +kernel
theorem dX12_pairedBy_67 : decode cX12_pairedBy 67 = .ok (.iconst (-1), 1) := by decide +kernel
theorem dX12_pairedBy_68 : decode cX12_pairedBy 68 = .ok (.ixor, 1) := by decide +kernel
theorem dX12_pairedBy_69 : decode cX12_pairedBy 69 = .ok (.iand, 1) := by decide +kernel
theorem dX12_pairedBy_70 : decode cX12_pairedBy 70 = .ok (.iaload, 1) := by decide +kernel
theorem dX12_pairedBy_71 : decode cX12_pairedBy 71 = .ok (.iadd, 1) := by decide +kernel
theorem dX12_pairedBy_72 : decode cX12_pairedBy 72 = .ok (.goto 4, 3) := by decide +kernel
theorem dX12_pairedBy_75 : decode cX12_pairedBy 75 = .ok (.iconst (-1), 1) := by decide +kernel
theorem dX12_pairedBy_76 : decode cX12_pairedBy 76 = .ok (.ireturn, 1) := by decide +kernel
theorem dX12_laysPairs_0 : decode cX12_laysPairs 0 = .ok (.aload_n 0, 1) := by decide +kernel
theorem dX12_laysPairs_1 : decode cX12_laysPairs 1 = .ok (.getfield 67, 3) := by decide +kernel
theorem dX12_laysPairs_4 : decode cX12_laysPairs 4 = .ok (.iconst 0, 1) := by decide +kernel
theorem dX12_laysPairs_5 : decode cX12_laysPairs 5 = .ok (.iconst 0, 1) := by decide +kernel
theorem dX12_laysPairs_6 : decode cX12_laysPairs 6 = .ok (.iastore, 1) := by decide +kernel
theorem dX12_laysPairs_7 : decode cX12_laysPairs 7 = .ok (.iconst 1, 1) := by decide +kernel
theorem dX12_laysPairs_8 : decode cX12_laysPairs 8 = .ok (.istore_n 1, 1) := by decide +kernel
theorem dX12_laysPairs_9 : decode cX12_laysPairs 9 = .ok (.iload_n 1, 1) := by decide +kernel
theorem dX12_laysPairs_10 : decode cX12_laysPairs 10 = .ok (.iconst 1, 1) := by decide +kernel
theorem dX12_laysPairs_11 : decode cX12_laysPairs 11 = .ok (.aload_n 0, 1) := by decide +kernel
theorem dX12_laysPairs_12 : decode cX12_laysPairs 12 = .ok (.invokevirtual 95, 3) := by decide +kernel
theorem dX12_laysPairs_15 : decode cX12_laysPairs 15 = .ok (.ishl, 1) := by decide +kernel
theorem dX12_laysPairs_16 : decode cX12_laysPairs 16 = .ok (.if_icmp .ge 45, 3) := by decide +kernel
theorem dX12_laysPairs_19 : decode cX12_laysPairs 19 = .ok (.iconst 0, 1) := by decide +kernel
theorem dX12_laysPairs_20 : decode cX12_laysPairs 20 = .ok (.istore_n 2, 1) := by decide +kernel
theorem dX12_laysPairs_21 : decode cX12_laysPairs 21 = .ok (.iconst (-1), 1) := by decide +kernel
theorem dX12_laysPairs_22 : decode cX12_laysPairs 22 = .ok (.istore_n 3, 1) := by decide +kernel
theorem dX12_laysPairs_23 : decode cX12_laysPairs 23 = .ok (.iload_n 3, 1) := by decide +kernel
theorem dX12_laysPairs_24 : decode cX12_laysPairs 24 = .ok (.aload_n 0, 1) := by decide +kernel
theorem dX12_laysPairs_25 : decode cX12_laysPairs 25 = .ok (.invokevirtual 95, 3) := by decide +kernel
theorem dX12_laysPairs_28 : decode cX12_laysPairs 28 = .ok (.if_icmp .ge 20, 3) := by decide +kernel
theorem dX12_laysPairs_31 : decode cX12_laysPairs 31 = .ok (.iload_n 2, 1) := by decide +kernel
theorem dX12_laysPairs_32 : decode cX12_laysPairs 32 = .ok (.aload_n 0, 1) := by decide +kernel
theorem dX12_laysPairs_33 : decode cX12_laysPairs 33 = .ok (.iload_n 1, 1) := by decide +kernel
theorem dX12_laysPairs_34 : decode cX12_laysPairs 34 = .ok (.iload_n 3, 1) := by decide +kernel
theorem dX12_laysPairs_35 : decode cX12_laysPairs 35 = .ok (.invokevirtual 488, 3) := by decide +kernel
theorem dX12_laysPairs_38 : decode cX12_laysPairs 38 = .ok (.invokestatic 333, 3) := by decide +kernel
theorem dX12_laysPairs_41 : decode cX12_laysPairs 41 = .ok (.istore_n 2, 1) := by decide +kernel
theorem dX12_laysPairs_42 : decode cX12_laysPairs 42 = .ok (.iinc 3 1, 3) := by decide +kernel
theorem dX12_laysPairs_45 : decode cX12_laysPairs 45 = .ok (.goto (-22), 3) := by decide +kernel
theorem dX12_laysPairs_48 : decode cX12_laysPairs 48 = .ok (.aload_n 0, 1) := by decide +kernel
theorem dX12_laysPairs_49 : decode cX12_laysPairs 49 = .ok (.getfield 67, 3) := by decide +kernel
theorem dX12_laysPairs_52 : decode cX12_laysPairs 52 = .ok (.iload_n 1, 1) := by decide +kernel
theorem dX12_laysPairs_53 : decode cX12_laysPairs 53 = .ok (.iload_n 2, 1) := by decide +kernel
theorem dX12_laysPairs_54 : decode cX12_laysPairs 54 = .ok (.iastore, 1) := by decide +kernel
theorem dX12_laysPairs_55 : decode cX12_laysPairs 55 = .ok (.iinc 1 1, 3) := by decide +kernel
theorem dX12_laysPairs_58 : decode cX12_laysPairs 58 = .ok (.goto (-49), 3) := by decide +kernel
theorem dX12_laysPairs_61 : decode cX12_laysPairs 61 = .ok (.return_, 1) := by decide +kernel
theorem dX12_pairs_0 : decode cX12_pairs 0 = .ok (.aload_n 0, 1) := by decide +kernel
theorem dX12_pairs_1 : decode cX12_pairs 1 = .ok (.iconst 0, 1) := by decide +kernel
theorem dX12_pairs_2 : decode cX12_pairs 2 = .ok (.putfield 3, 3) := by decide +kernel
theorem dX12_pairs_5 : decode cX12_pairs 5 = .ok (.aload_n 0, 1) := by decide +kernel
theorem dX12_pairs_6 : decode cX12_pairs 6 = .ok (.iload_n 1, 1) := by decide +kernel
theorem dX12_pairs_7 : decode cX12_pairs 7 = .ok (.iconst (-1), 1) := by decide +kernel
theorem dX12_pairs_8 : decode cX12_pairs 8 = .ok (.if_icmp .eq 15, 3) := by decide +kernel
theorem dX12_pairs_11 : decode cX12_pairs 11 = .ok (.aload_n 0, 1) := by decide +kernel
theorem dX12_pairs_12 : decode cX12_pairs 12 = .ok (.iload_n 1, 1) := by decide +kernel
theorem dX12_pairs_13 : decode cX12_pairs 13 = .ok (.invokevirtual 345, 3) := by decide +kernel
theorem dX12_pairs_16 : decode cX12_pairs 16 = .ok (.ifCond .eq 7, 3) := by decide +kernel
theorem dX12_pairs_19 : decode cX12_pairs 19 = .ok (.iconst 1, 1) := by decide +kernel
theorem dX12_pairs_20 : decode cX12_pairs 20 = .ok (.goto 4, 3) := by decide +kernel
theorem dX12_pairs_23 : decode cX12_pairs 23 = .ok (.iconst 0, 1) := by decide +kernel
theorem dX12_pairs_24 : decode cX12_pairs 24 = .ok (.iconst 1, 1) := by decide +kernel
theorem dX12_pairs_25 : decode cX12_pairs 25 = .ok (.invokevirtual 282, 3) := by decide +kernel
theorem dX12_pairs_28 : decode cX12_pairs 28 = .ok (.ifCond .eq 5, 3) := by decide +kernel
theorem dX12_pairs_31 : decode cX12_pairs 31 = .ok (.iconst 0, 1) := by decide +kernel
theorem dX12_pairs_32 : decode cX12_pairs 32 = .ok (.ireturn, 1) := by decide +kernel
theorem dX12_pairs_33 : decode cX12_pairs 33 = .ok (.aload_n 0, 1) := by decide +kernel
theorem dX12_pairs_34 : decode cX12_pairs 34 = .ok (.invokevirtual 491, 3) := by decide +kernel
theorem dX12_pairs_37 : decode cX12_pairs 37 = .ok (.iconst 1, 1) := by decide +kernel
theorem dX12_pairs_38 : decode cX12_pairs 38 = .ok (.aload_n 0, 1) := by decide +kernel
theorem dX12_pairs_39 : decode cX12_pairs 39 = .ok (.invokevirtual 95, 3) := by decide +kernel
theorem dX12_pairs_42 : decode cX12_pairs 42 = .ok (.ishl, 1) := by decide +kernel
theorem dX12_pairs_43 : decode cX12_pairs 43 = .ok (.iconst 1, 1) := by decide +kernel
theorem dX12_pairs_44 : decode cX12_pairs 44 = .ok (.isub, 1) := by decide +kernel
theorem dX12_pairs_45 : decode cX12_pairs 45 = .ok (.istore_n 2, 1) := by decide +kernel
theorem dX12_pairs_46 : decode cX12_pairs 46 = .ok (.iload_n 1, 1) := by decide +kernel
theorem dX12_pairs_47 : decode cX12_pairs 47 = .ok (.iconst (-1), 1) := by decide +kernel
theorem dX12_pairs_48 : decode cX12_pairs 48 = .ok (.if_icmp .ne 10, 3) := by decide +kernel
theorem dX12_pairs_51 : decode cX12_pairs 51 = .ok (.aload_n 0, 1) := by decide +kernel
theorem dX12_pairs_52 : decode cX12_pairs 52 = .ok (.getfield 67, 3) := by decide +kernel
theorem dX12_pairs_55 : decode cX12_pairs 55 = .ok (.iload_n 2, 1) := by decide +kernel
theorem dX12_pairs_56 : decode cX12_pairs 56 = .ok (.iaload, 1) := by decide +kernel
theorem dX12_pairs_57 : decode cX12_pairs 57 = .ok (.ireturn, 1) := by decide +kernel
theorem dX12_pairs_58 : decode cX12_pairs 58 = .ok (.iconst (-1), 1) := by decide +kernel
theorem dX12_pairs_59 : decode cX12_pairs 59 = .ok (.istore_n 3, 1) := by decide +kernel
theorem dX12_pairs_60 : decode cX12_pairs 60 = .ok (.iconst 0, 1) := by decide +kernel
theorem dX12_pairs_61 : decode cX12_pairs 61 = .ok (.istore 4, 2) := by decide +kernel
theorem dX12_pairs_63 : decode cX12_pairs 63 = .ok (.iload 4, 2) := by decide +kernel
theorem dX12_pairs_65 : decode cX12_pairs 65 = .ok (.ifCond .ne 98, 3) := by decide +kernel
theorem dX12_pairs_68 : decode cX12_pairs 68 = .ok (.iload_n 2, 1) := by decide +kernel
theorem dX12_pairs_69 : decode cX12_pairs 69 = .ok (.invokestatic 482, 3) := by decide +kernel
theorem dX12_pairs_72 : decode cX12_pairs 72 = .ok (.istore 5, 2) := by decide +kernel
theorem dX12_pairs_74 : decode cX12_pairs 74 = .ok (.iconst (-1), 1) := by decide +kernel
theorem dX12_pairs_75 : decode cX12_pairs 75 = .ok (.istore 6, 2) := by decide +kernel
theorem dX12_pairs_77 : decode cX12_pairs 77 = .ok (.aload_n 0, 1) := by decide +kernel
theorem dX12_pairs_78 : decode cX12_pairs 78 = .ok (.iload_n 2, 1) := by decide +kernel
theorem dX12_pairs_79 : decode cX12_pairs 79 = .ok (.iload 6, 2) := by decide +kernel
theorem dX12_pairs_81 : decode cX12_pairs 81 = .ok (.invokevirtual 488, 3) := by decide +kernel
theorem dX12_pairs_84 : decode cX12_pairs 84 = .ok (.aload_n 0, 1) := by decide +kernel
theorem dX12_pairs_85 : decode cX12_pairs 85 = .ok (.getfield 67, 3) := by decide +kernel
theorem dX12_pairs_88 : decode cX12_pairs 88 = .ok (.iload_n 2, 1) := by decide +kernel
theorem dX12_pairs_89 : decode cX12_pairs 89 = .ok (.iaload, 1) := by decide +kernel
theorem dX12_pairs_90 : decode cX12_pairs 90 = .ok (.if_icmp .eq 9, 3) := by decide +kernel
theorem dX12_pairs_93 : decode cX12_pairs 93 = .ok (.iinc 6 1, 3) := by decide +kernel
theorem dX12_pairs_96 : decode cX12_pairs 96 = .ok (.goto (-19), 3) := by decide +kernel
theorem dX12_pairs_99 : decode cX12_pairs 99 = .ok (.iload 5, 2) := by decide +kernel
theorem dX12_pairs_101 : decode cX12_pairs 101 = .ok (.iload_n 1, 1) := by decide +kernel
theorem dX12_pairs_102 : decode cX12_pairs 102 = .ok (.if_icmp .eq 9, 3) := by decide +kernel
theorem dX12_pairs_105 : decode cX12_pairs 105 = .ok (.iload 6, 2) := by decide +kernel
theorem dX12_pairs_107 : decode cX12_pairs 107 = .ok (.iload_n 1, 1) := by decide +kernel
theorem dX12_pairs_108 : decode cX12_pairs 108 = .ok (.if_icmp .ne 7, 3) := by decide +kernel
theorem dX12_pairs_111 : decode cX12_pairs 111 = .ok (.iconst 1, 1) := by decide +kernel
theorem dX12_pairs_112 : decode cX12_pairs 112 = .ok (.goto 4, 3) := by decide +kernel
theorem dX12_pairs_115 : decode cX12_pairs 115 = .ok (.iconst 0, 1) := by decide +kernel
theorem dX12_pairs_116 : decode cX12_pairs 116 = .ok (.istore 4, 2) := by decide +kernel
theorem dX12_pairs_118 : decode cX12_pairs 118 = .ok (.iload 5, 2) := by decide +kernel
theorem dX12_pairs_120 : decode cX12_pairs 120 = .ok (.iload_n 1, 1) := by decide +kernel
theorem dX12_pairs_121 : decode cX12_pairs 121 = .ok (.if_icmp .ne 8, 3) := by decide +kernel
theorem dX12_pairs_124 : decode cX12_pairs 124 = .ok (.iload 6, 2) := by decide +kernel
theorem dX12_pairs_126 : decode cX12_pairs 126 = .ok (.goto 5, 3) := by decide +kernel
theorem dX12_pairs_129 : decode cX12_pairs 129 = .ok (.iload 5, 2) := by decide +kernel
theorem dX12_pairs_131 : decode cX12_pairs 131 = .ok (.istore_n 3, 1) := by decide +kernel
theorem dX12_pairs_132 : decode cX12_pairs 132 = .ok (.iload_n 2, 1) := by decide +kernel
theorem dX12_pairs_133 : decode cX12_pairs 133 = .ok (.iconst 1, 1) := by decide +kernel
theorem dX12_pairs_134 : decode cX12_pairs 134 = .ok (.iload 5, 2) := by decide +kernel
theorem dX12_pairs_136 : decode cX12_pairs 136 = .ok (.ishl, 1) := by decide +kernel
theorem dX12_pairs_137 : decode cX12_pairs 137 = .ok (.iconst (-1), 1) := by decide +kernel
theorem dX12_pairs_138 : decode cX12_pairs 138 = .ok (.ixor, 1) := by decide +kernel
theorem dX12_pairs_139 : decode cX12_pairs 139 = .ok (.iand, 1) := by decide +kernel
theorem dX12_pairs_140 : decode cX12_pairs 140 = .ok (.istore_n 2, 1) := by decide +kernel
theorem dX12_pairs_141 : decode cX12_pairs 141 = .ok (.iload 6, 2) := by decide +kernel
theorem dX12_pairs_143 : decode cX12_pairs 143 = .ok (.iconst (-1), 1) := by decide +kernel
theorem dX12_pairs_144 : decode cX12_pairs 144 = .ok (.if_icmp .ne 7, 3) := by decide +kernel
theorem dX12_pairs_147 : decode cX12_pairs 147 = .ok (.iload_n 2, 1) := by decide +kernel
theorem dX12_pairs_148 : decode cX12_pairs 148 = .ok (.goto 11, 3) := by decide +kernel
theorem dX12_pairs_151 : decode cX12_pairs 151 = .ok (.iload_n 2, 1) := by decide +kernel
theorem dX12_pairs_152 : decode cX12_pairs 152 = .ok (.iconst 1, 1) := by decide +kernel
theorem dX12_pairs_153 : decode cX12_pairs 153 = .ok (.iload 6, 2) := by decide +kernel
theorem dX12_pairs_155 : decode cX12_pairs 155 = .ok (.ishl, 1) := by decide +kernel
theorem dX12_pairs_156 : decode cX12_pairs 156 = .ok (.iconst (-1), 1) := by decide +kernel
theorem dX12_pairs_157 : decode cX12_pairs 157 = .ok (.ixor, 1) := by decide +kernel
theorem dX12_pairs_158 : decode cX12_pairs 158 = .ok (.iand, 1) := by decide +kernel
theorem dX12_pairs_159 : decode cX12_pairs 159 = .ok (.istore_n 2, 1) := by decide +kernel
theorem dX12_pairs_160 : decode cX12_pairs 160 = .ok (.goto (-97), 3) := by decide +kernel
theorem dX12_pairs_163 : decode cX12_pairs 163 = .ok (.iload_n 3, 1) := by decide +kernel
theorem dX12_pairs_164 : decode cX12_pairs 164 = .ok (.ireturn, 1) := by decide +kernel
theorem dX12_masterHas_0 : decode cX12_masterHas 0 = .ok (.iload_n 2, 1) := by decide +kernel
theorem dX12_masterHas_1 : decode cX12_masterHas 1 = .ok (.ifCond .ne 19, 3) := by decide +kernel
theorem dX12_masterHas_4 : decode cX12_masterHas 4 = .ok (.iload_n 3, 1) := by decide +kernel
theorem dX12_masterHas_5 : decode cX12_masterHas 5 = .ok (.ifCond .ne 12, 3) := by decide +kernel
theorem dX12_masterHas_8 : decode cX12_masterHas 8 = .ok (.aload_n 0, 1) := by decide +kernel
theorem dX12_masterHas_9 : decode cX12_masterHas 9 = .ok (.iload_n 1, 1) := by decide +kernel
theorem dX12_masterHas_10 : decode cX12_masterHas 10 = .ok (.iconst 0, 1) := by decide +kernel
theorem dX12_masterHas_11 : decode cX12_masterHas 11 = .ok (.invokevirtual 85, 3) := by decide +kernel
theorem dX12_masterHas_14 : decode cX12_masterHas 14 = .ok (.goto 5, 3) := by decide +kernel
theorem dX12_masterHas_17 : decode cX12_masterHas 17 = .ok (.bipush (-3), 2) := by decide +kernel
theorem dX12_masterHas_19 : decode cX12_masterHas 19 = .ok (.ireturn, 1) := by decide +kernel
theorem dX12_masterHas_20 : decode cX12_masterHas 20 = .ok (.iload_n 3, 1) := by decide +kernel
theorem dX12_masterHas_21 : decode cX12_masterHas 21 = .ok (.ifCond .ne 13, 3) := by decide +kernel
theorem dX12_masterHas_24 : decode cX12_masterHas 24 = .ok (.aload_n 0, 1) := by decide +kernel
theorem dX12_masterHas_25 : decode cX12_masterHas 25 = .ok (.iload_n 1, 1) := by decide +kernel
theorem dX12_masterHas_26 : decode cX12_masterHas 26 = .ok (.iconst 1, 1) := by decide +kernel
theorem dX12_masterHas_27 : decode cX12_masterHas 27 = .ok (.invokevirtual 85, 3) := by decide +kernel
theorem dX12_masterHas_30 : decode cX12_masterHas 30 = .ok (.ineg, 1) := by decide +kernel
theorem dX12_masterHas_31 : decode cX12_masterHas 31 = .ok (.goto 10, 3) := by decide +kernel
theorem dX12_masterHas_34 : decode cX12_masterHas 34 = .ok (.aload_n 0, 1) := by decide +kernel
theorem dX12_masterHas_35 : decode cX12_masterHas 35 = .ok (.getfield 13, 3) := by decide +kernel
theorem dX12_masterHas_38 : decode cX12_masterHas 38 = .ok (.bipush 6, 2) := by decide +kernel
theorem dX12_masterHas_40 : decode cX12_masterHas 40 = .ok (.iaload, 1) := by decide +kernel
theorem dX12_masterHas_41 : decode cX12_masterHas 41 = .ok (.ireturn, 1) := by decide +kernel
theorem dX12_pilotHas_0 : decode cX12_pilotHas 0 = .ok (.iload_n 0, 1) := by decide +kernel
theorem dX12_pilotHas_1 : decode cX12_pilotHas 1 = .ok (.ifCond .ne 13, 3) := by decide +kernel
theorem dX12_pilotHas_4 : decode cX12_pilotHas 4 = .ok (.iload_n 1, 1) := by decide +kernel
theorem dX12_pilotHas_5 : decode cX12_pilotHas 5 = .ok (.ifCond .ne 7, 3) := by decide +kernel
theorem dX12_pilotHas_8 : decode cX12_pilotHas 8 = .ok (.iconst 2, 1) := by decide +kernel
theorem dX12_pilotHas_9 : decode cX12_pilotHas 9 = .ok (.goto 4, 3) := by decide +kernel
theorem dX12_pilotHas_12 : decode cX12_pilotHas 12 = .ok (.iconst 1, 1) := by decide +kernel
theorem dX12_pilotHas_13 : decode cX12_pilotHas 13 = .ok (.ireturn, 1) := by decide +kernel
theorem dX12_pilotHas_14 : decode cX12_pilotHas 14 = .ok (.iload_n 1, 1) := by decide +kernel
theorem dX12_pilotHas_15 : decode cX12_pilotHas 15 = .ok (.ifCond .ne 7, 3) := by decide +kernel
theorem dX12_pilotHas_18 : decode cX12_pilotHas 18 = .ok (.iconst (-1), 1) := by decide +kernel
theorem dX12_pilotHas_19 : decode cX12_pilotHas 19 = .ok (.goto 4, 3) := by decide +kernel
theorem dX12_pilotHas_22 : decode cX12_pilotHas 22 = .ok (.iconst 1, 1) := by decide +kernel
theorem dX12_pilotHas_23 : decode cX12_pilotHas 23 = .ok (.ireturn, 1) := by decide +kernel
theorem dX12_rests_0 : decode cX12_rests 0 = .ok (.aload_n 0, 1) := by decide +kernel
theorem dX12_rests_1 : decode cX12_rests 1 = .ok (.iconst 0, 1) := by decide +kernel
theorem dX12_rests_2 : decode cX12_rests 2 = .ok (.putfield 3, 3) := by decide +kernel
theorem dX12_rests_5 : decode cX12_rests 5 = .ok (.aload_n 0, 1) := by decide +kernel
theorem dX12_rests_6 : decode cX12_rests 6 = .ok (.aload_n 0, 1) := by decide +kernel
theorem dX12_rests_7 : decode cX12_rests 7 = .ok (.iload_n 1, 1) := by decide +kernel
theorem dX12_rests_8 : decode cX12_rests 8 = .ok (.invokevirtual 345, 3) := by decide +kernel
theorem dX12_rests_11 : decode cX12_rests 11 = .ok (.iconst 1, 1) := by decide +kernel
theorem dX12_rests_12 : decode cX12_rests 12 = .ok (.invokevirtual 282, 3) := by decide +kernel
theorem dX12_rests_15 : decode cX12_rests 15 = .ok (.ifCond .eq 5, 3) := by decide +kernel
theorem dX12_rests_18 : decode cX12_rests 18 = .ok (.iconst 0, 1) := by decide +kernel
theorem dX12_rests_19 : decode cX12_rests 19 = .ok (.ireturn, 1) := by decide +kernel
theorem dX12_rests_20 : decode cX12_rests 20 = .ok (.iconst 0, 1) := by decide +kernel
theorem dX12_rests_21 : decode cX12_rests 21 = .ok (.istore_n 2, 1) := by decide +kernel
theorem dX12_rests_22 : decode cX12_rests 22 = .ok (.iconst 0, 1) := by decide +kernel
theorem dX12_rests_23 : decode cX12_rests 23 = .ok (.istore_n 3, 1) := by decide +kernel
theorem dX12_rests_24 : decode cX12_rests 24 = .ok (.iload_n 3, 1) := by decide +kernel
theorem dX12_rests_25 : decode cX12_rests 25 = .ok (.iconst 2, 1) := by decide +kernel
theorem dX12_rests_26 : decode cX12_rests 26 = .ok (.if_icmp .ge 77, 3) := by decide +kernel
theorem dX12_rests_29 : decode cX12_rests 29 = .ok (.iconst 0, 1) := by decide +kernel
theorem dX12_rests_30 : decode cX12_rests 30 = .ok (.istore 4, 2) := by decide +kernel
theorem dX12_rests_32 : decode cX12_rests 32 = .ok (.iload 4, 2) := by decide +kernel
theorem dX12_rests_34 : decode cX12_rests 34 = .ok (.iconst 2, 1) := by decide +kernel
theorem dX12_rests_35 : decode cX12_rests 35 = .ok (.if_icmp .ge 62, 3) := by decide +kernel
theorem dX12_rests_38 : decode cX12_rests 38 = .ok (.iload_n 2, 1) := by decide +kernel
theorem dX12_rests_39 : decode cX12_rests 39 = .ok (.aload_n 0, 1) := by decide +kernel
theorem dX12_rests_40 : decode cX12_rests 40 = .ok (.iload_n 1, 1) := by decide +kernel
theorem dX12_rests_41 : decode cX12_rests 41 = .ok (.iload_n 3, 1) := by decide +kernel
theorem dX12_rests_42 : decode cX12_rests 42 = .ok (.iload 4, 2) := by decide +kernel
theorem dX12_rests_44 : decode cX12_rests 44 = .ok (.invokevirtual 494, 3) := by decide +kernel
theorem dX12_rests_47 : decode cX12_rests 47 = .ok (.aload_n 0, 1) := by decide +kernel
theorem dX12_rests_48 : decode cX12_rests 48 = .ok (.iload_n 1, 1) := by decide +kernel
theorem dX12_rests_49 : decode cX12_rests 49 = .ok (.iconst 1, 1) := by decide +kernel
theorem dX12_rests_50 : decode cX12_rests 50 = .ok (.iload_n 3, 1) := by decide +kernel
theorem dX12_rests_51 : decode cX12_rests 51 = .ok (.isub, 1) := by decide +kernel
theorem dX12_rests_52 : decode cX12_rests 52 = .ok (.iload 4, 2) := by decide +kernel
theorem dX12_rests_54 : decode cX12_rests 54 = .ok (.invokevirtual 494, 3) := by decide +kernel
theorem dX12_rests_57 : decode cX12_rests 57 = .ok (.if_icmp .lt 31, 3) := by decide +kernel
theorem dX12_rests_60 : decode cX12_rests 60 = .ok (.iload_n 3, 1) := by decide +kernel
theorem dX12_rests_61 : decode cX12_rests 61 = .ok (.iload 4, 2) := by decide +kernel
theorem dX12_rests_63 : decode cX12_rests 63 = .ok (.invokestatic 497, 3) := by decide +kernel
theorem dX12_rests_66 : decode cX12_rests 66 = .ok (.iload_n 3, 1) := by decide +kernel
theorem dX12_rests_67 : decode cX12_rests 67 = .ok (.iconst 1, 1) := by decide +kernel
theorem dX12_rests_68 : decode cX12_rests 68 = .ok (.iload 4, 2) := by decide +kernel
theorem dX12_rests_70 : decode cX12_rests 70 = .ok (.isub, 1) := by decide +kernel
theorem dX12_rests_71 : decode cX12_rests 71 = .ok (.invokestatic 497, 3) := by decide +kernel
theorem dX12_rests_74 : decode cX12_rests 74 = .ok (.if_icmp .lt 14, 3) := by decide +kernel
theorem dX12_rests_77 : decode cX12_rests 77 = .ok (.iconst 1, 1) := by decide +kernel
theorem dX12_rests_78 : decode cX12_rests 78 = .ok (.iconst 2, 1) := by decide +kernel
theorem dX12_rests_79 : decode cX12_rests 79 = .ok (.iload_n 3, 1) := by decide +kernel
theorem dX12_rests_80 : decode cX12_rests 80 = .ok (.imul, 1) := by decide +kernel
theorem dX12_rests_81 : decode cX12_rests 81 = .ok (.iload 4, 2) := by decide +kernel
theorem dX12_rests_83 : decode cX12_rests 83 = .ok (.iadd, 1) := by decide +kernel
theorem dX12_rests_84 : decode cX12_rests 84 = .ok (.ishl, 1) := by decide +kernel
theorem dX12_rests_85 : decode cX12_rests 85 = .ok (.goto 4, 3) := by decide +kernel
theorem dX12_rests_88 : decode cX12_rests 88 = .ok (.iconst 0, 1) := by decide +kernel
theorem dX12_rests_89 : decode cX12_rests 89 = .ok (.ior, 1) := by decide +kernel
theorem dX12_rests_90 : decode cX12_rests 90 = .ok (.istore_n 2, 1) := by decide +kernel
theorem dX12_rests_91 : decode cX12_rests 91 = .ok (.iinc 4 1, 3) := by decide +kernel
theorem dX12_rests_94 : decode cX12_rests 94 = .ok (.goto (-62), 3) := by decide +kernel
theorem dX12_rests_97 : decode cX12_rests 97 = .ok (.iinc 3 1, 3) := by decide +kernel
theorem dX12_rests_100 : decode cX12_rests 100 = .ok (.goto (-76), 3) := by decide +kernel
theorem dX12_rests_103 : decode cX12_rests 103 = .ok (.iload_n 2, 1) := by decide +kernel
theorem dX12_rests_104 : decode cX12_rests 104 = .ok (.ireturn, 1) := by decide +kernel
theorem dX12_odds_0 : decode cX12_odds 0 = .ok (.aload_n 0, 1) := by decide +kernel
theorem dX12_odds_1 : decode cX12_odds 1 = .ok (.iconst 0, 1) := by decide +kernel
theorem dX12_odds_2 : decode cX12_odds 2 = .ok (.putfield 3, 3) := by decide +kernel
theorem dX12_odds_5 : decode cX12_odds 5 = .ok (.aload_n 0, 1) := by decide +kernel
theorem dX12_odds_6 : decode cX12_odds 6 = .ok (.iload_n 1, 1) := by decide +kernel
theorem dX12_odds_7 : decode cX12_odds 7 = .ok (.iconst 0, 1) := by decide +kernel
theorem dX12_odds_8 : decode cX12_odds 8 = .ok (.iconst 5, 1) := by decide +kernel
theorem dX12_odds_9 : decode cX12_odds 9 = .ok (.invokestatic 103, 3) := by decide +kernel
theorem dX12_odds_12 : decode cX12_odds 12 = .ok (.ifCond .eq 12, 3) := by decide +kernel
theorem dX12_odds_15 : decode cX12_odds 15 = .ok (.iload_n 2, 1) := by decide +kernel
theorem dX12_odds_16 : decode cX12_odds 16 = .ok (.iconst 0, 1) := by decide +kernel
theorem dX12_odds_17 : decode cX12_odds 17 = .ok (.iconst 5, 1) := by decide +kernel
theorem dX12_odds_18 : decode cX12_odds 18 = .ok (.invokestatic 103, 3) := by decide +kernel
theorem dX12_odds_21 : decode cX12_odds 21 = .ok (.ifCond .ne 7, 3) := by decide +kernel
theorem dX12_odds_24 : decode cX12_odds 24 = .ok (.iconst 1, 1) := by decide +kernel
theorem dX12_odds_25 : decode cX12_odds 25 = .ok (.goto 4, 3) := by decide +kernel
theorem dX12_odds_28 : decode cX12_odds 28 = .ok (.iconst 0, 1) := by decide +kernel
theorem dX12_odds_29 : decode cX12_odds 29 = .ok (.iconst 1, 1) := by decide +kernel
theorem dX12_odds_30 : decode cX12_odds 30 = .ok (.invokevirtual 282, 3) := by decide +kernel
theorem dX12_odds_33 : decode cX12_odds 33 = .ok (.ifCond .eq 5, 3) := by decide +kernel
theorem dX12_odds_36 : decode cX12_odds 36 = .ok (.iconst 0, 1) := by decide +kernel
theorem dX12_odds_37 : decode cX12_odds 37 = .ok (.ireturn, 1) := by decide +kernel
theorem dX12_odds_38 : decode cX12_odds 38 = .ok (.lconst 1, 1) := by decide +kernel
theorem dX12_odds_39 : decode cX12_odds 39 = .ok (.lstore_n 3, 1) := by decide +kernel
theorem dX12_odds_40 : decode cX12_odds 40 = .ok (.iconst 0, 1) := by decide +kernel
theorem dX12_odds_41 : decode cX12_odds 41 = .ok (.istore 5, 2) := by decide +kernel
theorem dX12_odds_43 : decode cX12_odds 43 = .ok (.iload 5, 2) := by decide +kernel
theorem dX12_odds_45 : decode cX12_odds 45 = .ok (.iconst 5, 1) := by decide +kernel
theorem dX12_odds_46 : decode cX12_odds 46 = .ok (.if_icmp .gt 26, 3) := by decide +kernel
theorem dX12_odds_49 : decode cX12_odds 49 = .ok (.aload_n 0, 1) := by decide +kernel
theorem dX12_odds_50 : decode cX12_odds 50 = .ok (.getfield 70, 3) := by decide +kernel
theorem dX12_odds_53 : decode cX12_odds 53 = .ok (.iload 5, 2) := by decide +kernel
theorem dX12_odds_55 : decode cX12_odds 55 = .ok (.iload 5, 2) := by decide +kernel
theorem dX12_odds_57 : decode cX12_odds 57 = .ok (.ifCond .ne 7, 3) := by decide +kernel
theorem dX12_odds_60 : decode cX12_odds 60 = .ok (.lconst 1, 1) := by decide +kernel
theorem dX12_odds_61 : decode cX12_odds 61 = .ok (.goto 4, 3) := by decide +kernel
theorem dX12_odds_64 : decode cX12_odds 64 = .ok (.lconst 0, 1) := by decide +kernel
theorem dX12_odds_65 : decode cX12_odds 65 = .ok (.lastore, 1) := by decide +kernel
theorem dX12_odds_66 : decode cX12_odds 66 = .ok (.iinc 5 1, 3) := by decide +kernel
theorem dX12_odds_69 : decode cX12_odds 69 = .ok (.goto (-26), 3) := by decide +kernel
theorem dX12_odds_72 : decode cX12_odds 72 = .ok (.iconst 0, 1) := by decide +kernel
theorem dX12_odds_73 : decode cX12_odds 73 = .ok (.istore 5, 2) := by decide +kernel
theorem dX12_odds_75 : decode cX12_odds 75 = .ok (.iload 5, 2) := by decide +kernel
theorem dX12_odds_77 : decode cX12_odds 77 = .ok (.iload_n 1, 1) := by decide +kernel
theorem dX12_odds_78 : decode cX12_odds 78 = .ok (.if_icmp .ge 73, 3) := by decide +kernel
theorem dX12_odds_81 : decode cX12_odds 81 = .ok (.iconst 5, 1) := by decide +kernel
theorem dX12_odds_82 : decode cX12_odds 82 = .ok (.istore 6, 2) := by decide +kernel
theorem dX12_odds_84 : decode cX12_odds 84 = .ok (.iload 6, 2) := by decide +kernel
theorem dX12_odds_86 : decode cX12_odds 86 = .ok (.ifCond .lt 46, 3) := by decide +kernel
theorem dX12_odds_89 : decode cX12_odds 89 = .ok (.aload_n 0, 1) := by decide +kernel
theorem dX12_odds_90 : decode cX12_odds 90 = .ok (.getfield 70, 3) := by decide +kernel
theorem dX12_odds_93 : decode cX12_odds 93 = .ok (.iload 6, 2) := by decide +kernel
theorem dX12_odds_95 : decode cX12_odds 95 = .ok (.dup2, 1) := by decide +kernel
theorem dX12_odds_96 : decode cX12_odds 96 = .ok (.laload, 1) := by decide +kernel
theorem dX12_odds_97 : decode cX12_odds 97 = .ok (.iload 6, 2) := by decide +kernel
theorem dX12_odds_99 : decode cX12_odds 99 = .ok (.ifCond .ne 7, 3) := by decide +kernel
theorem dX12_odds_102 : decode cX12_odds 102 = .ok (.lconst 0, 1) := by decide +kernel
theorem dX12_odds_103 : decode cX12_odds 103 = .ok (.goto 21, 3) := by decide +kernel
theorem dX12_odds_106 : decode cX12_odds 106 = .ok (.aload_n 0, 1) := by decide +kernel
theorem dX12_odds_107 : decode cX12_odds 107 = .ok (.getfield 70, 3) := by decide +kernel
theorem dX12_odds_110 : decode cX12_odds 110 = .ok (.iload 6, 2) := by decide +kernel
theorem dX12_odds_112 : decode cX12_odds 112 = .ok (.iconst 1, 1) := by decide +kernel
theorem dX12_odds_113 : decode cX12_odds 113 = .ok (.isub, 1) := by decide +kernel
theorem dX12_odds_114 : decode cX12_odds 114 = .ok (.laload, 1) := by decide +kernel
theorem dX12_odds_115 : decode cX12_odds 115 = .ok (.aload_n 0, 1) := by decide +kernel
theorem dX12_odds_116 : decode cX12_odds 116 = .ok (.getfield 13, 3) := by decide +kernel
theorem dX12_odds_119 : decode cX12_odds 119 = .ok (.bipush 7, 2) := by decide +kernel
theorem dX12_odds_121 : decode cX12_odds 121 = .ok (.iaload, 1) := by decide +kernel
theorem dX12_odds_122 : decode cX12_odds 122 = .ok (.i2l, 1) := by decide +kernel
theorem dX12_odds_123 : decode cX12_odds 123 = .ok (.lmul, 1) := by decide +kernel
theorem dX12_odds_124 : decode cX12_odds 124 = .ok (.ladd, 1) := by decide +kernel
theorem dX12_odds_125 : decode cX12_odds 125 = .ok (.lastore, 1) := by decide +kernel
theorem dX12_odds_126 : decode cX12_odds 126 = .ok (.iinc 6 (-1), 3) := by decide +kernel
theorem dX12_odds_129 : decode cX12_odds 129 = .ok (.goto (-45), 3) := by decide +kernel
theorem dX12_odds_132 : decode cX12_odds 132 = .ok (.lload_n 3, 1) := by decide +kernel
theorem dX12_odds_133 : decode cX12_odds 133 = .ok (.aload_n 0, 1) := by decide +kernel
theorem dX12_odds_134 : decode cX12_odds 134 = .ok (.getfield 13, 3) := by decide +kernel
theorem dX12_odds_137 : decode cX12_odds 137 = .ok (.bipush 7, 2) := by decide +kernel
theorem dX12_odds_139 : decode cX12_odds 139 = .ok (.iaload, 1) := by decide +kernel
theorem dX12_odds_140 : decode cX12_odds 140 = .ok (.iconst 1, 1) := by decide +kernel
theorem dX12_odds_141 : decode cX12_odds 141 = .ok (.iadd, 1) := by decide +kernel
theorem dX12_odds_142 : decode cX12_odds 142 = .ok (.i2l, 1) := by decide +kernel
theorem dX12_odds_143 : decode cX12_odds 143 = .ok (.lmul, 1) := by decide +kernel
theorem dX12_odds_144 : decode cX12_odds 144 = .ok (.lstore_n 3, 1) := by decide +kernel
theorem dX12_odds_145 : decode cX12_odds 145 = .ok (.iinc 5 1, 3) := by decide +kernel
theorem dX12_odds_148 : decode cX12_odds 148 = .ok (.goto (-73), 3) := by decide +kernel
theorem dX12_odds_151 : decode cX12_odds 151 = .ok (.lconst 0, 1) := by decide +kernel
theorem dX12_odds_152 : decode cX12_odds 152 = .ok (.lstore 5, 2) := by decide +kernel
theorem dX12_odds_154 : decode cX12_odds 154 = .ok (.iload_n 2, 1) := by decide +kernel
theorem dX12_odds_155 : decode cX12_odds 155 = .ok (.istore 7, 2) := by decide +kernel
theorem dX12_odds_157 : decode cX12_odds 157 = .ok (.iload 7, 2) := by decide +kernel
theorem dX12_odds_159 : decode cX12_odds 159 = .ok (.iconst 5, 1) := by decide +kernel
theorem dX12_odds_160 : decode cX12_odds 160 = .ok (.if_icmp .gt 21, 3) := by decide +kernel
theorem dX12_odds_163 : decode cX12_odds 163 = .ok (.lload 5, 2) := by decide +kernel
theorem dX12_odds_165 : decode cX12_odds 165 = .ok (.aload_n 0, 1) := by decide +kernel
theorem dX12_odds_166 : decode cX12_odds 166 = .ok (.getfield 70, 3) := by decide +kernel
theorem dX12_odds_169 : decode cX12_odds 169 = .ok (.iload 7, 2) := by decide +kernel
theorem dX12_odds_171 : decode cX12_odds 171 = .ok (.laload, 1) := by decide +kernel
theorem dX12_odds_172 : decode cX12_odds 172 = .ok (.ladd, 1) := by decide +kernel
theorem dX12_odds_173 : decode cX12_odds 173 = .ok (.lstore 5, 2) := by decide +kernel
theorem dX12_odds_175 : decode cX12_odds 175 = .ok (.iinc 7 1, 3) := by decide +kernel
theorem dX12_odds_178 : decode cX12_odds 178 = .ok (.goto (-21), 3) := by decide +kernel
theorem dX12_odds_181 : decode cX12_odds 181 = .ok (.ldc2_w 500, 3) := by decide +kernel
theorem dX12_odds_184 : decode cX12_odds 184 = .ok (.lload 5, 2) := by decide +kernel
theorem dX12_odds_186 : decode cX12_odds 186 = .ok (.lmul, 1) := by decide +kernel
theorem dX12_odds_187 : decode cX12_odds 187 = .ok (.lload_n 3, 1) := by decide +kernel
theorem dX12_odds_188 : decode cX12_odds 188 = .ok (.ldiv, 1) := by decide +kernel
theorem dX12_odds_189 : decode cX12_odds 189 = .ok (.l2i, 1) := by decide +kernel
theorem dX12_odds_190 : decode cX12_odds 190 = .ok (.ireturn, 1) := by decide +kernel
theorem dX12_most_0 : decode cX12_most 0 = .ok (.aload_n 0, 1) := by decide +kernel
theorem dX12_most_1 : decode cX12_most 1 = .ok (.iconst 0, 1) := by decide +kernel
theorem dX12_most_2 : decode cX12_most 2 = .ok (.putfield 3, 3) := by decide +kernel
theorem dX12_most_5 : decode cX12_most 5 = .ok (.aload_n 0, 1) := by decide +kernel
theorem dX12_most_6 : decode cX12_most 6 = .ok (.iload_n 1, 1) := by decide +kernel
theorem dX12_most_7 : decode cX12_most 7 = .ok (.iconst 0, 1) := by decide +kernel
theorem dX12_most_8 : decode cX12_most 8 = .ok (.iconst 2, 1) := by decide +kernel
theorem dX12_most_9 : decode cX12_most 9 = .ok (.invokestatic 103, 3) := by decide +kernel
theorem dX12_most_12 : decode cX12_most 12 = .ok (.ifCond .ne 7, 3) := by decide +kernel
theorem dX12_most_15 : decode cX12_most 15 = .ok (.iconst 1, 1) := by decide +kernel
theorem dX12_most_16 : decode cX12_most 16 = .ok (.goto 4, 3) := by decide +kernel
theorem dX12_most_19 : decode cX12_most 19 = .ok (.iconst 0, 1) := by decide +kernel
theorem dX12_most_20 : decode cX12_most 20 = .ok (.iconst 1, 1) := by decide +kernel
theorem dX12_most_21 : decode cX12_most 21 = .ok (.invokevirtual 282, 3) := by decide +kernel
theorem dX12_most_24 : decode cX12_most 24 = .ok (.ifCond .eq 5, 3) := by decide +kernel
theorem dX12_most_27 : decode cX12_most 27 = .ok (.iconst 0, 1) := by decide +kernel
theorem dX12_most_28 : decode cX12_most 28 = .ok (.ireturn, 1) := by decide +kernel
theorem dX12_most_29 : decode cX12_most 29 = .ok (.iconst (-1), 1) := by decide +kernel
theorem dX12_most_30 : decode cX12_most 30 = .ok (.istore_n 2, 1) := by decide +kernel
theorem dX12_most_31 : decode cX12_most 31 = .ok (.iconst 0, 1) := by decide +kernel
theorem dX12_most_32 : decode cX12_most 32 = .ok (.istore_n 3, 1) := by decide +kernel
theorem dX12_most_33 : decode cX12_most 33 = .ok (.iload_n 3, 1) := by decide +kernel
theorem dX12_most_34 : decode cX12_most 34 = .ok (.aload_n 0, 1) := by decide +kernel
theorem dX12_most_35 : decode cX12_most 35 = .ok (.invokevirtual 95, 3) := by decide +kernel
theorem dX12_most_38 : decode cX12_most 38 = .ok (.if_icmp .ge 41, 3) := by decide +kernel
theorem dX12_most_41 : decode cX12_most 41 = .ok (.aload_n 0, 1) := by decide +kernel
theorem dX12_most_42 : decode cX12_most 42 = .ok (.iload_n 3, 1) := by decide +kernel
theorem dX12_most_43 : decode cX12_most 43 = .ok (.iconst 3, 1) := by decide +kernel
theorem dX12_most_44 : decode cX12_most 44 = .ok (.invokevirtual 85, 3) := by decide +kernel
theorem dX12_most_47 : decode cX12_most 47 = .ok (.iconst 2, 1) := by decide +kernel
theorem dX12_most_48 : decode cX12_most 48 = .ok (.if_icmp .eq 25, 3) := by decide +kernel
theorem dX12_most_51 : decode cX12_most 51 = .ok (.iload_n 2, 1) := by decide +kernel
theorem dX12_most_52 : decode cX12_most 52 = .ok (.iconst (-1), 1) := by decide +kernel
theorem dX12_most_53 : decode cX12_most 53 = .ok (.if_icmp .eq 18, 3) := by decide +kernel
theorem dX12_most_56 : decode cX12_most 56 = .ok (.aload_n 0, 1) := by decide +kernel
theorem dX12_most_57 : decode cX12_most 57 = .ok (.iload_n 3, 1) := by decide +kernel
theorem dX12_most_58 : decode cX12_most 58 = .ok (.iload_n 1, 1) := by decide +kernel
theorem dX12_most_59 : decode cX12_most 59 = .ok (.invokevirtual 85, 3) := by decide +kernel
theorem dX12_most_62 : decode cX12_most 62 = .ok (.aload_n 0, 1) := by decide +kernel
theorem dX12_most_63 : decode cX12_most 63 = .ok (.iload_n 2, 1) := by decide +kernel
theorem dX12_most_64 : decode cX12_most 64 = .ok (.iload_n 1, 1) := by decide +kernel
theorem dX12_most_65 : decode cX12_most 65 = .ok (.invokevirtual 85, 3) := by decide +kernel
theorem dX12_most_68 : decode cX12_most 68 = .ok (.if_icmp .le 5, 3) := by decide +kernel
theorem dX12_most_71 : decode cX12_most 71 = .ok (.iload_n 3, 1) := by decide +kernel
theorem dX12_most_72 : decode cX12_most 72 = .ok (.istore_n 2, 1) := by decide +kernel
theorem dX12_most_73 : decode cX12_most 73 = .ok (.iinc 3 1, 3) := by decide +kernel
theorem dX12_most_76 : decode cX12_most 76 = .ok (.goto (-43), 3) := by decide +kernel
theorem dX12_most_79 : decode cX12_most 79 = .ok (.iload_n 2, 1) := by decide +kernel
theorem dX12_most_80 : decode cX12_most 80 = .ok (.ireturn, 1) := by decide +kernel
theorem dX12_allThat_0 : decode cX12_allThat 0 = .ok (.aload_n 0, 1) := by decide +kernel
theorem dX12_allThat_1 : decode cX12_allThat 1 = .ok (.iconst 0, 1) := by decide +kernel
theorem dX12_allThat_2 : decode cX12_allThat 2 = .ok (.putfield 3, 3) := by decide +kernel
theorem dX12_allThat_5 : decode cX12_allThat 5 = .ok (.iconst 0, 1) := by decide +kernel
theorem dX12_allThat_6 : decode cX12_allThat 6 = .ok (.istore_n 3, 1) := by decide +kernel
theorem dX12_allThat_7 : decode cX12_allThat 7 = .ok (.iconst 0, 1) := by decide +kernel
theorem dX12_allThat_8 : decode cX12_allThat 8 = .ok (.istore 4, 2) := by decide +kernel
theorem dX12_allThat_10 : decode cX12_allThat 10 = .ok (.iload 4, 2) := by decide +kernel
theorem dX12_allThat_12 : decode cX12_allThat 12 = .ok (.aload_n 0, 1) := by decide +kernel
theorem dX12_allThat_13 : decode cX12_allThat 13 = .ok (.invokevirtual 95, 3) := by decide +kernel
theorem dX12_allThat_16 : decode cX12_allThat 16 = .ok (.if_icmp .ge 31, 3) := by decide +kernel
theorem dX12_allThat_19 : decode cX12_allThat 19 = .ok (.iload_n 3, 1) := by decide +kernel
theorem dX12_allThat_20 : decode cX12_allThat 20 = .ok (.aload_n 0, 1) := by decide +kernel
theorem dX12_allThat_21 : decode cX12_allThat 21 = .ok (.iload 4, 2) := by decide +kernel
theorem dX12_allThat_23 : decode cX12_allThat 23 = .ok (.iload_n 1, 1) := by decide +kernel
theorem dX12_allThat_24 : decode cX12_allThat 24 = .ok (.invokevirtual 85, 3) := by decide +kernel
theorem dX12_allThat_27 : decode cX12_allThat 27 = .ok (.iload_n 2, 1) := by decide +kernel
theorem dX12_allThat_28 : decode cX12_allThat 28 = .ok (.if_icmp .ne 10, 3) := by decide +kernel
theorem dX12_allThat_31 : decode cX12_allThat 31 = .ok (.iconst 1, 1) := by decide +kernel
theorem dX12_allThat_32 : decode cX12_allThat 32 = .ok (.iload 4, 2) := by decide +kernel
theorem dX12_allThat_34 : decode cX12_allThat 34 = .ok (.ishl, 1) := by decide +kernel
theorem dX12_allThat_35 : decode cX12_allThat 35 = .ok (.goto 4, 3) := by decide +kernel
theorem dX12_allThat_38 : decode cX12_allThat 38 = .ok (.iconst 0, 1) := by decide +kernel
theorem dX12_allThat_39 : decode cX12_allThat 39 = .ok (.ior, 1) := by decide +kernel
theorem dX12_allThat_40 : decode cX12_allThat 40 = .ok (.istore_n 3, 1) := by decide +kernel
theorem dX12_allThat_41 : decode cX12_allThat 41 = .ok (.iinc 4 1, 3) := by decide +kernel
theorem dX12_allThat_44 : decode cX12_allThat 44 = .ok (.goto (-34), 3) := by decide +kernel
theorem dX12_allThat_47 : decode cX12_allThat 47 = .ok (.iload_n 3, 1) := by decide +kernel
theorem dX12_allThat_48 : decode cX12_allThat 48 = .ok (.ireturn, 1) := by decide +kernel
theorem dX12_waiting_0 : decode cX12_waiting 0 = .ok (.aload_n 0, 1) := by decide +kernel
theorem dX12_waiting_1 : decode cX12_waiting 1 = .ok (.iconst 3, 1) := by decide +kernel
theorem dX12_waiting_2 : decode cX12_waiting 2 = .ok (.iconst 0, 1) := by decide +kernel
theorem dX12_waiting_3 : decode cX12_waiting 3 = .ok (.invokevirtual 502, 3) := by decide +kernel
theorem dX12_waiting_6 : decode cX12_waiting 6 = .ok (.ireturn, 1) := by decide +kernel
theorem dX12_docked_0 : decode cX12_docked 0 = .ok (.aload_n 0, 1) := by decide +kernel
theorem dX12_docked_1 : decode cX12_docked 1 = .ok (.iconst 3, 1) := by decide +kernel
theorem dX12_docked_2 : decode cX12_docked 2 = .ok (.iconst 1, 1) := by decide +kernel
theorem dX12_docked_3 : decode cX12_docked 3 = .ok (.invokevirtual 502, 3) := by decide +kernel
theorem dX12_docked_6 : decode cX12_docked 6 = .ok (.ireturn, 1) := by decide +kernel
theorem dX12_gone_0 : decode cX12_gone 0 = .ok (.aload_n 0, 1) := by decide +kernel
theorem dX12_gone_1 : decode cX12_gone 1 = .ok (.iconst 3, 1) := by decide +kernel
theorem dX12_gone_2 : decode cX12_gone 2 = .ok (.iconst 2, 1) := by decide +kernel
theorem dX12_gone_3 : decode cX12_gone 3 = .ok (.invokevirtual 502, 3) := by decide +kernel
theorem dX12_gone_6 : decode cX12_gone 6 = .ok (.ireturn, 1) := by decide +kernel
theorem dX12_hurt_0 : decode cX12_hurt 0 = .ok (.aload_n 0, 1) := by decide +kernel
theorem dX12_hurt_1 : decode cX12_hurt 1 = .ok (.iconst 5, 1) := by decide +kernel
theorem dX12_hurt_2 : decode cX12_hurt 2 = .ok (.iconst 1, 1) := by decide +kernel
theorem dX12_hurt_3 : decode cX12_hurt 3 = .ok (.invokevirtual 502, 3) := by decide +kernel
theorem dX12_hurt_6 : decode cX12_hurt 6 = .ok (.ireturn, 1) := by decide +kernel
theorem dX12_twins_0 : decode cX12_twins 0 = .ok (.aload_n 0, 1) := by decide +kernel
theorem dX12_twins_1 : decode cX12_twins 1 = .ok (.iconst 0, 1) := by decide +kernel
theorem dX12_twins_2 : decode cX12_twins 2 = .ok (.putfield 3, 3) := by decide +kernel
theorem dX12_twins_5 : decode cX12_twins 5 = .ok (.iconst 0, 1) := by decide +kernel
theorem dX12_twins_6 : decode cX12_twins 6 = .ok (.istore_n 1, 1) := by decide +kernel
theorem dX12_twins_7 : decode cX12_twins 7 = .ok (.iconst 0, 1) := by decide +kernel
theorem dX12_twins_8 : decode cX12_twins 8 = .ok (.istore_n 2, 1) := by decide +kernel
theorem dX12_twins_9 : decode cX12_twins 9 = .ok (.iload_n 2, 1) := by decide +kernel
theorem dX12_twins_10 : decode cX12_twins 10 = .ok (.aload_n 0, 1) := by decide +kernel
theorem dX12_twins_11 : decode cX12_twins 11 = .ok (.invokevirtual 95, 3) := by decide +kernel
theorem dX12_twins_14 : decode cX12_twins 14 = .ok (.if_icmp .ge 60, 3) := by decide +kernel
theorem dX12_twins_17 : decode cX12_twins 17 = .ok (.iconst 0, 1) := by decide +kernel
theorem dX12_twins_18 : decode cX12_twins 18 = .ok (.istore_n 3, 1) := by decide +kernel
theorem dX12_twins_19 : decode cX12_twins 19 = .ok (.iload_n 3, 1) := by decide +kernel
theorem dX12_twins_20 : decode cX12_twins 20 = .ok (.iload_n 2, 1) := by decide +kernel
theorem dX12_twins_21 : decode cX12_twins 21 = .ok (.if_icmp .ge 47, 3) := by decide +kernel
theorem dX12_twins_24 : decode cX12_twins 24 = .ok (.iload_n 1, 1) := by decide +kernel
theorem dX12_twins_25 : decode cX12_twins 25 = .ok (.aload_n 0, 1) := by decide +kernel
theorem dX12_twins_26 : decode cX12_twins 26 = .ok (.iload_n 2, 1) := by decide +kernel
theorem dX12_twins_27 : decode cX12_twins 27 = .ok (.iconst 0, 1) := by decide +kernel
theorem dX12_twins_28 : decode cX12_twins 28 = .ok (.invokevirtual 85, 3) := by decide +kernel
theorem dX12_twins_31 : decode cX12_twins 31 = .ok (.aload_n 0, 1) := by decide +kernel
theorem dX12_twins_32 : decode cX12_twins 32 = .ok (.iload_n 3, 1) := by decide +kernel
theorem dX12_twins_33 : decode cX12_twins 33 = .ok (.iconst 0, 1) := by decide +kernel
theorem dX12_twins_34 : decode cX12_twins 34 = .ok (.invokevirtual 85, 3) := by decide +kernel
theorem dX12_twins_37 : decode cX12_twins 37 = .ok (.if_icmp .ne 22, 3) := by decide +kernel
theorem dX12_twins_40 : decode cX12_twins 40 = .ok (.aload_n 0, 1) := by decide +kernel
theorem dX12_twins_41 : decode cX12_twins 41 = .ok (.iload_n 2, 1) := by decide +kernel
theorem dX12_twins_42 : decode cX12_twins 42 = .ok (.iconst 1, 1) := by decide +kernel
theorem dX12_twins_43 : decode cX12_twins 43 = .ok (.invokevirtual 85, 3) := by decide +kernel
theorem dX12_twins_46 : decode cX12_twins 46 = .ok (.aload_n 0, 1) := by decide +kernel
theorem dX12_twins_47 : decode cX12_twins 47 = .ok (.iload_n 3, 1) := by decide +kernel
theorem dX12_twins_48 : decode cX12_twins 48 = .ok (.iconst 1, 1) := by decide +kernel
theorem dX12_twins_49 : decode cX12_twins 49 = .ok (.invokevirtual 85, 3) := by decide +kernel
theorem dX12_twins_52 : decode cX12_twins 52 = .ok (.if_icmp .ne 7, 3) := by decide +kernel
theorem dX12_twins_55 : decode cX12_twins 55 = .ok (.iconst 1, 1) := by decide +kernel
theorem dX12_twins_56 : decode cX12_twins 56 = .ok (.goto 4, 3) := by decide +kernel
theorem dX12_twins_59 : decode cX12_twins 59 = .ok (.iconst 0, 1) := by decide +kernel
theorem dX12_twins_60 : decode cX12_twins 60 = .ok (.iadd, 1) := by decide +kernel
theorem dX12_twins_61 : decode cX12_twins 61 = .ok (.istore_n 1, 1) := by decide +kernel
theorem dX12_twins_62 : decode cX12_twins 62 = .ok (.iinc 3 1, 3) := by decide +kernel
theorem dX12_twins_65 : decode cX12_twins 65 = .ok (.goto (-46), 3) := by decide +kernel
theorem dX12_twins_68 : decode cX12_twins 68 = .ok (.iinc 2 1, 3) := by decide +kernel
theorem dX12_twins_71 : decode cX12_twins 71 = .ok (.goto (-62), 3) := by decide +kernel
theorem dX12_twins_74 : decode cX12_twins 74 = .ok (.iload_n 1, 1) := by decide +kernel
theorem dX12_twins_75 : decode cX12_twins 75 = .ok (.ireturn, 1) := by decide +kernel
theorem dX12_water_0 : decode cX12_water 0 = .ok (.aload_n 0, 1) := by decide +kernel
theorem dX12_water_1 : decode cX12_water 1 = .ok (.iconst 0, 1) := by decide +kernel
theorem dX12_water_2 : decode cX12_water 2 = .ok (.putfield 3, 3) := by decide +kernel
theorem dX12_water_5 : decode cX12_water 5 = .ok (.iconst 0, 1) := by decide +kernel
theorem dX12_water_6 : decode cX12_water 6 = .ok (.istore_n 2, 1) := by decide +kernel
theorem dX12_water_7 : decode cX12_water 7 = .ok (.iconst 1, 1) := by decide +kernel
theorem dX12_water_8 : decode cX12_water 8 = .ok (.istore_n 3, 1) := by decide +kernel
theorem dX12_water_9 : decode cX12_water 9 = .ok (.iload_n 3, 1) := by decide +kernel
theorem dX12_water_10 : decode cX12_water 10 = .ok (.bipush 12, 2) := by decide +kernel
theorem dX12_water_12 : decode cX12_water 12 = .ok (.if_icmp .ge 69, 3) := by decide +kernel
theorem dX12_water_15 : decode cX12_water 15 = .ok (.iload_n 1, 1) := by decide +kernel
theorem dX12_water_16 : decode cX12_water 16 = .ok (.ifCond .eq 32, 3) := by decide +kernel
theorem dX12_water_19 : decode cX12_water 19 = .ok (.aload_n 0, 1) := by decide +kernel
theorem dX12_water_20 : decode cX12_water 20 = .ok (.getfield 13, 3) := by decide +kernel
theorem dX12_water_23 : decode cX12_water 23 = .ok (.bipush 13, 2) := by decide +kernel
theorem dX12_water_25 : decode cX12_water 25 = .ok (.iload_n 3, 1) := by decide +kernel
theorem dX12_water_26 : decode cX12_water 26 = .ok (.iadd, 1) := by decide +kernel
theorem dX12_water_27 : decode cX12_water 27 = .ok (.iaload, 1) := by decide +kernel
theorem dX12_water_28 : decode cX12_water 28 = .ok (.aload_n 0, 1) := by decide +kernel
theorem dX12_water_29 : decode cX12_water 29 = .ok (.getfield 13, 3) := by decide +kernel
theorem dX12_water_32 : decode cX12_water 32 = .ok (.bipush 13, 2) := by decide +kernel
theorem dX12_water_34 : decode cX12_water 34 = .ok (.iload_n 2, 1) := by decide +kernel
theorem dX12_water_35 : decode cX12_water 35 = .ok (.iadd, 1) := by decide +kernel
theorem dX12_water_36 : decode cX12_water 36 = .ok (.iaload, 1) := by decide +kernel
theorem dX12_water_37 : decode cX12_water 37 = .ok (.if_icmp .le 7, 3) := by decide +kernel
theorem dX12_water_40 : decode cX12_water 40 = .ok (.iload_n 3, 1) := by decide +kernel
theorem dX12_water_41 : decode cX12_water 41 = .ok (.goto 33, 3) := by decide +kernel
theorem dX12_water_44 : decode cX12_water 44 = .ok (.iload_n 2, 1) := by decide +kernel
theorem dX12_water_45 : decode cX12_water 45 = .ok (.goto 29, 3) := by decide +kernel
theorem dX12_water_48 : decode cX12_water 48 = .ok (.aload_n 0, 1) := by decide +kernel
theorem dX12_water_49 : decode cX12_water 49 = .ok (.getfield 13, 3) := by decide +kernel
theorem dX12_water_52 : decode cX12_water 52 = .ok (.bipush 13, 2) := by decide +kernel
theorem dX12_water_54 : decode cX12_water 54 = .ok (.iload_n 3, 1) := by decide +kernel
theorem dX12_water_55 : decode cX12_water 55 = .ok (.iadd, 1) := by decide +kernel
theorem dX12_water_56 : decode cX12_water 56 = .ok (.iaload, 1) := by decide +kernel
theorem dX12_water_57 : decode cX12_water 57 = .ok (.aload_n 0, 1) := by decide +kernel
theorem dX12_water_58 : decode cX12_water 58 = .ok (.getfield 13, 3) := by decide +kernel
theorem dX12_water_61 : decode cX12_water 61 = .ok (.bipush 13, 2) := by decide +kernel
theorem dX12_water_63 : decode cX12_water 63 = .ok (.iload_n 2, 1) := by decide +kernel
theorem dX12_water_64 : decode cX12_water 64 = .ok (.iadd, 1) := by decide +kernel
theorem dX12_water_65 : decode cX12_water 65 = .ok (.iaload, 1) := by decide +kernel
theorem dX12_water_66 : decode cX12_water 66 = .ok (.if_icmp .ge 7, 3) := by decide +kernel
theorem dX12_water_69 : decode cX12_water 69 = .ok (.iload_n 3, 1) := by decide +kernel
theorem dX12_water_70 : decode cX12_water 70 = .ok (.goto 4, 3) := by decide +kernel
theorem dX12_water_73 : decode cX12_water 73 = .ok (.iload_n 2, 1) := by decide +kernel
theorem dX12_water_74 : decode cX12_water 74 = .ok (.istore_n 2, 1) := by decide +kernel
theorem dX12_water_75 : decode cX12_water 75 = .ok (.iinc 3 1, 3) := by decide +kernel
theorem dX12_water_78 : decode cX12_water 78 = .ok (.goto (-69), 3) := by decide +kernel
theorem dX12_water_81 : decode cX12_water 81 = .ok (.iload_n 2, 1) := by decide +kernel
theorem dX12_water_82 : decode cX12_water 82 = .ok (.ireturn, 1) := by decide +kernel
theorem dX12_noHours_0 : decode cX12_noHours 0 = .ok (.iload_n 0, 1) := by decide +kernel
theorem dX12_noHours_1 : decode cX12_noHours 1 = .ok (.iconst 0, 1) := by decide +kernel
theorem dX12_noHours_2 : decode cX12_noHours 2 = .ok (.bipush 60, 2) := by decide +kernel
theorem dX12_noHours_4 : decode cX12_noHours 4 = .ok (.invokestatic 103, 3) := by decide +kernel
theorem dX12_noHours_7 : decode cX12_noHours 7 = .ok (.ifCond .ne 7, 3) := by decide +kernel
theorem dX12_noHours_10 : decode cX12_noHours 10 = .ok (.iconst 1, 1) := by decide +kernel
theorem dX12_noHours_11 : decode cX12_noHours 11 = .ok (.goto 4, 3) := by decide +kernel
theorem dX12_noHours_14 : decode cX12_noHours 14 = .ok (.iconst 0, 1) := by decide +kernel
theorem dX12_noHours_15 : decode cX12_noHours 15 = .ok (.ireturn, 1) := by decide +kernel
theorem dX12_levelOrWork_0 : decode cX12_levelOrWork 0 = .ok (.aload_n 0, 1) := by decide +kernel
theorem dX12_levelOrWork_1 : decode cX12_levelOrWork 1 = .ok (.invokevirtual 411, 3) := by decide +kernel
theorem dX12_levelOrWork_4 : decode cX12_levelOrWork 4 = .ok (.aload_n 0, 1) := by decide +kernel
theorem dX12_levelOrWork_5 : decode cX12_levelOrWork 5 = .ok (.iload_n 1, 1) := by decide +kernel
theorem dX12_levelOrWork_6 : decode cX12_levelOrWork 6 = .ok (.iload_n 3, 1) := by decide +kernel
theorem dX12_levelOrWork_7 : decode cX12_levelOrWork 7 = .ok (.invokevirtual 366, 3) := by decide +kernel
theorem dX12_levelOrWork_10 : decode cX12_levelOrWork 10 = .ok (.pop, 1) := by decide +kernel
theorem dX12_levelOrWork_11 : decode cX12_levelOrWork 11 = .ok (.iload_n 2, 1) := by decide +kernel
theorem dX12_levelOrWork_12 : decode cX12_levelOrWork 12 = .ok (.ifCond .eq 11, 3) := by decide +kernel
theorem dX12_levelOrWork_15 : decode cX12_levelOrWork 15 = .ok (.aload_n 0, 1) := by decide +kernel
theorem dX12_levelOrWork_16 : decode cX12_levelOrWork 16 = .ok (.iconst 1, 1) := by decide +kernel
theorem dX12_levelOrWork_17 : decode cX12_levelOrWork 17 = .ok (.invokevirtual 357, 3) := by decide +kernel
theorem dX12_levelOrWork_20 : decode cX12_levelOrWork 20 = .ok (.goto 9, 3) := by decide +kernel
theorem dX12_levelOrWork_23 : decode cX12_levelOrWork 23 = .ok (.aload_n 0, 1) := by decide +kernel
theorem dX12_levelOrWork_24 : decode cX12_levelOrWork 24 = .ok (.getfield 13, 3) := by decide +kernel
theorem dX12_levelOrWork_27 : decode cX12_levelOrWork 27 = .ok (.iconst 3, 1) := by decide +kernel
theorem dX12_levelOrWork_28 : decode cX12_levelOrWork 28 = .ok (.iaload, 1) := by decide +kernel
theorem dX12_levelOrWork_29 : decode cX12_levelOrWork 29 = .ok (.istore 4, 2) := by decide +kernel
theorem dX12_levelOrWork_31 : decode cX12_levelOrWork 31 = .ok (.aload_n 0, 1) := by decide +kernel
theorem dX12_levelOrWork_32 : decode cX12_levelOrWork 32 = .ok (.invokevirtual 417, 3) := by decide +kernel
theorem dX12_levelOrWork_35 : decode cX12_levelOrWork 35 = .ok (.iload 4, 2) := by decide +kernel
theorem dX12_levelOrWork_37 : decode cX12_levelOrWork 37 = .ok (.ireturn, 1) := by decide +kernel
theorem dX12_ahead_0 : decode cX12_ahead 0 = .ok (.aload_n 0, 1) := by decide +kernel
theorem dX12_ahead_1 : decode cX12_ahead 1 = .ok (.iconst 0, 1) := by decide +kernel
theorem dX12_ahead_2 : decode cX12_ahead 2 = .ok (.putfield 3, 3) := by decide +kernel
theorem dX12_ahead_5 : decode cX12_ahead 5 = .ok (.aload_n 0, 1) := by decide +kernel
theorem dX12_ahead_6 : decode cX12_ahead 6 = .ok (.iload_n 1, 1) := by decide +kernel
theorem dX12_ahead_7 : decode cX12_ahead 7 = .ok (.invokestatic 505, 3) := by decide +kernel
theorem dX12_ahead_10 : decode cX12_ahead 10 = .ok (.iconst 1, 1) := by decide +kernel
theorem dX12_ahead_11 : decode cX12_ahead 11 = .ok (.invokevirtual 282, 3) := by decide +kernel
theorem dX12_ahead_14 : decode cX12_ahead 14 = .ok (.ifCond .eq 7, 3) := by decide +kernel
theorem dX12_ahead_17 : decode cX12_ahead 17 = .ok (.iconst 0, 1) := by decide +kernel
theorem dX12_ahead_18 : decode cX12_ahead 18 = .ok (.goto 10, 3) := by decide +kernel
theorem dX12_ahead_21 : decode cX12_ahead 21 = .ok (.aload_n 0, 1) := by decide +kernel
theorem dX12_ahead_22 : decode cX12_ahead 22 = .ok (.iload_n 1, 1) := by decide +kernel
theorem dX12_ahead_23 : decode cX12_ahead 23 = .ok (.iload_n 2, 1) := by decide +kernel
theorem dX12_ahead_24 : decode cX12_ahead 24 = .ok (.iconst 1, 1) := by decide +kernel
theorem dX12_ahead_25 : decode cX12_ahead 25 = .ok (.invokevirtual 508, 3) := by decide +kernel
theorem dX12_ahead_28 : decode cX12_ahead 28 = .ok (.ireturn, 1) := by decide +kernel
theorem dX12_trial_0 : decode cX12_trial 0 = .ok (.aload_n 0, 1) := by decide +kernel
theorem dX12_trial_1 : decode cX12_trial 1 = .ok (.iconst 0, 1) := by decide +kernel
theorem dX12_trial_2 : decode cX12_trial 2 = .ok (.putfield 3, 3) := by decide +kernel
theorem dX12_trial_5 : decode cX12_trial 5 = .ok (.aload_n 0, 1) := by decide +kernel
theorem dX12_trial_6 : decode cX12_trial 6 = .ok (.iload_n 1, 1) := by decide +kernel
theorem dX12_trial_7 : decode cX12_trial 7 = .ok (.invokestatic 505, 3) := by decide +kernel
theorem dX12_trial_10 : decode cX12_trial 10 = .ok (.iconst 1, 1) := by decide +kernel
theorem dX12_trial_11 : decode cX12_trial 11 = .ok (.invokevirtual 282, 3) := by decide +kernel
theorem dX12_trial_14 : decode cX12_trial 14 = .ok (.ifCond .eq 7, 3) := by decide +kernel
theorem dX12_trial_17 : decode cX12_trial 17 = .ok (.iconst 0, 1) := by decide +kernel
theorem dX12_trial_18 : decode cX12_trial 18 = .ok (.goto 10, 3) := by decide +kernel
theorem dX12_trial_21 : decode cX12_trial 21 = .ok (.aload_n 0, 1) := by decide +kernel
theorem dX12_trial_22 : decode cX12_trial 22 = .ok (.iload_n 1, 1) := by decide +kernel
theorem dX12_trial_23 : decode cX12_trial 23 = .ok (.iload_n 2, 1) := by decide +kernel
theorem dX12_trial_24 : decode cX12_trial 24 = .ok (.iconst 0, 1) := by decide +kernel
theorem dX12_trial_25 : decode cX12_trial 25 = .ok (.invokevirtual 508, 3) := by decide +kernel
theorem dX12_trial_28 : decode cX12_trial 28 = .ok (.ireturn, 1) := by decide +kernel
theorem dX12_span_0 : decode cX12_span 0 = .ok (.aload_n 0, 1) := by decide +kernel
theorem dX12_span_1 : decode cX12_span 1 = .ok (.iconst 0, 1) := by decide +kernel
theorem dX12_span_2 : decode cX12_span 2 = .ok (.putfield 3, 3) := by decide +kernel
theorem dX12_span_5 : decode cX12_span 5 = .ok (.aload_n 0, 1) := by decide +kernel
theorem dX12_span_6 : decode cX12_span 6 = .ok (.iload_n 1, 1) := by decide +kernel
theorem dX12_span_7 : decode cX12_span 7 = .ok (.invokestatic 505, 3) := by decide +kernel
theorem dX12_span_10 : decode cX12_span 10 = .ok (.iconst 1, 1) := by decide +kernel
theorem dX12_span_11 : decode cX12_span 11 = .ok (.invokevirtual 282, 3) := by decide +kernel
theorem dX12_span_14 : decode cX12_span 14 = .ok (.ifCond .eq 5, 3) := by decide +kernel
theorem dX12_span_17 : decode cX12_span 17 = .ok (.iconst 0, 1) := by decide +kernel
theorem dX12_span_18 : decode cX12_span 18 = .ok (.ireturn, 1) := by decide +kernel
theorem dX12_span_19 : decode cX12_span 19 = .ok (.aload_n 0, 1) := by decide +kernel
theorem dX12_span_20 : decode cX12_span 20 = .ok (.invokevirtual 411, 3) := by decide +kernel
theorem dX12_span_23 : decode cX12_span 23 = .ok (.iconst (-1), 1) := by decide +kernel
theorem dX12_span_24 : decode cX12_span 24 = .ok (.istore_n 3, 1) := by decide +kernel
theorem dX12_span_25 : decode cX12_span 25 = .ok (.iconst 1, 1) := by decide +kernel
theorem dX12_span_26 : decode cX12_span 26 = .ok (.istore 4, 2) := by decide +kernel
theorem dX12_span_28 : decode cX12_span 28 = .ok (.iload 4, 2) := by decide +kernel
theorem dX12_span_30 : decode cX12_span 30 = .ok (.bipush 6, 2) := by decide +kernel
theorem dX12_span_32 : decode cX12_span 32 = .ok (.if_icmp .gt 66, 3) := by decide +kernel
theorem dX12_span_35 : decode cX12_span 35 = .ok (.aload_n 0, 1) := by decide +kernel
theorem dX12_span_36 : decode cX12_span 36 = .ok (.getfield 13, 3) := by decide +kernel
theorem dX12_span_39 : decode cX12_span 39 = .ok (.bipush 12, 2) := by decide +kernel
theorem dX12_span_41 : decode cX12_span 41 = .ok (.iload 4, 2) := by decide +kernel
theorem dX12_span_43 : decode cX12_span 43 = .ok (.iastore, 1) := by decide +kernel
theorem dX12_span_44 : decode cX12_span 44 = .ok (.aload_n 0, 1) := by decide +kernel
theorem dX12_span_45 : decode cX12_span 45 = .ok (.iload_n 1, 1) := by decide +kernel
theorem dX12_span_46 : decode cX12_span 46 = .ok (.iconst 0, 1) := by decide +kernel
theorem dX12_span_47 : decode cX12_span 47 = .ok (.invokevirtual 366, 3) := by decide +kernel
theorem dX12_span_50 : decode cX12_span 50 = .ok (.pop, 1) := by decide +kernel
theorem dX12_span_51 : decode cX12_span 51 = .ok (.aload_n 0, 1) := by decide +kernel
theorem dX12_span_52 : decode cX12_span 52 = .ok (.getfield 13, 3) := by decide +kernel
theorem dX12_span_55 : decode cX12_span 55 = .ok (.iconst 3, 1) := by decide +kernel
theorem dX12_span_56 : decode cX12_span 56 = .ok (.iaload, 1) := by decide +kernel
theorem dX12_span_57 : decode cX12_span 57 = .ok (.istore 5, 2) := by decide +kernel
theorem dX12_span_59 : decode cX12_span 59 = .ok (.aload_n 0, 1) := by decide +kernel
theorem dX12_span_60 : decode cX12_span 60 = .ok (.invokevirtual 417, 3) := by decide +kernel
theorem dX12_span_63 : decode cX12_span 63 = .ok (.iload_n 3, 1) := by decide +kernel
theorem dX12_span_64 : decode cX12_span 64 = .ok (.ifCond .ge 8, 3) := by decide +kernel
theorem dX12_span_67 : decode cX12_span 67 = .ok (.iload 5, 2) := by decide +kernel
theorem dX12_span_69 : decode cX12_span 69 = .ok (.goto 22, 3) := by decide +kernel
theorem dX12_span_72 : decode cX12_span 72 = .ok (.iload_n 2, 1) := by decide +kernel
theorem dX12_span_73 : decode cX12_span 73 = .ok (.ifCond .eq 12, 3) := by decide +kernel
theorem dX12_span_76 : decode cX12_span 76 = .ok (.iload_n 3, 1) := by decide +kernel
theorem dX12_span_77 : decode cX12_span 77 = .ok (.iload 5, 2) := by decide +kernel
theorem dX12_span_79 : decode cX12_span 79 = .ok (.invokestatic 333, 3) := by decide +kernel
theorem dX12_span_82 : decode cX12_span 82 = .ok (.goto 9, 3) := by decide +kernel
theorem dX12_span_85 : decode cX12_span 85 = .ok (.iload_n 3, 1) := by decide +kernel
theorem dX12_span_86 : decode cX12_span 86 = .ok (.iload 5, 2) := by decide +kernel
theorem dX12_span_88 : decode cX12_span 88 = .ok (.invokestatic 312, 3) := by decide +kernel
theorem dX12_span_91 : decode cX12_span 91 = .ok (.istore_n 3, 1) := by decide +kernel
theorem dX12_span_92 : decode cX12_span 92 = .ok (.iinc 4 1, 3) := by decide +kernel
theorem dX12_span_95 : decode cX12_span 95 = .ok (.goto (-67), 3) := by decide +kernel
theorem dX12_span_98 : decode cX12_span 98 = .ok (.iload_n 3, 1) := by decide +kernel
theorem dX12_span_99 : decode cX12_span 99 = .ok (.ireturn, 1) := by decide +kernel
theorem dX12_ofLog_0 : decode cX12_ofLog 0 = .ok (.aload_n 0, 1) := by decide +kernel
theorem dX12_ofLog_1 : decode cX12_ofLog 1 = .ok (.getfield 13, 3) := by decide +kernel
theorem dX12_ofLog_4 : decode cX12_ofLog 4 = .ok (.bipush 73, 2) := by decide +kernel
theorem dX12_ofLog_6 : decode cX12_ofLog 6 = .ok (.iconst 5, 1) := by decide +kernel
theorem dX12_ofLog_7 : decode cX12_ofLog 7 = .ok (.iload_n 1, 1) := by decide +kernel
theorem dX12_ofLog_8 : decode cX12_ofLog 8 = .ok (.imul, 1) := by decide +kernel
theorem dX12_ofLog_9 : decode cX12_ofLog 9 = .ok (.iadd, 1) := by decide +kernel
theorem dX12_ofLog_10 : decode cX12_ofLog 10 = .ok (.iload_n 2, 1) := by decide +kernel
theorem dX12_ofLog_11 : decode cX12_ofLog 11 = .ok (.iadd, 1) := by decide +kernel
theorem dX12_ofLog_12 : decode cX12_ofLog 12 = .ok (.iaload, 1) := by decide +kernel
theorem dX12_ofLog_13 : decode cX12_ofLog 13 = .ok (.ireturn, 1) := by decide +kernel
theorem dX12_led_0 : decode cX12_led 0 = .ok (.aload_n 0, 1) := by decide +kernel
theorem dX12_led_1 : decode cX12_led 1 = .ok (.iconst 0, 1) := by decide +kernel
theorem dX12_led_2 : decode cX12_led 2 = .ok (.putfield 3, 3) := by decide +kernel
theorem dX12_led_5 : decode cX12_led 5 = .ok (.aload_n 0, 1) := by decide +kernel
theorem dX12_led_6 : decode cX12_led 6 = .ok (.aload_n 0, 1) := by decide +kernel
theorem dX12_led_7 : decode cX12_led 7 = .ok (.iload_n 1, 1) := by decide +kernel
theorem dX12_led_8 : decode cX12_led 8 = .ok (.invokevirtual 345, 3) := by decide +kernel
theorem dX12_led_11 : decode cX12_led 11 = .ok (.iconst 1, 1) := by decide +kernel
theorem dX12_led_12 : decode cX12_led 12 = .ok (.invokevirtual 282, 3) := by decide +kernel
theorem dX12_led_15 : decode cX12_led 15 = .ok (.ifCond .eq 5, 3) := by decide +kernel
theorem dX12_led_18 : decode cX12_led 18 = .ok (.iconst 0, 1) := by decide +kernel
theorem dX12_led_19 : decode cX12_led 19 = .ok (.ireturn, 1) := by decide +kernel
theorem dX12_led_20 : decode cX12_led 20 = .ok (.iconst 0, 1) := by decide +kernel
theorem dX12_led_21 : decode cX12_led 21 = .ok (.istore_n 3, 1) := by decide +kernel
theorem dX12_led_22 : decode cX12_led 22 = .ok (.iconst (-1), 1) := by decide +kernel
theorem dX12_led_23 : decode cX12_led 23 = .ok (.istore 4, 2) := by decide +kernel
theorem dX12_led_25 : decode cX12_led 25 = .ok (.aload_n 0, 1) := by decide +kernel
theorem dX12_led_26 : decode cX12_led 26 = .ok (.getfield 13, 3) := by decide +kernel
theorem dX12_led_29 : decode cX12_led 29 = .ok (.bipush 11, 2) := by decide +kernel
theorem dX12_led_31 : decode cX12_led 31 = .ok (.iaload, 1) := by decide +kernel
theorem dX12_led_32 : decode cX12_led 32 = .ok (.iconst 1, 1) := by decide +kernel
theorem dX12_led_33 : decode cX12_led 33 = .ok (.isub, 1) := by decide +kernel
theorem dX12_led_34 : decode cX12_led 34 = .ok (.istore 5, 2) := by decide +kernel
theorem dX12_led_36 : decode cX12_led 36 = .ok (.iload 5, 2) := by decide +kernel
theorem dX12_led_38 : decode cX12_led 38 = .ok (.ifCond .lt 35, 3) := by decide +kernel
theorem dX12_led_41 : decode cX12_led 41 = .ok (.aload_n 0, 1) := by decide +kernel
theorem dX12_led_42 : decode cX12_led 42 = .ok (.iload 5, 2) := by decide +kernel
theorem dX12_led_44 : decode cX12_led 44 = .ok (.iconst 1, 1) := by decide +kernel
theorem dX12_led_45 : decode cX12_led 45 = .ok (.invokevirtual 512, 3) := by decide +kernel
theorem dX12_led_48 : decode cX12_led 48 = .ok (.iload_n 1, 1) := by decide +kernel
theorem dX12_led_49 : decode cX12_led 49 = .ok (.if_icmp .eq 6, 3) := by decide +kernel
theorem dX12_led_52 : decode cX12_led 52 = .ok (.goto 15, 3) := by decide +kernel
theorem dX12_led_55 : decode cX12_led 55 = .ok (.iinc 3 1, 3) := by decide +kernel
theorem dX12_led_58 : decode cX12_led 58 = .ok (.aload_n 0, 1) := by decide +kernel
theorem dX12_led_59 : decode cX12_led 59 = .ok (.iload 5, 2) := by decide +kernel
theorem dX12_led_61 : decode cX12_led 61 = .ok (.iconst 0, 1) := by decide +kernel
theorem dX12_led_62 : decode cX12_led 62 = .ok (.invokevirtual 512, 3) := by decide +kernel
theorem dX12_led_65 : decode cX12_led 65 = .ok (.istore 4, 2) := by decide +kernel
theorem dX12_led_67 : decode cX12_led 67 = .ok (.iinc 5 (-1), 3) := by decide +kernel
theorem dX12_led_70 : decode cX12_led 70 = .ok (.goto (-34), 3) := by decide +kernel
theorem dX12_led_73 : decode cX12_led 73 = .ok (.iload_n 2, 1) := by decide +kernel
theorem dX12_led_74 : decode cX12_led 74 = .ok (.ifCond .eq 8, 3) := by decide +kernel
theorem dX12_led_77 : decode cX12_led 77 = .ok (.iload 4, 2) := by decide +kernel
theorem dX12_led_79 : decode cX12_led 79 = .ok (.goto 4, 3) := by decide +kernel
theorem dX12_led_82 : decode cX12_led 82 = .ok (.iload_n 3, 1) := by decide +kernel
theorem dX12_led_83 : decode cX12_led 83 = .ok (.ireturn, 1) := by decide +kernel
theorem dX12_log_0 : decode cX12_log 0 = .ok (.aload_n 0, 1) := by decide +kernel
theorem dX12_log_1 : decode cX12_log 1 = .ok (.iconst 0, 1) := by decide +kernel
theorem dX12_log_2 : decode cX12_log 2 = .ok (.putfield 3, 3) := by decide +kernel
theorem dX12_log_5 : decode cX12_log 5 = .ok (.aload_n 0, 1) := by decide +kernel
theorem dX12_log_6 : decode cX12_log 6 = .ok (.iload_n 2, 1) := by decide +kernel
theorem dX12_log_7 : decode cX12_log 7 = .ok (.iconst 0, 1) := by decide +kernel
theorem dX12_log_8 : decode cX12_log 8 = .ok (.iconst 4, 1) := by decide +kernel
theorem dX12_log_9 : decode cX12_log 9 = .ok (.invokestatic 103, 3) := by decide +kernel
theorem dX12_log_12 : decode cX12_log 12 = .ok (.ifCond .ne 7, 3) := by decide +kernel
theorem dX12_log_15 : decode cX12_log 15 = .ok (.iconst 1, 1) := by decide +kernel
theorem dX12_log_16 : decode cX12_log 16 = .ok (.goto 4, 3) := by decide +kernel
theorem dX12_log_19 : decode cX12_log 19 = .ok (.iconst 0, 1) := by decide +kernel
theorem dX12_log_20 : decode cX12_log 20 = .ok (.iconst 1, 1) := by decide +kernel
theorem dX12_log_21 : decode cX12_log 21 = .ok (.invokevirtual 282, 3) := by decide +kernel
theorem dX12_log_24 : decode cX12_log 24 = .ok (.ifCond .eq 5, 3) := by decide +kernel
theorem dX12_log_27 : decode cX12_log 27 = .ok (.iconst 0, 1) := by decide +kernel
theorem dX12_log_28 : decode cX12_log 28 = .ok (.ireturn, 1) := by decide +kernel
theorem dX12_log_29 : decode cX12_log 29 = .ok (.iload_n 1, 1) := by decide +kernel
theorem dX12_log_30 : decode cX12_log 30 = .ok (.iconst 0, 1) := by decide +kernel
theorem dX12_log_31 : decode cX12_log 31 = .ok (.aload_n 0, 1) := by decide +kernel
theorem dX12_log_32 : decode cX12_log 32 = .ok (.getfield 13, 3) := by decide +kernel
theorem dX12_log_35 : decode cX12_log 35 = .ok (.bipush 11, 2) := by decide +kernel
theorem dX12_log_37 : decode cX12_log 37 = .ok (.iaload, 1) := by decide +kernel
theorem dX12_log_38 : decode cX12_log 38 = .ok (.iconst 1, 1) := by decide +kernel
theorem dX12_log_39 : decode cX12_log 39 = .ok (.isub, 1) := by decide +kernel
theorem dX12_log_40 : decode cX12_log 40 = .ok (.invokestatic 103, 3) := by decide +kernel
theorem dX12_log_43 : decode cX12_log 43 = .ok (.ifCond .eq 12, 3) := by decide +kernel
theorem dX12_log_46 : decode cX12_log 46 = .ok (.aload_n 0, 1) := by decide +kernel
theorem dX12_log_47 : decode cX12_log 47 = .ok (.iload_n 1, 1) := by decide +kernel
theorem dX12_log_48 : decode cX12_log 48 = .ok (.iload_n 2, 1) := by decide +kernel
theorem dX12_log_49 : decode cX12_log 49 = .ok (.invokevirtual 512, 3) := by decide +kernel
theorem dX12_log_52 : decode cX12_log 52 = .ok (.goto 4, 3) := by decide +kernel
theorem dX12_log_55 : decode cX12_log 55 = .ok (.iconst (-1), 1) := by decide +kernel
theorem dX12_log_56 : decode cX12_log 56 = .ok (.ireturn, 1) := by decide +kernel
theorem dX12_seed_0 : decode cX12_seed 0 = .ok (.aload_n 0, 1) := by decide +kernel
theorem dX12_seed_1 : decode cX12_seed 1 = .ok (.iconst 0, 1) := by decide +kernel
theorem dX12_seed_2 : decode cX12_seed 2 = .ok (.putfield 3, 3) := by decide +kernel
theorem dX12_seed_5 : decode cX12_seed 5 = .ok (.aload_n 0, 1) := by decide +kernel
theorem dX12_seed_6 : decode cX12_seed 6 = .ok (.getfield 13, 3) := by decide +kernel
theorem dX12_seed_9 : decode cX12_seed 9 = .ok (.bipush 12, 2) := by decide +kernel
theorem dX12_seed_11 : decode cX12_seed 11 = .ok (.iaload, 1) := by decide +kernel
theorem dX12_seed_12 : decode cX12_seed 12 = .ok (.istore_n 2, 1) := by decide +kernel
theorem dX12_seed_13 : decode cX12_seed 13 = .ok (.aload_n 0, 1) := by decide +kernel
theorem dX12_seed_14 : decode cX12_seed 14 = .ok (.getfield 13, 3) := by decide +kernel
theorem dX12_seed_17 : decode cX12_seed 17 = .ok (.bipush 12, 2) := by decide +kernel
theorem dX12_seed_19 : decode cX12_seed 19 = .ok (.iload_n 1, 1) := by decide +kernel
theorem dX12_seed_20 : decode cX12_seed 20 = .ok (.iastore, 1) := by decide +kernel
theorem dX12_seed_21 : decode cX12_seed 21 = .ok (.iload_n 2, 1) := by decide +kernel
theorem dX12_seed_22 : decode cX12_seed 22 = .ok (.ireturn, 1) := by decide +kernel
theorem dX12_count_0 : decode cX12_count 0 = .ok (.aload_n 0, 1) := by decide +kernel
theorem dX12_count_1 : decode cX12_count 1 = .ok (.iconst 0, 1) := by decide +kernel
theorem dX12_count_2 : decode cX12_count 2 = .ok (.putfield 3, 3) := by decide +kernel
theorem dX12_count_5 : decode cX12_count 5 = .ok (.iload_n 1, 1) := by decide +kernel
theorem dX12_count_6 : decode cX12_count 6 = .ok (.tableswitch 124 2 14 #[66, 124, 124, 124, 124, 124, 124, 124, 89, 100, 105, 111, 119], 66) := by decide +kernel
theorem dX12_count_72 : decode cX12_count 72 = .ok (.aload_n 0, 1) := by decide +kernel
theorem dX12_count_73 : decode cX12_count 73 = .ok (.getfield 13, 3) := by decide +kernel
theorem dX12_count_76 : decode cX12_count 76 = .ok (.iconst 2, 1) := by decide +kernel
theorem dX12_count_77 : decode cX12_count 77 = .ok (.iaload, 1) := by decide +kernel
theorem dX12_count_78 : decode cX12_count 78 = .ok (.iconst 1, 1) := by decide +kernel
theorem dX12_count_79 : decode cX12_count 79 = .ok (.if_icmp .ne 14, 3) := by decide +kernel
theorem dX12_count_82 : decode cX12_count 82 = .ok (.aload_n 0, 1) := by decide +kernel
theorem dX12_count_83 : decode cX12_count 83 = .ok (.getfield 13, 3) := by decide +kernel
theorem dX12_count_86 : decode cX12_count 86 = .ok (.sipush 373, 3) := by decide +kernel
theorem dX12_count_89 : decode cX12_count 89 = .ok (.iaload, 1) := by decide +kernel
theorem dX12_count_90 : decode cX12_count 90 = .ok (.goto 4, 3) := by decide +kernel
theorem dX12_count_93 : decode cX12_count 93 = .ok (.iconst (-1), 1) := by decide +kernel
theorem dX12_count_94 : decode cX12_count 94 = .ok (.ireturn, 1) := by decide +kernel
theorem dX12_count_95 : decode cX12_count 95 = .ok (.aload_n 0, 1) := by decide +kernel
theorem dX12_count_96 : decode cX12_count 96 = .ok (.getfield 13, 3) := by decide +kernel
theorem dX12_count_99 : decode cX12_count 99 = .ok (.bipush 10, 2) := by decide +kernel
theorem dX12_count_101 : decode cX12_count 101 = .ok (.iaload, 1) := by decide +kernel
theorem dX12_count_102 : decode cX12_count 102 = .ok (.invokestatic 376, 3) := by decide +kernel
theorem dX12_count_105 : decode cX12_count 105 = .ok (.ireturn, 1) := by decide +kernel
theorem dX12_count_106 : decode cX12_count 106 = .ok (.aload_n 0, 1) := by decide +kernel
theorem dX12_count_107 : decode cX12_count 107 = .ok (.invokevirtual 384, 3) := by decide +kernel
theorem dX12_count_110 : decode cX12_count 110 = .ok (.ireturn, 1) := by decide +kernel
theorem dX12_count_111 : decode cX12_count 111 = .ok (.aload_n 0, 1) := by decide +kernel
theorem dX12_count_112 : decode cX12_count 112 = .ok (.iconst 1, 1) := by decide +kernel
theorem dX12_count_113 : decode cX12_count 113 = .ok (.invokevirtual 357, 3) := by decide +kernel
theorem dX12_count_116 : decode cX12_count 116 = .ok (.ireturn, 1) := by decide +kernel
theorem dX12_count_117 : decode cX12_count 117 = .ok (.aload_n 0, 1) := by decide +kernel
theorem dX12_count_118 : decode cX12_count 118 = .ok (.getfield 13, 3) := by decide +kernel
theorem dX12_count_121 : decode cX12_count 121 = .ok (.bipush 11, 2) := by decide +kernel
theorem dX12_count_123 : decode cX12_count 123 = .ok (.iaload, 1) := by decide +kernel
theorem dX12_count_124 : decode cX12_count 124 = .ok (.ireturn, 1) := by decide +kernel
theorem dX12_count_125 : decode cX12_count 125 = .ok (.aload_n 0, 1) := by decide +kernel
theorem dX12_count_126 : decode cX12_count 126 = .ok (.getfield 78, 3) := by decide +kernel
theorem dX12_count_129 : decode cX12_count 129 = .ok (.ireturn, 1) := by decide +kernel
theorem dX12_count_130 : decode cX12_count 130 = .ok (.iload_n 1, 1) := by decide +kernel
theorem dX12_count_131 : decode cX12_count 131 = .ok (.iconst 0, 1) := by decide +kernel
theorem dX12_count_132 : decode cX12_count 132 = .ok (.bipush 9, 2) := by decide +kernel
theorem dX12_count_134 : decode cX12_count 134 = .ok (.invokestatic 103, 3) := by decide +kernel
theorem dX12_count_137 : decode cX12_count 137 = .ok (.ifCond .eq 12, 3) := by decide +kernel
theorem dX12_count_140 : decode cX12_count 140 = .ok (.aload_n 0, 1) := by decide +kernel
theorem dX12_count_141 : decode cX12_count 141 = .ok (.getfield 13, 3) := by decide +kernel
theorem dX12_count_144 : decode cX12_count 144 = .ok (.iload_n 1, 1) := by decide +kernel
theorem dX12_count_145 : decode cX12_count 145 = .ok (.iaload, 1) := by decide +kernel
theorem dX12_count_146 : decode cX12_count 146 = .ok (.goto 4, 3) := by decide +kernel
theorem dX12_count_149 : decode cX12_count 149 = .ok (.iconst (-1), 1) := by decide +kernel
theorem dX12_count_150 : decode cX12_count 150 = .ok (.ireturn, 1) := by decide +kernel
