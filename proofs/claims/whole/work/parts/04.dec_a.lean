theorem dX0_init_0 : decode cX0_init 0 = .ok (.aload_n 0, 1) := by decide +kernel
theorem dX0_init_1 : decode cX0_init 1 = .ok (.invokespecial 3, 3) := by decide +kernel
theorem dX0_init_4 : decode cX0_init 4 = .ok (.aload_n 0, 1) := by decide +kernel
theorem dX0_init_5 : decode cX0_init 5 = .ok (.bipush 20, 2) := by decide +kernel
theorem dX0_init_7 : decode cX0_init 7 = .ok (.newarray .int, 2) := by decide +kernel
theorem dX0_init_9 : decode cX0_init 9 = .ok (.putfield 9, 3) := by decide +kernel
theorem dX0_init_12 : decode cX0_init 12 = .ok (.aload_n 0, 1) := by decide +kernel
theorem dX0_init_13 : decode cX0_init 13 = .ok (.bipush 20, 2) := by decide +kernel
theorem dX0_init_15 : decode cX0_init 15 = .ok (.newarray .int, 2) := by decide +kernel
theorem dX0_init_17 : decode cX0_init 17 = .ok (.putfield 15, 3) := by decide +kernel
theorem dX0_init_20 : decode cX0_init 20 = .ok (.aload_n 0, 1) := by decide +kernel
theorem dX0_init_21 : decode cX0_init 21 = .ok (.bipush 7, 2) := by decide +kernel
theorem dX0_init_23 : decode cX0_init 23 = .ok (.newarray .int, 2) := by decide +kernel
theorem dX0_init_25 : decode cX0_init 25 = .ok (.putfield 18, 3) := by decide +kernel
theorem dX0_init_28 : decode cX0_init 28 = .ok (.aload_n 0, 1) := by decide +kernel
theorem dX0_init_29 : decode cX0_init 29 = .ok (.sipush 372, 3) := by decide +kernel
theorem dX0_init_32 : decode cX0_init 32 = .ok (.newarray .int, 2) := by decide +kernel
theorem dX0_init_34 : decode cX0_init 34 = .ok (.putfield 21, 3) := by decide +kernel
theorem dX0_init_37 : decode cX0_init 37 = .ok (.return_, 1) := by decide +kernel
theorem dX0_read_0 : decode cX0_read 0 = .ok (.aload_n 0, 1) := by decide +kernel
theorem dX0_read_1 : decode cX0_read 1 = .ok (.iconst 0, 1) := by decide +kernel
theorem dX0_read_2 : decode cX0_read 2 = .ok (.putfield 24, 3) := by decide +kernel
theorem dX0_read_5 : decode cX0_read 5 = .ok (.aload_n 1, 1) := by decide +kernel
theorem dX0_read_6 : decode cX0_read 6 = .ok (.getfield 28, 3) := by decide +kernel
theorem dX0_read_9 : decode cX0_read 9 = .ok (.bipush 40, 2) := by decide +kernel
theorem dX0_read_11 : decode cX0_read 11 = .ok (.if_icmp .gt 12, 3) := by decide +kernel
theorem dX0_read_14 : decode cX0_read 14 = .ok (.aload_n 1, 1) := by decide +kernel
theorem dX0_read_15 : decode cX0_read 15 = .ok (.getfield 28, 3) := by decide +kernel
theorem dX0_read_18 : decode cX0_read 18 = .ok (.iconst 2, 1) := by decide +kernel
theorem dX0_read_19 : decode cX0_read 19 = .ok (.irem, 1) := by decide +kernel
theorem dX0_read_20 : decode cX0_read 20 = .ok (.ifCond .eq 5, 3) := by decide +kernel
theorem dX0_read_23 : decode cX0_read 23 = .ok (.iconst 0, 1) := by decide +kernel
theorem dX0_read_24 : decode cX0_read 24 = .ok (.ireturn, 1) := by decide +kernel
theorem dX0_read_25 : decode cX0_read 25 = .ok (.iconst 0, 1) := by decide +kernel
theorem dX0_read_26 : decode cX0_read 26 = .ok (.istore_n 2, 1) := by decide +kernel
theorem dX0_read_27 : decode cX0_read 27 = .ok (.iload_n 2, 1) := by decide +kernel
theorem dX0_read_28 : decode cX0_read 28 = .ok (.aload_n 1, 1) := by decide +kernel
theorem dX0_read_29 : decode cX0_read 29 = .ok (.getfield 28, 3) := by decide +kernel
theorem dX0_read_32 : decode cX0_read 32 = .ok (.if_icmp .ge 73, 3) := by decide +kernel
theorem dX0_read_35 : decode cX0_read 35 = .ok (.aload_n 1, 1) := by decide +kernel
theorem dX0_read_36 : decode cX0_read 36 = .ok (.iload_n 2, 1) := by decide +kernel
theorem dX0_read_37 : decode cX0_read 37 = .ok (.invokevirtual 33, 3) := by decide +kernel
theorem dX0_read_40 : decode cX0_read 40 = .ok (.istore_n 3, 1) := by decide +kernel
theorem dX0_read_41 : decode cX0_read 41 = .ok (.aload_n 1, 1) := by decide +kernel
theorem dX0_read_42 : decode cX0_read 42 = .ok (.iload_n 2, 1) := by decide +kernel
theorem dX0_read_43 : decode cX0_read 43 = .ok (.iconst 1, 1) := by decide +kernel
theorem dX0_read_44 : decode cX0_read 44 = .ok (.iadd, 1) := by decide +kernel
theorem dX0_read_45 : decode cX0_read 45 = .ok (.invokevirtual 33, 3) := by decide +kernel
theorem dX0_read_48 : decode cX0_read 48 = .ok (.istore 4, 2) := by decide +kernel
theorem dX0_read_50 : decode cX0_read 50 = .ok (.iload_n 3, 1) := by decide +kernel
theorem dX0_read_51 : decode cX0_read 51 = .ok (.bipush 99, 2) := by decide +kernel
theorem dX0_read_53 : decode cX0_read 53 = .ok (.if_icmp .gt 10, 3) := by decide +kernel
theorem dX0_read_56 : decode cX0_read 56 = .ok (.iload 4, 2) := by decide +kernel
theorem dX0_read_58 : decode cX0_read 58 = .ok (.bipush 30, 2) := by decide +kernel
theorem dX0_read_60 : decode cX0_read 60 = .ok (.if_icmp .le 5, 3) := by decide +kernel
theorem dX0_read_63 : decode cX0_read 63 = .ok (.iconst 0, 1) := by decide +kernel
theorem dX0_read_64 : decode cX0_read 64 = .ok (.ireturn, 1) := by decide +kernel
theorem dX0_read_65 : decode cX0_read 65 = .ok (.aload_n 0, 1) := by decide +kernel
theorem dX0_read_66 : decode cX0_read 66 = .ok (.getfield 9, 3) := by decide +kernel
theorem dX0_read_69 : decode cX0_read 69 = .ok (.aload_n 0, 1) := by decide +kernel
theorem dX0_read_70 : decode cX0_read 70 = .ok (.getfield 24, 3) := by decide +kernel
theorem dX0_read_73 : decode cX0_read 73 = .ok (.iload_n 3, 1) := by decide +kernel
theorem dX0_read_74 : decode cX0_read 74 = .ok (.bipush 12, 2) := by decide +kernel
theorem dX0_read_76 : decode cX0_read 76 = .ok (.irem, 1) := by decide +kernel
theorem dX0_read_77 : decode cX0_read 77 = .ok (.iastore, 1) := by decide +kernel
theorem dX0_read_78 : decode cX0_read 78 = .ok (.aload_n 0, 1) := by decide +kernel
theorem dX0_read_79 : decode cX0_read 79 = .ok (.getfield 15, 3) := by decide +kernel
theorem dX0_read_82 : decode cX0_read 82 = .ok (.aload_n 0, 1) := by decide +kernel
theorem dX0_read_83 : decode cX0_read 83 = .ok (.getfield 24, 3) := by decide +kernel
theorem dX0_read_86 : decode cX0_read 86 = .ok (.iload 4, 2) := by decide +kernel
theorem dX0_read_88 : decode cX0_read 88 = .ok (.iastore, 1) := by decide +kernel
theorem dX0_read_89 : decode cX0_read 89 = .ok (.aload_n 0, 1) := by decide +kernel
theorem dX0_read_90 : decode cX0_read 90 = .ok (.dup, 1) := by decide +kernel
theorem dX0_read_91 : decode cX0_read 91 = .ok (.getfield 24, 3) := by decide +kernel
theorem dX0_read_94 : decode cX0_read 94 = .ok (.iconst 1, 1) := by decide +kernel
theorem dX0_read_95 : decode cX0_read 95 = .ok (.iadd, 1) := by decide +kernel
theorem dX0_read_96 : decode cX0_read 96 = .ok (.putfield 24, 3) := by decide +kernel
theorem dX0_read_99 : decode cX0_read 99 = .ok (.iinc 2 2, 3) := by decide +kernel
theorem dX0_read_102 : decode cX0_read 102 = .ok (.goto (-75), 3) := by decide +kernel
theorem dX0_read_105 : decode cX0_read 105 = .ok (.iconst 1, 1) := by decide +kernel
theorem dX0_read_106 : decode cX0_read 106 = .ok (.ireturn, 1) := by decide +kernel
theorem dX0_search_0 : decode cX0_search 0 = .ok (.aload_n 0, 1) := by decide +kernel
theorem dX0_search_1 : decode cX0_search 1 = .ok (.iconst 0, 1) := by decide +kernel
theorem dX0_search_2 : decode cX0_search 2 = .ok (.putfield 37, 3) := by decide +kernel
theorem dX0_search_5 : decode cX0_search 5 = .ok (.aload_n 0, 1) := by decide +kernel
theorem dX0_search_6 : decode cX0_search 6 = .ok (.iconst (-1), 1) := by decide +kernel
theorem dX0_search_7 : decode cX0_search 7 = .ok (.putfield 40, 3) := by decide +kernel
theorem dX0_search_10 : decode cX0_search 10 = .ok (.iconst 0, 1) := by decide +kernel
theorem dX0_search_11 : decode cX0_search 11 = .ok (.istore_n 2, 1) := by decide +kernel
theorem dX0_search_12 : decode cX0_search 12 = .ok (.iload_n 2, 1) := by decide +kernel
theorem dX0_search_13 : decode cX0_search 13 = .ok (.sipush 372, 3) := by decide +kernel
theorem dX0_search_16 : decode cX0_search 16 = .ok (.if_icmp .ge 16, 3) := by decide +kernel
theorem dX0_search_19 : decode cX0_search 19 = .ok (.aload_n 0, 1) := by decide +kernel
theorem dX0_search_20 : decode cX0_search 20 = .ok (.getfield 21, 3) := by decide +kernel
theorem dX0_search_23 : decode cX0_search 23 = .ok (.iload_n 2, 1) := by decide +kernel
theorem dX0_search_24 : decode cX0_search 24 = .ok (.iconst 0, 1) := by decide +kernel
theorem dX0_search_25 : decode cX0_search 25 = .ok (.iastore, 1) := by decide +kernel
theorem dX0_search_26 : decode cX0_search 26 = .ok (.iinc 2 1, 3) := by decide +kernel
theorem dX0_search_29 : decode cX0_search 29 = .ok (.goto (-17), 3) := by decide +kernel
theorem dX0_search_32 : decode cX0_search 32 = .ok (.iconst 0, 1) := by decide +kernel
theorem dX0_search_33 : decode cX0_search 33 = .ok (.istore_n 2, 1) := by decide +kernel
theorem dX0_search_34 : decode cX0_search 34 = .ok (.iload_n 2, 1) := by decide +kernel
theorem dX0_search_35 : decode cX0_search 35 = .ok (.bipush 30, 2) := by decide +kernel
theorem dX0_search_37 : decode cX0_search 37 = .ok (.if_icmp .gt 30, 3) := by decide +kernel
theorem dX0_search_40 : decode cX0_search 40 = .ok (.iload_n 2, 1) := by decide +kernel
theorem dX0_search_41 : decode cX0_search 41 = .ok (.istore_n 3, 1) := by decide +kernel
theorem dX0_search_42 : decode cX0_search 42 = .ok (.iload_n 3, 1) := by decide +kernel
theorem dX0_search_43 : decode cX0_search 43 = .ok (.bipush 30, 2) := by decide +kernel
theorem dX0_search_45 : decode cX0_search 45 = .ok (.if_icmp .gt 16, 3) := by decide +kernel
theorem dX0_search_48 : decode cX0_search 48 = .ok (.aload_n 0, 1) := by decide +kernel
theorem dX0_search_49 : decode cX0_search 49 = .ok (.iload_n 2, 1) := by decide +kernel
theorem dX0_search_50 : decode cX0_search 50 = .ok (.iload_n 3, 1) := by decide +kernel
theorem dX0_search_51 : decode cX0_search 51 = .ok (.iload_n 1, 1) := by decide +kernel
theorem dX0_search_52 : decode cX0_search 52 = .ok (.invokevirtual 43, 3) := by decide +kernel
theorem dX0_search_55 : decode cX0_search 55 = .ok (.iinc 3 1, 3) := by decide +kernel
theorem dX0_search_58 : decode cX0_search 58 = .ok (.goto (-16), 3) := by decide +kernel
theorem dX0_search_61 : decode cX0_search 61 = .ok (.iinc 2 1, 3) := by decide +kernel
theorem dX0_search_64 : decode cX0_search 64 = .ok (.goto (-30), 3) := by decide +kernel
theorem dX0_search_67 : decode cX0_search 67 = .ok (.return_, 1) := by decide +kernel
theorem dX0_searchLate_0 : decode cX0_searchLate 0 = .ok (.iconst 0, 1) := by decide +kernel
theorem dX0_searchLate_1 : decode cX0_searchLate 1 = .ok (.istore 4, 2) := by decide +kernel
theorem dX0_searchLate_3 : decode cX0_searchLate 3 = .ok (.iload 4, 2) := by decide +kernel
theorem dX0_searchLate_5 : decode cX0_searchLate 5 = .ok (.bipush 6, 2) := by decide +kernel
theorem dX0_searchLate_7 : decode cX0_searchLate 7 = .ok (.if_icmp .gt 27, 3) := by decide +kernel
theorem dX0_searchLate_10 : decode cX0_searchLate 10 = .ok (.aload_n 0, 1) := by decide +kernel
theorem dX0_searchLate_11 : decode cX0_searchLate 11 = .ok (.getfield 18, 3) := by decide +kernel
theorem dX0_searchLate_14 : decode cX0_searchLate 14 = .ok (.iload 4, 2) := by decide +kernel
theorem dX0_searchLate_16 : decode cX0_searchLate 16 = .ok (.iload_n 1, 1) := by decide +kernel
theorem dX0_searchLate_17 : decode cX0_searchLate 17 = .ok (.iload_n 2, 1) := by decide +kernel
theorem dX0_searchLate_18 : decode cX0_searchLate 18 = .ok (.iload_n 1, 1) := by decide +kernel
theorem dX0_searchLate_19 : decode cX0_searchLate 19 = .ok (.isub, 1) := by decide +kernel
theorem dX0_searchLate_20 : decode cX0_searchLate 20 = .ok (.iload 4, 2) := by decide +kernel
theorem dX0_searchLate_22 : decode cX0_searchLate 22 = .ok (.imul, 1) := by decide +kernel
theorem dX0_searchLate_23 : decode cX0_searchLate 23 = .ok (.bipush 6, 2) := by decide +kernel
theorem dX0_searchLate_25 : decode cX0_searchLate 25 = .ok (.idiv, 1) := by decide +kernel
theorem dX0_searchLate_26 : decode cX0_searchLate 26 = .ok (.iadd, 1) := by decide +kernel
theorem dX0_searchLate_27 : decode cX0_searchLate 27 = .ok (.iastore, 1) := by decide +kernel
theorem dX0_searchLate_28 : decode cX0_searchLate 28 = .ok (.iinc 4 1, 3) := by decide +kernel
theorem dX0_searchLate_31 : decode cX0_searchLate 31 = .ok (.goto (-28), 3) := by decide +kernel
theorem dX0_searchLate_34 : decode cX0_searchLate 34 = .ok (.iconst 0, 1) := by decide +kernel
theorem dX0_searchLate_35 : decode cX0_searchLate 35 = .ok (.istore 4, 2) := by decide +kernel
theorem dX0_searchLate_37 : decode cX0_searchLate 37 = .ok (.iload 4, 2) := by decide +kernel
theorem dX0_searchLate_39 : decode cX0_searchLate 39 = .ok (.bipush 12, 2) := by decide +kernel
theorem dX0_searchLate_41 : decode cX0_searchLate 41 = .ok (.if_icmp .ge 62, 3) := by decide +kernel
theorem dX0_searchLate_44 : decode cX0_searchLate 44 = .ok (.aload_n 0, 1) := by decide +kernel
theorem dX0_searchLate_45 : decode cX0_searchLate 45 = .ok (.iload 4, 2) := by decide +kernel
theorem dX0_searchLate_47 : decode cX0_searchLate 47 = .ok (.invokevirtual 47, 3) := by decide +kernel
theorem dX0_searchLate_50 : decode cX0_searchLate 50 = .ok (.ifCond .eq 47, 3) := by decide +kernel
theorem dX0_searchLate_53 : decode cX0_searchLate 53 = .ok (.aload_n 0, 1) := by decide +kernel
theorem dX0_searchLate_54 : decode cX0_searchLate 54 = .ok (.getfield 37, 3) := by decide +kernel
theorem dX0_searchLate_57 : decode cX0_searchLate 57 = .ok (.ifCond .ne 20, 3) := by decide +kernel
theorem dX0_searchLate_60 : decode cX0_searchLate 60 = .ok (.aload_n 0, 1) := by decide +kernel
theorem dX0_searchLate_61 : decode cX0_searchLate 61 = .ok (.sipush 372, 3) := by decide +kernel
theorem dX0_searchLate_64 : decode cX0_searchLate 64 = .ok (.iload_n 1, 1) := by decide +kernel
theorem dX0_searchLate_65 : decode cX0_searchLate 65 = .ok (.imul, 1) := by decide +kernel
theorem dX0_searchLate_66 : decode cX0_searchLate 66 = .ok (.bipush 12, 2) := by decide +kernel
theorem dX0_searchLate_68 : decode cX0_searchLate 68 = .ok (.iload_n 2, 1) := by decide +kernel
theorem dX0_searchLate_69 : decode cX0_searchLate 69 = .ok (.imul, 1) := by decide +kernel
theorem dX0_searchLate_70 : decode cX0_searchLate 70 = .ok (.iadd, 1) := by decide +kernel
theorem dX0_searchLate_71 : decode cX0_searchLate 71 = .ok (.iload 4, 2) := by decide +kernel
theorem dX0_searchLate_73 : decode cX0_searchLate 73 = .ok (.iadd, 1) := by decide +kernel
theorem dX0_searchLate_74 : decode cX0_searchLate 74 = .ok (.putfield 40, 3) := by decide +kernel
theorem dX0_searchLate_77 : decode cX0_searchLate 77 = .ok (.aload_n 0, 1) := by decide +kernel
theorem dX0_searchLate_78 : decode cX0_searchLate 78 = .ok (.dup, 1) := by decide +kernel
theorem dX0_searchLate_79 : decode cX0_searchLate 79 = .ok (.getfield 37, 3) := by decide +kernel
theorem dX0_searchLate_82 : decode cX0_searchLate 82 = .ok (.iconst 1, 1) := by decide +kernel
theorem dX0_searchLate_83 : decode cX0_searchLate 83 = .ok (.iadd, 1) := by decide +kernel
theorem dX0_searchLate_84 : decode cX0_searchLate 84 = .ok (.putfield 37, 3) := by decide +kernel
theorem dX0_searchLate_87 : decode cX0_searchLate 87 = .ok (.iload_n 3, 1) := by decide +kernel
theorem dX0_searchLate_88 : decode cX0_searchLate 88 = .ok (.ifCond .eq 9, 3) := by decide +kernel
theorem dX0_searchLate_91 : decode cX0_searchLate 91 = .ok (.aload_n 0, 1) := by decide +kernel
theorem dX0_searchLate_92 : decode cX0_searchLate 92 = .ok (.iload 4, 2) := by decide +kernel
theorem dX0_searchLate_94 : decode cX0_searchLate 94 = .ok (.invokevirtual 51, 3) := by decide +kernel
theorem dX0_searchLate_97 : decode cX0_searchLate 97 = .ok (.iinc 4 1, 3) := by decide +kernel
theorem dX0_searchLate_100 : decode cX0_searchLate 100 = .ok (.goto (-63), 3) := by decide +kernel
theorem dX0_searchLate_103 : decode cX0_searchLate 103 = .ok (.return_, 1) := by decide +kernel
theorem dX0_heightAt_0 : decode cX0_heightAt 0 = .ok (.aload_n 0, 1) := by decide +kernel
theorem dX0_heightAt_1 : decode cX0_heightAt 1 = .ok (.getfield 18, 3) := by decide +kernel
theorem dX0_heightAt_4 : decode cX0_heightAt 4 = .ok (.getstatic 55, 3) := by decide +kernel
theorem dX0_heightAt_7 : decode cX0_heightAt 7 = .ok (.iload_n 1, 1) := by decide +kernel
theorem dX0_heightAt_8 : decode cX0_heightAt 8 = .ok (.iload_n 2, 1) := by decide +kernel
theorem dX0_heightAt_9 : decode cX0_heightAt 9 = .ok (.iadd, 1) := by decide +kernel
theorem dX0_heightAt_10 : decode cX0_heightAt 10 = .ok (.bipush 12, 2) := by decide +kernel
theorem dX0_heightAt_12 : decode cX0_heightAt 12 = .ok (.irem, 1) := by decide +kernel
theorem dX0_heightAt_13 : decode cX0_heightAt 13 = .ok (.iaload, 1) := by decide +kernel
theorem dX0_heightAt_14 : decode cX0_heightAt 14 = .ok (.iaload, 1) := by decide +kernel
theorem dX0_heightAt_15 : decode cX0_heightAt 15 = .ok (.ireturn, 1) := by decide +kernel
theorem dX0_fits_0 : decode cX0_fits 0 = .ok (.iconst 0, 1) := by decide +kernel
theorem dX0_fits_1 : decode cX0_fits 1 = .ok (.istore_n 2, 1) := by decide +kernel
theorem dX0_fits_2 : decode cX0_fits 2 = .ok (.iload_n 2, 1) := by decide +kernel
theorem dX0_fits_3 : decode cX0_fits 3 = .ok (.aload_n 0, 1) := by decide +kernel
theorem dX0_fits_4 : decode cX0_fits 4 = .ok (.getfield 24, 3) := by decide +kernel
theorem dX0_fits_7 : decode cX0_fits 7 = .ok (.if_icmp .ge 31, 3) := by decide +kernel
theorem dX0_fits_10 : decode cX0_fits 10 = .ok (.aload_n 0, 1) := by decide +kernel
theorem dX0_fits_11 : decode cX0_fits 11 = .ok (.aload_n 0, 1) := by decide +kernel
theorem dX0_fits_12 : decode cX0_fits 12 = .ok (.getfield 9, 3) := by decide +kernel
theorem dX0_fits_15 : decode cX0_fits 15 = .ok (.iload_n 2, 1) := by decide +kernel
theorem dX0_fits_16 : decode cX0_fits 16 = .ok (.iaload, 1) := by decide +kernel
theorem dX0_fits_17 : decode cX0_fits 17 = .ok (.iload_n 1, 1) := by decide +kernel
theorem dX0_fits_18 : decode cX0_fits 18 = .ok (.invokevirtual 58, 3) := by decide +kernel
theorem dX0_fits_21 : decode cX0_fits 21 = .ok (.aload_n 0, 1) := by decide +kernel
theorem dX0_fits_22 : decode cX0_fits 22 = .ok (.getfield 15, 3) := by decide +kernel
theorem dX0_fits_25 : decode cX0_fits 25 = .ok (.iload_n 2, 1) := by decide +kernel
theorem dX0_fits_26 : decode cX0_fits 26 = .ok (.iaload, 1) := by decide +kernel
theorem dX0_fits_27 : decode cX0_fits 27 = .ok (.if_icmp .eq 5, 3) := by decide +kernel
theorem dX0_fits_30 : decode cX0_fits 30 = .ok (.iconst 0, 1) := by decide +kernel
theorem dX0_fits_31 : decode cX0_fits 31 = .ok (.ireturn, 1) := by decide +kernel
theorem dX0_fits_32 : decode cX0_fits 32 = .ok (.iinc 2 1, 3) := by decide +kernel
theorem dX0_fits_35 : decode cX0_fits 35 = .ok (.goto (-33), 3) := by decide +kernel
theorem dX0_fits_38 : decode cX0_fits 38 = .ok (.iconst 1, 1) := by decide +kernel
theorem dX0_fits_39 : decode cX0_fits 39 = .ok (.ireturn, 1) := by decide +kernel
theorem dX0_part_0 : decode cX0_part 0 = .ok (.iconst 0, 1) := by decide +kernel
theorem dX0_part_1 : decode cX0_part 1 = .ok (.istore_n 2, 1) := by decide +kernel
theorem dX0_part_2 : decode cX0_part 2 = .ok (.iload_n 2, 1) := by decide +kernel
theorem dX0_part_3 : decode cX0_part 3 = .ok (.bipush 12, 2) := by decide +kernel
theorem dX0_part_5 : decode cX0_part 5 = .ok (.if_icmp .ge 29, 3) := by decide +kernel
theorem dX0_part_8 : decode cX0_part 8 = .ok (.aload_n 0, 1) := by decide +kernel
theorem dX0_part_9 : decode cX0_part 9 = .ok (.getfield 21, 3) := by decide +kernel
theorem dX0_part_12 : decode cX0_part 12 = .ok (.iload_n 2, 1) := by decide +kernel
theorem dX0_part_13 : decode cX0_part 13 = .ok (.bipush 31, 2) := by decide +kernel
theorem dX0_part_15 : decode cX0_part 15 = .ok (.imul, 1) := by decide +kernel
theorem dX0_part_16 : decode cX0_part 16 = .ok (.aload_n 0, 1) := by decide +kernel
theorem dX0_part_17 : decode cX0_part 17 = .ok (.iload_n 2, 1) := by decide +kernel
theorem dX0_part_18 : decode cX0_part 18 = .ok (.iload_n 1, 1) := by decide +kernel
theorem dX0_part_19 : decode cX0_part 19 = .ok (.invokevirtual 58, 3) := by decide +kernel
theorem dX0_part_22 : decode cX0_part 22 = .ok (.iadd, 1) := by decide +kernel
theorem dX0_part_23 : decode cX0_part 23 = .ok (.dup2, 1) := by decide +kernel
theorem dX0_part_24 : decode cX0_part 24 = .ok (.iaload, 1) := by decide +kernel
theorem dX0_part_25 : decode cX0_part 25 = .ok (.iconst 1, 1) := by decide +kernel
theorem dX0_part_26 : decode cX0_part 26 = .ok (.iadd, 1) := by decide +kernel
theorem dX0_part_27 : decode cX0_part 27 = .ok (.iastore, 1) := by decide +kernel
theorem dX0_part_28 : decode cX0_part 28 = .ok (.iinc 2 1, 3) := by decide +kernel
theorem dX0_part_31 : decode cX0_part 31 = .ok (.goto (-29), 3) := by decide +kernel
theorem dX0_part_34 : decode cX0_part 34 = .ok (.return_, 1) := by decide +kernel
theorem dX0_bestHour_0 : decode cX0_bestHour 0 = .ok (.iconst (-1), 1) := by decide +kernel
theorem dX0_bestHour_1 : decode cX0_bestHour 1 = .ok (.istore_n 1, 1) := by decide +kernel
theorem dX0_bestHour_2 : decode cX0_bestHour 2 = .ok (.aload_n 0, 1) := by decide +kernel
theorem dX0_bestHour_3 : decode cX0_bestHour 3 = .ok (.getfield 37, 3) := by decide +kernel
theorem dX0_bestHour_6 : decode cX0_bestHour 6 = .ok (.istore_n 2, 1) := by decide +kernel
theorem dX0_bestHour_7 : decode cX0_bestHour 7 = .ok (.iconst 0, 1) := by decide +kernel
theorem dX0_bestHour_8 : decode cX0_bestHour 8 = .ok (.istore_n 3, 1) := by decide +kernel
theorem dX0_bestHour_9 : decode cX0_bestHour 9 = .ok (.iload_n 3, 1) := by decide +kernel
theorem dX0_bestHour_10 : decode cX0_bestHour 10 = .ok (.bipush 12, 2) := by decide +kernel
theorem dX0_bestHour_12 : decode cX0_bestHour 12 = .ok (.if_icmp .ge 40, 3) := by decide +kernel
theorem dX0_bestHour_15 : decode cX0_bestHour 15 = .ok (.aload_n 0, 1) := by decide +kernel
theorem dX0_bestHour_16 : decode cX0_bestHour 16 = .ok (.getfield 37, 3) := by decide +kernel
theorem dX0_bestHour_19 : decode cX0_bestHour 19 = .ok (.iconst 2, 1) := by decide +kernel
theorem dX0_bestHour_20 : decode cX0_bestHour 20 = .ok (.if_icmp .lt 32, 3) := by decide +kernel
theorem dX0_bestHour_23 : decode cX0_bestHour 23 = .ok (.aload_n 0, 1) := by decide +kernel
theorem dX0_bestHour_24 : decode cX0_bestHour 24 = .ok (.iload_n 3, 1) := by decide +kernel
theorem dX0_bestHour_25 : decode cX0_bestHour 25 = .ok (.invokevirtual 62, 3) := by decide +kernel
theorem dX0_bestHour_28 : decode cX0_bestHour 28 = .ok (.istore 4, 2) := by decide +kernel
theorem dX0_bestHour_30 : decode cX0_bestHour 30 = .ok (.iload_n 1, 1) := by decide +kernel
theorem dX0_bestHour_31 : decode cX0_bestHour 31 = .ok (.iconst (-1), 1) := by decide +kernel
theorem dX0_bestHour_32 : decode cX0_bestHour 32 = .ok (.if_icmp .eq 9, 3) := by decide +kernel
theorem dX0_bestHour_35 : decode cX0_bestHour 35 = .ok (.iload 4, 2) := by decide +kernel
theorem dX0_bestHour_37 : decode cX0_bestHour 37 = .ok (.iload_n 2, 1) := by decide +kernel
theorem dX0_bestHour_38 : decode cX0_bestHour 38 = .ok (.if_icmp .ge 8, 3) := by decide +kernel
theorem dX0_bestHour_41 : decode cX0_bestHour 41 = .ok (.iload_n 3, 1) := by decide +kernel
theorem dX0_bestHour_42 : decode cX0_bestHour 42 = .ok (.istore_n 1, 1) := by decide +kernel
theorem dX0_bestHour_43 : decode cX0_bestHour 43 = .ok (.iload 4, 2) := by decide +kernel
theorem dX0_bestHour_45 : decode cX0_bestHour 45 = .ok (.istore_n 2, 1) := by decide +kernel
theorem dX0_bestHour_46 : decode cX0_bestHour 46 = .ok (.iinc 3 1, 3) := by decide +kernel
theorem dX0_bestHour_49 : decode cX0_bestHour 49 = .ok (.goto (-40), 3) := by decide +kernel
theorem dX0_bestHour_52 : decode cX0_bestHour 52 = .ok (.iload_n 1, 1) := by decide +kernel
theorem dX0_bestHour_53 : decode cX0_bestHour 53 = .ok (.ireturn, 1) := by decide +kernel
theorem dX0_greatestPart_0 : decode cX0_greatestPart 0 = .ok (.iconst 0, 1) := by decide +kernel
theorem dX0_greatestPart_1 : decode cX0_greatestPart 1 = .ok (.istore_n 2, 1) := by decide +kernel
theorem dX0_greatestPart_2 : decode cX0_greatestPart 2 = .ok (.iconst 0, 1) := by decide +kernel
theorem dX0_greatestPart_3 : decode cX0_greatestPart 3 = .ok (.istore_n 3, 1) := by decide +kernel
theorem dX0_greatestPart_4 : decode cX0_greatestPart 4 = .ok (.iload_n 3, 1) := by decide +kernel
theorem dX0_greatestPart_5 : decode cX0_greatestPart 5 = .ok (.bipush 31, 2) := by decide +kernel
theorem dX0_greatestPart_7 : decode cX0_greatestPart 7 = .ok (.if_icmp .ge 25, 3) := by decide +kernel
theorem dX0_greatestPart_10 : decode cX0_greatestPart 10 = .ok (.iload_n 2, 1) := by decide +kernel
theorem dX0_greatestPart_11 : decode cX0_greatestPart 11 = .ok (.aload_n 0, 1) := by decide +kernel
theorem dX0_greatestPart_12 : decode cX0_greatestPart 12 = .ok (.getfield 21, 3) := by decide +kernel
theorem dX0_greatestPart_15 : decode cX0_greatestPart 15 = .ok (.iload_n 1, 1) := by decide +kernel
theorem dX0_greatestPart_16 : decode cX0_greatestPart 16 = .ok (.bipush 31, 2) := by decide +kernel
theorem dX0_greatestPart_18 : decode cX0_greatestPart 18 = .ok (.imul, 1) := by decide +kernel
theorem dX0_greatestPart_19 : decode cX0_greatestPart 19 = .ok (.iload_n 3, 1) := by decide +kernel
theorem dX0_greatestPart_20 : decode cX0_greatestPart 20 = .ok (.iadd, 1) := by decide +kernel
theorem dX0_greatestPart_21 : decode cX0_greatestPart 21 = .ok (.iaload, 1) := by decide +kernel
theorem dX0_greatestPart_22 : decode cX0_greatestPart 22 = .ok (.invokestatic 65, 3) := by decide +kernel
theorem dX0_greatestPart_25 : decode cX0_greatestPart 25 = .ok (.istore_n 2, 1) := by decide +kernel
theorem dX0_greatestPart_26 : decode cX0_greatestPart 26 = .ok (.iinc 3 1, 3) := by decide +kernel
theorem dX0_greatestPart_29 : decode cX0_greatestPart 29 = .ok (.goto (-25), 3) := by decide +kernel
theorem dX0_greatestPart_32 : decode cX0_greatestPart 32 = .ok (.iload_n 2, 1) := by decide +kernel
theorem dX0_greatestPart_33 : decode cX0_greatestPart 33 = .ok (.ireturn, 1) := by decide +kernel
theorem dX1_init_0 : decode cX1_init 0 = .ok (.aload_n 0, 1) := by decide +kernel
theorem dX1_init_1 : decode cX1_init 1 = .ok (.aload_n 1, 1) := by decide +kernel
theorem dX1_init_2 : decode cX1_init 2 = .ok (.invokespecial 3, 3) := by decide +kernel
theorem dX1_init_5 : decode cX1_init 5 = .ok (.aload_n 0, 1) := by decide +kernel
theorem dX1_init_6 : decode cX1_init 6 = .ok (.aload_n 2, 1) := by decide +kernel
theorem dX1_init_7 : decode cX1_init 7 = .ok (.putfield 9, 3) := by decide +kernel
theorem dX1_init_10 : decode cX1_init 10 = .ok (.return_, 1) := by decide +kernel
theorem dX1_readLine_0 : decode cX1_readLine 0 = .ok (.aload_n 0, 1) := by decide +kernel
theorem dX1_readLine_1 : decode cX1_readLine 1 = .ok (.getfield 15, 3) := by decide +kernel
theorem dX1_readLine_4 : decode cX1_readLine 4 = .ok (.istore_n 1, 1) := by decide +kernel
theorem dX1_readLine_5 : decode cX1_readLine 5 = .ok (.aload_n 0, 1) := by decide +kernel
theorem dX1_readLine_6 : decode cX1_readLine 6 = .ok (.ldc 19, 2) := by decide +kernel
theorem dX1_readLine_8 : decode cX1_readLine 8 = .ok (.invokevirtual 21, 3) := by decide +kernel
theorem dX1_readLine_11 : decode cX1_readLine 11 = .ok (.ifCond .eq 9, 3) := by decide +kernel
theorem dX1_readLine_14 : decode cX1_readLine 14 = .ok (.aload_n 0, 1) := by decide +kernel
theorem dX1_readLine_15 : decode cX1_readLine 15 = .ok (.iload_n 1, 1) := by decide +kernel
theorem dX1_readLine_16 : decode cX1_readLine 16 = .ok (.invokevirtual 25, 3) := by decide +kernel
theorem dX1_readLine_19 : decode cX1_readLine 19 = .ok (.ireturn, 1) := by decide +kernel
theorem dX1_readLine_20 : decode cX1_readLine 20 = .ok (.aload_n 0, 1) := by decide +kernel
theorem dX1_readLine_21 : decode cX1_readLine 21 = .ok (.ldc 29, 2) := by decide +kernel
theorem dX1_readLine_23 : decode cX1_readLine 23 = .ok (.invokevirtual 21, 3) := by decide +kernel
theorem dX1_readLine_26 : decode cX1_readLine 26 = .ok (.ifCond .eq 8, 3) := by decide +kernel
theorem dX1_readLine_29 : decode cX1_readLine 29 = .ok (.aload_n 0, 1) := by decide +kernel
theorem dX1_readLine_30 : decode cX1_readLine 30 = .ok (.invokevirtual 31, 3) := by decide +kernel
theorem dX1_readLine_33 : decode cX1_readLine 33 = .ok (.ireturn, 1) := by decide +kernel
theorem dX1_readLine_34 : decode cX1_readLine 34 = .ok (.aload_n 0, 1) := by decide +kernel
theorem dX1_readLine_35 : decode cX1_readLine 35 = .ok (.ldc 35, 2) := by decide +kernel
theorem dX1_readLine_37 : decode cX1_readLine 37 = .ok (.invokevirtual 21, 3) := by decide +kernel
theorem dX1_readLine_40 : decode cX1_readLine 40 = .ok (.ifCond .eq 8, 3) := by decide +kernel
theorem dX1_readLine_43 : decode cX1_readLine 43 = .ok (.aload_n 0, 1) := by decide +kernel
theorem dX1_readLine_44 : decode cX1_readLine 44 = .ok (.invokevirtual 37, 3) := by decide +kernel
theorem dX1_readLine_47 : decode cX1_readLine 47 = .ok (.ireturn, 1) := by decide +kernel
theorem dX1_readLine_48 : decode cX1_readLine 48 = .ok (.aload_n 0, 1) := by decide +kernel
theorem dX1_readLine_49 : decode cX1_readLine 49 = .ok (.ldc 40, 2) := by decide +kernel
theorem dX1_readLine_51 : decode cX1_readLine 51 = .ok (.invokevirtual 21, 3) := by decide +kernel
theorem dX1_readLine_54 : decode cX1_readLine 54 = .ok (.ifCond .eq 13, 3) := by decide +kernel
theorem dX1_readLine_57 : decode cX1_readLine 57 = .ok (.aload_n 0, 1) := by decide +kernel
theorem dX1_readLine_58 : decode cX1_readLine 58 = .ok (.getfield 9, 3) := by decide +kernel
theorem dX1_readLine_61 : decode cX1_readLine 61 = .ok (.iconst 0, 1) := by decide +kernel
theorem dX1_readLine_62 : decode cX1_readLine 62 = .ok (.putfield 42, 3) := by decide +kernel
theorem dX1_readLine_65 : decode cX1_readLine 65 = .ok (.iconst 1, 1) := by decide +kernel
theorem dX1_readLine_66 : decode cX1_readLine 66 = .ok (.ireturn, 1) := by decide +kernel
theorem dX1_readLine_67 : decode cX1_readLine 67 = .ok (.aload_n 0, 1) := by decide +kernel
theorem dX1_readLine_68 : decode cX1_readLine 68 = .ok (.invokevirtual 48, 3) := by decide +kernel
theorem dX1_readLine_71 : decode cX1_readLine 71 = .ok (.ireturn, 1) := by decide +kernel
theorem dX1_readSetting_0 : decode cX1_readSetting 0 = .ok (.aload_n 0, 1) := by decide +kernel
theorem dX1_readSetting_1 : decode cX1_readSetting 1 = .ok (.ldc 51, 2) := by decide +kernel
theorem dX1_readSetting_3 : decode cX1_readSetting 3 = .ok (.invokevirtual 21, 3) := by decide +kernel
theorem dX1_readSetting_6 : decode cX1_readSetting 6 = .ok (.ifCond .eq 8, 3) := by decide +kernel
theorem dX1_readSetting_9 : decode cX1_readSetting 9 = .ok (.aload_n 0, 1) := by decide +kernel
theorem dX1_readSetting_10 : decode cX1_readSetting 10 = .ok (.invokevirtual 53, 3) := by decide +kernel
theorem dX1_readSetting_13 : decode cX1_readSetting 13 = .ok (.ireturn, 1) := by decide +kernel
theorem dX1_readSetting_14 : decode cX1_readSetting 14 = .ok (.aload_n 0, 1) := by decide +kernel
theorem dX1_readSetting_15 : decode cX1_readSetting 15 = .ok (.ldc 56, 2) := by decide +kernel
theorem dX1_readSetting_17 : decode cX1_readSetting 17 = .ok (.invokevirtual 21, 3) := by decide +kernel
theorem dX1_readSetting_20 : decode cX1_readSetting 20 = .ok (.ifCond .eq 8, 3) := by decide +kernel
theorem dX1_readSetting_23 : decode cX1_readSetting 23 = .ok (.aload_n 0, 1) := by decide +kernel
theorem dX1_readSetting_24 : decode cX1_readSetting 24 = .ok (.invokevirtual 58, 3) := by decide +kernel
theorem dX1_readSetting_27 : decode cX1_readSetting 27 = .ok (.ireturn, 1) := by decide +kernel
theorem dX1_readSetting_28 : decode cX1_readSetting 28 = .ok (.aload_n 0, 1) := by decide +kernel
theorem dX1_readSetting_29 : decode cX1_readSetting 29 = .ok (.ldc 61, 2) := by decide +kernel
theorem dX1_readSetting_31 : decode cX1_readSetting 31 = .ok (.invokevirtual 21, 3) := by decide +kernel
theorem dX1_readSetting_34 : decode cX1_readSetting 34 = .ok (.ifCond .eq 8, 3) := by decide +kernel
theorem dX1_readSetting_37 : decode cX1_readSetting 37 = .ok (.aload_n 0, 1) := by decide +kernel
theorem dX1_readSetting_38 : decode cX1_readSetting 38 = .ok (.invokevirtual 63, 3) := by decide +kernel
theorem dX1_readSetting_41 : decode cX1_readSetting 41 = .ok (.ireturn, 1) := by decide +kernel
theorem dX1_readSetting_42 : decode cX1_readSetting 42 = .ok (.aload_n 0, 1) := by decide +kernel
theorem dX1_readSetting_43 : decode cX1_readSetting 43 = .ok (.ldc 66, 2) := by decide +kernel
theorem dX1_readSetting_45 : decode cX1_readSetting 45 = .ok (.invokevirtual 21, 3) := by decide +kernel
theorem dX1_readSetting_48 : decode cX1_readSetting 48 = .ok (.ifCond .eq 8, 3) := by decide +kernel
theorem dX1_readSetting_51 : decode cX1_readSetting 51 = .ok (.aload_n 0, 1) := by decide +kernel
theorem dX1_readSetting_52 : decode cX1_readSetting 52 = .ok (.invokevirtual 68, 3) := by decide +kernel
theorem dX1_readSetting_55 : decode cX1_readSetting 55 = .ok (.ireturn, 1) := by decide +kernel
theorem dX1_readSetting_56 : decode cX1_readSetting 56 = .ok (.aload_n 0, 1) := by decide +kernel
theorem dX1_readSetting_57 : decode cX1_readSetting 57 = .ok (.ldc 71, 2) := by decide +kernel
theorem dX1_readSetting_59 : decode cX1_readSetting 59 = .ok (.invokevirtual 21, 3) := by decide +kernel
theorem dX1_readSetting_62 : decode cX1_readSetting 62 = .ok (.ifCond .eq 14, 3) := by decide +kernel
theorem dX1_readSetting_65 : decode cX1_readSetting 65 = .ok (.aload_n 0, 1) := by decide +kernel
theorem dX1_readSetting_66 : decode cX1_readSetting 66 = .ok (.invokevirtual 73, 3) := by decide +kernel
theorem dX1_readSetting_69 : decode cX1_readSetting 69 = .ok (.ifCond .eq 7, 3) := by decide +kernel
theorem dX1_readSetting_72 : decode cX1_readSetting 72 = .ok (.iconst 1, 1) := by decide +kernel
theorem dX1_readSetting_73 : decode cX1_readSetting 73 = .ok (.goto 4, 3) := by decide +kernel
theorem dX1_readSetting_76 : decode cX1_readSetting 76 = .ok (.iconst 0, 1) := by decide +kernel
theorem dX1_readSetting_77 : decode cX1_readSetting 77 = .ok (.ireturn, 1) := by decide +kernel
theorem dX1_setLevel_0 : decode cX1_setLevel 0 = .ok (.aload_n 0, 1) := by decide +kernel
theorem dX1_setLevel_1 : decode cX1_setLevel 1 = .ok (.iconst 0, 1) := by decide +kernel
theorem dX1_setLevel_2 : decode cX1_setLevel 2 = .ok (.bipush 40, 2) := by decide +kernel
theorem dX1_setLevel_4 : decode cX1_setLevel 4 = .ok (.invokevirtual 76, 3) := by decide +kernel
theorem dX1_setLevel_7 : decode cX1_setLevel 7 = .ok (.istore_n 1, 1) := by decide +kernel
theorem dX1_setLevel_8 : decode cX1_setLevel 8 = .ok (.aload_n 0, 1) := by decide +kernel
theorem dX1_setLevel_9 : decode cX1_setLevel 9 = .ok (.getfield 9, 3) := by decide +kernel
theorem dX1_setLevel_12 : decode cX1_setLevel 12 = .ok (.iload_n 1, 1) := by decide +kernel
theorem dX1_setLevel_13 : decode cX1_setLevel 13 = .ok (.ifCond .eq 10, 3) := by decide +kernel
theorem dX1_setLevel_16 : decode cX1_setLevel 16 = .ok (.aload_n 0, 1) := by decide +kernel
theorem dX1_setLevel_17 : decode cX1_setLevel 17 = .ok (.getfield 80, 3) := by decide +kernel
theorem dX1_setLevel_20 : decode cX1_setLevel 20 = .ok (.goto 10, 3) := by decide +kernel
theorem dX1_setLevel_23 : decode cX1_setLevel 23 = .ok (.aload_n 0, 1) := by decide +kernel
theorem dX1_setLevel_24 : decode cX1_setLevel 24 = .ok (.getfield 9, 3) := by decide +kernel
theorem dX1_setLevel_27 : decode cX1_setLevel 27 = .ok (.getfield 83, 3) := by decide +kernel
theorem dX1_setLevel_30 : decode cX1_setLevel 30 = .ok (.putfield 83, 3) := by decide +kernel
theorem dX1_setLevel_33 : decode cX1_setLevel 33 = .ok (.iload_n 1, 1) := by decide +kernel
theorem dX1_setLevel_34 : decode cX1_setLevel 34 = .ok (.ireturn, 1) := by decide +kernel
theorem dX1_setPumps_0 : decode cX1_setPumps 0 = .ok (.aload_n 0, 1) := by decide +kernel
theorem dX1_setPumps_1 : decode cX1_setPumps 1 = .ok (.iconst 0, 1) := by decide +kernel
theorem dX1_setPumps_2 : decode cX1_setPumps 2 = .ok (.bipush 9, 2) := by decide +kernel
theorem dX1_setPumps_4 : decode cX1_setPumps 4 = .ok (.invokevirtual 76, 3) := by decide +kernel
theorem dX1_setPumps_7 : decode cX1_setPumps 7 = .ok (.istore_n 1, 1) := by decide +kernel
theorem dX1_setPumps_8 : decode cX1_setPumps 8 = .ok (.aload_n 0, 1) := by decide +kernel
theorem dX1_setPumps_9 : decode cX1_setPumps 9 = .ok (.getfield 9, 3) := by decide +kernel
theorem dX1_setPumps_12 : decode cX1_setPumps 12 = .ok (.iload_n 1, 1) := by decide +kernel
theorem dX1_setPumps_13 : decode cX1_setPumps 13 = .ok (.ifCond .eq 10, 3) := by decide +kernel
theorem dX1_setPumps_16 : decode cX1_setPumps 16 = .ok (.aload_n 0, 1) := by decide +kernel
theorem dX1_setPumps_17 : decode cX1_setPumps 17 = .ok (.getfield 80, 3) := by decide +kernel
theorem dX1_setPumps_20 : decode cX1_setPumps 20 = .ok (.goto 10, 3) := by decide +kernel
theorem dX1_setPumps_23 : decode cX1_setPumps 23 = .ok (.aload_n 0, 1) := by decide +kernel
theorem dX1_setPumps_24 : decode cX1_setPumps 24 = .ok (.getfield 9, 3) := by decide +kernel
theorem dX1_setPumps_27 : decode cX1_setPumps 27 = .ok (.getfield 85, 3) := by decide +kernel
theorem dX1_setPumps_30 : decode cX1_setPumps 30 = .ok (.putfield 85, 3) := by decide +kernel
theorem dX1_setPumps_33 : decode cX1_setPumps 33 = .ok (.iload_n 1, 1) := by decide +kernel
theorem dX1_setPumps_34 : decode cX1_setPumps 34 = .ok (.ireturn, 1) := by decide +kernel
theorem dX1_setHands_0 : decode cX1_setHands 0 = .ok (.aload_n 0, 1) := by decide +kernel
theorem dX1_setHands_1 : decode cX1_setHands 1 = .ok (.iconst 0, 1) := by decide +kernel
theorem dX1_setHands_2 : decode cX1_setHands 2 = .ok (.bipush 9, 2) := by decide +kernel
theorem dX1_setHands_4 : decode cX1_setHands 4 = .ok (.invokevirtual 76, 3) := by decide +kernel
theorem dX1_setHands_7 : decode cX1_setHands 7 = .ok (.istore_n 1, 1) := by decide +kernel
theorem dX1_setHands_8 : decode cX1_setHands 8 = .ok (.aload_n 0, 1) := by decide +kernel
theorem dX1_setHands_9 : decode cX1_setHands 9 = .ok (.getfield 9, 3) := by decide +kernel
theorem dX1_setHands_12 : decode cX1_setHands 12 = .ok (.iload_n 1, 1) := by decide +kernel
theorem dX1_setHands_13 : decode cX1_setHands 13 = .ok (.ifCond .eq 10, 3) := by decide +kernel
theorem dX1_setHands_16 : decode cX1_setHands 16 = .ok (.aload_n 0, 1) := by decide +kernel
theorem dX1_setHands_17 : decode cX1_setHands 17 = .ok (.getfield 80, 3) := by decide +kernel
theorem dX1_setHands_20 : decode cX1_setHands 20 = .ok (.goto 10, 3) := by decide +kernel
theorem dX1_setHands_23 : decode cX1_setHands 23 = .ok (.aload_n 0, 1) := by decide +kernel
theorem dX1_setHands_24 : decode cX1_setHands 24 = .ok (.getfield 9, 3) := by decide +kernel
theorem dX1_setHands_27 : decode cX1_setHands 27 = .ok (.getfield 87, 3) := by decide +kernel
theorem dX1_setHands_30 : decode cX1_setHands 30 = .ok (.putfield 87, 3) := by decide +kernel
theorem dX1_setHands_33 : decode cX1_setHands 33 = .ok (.iload_n 1, 1) := by decide +kernel
theorem dX1_setHands_34 : decode cX1_setHands 34 = .ok (.ireturn, 1) := by decide +kernel
theorem dX1_setSurge_0 : decode cX1_setSurge 0 = .ok (.aload_n 0, 1) := by decide +kernel
theorem dX1_setSurge_1 : decode cX1_setSurge 1 = .ok (.iconst 0, 1) := by decide +kernel
theorem dX1_setSurge_2 : decode cX1_setSurge 2 = .ok (.iconst 5, 1) := by decide +kernel
theorem dX1_setSurge_3 : decode cX1_setSurge 3 = .ok (.invokevirtual 76, 3) := by decide +kernel
theorem dX1_setSurge_6 : decode cX1_setSurge 6 = .ok (.istore_n 1, 1) := by decide +kernel
theorem dX1_setSurge_7 : decode cX1_setSurge 7 = .ok (.aload_n 0, 1) := by decide +kernel
theorem dX1_setSurge_8 : decode cX1_setSurge 8 = .ok (.getfield 9, 3) := by decide +kernel
theorem dX1_setSurge_11 : decode cX1_setSurge 11 = .ok (.iload_n 1, 1) := by decide +kernel
theorem dX1_setSurge_12 : decode cX1_setSurge 12 = .ok (.ifCond .eq 10, 3) := by decide +kernel
theorem dX1_setSurge_15 : decode cX1_setSurge 15 = .ok (.aload_n 0, 1) := by decide +kernel
theorem dX1_setSurge_16 : decode cX1_setSurge 16 = .ok (.getfield 80, 3) := by decide +kernel
theorem dX1_setSurge_19 : decode cX1_setSurge 19 = .ok (.goto 10, 3) := by decide +kernel
theorem dX1_setSurge_22 : decode cX1_setSurge 22 = .ok (.aload_n 0, 1) := by decide +kernel
theorem dX1_setSurge_23 : decode cX1_setSurge 23 = .ok (.getfield 9, 3) := by decide +kernel
theorem dX1_setSurge_26 : decode cX1_setSurge 26 = .ok (.getfield 89, 3) := by decide +kernel
theorem dX1_setSurge_29 : decode cX1_setSurge 29 = .ok (.putfield 89, 3) := by decide +kernel
theorem dX1_setSurge_32 : decode cX1_setSurge 32 = .ok (.iload_n 1, 1) := by decide +kernel
theorem dX1_setSurge_33 : decode cX1_setSurge 33 = .ok (.ireturn, 1) := by decide +kernel
theorem dX1_setHour_0 : decode cX1_setHour 0 = .ok (.aload_n 0, 1) := by decide +kernel
theorem dX1_setHour_1 : decode cX1_setHour 1 = .ok (.iconst 0, 1) := by decide +kernel
theorem dX1_setHour_2 : decode cX1_setHour 2 = .ok (.sipush 999, 3) := by decide +kernel
theorem dX1_setHour_5 : decode cX1_setHour 5 = .ok (.invokevirtual 76, 3) := by decide +kernel
theorem dX1_setHour_8 : decode cX1_setHour 8 = .ok (.istore_n 1, 1) := by decide +kernel
theorem dX1_setHour_9 : decode cX1_setHour 9 = .ok (.aload_n 0, 1) := by decide +kernel
theorem dX1_setHour_10 : decode cX1_setHour 10 = .ok (.getfield 9, 3) := by decide +kernel
theorem dX1_setHour_13 : decode cX1_setHour 13 = .ok (.iload_n 1, 1) := by decide +kernel
theorem dX1_setHour_14 : decode cX1_setHour 14 = .ok (.ifCond .eq 10, 3) := by decide +kernel
theorem dX1_setHour_17 : decode cX1_setHour 17 = .ok (.aload_n 0, 1) := by decide +kernel
theorem dX1_setHour_18 : decode cX1_setHour 18 = .ok (.getfield 80, 3) := by decide +kernel
theorem dX1_setHour_21 : decode cX1_setHour 21 = .ok (.goto 10, 3) := by decide +kernel
theorem dX1_setHour_24 : decode cX1_setHour 24 = .ok (.aload_n 0, 1) := by decide +kernel
theorem dX1_setHour_25 : decode cX1_setHour 25 = .ok (.getfield 9, 3) := by decide +kernel
theorem dX1_setHour_28 : decode cX1_setHour 28 = .ok (.getfield 91, 3) := by decide +kernel
theorem dX1_setHour_31 : decode cX1_setHour 31 = .ok (.putfield 91, 3) := by decide +kernel
theorem dX1_setHour_34 : decode cX1_setHour 34 = .ok (.iload_n 1, 1) := by decide +kernel
theorem dX1_setHour_35 : decode cX1_setHour 35 = .ok (.ireturn, 1) := by decide +kernel
theorem dX1_readShip_0 : decode cX1_readShip 0 = .ok (.aload_n 0, 1) := by decide +kernel
theorem dX1_readShip_1 : decode cX1_readShip 1 = .ok (.getfield 9, 3) := by decide +kernel
theorem dX1_readShip_4 : decode cX1_readShip 4 = .ok (.getfield 93, 3) := by decide +kernel
theorem dX1_readShip_7 : decode cX1_readShip 7 = .ok (.bipush 8, 2) := by decide +kernel
theorem dX1_readShip_9 : decode cX1_readShip 9 = .ok (.if_icmp .lt 10, 3) := by decide +kernel
theorem dX1_readShip_12 : decode cX1_readShip 12 = .ok (.aload_n 0, 1) := by decide +kernel
theorem dX1_readShip_13 : decode cX1_readShip 13 = .ok (.iload_n 1, 1) := by decide +kernel
theorem dX1_readShip_14 : decode cX1_readShip 14 = .ok (.putfield 15, 3) := by decide +kernel
theorem dX1_readShip_17 : decode cX1_readShip 17 = .ok (.iconst 0, 1) := by decide +kernel
theorem dX1_readShip_18 : decode cX1_readShip 18 = .ok (.ireturn, 1) := by decide +kernel
theorem dX1_readShip_19 : decode cX1_readShip 19 = .ok (.aload_n 0, 1) := by decide +kernel
theorem dX1_readShip_20 : decode cX1_readShip 20 = .ok (.ldc 96, 2) := by decide +kernel
theorem dX1_readShip_22 : decode cX1_readShip 22 = .ok (.invokevirtual 21, 3) := by decide +kernel
theorem dX1_readShip_25 : decode cX1_readShip 25 = .ok (.ifCond .eq 13, 3) := by decide +kernel
theorem dX1_readShip_28 : decode cX1_readShip 28 = .ok (.aload_n 0, 1) := by decide +kernel
theorem dX1_readShip_29 : decode cX1_readShip 29 = .ok (.iconst 1, 1) := by decide +kernel
theorem dX1_readShip_30 : decode cX1_readShip 30 = .ok (.bipush 12, 2) := by decide +kernel
theorem dX1_readShip_32 : decode cX1_readShip 32 = .ok (.invokevirtual 76, 3) := by decide +kernel
theorem dX1_readShip_35 : decode cX1_readShip 35 = .ok (.ifCond .ne 5, 3) := by decide +kernel
theorem dX1_readShip_38 : decode cX1_readShip 38 = .ok (.iconst 0, 1) := by decide +kernel
theorem dX1_readShip_39 : decode cX1_readShip 39 = .ok (.ireturn, 1) := by decide +kernel
theorem dX1_readShip_40 : decode cX1_readShip 40 = .ok (.aload_n 0, 1) := by decide +kernel
theorem dX1_readShip_41 : decode cX1_readShip 41 = .ok (.getfield 80, 3) := by decide +kernel
theorem dX1_readShip_44 : decode cX1_readShip 44 = .ok (.istore_n 2, 1) := by decide +kernel
theorem dX1_readShip_45 : decode cX1_readShip 45 = .ok (.aload_n 0, 1) := by decide +kernel
theorem dX1_readShip_46 : decode cX1_readShip 46 = .ok (.ldc 98, 2) := by decide +kernel
theorem dX1_readShip_48 : decode cX1_readShip 48 = .ok (.invokevirtual 21, 3) := by decide +kernel
theorem dX1_readShip_51 : decode cX1_readShip 51 = .ok (.ifCond .eq 13, 3) := by decide +kernel
theorem dX1_readShip_54 : decode cX1_readShip 54 = .ok (.aload_n 0, 1) := by decide +kernel
theorem dX1_readShip_55 : decode cX1_readShip 55 = .ok (.iconst 1, 1) := by decide +kernel
theorem dX1_readShip_56 : decode cX1_readShip 56 = .ok (.bipush 20, 2) := by decide +kernel
theorem dX1_readShip_58 : decode cX1_readShip 58 = .ok (.invokevirtual 76, 3) := by decide +kernel
theorem dX1_readShip_61 : decode cX1_readShip 61 = .ok (.ifCond .ne 5, 3) := by decide +kernel
theorem dX1_readShip_64 : decode cX1_readShip 64 = .ok (.iconst 0, 1) := by decide +kernel
theorem dX1_readShip_65 : decode cX1_readShip 65 = .ok (.ireturn, 1) := by decide +kernel
theorem dX1_readShip_66 : decode cX1_readShip 66 = .ok (.aload_n 0, 1) := by decide +kernel
theorem dX1_readShip_67 : decode cX1_readShip 67 = .ok (.getfield 80, 3) := by decide +kernel
theorem dX1_readShip_70 : decode cX1_readShip 70 = .ok (.istore_n 3, 1) := by decide +kernel
theorem dX1_readShip_71 : decode cX1_readShip 71 = .ok (.iconst 0, 1) := by decide +kernel
theorem dX1_readShip_72 : decode cX1_readShip 72 = .ok (.istore 4, 2) := by decide +kernel
theorem dX1_readShip_74 : decode cX1_readShip 74 = .ok (.aload_n 0, 1) := by decide +kernel
theorem dX1_readShip_75 : decode cX1_readShip 75 = .ok (.ldc 100, 2) := by decide +kernel
theorem dX1_readShip_77 : decode cX1_readShip 77 = .ok (.invokevirtual 21, 3) := by decide +kernel
theorem dX1_readShip_80 : decode cX1_readShip 80 = .ok (.ifCond .eq 21, 3) := by decide +kernel
theorem dX1_readShip_83 : decode cX1_readShip 83 = .ok (.aload_n 0, 1) := by decide +kernel
theorem dX1_readShip_84 : decode cX1_readShip 84 = .ok (.iconst 0, 1) := by decide +kernel
theorem dX1_readShip_85 : decode cX1_readShip 85 = .ok (.bipush 99, 2) := by decide +kernel
theorem dX1_readShip_87 : decode cX1_readShip 87 = .ok (.invokevirtual 76, 3) := by decide +kernel
theorem dX1_readShip_90 : decode cX1_readShip 90 = .ok (.ifCond .ne 5, 3) := by decide +kernel
theorem dX1_readShip_93 : decode cX1_readShip 93 = .ok (.iconst 0, 1) := by decide +kernel
theorem dX1_readShip_94 : decode cX1_readShip 94 = .ok (.ireturn, 1) := by decide +kernel
theorem dX1_readShip_95 : decode cX1_readShip 95 = .ok (.aload_n 0, 1) := by decide +kernel
theorem dX1_readShip_96 : decode cX1_readShip 96 = .ok (.getfield 80, 3) := by decide +kernel
theorem dX1_readShip_99 : decode cX1_readShip 99 = .ok (.istore 4, 2) := by decide +kernel
theorem dX1_readShip_101 : decode cX1_readShip 101 = .ok (.iconst (-1), 1) := by decide +kernel
theorem dX1_readShip_102 : decode cX1_readShip 102 = .ok (.istore 5, 2) := by decide +kernel
theorem dX1_readShip_104 : decode cX1_readShip 104 = .ok (.aload_n 0, 1) := by decide +kernel
theorem dX1_readShip_105 : decode cX1_readShip 105 = .ok (.ldc 102, 2) := by decide +kernel
theorem dX1_readShip_107 : decode cX1_readShip 107 = .ok (.invokevirtual 21, 3) := by decide +kernel
theorem dX1_readShip_110 : decode cX1_readShip 110 = .ok (.ifCond .eq 19, 3) := by decide +kernel
theorem dX1_readShip_113 : decode cX1_readShip 113 = .ok (.aload_n 0, 1) := by decide +kernel
theorem dX1_readShip_114 : decode cX1_readShip 114 = .ok (.iload_n 2, 1) := by decide +kernel
theorem dX1_readShip_115 : decode cX1_readShip 115 = .ok (.invokevirtual 104, 3) := by decide +kernel
theorem dX1_readShip_118 : decode cX1_readShip 118 = .ok (.ifCond .ne 5, 3) := by decide +kernel
theorem dX1_readShip_121 : decode cX1_readShip 121 = .ok (.iconst 0, 1) := by decide +kernel
theorem dX1_readShip_122 : decode cX1_readShip 122 = .ok (.ireturn, 1) := by decide +kernel
theorem dX1_readShip_123 : decode cX1_readShip 123 = .ok (.aload_n 0, 1) := by decide +kernel
theorem dX1_readShip_124 : decode cX1_readShip 124 = .ok (.getfield 80, 3) := by decide +kernel
theorem dX1_readShip_127 : decode cX1_readShip 127 = .ok (.istore 5, 2) := by decide +kernel
theorem dX1_readShip_129 : decode cX1_readShip 129 = .ok (.aload_n 0, 1) := by decide +kernel
theorem dX1_readShip_130 : decode cX1_readShip 130 = .ok (.getfield 9, 3) := by decide +kernel
theorem dX1_readShip_133 : decode cX1_readShip 133 = .ok (.iload_n 2, 1) := by decide +kernel
theorem dX1_readShip_134 : decode cX1_readShip 134 = .ok (.iload_n 3, 1) := by decide +kernel
theorem dX1_readShip_135 : decode cX1_readShip 135 = .ok (.iload 4, 2) := by decide +kernel
theorem dX1_readShip_137 : decode cX1_readShip 137 = .ok (.iload 5, 2) := by decide +kernel
theorem dX1_readShip_139 : decode cX1_readShip 139 = .ok (.invokevirtual 107, 3) := by decide +kernel
theorem dX1_readShip_142 : decode cX1_readShip 142 = .ok (.pop, 1) := by decide +kernel
theorem dX1_readShip_143 : decode cX1_readShip 143 = .ok (.iconst 1, 1) := by decide +kernel
theorem dX1_readShip_144 : decode cX1_readShip 144 = .ok (.ireturn, 1) := by decide +kernel
theorem dX1_takeFreePlace_0 : decode cX1_takeFreePlace 0 = .ok (.aload_n 0, 1) := by decide +kernel
theorem dX1_takeFreePlace_1 : decode cX1_takeFreePlace 1 = .ok (.getfield 15, 3) := by decide +kernel
theorem dX1_takeFreePlace_4 : decode cX1_takeFreePlace 4 = .ok (.istore_n 2, 1) := by decide +kernel
theorem dX1_takeFreePlace_5 : decode cX1_takeFreePlace 5 = .ok (.aload_n 0, 1) := by decide +kernel
theorem dX1_takeFreePlace_6 : decode cX1_takeFreePlace 6 = .ok (.iconst 0, 1) := by decide +kernel
theorem dX1_takeFreePlace_7 : decode cX1_takeFreePlace 7 = .ok (.bipush 23, 2) := by decide +kernel
theorem dX1_takeFreePlace_9 : decode cX1_takeFreePlace 9 = .ok (.invokevirtual 76, 3) := by decide +kernel
theorem dX1_takeFreePlace_12 : decode cX1_takeFreePlace 12 = .ok (.ifCond .ne 5, 3) := by decide +kernel
theorem dX1_takeFreePlace_15 : decode cX1_takeFreePlace 15 = .ok (.iconst 0, 1) := by decide +kernel
theorem dX1_takeFreePlace_16 : decode cX1_takeFreePlace 16 = .ok (.ireturn, 1) := by decide +kernel
theorem dX1_takeFreePlace_17 : decode cX1_takeFreePlace 17 = .ok (.aload_n 0, 1) := by decide +kernel
theorem dX1_takeFreePlace_18 : decode cX1_takeFreePlace 18 = .ok (.getfield 9, 3) := by decide +kernel
theorem dX1_takeFreePlace_21 : decode cX1_takeFreePlace 21 = .ok (.invokevirtual 111, 3) := by decide +kernel
theorem dX1_takeFreePlace_24 : decode cX1_takeFreePlace 24 = .ok (.aload_n 0, 1) := by decide +kernel
theorem dX1_takeFreePlace_25 : decode cX1_takeFreePlace 25 = .ok (.getfield 80, 3) := by decide +kernel
theorem dX1_takeFreePlace_28 : decode cX1_takeFreePlace 28 = .ok (.iload_n 1, 1) := by decide +kernel
theorem dX1_takeFreePlace_29 : decode cX1_takeFreePlace 29 = .ok (.invokestatic 115, 3) := by decide +kernel
theorem dX1_takeFreePlace_32 : decode cX1_takeFreePlace 32 = .ok (.ifCond .ne 10, 3) := by decide +kernel
theorem dX1_takeFreePlace_35 : decode cX1_takeFreePlace 35 = .ok (.aload_n 0, 1) := by decide +kernel
theorem dX1_takeFreePlace_36 : decode cX1_takeFreePlace 36 = .ok (.iload_n 2, 1) := by decide +kernel
theorem dX1_takeFreePlace_37 : decode cX1_takeFreePlace 37 = .ok (.putfield 15, 3) := by decide +kernel
theorem dX1_takeFreePlace_40 : decode cX1_takeFreePlace 40 = .ok (.iconst 0, 1) := by decide +kernel
theorem dX1_takeFreePlace_41 : decode cX1_takeFreePlace 41 = .ok (.ireturn, 1) := by decide +kernel
theorem dX1_takeFreePlace_42 : decode cX1_takeFreePlace 42 = .ok (.iconst 1, 1) := by decide +kernel
theorem dX1_takeFreePlace_43 : decode cX1_takeFreePlace 43 = .ok (.ireturn, 1) := by decide +kernel
theorem dX1_readTides_0 : decode cX1_readTides 0 = .ok (.iconst 0, 1) := by decide +kernel
theorem dX1_readTides_1 : decode cX1_readTides 1 = .ok (.istore_n 1, 1) := by decide +kernel
theorem dX1_readTides_2 : decode cX1_readTides 2 = .ok (.iload_n 1, 1) := by decide +kernel
theorem dX1_readTides_3 : decode cX1_readTides 3 = .ok (.bipush 12, 2) := by decide +kernel
theorem dX1_readTides_5 : decode cX1_readTides 5 = .ok (.if_icmp .ge 43, 3) := by decide +kernel
theorem dX1_readTides_8 : decode cX1_readTides 8 = .ok (.aload_n 0, 1) := by decide +kernel
theorem dX1_readTides_9 : decode cX1_readTides 9 = .ok (.iconst 0, 1) := by decide +kernel
theorem dX1_readTides_10 : decode cX1_readTides 10 = .ok (.bipush 30, 2) := by decide +kernel
theorem dX1_readTides_12 : decode cX1_readTides 12 = .ok (.invokevirtual 76, 3) := by decide +kernel
theorem dX1_readTides_15 : decode cX1_readTides 15 = .ok (.ifCond .ne 5, 3) := by decide +kernel
theorem dX1_readTides_18 : decode cX1_readTides 18 = .ok (.iconst 0, 1) := by decide +kernel
theorem dX1_readTides_19 : decode cX1_readTides 19 = .ok (.ireturn, 1) := by decide +kernel
theorem dX1_readTides_20 : decode cX1_readTides 20 = .ok (.aload_n 0, 1) := by decide +kernel
theorem dX1_readTides_21 : decode cX1_readTides 21 = .ok (.getfield 9, 3) := by decide +kernel
theorem dX1_readTides_24 : decode cX1_readTides 24 = .ok (.getfield 119, 3) := by decide +kernel
theorem dX1_readTides_27 : decode cX1_readTides 27 = .ok (.iload_n 1, 1) := by decide +kernel
theorem dX1_readTides_28 : decode cX1_readTides 28 = .ok (.aload_n 0, 1) := by decide +kernel
theorem dX1_readTides_29 : decode cX1_readTides 29 = .ok (.getfield 80, 3) := by decide +kernel
theorem dX1_readTides_32 : decode cX1_readTides 32 = .ok (.iastore, 1) := by decide +kernel
theorem dX1_readTides_33 : decode cX1_readTides 33 = .ok (.aload_n 0, 1) := by decide +kernel
theorem dX1_readTides_34 : decode cX1_readTides 34 = .ok (.invokevirtual 123, 3) := by decide +kernel
theorem dX1_readTides_37 : decode cX1_readTides 37 = .ok (.ifCond .ne 5, 3) := by decide +kernel
theorem dX1_readTides_40 : decode cX1_readTides 40 = .ok (.iconst 1, 1) := by decide +kernel
theorem dX1_readTides_41 : decode cX1_readTides 41 = .ok (.ireturn, 1) := by decide +kernel
theorem dX1_readTides_42 : decode cX1_readTides 42 = .ok (.iinc 1 1, 3) := by decide +kernel
theorem dX1_readTides_45 : decode cX1_readTides 45 = .ok (.goto (-43), 3) := by decide +kernel
theorem dX1_readTides_48 : decode cX1_readTides 48 = .ok (.iconst 0, 1) := by decide +kernel
theorem dX1_readTides_49 : decode cX1_readTides 49 = .ok (.ireturn, 1) := by decide +kernel
theorem dX1_readBlocks_0 : decode cX1_readBlocks 0 = .ok (.iconst 0, 1) := by decide +kernel
theorem dX1_readBlocks_1 : decode cX1_readBlocks 1 = .ok (.istore_n 1, 1) := by decide +kernel
theorem dX1_readBlocks_2 : decode cX1_readBlocks 2 = .ok (.iload_n 1, 1) := by decide +kernel
theorem dX1_readBlocks_3 : decode cX1_readBlocks 3 = .ok (.bipush 12, 2) := by decide +kernel
theorem dX1_readBlocks_5 : decode cX1_readBlocks 5 = .ok (.if_icmp .ge 48, 3) := by decide +kernel
theorem dX1_readBlocks_8 : decode cX1_readBlocks 8 = .ok (.aload_n 0, 1) := by decide +kernel
theorem dX1_readBlocks_9 : decode cX1_readBlocks 9 = .ok (.iconst 0, 1) := by decide +kernel
theorem dX1_readBlocks_10 : decode cX1_readBlocks 10 = .ok (.bipush 23, 2) := by decide +kernel
theorem dX1_readBlocks_12 : decode cX1_readBlocks 12 = .ok (.invokevirtual 76, 3) := by decide +kernel
theorem dX1_readBlocks_15 : decode cX1_readBlocks 15 = .ok (.ifCond .ne 5, 3) := by decide +kernel
theorem dX1_readBlocks_18 : decode cX1_readBlocks 18 = .ok (.iconst 0, 1) := by decide +kernel
theorem dX1_readBlocks_19 : decode cX1_readBlocks 19 = .ok (.ireturn, 1) := by decide +kernel
theorem dX1_readBlocks_20 : decode cX1_readBlocks 20 = .ok (.aload_n 0, 1) := by decide +kernel
theorem dX1_readBlocks_21 : decode cX1_readBlocks 21 = .ok (.getfield 9, 3) := by decide +kernel
theorem dX1_readBlocks_24 : decode cX1_readBlocks 24 = .ok (.dup, 1) := by decide +kernel
theorem dX1_readBlocks_25 : decode cX1_readBlocks 25 = .ok (.getfield 126, 3) := by decide +kernel
theorem dX1_readBlocks_28 : decode cX1_readBlocks 28 = .ok (.iconst 1, 1) := by decide +kernel
theorem dX1_readBlocks_29 : decode cX1_readBlocks 29 = .ok (.aload_n 0, 1) := by decide +kernel
theorem dX1_readBlocks_30 : decode cX1_readBlocks 30 = .ok (.getfield 80, 3) := by decide +kernel
theorem dX1_readBlocks_33 : decode cX1_readBlocks 33 = .ok (.ishl, 1) := by decide +kernel
theorem dX1_readBlocks_34 : decode cX1_readBlocks 34 = .ok (.ior, 1) := by decide +kernel
theorem dX1_readBlocks_35 : decode cX1_readBlocks 35 = .ok (.putfield 126, 3) := by decide +kernel
theorem dX1_readBlocks_38 : decode cX1_readBlocks 38 = .ok (.aload_n 0, 1) := by decide +kernel
theorem dX1_readBlocks_39 : decode cX1_readBlocks 39 = .ok (.invokevirtual 123, 3) := by decide +kernel
theorem dX1_readBlocks_42 : decode cX1_readBlocks 42 = .ok (.ifCond .ne 5, 3) := by decide +kernel
theorem dX1_readBlocks_45 : decode cX1_readBlocks 45 = .ok (.iconst 1, 1) := by decide +kernel
theorem dX1_readBlocks_46 : decode cX1_readBlocks 46 = .ok (.ireturn, 1) := by decide +kernel
theorem dX1_readBlocks_47 : decode cX1_readBlocks 47 = .ok (.iinc 1 1, 3) := by decide +kernel
theorem dX1_readBlocks_50 : decode cX1_readBlocks 50 = .ok (.goto (-48), 3) := by decide +kernel
theorem dX1_readBlocks_53 : decode cX1_readBlocks 53 = .ok (.iconst 0, 1) := by decide +kernel
theorem dX1_readBlocks_54 : decode cX1_readBlocks 54 = .ok (.ireturn, 1) := by decide +kernel
theorem dX2_init_0 : decode cX2_init 0 = .ok (.aload_n 0, 1) := by decide +kernel
theorem dX2_init_1 : decode cX2_init 1 = .ok (.invokespecial 3, 3) := by decide +kernel
theorem dX2_init_4 : decode cX2_init 4 = .ok (.aload_n 0, 1) := by decide +kernel
theorem dX2_init_5 : decode cX2_init 5 = .ok (.iconst (-1), 1) := by decide +kernel
theorem dX2_init_6 : decode cX2_init 6 = .ok (.putfield 9, 3) := by decide +kernel
theorem dX2_init_9 : decode cX2_init 9 = .ok (.aload_n 0, 1) := by decide +kernel
theorem dX2_init_10 : decode cX2_init 10 = .ok (.bipush 12, 2) := by decide +kernel
theorem dX2_init_12 : decode cX2_init 12 = .ok (.newarray .int, 2) := by decide +kernel
theorem dX2_init_14 : decode cX2_init 14 = .ok (.putfield 15, 3) := by decide +kernel
theorem dX2_init_17 : decode cX2_init 17 = .ok (.aload_n 0, 1) := by decide +kernel
theorem dX2_init_18 : decode cX2_init 18 = .ok (.bipush 12, 2) := by decide +kernel
theorem dX2_init_20 : decode cX2_init 20 = .ok (.newarray .int, 2) := by decide +kernel
theorem dX2_init_22 : decode cX2_init 22 = .ok (.putfield 19, 3) := by decide +kernel
theorem dX2_init_25 : decode cX2_init 25 = .ok (.aload_n 0, 1) := by decide +kernel
theorem dX2_init_26 : decode cX2_init 26 = .ok (.bipush 12, 2) := by decide +kernel
theorem dX2_init_28 : decode cX2_init 28 = .ok (.newarray .int, 2) := by decide +kernel
theorem dX2_init_30 : decode cX2_init 30 = .ok (.putfield 22, 3) := by decide +kernel
theorem dX2_init_33 : decode cX2_init 33 = .ok (.aload_n 0, 1) := by decide +kernel
theorem dX2_init_34 : decode cX2_init 34 = .ok (.sipush 400, 3) := by decide +kernel
theorem dX2_init_37 : decode cX2_init 37 = .ok (.newarray .int, 2) := by decide +kernel
theorem dX2_init_39 : decode cX2_init 39 = .ok (.putfield 25, 3) := by decide +kernel
theorem dX2_init_42 : decode cX2_init 42 = .ok (.aload_n 0, 1) := by decide +kernel
theorem dX2_init_43 : decode cX2_init 43 = .ok (.bipush 32, 2) := by decide +kernel
theorem dX2_init_45 : decode cX2_init 45 = .ok (.newarray .int, 2) := by decide +kernel
theorem dX2_init_47 : decode cX2_init 47 = .ok (.putfield 28, 3) := by decide +kernel
theorem dX2_init_50 : decode cX2_init 50 = .ok (.return_, 1) := by decide +kernel
theorem dX2_copy_0 : decode cX2_copy 0 = .ok (.aload_n 0, 1) := by decide +kernel
theorem dX2_copy_1 : decode cX2_copy 1 = .ok (.aload_n 1, 1) := by decide +kernel
theorem dX2_copy_2 : decode cX2_copy 2 = .ok (.getfield 9, 3) := by decide +kernel
theorem dX2_copy_5 : decode cX2_copy 5 = .ok (.putfield 9, 3) := by decide +kernel
theorem dX2_copy_8 : decode cX2_copy 8 = .ok (.aload_n 0, 1) := by decide +kernel
theorem dX2_copy_9 : decode cX2_copy 9 = .ok (.aload_n 1, 1) := by decide +kernel
theorem dX2_copy_10 : decode cX2_copy 10 = .ok (.getfield 31, 3) := by decide +kernel
theorem dX2_copy_13 : decode cX2_copy 13 = .ok (.putfield 31, 3) := by decide +kernel
theorem dX2_copy_16 : decode cX2_copy 16 = .ok (.aload_n 1, 1) := by decide +kernel
theorem dX2_copy_17 : decode cX2_copy 17 = .ok (.getfield 15, 3) := by decide +kernel
theorem dX2_copy_20 : decode cX2_copy 20 = .ok (.iconst 0, 1) := by decide +kernel
theorem dX2_copy_21 : decode cX2_copy 21 = .ok (.aload_n 0, 1) := by decide +kernel
theorem dX2_copy_22 : decode cX2_copy 22 = .ok (.getfield 15, 3) := by decide +kernel
theorem dX2_copy_25 : decode cX2_copy 25 = .ok (.iconst 0, 1) := by decide +kernel
theorem dX2_copy_26 : decode cX2_copy 26 = .ok (.bipush 12, 2) := by decide +kernel
theorem dX2_copy_28 : decode cX2_copy 28 = .ok (.invokestatic 34, 3) := by decide +kernel
theorem dX2_copy_31 : decode cX2_copy 31 = .ok (.aload_n 1, 1) := by decide +kernel
theorem dX2_copy_32 : decode cX2_copy 32 = .ok (.getfield 19, 3) := by decide +kernel
theorem dX2_copy_35 : decode cX2_copy 35 = .ok (.iconst 0, 1) := by decide +kernel
theorem dX2_copy_36 : decode cX2_copy 36 = .ok (.aload_n 0, 1) := by decide +kernel
theorem dX2_copy_37 : decode cX2_copy 37 = .ok (.getfield 19, 3) := by decide +kernel
theorem dX2_copy_40 : decode cX2_copy 40 = .ok (.iconst 0, 1) := by decide +kernel
theorem dX2_copy_41 : decode cX2_copy 41 = .ok (.bipush 12, 2) := by decide +kernel
theorem dX2_copy_43 : decode cX2_copy 43 = .ok (.invokestatic 34, 3) := by decide +kernel
theorem dX2_copy_46 : decode cX2_copy 46 = .ok (.aload_n 1, 1) := by decide +kernel
theorem dX2_copy_47 : decode cX2_copy 47 = .ok (.getfield 22, 3) := by decide +kernel
theorem dX2_copy_50 : decode cX2_copy 50 = .ok (.iconst 0, 1) := by decide +kernel
theorem dX2_copy_51 : decode cX2_copy 51 = .ok (.aload_n 0, 1) := by decide +kernel
theorem dX2_copy_52 : decode cX2_copy 52 = .ok (.getfield 22, 3) := by decide +kernel
theorem dX2_copy_55 : decode cX2_copy 55 = .ok (.iconst 0, 1) := by decide +kernel
theorem dX2_copy_56 : decode cX2_copy 56 = .ok (.bipush 12, 2) := by decide +kernel
theorem dX2_copy_58 : decode cX2_copy 58 = .ok (.invokestatic 34, 3) := by decide +kernel
theorem dX2_copy_61 : decode cX2_copy 61 = .ok (.aload_n 1, 1) := by decide +kernel
theorem dX2_copy_62 : decode cX2_copy 62 = .ok (.getfield 25, 3) := by decide +kernel
theorem dX2_copy_65 : decode cX2_copy 65 = .ok (.iconst 0, 1) := by decide +kernel
theorem dX2_copy_66 : decode cX2_copy 66 = .ok (.aload_n 0, 1) := by decide +kernel
theorem dX2_copy_67 : decode cX2_copy 67 = .ok (.getfield 25, 3) := by decide +kernel
theorem dX2_copy_70 : decode cX2_copy 70 = .ok (.iconst 0, 1) := by decide +kernel
theorem dX2_copy_71 : decode cX2_copy 71 = .ok (.sipush 400, 3) := by decide +kernel
theorem dX2_copy_74 : decode cX2_copy 74 = .ok (.invokestatic 34, 3) := by decide +kernel
theorem dX2_copy_77 : decode cX2_copy 77 = .ok (.return_, 1) := by decide +kernel
theorem dX2_clear_0 : decode cX2_clear 0 = .ok (.aload_n 0, 1) := by decide +kernel
theorem dX2_clear_1 : decode cX2_clear 1 = .ok (.iconst 0, 1) := by decide +kernel
theorem dX2_clear_2 : decode cX2_clear 2 = .ok (.putfield 9, 3) := by decide +kernel
theorem dX2_clear_5 : decode cX2_clear 5 = .ok (.aload_n 0, 1) := by decide +kernel
theorem dX2_clear_6 : decode cX2_clear 6 = .ok (.iconst 0, 1) := by decide +kernel
theorem dX2_clear_7 : decode cX2_clear 7 = .ok (.putfield 31, 3) := by decide +kernel
theorem dX2_clear_10 : decode cX2_clear 10 = .ok (.return_, 1) := by decide +kernel
theorem dX2_beginLine_0 : decode cX2_beginLine 0 = .ok (.aload_n 0, 1) := by decide +kernel
theorem dX2_beginLine_1 : decode cX2_beginLine 1 = .ok (.getfield 9, 3) := by decide +kernel
theorem dX2_beginLine_4 : decode cX2_beginLine 4 = .ok (.bipush 12, 2) := by decide +kernel
theorem dX2_beginLine_6 : decode cX2_beginLine 6 = .ok (.if_icmp .ge 23, 3) := by decide +kernel
theorem dX2_beginLine_9 : decode cX2_beginLine 9 = .ok (.aload_n 0, 1) := by decide +kernel
theorem dX2_beginLine_10 : decode cX2_beginLine 10 = .ok (.getfield 15, 3) := by decide +kernel
theorem dX2_beginLine_13 : decode cX2_beginLine 13 = .ok (.aload_n 0, 1) := by decide +kernel
theorem dX2_beginLine_14 : decode cX2_beginLine 14 = .ok (.getfield 9, 3) := by decide +kernel
theorem dX2_beginLine_17 : decode cX2_beginLine 17 = .ok (.iload_n 1, 1) := by decide +kernel
theorem dX2_beginLine_18 : decode cX2_beginLine 18 = .ok (.iastore, 1) := by decide +kernel
theorem dX2_beginLine_19 : decode cX2_beginLine 19 = .ok (.aload_n 0, 1) := by decide +kernel
theorem dX2_beginLine_20 : decode cX2_beginLine 20 = .ok (.getfield 19, 3) := by decide +kernel
theorem dX2_beginLine_23 : decode cX2_beginLine 23 = .ok (.aload_n 0, 1) := by decide +kernel
theorem dX2_beginLine_24 : decode cX2_beginLine 24 = .ok (.getfield 9, 3) := by decide +kernel
theorem dX2_beginLine_27 : decode cX2_beginLine 27 = .ok (.iload_n 2, 1) := by decide +kernel
theorem dX2_beginLine_28 : decode cX2_beginLine 28 = .ok (.iastore, 1) := by decide +kernel
theorem dX2_beginLine_29 : decode cX2_beginLine 29 = .ok (.return_, 1) := by decide +kernel
theorem dX2_endLine_0 : decode cX2_endLine 0 = .ok (.aload_n 0, 1) := by decide +kernel
theorem dX2_endLine_1 : decode cX2_endLine 1 = .ok (.getfield 9, 3) := by decide +kernel
theorem dX2_endLine_4 : decode cX2_endLine 4 = .ok (.bipush 12, 2) := by decide +kernel
theorem dX2_endLine_6 : decode cX2_endLine 6 = .ok (.if_icmp .ge 26, 3) := by decide +kernel
theorem dX2_endLine_9 : decode cX2_endLine 9 = .ok (.aload_n 0, 1) := by decide +kernel
theorem dX2_endLine_10 : decode cX2_endLine 10 = .ok (.getfield 22, 3) := by decide +kernel
theorem dX2_endLine_13 : decode cX2_endLine 13 = .ok (.aload_n 0, 1) := by decide +kernel
theorem dX2_endLine_14 : decode cX2_endLine 14 = .ok (.getfield 9, 3) := by decide +kernel
theorem dX2_endLine_17 : decode cX2_endLine 17 = .ok (.aload_n 0, 1) := by decide +kernel
theorem dX2_endLine_18 : decode cX2_endLine 18 = .ok (.getfield 31, 3) := by decide +kernel
theorem dX2_endLine_21 : decode cX2_endLine 21 = .ok (.iastore, 1) := by decide +kernel
theorem dX2_endLine_22 : decode cX2_endLine 22 = .ok (.aload_n 0, 1) := by decide +kernel
theorem dX2_endLine_23 : decode cX2_endLine 23 = .ok (.dup, 1) := by decide +kernel
theorem dX2_endLine_24 : decode cX2_endLine 24 = .ok (.getfield 9, 3) := by decide +kernel
theorem dX2_endLine_27 : decode cX2_endLine 27 = .ok (.iconst 1, 1) := by decide +kernel
theorem dX2_endLine_28 : decode cX2_endLine 28 = .ok (.iadd, 1) := by decide +kernel
theorem dX2_endLine_29 : decode cX2_endLine 29 = .ok (.putfield 9, 3) := by decide +kernel
theorem dX2_endLine_32 : decode cX2_endLine 32 = .ok (.return_, 1) := by decide +kernel
theorem dX2_add_0 : decode cX2_add 0 = .ok (.aload_n 0, 1) := by decide +kernel
theorem dX2_add_1 : decode cX2_add 1 = .ok (.getfield 31, 3) := by decide +kernel
theorem dX2_add_4 : decode cX2_add 4 = .ok (.sipush 400, 3) := by decide +kernel
theorem dX2_add_7 : decode cX2_add 7 = .ok (.if_icmp .ge 23, 3) := by decide +kernel
theorem dX2_add_10 : decode cX2_add 10 = .ok (.aload_n 0, 1) := by decide +kernel
theorem dX2_add_11 : decode cX2_add 11 = .ok (.getfield 25, 3) := by decide +kernel
theorem dX2_add_14 : decode cX2_add 14 = .ok (.aload_n 0, 1) := by decide +kernel
theorem dX2_add_15 : decode cX2_add 15 = .ok (.getfield 31, 3) := by decide +kernel
theorem dX2_add_18 : decode cX2_add 18 = .ok (.iload_n 1, 1) := by decide +kernel
theorem dX2_add_19 : decode cX2_add 19 = .ok (.iastore, 1) := by decide +kernel
theorem dX2_add_20 : decode cX2_add 20 = .ok (.aload_n 0, 1) := by decide +kernel
theorem dX2_add_21 : decode cX2_add 21 = .ok (.dup, 1) := by decide +kernel
theorem dX2_add_22 : decode cX2_add 22 = .ok (.getfield 31, 3) := by decide +kernel
theorem dX2_add_25 : decode cX2_add 25 = .ok (.iconst 1, 1) := by decide +kernel
theorem dX2_add_26 : decode cX2_add 26 = .ok (.iadd, 1) := by decide +kernel
theorem dX2_add_27 : decode cX2_add 27 = .ok (.putfield 31, 3) := by decide +kernel
theorem dX2_add_30 : decode cX2_add 30 = .ok (.iconst 1, 1) := by decide +kernel
theorem dX2_add_31 : decode cX2_add 31 = .ok (.ireturn, 1) := by decide +kernel
theorem dX2_sumOf_0 : decode cX2_sumOf 0 = .ok (.iconst 0, 1) := by decide +kernel
theorem dX2_sumOf_1 : decode cX2_sumOf 1 = .ok (.istore 4, 2) := by decide +kernel
theorem dX2_sumOf_3 : decode cX2_sumOf 3 = .ok (.iconst 0, 1) := by decide +kernel
theorem dX2_sumOf_4 : decode cX2_sumOf 4 = .ok (.istore 5, 2) := by decide +kernel
theorem dX2_sumOf_6 : decode cX2_sumOf 6 = .ok (.iconst 0, 1) := by decide +kernel
theorem dX2_sumOf_7 : decode cX2_sumOf 7 = .ok (.istore 6, 2) := by decide +kernel
theorem dX2_sumOf_9 : decode cX2_sumOf 9 = .ok (.iload 6, 2) := by decide +kernel
theorem dX2_sumOf_11 : decode cX2_sumOf 11 = .ok (.aload_n 0, 1) := by decide +kernel
theorem dX2_sumOf_12 : decode cX2_sumOf 12 = .ok (.getfield 9, 3) := by decide +kernel
theorem dX2_sumOf_15 : decode cX2_sumOf 15 = .ok (.if_icmp .ge 59, 3) := by decide +kernel
theorem dX2_sumOf_18 : decode cX2_sumOf 18 = .ok (.aload_n 0, 1) := by decide +kernel
theorem dX2_sumOf_19 : decode cX2_sumOf 19 = .ok (.getfield 15, 3) := by decide +kernel
theorem dX2_sumOf_22 : decode cX2_sumOf 22 = .ok (.iload 6, 2) := by decide +kernel
theorem dX2_sumOf_24 : decode cX2_sumOf 24 = .ok (.iaload, 1) := by decide +kernel
theorem dX2_sumOf_25 : decode cX2_sumOf 25 = .ok (.iload_n 1, 1) := by decide +kernel
theorem dX2_sumOf_26 : decode cX2_sumOf 26 = .ok (.if_icmp .ne 33, 3) := by decide +kernel
theorem dX2_sumOf_29 : decode cX2_sumOf 29 = .ok (.aload_n 0, 1) := by decide +kernel
theorem dX2_sumOf_30 : decode cX2_sumOf 30 = .ok (.iload 5, 2) := by decide +kernel
theorem dX2_sumOf_32 : decode cX2_sumOf 32 = .ok (.aload_n 0, 1) := by decide +kernel
theorem dX2_sumOf_33 : decode cX2_sumOf 33 = .ok (.getfield 22, 3) := by decide +kernel
theorem dX2_sumOf_36 : decode cX2_sumOf 36 = .ok (.iload 6, 2) := by decide +kernel
theorem dX2_sumOf_38 : decode cX2_sumOf 38 = .ok (.iaload, 1) := by decide +kernel
theorem dX2_sumOf_39 : decode cX2_sumOf 39 = .ok (.aload_n 2, 1) := by decide +kernel
theorem dX2_sumOf_40 : decode cX2_sumOf 40 = .ok (.iload_n 3, 1) := by decide +kernel
theorem dX2_sumOf_41 : decode cX2_sumOf 41 = .ok (.invokevirtual 40, 3) := by decide +kernel
theorem dX2_sumOf_44 : decode cX2_sumOf 44 = .ok (.ifCond .eq 15, 3) := by decide +kernel
theorem dX2_sumOf_47 : decode cX2_sumOf 47 = .ok (.iload 4, 2) := by decide +kernel
theorem dX2_sumOf_49 : decode cX2_sumOf 49 = .ok (.aload_n 0, 1) := by decide +kernel
theorem dX2_sumOf_50 : decode cX2_sumOf 50 = .ok (.getfield 19, 3) := by decide +kernel
theorem dX2_sumOf_53 : decode cX2_sumOf 53 = .ok (.iload 6, 2) := by decide +kernel
theorem dX2_sumOf_55 : decode cX2_sumOf 55 = .ok (.iaload, 1) := by decide +kernel
theorem dX2_sumOf_56 : decode cX2_sumOf 56 = .ok (.iadd, 1) := by decide +kernel
theorem dX2_sumOf_57 : decode cX2_sumOf 57 = .ok (.istore 4, 2) := by decide +kernel
theorem dX2_sumOf_59 : decode cX2_sumOf 59 = .ok (.aload_n 0, 1) := by decide +kernel
theorem dX2_sumOf_60 : decode cX2_sumOf 60 = .ok (.getfield 22, 3) := by decide +kernel
theorem dX2_sumOf_63 : decode cX2_sumOf 63 = .ok (.iload 6, 2) := by decide +kernel
theorem dX2_sumOf_65 : decode cX2_sumOf 65 = .ok (.iaload, 1) := by decide +kernel
theorem dX2_sumOf_66 : decode cX2_sumOf 66 = .ok (.istore 5, 2) := by decide +kernel
theorem dX2_sumOf_68 : decode cX2_sumOf 68 = .ok (.iinc 6 1, 3) := by decide +kernel
theorem dX2_sumOf_71 : decode cX2_sumOf 71 = .ok (.goto (-62), 3) := by decide +kernel
theorem dX2_sumOf_74 : decode cX2_sumOf 74 = .ok (.iload 4, 2) := by decide +kernel
theorem dX2_sumOf_76 : decode cX2_sumOf 76 = .ok (.ireturn, 1) := by decide +kernel
theorem dX2_holds_0 : decode cX2_holds 0 = .ok (.iconst 0, 1) := by decide +kernel
theorem dX2_holds_1 : decode cX2_holds 1 = .ok (.istore 5, 2) := by decide +kernel
theorem dX2_holds_3 : decode cX2_holds 3 = .ok (.iload_n 1, 1) := by decide +kernel
theorem dX2_holds_4 : decode cX2_holds 4 = .ok (.istore 6, 2) := by decide +kernel
theorem dX2_holds_6 : decode cX2_holds 6 = .ok (.iload 6, 2) := by decide +kernel
theorem dX2_holds_8 : decode cX2_holds 8 = .ok (.iload_n 2, 1) := by decide +kernel
theorem dX2_holds_9 : decode cX2_holds 9 = .ok (.if_icmp .ge 145, 3) := by decide +kernel
theorem dX2_holds_12 : decode cX2_holds 12 = .ok (.aload_n 0, 1) := by decide +kernel
theorem dX2_holds_13 : decode cX2_holds 13 = .ok (.getfield 25, 3) := by decide +kernel
theorem dX2_holds_16 : decode cX2_holds 16 = .ok (.iload 6, 2) := by decide +kernel
theorem dX2_holds_18 : decode cX2_holds 18 = .ok (.iaload, 1) := by decide +kernel
theorem dX2_holds_19 : decode cX2_holds 19 = .ok (.istore 7, 2) := by decide +kernel
theorem dX2_holds_21 : decode cX2_holds 21 = .ok (.iload 7, 2) := by decide +kernel
theorem dX2_holds_23 : decode cX2_holds 23 = .ok (.bipush (-11), 2) := by decide +kernel
theorem dX2_holds_25 : decode cX2_holds 25 = .ok (.if_icmp .ne 32, 3) := by decide +kernel
theorem dX2_holds_28 : decode cX2_holds 28 = .ok (.iload 5, 2) := by decide +kernel
theorem dX2_holds_30 : decode cX2_holds 30 = .ok (.iconst 1, 1) := by decide +kernel
theorem dX2_holds_31 : decode cX2_holds 31 = .ok (.if_icmp .lt 26, 3) := by decide +kernel
theorem dX2_holds_34 : decode cX2_holds 34 = .ok (.aload_n 0, 1) := by decide +kernel
theorem dX2_holds_35 : decode cX2_holds 35 = .ok (.getfield 28, 3) := by decide +kernel
theorem dX2_holds_38 : decode cX2_holds 38 = .ok (.iload 5, 2) := by decide +kernel
theorem dX2_holds_40 : decode cX2_holds 40 = .ok (.iconst 1, 1) := by decide +kernel
theorem dX2_holds_41 : decode cX2_holds 41 = .ok (.isub, 1) := by decide +kernel
theorem dX2_holds_42 : decode cX2_holds 42 = .ok (.iconst 1, 1) := by decide +kernel
theorem dX2_holds_43 : decode cX2_holds 43 = .ok (.aload_n 0, 1) := by decide +kernel
theorem dX2_holds_44 : decode cX2_holds 44 = .ok (.getfield 28, 3) := by decide +kernel
theorem dX2_holds_47 : decode cX2_holds 47 = .ok (.iload 5, 2) := by decide +kernel
theorem dX2_holds_49 : decode cX2_holds 49 = .ok (.iconst 1, 1) := by decide +kernel
theorem dX2_holds_50 : decode cX2_holds 50 = .ok (.isub, 1) := by decide +kernel
theorem dX2_holds_51 : decode cX2_holds 51 = .ok (.iaload, 1) := by decide +kernel
theorem dX2_holds_52 : decode cX2_holds 52 = .ok (.isub, 1) := by decide +kernel
theorem dX2_holds_53 : decode cX2_holds 53 = .ok (.iastore, 1) := by decide +kernel
theorem dX2_holds_54 : decode cX2_holds 54 = .ok (.goto 94, 3) := by decide +kernel
theorem dX2_holds_57 : decode cX2_holds 57 = .ok (.iload 7, 2) := by decide +kernel
theorem dX2_holds_59 : decode cX2_holds 59 = .ok (.bipush (-11), 2) := by decide +kernel
theorem dX2_holds_61 : decode cX2_holds 61 = .ok (.if_icmp .ge 45, 3) := by decide +kernel
theorem dX2_holds_64 : decode cX2_holds 64 = .ok (.iload 5, 2) := by decide +kernel
theorem dX2_holds_66 : decode cX2_holds 66 = .ok (.iconst 2, 1) := by decide +kernel
theorem dX2_holds_67 : decode cX2_holds 67 = .ok (.if_icmp .lt 39, 3) := by decide +kernel
theorem dX2_holds_70 : decode cX2_holds 70 = .ok (.iinc 5 (-1), 3) := by decide +kernel
theorem dX2_holds_73 : decode cX2_holds 73 = .ok (.aload_n 0, 1) := by decide +kernel
theorem dX2_holds_74 : decode cX2_holds 74 = .ok (.getfield 28, 3) := by decide +kernel
theorem dX2_holds_77 : decode cX2_holds 77 = .ok (.iload 5, 2) := by decide +kernel
theorem dX2_holds_79 : decode cX2_holds 79 = .ok (.iconst 1, 1) := by decide +kernel
theorem dX2_holds_80 : decode cX2_holds 80 = .ok (.isub, 1) := by decide +kernel
theorem dX2_holds_81 : decode cX2_holds 81 = .ok (.iload 7, 2) := by decide +kernel
theorem dX2_holds_83 : decode cX2_holds 83 = .ok (.aload_n 0, 1) := by decide +kernel
theorem dX2_holds_84 : decode cX2_holds 84 = .ok (.getfield 28, 3) := by decide +kernel
theorem dX2_holds_87 : decode cX2_holds 87 = .ok (.iload 5, 2) := by decide +kernel
theorem dX2_holds_89 : decode cX2_holds 89 = .ok (.iconst 1, 1) := by decide +kernel
theorem dX2_holds_90 : decode cX2_holds 90 = .ok (.isub, 1) := by decide +kernel
theorem dX2_holds_91 : decode cX2_holds 91 = .ok (.iaload, 1) := by decide +kernel
theorem dX2_holds_92 : decode cX2_holds 92 = .ok (.aload_n 0, 1) := by decide +kernel
theorem dX2_holds_93 : decode cX2_holds 93 = .ok (.getfield 28, 3) := by decide +kernel
theorem dX2_holds_96 : decode cX2_holds 96 = .ok (.iload 5, 2) := by decide +kernel
theorem dX2_holds_98 : decode cX2_holds 98 = .ok (.iaload, 1) := by decide +kernel
theorem dX2_holds_99 : decode cX2_holds 99 = .ok (.invokestatic 44, 3) := by decide +kernel
theorem dX2_holds_102 : decode cX2_holds 102 = .ok (.iastore, 1) := by decide +kernel
theorem dX2_holds_103 : decode cX2_holds 103 = .ok (.goto 45, 3) := by decide +kernel
theorem dX2_holds_106 : decode cX2_holds 106 = .ok (.iload 7, 2) := by decide +kernel
theorem dX2_holds_108 : decode cX2_holds 108 = .ok (.bipush (-11), 2) := by decide +kernel
theorem dX2_holds_110 : decode cX2_holds 110 = .ok (.if_icmp .le 38, 3) := by decide +kernel
theorem dX2_holds_113 : decode cX2_holds 113 = .ok (.iload 5, 2) := by decide +kernel
theorem dX2_holds_115 : decode cX2_holds 115 = .ok (.bipush 32, 2) := by decide +kernel
theorem dX2_holds_117 : decode cX2_holds 117 = .ok (.if_icmp .ge 31, 3) := by decide +kernel
theorem dX2_holds_120 : decode cX2_holds 120 = .ok (.aload_n 0, 1) := by decide +kernel
theorem dX2_holds_121 : decode cX2_holds 121 = .ok (.getfield 28, 3) := by decide +kernel
theorem dX2_holds_124 : decode cX2_holds 124 = .ok (.iload 5, 2) := by decide +kernel
theorem dX2_holds_126 : decode cX2_holds 126 = .ok (.iload 7, 2) := by decide +kernel
theorem dX2_holds_128 : decode cX2_holds 128 = .ok (.ifCond .lt 8, 3) := by decide +kernel
theorem dX2_holds_131 : decode cX2_holds 131 = .ok (.iload 7, 2) := by decide +kernel
theorem dX2_holds_133 : decode cX2_holds 133 = .ok (.goto 11, 3) := by decide +kernel
theorem dX2_holds_136 : decode cX2_holds 136 = .ok (.iload 7, 2) := by decide +kernel
theorem dX2_holds_138 : decode cX2_holds 138 = .ok (.aload_n 3, 1) := by decide +kernel
theorem dX2_holds_139 : decode cX2_holds 139 = .ok (.iload 4, 2) := by decide +kernel
theorem dX2_holds_141 : decode cX2_holds 141 = .ok (.invokestatic 48, 3) := by decide +kernel
theorem dX2_holds_144 : decode cX2_holds 144 = .ok (.iastore, 1) := by decide +kernel
theorem dX2_holds_145 : decode cX2_holds 145 = .ok (.iinc 5 1, 3) := by decide +kernel
theorem dX2_holds_148 : decode cX2_holds 148 = .ok (.iinc 6 1, 3) := by decide +kernel
theorem dX2_holds_151 : decode cX2_holds 151 = .ok (.goto (-145), 3) := by decide +kernel
theorem dX2_holds_154 : decode cX2_holds 154 = .ok (.iload 5, 2) := by decide +kernel
theorem dX2_holds_156 : decode cX2_holds 156 = .ok (.ifCond .eq 12, 3) := by decide +kernel
theorem dX2_holds_159 : decode cX2_holds 159 = .ok (.aload_n 0, 1) := by decide +kernel
theorem dX2_holds_160 : decode cX2_holds 160 = .ok (.getfield 28, 3) := by decide +kernel
theorem dX2_holds_163 : decode cX2_holds 163 = .ok (.iconst 0, 1) := by decide +kernel
theorem dX2_holds_164 : decode cX2_holds 164 = .ok (.iaload, 1) := by decide +kernel
theorem dX2_holds_165 : decode cX2_holds 165 = .ok (.ifCond .eq 7, 3) := by decide +kernel
theorem dX2_holds_168 : decode cX2_holds 168 = .ok (.iconst 1, 1) := by decide +kernel
theorem dX2_holds_169 : decode cX2_holds 169 = .ok (.goto 4, 3) := by decide +kernel
theorem dX2_holds_172 : decode cX2_holds 172 = .ok (.iconst 0, 1) := by decide +kernel
theorem dX2_holds_173 : decode cX2_holds 173 = .ok (.ireturn, 1) := by decide +kernel
theorem dX2_joined_0 : decode cX2_joined 0 = .ok (.iload_n 0, 1) := by decide +kernel
theorem dX2_joined_1 : decode cX2_joined 1 = .ok (.tableswitch 69 (-16) (-12) #[58, 47, 43, 39, 35], 35) := by decide +kernel
theorem dX2_joined_36 : decode cX2_joined 36 = .ok (.iload_n 1, 1) := by decide +kernel
theorem dX2_joined_37 : decode cX2_joined 37 = .ok (.iload_n 2, 1) := by decide +kernel
theorem dX2_joined_38 : decode cX2_joined 38 = .ok (.iand, 1) := by decide +kernel
theorem dX2_joined_39 : decode cX2_joined 39 = .ok (.ireturn, 1) := by decide +kernel
theorem dX2_joined_40 : decode cX2_joined 40 = .ok (.iload_n 1, 1) := by decide +kernel
theorem dX2_joined_41 : decode cX2_joined 41 = .ok (.iload_n 2, 1) := by decide +kernel
theorem dX2_joined_42 : decode cX2_joined 42 = .ok (.ior, 1) := by decide +kernel
theorem dX2_joined_43 : decode cX2_joined 43 = .ok (.ireturn, 1) := by decide +kernel
theorem dX2_joined_44 : decode cX2_joined 44 = .ok (.iload_n 1, 1) := by decide +kernel
theorem dX2_joined_45 : decode cX2_joined 45 = .ok (.iload_n 2, 1) := by decide +kernel
theorem dX2_joined_46 : decode cX2_joined 46 = .ok (.iadd, 1) := by decide +kernel
theorem dX2_joined_47 : decode cX2_joined 47 = .ok (.ireturn, 1) := by decide +kernel
theorem dX2_joined_48 : decode cX2_joined 48 = .ok (.iload_n 1, 1) := by decide +kernel
theorem dX2_joined_49 : decode cX2_joined 49 = .ok (.iload_n 2, 1) := by decide +kernel
theorem dX2_joined_50 : decode cX2_joined 50 = .ok (.if_icmp .ge 7, 3) := by decide +kernel
theorem dX2_joined_53 : decode cX2_joined 53 = .ok (.iconst 1, 1) := by decide +kernel
theorem dX2_joined_54 : decode cX2_joined 54 = .ok (.goto 4, 3) := by decide +kernel
theorem dX2_joined_57 : decode cX2_joined 57 = .ok (.iconst 0, 1) := by decide +kernel
theorem dX2_joined_58 : decode cX2_joined 58 = .ok (.ireturn, 1) := by decide +kernel
theorem dX2_joined_59 : decode cX2_joined 59 = .ok (.iload_n 1, 1) := by decide +kernel
theorem dX2_joined_60 : decode cX2_joined 60 = .ok (.iload_n 2, 1) := by decide +kernel
theorem dX2_joined_61 : decode cX2_joined 61 = .ok (.if_icmp .le 7, 3) := by decide +kernel
theorem dX2_joined_64 : decode cX2_joined 64 = .ok (.iconst 1, 1) := by decide +kernel
theorem dX2_joined_65 : decode cX2_joined 65 = .ok (.goto 4, 3) := by decide +kernel
theorem dX2_joined_68 : decode cX2_joined 68 = .ok (.iconst 0, 1) := by decide +kernel
theorem dX2_joined_69 : decode cX2_joined 69 = .ok (.ireturn, 1) := by decide +kernel
theorem dX2_joined_70 : decode cX2_joined 70 = .ok (.iconst 0, 1) := by decide +kernel
theorem dX2_joined_71 : decode cX2_joined 71 = .ok (.ireturn, 1) := by decide +kernel
theorem dX2_measure_0 : decode cX2_measure 0 = .ok (.iload_n 2, 1) := by decide +kernel
theorem dX2_measure_1 : decode cX2_measure 1 = .ok (.ifCond .lt 9, 3) := by decide +kernel
theorem dX2_measure_4 : decode cX2_measure 4 = .ok (.iload_n 2, 1) := by decide +kernel
theorem dX2_measure_5 : decode cX2_measure 5 = .ok (.bipush 8, 2) := by decide +kernel
theorem dX2_measure_7 : decode cX2_measure 7 = .ok (.if_icmp .lt 7, 3) := by decide +kernel
theorem dX2_measure_10 : decode cX2_measure 10 = .ok (.iconst 1, 1) := by decide +kernel
theorem dX2_measure_11 : decode cX2_measure 11 = .ok (.goto 4, 3) := by decide +kernel
theorem dX2_measure_14 : decode cX2_measure 14 = .ok (.iconst 0, 1) := by decide +kernel
theorem dX2_measure_15 : decode cX2_measure 15 = .ok (.istore_n 3, 1) := by decide +kernel
theorem dX2_measure_16 : decode cX2_measure 16 = .ok (.aload_n 1, 1) := by decide +kernel
theorem dX2_measure_17 : decode cX2_measure 17 = .ok (.getfield 52, 3) := by decide +kernel
theorem dX2_measure_20 : decode cX2_measure 20 = .ok (.bipush 12, 2) := by decide +kernel
theorem dX2_measure_22 : decode cX2_measure 22 = .ok (.irem, 1) := by decide +kernel
theorem dX2_measure_23 : decode cX2_measure 23 = .ok (.istore 4, 2) := by decide +kernel
theorem dX2_measure_25 : decode cX2_measure 25 = .ok (.iload_n 0, 1) := by decide +kernel
theorem dX2_measure_26 : decode cX2_measure 26 = .ok (.tableswitch 170 (-10) (-1) #[153, 139, 126, 123, 115, 110, 95, 80, 65, 54], 54) := by decide +kernel
theorem dX2_measure_80 : decode cX2_measure 80 = .ok (.iload_n 3, 1) := by decide +kernel
theorem dX2_measure_81 : decode cX2_measure 81 = .ok (.ifCond .eq 8, 3) := by decide +kernel
theorem dX2_measure_84 : decode cX2_measure 84 = .ok (.bipush 9, 2) := by decide +kernel
theorem dX2_measure_86 : decode cX2_measure 86 = .ok (.goto 4, 3) := by decide +kernel
theorem dX2_measure_89 : decode cX2_measure 89 = .ok (.iload_n 2, 1) := by decide +kernel
theorem dX2_measure_90 : decode cX2_measure 90 = .ok (.ireturn, 1) := by decide +kernel
theorem dX2_measure_91 : decode cX2_measure 91 = .ok (.iload_n 3, 1) := by decide +kernel
theorem dX2_measure_92 : decode cX2_measure 92 = .ok (.ifCond .eq 7, 3) := by decide +kernel
theorem dX2_measure_95 : decode cX2_measure 95 = .ok (.iconst 0, 1) := by decide +kernel
theorem dX2_measure_96 : decode cX2_measure 96 = .ok (.goto 9, 3) := by decide +kernel
theorem dX2_measure_99 : decode cX2_measure 99 = .ok (.aload_n 1, 1) := by decide +kernel
theorem dX2_measure_100 : decode cX2_measure 100 = .ok (.getfield 57, 3) := by decide +kernel
theorem dX2_measure_103 : decode cX2_measure 103 = .ok (.iload_n 2, 1) := by decide +kernel
theorem dX2_measure_104 : decode cX2_measure 104 = .ok (.iaload, 1) := by decide +kernel
theorem dX2_measure_105 : decode cX2_measure 105 = .ok (.ireturn, 1) := by decide +kernel
theorem dX2_measure_106 : decode cX2_measure 106 = .ok (.iload_n 3, 1) := by decide +kernel
theorem dX2_measure_107 : decode cX2_measure 107 = .ok (.ifCond .eq 7, 3) := by decide +kernel
theorem dX2_measure_110 : decode cX2_measure 110 = .ok (.iconst 0, 1) := by decide +kernel
theorem dX2_measure_111 : decode cX2_measure 111 = .ok (.goto 9, 3) := by decide +kernel
theorem dX2_measure_114 : decode cX2_measure 114 = .ok (.aload_n 1, 1) := by decide +kernel
theorem dX2_measure_115 : decode cX2_measure 115 = .ok (.getfield 60, 3) := by decide +kernel
theorem dX2_measure_118 : decode cX2_measure 118 = .ok (.iload_n 2, 1) := by decide +kernel
theorem dX2_measure_119 : decode cX2_measure 119 = .ok (.iaload, 1) := by decide +kernel
theorem dX2_measure_120 : decode cX2_measure 120 = .ok (.ireturn, 1) := by decide +kernel
theorem dX2_measure_121 : decode cX2_measure 121 = .ok (.iload_n 3, 1) := by decide +kernel
theorem dX2_measure_122 : decode cX2_measure 122 = .ok (.ifCond .eq 7, 3) := by decide +kernel
theorem dX2_measure_125 : decode cX2_measure 125 = .ok (.iconst 0, 1) := by decide +kernel
theorem dX2_measure_126 : decode cX2_measure 126 = .ok (.goto 9, 3) := by decide +kernel
theorem dX2_measure_129 : decode cX2_measure 129 = .ok (.aload_n 1, 1) := by decide +kernel
theorem dX2_measure_130 : decode cX2_measure 130 = .ok (.getfield 63, 3) := by decide +kernel
theorem dX2_measure_133 : decode cX2_measure 133 = .ok (.iload_n 2, 1) := by decide +kernel
theorem dX2_measure_134 : decode cX2_measure 134 = .ok (.iaload, 1) := by decide +kernel
theorem dX2_measure_135 : decode cX2_measure 135 = .ok (.ireturn, 1) := by decide +kernel
theorem dX2_measure_136 : decode cX2_measure 136 = .ok (.aload_n 1, 1) := by decide +kernel
theorem dX2_measure_137 : decode cX2_measure 137 = .ok (.getfield 66, 3) := by decide +kernel
theorem dX2_measure_140 : decode cX2_measure 140 = .ok (.ireturn, 1) := by decide +kernel
theorem dX2_measure_141 : decode cX2_measure 141 = .ok (.aload_n 1, 1) := by decide +kernel
theorem dX2_measure_142 : decode cX2_measure 142 = .ok (.getfield 69, 3) := by decide +kernel
theorem dX2_measure_145 : decode cX2_measure 145 = .ok (.iload 4, 2) := by decide +kernel
theorem dX2_measure_147 : decode cX2_measure 147 = .ok (.iaload, 1) := by decide +kernel
theorem dX2_measure_148 : decode cX2_measure 148 = .ok (.ireturn, 1) := by decide +kernel
theorem dX2_measure_149 : decode cX2_measure 149 = .ok (.iload 4, 2) := by decide +kernel
theorem dX2_measure_151 : decode cX2_measure 151 = .ok (.ireturn, 1) := by decide +kernel
theorem dX2_measure_152 : decode cX2_measure 152 = .ok (.aload_n 1, 1) := by decide +kernel
theorem dX2_measure_153 : decode cX2_measure 153 = .ok (.getfield 72, 3) := by decide +kernel
theorem dX2_measure_156 : decode cX2_measure 156 = .ok (.ifCond .eq 7, 3) := by decide +kernel
theorem dX2_measure_159 : decode cX2_measure 159 = .ok (.iconst 1, 1) := by decide +kernel
theorem dX2_measure_160 : decode cX2_measure 160 = .ok (.goto 4, 3) := by decide +kernel
theorem dX2_measure_163 : decode cX2_measure 163 = .ok (.iconst 0, 1) := by decide +kernel
theorem dX2_measure_164 : decode cX2_measure 164 = .ok (.ireturn, 1) := by decide +kernel
theorem dX2_measure_165 : decode cX2_measure 165 = .ok (.aload_n 1, 1) := by decide +kernel
theorem dX2_measure_166 : decode cX2_measure 166 = .ok (.getfield 66, 3) := by decide +kernel
theorem dX2_measure_169 : decode cX2_measure 169 = .ok (.iconst 2, 1) := by decide +kernel
theorem dX2_measure_170 : decode cX2_measure 170 = .ok (.if_icmp .gt 7, 3) := by decide +kernel
theorem dX2_measure_173 : decode cX2_measure 173 = .ok (.iconst 1, 1) := by decide +kernel
theorem dX2_measure_174 : decode cX2_measure 174 = .ok (.goto 4, 3) := by decide +kernel
theorem dX2_measure_177 : decode cX2_measure 177 = .ok (.iconst 0, 1) := by decide +kernel
theorem dX2_measure_178 : decode cX2_measure 178 = .ok (.ireturn, 1) := by decide +kernel
theorem dX2_measure_179 : decode cX2_measure 179 = .ok (.iload_n 3, 1) := by decide +kernel
theorem dX2_measure_180 : decode cX2_measure 180 = .ok (.ifCond .eq 7, 3) := by decide +kernel
theorem dX2_measure_183 : decode cX2_measure 183 = .ok (.iconst 0, 1) := by decide +kernel
theorem dX2_measure_184 : decode cX2_measure 184 = .ok (.goto 11, 3) := by decide +kernel
theorem dX2_measure_187 : decode cX2_measure 187 = .ok (.aload_n 1, 1) := by decide +kernel
theorem dX2_measure_188 : decode cX2_measure 188 = .ok (.getfield 76, 3) := by decide +kernel
theorem dX2_measure_191 : decode cX2_measure 191 = .ok (.iload_n 2, 1) := by decide +kernel
theorem dX2_measure_192 : decode cX2_measure 192 = .ok (.ishr, 1) := by decide +kernel
theorem dX2_measure_193 : decode cX2_measure 193 = .ok (.iconst 1, 1) := by decide +kernel
theorem dX2_measure_194 : decode cX2_measure 194 = .ok (.iand, 1) := by decide +kernel
theorem dX2_measure_195 : decode cX2_measure 195 = .ok (.ireturn, 1) := by decide +kernel
theorem dX2_measure_196 : decode cX2_measure 196 = .ok (.iconst 0, 1) := by decide +kernel
theorem dX2_measure_197 : decode cX2_measure 197 = .ok (.ireturn, 1) := by decide +kernel
theorem dX3_init_0 : decode cX3_init 0 = .ok (.aload_n 0, 1) := by decide +kernel
theorem dX3_init_1 : decode cX3_init 1 = .ok (.aload_n 1, 1) := by decide +kernel
theorem dX3_init_2 : decode cX3_init 2 = .ok (.invokespecial 3, 3) := by decide +kernel
theorem dX3_init_5 : decode cX3_init 5 = .ok (.aload_n 0, 1) := by decide +kernel
theorem dX3_init_6 : decode cX3_init 6 = .ok (.aload_n 2, 1) := by decide +kernel
theorem dX3_init_7 : decode cX3_init 7 = .ok (.putfield 9, 3) := by decide +kernel
theorem dX3_init_10 : decode cX3_init 10 = .ok (.return_, 1) := by decide +kernel
theorem dX3_readLine_0 : decode cX3_readLine 0 = .ok (.aload_n 0, 1) := by decide +kernel
theorem dX3_readLine_1 : decode cX3_readLine 1 = .ok (.invokevirtual 15, 3) := by decide +kernel
theorem dX3_readLine_4 : decode cX3_readLine 4 = .ok (.istore_n 1, 1) := by decide +kernel
theorem dX3_readLine_5 : decode cX3_readLine 5 = .ok (.iload_n 1, 1) := by decide +kernel
theorem dX3_readLine_6 : decode cX3_readLine 6 = .ok (.iconst (-1), 1) := by decide +kernel
theorem dX3_readLine_7 : decode cX3_readLine 7 = .ok (.if_icmp .eq 13, 3) := by decide +kernel
theorem dX3_readLine_10 : decode cX3_readLine 10 = .ok (.aload_n 0, 1) := by decide +kernel
theorem dX3_readLine_11 : decode cX3_readLine 11 = .ok (.iconst 0, 1) := by decide +kernel
theorem dX3_readLine_12 : decode cX3_readLine 12 = .ok (.bipush 40, 2) := by decide +kernel
theorem dX3_readLine_14 : decode cX3_readLine 14 = .ok (.invokevirtual 19, 3) := by decide +kernel
theorem dX3_readLine_17 : decode cX3_readLine 17 = .ok (.ifCond .ne 5, 3) := by decide +kernel
theorem dX3_readLine_20 : decode cX3_readLine 20 = .ok (.iconst 0, 1) := by decide +kernel
theorem dX3_readLine_21 : decode cX3_readLine 21 = .ok (.ireturn, 1) := by decide +kernel
theorem dX3_readLine_22 : decode cX3_readLine 22 = .ok (.aload_n 0, 1) := by decide +kernel
theorem dX3_readLine_23 : decode cX3_readLine 23 = .ok (.getfield 9, 3) := by decide +kernel
theorem dX3_readLine_26 : decode cX3_readLine 26 = .ok (.iload_n 1, 1) := by decide +kernel
theorem dX3_readLine_27 : decode cX3_readLine 27 = .ok (.aload_n 0, 1) := by decide +kernel
theorem dX3_readLine_28 : decode cX3_readLine 28 = .ok (.getfield 23, 3) := by decide +kernel
theorem dX3_readLine_31 : decode cX3_readLine 31 = .ok (.invokevirtual 27, 3) := by decide +kernel
theorem dX3_readLine_34 : decode cX3_readLine 34 = .ok (.aload_n 0, 1) := by decide +kernel
theorem dX3_readLine_35 : decode cX3_readLine 35 = .ok (.ldc 33, 2) := by decide +kernel
theorem dX3_readLine_37 : decode cX3_readLine 37 = .ok (.invokevirtual 35, 3) := by decide +kernel
theorem dX3_readLine_40 : decode cX3_readLine 40 = .ok (.ifCond .eq 13, 3) := by decide +kernel
theorem dX3_readLine_43 : decode cX3_readLine 43 = .ok (.aload_n 0, 1) := by decide +kernel
theorem dX3_readLine_44 : decode cX3_readLine 44 = .ok (.iconst 0, 1) := by decide +kernel
theorem dX3_readLine_45 : decode cX3_readLine 45 = .ok (.invokevirtual 39, 3) := by decide +kernel
theorem dX3_readLine_48 : decode cX3_readLine 48 = .ok (.ifCond .ne 5, 3) := by decide +kernel
theorem dX3_readLine_51 : decode cX3_readLine 51 = .ok (.iconst 0, 1) := by decide +kernel
theorem dX3_readLine_52 : decode cX3_readLine 52 = .ok (.ireturn, 1) := by decide +kernel
theorem dX3_readLine_53 : decode cX3_readLine 53 = .ok (.aload_n 0, 1) := by decide +kernel
theorem dX3_readLine_54 : decode cX3_readLine 54 = .ok (.getfield 9, 3) := by decide +kernel
theorem dX3_readLine_57 : decode cX3_readLine 57 = .ok (.invokevirtual 43, 3) := by decide +kernel
theorem dX3_readLine_60 : decode cX3_readLine 60 = .ok (.iconst 1, 1) := by decide +kernel
theorem dX3_readLine_61 : decode cX3_readLine 61 = .ok (.ireturn, 1) := by decide +kernel
theorem dX3_takeKind_0 : decode cX3_takeKind 0 = .ok (.aload_n 0, 1) := by decide +kernel
theorem dX3_takeKind_1 : decode cX3_takeKind 1 = .ok (.ldc 47, 2) := by decide +kernel
theorem dX3_takeKind_3 : decode cX3_takeKind 3 = .ok (.invokevirtual 35, 3) := by decide +kernel
theorem dX3_takeKind_6 : decode cX3_takeKind 6 = .ok (.ifCond .eq 5, 3) := by decide +kernel
theorem dX3_takeKind_9 : decode cX3_takeKind 9 = .ok (.iconst 0, 1) := by decide +kernel
theorem dX3_takeKind_10 : decode cX3_takeKind 10 = .ok (.ireturn, 1) := by decide +kernel
theorem dX3_takeKind_11 : decode cX3_takeKind 11 = .ok (.aload_n 0, 1) := by decide +kernel
theorem dX3_takeKind_12 : decode cX3_takeKind 12 = .ok (.ldc 49, 2) := by decide +kernel
theorem dX3_takeKind_14 : decode cX3_takeKind 14 = .ok (.invokevirtual 35, 3) := by decide +kernel
theorem dX3_takeKind_17 : decode cX3_takeKind 17 = .ok (.ifCond .eq 5, 3) := by decide +kernel
theorem dX3_takeKind_20 : decode cX3_takeKind 20 = .ok (.iconst 1, 1) := by decide +kernel
theorem dX3_takeKind_21 : decode cX3_takeKind 21 = .ok (.ireturn, 1) := by decide +kernel
theorem dX3_takeKind_22 : decode cX3_takeKind 22 = .ok (.aload_n 0, 1) := by decide +kernel
theorem dX3_takeKind_23 : decode cX3_takeKind 23 = .ok (.ldc 51, 2) := by decide +kernel
theorem dX3_takeKind_25 : decode cX3_takeKind 25 = .ok (.invokevirtual 35, 3) := by decide +kernel
theorem dX3_takeKind_28 : decode cX3_takeKind 28 = .ok (.ifCond .eq 7, 3) := by decide +kernel
theorem dX3_takeKind_31 : decode cX3_takeKind 31 = .ok (.iconst 2, 1) := by decide +kernel
theorem dX3_takeKind_32 : decode cX3_takeKind 32 = .ok (.goto 4, 3) := by decide +kernel
theorem dX3_takeKind_35 : decode cX3_takeKind 35 = .ok (.iconst (-1), 1) := by decide +kernel
theorem dX3_takeKind_36 : decode cX3_takeKind 36 = .ok (.ireturn, 1) := by decide +kernel
theorem dX3_readAny_0 : decode cX3_readAny 0 = .ok (.aload_n 0, 1) := by decide +kernel
theorem dX3_readAny_1 : decode cX3_readAny 1 = .ok (.iload_n 1, 1) := by decide +kernel
theorem dX3_readAny_2 : decode cX3_readAny 2 = .ok (.invokevirtual 53, 3) := by decide +kernel
theorem dX3_readAny_5 : decode cX3_readAny 5 = .ok (.ifCond .ne 5, 3) := by decide +kernel
theorem dX3_readAny_8 : decode cX3_readAny 8 = .ok (.iconst 0, 1) := by decide +kernel
theorem dX3_readAny_9 : decode cX3_readAny 9 = .ok (.ireturn, 1) := by decide +kernel
theorem dX3_readAny_10 : decode cX3_readAny 10 = .ok (.iconst 0, 1) := by decide +kernel
theorem dX3_readAny_11 : decode cX3_readAny 11 = .ok (.istore_n 2, 1) := by decide +kernel
theorem dX3_readAny_12 : decode cX3_readAny 12 = .ok (.iload_n 2, 1) := by decide +kernel
theorem dX3_readAny_13 : decode cX3_readAny 13 = .ok (.sipush 400, 3) := by decide +kernel
theorem dX3_readAny_16 : decode cX3_readAny 16 = .ok (.if_icmp .ge 38, 3) := by decide +kernel
theorem dX3_readAny_19 : decode cX3_readAny 19 = .ok (.aload_n 0, 1) := by decide +kernel
theorem dX3_readAny_20 : decode cX3_readAny 20 = .ok (.ldc 56, 2) := by decide +kernel
theorem dX3_readAny_22 : decode cX3_readAny 22 = .ok (.invokevirtual 35, 3) := by decide +kernel
theorem dX3_readAny_25 : decode cX3_readAny 25 = .ok (.ifCond .eq 29, 3) := by decide +kernel
theorem dX3_readAny_28 : decode cX3_readAny 28 = .ok (.aload_n 0, 1) := by decide +kernel
theorem dX3_readAny_29 : decode cX3_readAny 29 = .ok (.iload_n 1, 1) := by decide +kernel
theorem dX3_readAny_30 : decode cX3_readAny 30 = .ok (.invokevirtual 53, 3) := by decide +kernel
theorem dX3_readAny_33 : decode cX3_readAny 33 = .ok (.ifCond .ne 5, 3) := by decide +kernel
theorem dX3_readAny_36 : decode cX3_readAny 36 = .ok (.iconst 0, 1) := by decide +kernel
theorem dX3_readAny_37 : decode cX3_readAny 37 = .ok (.ireturn, 1) := by decide +kernel
theorem dX3_readAny_38 : decode cX3_readAny 38 = .ok (.aload_n 0, 1) := by decide +kernel
theorem dX3_readAny_39 : decode cX3_readAny 39 = .ok (.getfield 9, 3) := by decide +kernel
theorem dX3_readAny_42 : decode cX3_readAny 42 = .ok (.bipush (-13), 2) := by decide +kernel
theorem dX3_readAny_44 : decode cX3_readAny 44 = .ok (.invokevirtual 58, 3) := by decide +kernel
theorem dX3_readAny_47 : decode cX3_readAny 47 = .ok (.pop, 1) := by decide +kernel
theorem dX3_readAny_48 : decode cX3_readAny 48 = .ok (.iinc 2 1, 3) := by decide +kernel
theorem dX3_readAny_51 : decode cX3_readAny 51 = .ok (.goto (-39), 3) := by decide +kernel
theorem dX3_readAny_54 : decode cX3_readAny 54 = .ok (.iconst 1, 1) := by decide +kernel
theorem dX3_readAny_55 : decode cX3_readAny 55 = .ok (.ireturn, 1) := by decide +kernel
theorem dX3_readAll_0 : decode cX3_readAll 0 = .ok (.aload_n 0, 1) := by decide +kernel
theorem dX3_readAll_1 : decode cX3_readAll 1 = .ok (.iload_n 1, 1) := by decide +kernel
theorem dX3_readAll_2 : decode cX3_readAll 2 = .ok (.invokevirtual 61, 3) := by decide +kernel
theorem dX3_readAll_5 : decode cX3_readAll 5 = .ok (.ifCond .ne 5, 3) := by decide +kernel
theorem dX3_readAll_8 : decode cX3_readAll 8 = .ok (.iconst 0, 1) := by decide +kernel
theorem dX3_readAll_9 : decode cX3_readAll 9 = .ok (.ireturn, 1) := by decide +kernel
theorem dX3_readAll_10 : decode cX3_readAll 10 = .ok (.iconst 0, 1) := by decide +kernel
theorem dX3_readAll_11 : decode cX3_readAll 11 = .ok (.istore_n 2, 1) := by decide +kernel
theorem dX3_readAll_12 : decode cX3_readAll 12 = .ok (.iload_n 2, 1) := by decide +kernel
theorem dX3_readAll_13 : decode cX3_readAll 13 = .ok (.sipush 400, 3) := by decide +kernel
theorem dX3_readAll_16 : decode cX3_readAll 16 = .ok (.if_icmp .ge 38, 3) := by decide +kernel
theorem dX3_readAll_19 : decode cX3_readAll 19 = .ok (.aload_n 0, 1) := by decide +kernel
theorem dX3_readAll_20 : decode cX3_readAll 20 = .ok (.ldc 64, 2) := by decide +kernel
theorem dX3_readAll_22 : decode cX3_readAll 22 = .ok (.invokevirtual 35, 3) := by decide +kernel
theorem dX3_readAll_25 : decode cX3_readAll 25 = .ok (.ifCond .eq 29, 3) := by decide +kernel
theorem dX3_readAll_28 : decode cX3_readAll 28 = .ok (.aload_n 0, 1) := by decide +kernel
theorem dX3_readAll_29 : decode cX3_readAll 29 = .ok (.iload_n 1, 1) := by decide +kernel
theorem dX3_readAll_30 : decode cX3_readAll 30 = .ok (.invokevirtual 61, 3) := by decide +kernel
theorem dX3_readAll_33 : decode cX3_readAll 33 = .ok (.ifCond .ne 5, 3) := by decide +kernel
theorem dX3_readAll_36 : decode cX3_readAll 36 = .ok (.iconst 0, 1) := by decide +kernel
theorem dX3_readAll_37 : decode cX3_readAll 37 = .ok (.ireturn, 1) := by decide +kernel
theorem dX3_readAll_38 : decode cX3_readAll 38 = .ok (.aload_n 0, 1) := by decide +kernel
theorem dX3_readAll_39 : decode cX3_readAll 39 = .ok (.getfield 9, 3) := by decide +kernel
theorem dX3_readAll_42 : decode cX3_readAll 42 = .ok (.bipush (-12), 2) := by decide +kernel
theorem dX3_readAll_44 : decode cX3_readAll 44 = .ok (.invokevirtual 58, 3) := by decide +kernel
theorem dX3_readAll_47 : decode cX3_readAll 47 = .ok (.pop, 1) := by decide +kernel
theorem dX3_readAll_48 : decode cX3_readAll 48 = .ok (.iinc 2 1, 3) := by decide +kernel
theorem dX3_readAll_51 : decode cX3_readAll 51 = .ok (.goto (-39), 3) := by decide +kernel
theorem dX3_readAll_54 : decode cX3_readAll 54 = .ok (.iconst 1, 1) := by decide +kernel
theorem dX3_readAll_55 : decode cX3_readAll 55 = .ok (.ireturn, 1) := by decide +kernel
theorem dX3_readAtom_0 : decode cX3_readAtom 0 = .ok (.aload_n 0, 1) := by decide +kernel
theorem dX3_readAtom_1 : decode cX3_readAtom 1 = .ok (.getfield 66, 3) := by decide +kernel
theorem dX3_readAtom_4 : decode cX3_readAtom 4 = .ok (.istore_n 2, 1) := by decide +kernel
theorem dX3_readAtom_5 : decode cX3_readAtom 5 = .ok (.aload_n 0, 1) := by decide +kernel
theorem dX3_readAtom_6 : decode cX3_readAtom 6 = .ok (.ldc 69, 2) := by decide +kernel
theorem dX3_readAtom_8 : decode cX3_readAtom 8 = .ok (.invokevirtual 35, 3) := by decide +kernel
theorem dX3_readAtom_11 : decode cX3_readAtom 11 = .ok (.istore_n 3, 1) := by decide +kernel
theorem dX3_readAtom_12 : decode cX3_readAtom 12 = .ok (.iload_n 3, 1) := by decide +kernel
theorem dX3_readAtom_13 : decode cX3_readAtom 13 = .ok (.ifCond .ne 16, 3) := by decide +kernel
theorem dX3_readAtom_16 : decode cX3_readAtom 16 = .ok (.aload_n 0, 1) := by decide +kernel
theorem dX3_readAtom_17 : decode cX3_readAtom 17 = .ok (.bipush 40, 2) := by decide +kernel
theorem dX3_readAtom_19 : decode cX3_readAtom 19 = .ok (.invokevirtual 71, 3) := by decide +kernel
theorem dX3_readAtom_22 : decode cX3_readAtom 22 = .ok (.ifCond .eq 7, 3) := by decide +kernel
theorem dX3_readAtom_25 : decode cX3_readAtom 25 = .ok (.iconst 1, 1) := by decide +kernel
theorem dX3_readAtom_26 : decode cX3_readAtom 26 = .ok (.goto 4, 3) := by decide +kernel
theorem dX3_readAtom_29 : decode cX3_readAtom 29 = .ok (.iconst 0, 1) := by decide +kernel
theorem dX3_readAtom_30 : decode cX3_readAtom 30 = .ok (.istore 4, 2) := by decide +kernel
theorem dX3_readAtom_32 : decode cX3_readAtom 32 = .ok (.iload_n 3, 1) := by decide +kernel
theorem dX3_readAtom_33 : decode cX3_readAtom 33 = .ok (.ifCond .ne 8, 3) := by decide +kernel
theorem dX3_readAtom_36 : decode cX3_readAtom 36 = .ok (.iload 4, 2) := by decide +kernel
theorem dX3_readAtom_38 : decode cX3_readAtom 38 = .ok (.ifCond .eq 16, 3) := by decide +kernel
theorem dX3_readAtom_41 : decode cX3_readAtom 41 = .ok (.iload_n 1, 1) := by decide +kernel
theorem dX3_readAtom_42 : decode cX3_readAtom 42 = .ok (.bipush 6, 2) := by decide +kernel
theorem dX3_readAtom_44 : decode cX3_readAtom 44 = .ok (.if_icmp .lt 10, 3) := by decide +kernel
theorem dX3_readAtom_47 : decode cX3_readAtom 47 = .ok (.aload_n 0, 1) := by decide +kernel
theorem dX3_readAtom_48 : decode cX3_readAtom 48 = .ok (.iload_n 2, 1) := by decide +kernel
theorem dX3_readAtom_49 : decode cX3_readAtom 49 = .ok (.putfield 66, 3) := by decide +kernel
theorem dX3_readAtom_52 : decode cX3_readAtom 52 = .ok (.iconst 0, 1) := by decide +kernel
theorem dX3_readAtom_53 : decode cX3_readAtom 53 = .ok (.ireturn, 1) := by decide +kernel
theorem dX3_readAtom_54 : decode cX3_readAtom 54 = .ok (.iload_n 3, 1) := by decide +kernel
theorem dX3_readAtom_55 : decode cX3_readAtom 55 = .ok (.ifCond .eq 31, 3) := by decide +kernel
theorem dX3_readAtom_58 : decode cX3_readAtom 58 = .ok (.aload_n 0, 1) := by decide +kernel
theorem dX3_readAtom_59 : decode cX3_readAtom 59 = .ok (.iload_n 1, 1) := by decide +kernel
theorem dX3_readAtom_60 : decode cX3_readAtom 60 = .ok (.iconst 1, 1) := by decide +kernel
theorem dX3_readAtom_61 : decode cX3_readAtom 61 = .ok (.iadd, 1) := by decide +kernel
theorem dX3_readAtom_62 : decode cX3_readAtom 62 = .ok (.invokevirtual 61, 3) := by decide +kernel
theorem dX3_readAtom_65 : decode cX3_readAtom 65 = .ok (.ifCond .eq 19, 3) := by decide +kernel
theorem dX3_readAtom_68 : decode cX3_readAtom 68 = .ok (.aload_n 0, 1) := by decide +kernel
theorem dX3_readAtom_69 : decode cX3_readAtom 69 = .ok (.getfield 9, 3) := by decide +kernel
theorem dX3_readAtom_72 : decode cX3_readAtom 72 = .ok (.bipush (-11), 2) := by decide +kernel
theorem dX3_readAtom_74 : decode cX3_readAtom 74 = .ok (.invokevirtual 58, 3) := by decide +kernel
theorem dX3_readAtom_77 : decode cX3_readAtom 77 = .ok (.ifCond .eq 7, 3) := by decide +kernel
theorem dX3_readAtom_80 : decode cX3_readAtom 80 = .ok (.iconst 1, 1) := by decide +kernel
theorem dX3_readAtom_81 : decode cX3_readAtom 81 = .ok (.goto 4, 3) := by decide +kernel
theorem dX3_readAtom_84 : decode cX3_readAtom 84 = .ok (.iconst 0, 1) := by decide +kernel
theorem dX3_readAtom_85 : decode cX3_readAtom 85 = .ok (.ireturn, 1) := by decide +kernel
theorem dX3_readAtom_86 : decode cX3_readAtom 86 = .ok (.iload 4, 2) := by decide +kernel
theorem dX3_readAtom_88 : decode cX3_readAtom 88 = .ok (.ifCond .eq 28, 3) := by decide +kernel
theorem dX3_readAtom_91 : decode cX3_readAtom 91 = .ok (.aload_n 0, 1) := by decide +kernel
theorem dX3_readAtom_92 : decode cX3_readAtom 92 = .ok (.iload_n 1, 1) := by decide +kernel
theorem dX3_readAtom_93 : decode cX3_readAtom 93 = .ok (.iconst 1, 1) := by decide +kernel
theorem dX3_readAtom_94 : decode cX3_readAtom 94 = .ok (.iadd, 1) := by decide +kernel
theorem dX3_readAtom_95 : decode cX3_readAtom 95 = .ok (.invokevirtual 39, 3) := by decide +kernel
theorem dX3_readAtom_98 : decode cX3_readAtom 98 = .ok (.ifCond .eq 16, 3) := by decide +kernel
theorem dX3_readAtom_101 : decode cX3_readAtom 101 = .ok (.aload_n 0, 1) := by decide +kernel
theorem dX3_readAtom_102 : decode cX3_readAtom 102 = .ok (.bipush 41, 2) := by decide +kernel
theorem dX3_readAtom_104 : decode cX3_readAtom 104 = .ok (.invokevirtual 71, 3) := by decide +kernel
theorem dX3_readAtom_107 : decode cX3_readAtom 107 = .ok (.ifCond .eq 7, 3) := by decide +kernel
theorem dX3_readAtom_110 : decode cX3_readAtom 110 = .ok (.iconst 1, 1) := by decide +kernel
theorem dX3_readAtom_111 : decode cX3_readAtom 111 = .ok (.goto 4, 3) := by decide +kernel
theorem dX3_readAtom_114 : decode cX3_readAtom 114 = .ok (.iconst 0, 1) := by decide +kernel
theorem dX3_readAtom_115 : decode cX3_readAtom 115 = .ok (.ireturn, 1) := by decide +kernel
theorem dX3_readAtom_116 : decode cX3_readAtom 116 = .ok (.aload_n 0, 1) := by decide +kernel
theorem dX3_readAtom_117 : decode cX3_readAtom 117 = .ok (.ldc 75, 2) := by decide +kernel
theorem dX3_readAtom_119 : decode cX3_readAtom 119 = .ok (.invokevirtual 35, 3) := by decide +kernel
theorem dX3_readAtom_122 : decode cX3_readAtom 122 = .ok (.ifCond .eq 13, 3) := by decide +kernel
theorem dX3_readAtom_125 : decode cX3_readAtom 125 = .ok (.aload_n 0, 1) := by decide +kernel
theorem dX3_readAtom_126 : decode cX3_readAtom 126 = .ok (.getfield 9, 3) := by decide +kernel
theorem dX3_readAtom_129 : decode cX3_readAtom 129 = .ok (.bipush (-8), 2) := by decide +kernel
theorem dX3_readAtom_131 : decode cX3_readAtom 131 = .ok (.invokevirtual 58, 3) := by decide +kernel
theorem dX3_readAtom_134 : decode cX3_readAtom 134 = .ok (.ireturn, 1) := by decide +kernel
theorem dX3_readAtom_135 : decode cX3_readAtom 135 = .ok (.aload_n 0, 1) := by decide +kernel
theorem dX3_readAtom_136 : decode cX3_readAtom 136 = .ok (.ldc 77, 2) := by decide +kernel
theorem dX3_readAtom_138 : decode cX3_readAtom 138 = .ok (.invokevirtual 35, 3) := by decide +kernel
theorem dX3_readAtom_141 : decode cX3_readAtom 141 = .ok (.ifCond .eq 13, 3) := by decide +kernel
theorem dX3_readAtom_144 : decode cX3_readAtom 144 = .ok (.aload_n 0, 1) := by decide +kernel
theorem dX3_readAtom_145 : decode cX3_readAtom 145 = .ok (.getfield 9, 3) := by decide +kernel
theorem dX3_readAtom_148 : decode cX3_readAtom 148 = .ok (.bipush (-9), 2) := by decide +kernel
theorem dX3_readAtom_150 : decode cX3_readAtom 150 = .ok (.invokevirtual 58, 3) := by decide +kernel
theorem dX3_readAtom_153 : decode cX3_readAtom 153 = .ok (.ireturn, 1) := by decide +kernel
theorem dX3_readAtom_154 : decode cX3_readAtom 154 = .ok (.aload_n 0, 1) := by decide +kernel
theorem dX3_readAtom_155 : decode cX3_readAtom 155 = .ok (.ldc 79, 2) := by decide +kernel
theorem dX3_readAtom_157 : decode cX3_readAtom 157 = .ok (.invokevirtual 35, 3) := by decide +kernel
theorem dX3_readAtom_160 : decode cX3_readAtom 160 = .ok (.ifCond .eq 13, 3) := by decide +kernel
theorem dX3_readAtom_163 : decode cX3_readAtom 163 = .ok (.aload_n 0, 1) := by decide +kernel
theorem dX3_readAtom_164 : decode cX3_readAtom 164 = .ok (.getfield 9, 3) := by decide +kernel
theorem dX3_readAtom_167 : decode cX3_readAtom 167 = .ok (.bipush (-10), 2) := by decide +kernel
theorem dX3_readAtom_169 : decode cX3_readAtom 169 = .ok (.invokevirtual 58, 3) := by decide +kernel
theorem dX3_readAtom_172 : decode cX3_readAtom 172 = .ok (.ireturn, 1) := by decide +kernel
theorem dX3_readAtom_173 : decode cX3_readAtom 173 = .ok (.aload_n 0, 1) := by decide +kernel
theorem dX3_readAtom_174 : decode cX3_readAtom 174 = .ok (.invokevirtual 81, 3) := by decide +kernel
theorem dX3_readAtom_177 : decode cX3_readAtom 177 = .ok (.ireturn, 1) := by decide +kernel
theorem dX3_readComparison_0 : decode cX3_readComparison 0 = .ok (.aload_n 0, 1) := by decide +kernel
theorem dX3_readComparison_1 : decode cX3_readComparison 1 = .ok (.invokevirtual 85, 3) := by decide +kernel
theorem dX3_readComparison_4 : decode cX3_readComparison 4 = .ok (.ifCond .ne 5, 3) := by decide +kernel
theorem dX3_readComparison_7 : decode cX3_readComparison 7 = .ok (.iconst 0, 1) := by decide +kernel
theorem dX3_readComparison_8 : decode cX3_readComparison 8 = .ok (.ireturn, 1) := by decide +kernel
theorem dX3_readComparison_9 : decode cX3_readComparison 9 = .ok (.aload_n 0, 1) := by decide +kernel
theorem dX3_readComparison_10 : decode cX3_readComparison 10 = .ok (.bipush 60, 2) := by decide +kernel
theorem dX3_readComparison_12 : decode cX3_readComparison 12 = .ok (.invokevirtual 71, 3) := by decide +kernel
theorem dX3_readComparison_15 : decode cX3_readComparison 15 = .ok (.istore_n 1, 1) := by decide +kernel
theorem dX3_readComparison_16 : decode cX3_readComparison 16 = .ok (.iload_n 1, 1) := by decide +kernel
theorem dX3_readComparison_17 : decode cX3_readComparison 17 = .ok (.ifCond .ne 14, 3) := by decide +kernel
theorem dX3_readComparison_20 : decode cX3_readComparison 20 = .ok (.aload_n 0, 1) := by decide +kernel
theorem dX3_readComparison_21 : decode cX3_readComparison 21 = .ok (.bipush 62, 2) := by decide +kernel
theorem dX3_readComparison_23 : decode cX3_readComparison 23 = .ok (.invokevirtual 71, 3) := by decide +kernel
theorem dX3_readComparison_26 : decode cX3_readComparison 26 = .ok (.ifCond .ne 5, 3) := by decide +kernel
theorem dX3_readComparison_29 : decode cX3_readComparison 29 = .ok (.iconst 0, 1) := by decide +kernel
theorem dX3_readComparison_30 : decode cX3_readComparison 30 = .ok (.ireturn, 1) := by decide +kernel
theorem dX3_readComparison_31 : decode cX3_readComparison 31 = .ok (.aload_n 0, 1) := by decide +kernel
theorem dX3_readComparison_32 : decode cX3_readComparison 32 = .ok (.invokevirtual 85, 3) := by decide +kernel
theorem dX3_readComparison_35 : decode cX3_readComparison 35 = .ok (.ifCond .eq 28, 3) := by decide +kernel
theorem dX3_readComparison_38 : decode cX3_readComparison 38 = .ok (.aload_n 0, 1) := by decide +kernel
theorem dX3_readComparison_39 : decode cX3_readComparison 39 = .ok (.getfield 9, 3) := by decide +kernel
theorem dX3_readComparison_42 : decode cX3_readComparison 42 = .ok (.iload_n 1, 1) := by decide +kernel
theorem dX3_readComparison_43 : decode cX3_readComparison 43 = .ok (.ifCond .eq 8, 3) := by decide +kernel
theorem dX3_readComparison_46 : decode cX3_readComparison 46 = .ok (.bipush (-15), 2) := by decide +kernel
theorem dX3_readComparison_48 : decode cX3_readComparison 48 = .ok (.goto 5, 3) := by decide +kernel
theorem dX3_readComparison_51 : decode cX3_readComparison 51 = .ok (.bipush (-16), 2) := by decide +kernel
theorem dX3_readComparison_53 : decode cX3_readComparison 53 = .ok (.invokevirtual 58, 3) := by decide +kernel
theorem dX3_readComparison_56 : decode cX3_readComparison 56 = .ok (.ifCond .eq 7, 3) := by decide +kernel
theorem dX3_readComparison_59 : decode cX3_readComparison 59 = .ok (.iconst 1, 1) := by decide +kernel
theorem dX3_readComparison_60 : decode cX3_readComparison 60 = .ok (.goto 4, 3) := by decide +kernel
theorem dX3_readComparison_63 : decode cX3_readComparison 63 = .ok (.iconst 0, 1) := by decide +kernel
theorem dX3_readComparison_64 : decode cX3_readComparison 64 = .ok (.ireturn, 1) := by decide +kernel
theorem dX3_readSum_0 : decode cX3_readSum 0 = .ok (.aload_n 0, 1) := by decide +kernel
theorem dX3_readSum_1 : decode cX3_readSum 1 = .ok (.invokevirtual 88, 3) := by decide +kernel
theorem dX3_readSum_4 : decode cX3_readSum 4 = .ok (.ifCond .ne 5, 3) := by decide +kernel
theorem dX3_readSum_7 : decode cX3_readSum 7 = .ok (.iconst 0, 1) := by decide +kernel
theorem dX3_readSum_8 : decode cX3_readSum 8 = .ok (.ireturn, 1) := by decide +kernel
theorem dX3_readSum_9 : decode cX3_readSum 9 = .ok (.iconst 0, 1) := by decide +kernel
theorem dX3_readSum_10 : decode cX3_readSum 10 = .ok (.istore_n 1, 1) := by decide +kernel
theorem dX3_readSum_11 : decode cX3_readSum 11 = .ok (.iload_n 1, 1) := by decide +kernel
theorem dX3_readSum_12 : decode cX3_readSum 12 = .ok (.sipush 400, 3) := by decide +kernel
theorem dX3_readSum_15 : decode cX3_readSum 15 = .ok (.if_icmp .ge 37, 3) := by decide +kernel
theorem dX3_readSum_18 : decode cX3_readSum 18 = .ok (.aload_n 0, 1) := by decide +kernel
theorem dX3_readSum_19 : decode cX3_readSum 19 = .ok (.bipush 43, 2) := by decide +kernel
theorem dX3_readSum_21 : decode cX3_readSum 21 = .ok (.invokevirtual 71, 3) := by decide +kernel
theorem dX3_readSum_24 : decode cX3_readSum 24 = .ok (.ifCond .eq 28, 3) := by decide +kernel
theorem dX3_readSum_27 : decode cX3_readSum 27 = .ok (.aload_n 0, 1) := by decide +kernel
theorem dX3_readSum_28 : decode cX3_readSum 28 = .ok (.invokevirtual 88, 3) := by decide +kernel
theorem dX3_readSum_31 : decode cX3_readSum 31 = .ok (.ifCond .ne 5, 3) := by decide +kernel
theorem dX3_readSum_34 : decode cX3_readSum 34 = .ok (.iconst 0, 1) := by decide +kernel
theorem dX3_readSum_35 : decode cX3_readSum 35 = .ok (.ireturn, 1) := by decide +kernel
theorem dX3_readSum_36 : decode cX3_readSum 36 = .ok (.aload_n 0, 1) := by decide +kernel
theorem dX3_readSum_37 : decode cX3_readSum 37 = .ok (.getfield 9, 3) := by decide +kernel
theorem dX3_readSum_40 : decode cX3_readSum 40 = .ok (.bipush (-14), 2) := by decide +kernel
theorem dX3_readSum_42 : decode cX3_readSum 42 = .ok (.invokevirtual 58, 3) := by decide +kernel
theorem dX3_readSum_45 : decode cX3_readSum 45 = .ok (.pop, 1) := by decide +kernel
theorem dX3_readSum_46 : decode cX3_readSum 46 = .ok (.iinc 1 1, 3) := by decide +kernel
theorem dX3_readSum_49 : decode cX3_readSum 49 = .ok (.goto (-38), 3) := by decide +kernel
theorem dX3_readSum_52 : decode cX3_readSum 52 = .ok (.iconst 1, 1) := by decide +kernel
theorem dX3_readSum_53 : decode cX3_readSum 53 = .ok (.ireturn, 1) := by decide +kernel
theorem dX3_readPart_0 : decode cX3_readPart 0 = .ok (.aload_n 0, 1) := by decide +kernel
theorem dX3_readPart_1 : decode cX3_readPart 1 = .ok (.iconst 0, 1) := by decide +kernel
theorem dX3_readPart_2 : decode cX3_readPart 2 = .ok (.sipush 999, 3) := by decide +kernel
theorem dX3_readPart_5 : decode cX3_readPart 5 = .ok (.invokevirtual 19, 3) := by decide +kernel
theorem dX3_readPart_8 : decode cX3_readPart 8 = .ok (.ifCond .eq 15, 3) := by decide +kernel
theorem dX3_readPart_11 : decode cX3_readPart 11 = .ok (.aload_n 0, 1) := by decide +kernel
theorem dX3_readPart_12 : decode cX3_readPart 12 = .ok (.getfield 9, 3) := by decide +kernel
theorem dX3_readPart_15 : decode cX3_readPart 15 = .ok (.aload_n 0, 1) := by decide +kernel
theorem dX3_readPart_16 : decode cX3_readPart 16 = .ok (.getfield 23, 3) := by decide +kernel
theorem dX3_readPart_19 : decode cX3_readPart 19 = .ok (.invokevirtual 58, 3) := by decide +kernel
theorem dX3_readPart_22 : decode cX3_readPart 22 = .ok (.ireturn, 1) := by decide +kernel
theorem dX3_readPart_23 : decode cX3_readPart 23 = .ok (.aload_n 0, 1) := by decide +kernel
theorem dX3_readPart_24 : decode cX3_readPart 24 = .ok (.ldc 91, 2) := by decide +kernel
theorem dX3_readPart_26 : decode cX3_readPart 26 = .ok (.invokevirtual 35, 3) := by decide +kernel
theorem dX3_readPart_29 : decode cX3_readPart 29 = .ok (.ifCond .eq 12, 3) := by decide +kernel
theorem dX3_readPart_32 : decode cX3_readPart 32 = .ok (.aload_n 0, 1) := by decide +kernel
theorem dX3_readPart_33 : decode cX3_readPart 33 = .ok (.getfield 9, 3) := by decide +kernel
theorem dX3_readPart_36 : decode cX3_readPart 36 = .ok (.iconst (-1), 1) := by decide +kernel
theorem dX3_readPart_37 : decode cX3_readPart 37 = .ok (.invokevirtual 58, 3) := by decide +kernel
theorem dX3_readPart_40 : decode cX3_readPart 40 = .ok (.ireturn, 1) := by decide +kernel
theorem dX3_readPart_41 : decode cX3_readPart 41 = .ok (.aload_n 0, 1) := by decide +kernel
theorem dX3_readPart_42 : decode cX3_readPart 42 = .ok (.ldc 93, 2) := by decide +kernel
theorem dX3_readPart_44 : decode cX3_readPart 44 = .ok (.invokevirtual 35, 3) := by decide +kernel
theorem dX3_readPart_47 : decode cX3_readPart 47 = .ok (.ifCond .eq 13, 3) := by decide +kernel
theorem dX3_readPart_50 : decode cX3_readPart 50 = .ok (.aload_n 0, 1) := by decide +kernel
theorem dX3_readPart_51 : decode cX3_readPart 51 = .ok (.getfield 9, 3) := by decide +kernel
theorem dX3_readPart_54 : decode cX3_readPart 54 = .ok (.bipush (-2), 2) := by decide +kernel
theorem dX3_readPart_56 : decode cX3_readPart 56 = .ok (.invokevirtual 58, 3) := by decide +kernel
theorem dX3_readPart_59 : decode cX3_readPart 59 = .ok (.ireturn, 1) := by decide +kernel
theorem dX3_readPart_60 : decode cX3_readPart 60 = .ok (.aload_n 0, 1) := by decide +kernel
theorem dX3_readPart_61 : decode cX3_readPart 61 = .ok (.ldc 95, 2) := by decide +kernel
theorem dX3_readPart_63 : decode cX3_readPart 63 = .ok (.invokevirtual 35, 3) := by decide +kernel
theorem dX3_readPart_66 : decode cX3_readPart 66 = .ok (.ifCond .eq 13, 3) := by decide +kernel
theorem dX3_readPart_69 : decode cX3_readPart 69 = .ok (.aload_n 0, 1) := by decide +kernel
theorem dX3_readPart_70 : decode cX3_readPart 70 = .ok (.getfield 9, 3) := by decide +kernel
theorem dX3_readPart_73 : decode cX3_readPart 73 = .ok (.bipush (-3), 2) := by decide +kernel
theorem dX3_readPart_75 : decode cX3_readPart 75 = .ok (.invokevirtual 58, 3) := by decide +kernel
theorem dX3_readPart_78 : decode cX3_readPart 78 = .ok (.ireturn, 1) := by decide +kernel
theorem dX3_readPart_79 : decode cX3_readPart 79 = .ok (.aload_n 0, 1) := by decide +kernel
theorem dX3_readPart_80 : decode cX3_readPart 80 = .ok (.ldc 97, 2) := by decide +kernel
theorem dX3_readPart_82 : decode cX3_readPart 82 = .ok (.invokevirtual 35, 3) := by decide +kernel
theorem dX3_readPart_85 : decode cX3_readPart 85 = .ok (.ifCond .eq 13, 3) := by decide +kernel
theorem dX3_readPart_88 : decode cX3_readPart 88 = .ok (.aload_n 0, 1) := by decide +kernel
theorem dX3_readPart_89 : decode cX3_readPart 89 = .ok (.getfield 9, 3) := by decide +kernel
theorem dX3_readPart_92 : decode cX3_readPart 92 = .ok (.bipush (-4), 2) := by decide +kernel
theorem dX3_readPart_94 : decode cX3_readPart 94 = .ok (.invokevirtual 58, 3) := by decide +kernel
theorem dX3_readPart_97 : decode cX3_readPart 97 = .ok (.ireturn, 1) := by decide +kernel
theorem dX3_readPart_98 : decode cX3_readPart 98 = .ok (.aload_n 0, 1) := by decide +kernel
theorem dX3_readPart_99 : decode cX3_readPart 99 = .ok (.ldc 99, 2) := by decide +kernel
theorem dX3_readPart_101 : decode cX3_readPart 101 = .ok (.invokevirtual 35, 3) := by decide +kernel
theorem dX3_readPart_104 : decode cX3_readPart 104 = .ok (.ifCond .eq 13, 3) := by decide +kernel
theorem dX3_readPart_107 : decode cX3_readPart 107 = .ok (.aload_n 0, 1) := by decide +kernel
theorem dX3_readPart_108 : decode cX3_readPart 108 = .ok (.getfield 9, 3) := by decide +kernel
theorem dX3_readPart_111 : decode cX3_readPart 111 = .ok (.bipush (-5), 2) := by decide +kernel
theorem dX3_readPart_113 : decode cX3_readPart 113 = .ok (.invokevirtual 58, 3) := by decide +kernel
theorem dX3_readPart_116 : decode cX3_readPart 116 = .ok (.ireturn, 1) := by decide +kernel
theorem dX3_readPart_117 : decode cX3_readPart 117 = .ok (.aload_n 0, 1) := by decide +kernel
theorem dX3_readPart_118 : decode cX3_readPart 118 = .ok (.ldc 101, 2) := by decide +kernel
theorem dX3_readPart_120 : decode cX3_readPart 120 = .ok (.invokevirtual 35, 3) := by decide +kernel
theorem dX3_readPart_123 : decode cX3_readPart 123 = .ok (.ifCond .eq 13, 3) := by decide +kernel
theorem dX3_readPart_126 : decode cX3_readPart 126 = .ok (.aload_n 0, 1) := by decide +kernel
theorem dX3_readPart_127 : decode cX3_readPart 127 = .ok (.getfield 9, 3) := by decide +kernel
theorem dX3_readPart_130 : decode cX3_readPart 130 = .ok (.bipush (-6), 2) := by decide +kernel
theorem dX3_readPart_132 : decode cX3_readPart 132 = .ok (.invokevirtual 58, 3) := by decide +kernel
theorem dX3_readPart_135 : decode cX3_readPart 135 = .ok (.ireturn, 1) := by decide +kernel
theorem dX3_readPart_136 : decode cX3_readPart 136 = .ok (.aload_n 0, 1) := by decide +kernel
theorem dX3_readPart_137 : decode cX3_readPart 137 = .ok (.ldc 103, 2) := by decide +kernel
theorem dX3_readPart_139 : decode cX3_readPart 139 = .ok (.invokevirtual 35, 3) := by decide +kernel
theorem dX3_readPart_142 : decode cX3_readPart 142 = .ok (.ifCond .eq 19, 3) := by decide +kernel
theorem dX3_readPart_145 : decode cX3_readPart 145 = .ok (.aload_n 0, 1) := by decide +kernel
theorem dX3_readPart_146 : decode cX3_readPart 146 = .ok (.getfield 9, 3) := by decide +kernel
theorem dX3_readPart_149 : decode cX3_readPart 149 = .ok (.bipush (-7), 2) := by decide +kernel
theorem dX3_readPart_151 : decode cX3_readPart 151 = .ok (.invokevirtual 58, 3) := by decide +kernel
theorem dX3_readPart_154 : decode cX3_readPart 154 = .ok (.ifCond .eq 7, 3) := by decide +kernel
theorem dX3_readPart_157 : decode cX3_readPart 157 = .ok (.iconst 1, 1) := by decide +kernel
theorem dX3_readPart_158 : decode cX3_readPart 158 = .ok (.goto 4, 3) := by decide +kernel
theorem dX3_readPart_161 : decode cX3_readPart 161 = .ok (.iconst 0, 1) := by decide +kernel
theorem dX3_readPart_162 : decode cX3_readPart 162 = .ok (.ireturn, 1) := by decide +kernel
theorem dX4_init_0 : decode cX4_init 0 = .ok (.aload_n 0, 1) := by decide +kernel
theorem dX4_init_1 : decode cX4_init 1 = .ok (.invokespecial 3, 3) := by decide +kernel
theorem dX4_init_4 : decode cX4_init 4 = .ok (.aload_n 0, 1) := by decide +kernel
theorem dX4_init_5 : decode cX4_init 5 = .ok (.sipush 300, 3) := by decide +kernel
theorem dX4_init_8 : decode cX4_init 8 = .ok (.newarray .int, 2) := by decide +kernel
theorem dX4_init_10 : decode cX4_init 10 = .ok (.putfield 11, 3) := by decide +kernel
theorem dX4_init_13 : decode cX4_init 13 = .ok (.return_, 1) := by decide +kernel
theorem dX4_copy_0 : decode cX4_copy 0 = .ok (.aload_n 0, 1) := by decide +kernel
theorem dX4_copy_1 : decode cX4_copy 1 = .ok (.aload_n 1, 1) := by decide +kernel
theorem dX4_copy_2 : decode cX4_copy 2 = .ok (.getfield 15, 3) := by decide +kernel
theorem dX4_copy_5 : decode cX4_copy 5 = .ok (.putfield 15, 3) := by decide +kernel
theorem dX4_copy_8 : decode cX4_copy 8 = .ok (.aload_n 0, 1) := by decide +kernel
theorem dX4_copy_9 : decode cX4_copy 9 = .ok (.aload_n 1, 1) := by decide +kernel
theorem dX4_copy_10 : decode cX4_copy 10 = .ok (.getfield 19, 3) := by decide +kernel
theorem dX4_copy_13 : decode cX4_copy 13 = .ok (.putfield 19, 3) := by decide +kernel
theorem dX4_copy_16 : decode cX4_copy 16 = .ok (.aload_n 1, 1) := by decide +kernel
theorem dX4_copy_17 : decode cX4_copy 17 = .ok (.getfield 11, 3) := by decide +kernel
theorem dX4_copy_20 : decode cX4_copy 20 = .ok (.iconst 0, 1) := by decide +kernel
theorem dX4_copy_21 : decode cX4_copy 21 = .ok (.aload_n 0, 1) := by decide +kernel
theorem dX4_copy_22 : decode cX4_copy 22 = .ok (.getfield 11, 3) := by decide +kernel
theorem dX4_copy_25 : decode cX4_copy 25 = .ok (.iconst 0, 1) := by decide +kernel
theorem dX4_copy_26 : decode cX4_copy 26 = .ok (.sipush 300, 3) := by decide +kernel
theorem dX4_copy_29 : decode cX4_copy 29 = .ok (.invokestatic 22, 3) := by decide +kernel
theorem dX4_copy_32 : decode cX4_copy 32 = .ok (.return_, 1) := by decide +kernel
theorem dX4_add_0 : decode cX4_add 0 = .ok (.aload_n 0, 1) := by decide +kernel
theorem dX4_add_1 : decode cX4_add 1 = .ok (.getfield 19, 3) := by decide +kernel
theorem dX4_add_4 : decode cX4_add 4 = .ok (.iconst 5, 1) := by decide +kernel
theorem dX4_add_5 : decode cX4_add 5 = .ok (.imul, 1) := by decide +kernel
theorem dX4_add_6 : decode cX4_add 6 = .ok (.istore 6, 2) := by decide +kernel
theorem dX4_add_8 : decode cX4_add 8 = .ok (.aload_n 0, 1) := by decide +kernel
theorem dX4_add_9 : decode cX4_add 9 = .ok (.getfield 11, 3) := by decide +kernel
theorem dX4_add_12 : decode cX4_add 12 = .ok (.iload 6, 2) := by decide +kernel
theorem dX4_add_14 : decode cX4_add 14 = .ok (.iload_n 1, 1) := by decide +kernel
theorem dX4_add_15 : decode cX4_add 15 = .ok (.iastore, 1) := by decide +kernel
theorem dX4_add_16 : decode cX4_add 16 = .ok (.aload_n 0, 1) := by decide +kernel
theorem dX4_add_17 : decode cX4_add 17 = .ok (.getfield 11, 3) := by decide +kernel
theorem dX4_add_20 : decode cX4_add 20 = .ok (.iload 6, 2) := by decide +kernel
theorem dX4_add_22 : decode cX4_add 22 = .ok (.iconst 1, 1) := by decide +kernel
theorem dX4_add_23 : decode cX4_add 23 = .ok (.iadd, 1) := by decide +kernel
theorem dX4_add_24 : decode cX4_add 24 = .ok (.iload_n 2, 1) := by decide +kernel
theorem dX4_add_25 : decode cX4_add 25 = .ok (.iastore, 1) := by decide +kernel
theorem dX4_add_26 : decode cX4_add 26 = .ok (.aload_n 0, 1) := by decide +kernel
theorem dX4_add_27 : decode cX4_add 27 = .ok (.getfield 11, 3) := by decide +kernel
theorem dX4_add_30 : decode cX4_add 30 = .ok (.iload 6, 2) := by decide +kernel
theorem dX4_add_32 : decode cX4_add 32 = .ok (.iconst 2, 1) := by decide +kernel
theorem dX4_add_33 : decode cX4_add 33 = .ok (.iadd, 1) := by decide +kernel
theorem dX4_add_34 : decode cX4_add 34 = .ok (.iload_n 3, 1) := by decide +kernel
theorem dX4_add_35 : decode cX4_add 35 = .ok (.iastore, 1) := by decide +kernel
theorem dX4_add_36 : decode cX4_add 36 = .ok (.aload_n 0, 1) := by decide +kernel
theorem dX4_add_37 : decode cX4_add 37 = .ok (.getfield 11, 3) := by decide +kernel
theorem dX4_add_40 : decode cX4_add 40 = .ok (.iload 6, 2) := by decide +kernel
theorem dX4_add_42 : decode cX4_add 42 = .ok (.iconst 3, 1) := by decide +kernel
theorem dX4_add_43 : decode cX4_add 43 = .ok (.iadd, 1) := by decide +kernel
theorem dX4_add_44 : decode cX4_add 44 = .ok (.iload 4, 2) := by decide +kernel
theorem dX4_add_46 : decode cX4_add 46 = .ok (.iastore, 1) := by decide +kernel
theorem dX4_add_47 : decode cX4_add 47 = .ok (.aload_n 0, 1) := by decide +kernel
theorem dX4_add_48 : decode cX4_add 48 = .ok (.getfield 11, 3) := by decide +kernel
theorem dX4_add_51 : decode cX4_add 51 = .ok (.iload 6, 2) := by decide +kernel
theorem dX4_add_53 : decode cX4_add 53 = .ok (.iconst 4, 1) := by decide +kernel
theorem dX4_add_54 : decode cX4_add 54 = .ok (.iadd, 1) := by decide +kernel
theorem dX4_add_55 : decode cX4_add 55 = .ok (.iload 5, 2) := by decide +kernel
theorem dX4_add_57 : decode cX4_add 57 = .ok (.iastore, 1) := by decide +kernel
theorem dX4_add_58 : decode cX4_add 58 = .ok (.aload_n 0, 1) := by decide +kernel
theorem dX4_add_59 : decode cX4_add 59 = .ok (.aload_n 0, 1) := by decide +kernel
theorem dX4_add_60 : decode cX4_add 60 = .ok (.getfield 19, 3) := by decide +kernel
theorem dX4_add_63 : decode cX4_add 63 = .ok (.iconst 1, 1) := by decide +kernel
theorem dX4_add_64 : decode cX4_add 64 = .ok (.iadd, 1) := by decide +kernel
theorem dX4_add_65 : decode cX4_add 65 = .ok (.bipush 60, 2) := by decide +kernel
theorem dX4_add_67 : decode cX4_add 67 = .ok (.irem, 1) := by decide +kernel
theorem dX4_add_68 : decode cX4_add 68 = .ok (.putfield 19, 3) := by decide +kernel
theorem dX4_add_71 : decode cX4_add 71 = .ok (.aload_n 0, 1) := by decide +kernel
theorem dX4_add_72 : decode cX4_add 72 = .ok (.aload_n 0, 1) := by decide +kernel
theorem dX4_add_73 : decode cX4_add 73 = .ok (.getfield 15, 3) := by decide +kernel
theorem dX4_add_76 : decode cX4_add 76 = .ok (.iconst 1, 1) := by decide +kernel
theorem dX4_add_77 : decode cX4_add 77 = .ok (.iadd, 1) := by decide +kernel
theorem dX4_add_78 : decode cX4_add 78 = .ok (.bipush 60, 2) := by decide +kernel
theorem dX4_add_80 : decode cX4_add 80 = .ok (.invokestatic 28, 3) := by decide +kernel
theorem dX4_add_83 : decode cX4_add 83 = .ok (.putfield 15, 3) := by decide +kernel
theorem dX4_add_86 : decode cX4_add 86 = .ok (.return_, 1) := by decide +kernel
theorem dX4_cell_0 : decode cX4_cell 0 = .ok (.iload_n 1, 1) := by decide +kernel
theorem dX4_cell_1 : decode cX4_cell 1 = .ok (.ifCond .lt 20, 3) := by decide +kernel
theorem dX4_cell_4 : decode cX4_cell 4 = .ok (.iload_n 1, 1) := by decide +kernel
theorem dX4_cell_5 : decode cX4_cell 5 = .ok (.aload_n 0, 1) := by decide +kernel
theorem dX4_cell_6 : decode cX4_cell 6 = .ok (.getfield 15, 3) := by decide +kernel
theorem dX4_cell_9 : decode cX4_cell 9 = .ok (.if_icmp .ge 12, 3) := by decide +kernel
theorem dX4_cell_12 : decode cX4_cell 12 = .ok (.iload_n 2, 1) := by decide +kernel
theorem dX4_cell_13 : decode cX4_cell 13 = .ok (.ifCond .lt 8, 3) := by decide +kernel
theorem dX4_cell_16 : decode cX4_cell 16 = .ok (.iload_n 2, 1) := by decide +kernel
theorem dX4_cell_17 : decode cX4_cell 17 = .ok (.iconst 5, 1) := by decide +kernel
theorem dX4_cell_18 : decode cX4_cell 18 = .ok (.if_icmp .lt 5, 3) := by decide +kernel
theorem dX4_cell_21 : decode cX4_cell 21 = .ok (.iconst (-1), 1) := by decide +kernel
theorem dX4_cell_22 : decode cX4_cell 22 = .ok (.ireturn, 1) := by decide +kernel
theorem dX4_cell_23 : decode cX4_cell 23 = .ok (.aload_n 0, 1) := by decide +kernel
theorem dX4_cell_24 : decode cX4_cell 24 = .ok (.getfield 11, 3) := by decide +kernel
theorem dX4_cell_27 : decode cX4_cell 27 = .ok (.aload_n 0, 1) := by decide +kernel
theorem dX4_cell_28 : decode cX4_cell 28 = .ok (.getfield 19, 3) := by decide +kernel
theorem dX4_cell_31 : decode cX4_cell 31 = .ok (.bipush 60, 2) := by decide +kernel
theorem dX4_cell_33 : decode cX4_cell 33 = .ok (.iadd, 1) := by decide +kernel
theorem dX4_cell_34 : decode cX4_cell 34 = .ok (.iconst 1, 1) := by decide +kernel
theorem dX4_cell_35 : decode cX4_cell 35 = .ok (.isub, 1) := by decide +kernel
theorem dX4_cell_36 : decode cX4_cell 36 = .ok (.iload_n 1, 1) := by decide +kernel
theorem dX4_cell_37 : decode cX4_cell 37 = .ok (.isub, 1) := by decide +kernel
theorem dX4_cell_38 : decode cX4_cell 38 = .ok (.bipush 60, 2) := by decide +kernel
theorem dX4_cell_40 : decode cX4_cell 40 = .ok (.irem, 1) := by decide +kernel
theorem dX4_cell_41 : decode cX4_cell 41 = .ok (.iconst 5, 1) := by decide +kernel
theorem dX4_cell_42 : decode cX4_cell 42 = .ok (.imul, 1) := by decide +kernel
theorem dX4_cell_43 : decode cX4_cell 43 = .ok (.iload_n 2, 1) := by decide +kernel
theorem dX4_cell_44 : decode cX4_cell 44 = .ok (.iadd, 1) := by decide +kernel
theorem dX4_cell_45 : decode cX4_cell 45 = .ok (.iaload, 1) := by decide +kernel
theorem dX4_cell_46 : decode cX4_cell 46 = .ok (.ireturn, 1) := by decide +kernel
theorem dX4_rowsOf_0 : decode cX4_rowsOf 0 = .ok (.iconst 0, 1) := by decide +kernel
theorem dX4_rowsOf_1 : decode cX4_rowsOf 1 = .ok (.istore_n 2, 1) := by decide +kernel
theorem dX4_rowsOf_2 : decode cX4_rowsOf 2 = .ok (.iconst 0, 1) := by decide +kernel
theorem dX4_rowsOf_3 : decode cX4_rowsOf 3 = .ok (.istore_n 3, 1) := by decide +kernel
theorem dX4_rowsOf_4 : decode cX4_rowsOf 4 = .ok (.iload_n 3, 1) := by decide +kernel
theorem dX4_rowsOf_5 : decode cX4_rowsOf 5 = .ok (.aload_n 0, 1) := by decide +kernel
theorem dX4_rowsOf_6 : decode cX4_rowsOf 6 = .ok (.getfield 15, 3) := by decide +kernel
theorem dX4_rowsOf_9 : decode cX4_rowsOf 9 = .ok (.if_icmp .ge 22, 3) := by decide +kernel
theorem dX4_rowsOf_12 : decode cX4_rowsOf 12 = .ok (.aload_n 0, 1) := by decide +kernel
theorem dX4_rowsOf_13 : decode cX4_rowsOf 13 = .ok (.iload_n 3, 1) := by decide +kernel
theorem dX4_rowsOf_14 : decode cX4_rowsOf 14 = .ok (.iconst 1, 1) := by decide +kernel
theorem dX4_rowsOf_15 : decode cX4_rowsOf 15 = .ok (.invokevirtual 34, 3) := by decide +kernel
theorem dX4_rowsOf_18 : decode cX4_rowsOf 18 = .ok (.iload_n 1, 1) := by decide +kernel
theorem dX4_rowsOf_19 : decode cX4_rowsOf 19 = .ok (.if_icmp .ne 6, 3) := by decide +kernel
theorem dX4_rowsOf_22 : decode cX4_rowsOf 22 = .ok (.iinc 2 1, 3) := by decide +kernel
theorem dX4_rowsOf_25 : decode cX4_rowsOf 25 = .ok (.iinc 3 1, 3) := by decide +kernel
theorem dX4_rowsOf_28 : decode cX4_rowsOf 28 = .ok (.goto (-24), 3) := by decide +kernel
theorem dX4_rowsOf_31 : decode cX4_rowsOf 31 = .ok (.iload_n 2, 1) := by decide +kernel
theorem dX4_rowsOf_32 : decode cX4_rowsOf 32 = .ok (.ireturn, 1) := by decide +kernel
theorem dX4_latestHourOf_0 : decode cX4_latestHourOf 0 = .ok (.iconst 0, 1) := by decide +kernel
theorem dX4_latestHourOf_1 : decode cX4_latestHourOf 1 = .ok (.istore_n 2, 1) := by decide +kernel
theorem dX4_latestHourOf_2 : decode cX4_latestHourOf 2 = .ok (.iload_n 2, 1) := by decide +kernel
theorem dX4_latestHourOf_3 : decode cX4_latestHourOf 3 = .ok (.aload_n 0, 1) := by decide +kernel
theorem dX4_latestHourOf_4 : decode cX4_latestHourOf 4 = .ok (.getfield 15, 3) := by decide +kernel
theorem dX4_latestHourOf_7 : decode cX4_latestHourOf 7 = .ok (.if_icmp .ge 26, 3) := by decide +kernel
theorem dX4_latestHourOf_10 : decode cX4_latestHourOf 10 = .ok (.aload_n 0, 1) := by decide +kernel
theorem dX4_latestHourOf_11 : decode cX4_latestHourOf 11 = .ok (.iload_n 2, 1) := by decide +kernel
theorem dX4_latestHourOf_12 : decode cX4_latestHourOf 12 = .ok (.iconst 1, 1) := by decide +kernel
theorem dX4_latestHourOf_13 : decode cX4_latestHourOf 13 = .ok (.invokevirtual 34, 3) := by decide +kernel
theorem dX4_latestHourOf_16 : decode cX4_latestHourOf 16 = .ok (.iload_n 1, 1) := by decide +kernel
theorem dX4_latestHourOf_17 : decode cX4_latestHourOf 17 = .ok (.if_icmp .ne 10, 3) := by decide +kernel
theorem dX4_latestHourOf_20 : decode cX4_latestHourOf 20 = .ok (.aload_n 0, 1) := by decide +kernel
theorem dX4_latestHourOf_21 : decode cX4_latestHourOf 21 = .ok (.iload_n 2, 1) := by decide +kernel
theorem dX4_latestHourOf_22 : decode cX4_latestHourOf 22 = .ok (.iconst 0, 1) := by decide +kernel
theorem dX4_latestHourOf_23 : decode cX4_latestHourOf 23 = .ok (.invokevirtual 34, 3) := by decide +kernel
theorem dX4_latestHourOf_26 : decode cX4_latestHourOf 26 = .ok (.ireturn, 1) := by decide +kernel
theorem dX4_latestHourOf_27 : decode cX4_latestHourOf 27 = .ok (.iinc 2 1, 3) := by decide +kernel
theorem dX4_latestHourOf_30 : decode cX4_latestHourOf 30 = .ok (.goto (-28), 3) := by decide +kernel
theorem dX4_latestHourOf_33 : decode cX4_latestHourOf 33 = .ok (.iconst (-1), 1) := by decide +kernel
theorem dX4_latestHourOf_34 : decode cX4_latestHourOf 34 = .ok (.ireturn, 1) := by decide +kernel
theorem dX5_init_0 : decode cX5_init 0 = .ok (.aload_n 0, 1) := by decide +kernel
theorem dX5_init_1 : decode cX5_init 1 = .ok (.invokespecial 3, 3) := by decide +kernel
theorem dX5_init_4 : decode cX5_init 4 = .ok (.aload_n 0, 1) := by decide +kernel
theorem dX5_init_5 : decode cX5_init 5 = .ok (.bipush 12, 2) := by decide +kernel
theorem dX5_init_7 : decode cX5_init 7 = .ok (.anewarray 9, 3) := by decide +kernel
theorem dX5_init_10 : decode cX5_init 10 = .ok (.putfield 11, 3) := by decide +kernel
theorem dX5_init_13 : decode cX5_init 13 = .ok (.iconst 0, 1) := by decide +kernel
theorem dX5_init_14 : decode cX5_init 14 = .ok (.istore_n 1, 1) := by decide +kernel
theorem dX5_init_15 : decode cX5_init 15 = .ok (.iload_n 1, 1) := by decide +kernel
theorem dX5_init_16 : decode cX5_init 16 = .ok (.bipush 12, 2) := by decide +kernel
theorem dX5_init_18 : decode cX5_init 18 = .ok (.if_icmp .ge 22, 3) := by decide +kernel
theorem dX5_init_21 : decode cX5_init 21 = .ok (.aload_n 0, 1) := by decide +kernel
theorem dX5_init_22 : decode cX5_init 22 = .ok (.getfield 11, 3) := by decide +kernel
theorem dX5_init_25 : decode cX5_init 25 = .ok (.iload_n 1, 1) := by decide +kernel
theorem dX5_init_26 : decode cX5_init 26 = .ok (.new 9, 3) := by decide +kernel
theorem dX5_init_29 : decode cX5_init 29 = .ok (.dup, 1) := by decide +kernel
theorem dX5_init_30 : decode cX5_init 30 = .ok (.invokespecial 17, 3) := by decide +kernel
theorem dX5_init_33 : decode cX5_init 33 = .ok (.aastore, 1) := by decide +kernel
theorem dX5_init_34 : decode cX5_init 34 = .ok (.iinc 1 1, 3) := by decide +kernel
theorem dX5_init_37 : decode cX5_init 37 = .ok (.goto (-22), 3) := by decide +kernel
theorem dX5_init_40 : decode cX5_init 40 = .ok (.return_, 1) := by decide +kernel
theorem dX5_remember_0 : decode cX5_remember 0 = .ok (.aload_n 0, 1) := by decide +kernel
theorem dX5_remember_1 : decode cX5_remember 1 = .ok (.getfield 11, 3) := by decide +kernel
theorem dX5_remember_4 : decode cX5_remember 4 = .ok (.aload_n 0, 1) := by decide +kernel
theorem dX5_remember_5 : decode cX5_remember 5 = .ok (.getfield 18, 3) := by decide +kernel
theorem dX5_remember_8 : decode cX5_remember 8 = .ok (.aaload, 1) := by decide +kernel
theorem dX5_remember_9 : decode cX5_remember 9 = .ok (.aload_n 1, 1) := by decide +kernel
theorem dX5_remember_10 : decode cX5_remember 10 = .ok (.invokevirtual 22, 3) := by decide +kernel
theorem dX5_remember_13 : decode cX5_remember 13 = .ok (.aload_n 0, 1) := by decide +kernel
theorem dX5_remember_14 : decode cX5_remember 14 = .ok (.aload_n 0, 1) := by decide +kernel
theorem dX5_remember_15 : decode cX5_remember 15 = .ok (.getfield 18, 3) := by decide +kernel
theorem dX5_remember_18 : decode cX5_remember 18 = .ok (.iconst 1, 1) := by decide +kernel
theorem dX5_remember_19 : decode cX5_remember 19 = .ok (.iadd, 1) := by decide +kernel
theorem dX5_remember_20 : decode cX5_remember 20 = .ok (.bipush 12, 2) := by decide +kernel
theorem dX5_remember_22 : decode cX5_remember 22 = .ok (.irem, 1) := by decide +kernel
theorem dX5_remember_23 : decode cX5_remember 23 = .ok (.putfield 18, 3) := by decide +kernel
theorem dX5_remember_26 : decode cX5_remember 26 = .ok (.aload_n 0, 1) := by decide +kernel
theorem dX5_remember_27 : decode cX5_remember 27 = .ok (.aload_n 0, 1) := by decide +kernel
theorem dX5_remember_28 : decode cX5_remember 28 = .ok (.getfield 26, 3) := by decide +kernel
theorem dX5_remember_31 : decode cX5_remember 31 = .ok (.iconst 1, 1) := by decide +kernel
theorem dX5_remember_32 : decode cX5_remember 32 = .ok (.iadd, 1) := by decide +kernel
theorem dX5_remember_33 : decode cX5_remember 33 = .ok (.bipush 12, 2) := by decide +kernel
theorem dX5_remember_35 : decode cX5_remember 35 = .ok (.invokestatic 29, 3) := by decide +kernel
theorem dX5_remember_38 : decode cX5_remember 38 = .ok (.putfield 26, 3) := by decide +kernel
theorem dX5_remember_41 : decode cX5_remember 41 = .ok (.return_, 1) := by decide +kernel
theorem dX5_recall_0 : decode cX5_recall 0 = .ok (.aload_n 0, 1) := by decide +kernel
theorem dX5_recall_1 : decode cX5_recall 1 = .ok (.getfield 26, 3) := by decide +kernel
theorem dX5_recall_4 : decode cX5_recall 4 = .ok (.ifCond .ne 5, 3) := by decide +kernel
theorem dX5_recall_7 : decode cX5_recall 7 = .ok (.iconst 0, 1) := by decide +kernel
theorem dX5_recall_8 : decode cX5_recall 8 = .ok (.ireturn, 1) := by decide +kernel
theorem dX5_recall_9 : decode cX5_recall 9 = .ok (.aload_n 0, 1) := by decide +kernel
theorem dX5_recall_10 : decode cX5_recall 10 = .ok (.aload_n 0, 1) := by decide +kernel
theorem dX5_recall_11 : decode cX5_recall 11 = .ok (.getfield 18, 3) := by decide +kernel
theorem dX5_recall_14 : decode cX5_recall 14 = .ok (.bipush 12, 2) := by decide +kernel
theorem dX5_recall_16 : decode cX5_recall 16 = .ok (.iadd, 1) := by decide +kernel
theorem dX5_recall_17 : decode cX5_recall 17 = .ok (.iconst 1, 1) := by decide +kernel
theorem dX5_recall_18 : decode cX5_recall 18 = .ok (.isub, 1) := by decide +kernel
theorem dX5_recall_19 : decode cX5_recall 19 = .ok (.bipush 12, 2) := by decide +kernel
theorem dX5_recall_21 : decode cX5_recall 21 = .ok (.irem, 1) := by decide +kernel
theorem dX5_recall_22 : decode cX5_recall 22 = .ok (.putfield 18, 3) := by decide +kernel
theorem dX5_recall_25 : decode cX5_recall 25 = .ok (.aload_n 0, 1) := by decide +kernel
theorem dX5_recall_26 : decode cX5_recall 26 = .ok (.dup, 1) := by decide +kernel
theorem dX5_recall_27 : decode cX5_recall 27 = .ok (.getfield 26, 3) := by decide +kernel
theorem dX5_recall_30 : decode cX5_recall 30 = .ok (.iconst 1, 1) := by decide +kernel
theorem dX5_recall_31 : decode cX5_recall 31 = .ok (.isub, 1) := by decide +kernel
theorem dX5_recall_32 : decode cX5_recall 32 = .ok (.putfield 26, 3) := by decide +kernel
theorem dX5_recall_35 : decode cX5_recall 35 = .ok (.aload_n 1, 1) := by decide +kernel
theorem dX5_recall_36 : decode cX5_recall 36 = .ok (.aload_n 0, 1) := by decide +kernel
theorem dX5_recall_37 : decode cX5_recall 37 = .ok (.getfield 11, 3) := by decide +kernel
theorem dX5_recall_40 : decode cX5_recall 40 = .ok (.aload_n 0, 1) := by decide +kernel
theorem dX5_recall_41 : decode cX5_recall 41 = .ok (.getfield 18, 3) := by decide +kernel
theorem dX5_recall_44 : decode cX5_recall 44 = .ok (.aaload, 1) := by decide +kernel
theorem dX5_recall_45 : decode cX5_recall 45 = .ok (.invokevirtual 22, 3) := by decide +kernel
theorem dX5_recall_48 : decode cX5_recall 48 = .ok (.iconst 1, 1) := by decide +kernel
theorem dX5_recall_49 : decode cX5_recall 49 = .ok (.ireturn, 1) := by decide +kernel
theorem dX5_forget_0 : decode cX5_forget 0 = .ok (.aload_n 0, 1) := by decide +kernel
theorem dX5_forget_1 : decode cX5_forget 1 = .ok (.iconst 0, 1) := by decide +kernel
theorem dX5_forget_2 : decode cX5_forget 2 = .ok (.putfield 26, 3) := by decide +kernel
theorem dX5_forget_5 : decode cX5_forget 5 = .ok (.return_, 1) := by decide +kernel
theorem dX7_init_0 : decode cX7_init 0 = .ok (.aload_n 0, 1) := by decide +kernel
theorem dX7_init_1 : decode cX7_init 1 = .ok (.invokespecial 3, 3) := by decide +kernel
theorem dX7_init_4 : decode cX7_init 4 = .ok (.aload_n 0, 1) := by decide +kernel
theorem dX7_init_5 : decode cX7_init 5 = .ok (.sipush 401, 3) := by decide +kernel
theorem dX7_init_8 : decode cX7_init 8 = .ok (.newarray .int, 2) := by decide +kernel
theorem dX7_init_10 : decode cX7_init 10 = .ok (.putfield 9, 3) := by decide +kernel
theorem dX7_init_13 : decode cX7_init 13 = .ok (.aload_n 0, 1) := by decide +kernel
theorem dX7_init_14 : decode cX7_init 14 = .ok (.sipush 401, 3) := by decide +kernel
theorem dX7_init_17 : decode cX7_init 17 = .ok (.newarray .int, 2) := by decide +kernel
theorem dX7_init_19 : decode cX7_init 19 = .ok (.putfield 15, 3) := by decide +kernel
theorem dX7_init_22 : decode cX7_init 22 = .ok (.aload_n 0, 1) := by decide +kernel
theorem dX7_init_23 : decode cX7_init 23 = .ok (.sipush 401, 3) := by decide +kernel
theorem dX7_init_26 : decode cX7_init 26 = .ok (.newarray .int, 2) := by decide +kernel
theorem dX7_init_28 : decode cX7_init 28 = .ok (.putfield 18, 3) := by decide +kernel
theorem dX7_init_31 : decode cX7_init 31 = .ok (.aload_n 0, 1) := by decide +kernel
theorem dX7_init_32 : decode cX7_init 32 = .ok (.aload_n 1, 1) := by decide +kernel
theorem dX7_init_33 : decode cX7_init 33 = .ok (.putfield 21, 3) := by decide +kernel
theorem dX7_init_36 : decode cX7_init 36 = .ok (.return_, 1) := by decide +kernel
theorem dX7_readLines_0 : decode cX7_readLines 0 = .ok (.aload_n 0, 1) := by decide +kernel
theorem dX7_readLines_1 : decode cX7_readLines 1 = .ok (.invokevirtual 25, 3) := by decide +kernel
theorem dX7_readLines_4 : decode cX7_readLines 4 = .ok (.aload_n 0, 1) := by decide +kernel
theorem dX7_readLines_5 : decode cX7_readLines 5 = .ok (.getfield 28, 3) := by decide +kernel
theorem dX7_readLines_8 : decode cX7_readLines 8 = .ok (.ifCond .ne 5, 3) := by decide +kernel
theorem dX7_readLines_11 : decode cX7_readLines 11 = .ok (.iconst (-1), 1) := by decide +kernel
theorem dX7_readLines_12 : decode cX7_readLines 12 = .ok (.ireturn, 1) := by decide +kernel
theorem dX7_readLines_13 : decode cX7_readLines 13 = .ok (.iconst 0, 1) := by decide +kernel
theorem dX7_readLines_14 : decode cX7_readLines 14 = .ok (.istore_n 2, 1) := by decide +kernel
theorem dX7_readLines_15 : decode cX7_readLines 15 = .ok (.iload_n 2, 1) := by decide +kernel
theorem dX7_readLines_16 : decode cX7_readLines 16 = .ok (.iload_n 1, 1) := by decide +kernel
theorem dX7_readLines_17 : decode cX7_readLines 17 = .ok (.if_icmp .ge 58, 3) := by decide +kernel
theorem dX7_readLines_20 : decode cX7_readLines 20 = .ok (.aload_n 0, 1) := by decide +kernel
theorem dX7_readLines_21 : decode cX7_readLines 21 = .ok (.invokevirtual 32, 3) := by decide +kernel
theorem dX7_readLines_24 : decode cX7_readLines 24 = .ok (.ifCond .ne 13, 3) := by decide +kernel
theorem dX7_readLines_27 : decode cX7_readLines 27 = .ok (.aload_n 0, 1) := by decide +kernel
theorem dX7_readLines_28 : decode cX7_readLines 28 = .ok (.getfield 15, 3) := by decide +kernel
theorem dX7_readLines_31 : decode cX7_readLines 31 = .ok (.aload_n 0, 1) := by decide +kernel
theorem dX7_readLines_32 : decode cX7_readLines 32 = .ok (.getfield 36, 3) := by decide +kernel
theorem dX7_readLines_35 : decode cX7_readLines 35 = .ok (.iaload, 1) := by decide +kernel
theorem dX7_readLines_36 : decode cX7_readLines 36 = .ok (.ireturn, 1) := by decide +kernel
theorem dX7_readLines_37 : decode cX7_readLines 37 = .ok (.aload_n 0, 1) := by decide +kernel
theorem dX7_readLines_38 : decode cX7_readLines 38 = .ok (.getfield 36, 3) := by decide +kernel
theorem dX7_readLines_41 : decode cX7_readLines 41 = .ok (.aload_n 0, 1) := by decide +kernel
theorem dX7_readLines_42 : decode cX7_readLines 42 = .ok (.getfield 28, 3) := by decide +kernel
theorem dX7_readLines_45 : decode cX7_readLines 45 = .ok (.if_icmp .ne 5, 3) := by decide +kernel
theorem dX7_readLines_48 : decode cX7_readLines 48 = .ok (.iconst (-1), 1) := by decide +kernel
theorem dX7_readLines_49 : decode cX7_readLines 49 = .ok (.ireturn, 1) := by decide +kernel
theorem dX7_readLines_50 : decode cX7_readLines 50 = .ok (.aload_n 0, 1) := by decide +kernel
theorem dX7_readLines_51 : decode cX7_readLines 51 = .ok (.bipush 59, 2) := by decide +kernel
theorem dX7_readLines_53 : decode cX7_readLines 53 = .ok (.invokevirtual 39, 3) := by decide +kernel
theorem dX7_readLines_56 : decode cX7_readLines 56 = .ok (.ifCond .ne 13, 3) := by decide +kernel
theorem dX7_readLines_59 : decode cX7_readLines 59 = .ok (.aload_n 0, 1) := by decide +kernel
theorem dX7_readLines_60 : decode cX7_readLines 60 = .ok (.getfield 15, 3) := by decide +kernel
theorem dX7_readLines_63 : decode cX7_readLines 63 = .ok (.aload_n 0, 1) := by decide +kernel
theorem dX7_readLines_64 : decode cX7_readLines 64 = .ok (.getfield 36, 3) := by decide +kernel
theorem dX7_readLines_67 : decode cX7_readLines 67 = .ok (.iaload, 1) := by decide +kernel
theorem dX7_readLines_68 : decode cX7_readLines 68 = .ok (.ireturn, 1) := by decide +kernel
theorem dX7_readLines_69 : decode cX7_readLines 69 = .ok (.iinc 2 1, 3) := by decide +kernel
theorem dX7_readLines_72 : decode cX7_readLines 72 = .ok (.goto (-57), 3) := by decide +kernel
theorem dX7_readLines_75 : decode cX7_readLines 75 = .ok (.aload_n 0, 1) := by decide +kernel
theorem dX7_readLines_76 : decode cX7_readLines 76 = .ok (.getfield 15, 3) := by decide +kernel
theorem dX7_readLines_79 : decode cX7_readLines 79 = .ok (.aload_n 0, 1) := by decide +kernel
theorem dX7_readLines_80 : decode cX7_readLines 80 = .ok (.getfield 36, 3) := by decide +kernel
theorem dX7_readLines_83 : decode cX7_readLines 83 = .ok (.iaload, 1) := by decide +kernel
theorem dX7_readLines_84 : decode cX7_readLines 84 = .ok (.ireturn, 1) := by decide +kernel
theorem dX7_split_0 : decode cX7_split 0 = .ok (.aload_n 0, 1) := by decide +kernel
theorem dX7_split_1 : decode cX7_split 1 = .ok (.iconst 0, 1) := by decide +kernel
theorem dX7_split_2 : decode cX7_split 2 = .ok (.putfield 36, 3) := by decide +kernel
theorem dX7_split_5 : decode cX7_split 5 = .ok (.aload_n 0, 1) := by decide +kernel
theorem dX7_split_6 : decode cX7_split 6 = .ok (.iconst 0, 1) := by decide +kernel
theorem dX7_split_7 : decode cX7_split 7 = .ok (.putfield 28, 3) := by decide +kernel
theorem dX7_split_10 : decode cX7_split 10 = .ok (.iconst 0, 1) := by decide +kernel
theorem dX7_split_11 : decode cX7_split 11 = .ok (.istore_n 1, 1) := by decide +kernel
theorem dX7_split_12 : decode cX7_split 12 = .ok (.iconst 0, 1) := by decide +kernel
theorem dX7_split_13 : decode cX7_split 13 = .ok (.istore_n 2, 1) := by decide +kernel
theorem dX7_split_14 : decode cX7_split 14 = .ok (.iload_n 2, 1) := by decide +kernel
theorem dX7_split_15 : decode cX7_split 15 = .ok (.aload_n 0, 1) := by decide +kernel
theorem dX7_split_16 : decode cX7_split 16 = .ok (.getfield 21, 3) := by decide +kernel
theorem dX7_split_19 : decode cX7_split 19 = .ok (.getfield 43, 3) := by decide +kernel
theorem dX7_split_22 : decode cX7_split 22 = .ok (.if_icmp .ge 109, 3) := by decide +kernel
theorem dX7_split_25 : decode cX7_split 25 = .ok (.aload_n 0, 1) := by decide +kernel
theorem dX7_split_26 : decode cX7_split 26 = .ok (.getfield 21, 3) := by decide +kernel
theorem dX7_split_29 : decode cX7_split 29 = .ok (.getfield 48, 3) := by decide +kernel
theorem dX7_split_32 : decode cX7_split 32 = .ok (.iload_n 2, 1) := by decide +kernel
theorem dX7_split_33 : decode cX7_split 33 = .ok (.baload, 1) := by decide +kernel
theorem dX7_split_34 : decode cX7_split 34 = .ok (.invokestatic 52, 3) := by decide +kernel
theorem dX7_split_37 : decode cX7_split 37 = .ok (.istore_n 3, 1) := by decide +kernel
theorem dX7_split_38 : decode cX7_split 38 = .ok (.aload_n 0, 1) := by decide +kernel
theorem dX7_split_39 : decode cX7_split 39 = .ok (.getfield 28, 3) := by decide +kernel
theorem dX7_split_42 : decode cX7_split 42 = .ok (.ifCond .le 35, 3) := by decide +kernel
theorem dX7_split_45 : decode cX7_split 45 = .ok (.iload_n 3, 1) := by decide +kernel
theorem dX7_split_46 : decode cX7_split 46 = .ok (.iload_n 1, 1) := by decide +kernel
theorem dX7_split_47 : decode cX7_split 47 = .ok (.if_icmp .ne 30, 3) := by decide +kernel
theorem dX7_split_50 : decode cX7_split 50 = .ok (.iload_n 3, 1) := by decide +kernel
theorem dX7_split_51 : decode cX7_split 51 = .ok (.iconst 1, 1) := by decide +kernel
theorem dX7_split_52 : decode cX7_split 52 = .ok (.if_icmp .eq 8, 3) := by decide +kernel
theorem dX7_split_55 : decode cX7_split 55 = .ok (.iload_n 3, 1) := by decide +kernel
theorem dX7_split_56 : decode cX7_split 56 = .ok (.iconst 2, 1) := by decide +kernel
theorem dX7_split_57 : decode cX7_split 57 = .ok (.if_icmp .ne 20, 3) := by decide +kernel
theorem dX7_split_60 : decode cX7_split 60 = .ok (.aload_n 0, 1) := by decide +kernel
theorem dX7_split_61 : decode cX7_split 61 = .ok (.getfield 18, 3) := by decide +kernel
theorem dX7_split_64 : decode cX7_split 64 = .ok (.aload_n 0, 1) := by decide +kernel
theorem dX7_split_65 : decode cX7_split 65 = .ok (.getfield 28, 3) := by decide +kernel
theorem dX7_split_68 : decode cX7_split 68 = .ok (.iconst 1, 1) := by decide +kernel
theorem dX7_split_69 : decode cX7_split 69 = .ok (.isub, 1) := by decide +kernel
theorem dX7_split_70 : decode cX7_split 70 = .ok (.iload_n 2, 1) := by decide +kernel
theorem dX7_split_71 : decode cX7_split 71 = .ok (.iconst 1, 1) := by decide +kernel
theorem dX7_split_72 : decode cX7_split 72 = .ok (.iadd, 1) := by decide +kernel
theorem dX7_split_73 : decode cX7_split 73 = .ok (.iastore, 1) := by decide +kernel
theorem dX7_split_74 : decode cX7_split 74 = .ok (.goto 49, 3) := by decide +kernel
theorem dX7_split_77 : decode cX7_split 77 = .ok (.iload_n 3, 1) := by decide +kernel
theorem dX7_split_78 : decode cX7_split 78 = .ok (.ifCond .eq 45, 3) := by decide +kernel
theorem dX7_split_81 : decode cX7_split 81 = .ok (.aload_n 0, 1) := by decide +kernel
theorem dX7_split_82 : decode cX7_split 82 = .ok (.getfield 9, 3) := by decide +kernel
theorem dX7_split_85 : decode cX7_split 85 = .ok (.aload_n 0, 1) := by decide +kernel
theorem dX7_split_86 : decode cX7_split 86 = .ok (.getfield 28, 3) := by decide +kernel
theorem dX7_split_89 : decode cX7_split 89 = .ok (.iload_n 3, 1) := by decide +kernel
theorem dX7_split_90 : decode cX7_split 90 = .ok (.iastore, 1) := by decide +kernel
theorem dX7_split_91 : decode cX7_split 91 = .ok (.aload_n 0, 1) := by decide +kernel
theorem dX7_split_92 : decode cX7_split 92 = .ok (.getfield 15, 3) := by decide +kernel
theorem dX7_split_95 : decode cX7_split 95 = .ok (.aload_n 0, 1) := by decide +kernel
theorem dX7_split_96 : decode cX7_split 96 = .ok (.getfield 28, 3) := by decide +kernel
theorem dX7_split_99 : decode cX7_split 99 = .ok (.iload_n 2, 1) := by decide +kernel
theorem dX7_split_100 : decode cX7_split 100 = .ok (.iastore, 1) := by decide +kernel
theorem dX7_split_101 : decode cX7_split 101 = .ok (.aload_n 0, 1) := by decide +kernel
theorem dX7_split_102 : decode cX7_split 102 = .ok (.getfield 18, 3) := by decide +kernel
theorem dX7_split_105 : decode cX7_split 105 = .ok (.aload_n 0, 1) := by decide +kernel
theorem dX7_split_106 : decode cX7_split 106 = .ok (.getfield 28, 3) := by decide +kernel
theorem dX7_split_109 : decode cX7_split 109 = .ok (.iload_n 2, 1) := by decide +kernel
theorem dX7_split_110 : decode cX7_split 110 = .ok (.iconst 1, 1) := by decide +kernel
theorem dX7_split_111 : decode cX7_split 111 = .ok (.iadd, 1) := by decide +kernel
theorem dX7_split_112 : decode cX7_split 112 = .ok (.iastore, 1) := by decide +kernel
theorem dX7_split_113 : decode cX7_split 113 = .ok (.aload_n 0, 1) := by decide +kernel
theorem dX7_split_114 : decode cX7_split 114 = .ok (.dup, 1) := by decide +kernel
theorem dX7_split_115 : decode cX7_split 115 = .ok (.getfield 28, 3) := by decide +kernel
theorem dX7_split_118 : decode cX7_split 118 = .ok (.iconst 1, 1) := by decide +kernel
theorem dX7_split_119 : decode cX7_split 119 = .ok (.iadd, 1) := by decide +kernel
theorem dX7_split_120 : decode cX7_split 120 = .ok (.putfield 28, 3) := by decide +kernel
theorem dX7_split_123 : decode cX7_split 123 = .ok (.iload_n 3, 1) := by decide +kernel
theorem dX7_split_124 : decode cX7_split 124 = .ok (.istore_n 1, 1) := by decide +kernel
theorem dX7_split_125 : decode cX7_split 125 = .ok (.iinc 2 1, 3) := by decide +kernel
theorem dX7_split_128 : decode cX7_split 128 = .ok (.goto (-114), 3) := by decide +kernel
theorem dX7_split_131 : decode cX7_split 131 = .ok (.aload_n 0, 1) := by decide +kernel
theorem dX7_split_132 : decode cX7_split 132 = .ok (.getfield 9, 3) := by decide +kernel
theorem dX7_split_135 : decode cX7_split 135 = .ok (.aload_n 0, 1) := by decide +kernel
theorem dX7_split_136 : decode cX7_split 136 = .ok (.getfield 28, 3) := by decide +kernel
theorem dX7_split_139 : decode cX7_split 139 = .ok (.iconst 0, 1) := by decide +kernel
theorem dX7_split_140 : decode cX7_split 140 = .ok (.iastore, 1) := by decide +kernel
theorem dX7_split_141 : decode cX7_split 141 = .ok (.aload_n 0, 1) := by decide +kernel
theorem dX7_split_142 : decode cX7_split 142 = .ok (.getfield 15, 3) := by decide +kernel
theorem dX7_split_145 : decode cX7_split 145 = .ok (.aload_n 0, 1) := by decide +kernel
theorem dX7_split_146 : decode cX7_split 146 = .ok (.getfield 28, 3) := by decide +kernel
theorem dX7_split_149 : decode cX7_split 149 = .ok (.aload_n 0, 1) := by decide +kernel
theorem dX7_split_150 : decode cX7_split 150 = .ok (.getfield 21, 3) := by decide +kernel
theorem dX7_split_153 : decode cX7_split 153 = .ok (.getfield 43, 3) := by decide +kernel
theorem dX7_split_156 : decode cX7_split 156 = .ok (.iastore, 1) := by decide +kernel
theorem dX7_split_157 : decode cX7_split 157 = .ok (.aload_n 0, 1) := by decide +kernel
theorem dX7_split_158 : decode cX7_split 158 = .ok (.getfield 18, 3) := by decide +kernel
theorem dX7_split_161 : decode cX7_split 161 = .ok (.aload_n 0, 1) := by decide +kernel
theorem dX7_split_162 : decode cX7_split 162 = .ok (.getfield 28, 3) := by decide +kernel
theorem dX7_split_165 : decode cX7_split 165 = .ok (.aload_n 0, 1) := by decide +kernel
theorem dX7_split_166 : decode cX7_split 166 = .ok (.getfield 21, 3) := by decide +kernel
theorem dX7_split_169 : decode cX7_split 169 = .ok (.getfield 43, 3) := by decide +kernel
theorem dX7_split_172 : decode cX7_split 172 = .ok (.iastore, 1) := by decide +kernel
theorem dX7_split_173 : decode cX7_split 173 = .ok (.return_, 1) := by decide +kernel
theorem dX7_kindOf_0 : decode cX7_kindOf 0 = .ok (.iload_n 0, 1) := by decide +kernel
theorem dX7_kindOf_1 : decode cX7_kindOf 1 = .ok (.bipush 97, 2) := by decide +kernel
theorem dX7_kindOf_3 : decode cX7_kindOf 3 = .ok (.if_icmp .lt 11, 3) := by decide +kernel
theorem dX7_kindOf_6 : decode cX7_kindOf 6 = .ok (.iload_n 0, 1) := by decide +kernel
theorem dX7_kindOf_7 : decode cX7_kindOf 7 = .ok (.bipush 122, 2) := by decide +kernel
theorem dX7_kindOf_9 : decode cX7_kindOf 9 = .ok (.if_icmp .gt 5, 3) := by decide +kernel
theorem dX7_kindOf_12 : decode cX7_kindOf 12 = .ok (.iconst 1, 1) := by decide +kernel
theorem dX7_kindOf_13 : decode cX7_kindOf 13 = .ok (.ireturn, 1) := by decide +kernel
theorem dX7_kindOf_14 : decode cX7_kindOf 14 = .ok (.iload_n 0, 1) := by decide +kernel
theorem dX7_kindOf_15 : decode cX7_kindOf 15 = .ok (.bipush 48, 2) := by decide +kernel
theorem dX7_kindOf_17 : decode cX7_kindOf 17 = .ok (.if_icmp .lt 11, 3) := by decide +kernel
theorem dX7_kindOf_20 : decode cX7_kindOf 20 = .ok (.iload_n 0, 1) := by decide +kernel
theorem dX7_kindOf_21 : decode cX7_kindOf 21 = .ok (.bipush 57, 2) := by decide +kernel
theorem dX7_kindOf_23 : decode cX7_kindOf 23 = .ok (.if_icmp .gt 5, 3) := by decide +kernel
theorem dX7_kindOf_26 : decode cX7_kindOf 26 = .ok (.iconst 2, 1) := by decide +kernel
theorem dX7_kindOf_27 : decode cX7_kindOf 27 = .ok (.ireturn, 1) := by decide +kernel
theorem dX7_kindOf_28 : decode cX7_kindOf 28 = .ok (.iload_n 0, 1) := by decide +kernel
theorem dX7_kindOf_29 : decode cX7_kindOf 29 = .ok (.bipush 32, 2) := by decide +kernel
theorem dX7_kindOf_31 : decode cX7_kindOf 31 = .ok (.if_icmp .ne 7, 3) := by decide +kernel
theorem dX7_kindOf_34 : decode cX7_kindOf 34 = .ok (.iconst 0, 1) := by decide +kernel
theorem dX7_kindOf_35 : decode cX7_kindOf 35 = .ok (.goto 4, 3) := by decide +kernel
theorem dX7_kindOf_38 : decode cX7_kindOf 38 = .ok (.iconst 3, 1) := by decide +kernel
theorem dX7_kindOf_39 : decode cX7_kindOf 39 = .ok (.ireturn, 1) := by decide +kernel
theorem dX7_takeSign_0 : decode cX7_takeSign 0 = .ok (.aload_n 0, 1) := by decide +kernel
theorem dX7_takeSign_1 : decode cX7_takeSign 1 = .ok (.getfield 15, 3) := by decide +kernel
theorem dX7_takeSign_4 : decode cX7_takeSign 4 = .ok (.aload_n 0, 1) := by decide +kernel
theorem dX7_takeSign_5 : decode cX7_takeSign 5 = .ok (.getfield 36, 3) := by decide +kernel
theorem dX7_takeSign_8 : decode cX7_takeSign 8 = .ok (.iaload, 1) := by decide +kernel
theorem dX7_takeSign_9 : decode cX7_takeSign 9 = .ok (.istore_n 2, 1) := by decide +kernel
theorem dX7_takeSign_10 : decode cX7_takeSign 10 = .ok (.aload_n 0, 1) := by decide +kernel
theorem dX7_takeSign_11 : decode cX7_takeSign 11 = .ok (.getfield 9, 3) := by decide +kernel
theorem dX7_takeSign_14 : decode cX7_takeSign 14 = .ok (.aload_n 0, 1) := by decide +kernel
theorem dX7_takeSign_15 : decode cX7_takeSign 15 = .ok (.getfield 36, 3) := by decide +kernel
theorem dX7_takeSign_18 : decode cX7_takeSign 18 = .ok (.iaload, 1) := by decide +kernel
theorem dX7_takeSign_19 : decode cX7_takeSign 19 = .ok (.iconst 3, 1) := by decide +kernel
theorem dX7_takeSign_20 : decode cX7_takeSign 20 = .ok (.if_icmp .ne 16, 3) := by decide +kernel
theorem dX7_takeSign_23 : decode cX7_takeSign 23 = .ok (.aload_n 0, 1) := by decide +kernel
theorem dX7_takeSign_24 : decode cX7_takeSign 24 = .ok (.getfield 21, 3) := by decide +kernel
theorem dX7_takeSign_27 : decode cX7_takeSign 27 = .ok (.getfield 48, 3) := by decide +kernel
theorem dX7_takeSign_30 : decode cX7_takeSign 30 = .ok (.iload_n 2, 1) := by decide +kernel
theorem dX7_takeSign_31 : decode cX7_takeSign 31 = .ok (.baload, 1) := by decide +kernel
theorem dX7_takeSign_32 : decode cX7_takeSign 32 = .ok (.iload_n 1, 1) := by decide +kernel
theorem dX7_takeSign_33 : decode cX7_takeSign 33 = .ok (.if_icmp .eq 5, 3) := by decide +kernel
theorem dX7_takeSign_36 : decode cX7_takeSign 36 = .ok (.iconst 0, 1) := by decide +kernel
theorem dX7_takeSign_37 : decode cX7_takeSign 37 = .ok (.ireturn, 1) := by decide +kernel
theorem dX7_takeSign_38 : decode cX7_takeSign 38 = .ok (.aload_n 0, 1) := by decide +kernel
theorem dX7_takeSign_39 : decode cX7_takeSign 39 = .ok (.dup, 1) := by decide +kernel
theorem dX7_takeSign_40 : decode cX7_takeSign 40 = .ok (.getfield 36, 3) := by decide +kernel
theorem dX7_takeSign_43 : decode cX7_takeSign 43 = .ok (.iconst 1, 1) := by decide +kernel
theorem dX7_takeSign_44 : decode cX7_takeSign 44 = .ok (.iadd, 1) := by decide +kernel
theorem dX7_takeSign_45 : decode cX7_takeSign 45 = .ok (.putfield 36, 3) := by decide +kernel
theorem dX7_takeSign_48 : decode cX7_takeSign 48 = .ok (.iconst 1, 1) := by decide +kernel
theorem dX7_takeSign_49 : decode cX7_takeSign 49 = .ok (.ireturn, 1) := by decide +kernel
theorem dX7_takeWord_0 : decode cX7_takeWord 0 = .ok (.aload_n 0, 1) := by decide +kernel
theorem dX7_takeWord_1 : decode cX7_takeWord 1 = .ok (.getfield 15, 3) := by decide +kernel
theorem dX7_takeWord_4 : decode cX7_takeWord 4 = .ok (.aload_n 0, 1) := by decide +kernel
theorem dX7_takeWord_5 : decode cX7_takeWord 5 = .ok (.getfield 36, 3) := by decide +kernel
theorem dX7_takeWord_8 : decode cX7_takeWord 8 = .ok (.iaload, 1) := by decide +kernel
theorem dX7_takeWord_9 : decode cX7_takeWord 9 = .ok (.istore_n 2, 1) := by decide +kernel
theorem dX7_takeWord_10 : decode cX7_takeWord 10 = .ok (.aload_n 0, 1) := by decide +kernel
theorem dX7_takeWord_11 : decode cX7_takeWord 11 = .ok (.getfield 18, 3) := by decide +kernel
theorem dX7_takeWord_14 : decode cX7_takeWord 14 = .ok (.aload_n 0, 1) := by decide +kernel
theorem dX7_takeWord_15 : decode cX7_takeWord 15 = .ok (.getfield 36, 3) := by decide +kernel
theorem dX7_takeWord_18 : decode cX7_takeWord 18 = .ok (.iaload, 1) := by decide +kernel
theorem dX7_takeWord_19 : decode cX7_takeWord 19 = .ok (.iload_n 2, 1) := by decide +kernel
theorem dX7_takeWord_20 : decode cX7_takeWord 20 = .ok (.isub, 1) := by decide +kernel
theorem dX7_takeWord_21 : decode cX7_takeWord 21 = .ok (.istore_n 3, 1) := by decide +kernel
theorem dX7_takeWord_22 : decode cX7_takeWord 22 = .ok (.aload_n 0, 1) := by decide +kernel
theorem dX7_takeWord_23 : decode cX7_takeWord 23 = .ok (.getfield 9, 3) := by decide +kernel
theorem dX7_takeWord_26 : decode cX7_takeWord 26 = .ok (.aload_n 0, 1) := by decide +kernel
theorem dX7_takeWord_27 : decode cX7_takeWord 27 = .ok (.getfield 36, 3) := by decide +kernel
theorem dX7_takeWord_30 : decode cX7_takeWord 30 = .ok (.iaload, 1) := by decide +kernel
theorem dX7_takeWord_31 : decode cX7_takeWord 31 = .ok (.iconst 1, 1) := by decide +kernel
theorem dX7_takeWord_32 : decode cX7_takeWord 32 = .ok (.if_icmp .ne 11, 3) := by decide +kernel
theorem dX7_takeWord_35 : decode cX7_takeWord 35 = .ok (.iload_n 3, 1) := by decide +kernel
theorem dX7_takeWord_36 : decode cX7_takeWord 36 = .ok (.aload_n 1, 1) := by decide +kernel
theorem dX7_takeWord_37 : decode cX7_takeWord 37 = .ok (.invokevirtual 56, 3) := by decide +kernel
theorem dX7_takeWord_40 : decode cX7_takeWord 40 = .ok (.if_icmp .eq 5, 3) := by decide +kernel
theorem dX7_takeWord_43 : decode cX7_takeWord 43 = .ok (.iconst 0, 1) := by decide +kernel
theorem dX7_takeWord_44 : decode cX7_takeWord 44 = .ok (.ireturn, 1) := by decide +kernel
theorem dX7_takeWord_45 : decode cX7_takeWord 45 = .ok (.iconst 0, 1) := by decide +kernel
theorem dX7_takeWord_46 : decode cX7_takeWord 46 = .ok (.istore 4, 2) := by decide +kernel
theorem dX7_takeWord_48 : decode cX7_takeWord 48 = .ok (.iload 4, 2) := by decide +kernel
theorem dX7_takeWord_50 : decode cX7_takeWord 50 = .ok (.iload_n 3, 1) := by decide +kernel
theorem dX7_takeWord_51 : decode cX7_takeWord 51 = .ok (.if_icmp .ge 32, 3) := by decide +kernel
theorem dX7_takeWord_54 : decode cX7_takeWord 54 = .ok (.aload_n 0, 1) := by decide +kernel
theorem dX7_takeWord_55 : decode cX7_takeWord 55 = .ok (.getfield 21, 3) := by decide +kernel
theorem dX7_takeWord_58 : decode cX7_takeWord 58 = .ok (.getfield 48, 3) := by decide +kernel
theorem dX7_takeWord_61 : decode cX7_takeWord 61 = .ok (.iload_n 2, 1) := by decide +kernel
theorem dX7_takeWord_62 : decode cX7_takeWord 62 = .ok (.iload 4, 2) := by decide +kernel
theorem dX7_takeWord_64 : decode cX7_takeWord 64 = .ok (.iadd, 1) := by decide +kernel
theorem dX7_takeWord_65 : decode cX7_takeWord 65 = .ok (.baload, 1) := by decide +kernel
theorem dX7_takeWord_66 : decode cX7_takeWord 66 = .ok (.aload_n 1, 1) := by decide +kernel
theorem dX7_takeWord_67 : decode cX7_takeWord 67 = .ok (.iload 4, 2) := by decide +kernel
theorem dX7_takeWord_69 : decode cX7_takeWord 69 = .ok (.invokevirtual 62, 3) := by decide +kernel
theorem dX7_takeWord_72 : decode cX7_takeWord 72 = .ok (.if_icmp .eq 5, 3) := by decide +kernel
theorem dX7_takeWord_75 : decode cX7_takeWord 75 = .ok (.iconst 0, 1) := by decide +kernel
theorem dX7_takeWord_76 : decode cX7_takeWord 76 = .ok (.ireturn, 1) := by decide +kernel
theorem dX7_takeWord_77 : decode cX7_takeWord 77 = .ok (.iinc 4 1, 3) := by decide +kernel
theorem dX7_takeWord_80 : decode cX7_takeWord 80 = .ok (.goto (-32), 3) := by decide +kernel
theorem dX7_takeWord_83 : decode cX7_takeWord 83 = .ok (.aload_n 0, 1) := by decide +kernel
theorem dX7_takeWord_84 : decode cX7_takeWord 84 = .ok (.dup, 1) := by decide +kernel
theorem dX7_takeWord_85 : decode cX7_takeWord 85 = .ok (.getfield 36, 3) := by decide +kernel
theorem dX7_takeWord_88 : decode cX7_takeWord 88 = .ok (.iconst 1, 1) := by decide +kernel
theorem dX7_takeWord_89 : decode cX7_takeWord 89 = .ok (.iadd, 1) := by decide +kernel
theorem dX7_takeWord_90 : decode cX7_takeWord 90 = .ok (.putfield 36, 3) := by decide +kernel
theorem dX7_takeWord_93 : decode cX7_takeWord 93 = .ok (.iconst 1, 1) := by decide +kernel
theorem dX7_takeWord_94 : decode cX7_takeWord 94 = .ok (.ireturn, 1) := by decide +kernel
theorem dX7_atNumber_0 : decode cX7_atNumber 0 = .ok (.aload_n 0, 1) := by decide +kernel
theorem dX7_atNumber_1 : decode cX7_atNumber 1 = .ok (.getfield 9, 3) := by decide +kernel
theorem dX7_atNumber_4 : decode cX7_atNumber 4 = .ok (.aload_n 0, 1) := by decide +kernel
theorem dX7_atNumber_5 : decode cX7_atNumber 5 = .ok (.getfield 36, 3) := by decide +kernel
theorem dX7_atNumber_8 : decode cX7_atNumber 8 = .ok (.iaload, 1) := by decide +kernel
theorem dX7_atNumber_9 : decode cX7_atNumber 9 = .ok (.iconst 2, 1) := by decide +kernel
theorem dX7_atNumber_10 : decode cX7_atNumber 10 = .ok (.if_icmp .ne 7, 3) := by decide +kernel
theorem dX7_atNumber_13 : decode cX7_atNumber 13 = .ok (.iconst 1, 1) := by decide +kernel
theorem dX7_atNumber_14 : decode cX7_atNumber 14 = .ok (.goto 4, 3) := by decide +kernel
theorem dX7_atNumber_17 : decode cX7_atNumber 17 = .ok (.iconst 0, 1) := by decide +kernel
theorem dX7_atNumber_18 : decode cX7_atNumber 18 = .ok (.ireturn, 1) := by decide +kernel
theorem dX7_takeNumber_0 : decode cX7_takeNumber 0 = .ok (.aload_n 0, 1) := by decide +kernel
theorem dX7_takeNumber_1 : decode cX7_takeNumber 1 = .ok (.getfield 15, 3) := by decide +kernel
theorem dX7_takeNumber_4 : decode cX7_takeNumber 4 = .ok (.aload_n 0, 1) := by decide +kernel
theorem dX7_takeNumber_5 : decode cX7_takeNumber 5 = .ok (.getfield 36, 3) := by decide +kernel
theorem dX7_takeNumber_8 : decode cX7_takeNumber 8 = .ok (.iaload, 1) := by decide +kernel
theorem dX7_takeNumber_9 : decode cX7_takeNumber 9 = .ok (.istore_n 3, 1) := by decide +kernel
theorem dX7_takeNumber_10 : decode cX7_takeNumber 10 = .ok (.aload_n 0, 1) := by decide +kernel
theorem dX7_takeNumber_11 : decode cX7_takeNumber 11 = .ok (.getfield 18, 3) := by decide +kernel
theorem dX7_takeNumber_14 : decode cX7_takeNumber 14 = .ok (.aload_n 0, 1) := by decide +kernel
theorem dX7_takeNumber_15 : decode cX7_takeNumber 15 = .ok (.getfield 36, 3) := by decide +kernel
theorem dX7_takeNumber_18 : decode cX7_takeNumber 18 = .ok (.iaload, 1) := by decide +kernel
theorem dX7_takeNumber_19 : decode cX7_takeNumber 19 = .ok (.iload_n 3, 1) := by decide +kernel
theorem dX7_takeNumber_20 : decode cX7_takeNumber 20 = .ok (.isub, 1) := by decide +kernel
theorem dX7_takeNumber_21 : decode cX7_takeNumber 21 = .ok (.istore 4, 2) := by decide +kernel
theorem dX7_takeNumber_23 : decode cX7_takeNumber 23 = .ok (.aload_n 0, 1) := by decide +kernel
theorem dX7_takeNumber_24 : decode cX7_takeNumber 24 = .ok (.getfield 9, 3) := by decide +kernel
theorem dX7_takeNumber_27 : decode cX7_takeNumber 27 = .ok (.aload_n 0, 1) := by decide +kernel
theorem dX7_takeNumber_28 : decode cX7_takeNumber 28 = .ok (.getfield 36, 3) := by decide +kernel
theorem dX7_takeNumber_31 : decode cX7_takeNumber 31 = .ok (.iaload, 1) := by decide +kernel
theorem dX7_takeNumber_32 : decode cX7_takeNumber 32 = .ok (.iconst 2, 1) := by decide +kernel
theorem dX7_takeNumber_33 : decode cX7_takeNumber 33 = .ok (.if_icmp .ne 9, 3) := by decide +kernel
theorem dX7_takeNumber_36 : decode cX7_takeNumber 36 = .ok (.iload 4, 2) := by decide +kernel
theorem dX7_takeNumber_38 : decode cX7_takeNumber 38 = .ok (.iconst 3, 1) := by decide +kernel
theorem dX7_takeNumber_39 : decode cX7_takeNumber 39 = .ok (.if_icmp .le 5, 3) := by decide +kernel
theorem dX7_takeNumber_42 : decode cX7_takeNumber 42 = .ok (.iconst 0, 1) := by decide +kernel
theorem dX7_takeNumber_43 : decode cX7_takeNumber 43 = .ok (.ireturn, 1) := by decide +kernel
theorem dX7_takeNumber_44 : decode cX7_takeNumber 44 = .ok (.iconst 0, 1) := by decide +kernel
theorem dX7_takeNumber_45 : decode cX7_takeNumber 45 = .ok (.istore 5, 2) := by decide +kernel
theorem dX7_takeNumber_47 : decode cX7_takeNumber 47 = .ok (.iconst 0, 1) := by decide +kernel
theorem dX7_takeNumber_48 : decode cX7_takeNumber 48 = .ok (.istore 6, 2) := by decide +kernel
theorem dX7_takeNumber_50 : decode cX7_takeNumber 50 = .ok (.iload 6, 2) := by decide +kernel
theorem dX7_takeNumber_52 : decode cX7_takeNumber 52 = .ok (.iload 4, 2) := by decide +kernel
theorem dX7_takeNumber_54 : decode cX7_takeNumber 54 = .ok (.if_icmp .ge 32, 3) := by decide +kernel
theorem dX7_takeNumber_57 : decode cX7_takeNumber 57 = .ok (.bipush 10, 2) := by decide +kernel
theorem dX7_takeNumber_59 : decode cX7_takeNumber 59 = .ok (.iload 5, 2) := by decide +kernel
theorem dX7_takeNumber_61 : decode cX7_takeNumber 61 = .ok (.imul, 1) := by decide +kernel
theorem dX7_takeNumber_62 : decode cX7_takeNumber 62 = .ok (.aload_n 0, 1) := by decide +kernel
theorem dX7_takeNumber_63 : decode cX7_takeNumber 63 = .ok (.getfield 21, 3) := by decide +kernel
theorem dX7_takeNumber_66 : decode cX7_takeNumber 66 = .ok (.getfield 48, 3) := by decide +kernel
theorem dX7_takeNumber_69 : decode cX7_takeNumber 69 = .ok (.iload_n 3, 1) := by decide +kernel
theorem dX7_takeNumber_70 : decode cX7_takeNumber 70 = .ok (.iload 6, 2) := by decide +kernel
theorem dX7_takeNumber_72 : decode cX7_takeNumber 72 = .ok (.iadd, 1) := by decide +kernel
theorem dX7_takeNumber_73 : decode cX7_takeNumber 73 = .ok (.baload, 1) := by decide +kernel
theorem dX7_takeNumber_74 : decode cX7_takeNumber 74 = .ok (.iadd, 1) := by decide +kernel
theorem dX7_takeNumber_75 : decode cX7_takeNumber 75 = .ok (.bipush 48, 2) := by decide +kernel
theorem dX7_takeNumber_77 : decode cX7_takeNumber 77 = .ok (.isub, 1) := by decide +kernel
theorem dX7_takeNumber_78 : decode cX7_takeNumber 78 = .ok (.istore 5, 2) := by decide +kernel
theorem dX7_takeNumber_80 : decode cX7_takeNumber 80 = .ok (.iinc 6 1, 3) := by decide +kernel
theorem dX7_takeNumber_83 : decode cX7_takeNumber 83 = .ok (.goto (-33), 3) := by decide +kernel
theorem dX7_takeNumber_86 : decode cX7_takeNumber 86 = .ok (.iload 5, 2) := by decide +kernel
theorem dX7_takeNumber_88 : decode cX7_takeNumber 88 = .ok (.iload_n 1, 1) := by decide +kernel
theorem dX7_takeNumber_89 : decode cX7_takeNumber 89 = .ok (.if_icmp .lt 9, 3) := by decide +kernel
theorem dX7_takeNumber_92 : decode cX7_takeNumber 92 = .ok (.iload 5, 2) := by decide +kernel
theorem dX7_takeNumber_94 : decode cX7_takeNumber 94 = .ok (.iload_n 2, 1) := by decide +kernel
theorem dX7_takeNumber_95 : decode cX7_takeNumber 95 = .ok (.if_icmp .le 5, 3) := by decide +kernel
theorem dX7_takeNumber_98 : decode cX7_takeNumber 98 = .ok (.iconst 0, 1) := by decide +kernel
theorem dX7_takeNumber_99 : decode cX7_takeNumber 99 = .ok (.ireturn, 1) := by decide +kernel
theorem dX7_takeNumber_100 : decode cX7_takeNumber 100 = .ok (.aload_n 0, 1) := by decide +kernel
theorem dX7_takeNumber_101 : decode cX7_takeNumber 101 = .ok (.iload 5, 2) := by decide +kernel
theorem dX7_takeNumber_103 : decode cX7_takeNumber 103 = .ok (.putfield 66, 3) := by decide +kernel
theorem dX7_takeNumber_106 : decode cX7_takeNumber 106 = .ok (.aload_n 0, 1) := by decide +kernel
theorem dX7_takeNumber_107 : decode cX7_takeNumber 107 = .ok (.dup, 1) := by decide +kernel
theorem dX7_takeNumber_108 : decode cX7_takeNumber 108 = .ok (.getfield 36, 3) := by decide +kernel
theorem dX7_takeNumber_111 : decode cX7_takeNumber 111 = .ok (.iconst 1, 1) := by decide +kernel
theorem dX7_takeNumber_112 : decode cX7_takeNumber 112 = .ok (.iadd, 1) := by decide +kernel
theorem dX7_takeNumber_113 : decode cX7_takeNumber 113 = .ok (.putfield 36, 3) := by decide +kernel
theorem dX7_takeNumber_116 : decode cX7_takeNumber 116 = .ok (.iconst 1, 1) := by decide +kernel
theorem dX7_takeNumber_117 : decode cX7_takeNumber 117 = .ok (.ireturn, 1) := by decide +kernel
theorem dX8_init_0 : decode cX8_init 0 = .ok (.aload_n 0, 1) := by decide +kernel
theorem dX8_init_1 : decode cX8_init 1 = .ok (.invokespecial 3, 3) := by decide +kernel
theorem dX8_init_4 : decode cX8_init 4 = .ok (.aload_n 0, 1) := by decide +kernel
theorem dX8_init_5 : decode cX8_init 5 = .ok (.bipush 20, 2) := by decide +kernel
theorem dX8_init_7 : decode cX8_init 7 = .ok (.newarray .int, 2) := by decide +kernel
theorem dX8_init_9 : decode cX8_init 9 = .ok (.putfield 9, 3) := by decide +kernel
theorem dX8_init_12 : decode cX8_init 12 = .ok (.aload_n 0, 1) := by decide +kernel
theorem dX8_init_13 : decode cX8_init 13 = .ok (.bipush 20, 2) := by decide +kernel
theorem dX8_init_15 : decode cX8_init 15 = .ok (.newarray .boolean, 2) := by decide +kernel
theorem dX8_init_17 : decode cX8_init 17 = .ok (.putfield 15, 3) := by decide +kernel
theorem dX8_init_20 : decode cX8_init 20 = .ok (.aload_n 0, 1) := by decide +kernel
theorem dX8_init_21 : decode cX8_init 21 = .ok (.bipush 24, 2) := by decide +kernel
theorem dX8_init_23 : decode cX8_init 23 = .ok (.newarray .int, 2) := by decide +kernel
theorem dX8_init_25 : decode cX8_init 25 = .ok (.putfield 19, 3) := by decide +kernel
theorem dX8_init_28 : decode cX8_init 28 = .ok (.return_, 1) := by decide +kernel
theorem dX8_read_0 : decode cX8_read 0 = .ok (.aload_n 0, 1) := by decide +kernel
theorem dX8_read_1 : decode cX8_read 1 = .ok (.iconst 0, 1) := by decide +kernel
theorem dX8_read_2 : decode cX8_read 2 = .ok (.putfield 22, 3) := by decide +kernel
theorem dX8_read_5 : decode cX8_read 5 = .ok (.aload_n 1, 1) := by decide +kernel
theorem dX8_read_6 : decode cX8_read 6 = .ok (.getfield 26, 3) := by decide +kernel
theorem dX8_read_9 : decode cX8_read 9 = .ok (.bipush 40, 2) := by decide +kernel
theorem dX8_read_11 : decode cX8_read 11 = .ok (.if_icmp .gt 12, 3) := by decide +kernel
theorem dX8_read_14 : decode cX8_read 14 = .ok (.aload_n 1, 1) := by decide +kernel
theorem dX8_read_15 : decode cX8_read 15 = .ok (.getfield 26, 3) := by decide +kernel
theorem dX8_read_18 : decode cX8_read 18 = .ok (.iconst 2, 1) := by decide +kernel
theorem dX8_read_19 : decode cX8_read 19 = .ok (.irem, 1) := by decide +kernel
theorem dX8_read_20 : decode cX8_read 20 = .ok (.ifCond .eq 5, 3) := by decide +kernel
theorem dX8_read_23 : decode cX8_read 23 = .ok (.iconst 0, 1) := by decide +kernel
theorem dX8_read_24 : decode cX8_read 24 = .ok (.ireturn, 1) := by decide +kernel
theorem dX8_read_25 : decode cX8_read 25 = .ok (.iconst 0, 1) := by decide +kernel
theorem dX8_read_26 : decode cX8_read 26 = .ok (.istore_n 2, 1) := by decide +kernel
theorem dX8_read_27 : decode cX8_read 27 = .ok (.iload_n 2, 1) := by decide +kernel
theorem dX8_read_28 : decode cX8_read 28 = .ok (.aload_n 1, 1) := by decide +kernel
theorem dX8_read_29 : decode cX8_read 29 = .ok (.getfield 26, 3) := by decide +kernel
theorem dX8_read_32 : decode cX8_read 32 = .ok (.if_icmp .ge 81, 3) := by decide +kernel
theorem dX8_read_35 : decode cX8_read 35 = .ok (.aload_n 1, 1) := by decide +kernel
theorem dX8_read_36 : decode cX8_read 36 = .ok (.iload_n 2, 1) := by decide +kernel
theorem dX8_read_37 : decode cX8_read 37 = .ok (.invokevirtual 31, 3) := by decide +kernel
theorem dX8_read_40 : decode cX8_read 40 = .ok (.bipush 24, 2) := by decide +kernel
theorem dX8_read_42 : decode cX8_read 42 = .ok (.if_icmp .ge 14, 3) := by decide +kernel
theorem dX8_read_45 : decode cX8_read 45 = .ok (.aload_n 1, 1) := by decide +kernel
theorem dX8_read_46 : decode cX8_read 46 = .ok (.iload_n 2, 1) := by decide +kernel
theorem dX8_read_47 : decode cX8_read 47 = .ok (.iconst 1, 1) := by decide +kernel
theorem dX8_read_48 : decode cX8_read 48 = .ok (.iadd, 1) := by decide +kernel
theorem dX8_read_49 : decode cX8_read 49 = .ok (.invokevirtual 31, 3) := by decide +kernel
theorem dX8_read_52 : decode cX8_read 52 = .ok (.iconst 1, 1) := by decide +kernel
theorem dX8_read_53 : decode cX8_read 53 = .ok (.if_icmp .le 5, 3) := by decide +kernel
theorem dX8_read_56 : decode cX8_read 56 = .ok (.iconst 0, 1) := by decide +kernel
theorem dX8_read_57 : decode cX8_read 57 = .ok (.ireturn, 1) := by decide +kernel
theorem dX8_read_58 : decode cX8_read 58 = .ok (.aload_n 0, 1) := by decide +kernel
theorem dX8_read_59 : decode cX8_read 59 = .ok (.getfield 9, 3) := by decide +kernel
theorem dX8_read_62 : decode cX8_read 62 = .ok (.aload_n 0, 1) := by decide +kernel
theorem dX8_read_63 : decode cX8_read 63 = .ok (.getfield 22, 3) := by decide +kernel
theorem dX8_read_66 : decode cX8_read 66 = .ok (.aload_n 1, 1) := by decide +kernel
theorem dX8_read_67 : decode cX8_read 67 = .ok (.iload_n 2, 1) := by decide +kernel
theorem dX8_read_68 : decode cX8_read 68 = .ok (.invokevirtual 31, 3) := by decide +kernel
theorem dX8_read_71 : decode cX8_read 71 = .ok (.iastore, 1) := by decide +kernel
theorem dX8_read_72 : decode cX8_read 72 = .ok (.aload_n 0, 1) := by decide +kernel
theorem dX8_read_73 : decode cX8_read 73 = .ok (.getfield 15, 3) := by decide +kernel
theorem dX8_read_76 : decode cX8_read 76 = .ok (.aload_n 0, 1) := by decide +kernel
theorem dX8_read_77 : decode cX8_read 77 = .ok (.getfield 22, 3) := by decide +kernel
theorem dX8_read_80 : decode cX8_read 80 = .ok (.aload_n 1, 1) := by decide +kernel
theorem dX8_read_81 : decode cX8_read 81 = .ok (.iload_n 2, 1) := by decide +kernel
theorem dX8_read_82 : decode cX8_read 82 = .ok (.iconst 1, 1) := by decide +kernel
theorem dX8_read_83 : decode cX8_read 83 = .ok (.iadd, 1) := by decide +kernel
theorem dX8_read_84 : decode cX8_read 84 = .ok (.invokevirtual 31, 3) := by decide +kernel
theorem dX8_read_87 : decode cX8_read 87 = .ok (.iconst 1, 1) := by decide +kernel
theorem dX8_read_88 : decode cX8_read 88 = .ok (.if_icmp .ne 7, 3) := by decide +kernel
theorem dX8_read_91 : decode cX8_read 91 = .ok (.iconst 1, 1) := by decide +kernel
theorem dX8_read_92 : decode cX8_read 92 = .ok (.goto 4, 3) := by decide +kernel
theorem dX8_read_95 : decode cX8_read 95 = .ok (.iconst 0, 1) := by decide +kernel
theorem dX8_read_96 : decode cX8_read 96 = .ok (.bastore, 1) := by decide +kernel
theorem dX8_read_97 : decode cX8_read 97 = .ok (.aload_n 0, 1) := by decide +kernel
theorem dX8_read_98 : decode cX8_read 98 = .ok (.dup, 1) := by decide +kernel
theorem dX8_read_99 : decode cX8_read 99 = .ok (.getfield 22, 3) := by decide +kernel
theorem dX8_read_102 : decode cX8_read 102 = .ok (.iconst 1, 1) := by decide +kernel
theorem dX8_read_103 : decode cX8_read 103 = .ok (.iadd, 1) := by decide +kernel
theorem dX8_read_104 : decode cX8_read 104 = .ok (.putfield 22, 3) := by decide +kernel
theorem dX8_read_107 : decode cX8_read 107 = .ok (.iinc 2 2, 3) := by decide +kernel
theorem dX8_read_110 : decode cX8_read 110 = .ok (.goto (-83), 3) := by decide +kernel
theorem dX8_read_113 : decode cX8_read 113 = .ok (.iconst 1, 1) := by decide +kernel
theorem dX8_read_114 : decode cX8_read 114 = .ok (.ireturn, 1) := by decide +kernel
theorem dX8_search_0 : decode cX8_search 0 = .ok (.aload_n 0, 1) := by decide +kernel
theorem dX8_search_1 : decode cX8_search 1 = .ok (.iconst 0, 1) := by decide +kernel
theorem dX8_search_2 : decode cX8_search 2 = .ok (.putfield 35, 3) := by decide +kernel
theorem dX8_search_5 : decode cX8_search 5 = .ok (.aload_n 0, 1) := by decide +kernel
theorem dX8_search_6 : decode cX8_search 6 = .ok (.iconst (-1), 1) := by decide +kernel
theorem dX8_search_7 : decode cX8_search 7 = .ok (.putfield 38, 3) := by decide +kernel
theorem dX8_search_10 : decode cX8_search 10 = .ok (.aload_n 0, 1) := by decide +kernel
theorem dX8_search_11 : decode cX8_search 11 = .ok (.iconst 2, 1) := by decide +kernel
theorem dX8_search_12 : decode cX8_search 12 = .ok (.putfield 41, 3) := by decide +kernel
theorem dX8_search_15 : decode cX8_search 15 = .ok (.iconst 0, 1) := by decide +kernel
theorem dX8_search_16 : decode cX8_search 16 = .ok (.istore_n 1, 1) := by decide +kernel
theorem dX8_search_17 : decode cX8_search 17 = .ok (.iload_n 1, 1) := by decide +kernel
theorem dX8_search_18 : decode cX8_search 18 = .ok (.bipush 24, 2) := by decide +kernel
theorem dX8_search_20 : decode cX8_search 20 = .ok (.if_icmp .ge 16, 3) := by decide +kernel
theorem dX8_search_23 : decode cX8_search 23 = .ok (.aload_n 0, 1) := by decide +kernel
theorem dX8_search_24 : decode cX8_search 24 = .ok (.getfield 19, 3) := by decide +kernel
theorem dX8_search_27 : decode cX8_search 27 = .ok (.iload_n 1, 1) := by decide +kernel
theorem dX8_search_28 : decode cX8_search 28 = .ok (.iconst 0, 1) := by decide +kernel
theorem dX8_search_29 : decode cX8_search 29 = .ok (.iastore, 1) := by decide +kernel
theorem dX8_search_30 : decode cX8_search 30 = .ok (.iinc 1 1, 3) := by decide +kernel
theorem dX8_search_33 : decode cX8_search 33 = .ok (.goto (-16), 3) := by decide +kernel
theorem dX8_search_36 : decode cX8_search 36 = .ok (.iconst 0, 1) := by decide +kernel
theorem dX8_search_37 : decode cX8_search 37 = .ok (.istore_n 1, 1) := by decide +kernel
theorem dX8_search_38 : decode cX8_search 38 = .ok (.iload_n 1, 1) := by decide +kernel
theorem dX8_search_39 : decode cX8_search 39 = .ok (.bipush 24, 2) := by decide +kernel
theorem dX8_search_41 : decode cX8_search 41 = .ok (.if_icmp .ge 37, 3) := by decide +kernel
theorem dX8_search_44 : decode cX8_search 44 = .ok (.iconst 1, 1) := by decide +kernel
theorem dX8_search_45 : decode cX8_search 45 = .ok (.istore_n 2, 1) := by decide +kernel
theorem dX8_search_46 : decode cX8_search 46 = .ok (.iload_n 2, 1) := by decide +kernel
theorem dX8_search_47 : decode cX8_search 47 = .ok (.bipush 12, 2) := by decide +kernel
theorem dX8_search_49 : decode cX8_search 49 = .ok (.if_icmp .gt 23, 3) := by decide +kernel
theorem dX8_search_52 : decode cX8_search 52 = .ok (.iload_n 1, 1) := by decide +kernel
theorem dX8_search_53 : decode cX8_search 53 = .ok (.iload_n 2, 1) := by decide +kernel
theorem dX8_search_54 : decode cX8_search 54 = .ok (.iadd, 1) := by decide +kernel
theorem dX8_search_55 : decode cX8_search 55 = .ok (.bipush 24, 2) := by decide +kernel
theorem dX8_search_57 : decode cX8_search 57 = .ok (.if_icmp .gt 15, 3) := by decide +kernel
theorem dX8_search_60 : decode cX8_search 60 = .ok (.aload_n 0, 1) := by decide +kernel
theorem dX8_search_61 : decode cX8_search 61 = .ok (.iload_n 1, 1) := by decide +kernel
theorem dX8_search_62 : decode cX8_search 62 = .ok (.iload_n 2, 1) := by decide +kernel
theorem dX8_search_63 : decode cX8_search 63 = .ok (.invokevirtual 44, 3) := by decide +kernel
theorem dX8_search_66 : decode cX8_search 66 = .ok (.iinc 2 1, 3) := by decide +kernel
theorem dX8_search_69 : decode cX8_search 69 = .ok (.goto (-23), 3) := by decide +kernel
theorem dX8_search_72 : decode cX8_search 72 = .ok (.iinc 1 1, 3) := by decide +kernel
theorem dX8_search_75 : decode cX8_search 75 = .ok (.goto (-37), 3) := by decide +kernel
theorem dX8_search_78 : decode cX8_search 78 = .ok (.return_, 1) := by decide +kernel
theorem dX8_weigh_0 : decode cX8_weigh 0 = .ok (.aload_n 0, 1) := by decide +kernel
theorem dX8_weigh_1 : decode cX8_weigh 1 = .ok (.iload_n 1, 1) := by decide +kernel
theorem dX8_weigh_2 : decode cX8_weigh 2 = .ok (.iload_n 2, 1) := by decide +kernel
theorem dX8_weigh_3 : decode cX8_weigh 3 = .ok (.invokevirtual 48, 3) := by decide +kernel
theorem dX8_weigh_6 : decode cX8_weigh 6 = .ok (.istore_n 3, 1) := by decide +kernel
theorem dX8_weigh_7 : decode cX8_weigh 7 = .ok (.iload_n 3, 1) := by decide +kernel
theorem dX8_weigh_8 : decode cX8_weigh 8 = .ok (.iconst 1, 1) := by decide +kernel
theorem dX8_weigh_9 : decode cX8_weigh 9 = .ok (.if_icmp .le 4, 3) := by decide +kernel
theorem dX8_weigh_12 : decode cX8_weigh 12 = .ok (.return_, 1) := by decide +kernel
theorem dX8_weigh_13 : decode cX8_weigh 13 = .ok (.aload_n 0, 1) := by decide +kernel
theorem dX8_weigh_14 : decode cX8_weigh 14 = .ok (.dup, 1) := by decide +kernel
theorem dX8_weigh_15 : decode cX8_weigh 15 = .ok (.getfield 35, 3) := by decide +kernel
theorem dX8_weigh_18 : decode cX8_weigh 18 = .ok (.iconst 1, 1) := by decide +kernel
theorem dX8_weigh_19 : decode cX8_weigh 19 = .ok (.iadd, 1) := by decide +kernel
theorem dX8_weigh_20 : decode cX8_weigh 20 = .ok (.putfield 35, 3) := by decide +kernel
theorem dX8_weigh_23 : decode cX8_weigh 23 = .ok (.iload_n 3, 1) := by decide +kernel
theorem dX8_weigh_24 : decode cX8_weigh 24 = .ok (.aload_n 0, 1) := by decide +kernel
theorem dX8_weigh_25 : decode cX8_weigh 25 = .ok (.getfield 41, 3) := by decide +kernel
theorem dX8_weigh_28 : decode cX8_weigh 28 = .ok (.if_icmp .ge 20, 3) := by decide +kernel
theorem dX8_weigh_31 : decode cX8_weigh 31 = .ok (.aload_n 0, 1) := by decide +kernel
theorem dX8_weigh_32 : decode cX8_weigh 32 = .ok (.iload_n 3, 1) := by decide +kernel
theorem dX8_weigh_33 : decode cX8_weigh 33 = .ok (.putfield 41, 3) := by decide +kernel
theorem dX8_weigh_36 : decode cX8_weigh 36 = .ok (.aload_n 0, 1) := by decide +kernel
theorem dX8_weigh_37 : decode cX8_weigh 37 = .ok (.bipush 12, 2) := by decide +kernel
theorem dX8_weigh_39 : decode cX8_weigh 39 = .ok (.iload_n 1, 1) := by decide +kernel
theorem dX8_weigh_40 : decode cX8_weigh 40 = .ok (.imul, 1) := by decide +kernel
theorem dX8_weigh_41 : decode cX8_weigh 41 = .ok (.iload_n 2, 1) := by decide +kernel
theorem dX8_weigh_42 : decode cX8_weigh 42 = .ok (.iadd, 1) := by decide +kernel
theorem dX8_weigh_43 : decode cX8_weigh 43 = .ok (.iconst 1, 1) := by decide +kernel
theorem dX8_weigh_44 : decode cX8_weigh 44 = .ok (.isub, 1) := by decide +kernel
theorem dX8_weigh_45 : decode cX8_weigh 45 = .ok (.putfield 38, 3) := by decide +kernel
theorem dX8_weigh_48 : decode cX8_weigh 48 = .ok (.iload_n 1, 1) := by decide +kernel
theorem dX8_weigh_49 : decode cX8_weigh 49 = .ok (.istore 4, 2) := by decide +kernel
theorem dX8_weigh_51 : decode cX8_weigh 51 = .ok (.iload 4, 2) := by decide +kernel
theorem dX8_weigh_53 : decode cX8_weigh 53 = .ok (.iload_n 1, 1) := by decide +kernel
theorem dX8_weigh_54 : decode cX8_weigh 54 = .ok (.iload_n 2, 1) := by decide +kernel
theorem dX8_weigh_55 : decode cX8_weigh 55 = .ok (.iadd, 1) := by decide +kernel
theorem dX8_weigh_56 : decode cX8_weigh 56 = .ok (.if_icmp .ge 27, 3) := by decide +kernel
theorem dX8_weigh_59 : decode cX8_weigh 59 = .ok (.iload 4, 2) := by decide +kernel
theorem dX8_weigh_61 : decode cX8_weigh 61 = .ok (.bipush 24, 2) := by decide +kernel
theorem dX8_weigh_63 : decode cX8_weigh 63 = .ok (.if_icmp .ge 20, 3) := by decide +kernel
theorem dX8_weigh_66 : decode cX8_weigh 66 = .ok (.aload_n 0, 1) := by decide +kernel
theorem dX8_weigh_67 : decode cX8_weigh 67 = .ok (.getfield 19, 3) := by decide +kernel
theorem dX8_weigh_70 : decode cX8_weigh 70 = .ok (.iload 4, 2) := by decide +kernel
theorem dX8_weigh_72 : decode cX8_weigh 72 = .ok (.dup2, 1) := by decide +kernel
theorem dX8_weigh_73 : decode cX8_weigh 73 = .ok (.iaload, 1) := by decide +kernel
theorem dX8_weigh_74 : decode cX8_weigh 74 = .ok (.iconst 1, 1) := by decide +kernel
theorem dX8_weigh_75 : decode cX8_weigh 75 = .ok (.iadd, 1) := by decide +kernel
theorem dX8_weigh_76 : decode cX8_weigh 76 = .ok (.iastore, 1) := by decide +kernel
theorem dX8_weigh_77 : decode cX8_weigh 77 = .ok (.iinc 4 1, 3) := by decide +kernel
theorem dX8_weigh_80 : decode cX8_weigh 80 = .ok (.goto (-29), 3) := by decide +kernel
theorem dX8_weigh_83 : decode cX8_weigh 83 = .ok (.return_, 1) := by decide +kernel
theorem dX8_wrongRows_0 : decode cX8_wrongRows 0 = .ok (.iconst 0, 1) := by decide +kernel
theorem dX8_wrongRows_1 : decode cX8_wrongRows 1 = .ok (.istore_n 3, 1) := by decide +kernel
theorem dX8_wrongRows_2 : decode cX8_wrongRows 2 = .ok (.iconst 0, 1) := by decide +kernel
theorem dX8_wrongRows_3 : decode cX8_wrongRows 3 = .ok (.istore 4, 2) := by decide +kernel
theorem dX8_wrongRows_5 : decode cX8_wrongRows 5 = .ok (.iload 4, 2) := by decide +kernel
theorem dX8_wrongRows_7 : decode cX8_wrongRows 7 = .ok (.aload_n 0, 1) := by decide +kernel
theorem dX8_wrongRows_8 : decode cX8_wrongRows 8 = .ok (.getfield 22, 3) := by decide +kernel
theorem dX8_wrongRows_11 : decode cX8_wrongRows 11 = .ok (.if_icmp .ge 55, 3) := by decide +kernel
theorem dX8_wrongRows_14 : decode cX8_wrongRows 14 = .ok (.aload_n 0, 1) := by decide +kernel
theorem dX8_wrongRows_15 : decode cX8_wrongRows 15 = .ok (.getfield 9, 3) := by decide +kernel
theorem dX8_wrongRows_18 : decode cX8_wrongRows 18 = .ok (.iload 4, 2) := by decide +kernel
theorem dX8_wrongRows_20 : decode cX8_wrongRows 20 = .ok (.iaload, 1) := by decide +kernel
theorem dX8_wrongRows_21 : decode cX8_wrongRows 21 = .ok (.iload_n 1, 1) := by decide +kernel
theorem dX8_wrongRows_22 : decode cX8_wrongRows 22 = .ok (.if_icmp .lt 20, 3) := by decide +kernel
theorem dX8_wrongRows_25 : decode cX8_wrongRows 25 = .ok (.aload_n 0, 1) := by decide +kernel
theorem dX8_wrongRows_26 : decode cX8_wrongRows 26 = .ok (.getfield 9, 3) := by decide +kernel
theorem dX8_wrongRows_29 : decode cX8_wrongRows 29 = .ok (.iload 4, 2) := by decide +kernel
theorem dX8_wrongRows_31 : decode cX8_wrongRows 31 = .ok (.iaload, 1) := by decide +kernel
theorem dX8_wrongRows_32 : decode cX8_wrongRows 32 = .ok (.iload_n 1, 1) := by decide +kernel
theorem dX8_wrongRows_33 : decode cX8_wrongRows 33 = .ok (.iload_n 2, 1) := by decide +kernel
theorem dX8_wrongRows_34 : decode cX8_wrongRows 34 = .ok (.iadd, 1) := by decide +kernel
theorem dX8_wrongRows_35 : decode cX8_wrongRows 35 = .ok (.if_icmp .ge 7, 3) := by decide +kernel
theorem dX8_wrongRows_38 : decode cX8_wrongRows 38 = .ok (.iconst 1, 1) := by decide +kernel
theorem dX8_wrongRows_39 : decode cX8_wrongRows 39 = .ok (.goto 4, 3) := by decide +kernel
theorem dX8_wrongRows_42 : decode cX8_wrongRows 42 = .ok (.iconst 0, 1) := by decide +kernel
theorem dX8_wrongRows_43 : decode cX8_wrongRows 43 = .ok (.istore 5, 2) := by decide +kernel
theorem dX8_wrongRows_45 : decode cX8_wrongRows 45 = .ok (.iload 5, 2) := by decide +kernel
theorem dX8_wrongRows_47 : decode cX8_wrongRows 47 = .ok (.aload_n 0, 1) := by decide +kernel
theorem dX8_wrongRows_48 : decode cX8_wrongRows 48 = .ok (.getfield 15, 3) := by decide +kernel
theorem dX8_wrongRows_51 : decode cX8_wrongRows 51 = .ok (.iload 4, 2) := by decide +kernel
theorem dX8_wrongRows_53 : decode cX8_wrongRows 53 = .ok (.baload, 1) := by decide +kernel
theorem dX8_wrongRows_54 : decode cX8_wrongRows 54 = .ok (.if_icmp .eq 6, 3) := by decide +kernel
theorem dX8_wrongRows_57 : decode cX8_wrongRows 57 = .ok (.iinc 3 1, 3) := by decide +kernel
theorem dX8_wrongRows_60 : decode cX8_wrongRows 60 = .ok (.iinc 4 1, 3) := by decide +kernel
theorem dX8_wrongRows_63 : decode cX8_wrongRows 63 = .ok (.goto (-58), 3) := by decide +kernel
theorem dX8_wrongRows_66 : decode cX8_wrongRows 66 = .ok (.iload_n 3, 1) := by decide +kernel
theorem dX8_wrongRows_67 : decode cX8_wrongRows 67 = .ok (.ireturn, 1) := by decide +kernel
theorem dX8_bestPlace_0 : decode cX8_bestPlace 0 = .ok (.iconst (-1), 1) := by decide +kernel
theorem dX8_bestPlace_1 : decode cX8_bestPlace 1 = .ok (.istore_n 1, 1) := by decide +kernel
theorem dX8_bestPlace_2 : decode cX8_bestPlace 2 = .ok (.aload_n 0, 1) := by decide +kernel
theorem dX8_bestPlace_3 : decode cX8_bestPlace 3 = .ok (.getfield 35, 3) := by decide +kernel
theorem dX8_bestPlace_6 : decode cX8_bestPlace 6 = .ok (.istore_n 2, 1) := by decide +kernel
theorem dX8_bestPlace_7 : decode cX8_bestPlace 7 = .ok (.iconst 0, 1) := by decide +kernel
theorem dX8_bestPlace_8 : decode cX8_bestPlace 8 = .ok (.istore_n 3, 1) := by decide +kernel
theorem dX8_bestPlace_9 : decode cX8_bestPlace 9 = .ok (.iload_n 3, 1) := by decide +kernel
theorem dX8_bestPlace_10 : decode cX8_bestPlace 10 = .ok (.bipush 24, 2) := by decide +kernel
theorem dX8_bestPlace_12 : decode cX8_bestPlace 12 = .ok (.if_icmp .ge 55, 3) := by decide +kernel
theorem dX8_bestPlace_15 : decode cX8_bestPlace 15 = .ok (.aload_n 0, 1) := by decide +kernel
theorem dX8_bestPlace_16 : decode cX8_bestPlace 16 = .ok (.getfield 35, 3) := by decide +kernel
theorem dX8_bestPlace_19 : decode cX8_bestPlace 19 = .ok (.iconst 2, 1) := by decide +kernel
theorem dX8_bestPlace_20 : decode cX8_bestPlace 20 = .ok (.if_icmp .lt 47, 3) := by decide +kernel
theorem dX8_bestPlace_23 : decode cX8_bestPlace 23 = .ok (.aload_n 0, 1) := by decide +kernel
theorem dX8_bestPlace_24 : decode cX8_bestPlace 24 = .ok (.getfield 19, 3) := by decide +kernel
theorem dX8_bestPlace_27 : decode cX8_bestPlace 27 = .ok (.iload_n 3, 1) := by decide +kernel
theorem dX8_bestPlace_28 : decode cX8_bestPlace 28 = .ok (.iaload, 1) := by decide +kernel
theorem dX8_bestPlace_29 : decode cX8_bestPlace 29 = .ok (.aload_n 0, 1) := by decide +kernel
theorem dX8_bestPlace_30 : decode cX8_bestPlace 30 = .ok (.getfield 35, 3) := by decide +kernel
theorem dX8_bestPlace_33 : decode cX8_bestPlace 33 = .ok (.aload_n 0, 1) := by decide +kernel
theorem dX8_bestPlace_34 : decode cX8_bestPlace 34 = .ok (.getfield 19, 3) := by decide +kernel
theorem dX8_bestPlace_37 : decode cX8_bestPlace 37 = .ok (.iload_n 3, 1) := by decide +kernel
theorem dX8_bestPlace_38 : decode cX8_bestPlace 38 = .ok (.iaload, 1) := by decide +kernel
theorem dX8_bestPlace_39 : decode cX8_bestPlace 39 = .ok (.isub, 1) := by decide +kernel
theorem dX8_bestPlace_40 : decode cX8_bestPlace 40 = .ok (.invokestatic 52, 3) := by decide +kernel
theorem dX8_bestPlace_43 : decode cX8_bestPlace 43 = .ok (.istore 4, 2) := by decide +kernel
theorem dX8_bestPlace_45 : decode cX8_bestPlace 45 = .ok (.iload_n 1, 1) := by decide +kernel
theorem dX8_bestPlace_46 : decode cX8_bestPlace 46 = .ok (.iconst (-1), 1) := by decide +kernel
theorem dX8_bestPlace_47 : decode cX8_bestPlace 47 = .ok (.if_icmp .eq 9, 3) := by decide +kernel
theorem dX8_bestPlace_50 : decode cX8_bestPlace 50 = .ok (.iload 4, 2) := by decide +kernel
theorem dX8_bestPlace_52 : decode cX8_bestPlace 52 = .ok (.iload_n 2, 1) := by decide +kernel
theorem dX8_bestPlace_53 : decode cX8_bestPlace 53 = .ok (.if_icmp .ge 8, 3) := by decide +kernel
theorem dX8_bestPlace_56 : decode cX8_bestPlace 56 = .ok (.iload_n 3, 1) := by decide +kernel
theorem dX8_bestPlace_57 : decode cX8_bestPlace 57 = .ok (.istore_n 1, 1) := by decide +kernel
theorem dX8_bestPlace_58 : decode cX8_bestPlace 58 = .ok (.iload 4, 2) := by decide +kernel
theorem dX8_bestPlace_60 : decode cX8_bestPlace 60 = .ok (.istore_n 2, 1) := by decide +kernel
theorem dX8_bestPlace_61 : decode cX8_bestPlace 61 = .ok (.iinc 3 1, 3) := by decide +kernel
theorem dX8_bestPlace_64 : decode cX8_bestPlace 64 = .ok (.goto (-55), 3) := by decide +kernel
theorem dX8_bestPlace_67 : decode cX8_bestPlace 67 = .ok (.iload_n 1, 1) := by decide +kernel
theorem dX8_bestPlace_68 : decode cX8_bestPlace 68 = .ok (.ireturn, 1) := by decide +kernel
theorem dX10_init_0 : decode cX10_init 0 = .ok (.aload_n 0, 1) := by decide +kernel
theorem dX10_init_1 : decode cX10_init 1 = .ok (.invokespecial 3, 3) := by decide +kernel
theorem dX10_init_4 : decode cX10_init 4 = .ok (.aload_n 0, 1) := by decide +kernel
theorem dX10_init_5 : decode cX10_init 5 = .ok (.sipush 400, 3) := by decide +kernel
theorem dX10_init_8 : decode cX10_init 8 = .ok (.newarray .byte, 2) := by decide +kernel
theorem dX10_init_10 : decode cX10_init 10 = .ok (.putfield 9, 3) := by decide +kernel
theorem dX10_init_13 : decode cX10_init 13 = .ok (.return_, 1) := by decide +kernel
theorem dX10_addFour_0 : decode cX10_addFour 0 = .ok (.bipush 24, 2) := by decide +kernel
theorem dX10_addFour_2 : decode cX10_addFour 2 = .ok (.istore_n 2, 1) := by decide +kernel
theorem dX10_addFour_3 : decode cX10_addFour 3 = .ok (.iload_n 2, 1) := by decide +kernel
theorem dX10_addFour_4 : decode cX10_addFour 4 = .ok (.ifCond .lt 42, 3) := by decide +kernel
theorem dX10_addFour_7 : decode cX10_addFour 7 = .ok (.aload_n 0, 1) := by decide +kernel
theorem dX10_addFour_8 : decode cX10_addFour 8 = .ok (.getfield 15, 3) := by decide +kernel
theorem dX10_addFour_11 : decode cX10_addFour 11 = .ok (.sipush 400, 3) := by decide +kernel
theorem dX10_addFour_14 : decode cX10_addFour 14 = .ok (.if_icmp .ge 26, 3) := by decide +kernel
theorem dX10_addFour_17 : decode cX10_addFour 17 = .ok (.aload_n 0, 1) := by decide +kernel
theorem dX10_addFour_18 : decode cX10_addFour 18 = .ok (.getfield 9, 3) := by decide +kernel
theorem dX10_addFour_21 : decode cX10_addFour 21 = .ok (.aload_n 0, 1) := by decide +kernel
theorem dX10_addFour_22 : decode cX10_addFour 22 = .ok (.getfield 15, 3) := by decide +kernel
theorem dX10_addFour_25 : decode cX10_addFour 25 = .ok (.iload_n 1, 1) := by decide +kernel
theorem dX10_addFour_26 : decode cX10_addFour 26 = .ok (.iload_n 2, 1) := by decide +kernel
theorem dX10_addFour_27 : decode cX10_addFour 27 = .ok (.ishr, 1) := by decide +kernel
theorem dX10_addFour_28 : decode cX10_addFour 28 = .ok (.i2b, 1) := by decide +kernel
theorem dX10_addFour_29 : decode cX10_addFour 29 = .ok (.bastore, 1) := by decide +kernel
theorem dX10_addFour_30 : decode cX10_addFour 30 = .ok (.aload_n 0, 1) := by decide +kernel
theorem dX10_addFour_31 : decode cX10_addFour 31 = .ok (.dup, 1) := by decide +kernel
theorem dX10_addFour_32 : decode cX10_addFour 32 = .ok (.getfield 15, 3) := by decide +kernel
theorem dX10_addFour_35 : decode cX10_addFour 35 = .ok (.iconst 1, 1) := by decide +kernel
theorem dX10_addFour_36 : decode cX10_addFour 36 = .ok (.iadd, 1) := by decide +kernel
theorem dX10_addFour_37 : decode cX10_addFour 37 = .ok (.putfield 15, 3) := by decide +kernel
theorem dX10_addFour_40 : decode cX10_addFour 40 = .ok (.iinc 2 (-8), 3) := by decide +kernel
theorem dX10_addFour_43 : decode cX10_addFour 43 = .ok (.goto (-40), 3) := by decide +kernel
theorem dX10_addFour_46 : decode cX10_addFour 46 = .ok (.return_, 1) := by decide +kernel
theorem dX10_sign_0 : decode cX10_sign 0 = .ok (.iload_n 1, 1) := by decide +kernel
theorem dX10_sign_1 : decode cX10_sign 1 = .ok (.ifCond .lt 24, 3) := by decide +kernel
theorem dX10_sign_4 : decode cX10_sign 4 = .ok (.iload_n 1, 1) := by decide +kernel
theorem dX10_sign_5 : decode cX10_sign 5 = .ok (.aload_n 0, 1) := by decide +kernel
theorem dX10_sign_6 : decode cX10_sign 6 = .ok (.getfield 15, 3) := by decide +kernel
theorem dX10_sign_9 : decode cX10_sign 9 = .ok (.if_icmp .ge 16, 3) := by decide +kernel
theorem dX10_sign_12 : decode cX10_sign 12 = .ok (.aload_n 0, 1) := by decide +kernel
theorem dX10_sign_13 : decode cX10_sign 13 = .ok (.getfield 9, 3) := by decide +kernel
theorem dX10_sign_16 : decode cX10_sign 16 = .ok (.iload_n 1, 1) := by decide +kernel
theorem dX10_sign_17 : decode cX10_sign 17 = .ok (.baload, 1) := by decide +kernel
theorem dX10_sign_18 : decode cX10_sign 18 = .ok (.sipush 255, 3) := by decide +kernel
theorem dX10_sign_21 : decode cX10_sign 21 = .ok (.iand, 1) := by decide +kernel
theorem dX10_sign_22 : decode cX10_sign 22 = .ok (.goto 4, 3) := by decide +kernel
theorem dX10_sign_25 : decode cX10_sign 25 = .ok (.iconst (-1), 1) := by decide +kernel
theorem dX10_sign_26 : decode cX10_sign 26 = .ok (.ireturn, 1) := by decide +kernel
