theorem dX12_thrown_0 : decode cX12_thrown 0 = .ok (.aload_n 0, 1) := by decide +kernel
theorem dX12_thrown_1 : decode cX12_thrown 1 = .ok (.getfield 3, 3) := by decide +kernel
theorem dX12_thrown_4 : decode cX12_thrown 4 = .ok (.ireturn, 1) := by decide +kernel
theorem dX12_throwsIf_0 : decode cX12_throwsIf 0 = .ok (.iload_n 1, 1) := by decide +kernel
theorem dX12_throwsIf_1 : decode cX12_throwsIf 1 = .ok (.ifCond .eq 8, 3) := by decide +kernel
theorem dX12_throwsIf_4 : decode cX12_throwsIf 4 = .ok (.aload_n 0, 1) := by decide +kernel
theorem dX12_throwsIf_5 : decode cX12_throwsIf 5 = .ok (.iload_n 2, 1) := by decide +kernel
theorem dX12_throwsIf_6 : decode cX12_throwsIf 6 = .ok (.putfield 3, 3) := by decide +kernel
theorem dX12_throwsIf_9 : decode cX12_throwsIf 9 = .ok (.iload_n 1, 1) := by decide +kernel
theorem dX12_throwsIf_10 : decode cX12_throwsIf 10 = .ok (.ireturn, 1) := by decide +kernel
theorem dX12_in_0 : decode cX12_in 0 = .ok (.iload_n 0, 1) := by decide +kernel
theorem dX12_in_1 : decode cX12_in 1 = .ok (.iload_n 1, 1) := by decide +kernel
theorem dX12_in_2 : decode cX12_in 2 = .ok (.if_icmp .lt 12, 3) := by decide +kernel
theorem dX12_in_5 : decode cX12_in 5 = .ok (.iload_n 0, 1) := by decide +kernel
theorem dX12_in_6 : decode cX12_in 6 = .ok (.iload_n 2, 1) := by decide +kernel
theorem dX12_in_7 : decode cX12_in 7 = .ok (.if_icmp .gt 7, 3) := by decide +kernel
theorem dX12_in_10 : decode cX12_in 10 = .ok (.iconst 1, 1) := by decide +kernel
theorem dX12_in_11 : decode cX12_in 11 = .ok (.goto 4, 3) := by decide +kernel
theorem dX12_in_14 : decode cX12_in 14 = .ok (.iconst 0, 1) := by decide +kernel
theorem dX12_in_15 : decode cX12_in 15 = .ok (.ireturn, 1) := by decide +kernel
theorem dX12_has_0 : decode cX12_has 0 = .ok (.iload_n 0, 1) := by decide +kernel
theorem dX12_has_1 : decode cX12_has 1 = .ok (.iload_n 1, 1) := by decide +kernel
theorem dX12_has_2 : decode cX12_has 2 = .ok (.ishr, 1) := by decide +kernel
theorem dX12_has_3 : decode cX12_has 3 = .ok (.iconst 1, 1) := by decide +kernel
theorem dX12_has_4 : decode cX12_has 4 = .ok (.iand, 1) := by decide +kernel
theorem dX12_has_5 : decode cX12_has 5 = .ok (.iconst 1, 1) := by decide +kernel
theorem dX12_has_6 : decode cX12_has 6 = .ok (.if_icmp .ne 7, 3) := by decide +kernel
theorem dX12_has_9 : decode cX12_has 9 = .ok (.iconst 1, 1) := by decide +kernel
theorem dX12_has_10 : decode cX12_has 10 = .ok (.goto 4, 3) := by decide +kernel
theorem dX12_has_13 : decode cX12_has 13 = .ok (.iconst 0, 1) := by decide +kernel
theorem dX12_has_14 : decode cX12_has 14 = .ok (.ireturn, 1) := by decide +kernel
theorem dX12_init_0 : decode cX12_init 0 = .ok (.aload_n 0, 1) := by decide +kernel
theorem dX12_init_1 : decode cX12_init 1 = .ok (.invokespecial 7, 3) := by decide +kernel
theorem dX12_init_4 : decode cX12_init 4 = .ok (.aload_n 0, 1) := by decide +kernel
theorem dX12_init_5 : decode cX12_init 5 = .ok (.sipush 2071, 3) := by decide +kernel
theorem dX12_init_8 : decode cX12_init 8 = .ok (.newarray .int, 2) := by decide +kernel
theorem dX12_init_10 : decode cX12_init 10 = .ok (.putfield 13, 3) := by decide +kernel
theorem dX12_init_13 : decode cX12_init 13 = .ok (.aload_n 0, 1) := by decide +kernel
theorem dX12_init_14 : decode cX12_init 14 = .ok (.sipush 1222, 3) := by decide +kernel
theorem dX12_init_17 : decode cX12_init 17 = .ok (.newarray .int, 2) := by decide +kernel
theorem dX12_init_19 : decode cX12_init 19 = .ok (.putfield 17, 3) := by decide +kernel
theorem dX12_init_22 : decode cX12_init 22 = .ok (.aload_n 0, 1) := by decide +kernel
theorem dX12_init_23 : decode cX12_init 23 = .ok (.sipush 1222, 3) := by decide +kernel
theorem dX12_init_26 : decode cX12_init 26 = .ok (.newarray .int, 2) := by decide +kernel
theorem dX12_init_28 : decode cX12_init 28 = .ok (.putfield 20, 3) := by decide +kernel
theorem dX12_init_31 : decode cX12_init 31 = .ok (.aload_n 0, 1) := by decide +kernel
theorem dX12_init_32 : decode cX12_init 32 = .ok (.sipush 373, 3) := by decide +kernel
theorem dX12_init_35 : decode cX12_init 35 = .ok (.newarray .int, 2) := by decide +kernel
theorem dX12_init_37 : decode cX12_init 37 = .ok (.putfield 23, 3) := by decide +kernel
theorem dX12_init_40 : decode cX12_init 40 = .ok (.aload_n 0, 1) := by decide +kernel
theorem dX12_init_41 : decode cX12_init 41 = .ok (.sipush 4476, 3) := by decide +kernel
theorem dX12_init_44 : decode cX12_init 44 = .ok (.newarray .int, 2) := by decide +kernel
theorem dX12_init_46 : decode cX12_init 46 = .ok (.putfield 26, 3) := by decide +kernel
theorem dX12_init_49 : decode cX12_init 49 = .ok (.aload_n 0, 1) := by decide +kernel
theorem dX12_init_50 : decode cX12_init 50 = .ok (.sipush 400, 3) := by decide +kernel
theorem dX12_init_53 : decode cX12_init 53 = .ok (.newarray .byte, 2) := by decide +kernel
theorem dX12_init_55 : decode cX12_init 55 = .ok (.putfield 29, 3) := by decide +kernel
theorem dX12_init_58 : decode cX12_init 58 = .ok (.aload_n 0, 1) := by decide +kernel
theorem dX12_init_59 : decode cX12_init 59 = .ok (.iconst (-1), 1) := by decide +kernel
theorem dX12_init_60 : decode cX12_init 60 = .ok (.putfield 33, 3) := by decide +kernel
theorem dX12_init_63 : decode cX12_init 63 = .ok (.aload_n 0, 1) := by decide +kernel
theorem dX12_init_64 : decode cX12_init 64 = .ok (.iconst 5, 1) := by decide +kernel
theorem dX12_init_65 : decode cX12_init 65 = .ok (.newarray .int, 2) := by decide +kernel
theorem dX12_init_67 : decode cX12_init 67 = .ok (.putfield 36, 3) := by decide +kernel
theorem dX12_init_70 : decode cX12_init 70 = .ok (.aload_n 0, 1) := by decide +kernel
theorem dX12_init_71 : decode cX12_init 71 = .ok (.sipush 400, 3) := by decide +kernel
theorem dX12_init_74 : decode cX12_init 74 = .ok (.newarray .int, 2) := by decide +kernel
theorem dX12_init_76 : decode cX12_init 76 = .ok (.putfield 39, 3) := by decide +kernel
theorem dX12_init_79 : decode cX12_init 79 = .ok (.aload_n 0, 1) := by decide +kernel
theorem dX12_init_80 : decode cX12_init 80 = .ok (.bipush 8, 2) := by decide +kernel
theorem dX12_init_82 : decode cX12_init 82 = .ok (.newarray .int, 2) := by decide +kernel
theorem dX12_init_84 : decode cX12_init 84 = .ok (.putfield 42, 3) := by decide +kernel
theorem dX12_init_87 : decode cX12_init 87 = .ok (.aload_n 0, 1) := by decide +kernel
theorem dX12_init_88 : decode cX12_init 88 = .ok (.bipush 24, 2) := by decide +kernel
theorem dX12_init_90 : decode cX12_init 90 = .ok (.newarray .int, 2) := by decide +kernel
theorem dX12_init_92 : decode cX12_init 92 = .ok (.putfield 45, 3) := by decide +kernel
theorem dX12_init_95 : decode cX12_init 95 = .ok (.aload_n 0, 1) := by decide +kernel
theorem dX12_init_96 : decode cX12_init 96 = .ok (.bipush 8, 2) := by decide +kernel
theorem dX12_init_98 : decode cX12_init 98 = .ok (.newarray .int, 2) := by decide +kernel
theorem dX12_init_100 : decode cX12_init 100 = .ok (.putfield 48, 3) := by decide +kernel
theorem dX12_init_103 : decode cX12_init 103 = .ok (.aload_n 0, 1) := by decide +kernel
theorem dX12_init_104 : decode cX12_init 104 = .ok (.sipush 256, 3) := by decide +kernel
theorem dX12_init_107 : decode cX12_init 107 = .ok (.newarray .int, 2) := by decide +kernel
theorem dX12_init_109 : decode cX12_init 109 = .ok (.putfield 51, 3) := by decide +kernel
theorem dX12_init_112 : decode cX12_init 112 = .ok (.aload_n 0, 1) := by decide +kernel
theorem dX12_init_113 : decode cX12_init 113 = .ok (.sipush 11532, 3) := by decide +kernel
theorem dX12_init_116 : decode cX12_init 116 = .ok (.newarray .boolean, 2) := by decide +kernel
theorem dX12_init_118 : decode cX12_init 118 = .ok (.putfield 54, 3) := by decide +kernel
theorem dX12_init_121 : decode cX12_init 121 = .ok (.aload_n 0, 1) := by decide +kernel
theorem dX12_init_122 : decode cX12_init 122 = .ok (.bipush 31, 2) := by decide +kernel
theorem dX12_init_124 : decode cX12_init 124 = .ok (.newarray .int, 2) := by decide +kernel
theorem dX12_init_126 : decode cX12_init 126 = .ok (.putfield 58, 3) := by decide +kernel
theorem dX12_init_129 : decode cX12_init 129 = .ok (.aload_n 0, 1) := by decide +kernel
theorem dX12_init_130 : decode cX12_init 130 = .ok (.bipush 25, 2) := by decide +kernel
theorem dX12_init_132 : decode cX12_init 132 = .ok (.newarray .int, 2) := by decide +kernel
theorem dX12_init_134 : decode cX12_init 134 = .ok (.putfield 61, 3) := by decide +kernel
theorem dX12_init_137 : decode cX12_init 137 = .ok (.aload_n 0, 1) := by decide +kernel
theorem dX12_init_138 : decode cX12_init 138 = .ok (.sipush 225, 3) := by decide +kernel
theorem dX12_init_141 : decode cX12_init 141 = .ok (.newarray .int, 2) := by decide +kernel
theorem dX12_init_143 : decode cX12_init 143 = .ok (.putfield 64, 3) := by decide +kernel
theorem dX12_init_146 : decode cX12_init 146 = .ok (.aload_n 0, 1) := by decide +kernel
theorem dX12_init_147 : decode cX12_init 147 = .ok (.sipush 256, 3) := by decide +kernel
theorem dX12_init_150 : decode cX12_init 150 = .ok (.newarray .int, 2) := by decide +kernel
theorem dX12_init_152 : decode cX12_init 152 = .ok (.putfield 67, 3) := by decide +kernel
theorem dX12_init_155 : decode cX12_init 155 = .ok (.aload_n 0, 1) := by decide +kernel
theorem dX12_init_156 : decode cX12_init 156 = .ok (.bipush 6, 2) := by decide +kernel
theorem dX12_init_158 : decode cX12_init 158 = .ok (.newarray .long, 2) := by decide +kernel
theorem dX12_init_160 : decode cX12_init 160 = .ok (.putfield 70, 3) := by decide +kernel
theorem dX12_init_163 : decode cX12_init 163 = .ok (.aload_n 0, 1) := by decide +kernel
theorem dX12_init_164 : decode cX12_init 164 = .ok (.getfield 13, 3) := by decide +kernel
theorem dX12_init_167 : decode cX12_init 167 = .ok (.bipush 12, 2) := by decide +kernel
theorem dX12_init_169 : decode cX12_init 169 = .ok (.iconst 1, 1) := by decide +kernel
theorem dX12_init_170 : decode cX12_init 170 = .ok (.iastore, 1) := by decide +kernel
theorem dX12_init_171 : decode cX12_init 171 = .ok (.aload_n 0, 1) := by decide +kernel
theorem dX12_init_172 : decode cX12_init 172 = .ok (.getfield 13, 3) := by decide +kernel
theorem dX12_init_175 : decode cX12_init 175 = .ok (.iconst 3, 1) := by decide +kernel
theorem dX12_init_176 : decode cX12_init 176 = .ok (.bipush 10, 2) := by decide +kernel
theorem dX12_init_178 : decode cX12_init 178 = .ok (.iastore, 1) := by decide +kernel
theorem dX12_init_179 : decode cX12_init 179 = .ok (.aload_n 0, 1) := by decide +kernel
theorem dX12_init_180 : decode cX12_init 180 = .ok (.getfield 13, 3) := by decide +kernel
theorem dX12_init_183 : decode cX12_init 183 = .ok (.iconst 4, 1) := by decide +kernel
theorem dX12_init_184 : decode cX12_init 184 = .ok (.iconst 1, 1) := by decide +kernel
theorem dX12_init_185 : decode cX12_init 185 = .ok (.iastore, 1) := by decide +kernel
theorem dX12_init_186 : decode cX12_init 186 = .ok (.aload_n 0, 1) := by decide +kernel
theorem dX12_init_187 : decode cX12_init 187 = .ok (.getfield 13, 3) := by decide +kernel
theorem dX12_init_190 : decode cX12_init 190 = .ok (.iconst 5, 1) := by decide +kernel
theorem dX12_init_191 : decode cX12_init 191 = .ok (.iconst 2, 1) := by decide +kernel
theorem dX12_init_192 : decode cX12_init 192 = .ok (.iastore, 1) := by decide +kernel
theorem dX12_init_193 : decode cX12_init 193 = .ok (.aload_n 0, 1) := by decide +kernel
theorem dX12_init_194 : decode cX12_init 194 = .ok (.getfield 13, 3) := by decide +kernel
theorem dX12_init_197 : decode cX12_init 197 = .ok (.bipush 6, 2) := by decide +kernel
theorem dX12_init_199 : decode cX12_init 199 = .ok (.iconst 3, 1) := by decide +kernel
theorem dX12_init_200 : decode cX12_init 200 = .ok (.iastore, 1) := by decide +kernel
theorem dX12_init_201 : decode cX12_init 201 = .ok (.iconst 0, 1) := by decide +kernel
theorem dX12_init_202 : decode cX12_init 202 = .ok (.istore_n 1, 1) := by decide +kernel
theorem dX12_init_203 : decode cX12_init 203 = .ok (.iload_n 1, 1) := by decide +kernel
theorem dX12_init_204 : decode cX12_init 204 = .ok (.bipush 12, 2) := by decide +kernel
theorem dX12_init_206 : decode cX12_init 206 = .ok (.if_icmp .ge 20, 3) := by decide +kernel
theorem dX12_init_209 : decode cX12_init 209 = .ok (.aload_n 0, 1) := by decide +kernel
theorem dX12_init_210 : decode cX12_init 210 = .ok (.getfield 13, 3) := by decide +kernel
theorem dX12_init_213 : decode cX12_init 213 = .ok (.bipush 13, 2) := by decide +kernel
theorem dX12_init_215 : decode cX12_init 215 = .ok (.iload_n 1, 1) := by decide +kernel
theorem dX12_init_216 : decode cX12_init 216 = .ok (.iadd, 1) := by decide +kernel
theorem dX12_init_217 : decode cX12_init 217 = .ok (.bipush 10, 2) := by decide +kernel
theorem dX12_init_219 : decode cX12_init 219 = .ok (.iastore, 1) := by decide +kernel
theorem dX12_init_220 : decode cX12_init 220 = .ok (.iinc 1 1, 3) := by decide +kernel
theorem dX12_init_223 : decode cX12_init 223 = .ok (.goto (-20), 3) := by decide +kernel
theorem dX12_init_226 : decode cX12_init 226 = .ok (.return_, 1) := by decide +kernel
theorem dX12_image_0 : decode cX12_image 0 = .ok (.aload_n 0, 1) := by decide +kernel
theorem dX12_image_1 : decode cX12_image 1 = .ok (.iconst 0, 1) := by decide +kernel
theorem dX12_image_2 : decode cX12_image 2 = .ok (.putfield 3, 3) := by decide +kernel
theorem dX12_image_5 : decode cX12_image 5 = .ok (.iconst 0, 1) := by decide +kernel
theorem dX12_image_6 : decode cX12_image 6 = .ok (.istore_n 1, 1) := by decide +kernel
theorem dX12_image_7 : decode cX12_image 7 = .ok (.iload_n 1, 1) := by decide +kernel
theorem dX12_image_8 : decode cX12_image 8 = .ok (.sipush 1222, 3) := by decide +kernel
theorem dX12_image_11 : decode cX12_image 11 = .ok (.if_icmp .ge 21, 3) := by decide +kernel
theorem dX12_image_14 : decode cX12_image 14 = .ok (.aload_n 0, 1) := by decide +kernel
theorem dX12_image_15 : decode cX12_image 15 = .ok (.getfield 17, 3) := by decide +kernel
theorem dX12_image_18 : decode cX12_image 18 = .ok (.iload_n 1, 1) := by decide +kernel
theorem dX12_image_19 : decode cX12_image 19 = .ok (.aload_n 0, 1) := by decide +kernel
theorem dX12_image_20 : decode cX12_image 20 = .ok (.getfield 13, 3) := by decide +kernel
theorem dX12_image_23 : decode cX12_image 23 = .ok (.iload_n 1, 1) := by decide +kernel
theorem dX12_image_24 : decode cX12_image 24 = .ok (.iaload, 1) := by decide +kernel
theorem dX12_image_25 : decode cX12_image 25 = .ok (.iastore, 1) := by decide +kernel
theorem dX12_image_26 : decode cX12_image 26 = .ok (.iinc 1 1, 3) := by decide +kernel
theorem dX12_image_29 : decode cX12_image 29 = .ok (.goto (-22), 3) := by decide +kernel
theorem dX12_image_32 : decode cX12_image 32 = .ok (.aload_n 0, 1) := by decide +kernel
theorem dX12_image_33 : decode cX12_image 33 = .ok (.iconst 1, 1) := by decide +kernel
theorem dX12_image_34 : decode cX12_image 34 = .ok (.putfield 74, 3) := by decide +kernel
theorem dX12_image_37 : decode cX12_image 37 = .ok (.return_, 1) := by decide +kernel
theorem dX12_back_0 : decode cX12_back 0 = .ok (.aload_n 0, 1) := by decide +kernel
theorem dX12_back_1 : decode cX12_back 1 = .ok (.iconst 0, 1) := by decide +kernel
theorem dX12_back_2 : decode cX12_back 2 = .ok (.putfield 3, 3) := by decide +kernel
theorem dX12_back_5 : decode cX12_back 5 = .ok (.aload_n 0, 1) := by decide +kernel
theorem dX12_back_6 : decode cX12_back 6 = .ok (.getfield 74, 3) := by decide +kernel
theorem dX12_back_9 : decode cX12_back 9 = .ok (.ifCond .ne 5, 3) := by decide +kernel
theorem dX12_back_12 : decode cX12_back 12 = .ok (.iconst 0, 1) := by decide +kernel
theorem dX12_back_13 : decode cX12_back 13 = .ok (.ireturn, 1) := by decide +kernel
theorem dX12_back_14 : decode cX12_back 14 = .ok (.iconst 0, 1) := by decide +kernel
theorem dX12_back_15 : decode cX12_back 15 = .ok (.istore_n 1, 1) := by decide +kernel
theorem dX12_back_16 : decode cX12_back 16 = .ok (.iload_n 1, 1) := by decide +kernel
theorem dX12_back_17 : decode cX12_back 17 = .ok (.sipush 1222, 3) := by decide +kernel
theorem dX12_back_20 : decode cX12_back 20 = .ok (.if_icmp .ge 21, 3) := by decide +kernel
theorem dX12_back_23 : decode cX12_back 23 = .ok (.aload_n 0, 1) := by decide +kernel
theorem dX12_back_24 : decode cX12_back 24 = .ok (.getfield 13, 3) := by decide +kernel
theorem dX12_back_27 : decode cX12_back 27 = .ok (.iload_n 1, 1) := by decide +kernel
theorem dX12_back_28 : decode cX12_back 28 = .ok (.aload_n 0, 1) := by decide +kernel
theorem dX12_back_29 : decode cX12_back 29 = .ok (.getfield 17, 3) := by decide +kernel
theorem dX12_back_32 : decode cX12_back 32 = .ok (.iload_n 1, 1) := by decide +kernel
theorem dX12_back_33 : decode cX12_back 33 = .ok (.iaload, 1) := by decide +kernel
theorem dX12_back_34 : decode cX12_back 34 = .ok (.iastore, 1) := by decide +kernel
theorem dX12_back_35 : decode cX12_back 35 = .ok (.iinc 1 1, 3) := by decide +kernel
theorem dX12_back_38 : decode cX12_back 38 = .ok (.goto (-22), 3) := by decide +kernel
theorem dX12_back_41 : decode cX12_back 41 = .ok (.aload_n 0, 1) := by decide +kernel
theorem dX12_back_42 : decode cX12_back 42 = .ok (.iconst 0, 1) := by decide +kernel
theorem dX12_back_43 : decode cX12_back 43 = .ok (.putfield 78, 3) := by decide +kernel
theorem dX12_back_46 : decode cX12_back 46 = .ok (.iconst 1, 1) := by decide +kernel
theorem dX12_back_47 : decode cX12_back 47 = .ok (.ireturn, 1) := by decide +kernel
theorem dX12_remembers_0 : decode cX12_remembers 0 = .ok (.aload_n 0, 1) := by decide +kernel
theorem dX12_remembers_1 : decode cX12_remembers 1 = .ok (.getfield 78, 3) := by decide +kernel
theorem dX12_remembers_4 : decode cX12_remembers 4 = .ok (.bipush 12, 2) := by decide +kernel
theorem dX12_remembers_6 : decode cX12_remembers 6 = .ok (.if_icmp .ne 37, 3) := by decide +kernel
theorem dX12_remembers_9 : decode cX12_remembers 9 = .ok (.iconst 0, 1) := by decide +kernel
theorem dX12_remembers_10 : decode cX12_remembers 10 = .ok (.istore_n 1, 1) := by decide +kernel
theorem dX12_remembers_11 : decode cX12_remembers 11 = .ok (.iload_n 1, 1) := by decide +kernel
theorem dX12_remembers_12 : decode cX12_remembers 12 = .ok (.sipush 4103, 3) := by decide +kernel
theorem dX12_remembers_15 : decode cX12_remembers 15 = .ok (.if_icmp .ge 25, 3) := by decide +kernel
theorem dX12_remembers_18 : decode cX12_remembers 18 = .ok (.aload_n 0, 1) := by decide +kernel
theorem dX12_remembers_19 : decode cX12_remembers 19 = .ok (.getfield 26, 3) := by decide +kernel
theorem dX12_remembers_22 : decode cX12_remembers 22 = .ok (.iload_n 1, 1) := by decide +kernel
theorem dX12_remembers_23 : decode cX12_remembers 23 = .ok (.aload_n 0, 1) := by decide +kernel
theorem dX12_remembers_24 : decode cX12_remembers 24 = .ok (.getfield 26, 3) := by decide +kernel
theorem dX12_remembers_27 : decode cX12_remembers 27 = .ok (.iload_n 1, 1) := by decide +kernel
theorem dX12_remembers_28 : decode cX12_remembers 28 = .ok (.sipush 373, 3) := by decide +kernel
theorem dX12_remembers_31 : decode cX12_remembers 31 = .ok (.iadd, 1) := by decide +kernel
theorem dX12_remembers_32 : decode cX12_remembers 32 = .ok (.iaload, 1) := by decide +kernel
theorem dX12_remembers_33 : decode cX12_remembers 33 = .ok (.iastore, 1) := by decide +kernel
theorem dX12_remembers_34 : decode cX12_remembers 34 = .ok (.iinc 1 1, 3) := by decide +kernel
theorem dX12_remembers_37 : decode cX12_remembers 37 = .ok (.goto (-26), 3) := by decide +kernel
theorem dX12_remembers_40 : decode cX12_remembers 40 = .ok (.goto 13, 3) := by decide +kernel
theorem dX12_remembers_43 : decode cX12_remembers 43 = .ok (.aload_n 0, 1) := by decide +kernel
theorem dX12_remembers_44 : decode cX12_remembers 44 = .ok (.dup, 1) := by decide +kernel
theorem dX12_remembers_45 : decode cX12_remembers 45 = .ok (.getfield 78, 3) := by decide +kernel
theorem dX12_remembers_48 : decode cX12_remembers 48 = .ok (.iconst 1, 1) := by decide +kernel
theorem dX12_remembers_49 : decode cX12_remembers 49 = .ok (.iadd, 1) := by decide +kernel
theorem dX12_remembers_50 : decode cX12_remembers 50 = .ok (.putfield 78, 3) := by decide +kernel
theorem dX12_remembers_53 : decode cX12_remembers 53 = .ok (.iconst 0, 1) := by decide +kernel
theorem dX12_remembers_54 : decode cX12_remembers 54 = .ok (.istore_n 1, 1) := by decide +kernel
theorem dX12_remembers_55 : decode cX12_remembers 55 = .ok (.iload_n 1, 1) := by decide +kernel
theorem dX12_remembers_56 : decode cX12_remembers 56 = .ok (.sipush 373, 3) := by decide +kernel
theorem dX12_remembers_59 : decode cX12_remembers 59 = .ok (.if_icmp .ge 32, 3) := by decide +kernel
theorem dX12_remembers_62 : decode cX12_remembers 62 = .ok (.aload_n 0, 1) := by decide +kernel
theorem dX12_remembers_63 : decode cX12_remembers 63 = .ok (.getfield 26, 3) := by decide +kernel
theorem dX12_remembers_66 : decode cX12_remembers 66 = .ok (.sipush 373, 3) := by decide +kernel
theorem dX12_remembers_69 : decode cX12_remembers 69 = .ok (.aload_n 0, 1) := by decide +kernel
theorem dX12_remembers_70 : decode cX12_remembers 70 = .ok (.getfield 78, 3) := by decide +kernel
theorem dX12_remembers_73 : decode cX12_remembers 73 = .ok (.iconst 1, 1) := by decide +kernel
theorem dX12_remembers_74 : decode cX12_remembers 74 = .ok (.isub, 1) := by decide +kernel
theorem dX12_remembers_75 : decode cX12_remembers 75 = .ok (.imul, 1) := by decide +kernel
theorem dX12_remembers_76 : decode cX12_remembers 76 = .ok (.iload_n 1, 1) := by decide +kernel
theorem dX12_remembers_77 : decode cX12_remembers 77 = .ok (.iadd, 1) := by decide +kernel
theorem dX12_remembers_78 : decode cX12_remembers 78 = .ok (.aload_n 0, 1) := by decide +kernel
theorem dX12_remembers_79 : decode cX12_remembers 79 = .ok (.getfield 13, 3) := by decide +kernel
theorem dX12_remembers_82 : decode cX12_remembers 82 = .ok (.iload_n 1, 1) := by decide +kernel
theorem dX12_remembers_83 : decode cX12_remembers 83 = .ok (.iaload, 1) := by decide +kernel
theorem dX12_remembers_84 : decode cX12_remembers 84 = .ok (.iastore, 1) := by decide +kernel
theorem dX12_remembers_85 : decode cX12_remembers 85 = .ok (.iinc 1 1, 3) := by decide +kernel
theorem dX12_remembers_88 : decode cX12_remembers 88 = .ok (.goto (-33), 3) := by decide +kernel
theorem dX12_remembers_91 : decode cX12_remembers 91 = .ok (.return_, 1) := by decide +kernel
theorem dX12_undo_0 : decode cX12_undo 0 = .ok (.aload_n 0, 1) := by decide +kernel
theorem dX12_undo_1 : decode cX12_undo 1 = .ok (.iconst 0, 1) := by decide +kernel
theorem dX12_undo_2 : decode cX12_undo 2 = .ok (.putfield 3, 3) := by decide +kernel
theorem dX12_undo_5 : decode cX12_undo 5 = .ok (.aload_n 0, 1) := by decide +kernel
theorem dX12_undo_6 : decode cX12_undo 6 = .ok (.getfield 78, 3) := by decide +kernel
theorem dX12_undo_9 : decode cX12_undo 9 = .ok (.ifCond .ne 5, 3) := by decide +kernel
theorem dX12_undo_12 : decode cX12_undo 12 = .ok (.iconst 0, 1) := by decide +kernel
theorem dX12_undo_13 : decode cX12_undo 13 = .ok (.ireturn, 1) := by decide +kernel
theorem dX12_undo_14 : decode cX12_undo 14 = .ok (.aload_n 0, 1) := by decide +kernel
theorem dX12_undo_15 : decode cX12_undo 15 = .ok (.dup, 1) := by decide +kernel
theorem dX12_undo_16 : decode cX12_undo 16 = .ok (.getfield 78, 3) := by decide +kernel
theorem dX12_undo_19 : decode cX12_undo 19 = .ok (.iconst 1, 1) := by decide +kernel
theorem dX12_undo_20 : decode cX12_undo 20 = .ok (.isub, 1) := by decide +kernel
theorem dX12_undo_21 : decode cX12_undo 21 = .ok (.putfield 78, 3) := by decide +kernel
theorem dX12_undo_24 : decode cX12_undo 24 = .ok (.iconst 0, 1) := by decide +kernel
theorem dX12_undo_25 : decode cX12_undo 25 = .ok (.istore_n 1, 1) := by decide +kernel
theorem dX12_undo_26 : decode cX12_undo 26 = .ok (.iload_n 1, 1) := by decide +kernel
theorem dX12_undo_27 : decode cX12_undo 27 = .ok (.sipush 373, 3) := by decide +kernel
theorem dX12_undo_30 : decode cX12_undo 30 = .ok (.if_icmp .ge 30, 3) := by decide +kernel
theorem dX12_undo_33 : decode cX12_undo 33 = .ok (.aload_n 0, 1) := by decide +kernel
theorem dX12_undo_34 : decode cX12_undo 34 = .ok (.getfield 13, 3) := by decide +kernel
theorem dX12_undo_37 : decode cX12_undo 37 = .ok (.iload_n 1, 1) := by decide +kernel
theorem dX12_undo_38 : decode cX12_undo 38 = .ok (.aload_n 0, 1) := by decide +kernel
theorem dX12_undo_39 : decode cX12_undo 39 = .ok (.getfield 26, 3) := by decide +kernel
theorem dX12_undo_42 : decode cX12_undo 42 = .ok (.sipush 373, 3) := by decide +kernel
theorem dX12_undo_45 : decode cX12_undo 45 = .ok (.aload_n 0, 1) := by decide +kernel
theorem dX12_undo_46 : decode cX12_undo 46 = .ok (.getfield 78, 3) := by decide +kernel
theorem dX12_undo_49 : decode cX12_undo 49 = .ok (.imul, 1) := by decide +kernel
theorem dX12_undo_50 : decode cX12_undo 50 = .ok (.iload_n 1, 1) := by decide +kernel
theorem dX12_undo_51 : decode cX12_undo 51 = .ok (.iadd, 1) := by decide +kernel
theorem dX12_undo_52 : decode cX12_undo 52 = .ok (.iaload, 1) := by decide +kernel
theorem dX12_undo_53 : decode cX12_undo 53 = .ok (.iastore, 1) := by decide +kernel
theorem dX12_undo_54 : decode cX12_undo 54 = .ok (.iinc 1 1, 3) := by decide +kernel
theorem dX12_undo_57 : decode cX12_undo 57 = .ok (.goto (-31), 3) := by decide +kernel
theorem dX12_undo_60 : decode cX12_undo 60 = .ok (.iconst 1, 1) := by decide +kernel
theorem dX12_undo_61 : decode cX12_undo 61 = .ok (.ireturn, 1) := by decide +kernel
theorem dX12_keepsAll_0 : decode cX12_keepsAll 0 = .ok (.iconst 0, 1) := by decide +kernel
theorem dX12_keepsAll_1 : decode cX12_keepsAll 1 = .ok (.istore_n 1, 1) := by decide +kernel
theorem dX12_keepsAll_2 : decode cX12_keepsAll 2 = .ok (.iload_n 1, 1) := by decide +kernel
theorem dX12_keepsAll_3 : decode cX12_keepsAll 3 = .ok (.sipush 373, 3) := by decide +kernel
theorem dX12_keepsAll_6 : decode cX12_keepsAll 6 = .ok (.if_icmp .ge 21, 3) := by decide +kernel
theorem dX12_keepsAll_9 : decode cX12_keepsAll 9 = .ok (.aload_n 0, 1) := by decide +kernel
theorem dX12_keepsAll_10 : decode cX12_keepsAll 10 = .ok (.getfield 23, 3) := by decide +kernel
theorem dX12_keepsAll_13 : decode cX12_keepsAll 13 = .ok (.iload_n 1, 1) := by decide +kernel
theorem dX12_keepsAll_14 : decode cX12_keepsAll 14 = .ok (.aload_n 0, 1) := by decide +kernel
theorem dX12_keepsAll_15 : decode cX12_keepsAll 15 = .ok (.getfield 13, 3) := by decide +kernel
theorem dX12_keepsAll_18 : decode cX12_keepsAll 18 = .ok (.iload_n 1, 1) := by decide +kernel
theorem dX12_keepsAll_19 : decode cX12_keepsAll 19 = .ok (.iaload, 1) := by decide +kernel
theorem dX12_keepsAll_20 : decode cX12_keepsAll 20 = .ok (.iastore, 1) := by decide +kernel
theorem dX12_keepsAll_21 : decode cX12_keepsAll 21 = .ok (.iinc 1 1, 3) := by decide +kernel
theorem dX12_keepsAll_24 : decode cX12_keepsAll 24 = .ok (.goto (-22), 3) := by decide +kernel
theorem dX12_keepsAll_27 : decode cX12_keepsAll 27 = .ok (.return_, 1) := by decide +kernel
theorem dX12_bringsBack_0 : decode cX12_bringsBack 0 = .ok (.iconst 0, 1) := by decide +kernel
theorem dX12_bringsBack_1 : decode cX12_bringsBack 1 = .ok (.istore_n 1, 1) := by decide +kernel
theorem dX12_bringsBack_2 : decode cX12_bringsBack 2 = .ok (.iload_n 1, 1) := by decide +kernel
theorem dX12_bringsBack_3 : decode cX12_bringsBack 3 = .ok (.sipush 373, 3) := by decide +kernel
theorem dX12_bringsBack_6 : decode cX12_bringsBack 6 = .ok (.if_icmp .ge 21, 3) := by decide +kernel
theorem dX12_bringsBack_9 : decode cX12_bringsBack 9 = .ok (.aload_n 0, 1) := by decide +kernel
theorem dX12_bringsBack_10 : decode cX12_bringsBack 10 = .ok (.getfield 13, 3) := by decide +kernel
theorem dX12_bringsBack_13 : decode cX12_bringsBack 13 = .ok (.iload_n 1, 1) := by decide +kernel
theorem dX12_bringsBack_14 : decode cX12_bringsBack 14 = .ok (.aload_n 0, 1) := by decide +kernel
theorem dX12_bringsBack_15 : decode cX12_bringsBack 15 = .ok (.getfield 23, 3) := by decide +kernel
theorem dX12_bringsBack_18 : decode cX12_bringsBack 18 = .ok (.iload_n 1, 1) := by decide +kernel
theorem dX12_bringsBack_19 : decode cX12_bringsBack 19 = .ok (.iaload, 1) := by decide +kernel
theorem dX12_bringsBack_20 : decode cX12_bringsBack 20 = .ok (.iastore, 1) := by decide +kernel
theorem dX12_bringsBack_21 : decode cX12_bringsBack 21 = .ok (.iinc 1 1, 3) := by decide +kernel
theorem dX12_bringsBack_24 : decode cX12_bringsBack 24 = .ok (.goto (-22), 3) := by decide +kernel
theorem dX12_bringsBack_27 : decode cX12_bringsBack 27 = .ok (.return_, 1) := by decide +kernel
theorem dX12_ships_0 : decode cX12_ships 0 = .ok (.aload_n 0, 1) := by decide +kernel
theorem dX12_ships_1 : decode cX12_ships 1 = .ok (.getfield 13, 3) := by decide +kernel
theorem dX12_ships_4 : decode cX12_ships 4 = .ok (.iconst 0, 1) := by decide +kernel
theorem dX12_ships_5 : decode cX12_ships 5 = .ok (.iaload, 1) := by decide +kernel
theorem dX12_ships_6 : decode cX12_ships 6 = .ok (.ireturn, 1) := by decide +kernel
theorem dX12_shipAt_0 : decode cX12_shipAt 0 = .ok (.bipush 25, 2) := by decide +kernel
theorem dX12_shipAt_2 : decode cX12_shipAt 2 = .ok (.bipush 6, 2) := by decide +kernel
theorem dX12_shipAt_4 : decode cX12_shipAt 4 = .ok (.iload_n 0, 1) := by decide +kernel
theorem dX12_shipAt_5 : decode cX12_shipAt 5 = .ok (.imul, 1) := by decide +kernel
theorem dX12_shipAt_6 : decode cX12_shipAt 6 = .ok (.iadd, 1) := by decide +kernel
theorem dX12_shipAt_7 : decode cX12_shipAt 7 = .ok (.iload_n 1, 1) := by decide +kernel
theorem dX12_shipAt_8 : decode cX12_shipAt 8 = .ok (.iadd, 1) := by decide +kernel
theorem dX12_shipAt_9 : decode cX12_shipAt 9 = .ok (.ireturn, 1) := by decide +kernel
theorem dX12_of_0 : decode cX12_of 0 = .ok (.aload_n 0, 1) := by decide +kernel
theorem dX12_of_1 : decode cX12_of 1 = .ok (.getfield 13, 3) := by decide +kernel
theorem dX12_of_4 : decode cX12_of 4 = .ok (.iload_n 1, 1) := by decide +kernel
theorem dX12_of_5 : decode cX12_of 5 = .ok (.iload_n 2, 1) := by decide +kernel
theorem dX12_of_6 : decode cX12_of 6 = .ok (.invokestatic 81, 3) := by decide +kernel
theorem dX12_of_9 : decode cX12_of 9 = .ok (.iaload, 1) := by decide +kernel
theorem dX12_of_10 : decode cX12_of 10 = .ok (.ireturn, 1) := by decide +kernel
theorem dX12_isDocked_0 : decode cX12_isDocked 0 = .ok (.aload_n 0, 1) := by decide +kernel
theorem dX12_isDocked_1 : decode cX12_isDocked 1 = .ok (.iload_n 1, 1) := by decide +kernel
theorem dX12_isDocked_2 : decode cX12_isDocked 2 = .ok (.iconst 3, 1) := by decide +kernel
theorem dX12_isDocked_3 : decode cX12_isDocked 3 = .ok (.invokevirtual 85, 3) := by decide +kernel
theorem dX12_isDocked_6 : decode cX12_isDocked 6 = .ok (.iconst 1, 1) := by decide +kernel
theorem dX12_isDocked_7 : decode cX12_isDocked 7 = .ok (.if_icmp .ne 7, 3) := by decide +kernel
theorem dX12_isDocked_10 : decode cX12_isDocked 10 = .ok (.iconst 1, 1) := by decide +kernel
theorem dX12_isDocked_11 : decode cX12_isDocked 11 = .ok (.goto 4, 3) := by decide +kernel
theorem dX12_isDocked_14 : decode cX12_isDocked 14 = .ok (.iconst 0, 1) := by decide +kernel
theorem dX12_isDocked_15 : decode cX12_isDocked 15 = .ok (.ireturn, 1) := by decide +kernel
theorem dX12_run_0 : decode cX12_run 0 = .ok (.iconst 1, 1) := by decide +kernel
theorem dX12_run_1 : decode cX12_run 1 = .ok (.iload_n 1, 1) := by decide +kernel
theorem dX12_run_2 : decode cX12_run 2 = .ok (.ishl, 1) := by decide +kernel
theorem dX12_run_3 : decode cX12_run 3 = .ok (.iconst 1, 1) := by decide +kernel
theorem dX12_run_4 : decode cX12_run 4 = .ok (.isub, 1) := by decide +kernel
theorem dX12_run_5 : decode cX12_run 5 = .ok (.iload_n 0, 1) := by decide +kernel
theorem dX12_run_6 : decode cX12_run 6 = .ok (.ishl, 1) := by decide +kernel
theorem dX12_run_7 : decode cX12_run 7 = .ok (.ireturn, 1) := by decide +kernel
theorem dX12_placesOf_0 : decode cX12_placesOf 0 = .ok (.aload_n 0, 1) := by decide +kernel
theorem dX12_placesOf_1 : decode cX12_placesOf 1 = .ok (.iload_n 1, 1) := by decide +kernel
theorem dX12_placesOf_2 : decode cX12_placesOf 2 = .ok (.invokevirtual 88, 3) := by decide +kernel
theorem dX12_placesOf_5 : decode cX12_placesOf 5 = .ok (.ifCond .eq 21, 3) := by decide +kernel
theorem dX12_placesOf_8 : decode cX12_placesOf 8 = .ok (.aload_n 0, 1) := by decide +kernel
theorem dX12_placesOf_9 : decode cX12_placesOf 9 = .ok (.iload_n 1, 1) := by decide +kernel
theorem dX12_placesOf_10 : decode cX12_placesOf 10 = .ok (.iconst 4, 1) := by decide +kernel
theorem dX12_placesOf_11 : decode cX12_placesOf 11 = .ok (.invokevirtual 85, 3) := by decide +kernel
theorem dX12_placesOf_14 : decode cX12_placesOf 14 = .ok (.aload_n 0, 1) := by decide +kernel
theorem dX12_placesOf_15 : decode cX12_placesOf 15 = .ok (.iload_n 1, 1) := by decide +kernel
theorem dX12_placesOf_16 : decode cX12_placesOf 16 = .ok (.iconst 0, 1) := by decide +kernel
theorem dX12_placesOf_17 : decode cX12_placesOf 17 = .ok (.invokevirtual 85, 3) := by decide +kernel
theorem dX12_placesOf_20 : decode cX12_placesOf 20 = .ok (.invokestatic 92, 3) := by decide +kernel
theorem dX12_placesOf_23 : decode cX12_placesOf 23 = .ok (.goto 4, 3) := by decide +kernel
theorem dX12_placesOf_26 : decode cX12_placesOf 26 = .ok (.iconst 0, 1) := by decide +kernel
theorem dX12_placesOf_27 : decode cX12_placesOf 27 = .ok (.ireturn, 1) := by decide +kernel
theorem dX12_taken_0 : decode cX12_taken 0 = .ok (.iconst 0, 1) := by decide +kernel
theorem dX12_taken_1 : decode cX12_taken 1 = .ok (.istore_n 1, 1) := by decide +kernel
theorem dX12_taken_2 : decode cX12_taken 2 = .ok (.iconst 0, 1) := by decide +kernel
theorem dX12_taken_3 : decode cX12_taken 3 = .ok (.istore_n 2, 1) := by decide +kernel
theorem dX12_taken_4 : decode cX12_taken 4 = .ok (.iload_n 2, 1) := by decide +kernel
theorem dX12_taken_5 : decode cX12_taken 5 = .ok (.aload_n 0, 1) := by decide +kernel
theorem dX12_taken_6 : decode cX12_taken 6 = .ok (.invokevirtual 95, 3) := by decide +kernel
theorem dX12_taken_9 : decode cX12_taken 9 = .ok (.if_icmp .ge 17, 3) := by decide +kernel
theorem dX12_taken_12 : decode cX12_taken 12 = .ok (.iload_n 1, 1) := by decide +kernel
theorem dX12_taken_13 : decode cX12_taken 13 = .ok (.aload_n 0, 1) := by decide +kernel
theorem dX12_taken_14 : decode cX12_taken 14 = .ok (.iload_n 2, 1) := by decide +kernel
theorem dX12_taken_15 : decode cX12_taken 15 = .ok (.invokevirtual 99, 3) := by decide +kernel
theorem dX12_taken_18 : decode cX12_taken 18 = .ok (.ior, 1) := by decide +kernel
theorem dX12_taken_19 : decode cX12_taken 19 = .ok (.istore_n 1, 1) := by decide +kernel
theorem dX12_taken_20 : decode cX12_taken 20 = .ok (.iinc 2 1, 3) := by decide +kernel
theorem dX12_taken_23 : decode cX12_taken 23 = .ok (.goto (-19), 3) := by decide +kernel
theorem dX12_taken_26 : decode cX12_taken 26 = .ok (.iload_n 1, 1) := by decide +kernel
theorem dX12_taken_27 : decode cX12_taken 27 = .ok (.ireturn, 1) := by decide +kernel
theorem dX12_fitsIn_0 : decode cX12_fitsIn 0 = .ok (.iload_n 1, 1) := by decide +kernel
theorem dX12_fitsIn_1 : decode cX12_fitsIn 1 = .ok (.ifCond .lt 25, 3) := by decide +kernel
theorem dX12_fitsIn_4 : decode cX12_fitsIn 4 = .ok (.iload_n 1, 1) := by decide +kernel
theorem dX12_fitsIn_5 : decode cX12_fitsIn 5 = .ok (.iload_n 2, 1) := by decide +kernel
theorem dX12_fitsIn_6 : decode cX12_fitsIn 6 = .ok (.iadd, 1) := by decide +kernel
theorem dX12_fitsIn_7 : decode cX12_fitsIn 7 = .ok (.bipush 24, 2) := by decide +kernel
theorem dX12_fitsIn_9 : decode cX12_fitsIn 9 = .ok (.if_icmp .gt 17, 3) := by decide +kernel
theorem dX12_fitsIn_12 : decode cX12_fitsIn 12 = .ok (.iload_n 0, 1) := by decide +kernel
theorem dX12_fitsIn_13 : decode cX12_fitsIn 13 = .ok (.iload_n 1, 1) := by decide +kernel
theorem dX12_fitsIn_14 : decode cX12_fitsIn 14 = .ok (.iload_n 2, 1) := by decide +kernel
theorem dX12_fitsIn_15 : decode cX12_fitsIn 15 = .ok (.invokestatic 92, 3) := by decide +kernel
theorem dX12_fitsIn_18 : decode cX12_fitsIn 18 = .ok (.iand, 1) := by decide +kernel
theorem dX12_fitsIn_19 : decode cX12_fitsIn 19 = .ok (.ifCond .ne 7, 3) := by decide +kernel
theorem dX12_fitsIn_22 : decode cX12_fitsIn 22 = .ok (.iconst 1, 1) := by decide +kernel
theorem dX12_fitsIn_23 : decode cX12_fitsIn 23 = .ok (.goto 4, 3) := by decide +kernel
theorem dX12_fitsIn_26 : decode cX12_fitsIn 26 = .ok (.iconst 0, 1) := by decide +kernel
theorem dX12_fitsIn_27 : decode cX12_fitsIn 27 = .ok (.ireturn, 1) := by decide +kernel
theorem dX12_noPlace_0 : decode cX12_noPlace 0 = .ok (.iload_n 0, 1) := by decide +kernel
theorem dX12_noPlace_1 : decode cX12_noPlace 1 = .ok (.iconst 0, 1) := by decide +kernel
theorem dX12_noPlace_2 : decode cX12_noPlace 2 = .ok (.bipush 23, 2) := by decide +kernel
theorem dX12_noPlace_4 : decode cX12_noPlace 4 = .ok (.invokestatic 103, 3) := by decide +kernel
theorem dX12_noPlace_7 : decode cX12_noPlace 7 = .ok (.ifCond .ne 7, 3) := by decide +kernel
theorem dX12_noPlace_10 : decode cX12_noPlace 10 = .ok (.iconst 1, 1) := by decide +kernel
theorem dX12_noPlace_11 : decode cX12_noPlace 11 = .ok (.goto 4, 3) := by decide +kernel
theorem dX12_noPlace_14 : decode cX12_noPlace 14 = .ok (.iconst 0, 1) := by decide +kernel
theorem dX12_noPlace_15 : decode cX12_noPlace 15 = .ok (.ireturn, 1) := by decide +kernel
theorem dX12_noShip_0 : decode cX12_noShip 0 = .ok (.iload_n 1, 1) := by decide +kernel
theorem dX12_noShip_1 : decode cX12_noShip 1 = .ok (.iconst 0, 1) := by decide +kernel
theorem dX12_noShip_2 : decode cX12_noShip 2 = .ok (.aload_n 0, 1) := by decide +kernel
theorem dX12_noShip_3 : decode cX12_noShip 3 = .ok (.invokevirtual 95, 3) := by decide +kernel
theorem dX12_noShip_6 : decode cX12_noShip 6 = .ok (.iconst 1, 1) := by decide +kernel
theorem dX12_noShip_7 : decode cX12_noShip 7 = .ok (.isub, 1) := by decide +kernel
theorem dX12_noShip_8 : decode cX12_noShip 8 = .ok (.invokestatic 103, 3) := by decide +kernel
theorem dX12_noShip_11 : decode cX12_noShip 11 = .ok (.ifCond .ne 7, 3) := by decide +kernel
theorem dX12_noShip_14 : decode cX12_noShip 14 = .ok (.iconst 1, 1) := by decide +kernel
theorem dX12_noShip_15 : decode cX12_noShip 15 = .ok (.goto 4, 3) := by decide +kernel
theorem dX12_noShip_18 : decode cX12_noShip 18 = .ok (.iconst 0, 1) := by decide +kernel
theorem dX12_noShip_19 : decode cX12_noShip 19 = .ok (.ireturn, 1) := by decide +kernel
theorem dX12_tideIn_0 : decode cX12_tideIn 0 = .ok (.aload_n 0, 1) := by decide +kernel
theorem dX12_tideIn_1 : decode cX12_tideIn 1 = .ok (.getfield 13, 3) := by decide +kernel
theorem dX12_tideIn_4 : decode cX12_tideIn 4 = .ok (.bipush 13, 2) := by decide +kernel
theorem dX12_tideIn_6 : decode cX12_tideIn 6 = .ok (.aload_n 0, 1) := by decide +kernel
theorem dX12_tideIn_7 : decode cX12_tideIn 7 = .ok (.getfield 13, 3) := by decide +kernel
theorem dX12_tideIn_10 : decode cX12_tideIn 10 = .ok (.bipush 9, 2) := by decide +kernel
theorem dX12_tideIn_12 : decode cX12_tideIn 12 = .ok (.iaload, 1) := by decide +kernel
theorem dX12_tideIn_13 : decode cX12_tideIn 13 = .ok (.iload_n 1, 1) := by decide +kernel
theorem dX12_tideIn_14 : decode cX12_tideIn 14 = .ok (.iadd, 1) := by decide +kernel
theorem dX12_tideIn_15 : decode cX12_tideIn 15 = .ok (.bipush 12, 2) := by decide +kernel
theorem dX12_tideIn_17 : decode cX12_tideIn 17 = .ok (.irem, 1) := by decide +kernel
theorem dX12_tideIn_18 : decode cX12_tideIn 18 = .ok (.iadd, 1) := by decide +kernel
theorem dX12_tideIn_19 : decode cX12_tideIn 19 = .ok (.iaload, 1) := by decide +kernel
theorem dX12_tideIn_20 : decode cX12_tideIn 20 = .ok (.ireturn, 1) := by decide +kernel
theorem dX12_drawn_0 : decode cX12_drawn 0 = .ok (.aload_n 0, 1) := by decide +kernel
theorem dX12_drawn_1 : decode cX12_drawn 1 = .ok (.getfield 13, 3) := by decide +kernel
theorem dX12_drawn_4 : decode cX12_drawn 4 = .ok (.bipush 12, 2) := by decide +kernel
theorem dX12_drawn_6 : decode cX12_drawn 6 = .ok (.ldc 107, 2) := by decide +kernel
theorem dX12_drawn_8 : decode cX12_drawn 8 = .ok (.aload_n 0, 1) := by decide +kernel
theorem dX12_drawn_9 : decode cX12_drawn 9 = .ok (.getfield 13, 3) := by decide +kernel
theorem dX12_drawn_12 : decode cX12_drawn 12 = .ok (.bipush 12, 2) := by decide +kernel
theorem dX12_drawn_14 : decode cX12_drawn 14 = .ok (.iaload, 1) := by decide +kernel
theorem dX12_drawn_15 : decode cX12_drawn 15 = .ok (.imul, 1) := by decide +kernel
theorem dX12_drawn_16 : decode cX12_drawn 16 = .ok (.sipush 12345, 3) := by decide +kernel
theorem dX12_drawn_19 : decode cX12_drawn 19 = .ok (.iadd, 1) := by decide +kernel
theorem dX12_drawn_20 : decode cX12_drawn 20 = .ok (.iastore, 1) := by decide +kernel
theorem dX12_drawn_21 : decode cX12_drawn 21 = .ok (.aload_n 0, 1) := by decide +kernel
theorem dX12_drawn_22 : decode cX12_drawn 22 = .ok (.getfield 13, 3) := by decide +kernel
theorem dX12_drawn_25 : decode cX12_drawn 25 = .ok (.bipush 12, 2) := by decide +kernel
theorem dX12_drawn_27 : decode cX12_drawn 27 = .ok (.iaload, 1) := by decide +kernel
theorem dX12_drawn_28 : decode cX12_drawn 28 = .ok (.bipush 16, 2) := by decide +kernel
theorem dX12_drawn_30 : decode cX12_drawn 30 = .ok (.ishr, 1) := by decide +kernel
theorem dX12_drawn_31 : decode cX12_drawn 31 = .ok (.sipush 32767, 3) := by decide +kernel
theorem dX12_drawn_34 : decode cX12_drawn 34 = .ok (.iand, 1) := by decide +kernel
theorem dX12_drawn_35 : decode cX12_drawn 35 = .ok (.iload_n 1, 1) := by decide +kernel
theorem dX12_drawn_36 : decode cX12_drawn 36 = .ok (.irem, 1) := by decide +kernel
theorem dX12_drawn_37 : decode cX12_drawn 37 = .ok (.ireturn, 1) := by decide +kernel
theorem dX12_feed_0 : decode cX12_feed 0 = .ok (.aload_n 0, 1) := by decide +kernel
theorem dX12_feed_1 : decode cX12_feed 1 = .ok (.iconst 0, 1) := by decide +kernel
theorem dX12_feed_2 : decode cX12_feed 2 = .ok (.putfield 3, 3) := by decide +kernel
theorem dX12_feed_5 : decode cX12_feed 5 = .ok (.aload_n 0, 1) := by decide +kernel
theorem dX12_feed_6 : decode cX12_feed 6 = .ok (.getfield 108, 3) := by decide +kernel
theorem dX12_feed_9 : decode cX12_feed 9 = .ok (.bipush 20, 2) := by decide +kernel
theorem dX12_feed_11 : decode cX12_feed 11 = .ok (.iadd, 1) := by decide +kernel
theorem dX12_feed_12 : decode cX12_feed 12 = .ok (.sipush 400, 3) := by decide +kernel
theorem dX12_feed_15 : decode cX12_feed 15 = .ok (.if_icmp .le 5, 3) := by decide +kernel
theorem dX12_feed_18 : decode cX12_feed 18 = .ok (.iconst (-1), 1) := by decide +kernel
theorem dX12_feed_19 : decode cX12_feed 19 = .ok (.ireturn, 1) := by decide +kernel
theorem dX12_feed_20 : decode cX12_feed 20 = .ok (.aload_n 0, 1) := by decide +kernel
theorem dX12_feed_21 : decode cX12_feed 21 = .ok (.getfield 36, 3) := by decide +kernel
theorem dX12_feed_24 : decode cX12_feed 24 = .ok (.iconst 0, 1) := by decide +kernel
theorem dX12_feed_25 : decode cX12_feed 25 = .ok (.iload_n 1, 1) := by decide +kernel
theorem dX12_feed_26 : decode cX12_feed 26 = .ok (.iastore, 1) := by decide +kernel
theorem dX12_feed_27 : decode cX12_feed 27 = .ok (.aload_n 0, 1) := by decide +kernel
theorem dX12_feed_28 : decode cX12_feed 28 = .ok (.getfield 36, 3) := by decide +kernel
theorem dX12_feed_31 : decode cX12_feed 31 = .ok (.iconst 1, 1) := by decide +kernel
theorem dX12_feed_32 : decode cX12_feed 32 = .ok (.iload_n 2, 1) := by decide +kernel
theorem dX12_feed_33 : decode cX12_feed 33 = .ok (.iastore, 1) := by decide +kernel
theorem dX12_feed_34 : decode cX12_feed 34 = .ok (.aload_n 0, 1) := by decide +kernel
theorem dX12_feed_35 : decode cX12_feed 35 = .ok (.getfield 36, 3) := by decide +kernel
theorem dX12_feed_38 : decode cX12_feed 38 = .ok (.iconst 2, 1) := by decide +kernel
theorem dX12_feed_39 : decode cX12_feed 39 = .ok (.iload_n 3, 1) := by decide +kernel
theorem dX12_feed_40 : decode cX12_feed 40 = .ok (.iastore, 1) := by decide +kernel
theorem dX12_feed_41 : decode cX12_feed 41 = .ok (.aload_n 0, 1) := by decide +kernel
theorem dX12_feed_42 : decode cX12_feed 42 = .ok (.getfield 36, 3) := by decide +kernel
theorem dX12_feed_45 : decode cX12_feed 45 = .ok (.iconst 3, 1) := by decide +kernel
theorem dX12_feed_46 : decode cX12_feed 46 = .ok (.iload 4, 2) := by decide +kernel
theorem dX12_feed_48 : decode cX12_feed 48 = .ok (.iastore, 1) := by decide +kernel
theorem dX12_feed_49 : decode cX12_feed 49 = .ok (.aload_n 0, 1) := by decide +kernel
theorem dX12_feed_50 : decode cX12_feed 50 = .ok (.getfield 36, 3) := by decide +kernel
theorem dX12_feed_53 : decode cX12_feed 53 = .ok (.iconst 4, 1) := by decide +kernel
theorem dX12_feed_54 : decode cX12_feed 54 = .ok (.iload 5, 2) := by decide +kernel
theorem dX12_feed_56 : decode cX12_feed 56 = .ok (.iastore, 1) := by decide +kernel
theorem dX12_feed_57 : decode cX12_feed 57 = .ok (.iconst 0, 1) := by decide +kernel
theorem dX12_feed_58 : decode cX12_feed 58 = .ok (.istore 6, 2) := by decide +kernel
theorem dX12_feed_60 : decode cX12_feed 60 = .ok (.iload 6, 2) := by decide +kernel
theorem dX12_feed_62 : decode cX12_feed 62 = .ok (.bipush 20, 2) := by decide +kernel
theorem dX12_feed_64 : decode cX12_feed 64 = .ok (.if_icmp .ge 42, 3) := by decide +kernel
theorem dX12_feed_67 : decode cX12_feed 67 = .ok (.aload_n 0, 1) := by decide +kernel
theorem dX12_feed_68 : decode cX12_feed 68 = .ok (.getfield 29, 3) := by decide +kernel
theorem dX12_feed_71 : decode cX12_feed 71 = .ok (.aload_n 0, 1) := by decide +kernel
theorem dX12_feed_72 : decode cX12_feed 72 = .ok (.getfield 108, 3) := by decide +kernel
theorem dX12_feed_75 : decode cX12_feed 75 = .ok (.iload 6, 2) := by decide +kernel
theorem dX12_feed_77 : decode cX12_feed 77 = .ok (.iadd, 1) := by decide +kernel
theorem dX12_feed_78 : decode cX12_feed 78 = .ok (.aload_n 0, 1) := by decide +kernel
theorem dX12_feed_79 : decode cX12_feed 79 = .ok (.getfield 36, 3) := by decide +kernel
theorem dX12_feed_82 : decode cX12_feed 82 = .ok (.iload 6, 2) := by decide +kernel
theorem dX12_feed_84 : decode cX12_feed 84 = .ok (.iconst 4, 1) := by decide +kernel
theorem dX12_feed_85 : decode cX12_feed 85 = .ok (.idiv, 1) := by decide +kernel
theorem dX12_feed_86 : decode cX12_feed 86 = .ok (.iaload, 1) := by decide +kernel
theorem dX12_feed_87 : decode cX12_feed 87 = .ok (.bipush 24, 2) := by decide +kernel
theorem dX12_feed_89 : decode cX12_feed 89 = .ok (.bipush 8, 2) := by decide +kernel
theorem dX12_feed_91 : decode cX12_feed 91 = .ok (.iload 6, 2) := by decide +kernel
theorem dX12_feed_93 : decode cX12_feed 93 = .ok (.iconst 4, 1) := by decide +kernel
theorem dX12_feed_94 : decode cX12_feed 94 = .ok (.irem, 1) := by decide +kernel
theorem dX12_feed_95 : decode cX12_feed 95 = .ok (.imul, 1) := by decide +kernel
theorem dX12_feed_96 : decode cX12_feed 96 = .ok (.isub, 1) := by decide +kernel
theorem dX12_feed_97 : decode cX12_feed 97 = .ok (.ishr, 1) := by decide +kernel
theorem dX12_feed_98 : decode cX12_feed 98 = .ok (.i2b, 1) := by decide +kernel
theorem dX12_feed_99 : decode cX12_feed 99 = .ok (.bastore, 1) := by decide +kernel
theorem dX12_feed_100 : decode cX12_feed 100 = .ok (.iinc 6 1, 3) := by decide +kernel
theorem dX12_feed_103 : decode cX12_feed 103 = .ok (.goto (-43), 3) := by decide +kernel
theorem dX12_feed_106 : decode cX12_feed 106 = .ok (.aload_n 0, 1) := by decide +kernel
theorem dX12_feed_107 : decode cX12_feed 107 = .ok (.dup, 1) := by decide +kernel
theorem dX12_feed_108 : decode cX12_feed 108 = .ok (.getfield 108, 3) := by decide +kernel
theorem dX12_feed_111 : decode cX12_feed 111 = .ok (.bipush 20, 2) := by decide +kernel
theorem dX12_feed_113 : decode cX12_feed 113 = .ok (.iadd, 1) := by decide +kernel
theorem dX12_feed_114 : decode cX12_feed 114 = .ok (.putfield 108, 3) := by decide +kernel
theorem dX12_feed_117 : decode cX12_feed 117 = .ok (.aload_n 0, 1) := by decide +kernel
theorem dX12_feed_118 : decode cX12_feed 118 = .ok (.getfield 108, 3) := by decide +kernel
theorem dX12_feed_121 : decode cX12_feed 121 = .ok (.ireturn, 1) := by decide +kernel
theorem dX12_end_0 : decode cX12_end 0 = .ok (.aload_n 0, 1) := by decide +kernel
theorem dX12_end_1 : decode cX12_end 1 = .ok (.iconst 0, 1) := by decide +kernel
theorem dX12_end_2 : decode cX12_end 2 = .ok (.putfield 3, 3) := by decide +kernel
theorem dX12_end_5 : decode cX12_end 5 = .ok (.iload_n 1, 1) := by decide +kernel
theorem dX12_end_6 : decode cX12_end 6 = .ok (.ifCond .lt 11, 3) := by decide +kernel
theorem dX12_end_9 : decode cX12_end 9 = .ok (.iload_n 1, 1) := by decide +kernel
theorem dX12_end_10 : decode cX12_end 10 = .ok (.aload_n 0, 1) := by decide +kernel
theorem dX12_end_11 : decode cX12_end 11 = .ok (.getfield 108, 3) := by decide +kernel
theorem dX12_end_14 : decode cX12_end 14 = .ok (.if_icmp .le 5, 3) := by decide +kernel
theorem dX12_end_17 : decode cX12_end 17 = .ok (.iconst 0, 1) := by decide +kernel
theorem dX12_end_18 : decode cX12_end 18 = .ok (.ireturn, 1) := by decide +kernel
theorem dX12_end_19 : decode cX12_end 19 = .ok (.aload_n 0, 1) := by decide +kernel
theorem dX12_end_20 : decode cX12_end 20 = .ok (.iload_n 1, 1) := by decide +kernel
theorem dX12_end_21 : decode cX12_end 21 = .ok (.putfield 108, 3) := by decide +kernel
theorem dX12_end_24 : decode cX12_end 24 = .ok (.iconst 1, 1) := by decide +kernel
theorem dX12_end_25 : decode cX12_end 25 = .ok (.ireturn, 1) := by decide +kernel
theorem dX12_isAt_0 : decode cX12_isAt 0 = .ok (.aload_n 0, 1) := by decide +kernel
theorem dX12_isAt_1 : decode cX12_isAt 1 = .ok (.getfield 111, 3) := by decide +kernel
theorem dX12_isAt_4 : decode cX12_isAt 4 = .ok (.aload_n 0, 1) := by decide +kernel
theorem dX12_isAt_5 : decode cX12_isAt 5 = .ok (.getfield 114, 3) := by decide +kernel
theorem dX12_isAt_8 : decode cX12_isAt 8 = .ok (.if_icmp .ge 33, 3) := by decide +kernel
theorem dX12_isAt_11 : decode cX12_isAt 11 = .ok (.aload_n 0, 1) := by decide +kernel
theorem dX12_isAt_12 : decode cX12_isAt 12 = .ok (.getfield 29, 3) := by decide +kernel
theorem dX12_isAt_15 : decode cX12_isAt 15 = .ok (.aload_n 0, 1) := by decide +kernel
theorem dX12_isAt_16 : decode cX12_isAt 16 = .ok (.getfield 111, 3) := by decide +kernel
theorem dX12_isAt_19 : decode cX12_isAt 19 = .ok (.baload, 1) := by decide +kernel
theorem dX12_isAt_20 : decode cX12_isAt 20 = .ok (.iload_n 1, 1) := by decide +kernel
theorem dX12_isAt_21 : decode cX12_isAt 21 = .ok (.if_icmp .lt 20, 3) := by decide +kernel
theorem dX12_isAt_24 : decode cX12_isAt 24 = .ok (.aload_n 0, 1) := by decide +kernel
theorem dX12_isAt_25 : decode cX12_isAt 25 = .ok (.getfield 29, 3) := by decide +kernel
theorem dX12_isAt_28 : decode cX12_isAt 28 = .ok (.aload_n 0, 1) := by decide +kernel
theorem dX12_isAt_29 : decode cX12_isAt 29 = .ok (.getfield 111, 3) := by decide +kernel
theorem dX12_isAt_32 : decode cX12_isAt 32 = .ok (.baload, 1) := by decide +kernel
theorem dX12_isAt_33 : decode cX12_isAt 33 = .ok (.iload_n 2, 1) := by decide +kernel
theorem dX12_isAt_34 : decode cX12_isAt 34 = .ok (.if_icmp .gt 7, 3) := by decide +kernel
theorem dX12_isAt_37 : decode cX12_isAt 37 = .ok (.iconst 1, 1) := by decide +kernel
theorem dX12_isAt_38 : decode cX12_isAt 38 = .ok (.goto 4, 3) := by decide +kernel
theorem dX12_isAt_41 : decode cX12_isAt 41 = .ok (.iconst 0, 1) := by decide +kernel
theorem dX12_isAt_42 : decode cX12_isAt 42 = .ok (.ireturn, 1) := by decide +kernel
theorem dX12_blanks_0 : decode cX12_blanks 0 = .ok (.aload_n 0, 1) := by decide +kernel
theorem dX12_blanks_1 : decode cX12_blanks 1 = .ok (.bipush 32, 2) := by decide +kernel
theorem dX12_blanks_3 : decode cX12_blanks 3 = .ok (.bipush 32, 2) := by decide +kernel
theorem dX12_blanks_5 : decode cX12_blanks 5 = .ok (.invokevirtual 117, 3) := by decide +kernel
theorem dX12_blanks_8 : decode cX12_blanks 8 = .ok (.ifCond .eq 16, 3) := by decide +kernel
theorem dX12_blanks_11 : decode cX12_blanks 11 = .ok (.aload_n 0, 1) := by decide +kernel
theorem dX12_blanks_12 : decode cX12_blanks 12 = .ok (.dup, 1) := by decide +kernel
theorem dX12_blanks_13 : decode cX12_blanks 13 = .ok (.getfield 111, 3) := by decide +kernel
theorem dX12_blanks_16 : decode cX12_blanks 16 = .ok (.iconst 1, 1) := by decide +kernel
theorem dX12_blanks_17 : decode cX12_blanks 17 = .ok (.iadd, 1) := by decide +kernel
theorem dX12_blanks_18 : decode cX12_blanks 18 = .ok (.putfield 111, 3) := by decide +kernel
theorem dX12_blanks_21 : decode cX12_blanks 21 = .ok (.goto (-21), 3) := by decide +kernel
theorem dX12_blanks_24 : decode cX12_blanks 24 = .ok (.aload_n 0, 1) := by decide +kernel
theorem dX12_blanks_25 : decode cX12_blanks 25 = .ok (.aload_n 0, 1) := by decide +kernel
theorem dX12_blanks_26 : decode cX12_blanks 26 = .ok (.getfield 111, 3) := by decide +kernel
theorem dX12_blanks_29 : decode cX12_blanks 29 = .ok (.putfield 121, 3) := by decide +kernel
theorem dX12_blanks_32 : decode cX12_blanks 32 = .ok (.return_, 1) := by decide +kernel
theorem dX12_letters_0 : decode cX12_letters 0 = .ok (.aload_n 0, 1) := by decide +kernel
theorem dX12_letters_1 : decode cX12_letters 1 = .ok (.invokevirtual 124, 3) := by decide +kernel
theorem dX12_letters_4 : decode cX12_letters 4 = .ok (.aload_n 0, 1) := by decide +kernel
theorem dX12_letters_5 : decode cX12_letters 5 = .ok (.bipush 97, 2) := by decide +kernel
theorem dX12_letters_7 : decode cX12_letters 7 = .ok (.bipush 122, 2) := by decide +kernel
theorem dX12_letters_9 : decode cX12_letters 9 = .ok (.invokevirtual 117, 3) := by decide +kernel
theorem dX12_letters_12 : decode cX12_letters 12 = .ok (.ifCond .eq 16, 3) := by decide +kernel
theorem dX12_letters_15 : decode cX12_letters 15 = .ok (.aload_n 0, 1) := by decide +kernel
theorem dX12_letters_16 : decode cX12_letters 16 = .ok (.dup, 1) := by decide +kernel
theorem dX12_letters_17 : decode cX12_letters 17 = .ok (.getfield 111, 3) := by decide +kernel
theorem dX12_letters_20 : decode cX12_letters 20 = .ok (.iconst 1, 1) := by decide +kernel
theorem dX12_letters_21 : decode cX12_letters 21 = .ok (.iadd, 1) := by decide +kernel
theorem dX12_letters_22 : decode cX12_letters 22 = .ok (.putfield 111, 3) := by decide +kernel
theorem dX12_letters_25 : decode cX12_letters 25 = .ok (.goto (-21), 3) := by decide +kernel
theorem dX12_letters_28 : decode cX12_letters 28 = .ok (.return_, 1) := by decide +kernel
theorem dX12_isWord_0 : decode cX12_isWord 0 = .ok (.aload_n 0, 1) := by decide +kernel
theorem dX12_isWord_1 : decode cX12_isWord 1 = .ok (.getfield 111, 3) := by decide +kernel
theorem dX12_isWord_4 : decode cX12_isWord 4 = .ok (.aload_n 0, 1) := by decide +kernel
theorem dX12_isWord_5 : decode cX12_isWord 5 = .ok (.getfield 121, 3) := by decide +kernel
theorem dX12_isWord_8 : decode cX12_isWord 8 = .ok (.isub, 1) := by decide +kernel
theorem dX12_isWord_9 : decode cX12_isWord 9 = .ok (.aload_n 1, 1) := by decide +kernel
theorem dX12_isWord_10 : decode cX12_isWord 10 = .ok (.invokevirtual 127, 3) := by decide +kernel
theorem dX12_isWord_13 : decode cX12_isWord 13 = .ok (.if_icmp .ne 7, 3) := by decide +kernel
theorem dX12_isWord_16 : decode cX12_isWord 16 = .ok (.iconst 1, 1) := by decide +kernel
theorem dX12_isWord_17 : decode cX12_isWord 17 = .ok (.goto 4, 3) := by decide +kernel
theorem dX12_isWord_20 : decode cX12_isWord 20 = .ok (.iconst 0, 1) := by decide +kernel
theorem dX12_isWord_21 : decode cX12_isWord 21 = .ok (.istore_n 2, 1) := by decide +kernel
theorem dX12_isWord_22 : decode cX12_isWord 22 = .ok (.iconst 0, 1) := by decide +kernel
theorem dX12_isWord_23 : decode cX12_isWord 23 = .ok (.istore_n 3, 1) := by decide +kernel
theorem dX12_isWord_24 : decode cX12_isWord 24 = .ok (.iload_n 2, 1) := by decide +kernel
theorem dX12_isWord_25 : decode cX12_isWord 25 = .ok (.ifCond .eq 42, 3) := by decide +kernel
theorem dX12_isWord_28 : decode cX12_isWord 28 = .ok (.iload_n 3, 1) := by decide +kernel
theorem dX12_isWord_29 : decode cX12_isWord 29 = .ok (.aload_n 1, 1) := by decide +kernel
theorem dX12_isWord_30 : decode cX12_isWord 30 = .ok (.invokevirtual 127, 3) := by decide +kernel
theorem dX12_isWord_33 : decode cX12_isWord 33 = .ok (.if_icmp .ge 34, 3) := by decide +kernel
theorem dX12_isWord_36 : decode cX12_isWord 36 = .ok (.aload_n 0, 1) := by decide +kernel
theorem dX12_isWord_37 : decode cX12_isWord 37 = .ok (.getfield 29, 3) := by decide +kernel
theorem dX12_isWord_40 : decode cX12_isWord 40 = .ok (.aload_n 0, 1) := by decide +kernel
theorem dX12_isWord_41 : decode cX12_isWord 41 = .ok (.getfield 121, 3) := by decide +kernel
theorem dX12_isWord_44 : decode cX12_isWord 44 = .ok (.iload_n 3, 1) := by decide +kernel
theorem dX12_isWord_45 : decode cX12_isWord 45 = .ok (.iadd, 1) := by decide +kernel
theorem dX12_isWord_46 : decode cX12_isWord 46 = .ok (.baload, 1) := by decide +kernel
theorem dX12_isWord_47 : decode cX12_isWord 47 = .ok (.aload_n 1, 1) := by decide +kernel
theorem dX12_isWord_48 : decode cX12_isWord 48 = .ok (.iload_n 3, 1) := by decide +kernel
theorem dX12_isWord_49 : decode cX12_isWord 49 = .ok (.invokevirtual 132, 3) := by decide +kernel
theorem dX12_isWord_52 : decode cX12_isWord 52 = .ok (.if_icmp .ne 7, 3) := by decide +kernel
theorem dX12_isWord_55 : decode cX12_isWord 55 = .ok (.iconst 1, 1) := by decide +kernel
theorem dX12_isWord_56 : decode cX12_isWord 56 = .ok (.goto 4, 3) := by decide +kernel
theorem dX12_isWord_59 : decode cX12_isWord 59 = .ok (.iconst 0, 1) := by decide +kernel
theorem dX12_isWord_60 : decode cX12_isWord 60 = .ok (.istore_n 2, 1) := by decide +kernel
theorem dX12_isWord_61 : decode cX12_isWord 61 = .ok (.iinc 3 1, 3) := by decide +kernel
theorem dX12_isWord_64 : decode cX12_isWord 64 = .ok (.goto (-40), 3) := by decide +kernel
theorem dX12_isWord_67 : decode cX12_isWord 67 = .ok (.iload_n 2, 1) := by decide +kernel
theorem dX12_isWord_68 : decode cX12_isWord 68 = .ok (.ireturn, 1) := by decide +kernel
theorem dX12_passes_0 : decode cX12_passes 0 = .ok (.aload_n 0, 1) := by decide +kernel
theorem dX12_passes_1 : decode cX12_passes 1 = .ok (.invokevirtual 136, 3) := by decide +kernel
theorem dX12_passes_4 : decode cX12_passes 4 = .ok (.aload_n 0, 1) := by decide +kernel
theorem dX12_passes_5 : decode cX12_passes 5 = .ok (.aload_n 1, 1) := by decide +kernel
theorem dX12_passes_6 : decode cX12_passes 6 = .ok (.invokevirtual 139, 3) := by decide +kernel
theorem dX12_passes_9 : decode cX12_passes 9 = .ok (.ifCond .eq 5, 3) := by decide +kernel
theorem dX12_passes_12 : decode cX12_passes 12 = .ok (.iconst 1, 1) := by decide +kernel
theorem dX12_passes_13 : decode cX12_passes 13 = .ok (.ireturn, 1) := by decide +kernel
theorem dX12_passes_14 : decode cX12_passes 14 = .ok (.aload_n 0, 1) := by decide +kernel
theorem dX12_passes_15 : decode cX12_passes 15 = .ok (.aload_n 0, 1) := by decide +kernel
theorem dX12_passes_16 : decode cX12_passes 16 = .ok (.getfield 121, 3) := by decide +kernel
theorem dX12_passes_19 : decode cX12_passes 19 = .ok (.putfield 111, 3) := by decide +kernel
theorem dX12_passes_22 : decode cX12_passes 22 = .ok (.iconst 0, 1) := by decide +kernel
theorem dX12_passes_23 : decode cX12_passes 23 = .ok (.ireturn, 1) := by decide +kernel
theorem dX12_sign_0 : decode cX12_sign 0 = .ok (.aload_n 0, 1) := by decide +kernel
theorem dX12_sign_1 : decode cX12_sign 1 = .ok (.invokevirtual 124, 3) := by decide +kernel
theorem dX12_sign_4 : decode cX12_sign 4 = .ok (.aload_n 0, 1) := by decide +kernel
theorem dX12_sign_5 : decode cX12_sign 5 = .ok (.iload_n 1, 1) := by decide +kernel
theorem dX12_sign_6 : decode cX12_sign 6 = .ok (.iload_n 1, 1) := by decide +kernel
theorem dX12_sign_7 : decode cX12_sign 7 = .ok (.invokevirtual 117, 3) := by decide +kernel
theorem dX12_sign_10 : decode cX12_sign 10 = .ok (.ifCond .ne 5, 3) := by decide +kernel
theorem dX12_sign_13 : decode cX12_sign 13 = .ok (.iconst 0, 1) := by decide +kernel
theorem dX12_sign_14 : decode cX12_sign 14 = .ok (.ireturn, 1) := by decide +kernel
theorem dX12_sign_15 : decode cX12_sign 15 = .ok (.aload_n 0, 1) := by decide +kernel
theorem dX12_sign_16 : decode cX12_sign 16 = .ok (.dup, 1) := by decide +kernel
theorem dX12_sign_17 : decode cX12_sign 17 = .ok (.getfield 111, 3) := by decide +kernel
theorem dX12_sign_20 : decode cX12_sign 20 = .ok (.iconst 1, 1) := by decide +kernel
theorem dX12_sign_21 : decode cX12_sign 21 = .ok (.iadd, 1) := by decide +kernel
theorem dX12_sign_22 : decode cX12_sign 22 = .ok (.putfield 111, 3) := by decide +kernel
theorem dX12_sign_25 : decode cX12_sign 25 = .ok (.iconst 1, 1) := by decide +kernel
theorem dX12_sign_26 : decode cX12_sign 26 = .ok (.ireturn, 1) := by decide +kernel
theorem dX12_number_0 : decode cX12_number 0 = .ok (.aload_n 0, 1) := by decide +kernel
theorem dX12_number_1 : decode cX12_number 1 = .ok (.invokevirtual 124, 3) := by decide +kernel
theorem dX12_number_4 : decode cX12_number 4 = .ok (.iconst 0, 1) := by decide +kernel
theorem dX12_number_5 : decode cX12_number 5 = .ok (.istore_n 3, 1) := by decide +kernel
theorem dX12_number_6 : decode cX12_number 6 = .ok (.aload_n 0, 1) := by decide +kernel
theorem dX12_number_7 : decode cX12_number 7 = .ok (.bipush 48, 2) := by decide +kernel
theorem dX12_number_9 : decode cX12_number 9 = .ok (.bipush 57, 2) := by decide +kernel
theorem dX12_number_11 : decode cX12_number 11 = .ok (.invokevirtual 117, 3) := by decide +kernel
theorem dX12_number_14 : decode cX12_number 14 = .ok (.ifCond .eq 51, 3) := by decide +kernel
theorem dX12_number_17 : decode cX12_number 17 = .ok (.aload_n 0, 1) := by decide +kernel
theorem dX12_number_18 : decode cX12_number 18 = .ok (.getfield 111, 3) := by decide +kernel
theorem dX12_number_21 : decode cX12_number 21 = .ok (.aload_n 0, 1) := by decide +kernel
theorem dX12_number_22 : decode cX12_number 22 = .ok (.getfield 121, 3) := by decide +kernel
theorem dX12_number_25 : decode cX12_number 25 = .ok (.isub, 1) := by decide +kernel
theorem dX12_number_26 : decode cX12_number 26 = .ok (.iconst 3, 1) := by decide +kernel
theorem dX12_number_27 : decode cX12_number 27 = .ok (.if_icmp .ge 23, 3) := by decide +kernel
theorem dX12_number_30 : decode cX12_number 30 = .ok (.bipush 10, 2) := by decide +kernel
theorem dX12_number_32 : decode cX12_number 32 = .ok (.iload_n 3, 1) := by decide +kernel
theorem dX12_number_33 : decode cX12_number 33 = .ok (.imul, 1) := by decide +kernel
theorem dX12_number_34 : decode cX12_number 34 = .ok (.aload_n 0, 1) := by decide +kernel
theorem dX12_number_35 : decode cX12_number 35 = .ok (.getfield 29, 3) := by decide +kernel
theorem dX12_number_38 : decode cX12_number 38 = .ok (.aload_n 0, 1) := by decide +kernel
theorem dX12_number_39 : decode cX12_number 39 = .ok (.getfield 111, 3) := by decide +kernel
theorem dX12_number_42 : decode cX12_number 42 = .ok (.baload, 1) := by decide +kernel
theorem dX12_number_43 : decode cX12_number 43 = .ok (.iadd, 1) := by decide +kernel
theorem dX12_number_44 : decode cX12_number 44 = .ok (.bipush 48, 2) := by decide +kernel
theorem dX12_number_46 : decode cX12_number 46 = .ok (.isub, 1) := by decide +kernel
theorem dX12_number_47 : decode cX12_number 47 = .ok (.goto 4, 3) := by decide +kernel
theorem dX12_number_50 : decode cX12_number 50 = .ok (.iload_n 3, 1) := by decide +kernel
theorem dX12_number_51 : decode cX12_number 51 = .ok (.istore_n 3, 1) := by decide +kernel
theorem dX12_number_52 : decode cX12_number 52 = .ok (.aload_n 0, 1) := by decide +kernel
theorem dX12_number_53 : decode cX12_number 53 = .ok (.dup, 1) := by decide +kernel
theorem dX12_number_54 : decode cX12_number 54 = .ok (.getfield 111, 3) := by decide +kernel
theorem dX12_number_57 : decode cX12_number 57 = .ok (.iconst 1, 1) := by decide +kernel
theorem dX12_number_58 : decode cX12_number 58 = .ok (.iadd, 1) := by decide +kernel
theorem dX12_number_59 : decode cX12_number 59 = .ok (.putfield 111, 3) := by decide +kernel
theorem dX12_number_62 : decode cX12_number 62 = .ok (.goto (-56), 3) := by decide +kernel
theorem dX12_number_65 : decode cX12_number 65 = .ok (.aload_n 0, 1) := by decide +kernel
theorem dX12_number_66 : decode cX12_number 66 = .ok (.getfield 111, 3) := by decide +kernel
theorem dX12_number_69 : decode cX12_number 69 = .ok (.aload_n 0, 1) := by decide +kernel
theorem dX12_number_70 : decode cX12_number 70 = .ok (.getfield 121, 3) := by decide +kernel
theorem dX12_number_73 : decode cX12_number 73 = .ok (.if_icmp .eq 26, 3) := by decide +kernel
theorem dX12_number_76 : decode cX12_number 76 = .ok (.aload_n 0, 1) := by decide +kernel
theorem dX12_number_77 : decode cX12_number 77 = .ok (.getfield 111, 3) := by decide +kernel
theorem dX12_number_80 : decode cX12_number 80 = .ok (.aload_n 0, 1) := by decide +kernel
theorem dX12_number_81 : decode cX12_number 81 = .ok (.getfield 121, 3) := by decide +kernel
theorem dX12_number_84 : decode cX12_number 84 = .ok (.isub, 1) := by decide +kernel
theorem dX12_number_85 : decode cX12_number 85 = .ok (.iconst 3, 1) := by decide +kernel
theorem dX12_number_86 : decode cX12_number 86 = .ok (.if_icmp .gt 13, 3) := by decide +kernel
theorem dX12_number_89 : decode cX12_number 89 = .ok (.iload_n 3, 1) := by decide +kernel
theorem dX12_number_90 : decode cX12_number 90 = .ok (.iload_n 1, 1) := by decide +kernel
theorem dX12_number_91 : decode cX12_number 91 = .ok (.if_icmp .lt 8, 3) := by decide +kernel
theorem dX12_number_94 : decode cX12_number 94 = .ok (.iload_n 3, 1) := by decide +kernel
theorem dX12_number_95 : decode cX12_number 95 = .ok (.iload_n 2, 1) := by decide +kernel
theorem dX12_number_96 : decode cX12_number 96 = .ok (.if_icmp .le 7, 3) := by decide +kernel
theorem dX12_number_99 : decode cX12_number 99 = .ok (.iconst (-1), 1) := by decide +kernel
theorem dX12_number_100 : decode cX12_number 100 = .ok (.goto 4, 3) := by decide +kernel
theorem dX12_number_103 : decode cX12_number 103 = .ok (.iload_n 3, 1) := by decide +kernel
theorem dX12_number_104 : decode cX12_number 104 = .ok (.ireturn, 1) := by decide +kernel
theorem dX12_behind_0 : decode cX12_behind 0 = .ok (.aload_n 0, 1) := by decide +kernel
theorem dX12_behind_1 : decode cX12_behind 1 = .ok (.invokevirtual 136, 3) := by decide +kernel
theorem dX12_behind_4 : decode cX12_behind 4 = .ok (.aload_n 0, 1) := by decide +kernel
theorem dX12_behind_5 : decode cX12_behind 5 = .ok (.aload_n 1, 1) := by decide +kernel
theorem dX12_behind_6 : decode cX12_behind 6 = .ok (.invokevirtual 139, 3) := by decide +kernel
theorem dX12_behind_9 : decode cX12_behind 9 = .ok (.ifCond .eq 12, 3) := by decide +kernel
theorem dX12_behind_12 : decode cX12_behind 12 = .ok (.aload_n 0, 1) := by decide +kernel
theorem dX12_behind_13 : decode cX12_behind 13 = .ok (.iload_n 2, 1) := by decide +kernel
theorem dX12_behind_14 : decode cX12_behind 14 = .ok (.iload_n 3, 1) := by decide +kernel
theorem dX12_behind_15 : decode cX12_behind 15 = .ok (.invokevirtual 143, 3) := by decide +kernel
theorem dX12_behind_18 : decode cX12_behind 18 = .ok (.goto 4, 3) := by decide +kernel
theorem dX12_behind_21 : decode cX12_behind 21 = .ok (.iconst (-1), 1) := by decide +kernel
theorem dX12_behind_22 : decode cX12_behind 22 = .ok (.ireturn, 1) := by decide +kernel
theorem dX12_told_0 : decode cX12_told 0 = .ok (.aload_n 0, 1) := by decide +kernel
theorem dX12_told_1 : decode cX12_told 1 = .ok (.aload_n 1, 1) := by decide +kernel
theorem dX12_told_2 : decode cX12_told 2 = .ok (.invokevirtual 146, 3) := by decide +kernel
theorem dX12_told_5 : decode cX12_told 5 = .ok (.ifCond .ne 5, 3) := by decide +kernel
theorem dX12_told_8 : decode cX12_told 8 = .ok (.iload_n 3, 1) := by decide +kernel
theorem dX12_told_9 : decode cX12_told 9 = .ok (.ireturn, 1) := by decide +kernel
theorem dX12_told_10 : decode cX12_told 10 = .ok (.aload_n 0, 1) := by decide +kernel
theorem dX12_told_11 : decode cX12_told 11 = .ok (.iconst 0, 1) := by decide +kernel
theorem dX12_told_12 : decode cX12_told 12 = .ok (.iload_n 2, 1) := by decide +kernel
theorem dX12_told_13 : decode cX12_told 13 = .ok (.invokevirtual 143, 3) := by decide +kernel
theorem dX12_told_16 : decode cX12_told 16 = .ok (.istore 4, 2) := by decide +kernel
theorem dX12_told_18 : decode cX12_told 18 = .ok (.iload 4, 2) := by decide +kernel
theorem dX12_told_20 : decode cX12_told 20 = .ok (.ifCond .ge 8, 3) := by decide +kernel
theorem dX12_told_23 : decode cX12_told 23 = .ok (.ldc 149, 2) := by decide +kernel
theorem dX12_told_25 : decode cX12_told 25 = .ok (.goto 5, 3) := by decide +kernel
theorem dX12_told_28 : decode cX12_told 28 = .ok (.iload 4, 2) := by decide +kernel
theorem dX12_told_30 : decode cX12_told 30 = .ok (.ireturn, 1) := by decide +kernel
theorem dX12_isNumberNext_0 : decode cX12_isNumberNext 0 = .ok (.aload_n 0, 1) := by decide +kernel
theorem dX12_isNumberNext_1 : decode cX12_isNumberNext 1 = .ok (.invokevirtual 124, 3) := by decide +kernel
theorem dX12_isNumberNext_4 : decode cX12_isNumberNext 4 = .ok (.aload_n 0, 1) := by decide +kernel
theorem dX12_isNumberNext_5 : decode cX12_isNumberNext 5 = .ok (.bipush 48, 2) := by decide +kernel
theorem dX12_isNumberNext_7 : decode cX12_isNumberNext 7 = .ok (.bipush 57, 2) := by decide +kernel
theorem dX12_isNumberNext_9 : decode cX12_isNumberNext 9 = .ok (.invokevirtual 117, 3) := by decide +kernel
theorem dX12_isNumberNext_12 : decode cX12_isNumberNext 12 = .ok (.ireturn, 1) := by decide +kernel
theorem dX12_fault_0 : decode cX12_fault 0 = .ok (.aload_n 0, 1) := by decide +kernel
theorem dX12_fault_1 : decode cX12_fault 1 = .ok (.iconst 0, 1) := by decide +kernel
theorem dX12_fault_2 : decode cX12_fault 2 = .ok (.putfield 3, 3) := by decide +kernel
theorem dX12_fault_5 : decode cX12_fault 5 = .ok (.aload_n 0, 1) := by decide +kernel
theorem dX12_fault_6 : decode cX12_fault 6 = .ok (.getfield 33, 3) := by decide +kernel
theorem dX12_fault_9 : decode cX12_fault 9 = .ok (.ireturn, 1) := by decide +kernel
theorem dX12_uses_0 : decode cX12_uses 0 = .ok (.aload_n 0, 1) := by decide +kernel
theorem dX12_uses_1 : decode cX12_uses 1 = .ok (.iconst 0, 1) := by decide +kernel
theorem dX12_uses_2 : decode cX12_uses 2 = .ok (.putfield 3, 3) := by decide +kernel
theorem dX12_uses_5 : decode cX12_uses 5 = .ok (.aload_n 0, 1) := by decide +kernel
theorem dX12_uses_6 : decode cX12_uses 6 = .ok (.aload_n 0, 1) := by decide +kernel
theorem dX12_uses_7 : decode cX12_uses 7 = .ok (.getfield 108, 3) := by decide +kernel
theorem dX12_uses_10 : decode cX12_uses 10 = .ok (.putfield 114, 3) := by decide +kernel
theorem dX12_uses_13 : decode cX12_uses 13 = .ok (.aload_n 0, 1) := by decide +kernel
theorem dX12_uses_14 : decode cX12_uses 14 = .ok (.iconst 0, 1) := by decide +kernel
theorem dX12_uses_15 : decode cX12_uses 15 = .ok (.putfield 108, 3) := by decide +kernel
theorem dX12_uses_18 : decode cX12_uses 18 = .ok (.aload_n 0, 1) := by decide +kernel
theorem dX12_uses_19 : decode cX12_uses 19 = .ok (.iconst 0, 1) := by decide +kernel
theorem dX12_uses_20 : decode cX12_uses 20 = .ok (.putfield 111, 3) := by decide +kernel
theorem dX12_uses_23 : decode cX12_uses 23 = .ok (.return_, 1) := by decide +kernel
theorem dX12_readNumber_0 : decode cX12_readNumber 0 = .ok (.aload_n 0, 1) := by decide +kernel
theorem dX12_readNumber_1 : decode cX12_readNumber 1 = .ok (.iload_n 2, 1) := by decide +kernel
theorem dX12_readNumber_2 : decode cX12_readNumber 2 = .ok (.iload_n 3, 1) := by decide +kernel
theorem dX12_readNumber_3 : decode cX12_readNumber 3 = .ok (.invokevirtual 143, 3) := by decide +kernel
theorem dX12_readNumber_6 : decode cX12_readNumber 6 = .ok (.istore 4, 2) := by decide +kernel
theorem dX12_readNumber_8 : decode cX12_readNumber 8 = .ok (.aload_n 0, 1) := by decide +kernel
theorem dX12_readNumber_9 : decode cX12_readNumber 9 = .ok (.getfield 13, 3) := by decide +kernel
theorem dX12_readNumber_12 : decode cX12_readNumber 12 = .ok (.iload_n 1, 1) := by decide +kernel
theorem dX12_readNumber_13 : decode cX12_readNumber 13 = .ok (.iload 4, 2) := by decide +kernel
theorem dX12_readNumber_15 : decode cX12_readNumber 15 = .ok (.ifCond .ge 12, 3) := by decide +kernel
theorem dX12_readNumber_18 : decode cX12_readNumber 18 = .ok (.aload_n 0, 1) := by decide +kernel
theorem dX12_readNumber_19 : decode cX12_readNumber 19 = .ok (.getfield 13, 3) := by decide +kernel
theorem dX12_readNumber_22 : decode cX12_readNumber 22 = .ok (.iload_n 1, 1) := by decide +kernel
theorem dX12_readNumber_23 : decode cX12_readNumber 23 = .ok (.iaload, 1) := by decide +kernel
theorem dX12_readNumber_24 : decode cX12_readNumber 24 = .ok (.goto 5, 3) := by decide +kernel
theorem dX12_readNumber_27 : decode cX12_readNumber 27 = .ok (.iload 4, 2) := by decide +kernel
theorem dX12_readNumber_29 : decode cX12_readNumber 29 = .ok (.iastore, 1) := by decide +kernel
theorem dX12_readNumber_30 : decode cX12_readNumber 30 = .ok (.iload 4, 2) := by decide +kernel
theorem dX12_readNumber_32 : decode cX12_readNumber 32 = .ok (.ifCond .lt 7, 3) := by decide +kernel
theorem dX12_readNumber_35 : decode cX12_readNumber 35 = .ok (.iconst 1, 1) := by decide +kernel
theorem dX12_readNumber_36 : decode cX12_readNumber 36 = .ok (.goto 4, 3) := by decide +kernel
theorem dX12_readNumber_39 : decode cX12_readNumber 39 = .ok (.iconst 0, 1) := by decide +kernel
theorem dX12_readNumber_40 : decode cX12_readNumber 40 = .ok (.ireturn, 1) := by decide +kernel
theorem dX12_isShip_0 : decode cX12_isShip 0 = .ok (.aload_n 0, 1) := by decide +kernel
theorem dX12_isShip_1 : decode cX12_isShip 1 = .ok (.invokevirtual 95, 3) := by decide +kernel
theorem dX12_isShip_4 : decode cX12_isShip 4 = .ok (.istore 4, 2) := by decide +kernel
theorem dX12_isShip_6 : decode cX12_isShip 6 = .ok (.aload_n 0, 1) := by decide +kernel
theorem dX12_isShip_7 : decode cX12_isShip 7 = .ok (.getfield 13, 3) := by decide +kernel
theorem dX12_isShip_10 : decode cX12_isShip 10 = .ok (.iload 4, 2) := by decide +kernel
theorem dX12_isShip_12 : decode cX12_isShip 12 = .ok (.iconst 0, 1) := by decide +kernel
theorem dX12_isShip_13 : decode cX12_isShip 13 = .ok (.invokestatic 81, 3) := by decide +kernel
theorem dX12_isShip_16 : decode cX12_isShip 16 = .ok (.iload_n 1, 1) := by decide +kernel
theorem dX12_isShip_17 : decode cX12_isShip 17 = .ok (.iastore, 1) := by decide +kernel
theorem dX12_isShip_18 : decode cX12_isShip 18 = .ok (.aload_n 0, 1) := by decide +kernel
theorem dX12_isShip_19 : decode cX12_isShip 19 = .ok (.getfield 13, 3) := by decide +kernel
theorem dX12_isShip_22 : decode cX12_isShip 22 = .ok (.iload 4, 2) := by decide +kernel
theorem dX12_isShip_24 : decode cX12_isShip 24 = .ok (.iconst 1, 1) := by decide +kernel
theorem dX12_isShip_25 : decode cX12_isShip 25 = .ok (.invokestatic 81, 3) := by decide +kernel
theorem dX12_isShip_28 : decode cX12_isShip 28 = .ok (.iload_n 2, 1) := by decide +kernel
theorem dX12_isShip_29 : decode cX12_isShip 29 = .ok (.iastore, 1) := by decide +kernel
theorem dX12_isShip_30 : decode cX12_isShip 30 = .ok (.aload_n 0, 1) := by decide +kernel
theorem dX12_isShip_31 : decode cX12_isShip 31 = .ok (.getfield 13, 3) := by decide +kernel
theorem dX12_isShip_34 : decode cX12_isShip 34 = .ok (.iload 4, 2) := by decide +kernel
theorem dX12_isShip_36 : decode cX12_isShip 36 = .ok (.iconst 2, 1) := by decide +kernel
theorem dX12_isShip_37 : decode cX12_isShip 37 = .ok (.invokestatic 81, 3) := by decide +kernel
theorem dX12_isShip_40 : decode cX12_isShip 40 = .ok (.iload_n 3, 1) := by decide +kernel
theorem dX12_isShip_41 : decode cX12_isShip 41 = .ok (.iastore, 1) := by decide +kernel
theorem dX12_isShip_42 : decode cX12_isShip 42 = .ok (.aload_n 0, 1) := by decide +kernel
theorem dX12_isShip_43 : decode cX12_isShip 43 = .ok (.getfield 13, 3) := by decide +kernel
theorem dX12_isShip_46 : decode cX12_isShip 46 = .ok (.iload 4, 2) := by decide +kernel
theorem dX12_isShip_48 : decode cX12_isShip 48 = .ok (.iconst 3, 1) := by decide +kernel
theorem dX12_isShip_49 : decode cX12_isShip 49 = .ok (.invokestatic 81, 3) := by decide +kernel
theorem dX12_isShip_52 : decode cX12_isShip 52 = .ok (.iconst 0, 1) := by decide +kernel
theorem dX12_isShip_53 : decode cX12_isShip 53 = .ok (.iastore, 1) := by decide +kernel
theorem dX12_isShip_54 : decode cX12_isShip 54 = .ok (.aload_n 0, 1) := by decide +kernel
theorem dX12_isShip_55 : decode cX12_isShip 55 = .ok (.getfield 13, 3) := by decide +kernel
theorem dX12_isShip_58 : decode cX12_isShip 58 = .ok (.iload 4, 2) := by decide +kernel
theorem dX12_isShip_60 : decode cX12_isShip 60 = .ok (.iconst 4, 1) := by decide +kernel
theorem dX12_isShip_61 : decode cX12_isShip 61 = .ok (.invokestatic 81, 3) := by decide +kernel
theorem dX12_isShip_64 : decode cX12_isShip 64 = .ok (.iconst (-1), 1) := by decide +kernel
theorem dX12_isShip_65 : decode cX12_isShip 65 = .ok (.iastore, 1) := by decide +kernel
theorem dX12_isShip_66 : decode cX12_isShip 66 = .ok (.aload_n 0, 1) := by decide +kernel
theorem dX12_isShip_67 : decode cX12_isShip 67 = .ok (.getfield 13, 3) := by decide +kernel
theorem dX12_isShip_70 : decode cX12_isShip 70 = .ok (.iload 4, 2) := by decide +kernel
theorem dX12_isShip_72 : decode cX12_isShip 72 = .ok (.iconst 5, 1) := by decide +kernel
theorem dX12_isShip_73 : decode cX12_isShip 73 = .ok (.invokestatic 81, 3) := by decide +kernel
theorem dX12_isShip_76 : decode cX12_isShip 76 = .ok (.iconst 0, 1) := by decide +kernel
theorem dX12_isShip_77 : decode cX12_isShip 77 = .ok (.iastore, 1) := by decide +kernel
theorem dX12_isShip_78 : decode cX12_isShip 78 = .ok (.aload_n 0, 1) := by decide +kernel
theorem dX12_isShip_79 : decode cX12_isShip 79 = .ok (.getfield 13, 3) := by decide +kernel
theorem dX12_isShip_82 : decode cX12_isShip 82 = .ok (.iconst 0, 1) := by decide +kernel
theorem dX12_isShip_83 : decode cX12_isShip 83 = .ok (.dup2, 1) := by decide +kernel
theorem dX12_isShip_84 : decode cX12_isShip 84 = .ok (.iaload, 1) := by decide +kernel
theorem dX12_isShip_85 : decode cX12_isShip 85 = .ok (.iconst 1, 1) := by decide +kernel
theorem dX12_isShip_86 : decode cX12_isShip 86 = .ok (.iadd, 1) := by decide +kernel
theorem dX12_isShip_87 : decode cX12_isShip 87 = .ok (.iastore, 1) := by decide +kernel
theorem dX12_isShip_88 : decode cX12_isShip 88 = .ok (.return_, 1) := by decide +kernel
theorem dX12_readShip_0 : decode cX12_readShip 0 = .ok (.aload_n 0, 1) := by decide +kernel
theorem dX12_readShip_1 : decode cX12_readShip 1 = .ok (.invokevirtual 95, 3) := by decide +kernel
theorem dX12_readShip_4 : decode cX12_readShip 4 = .ok (.istore_n 1, 1) := by decide +kernel
theorem dX12_readShip_5 : decode cX12_readShip 5 = .ok (.iload_n 1, 1) := by decide +kernel
theorem dX12_readShip_6 : decode cX12_readShip 6 = .ok (.bipush 8, 2) := by decide +kernel
theorem dX12_readShip_8 : decode cX12_readShip 8 = .ok (.if_icmp .ne 5, 3) := by decide +kernel
theorem dX12_readShip_11 : decode cX12_readShip 11 = .ok (.iconst 0, 1) := by decide +kernel
theorem dX12_readShip_12 : decode cX12_readShip 12 = .ok (.ireturn, 1) := by decide +kernel
theorem dX12_readShip_13 : decode cX12_readShip 13 = .ok (.aload_n 0, 1) := by decide +kernel
theorem dX12_readShip_14 : decode cX12_readShip 14 = .ok (.ldc 150, 2) := by decide +kernel
theorem dX12_readShip_16 : decode cX12_readShip 16 = .ok (.iconst 1, 1) := by decide +kernel
theorem dX12_readShip_17 : decode cX12_readShip 17 = .ok (.bipush 12, 2) := by decide +kernel
theorem dX12_readShip_19 : decode cX12_readShip 19 = .ok (.invokevirtual 151, 3) := by decide +kernel
theorem dX12_readShip_22 : decode cX12_readShip 22 = .ok (.istore_n 2, 1) := by decide +kernel
theorem dX12_readShip_23 : decode cX12_readShip 23 = .ok (.iload_n 2, 1) := by decide +kernel
theorem dX12_readShip_24 : decode cX12_readShip 24 = .ok (.ifCond .ge 7, 3) := by decide +kernel
theorem dX12_readShip_27 : decode cX12_readShip 27 = .ok (.iconst (-1), 1) := by decide +kernel
theorem dX12_readShip_28 : decode cX12_readShip 28 = .ok (.goto 12, 3) := by decide +kernel
theorem dX12_readShip_31 : decode cX12_readShip 31 = .ok (.aload_n 0, 1) := by decide +kernel
theorem dX12_readShip_32 : decode cX12_readShip 32 = .ok (.ldc 155, 2) := by decide +kernel
theorem dX12_readShip_34 : decode cX12_readShip 34 = .ok (.iconst 1, 1) := by decide +kernel
theorem dX12_readShip_35 : decode cX12_readShip 35 = .ok (.bipush 20, 2) := by decide +kernel
theorem dX12_readShip_37 : decode cX12_readShip 37 = .ok (.invokevirtual 151, 3) := by decide +kernel
theorem dX12_readShip_40 : decode cX12_readShip 40 = .ok (.istore_n 3, 1) := by decide +kernel
theorem dX12_readShip_41 : decode cX12_readShip 41 = .ok (.iload_n 3, 1) := by decide +kernel
theorem dX12_readShip_42 : decode cX12_readShip 42 = .ok (.ifCond .ge 5, 3) := by decide +kernel
theorem dX12_readShip_45 : decode cX12_readShip 45 = .ok (.iconst 0, 1) := by decide +kernel
theorem dX12_readShip_46 : decode cX12_readShip 46 = .ok (.ireturn, 1) := by decide +kernel
theorem dX12_readShip_47 : decode cX12_readShip 47 = .ok (.aload_n 0, 1) := by decide +kernel
theorem dX12_readShip_48 : decode cX12_readShip 48 = .ok (.ldc 157, 2) := by decide +kernel
theorem dX12_readShip_50 : decode cX12_readShip 50 = .ok (.bipush 99, 2) := by decide +kernel
theorem dX12_readShip_52 : decode cX12_readShip 52 = .ok (.iconst 0, 1) := by decide +kernel
theorem dX12_readShip_53 : decode cX12_readShip 53 = .ok (.invokevirtual 159, 3) := by decide +kernel
theorem dX12_readShip_56 : decode cX12_readShip 56 = .ok (.istore 4, 2) := by decide +kernel
theorem dX12_readShip_58 : decode cX12_readShip 58 = .ok (.iload 4, 2) := by decide +kernel
theorem dX12_readShip_60 : decode cX12_readShip 60 = .ok (.ldc 149, 2) := by decide +kernel
theorem dX12_readShip_62 : decode cX12_readShip 62 = .ok (.if_icmp .ne 5, 3) := by decide +kernel
theorem dX12_readShip_65 : decode cX12_readShip 65 = .ok (.iconst 0, 1) := by decide +kernel
theorem dX12_readShip_66 : decode cX12_readShip 66 = .ok (.ireturn, 1) := by decide +kernel
theorem dX12_readShip_67 : decode cX12_readShip 67 = .ok (.aload_n 0, 1) := by decide +kernel
theorem dX12_readShip_68 : decode cX12_readShip 68 = .ok (.iload_n 2, 1) := by decide +kernel
theorem dX12_readShip_69 : decode cX12_readShip 69 = .ok (.iload_n 3, 1) := by decide +kernel
theorem dX12_readShip_70 : decode cX12_readShip 70 = .ok (.iload 4, 2) := by decide +kernel
theorem dX12_readShip_72 : decode cX12_readShip 72 = .ok (.invokevirtual 162, 3) := by decide +kernel
theorem dX12_readShip_75 : decode cX12_readShip 75 = .ok (.aload_n 0, 1) := by decide +kernel
theorem dX12_readShip_76 : decode cX12_readShip 76 = .ok (.ldc 166, 2) := by decide +kernel
theorem dX12_readShip_78 : decode cX12_readShip 78 = .ok (.invokevirtual 146, 3) := by decide +kernel
theorem dX12_readShip_81 : decode cX12_readShip 81 = .ok (.ifCond .ne 5, 3) := by decide +kernel
theorem dX12_readShip_84 : decode cX12_readShip 84 = .ok (.iconst 1, 1) := by decide +kernel
theorem dX12_readShip_85 : decode cX12_readShip 85 = .ok (.ireturn, 1) := by decide +kernel
theorem dX12_readShip_86 : decode cX12_readShip 86 = .ok (.aload_n 0, 1) := by decide +kernel
theorem dX12_readShip_87 : decode cX12_readShip 87 = .ok (.iconst 0, 1) := by decide +kernel
theorem dX12_readShip_88 : decode cX12_readShip 88 = .ok (.bipush 23, 2) := by decide +kernel
theorem dX12_readShip_90 : decode cX12_readShip 90 = .ok (.invokevirtual 143, 3) := by decide +kernel
theorem dX12_readShip_93 : decode cX12_readShip 93 = .ok (.istore 5, 2) := by decide +kernel
theorem dX12_readShip_95 : decode cX12_readShip 95 = .ok (.iload 5, 2) := by decide +kernel
theorem dX12_readShip_97 : decode cX12_readShip 97 = .ok (.ifCond .lt 16, 3) := by decide +kernel
theorem dX12_readShip_100 : decode cX12_readShip 100 = .ok (.aload_n 0, 1) := by decide +kernel
theorem dX12_readShip_101 : decode cX12_readShip 101 = .ok (.invokevirtual 168, 3) := by decide +kernel
theorem dX12_readShip_104 : decode cX12_readShip 104 = .ok (.iload 5, 2) := by decide +kernel
theorem dX12_readShip_106 : decode cX12_readShip 106 = .ok (.iload_n 2, 1) := by decide +kernel
theorem dX12_readShip_107 : decode cX12_readShip 107 = .ok (.invokestatic 171, 3) := by decide +kernel
theorem dX12_readShip_110 : decode cX12_readShip 110 = .ok (.ifCond .ne 5, 3) := by decide +kernel
theorem dX12_readShip_113 : decode cX12_readShip 113 = .ok (.iconst 0, 1) := by decide +kernel
theorem dX12_readShip_114 : decode cX12_readShip 114 = .ok (.ireturn, 1) := by decide +kernel
theorem dX12_readShip_115 : decode cX12_readShip 115 = .ok (.aload_n 0, 1) := by decide +kernel
theorem dX12_readShip_116 : decode cX12_readShip 116 = .ok (.getfield 13, 3) := by decide +kernel
theorem dX12_readShip_119 : decode cX12_readShip 119 = .ok (.iload_n 1, 1) := by decide +kernel
theorem dX12_readShip_120 : decode cX12_readShip 120 = .ok (.iconst 3, 1) := by decide +kernel
theorem dX12_readShip_121 : decode cX12_readShip 121 = .ok (.invokestatic 81, 3) := by decide +kernel
theorem dX12_readShip_124 : decode cX12_readShip 124 = .ok (.iconst 1, 1) := by decide +kernel
theorem dX12_readShip_125 : decode cX12_readShip 125 = .ok (.iastore, 1) := by decide +kernel
theorem dX12_readShip_126 : decode cX12_readShip 126 = .ok (.aload_n 0, 1) := by decide +kernel
theorem dX12_readShip_127 : decode cX12_readShip 127 = .ok (.getfield 13, 3) := by decide +kernel
theorem dX12_readShip_130 : decode cX12_readShip 130 = .ok (.iload_n 1, 1) := by decide +kernel
theorem dX12_readShip_131 : decode cX12_readShip 131 = .ok (.iconst 4, 1) := by decide +kernel
theorem dX12_readShip_132 : decode cX12_readShip 132 = .ok (.invokestatic 81, 3) := by decide +kernel
theorem dX12_readShip_135 : decode cX12_readShip 135 = .ok (.iload 5, 2) := by decide +kernel
theorem dX12_readShip_137 : decode cX12_readShip 137 = .ok (.iastore, 1) := by decide +kernel
theorem dX12_readShip_138 : decode cX12_readShip 138 = .ok (.iconst 1, 1) := by decide +kernel
theorem dX12_readShip_139 : decode cX12_readShip 139 = .ok (.ireturn, 1) := by decide +kernel
theorem dX12_readTide_0 : decode cX12_readTide 0 = .ok (.iconst 0, 1) := by decide +kernel
theorem dX12_readTide_1 : decode cX12_readTide 1 = .ok (.istore_n 1, 1) := by decide +kernel
theorem dX12_readTide_2 : decode cX12_readTide 2 = .ok (.iconst 1, 1) := by decide +kernel
theorem dX12_readTide_3 : decode cX12_readTide 3 = .ok (.istore_n 2, 1) := by decide +kernel
theorem dX12_readTide_4 : decode cX12_readTide 4 = .ok (.iconst 1, 1) := by decide +kernel
theorem dX12_readTide_5 : decode cX12_readTide 5 = .ok (.istore_n 3, 1) := by decide +kernel
theorem dX12_readTide_6 : decode cX12_readTide 6 = .ok (.iload_n 3, 1) := by decide +kernel
theorem dX12_readTide_7 : decode cX12_readTide 7 = .ok (.ifCond .eq 67, 3) := by decide +kernel
theorem dX12_readTide_10 : decode cX12_readTide 10 = .ok (.aload_n 0, 1) := by decide +kernel
theorem dX12_readTide_11 : decode cX12_readTide 11 = .ok (.iconst 0, 1) := by decide +kernel
theorem dX12_readTide_12 : decode cX12_readTide 12 = .ok (.bipush 30, 2) := by decide +kernel
theorem dX12_readTide_14 : decode cX12_readTide 14 = .ok (.invokevirtual 143, 3) := by decide +kernel
theorem dX12_readTide_17 : decode cX12_readTide 17 = .ok (.istore 4, 2) := by decide +kernel
theorem dX12_readTide_19 : decode cX12_readTide 19 = .ok (.iload 4, 2) := by decide +kernel
theorem dX12_readTide_21 : decode cX12_readTide 21 = .ok (.ifCond .lt 13, 3) := by decide +kernel
theorem dX12_readTide_24 : decode cX12_readTide 24 = .ok (.iload_n 1, 1) := by decide +kernel
theorem dX12_readTide_25 : decode cX12_readTide 25 = .ok (.bipush 12, 2) := by decide +kernel
theorem dX12_readTide_27 : decode cX12_readTide 27 = .ok (.if_icmp .ge 7, 3) := by decide +kernel
theorem dX12_readTide_30 : decode cX12_readTide 30 = .ok (.iconst 1, 1) := by decide +kernel
theorem dX12_readTide_31 : decode cX12_readTide 31 = .ok (.goto 4, 3) := by decide +kernel
theorem dX12_readTide_34 : decode cX12_readTide 34 = .ok (.iconst 0, 1) := by decide +kernel
theorem dX12_readTide_35 : decode cX12_readTide 35 = .ok (.istore_n 2, 1) := by decide +kernel
theorem dX12_readTide_36 : decode cX12_readTide 36 = .ok (.iload_n 2, 1) := by decide +kernel
theorem dX12_readTide_37 : decode cX12_readTide 37 = .ok (.ifCond .eq 14, 3) := by decide +kernel
theorem dX12_readTide_40 : decode cX12_readTide 40 = .ok (.aload_n 0, 1) := by decide +kernel
theorem dX12_readTide_41 : decode cX12_readTide 41 = .ok (.getfield 13, 3) := by decide +kernel
theorem dX12_readTide_44 : decode cX12_readTide 44 = .ok (.bipush 13, 2) := by decide +kernel
theorem dX12_readTide_46 : decode cX12_readTide 46 = .ok (.iload_n 1, 1) := by decide +kernel
theorem dX12_readTide_47 : decode cX12_readTide 47 = .ok (.iadd, 1) := by decide +kernel
theorem dX12_readTide_48 : decode cX12_readTide 48 = .ok (.iload 4, 2) := by decide +kernel
theorem dX12_readTide_50 : decode cX12_readTide 50 = .ok (.iastore, 1) := by decide +kernel
theorem dX12_readTide_51 : decode cX12_readTide 51 = .ok (.iinc 1 1, 3) := by decide +kernel
theorem dX12_readTide_54 : decode cX12_readTide 54 = .ok (.iload_n 2, 1) := by decide +kernel
theorem dX12_readTide_55 : decode cX12_readTide 55 = .ok (.ifCond .eq 14, 3) := by decide +kernel
theorem dX12_readTide_58 : decode cX12_readTide 58 = .ok (.aload_n 0, 1) := by decide +kernel
theorem dX12_readTide_59 : decode cX12_readTide 59 = .ok (.invokevirtual 174, 3) := by decide +kernel
theorem dX12_readTide_62 : decode cX12_readTide 62 = .ok (.ifCond .eq 7, 3) := by decide +kernel
theorem dX12_readTide_65 : decode cX12_readTide 65 = .ok (.iconst 1, 1) := by decide +kernel
theorem dX12_readTide_66 : decode cX12_readTide 66 = .ok (.goto 4, 3) := by decide +kernel
theorem dX12_readTide_69 : decode cX12_readTide 69 = .ok (.iconst 0, 1) := by decide +kernel
theorem dX12_readTide_70 : decode cX12_readTide 70 = .ok (.istore_n 3, 1) := by decide +kernel
theorem dX12_readTide_71 : decode cX12_readTide 71 = .ok (.goto (-65), 3) := by decide +kernel
theorem dX12_readTide_74 : decode cX12_readTide 74 = .ok (.iload_n 2, 1) := by decide +kernel
theorem dX12_readTide_75 : decode cX12_readTide 75 = .ok (.ireturn, 1) := by decide +kernel
theorem dX12_readBlocks_0 : decode cX12_readBlocks 0 = .ok (.iconst 0, 1) := by decide +kernel
theorem dX12_readBlocks_1 : decode cX12_readBlocks 1 = .ok (.istore_n 1, 1) := by decide +kernel
theorem dX12_readBlocks_2 : decode cX12_readBlocks 2 = .ok (.iconst 1, 1) := by decide +kernel
theorem dX12_readBlocks_3 : decode cX12_readBlocks 3 = .ok (.istore_n 2, 1) := by decide +kernel
theorem dX12_readBlocks_4 : decode cX12_readBlocks 4 = .ok (.iconst 1, 1) := by decide +kernel
theorem dX12_readBlocks_5 : decode cX12_readBlocks 5 = .ok (.istore_n 3, 1) := by decide +kernel
theorem dX12_readBlocks_6 : decode cX12_readBlocks 6 = .ok (.iload_n 3, 1) := by decide +kernel
theorem dX12_readBlocks_7 : decode cX12_readBlocks 7 = .ok (.ifCond .eq 70, 3) := by decide +kernel
theorem dX12_readBlocks_10 : decode cX12_readBlocks 10 = .ok (.aload_n 0, 1) := by decide +kernel
theorem dX12_readBlocks_11 : decode cX12_readBlocks 11 = .ok (.iconst 0, 1) := by decide +kernel
theorem dX12_readBlocks_12 : decode cX12_readBlocks 12 = .ok (.bipush 23, 2) := by decide +kernel
theorem dX12_readBlocks_14 : decode cX12_readBlocks 14 = .ok (.invokevirtual 143, 3) := by decide +kernel
theorem dX12_readBlocks_17 : decode cX12_readBlocks 17 = .ok (.istore 4, 2) := by decide +kernel
theorem dX12_readBlocks_19 : decode cX12_readBlocks 19 = .ok (.iload 4, 2) := by decide +kernel
theorem dX12_readBlocks_21 : decode cX12_readBlocks 21 = .ok (.ifCond .lt 13, 3) := by decide +kernel
theorem dX12_readBlocks_24 : decode cX12_readBlocks 24 = .ok (.iload_n 1, 1) := by decide +kernel
theorem dX12_readBlocks_25 : decode cX12_readBlocks 25 = .ok (.bipush 12, 2) := by decide +kernel
theorem dX12_readBlocks_27 : decode cX12_readBlocks 27 = .ok (.if_icmp .ge 7, 3) := by decide +kernel
theorem dX12_readBlocks_30 : decode cX12_readBlocks 30 = .ok (.iconst 1, 1) := by decide +kernel
theorem dX12_readBlocks_31 : decode cX12_readBlocks 31 = .ok (.goto 4, 3) := by decide +kernel
theorem dX12_readBlocks_34 : decode cX12_readBlocks 34 = .ok (.iconst 0, 1) := by decide +kernel
theorem dX12_readBlocks_35 : decode cX12_readBlocks 35 = .ok (.istore_n 2, 1) := by decide +kernel
theorem dX12_readBlocks_36 : decode cX12_readBlocks 36 = .ok (.iload_n 2, 1) := by decide +kernel
theorem dX12_readBlocks_37 : decode cX12_readBlocks 37 = .ok (.ifCond .eq 17, 3) := by decide +kernel
theorem dX12_readBlocks_40 : decode cX12_readBlocks 40 = .ok (.aload_n 0, 1) := by decide +kernel
theorem dX12_readBlocks_41 : decode cX12_readBlocks 41 = .ok (.getfield 13, 3) := by decide +kernel
theorem dX12_readBlocks_44 : decode cX12_readBlocks 44 = .ok (.bipush 10, 2) := by decide +kernel
theorem dX12_readBlocks_46 : decode cX12_readBlocks 46 = .ok (.dup2, 1) := by decide +kernel
theorem dX12_readBlocks_47 : decode cX12_readBlocks 47 = .ok (.iaload, 1) := by decide +kernel
theorem dX12_readBlocks_48 : decode cX12_readBlocks 48 = .ok (.iconst 1, 1) := by decide +kernel
theorem dX12_readBlocks_49 : decode cX12_readBlocks 49 = .ok (.iload 4, 2) := by decide +kernel
theorem dX12_readBlocks_51 : decode cX12_readBlocks 51 = .ok (.ishl, 1) := by decide +kernel
theorem dX12_readBlocks_52 : decode cX12_readBlocks 52 = .ok (.ior, 1) := by decide +kernel
theorem dX12_readBlocks_53 : decode cX12_readBlocks 53 = .ok (.iastore, 1) := by decide +kernel
theorem dX12_readBlocks_54 : decode cX12_readBlocks 54 = .ok (.iinc 1 1, 3) := by decide +kernel
theorem dX12_readBlocks_57 : decode cX12_readBlocks 57 = .ok (.iload_n 2, 1) := by decide +kernel
theorem dX12_readBlocks_58 : decode cX12_readBlocks 58 = .ok (.ifCond .eq 14, 3) := by decide +kernel
theorem dX12_readBlocks_61 : decode cX12_readBlocks 61 = .ok (.aload_n 0, 1) := by decide +kernel
theorem dX12_readBlocks_62 : decode cX12_readBlocks 62 = .ok (.invokevirtual 174, 3) := by decide +kernel
theorem dX12_readBlocks_65 : decode cX12_readBlocks 65 = .ok (.ifCond .eq 7, 3) := by decide +kernel
theorem dX12_readBlocks_68 : decode cX12_readBlocks 68 = .ok (.iconst 1, 1) := by decide +kernel
theorem dX12_readBlocks_69 : decode cX12_readBlocks 69 = .ok (.goto 4, 3) := by decide +kernel
theorem dX12_readBlocks_72 : decode cX12_readBlocks 72 = .ok (.iconst 0, 1) := by decide +kernel
theorem dX12_readBlocks_73 : decode cX12_readBlocks 73 = .ok (.istore_n 3, 1) := by decide +kernel
theorem dX12_readBlocks_74 : decode cX12_readBlocks 74 = .ok (.goto (-68), 3) := by decide +kernel
theorem dX12_readBlocks_77 : decode cX12_readBlocks 77 = .ok (.iload_n 2, 1) := by decide +kernel
theorem dX12_readBlocks_78 : decode cX12_readBlocks 78 = .ok (.ireturn, 1) := by decide +kernel
theorem dX12_readShut_0 : decode cX12_readShut 0 = .ok (.aload_n 0, 1) := by decide +kernel
theorem dX12_readShut_1 : decode cX12_readShut 1 = .ok (.getfield 13, 3) := by decide +kernel
theorem dX12_readShut_4 : decode cX12_readShut 4 = .ok (.iconst 4, 1) := by decide +kernel
theorem dX12_readShut_5 : decode cX12_readShut 5 = .ok (.iconst 0, 1) := by decide +kernel
theorem dX12_readShut_6 : decode cX12_readShut 6 = .ok (.iastore, 1) := by decide +kernel
theorem dX12_readShut_7 : decode cX12_readShut 7 = .ok (.iconst 1, 1) := by decide +kernel
theorem dX12_readShut_8 : decode cX12_readShut 8 = .ok (.ireturn, 1) := by decide +kernel
theorem dX12_readDockLine_0 : decode cX12_readDockLine 0 = .ok (.aload_n 0, 1) := by decide +kernel
theorem dX12_readDockLine_1 : decode cX12_readDockLine 1 = .ok (.ldc 178, 2) := by decide +kernel
theorem dX12_readDockLine_3 : decode cX12_readDockLine 3 = .ok (.invokevirtual 139, 3) := by decide +kernel
theorem dX12_readDockLine_6 : decode cX12_readDockLine 6 = .ok (.ifCond .eq 8, 3) := by decide +kernel
theorem dX12_readDockLine_9 : decode cX12_readDockLine 9 = .ok (.aload_n 0, 1) := by decide +kernel
theorem dX12_readDockLine_10 : decode cX12_readDockLine 10 = .ok (.invokevirtual 180, 3) := by decide +kernel
theorem dX12_readDockLine_13 : decode cX12_readDockLine 13 = .ok (.ireturn, 1) := by decide +kernel
theorem dX12_readDockLine_14 : decode cX12_readDockLine 14 = .ok (.aload_n 0, 1) := by decide +kernel
theorem dX12_readDockLine_15 : decode cX12_readDockLine 15 = .ok (.ldc 183, 2) := by decide +kernel
theorem dX12_readDockLine_17 : decode cX12_readDockLine 17 = .ok (.invokevirtual 139, 3) := by decide +kernel
theorem dX12_readDockLine_20 : decode cX12_readDockLine 20 = .ok (.ifCond .eq 8, 3) := by decide +kernel
theorem dX12_readDockLine_23 : decode cX12_readDockLine 23 = .ok (.aload_n 0, 1) := by decide +kernel
theorem dX12_readDockLine_24 : decode cX12_readDockLine 24 = .ok (.invokevirtual 185, 3) := by decide +kernel
theorem dX12_readDockLine_27 : decode cX12_readDockLine 27 = .ok (.ireturn, 1) := by decide +kernel
theorem dX12_readDockLine_28 : decode cX12_readDockLine 28 = .ok (.aload_n 0, 1) := by decide +kernel
theorem dX12_readDockLine_29 : decode cX12_readDockLine 29 = .ok (.ldc 188, 2) := by decide +kernel
theorem dX12_readDockLine_31 : decode cX12_readDockLine 31 = .ok (.invokevirtual 139, 3) := by decide +kernel
theorem dX12_readDockLine_34 : decode cX12_readDockLine 34 = .ok (.ifCond .eq 8, 3) := by decide +kernel
theorem dX12_readDockLine_37 : decode cX12_readDockLine 37 = .ok (.aload_n 0, 1) := by decide +kernel
theorem dX12_readDockLine_38 : decode cX12_readDockLine 38 = .ok (.invokevirtual 190, 3) := by decide +kernel
theorem dX12_readDockLine_41 : decode cX12_readDockLine 41 = .ok (.ireturn, 1) := by decide +kernel
theorem dX12_readDockLine_42 : decode cX12_readDockLine 42 = .ok (.aload_n 0, 1) := by decide +kernel
theorem dX12_readDockLine_43 : decode cX12_readDockLine 43 = .ok (.ldc 193, 2) := by decide +kernel
theorem dX12_readDockLine_45 : decode cX12_readDockLine 45 = .ok (.invokevirtual 139, 3) := by decide +kernel
theorem dX12_readDockLine_48 : decode cX12_readDockLine 48 = .ok (.ifCond .eq 12, 3) := by decide +kernel
theorem dX12_readDockLine_51 : decode cX12_readDockLine 51 = .ok (.aload_n 0, 1) := by decide +kernel
theorem dX12_readDockLine_52 : decode cX12_readDockLine 52 = .ok (.iconst 3, 1) := by decide +kernel
theorem dX12_readDockLine_53 : decode cX12_readDockLine 53 = .ok (.iconst 0, 1) := by decide +kernel
theorem dX12_readDockLine_54 : decode cX12_readDockLine 54 = .ok (.bipush 40, 2) := by decide +kernel
theorem dX12_readDockLine_56 : decode cX12_readDockLine 56 = .ok (.invokevirtual 195, 3) := by decide +kernel
theorem dX12_readDockLine_59 : decode cX12_readDockLine 59 = .ok (.ireturn, 1) := by decide +kernel
theorem dX12_readDockLine_60 : decode cX12_readDockLine 60 = .ok (.aload_n 0, 1) := by decide +kernel
theorem dX12_readDockLine_61 : decode cX12_readDockLine 61 = .ok (.ldc 198, 2) := by decide +kernel
theorem dX12_readDockLine_63 : decode cX12_readDockLine 63 = .ok (.invokevirtual 139, 3) := by decide +kernel
theorem dX12_readDockLine_66 : decode cX12_readDockLine 66 = .ok (.ifCond .eq 8, 3) := by decide +kernel
theorem dX12_readDockLine_69 : decode cX12_readDockLine 69 = .ok (.aload_n 0, 1) := by decide +kernel
theorem dX12_readDockLine_70 : decode cX12_readDockLine 70 = .ok (.invokevirtual 200, 3) := by decide +kernel
theorem dX12_readDockLine_73 : decode cX12_readDockLine 73 = .ok (.ireturn, 1) := by decide +kernel
theorem dX12_readDockLine_74 : decode cX12_readDockLine 74 = .ok (.aload_n 0, 1) := by decide +kernel
theorem dX12_readDockLine_75 : decode cX12_readDockLine 75 = .ok (.ldc 203, 2) := by decide +kernel
theorem dX12_readDockLine_77 : decode cX12_readDockLine 77 = .ok (.invokevirtual 139, 3) := by decide +kernel
theorem dX12_readDockLine_80 : decode cX12_readDockLine 80 = .ok (.ifCond .eq 12, 3) := by decide +kernel
theorem dX12_readDockLine_83 : decode cX12_readDockLine 83 = .ok (.aload_n 0, 1) := by decide +kernel
theorem dX12_readDockLine_84 : decode cX12_readDockLine 84 = .ok (.iconst 5, 1) := by decide +kernel
theorem dX12_readDockLine_85 : decode cX12_readDockLine 85 = .ok (.iconst 0, 1) := by decide +kernel
theorem dX12_readDockLine_86 : decode cX12_readDockLine 86 = .ok (.bipush 9, 2) := by decide +kernel
theorem dX12_readDockLine_88 : decode cX12_readDockLine 88 = .ok (.invokevirtual 195, 3) := by decide +kernel
theorem dX12_readDockLine_91 : decode cX12_readDockLine 91 = .ok (.ireturn, 1) := by decide +kernel
theorem dX12_readDockLine_92 : decode cX12_readDockLine 92 = .ok (.aload_n 0, 1) := by decide +kernel
theorem dX12_readDockLine_93 : decode cX12_readDockLine 93 = .ok (.ldc 205, 2) := by decide +kernel
theorem dX12_readDockLine_95 : decode cX12_readDockLine 95 = .ok (.invokevirtual 139, 3) := by decide +kernel
theorem dX12_readDockLine_98 : decode cX12_readDockLine 98 = .ok (.ifCond .eq 13, 3) := by decide +kernel
theorem dX12_readDockLine_101 : decode cX12_readDockLine 101 = .ok (.aload_n 0, 1) := by decide +kernel
theorem dX12_readDockLine_102 : decode cX12_readDockLine 102 = .ok (.bipush 6, 2) := by decide +kernel
theorem dX12_readDockLine_104 : decode cX12_readDockLine 104 = .ok (.iconst 0, 1) := by decide +kernel
theorem dX12_readDockLine_105 : decode cX12_readDockLine 105 = .ok (.bipush 9, 2) := by decide +kernel
theorem dX12_readDockLine_107 : decode cX12_readDockLine 107 = .ok (.invokevirtual 195, 3) := by decide +kernel
theorem dX12_readDockLine_110 : decode cX12_readDockLine 110 = .ok (.ireturn, 1) := by decide +kernel
theorem dX12_readDockLine_111 : decode cX12_readDockLine 111 = .ok (.aload_n 0, 1) := by decide +kernel
theorem dX12_readDockLine_112 : decode cX12_readDockLine 112 = .ok (.ldc 207, 2) := by decide +kernel
theorem dX12_readDockLine_114 : decode cX12_readDockLine 114 = .ok (.invokevirtual 139, 3) := by decide +kernel
theorem dX12_readDockLine_117 : decode cX12_readDockLine 117 = .ok (.ifCond .eq 12, 3) := by decide +kernel
theorem dX12_readDockLine_120 : decode cX12_readDockLine 120 = .ok (.aload_n 0, 1) := by decide +kernel
theorem dX12_readDockLine_121 : decode cX12_readDockLine 121 = .ok (.bipush 7, 2) := by decide +kernel
theorem dX12_readDockLine_123 : decode cX12_readDockLine 123 = .ok (.iconst 0, 1) := by decide +kernel
theorem dX12_readDockLine_124 : decode cX12_readDockLine 124 = .ok (.iconst 5, 1) := by decide +kernel
theorem dX12_readDockLine_125 : decode cX12_readDockLine 125 = .ok (.invokevirtual 195, 3) := by decide +kernel
theorem dX12_readDockLine_128 : decode cX12_readDockLine 128 = .ok (.ireturn, 1) := by decide +kernel
theorem dX12_readDockLine_129 : decode cX12_readDockLine 129 = .ok (.aload_n 0, 1) := by decide +kernel
theorem dX12_readDockLine_130 : decode cX12_readDockLine 130 = .ok (.ldc 209, 2) := by decide +kernel
theorem dX12_readDockLine_132 : decode cX12_readDockLine 132 = .ok (.invokevirtual 139, 3) := by decide +kernel
theorem dX12_readDockLine_135 : decode cX12_readDockLine 135 = .ok (.ifCond .eq 20, 3) := by decide +kernel
theorem dX12_readDockLine_138 : decode cX12_readDockLine 138 = .ok (.aload_n 0, 1) := by decide +kernel
theorem dX12_readDockLine_139 : decode cX12_readDockLine 139 = .ok (.bipush 9, 2) := by decide +kernel
theorem dX12_readDockLine_141 : decode cX12_readDockLine 141 = .ok (.iconst 0, 1) := by decide +kernel
theorem dX12_readDockLine_142 : decode cX12_readDockLine 142 = .ok (.sipush 999, 3) := by decide +kernel
theorem dX12_readDockLine_145 : decode cX12_readDockLine 145 = .ok (.invokevirtual 195, 3) := by decide +kernel
theorem dX12_readDockLine_148 : decode cX12_readDockLine 148 = .ok (.ifCond .eq 7, 3) := by decide +kernel
theorem dX12_readDockLine_151 : decode cX12_readDockLine 151 = .ok (.iconst 1, 1) := by decide +kernel
theorem dX12_readDockLine_152 : decode cX12_readDockLine 152 = .ok (.goto 4, 3) := by decide +kernel
theorem dX12_readDockLine_155 : decode cX12_readDockLine 155 = .ok (.iconst 0, 1) := by decide +kernel
theorem dX12_readDockLine_156 : decode cX12_readDockLine 156 = .ok (.ireturn, 1) := by decide +kernel
theorem dX12_emits_0 : decode cX12_emits 0 = .ok (.aload_n 0, 1) := by decide +kernel
theorem dX12_emits_1 : decode cX12_emits 1 = .ok (.getfield 13, 3) := by decide +kernel
theorem dX12_emits_4 : decode cX12_emits 4 = .ok (.sipush 1271, 3) := by decide +kernel
theorem dX12_emits_7 : decode cX12_emits 7 = .ok (.iconst 2, 1) := by decide +kernel
theorem dX12_emits_8 : decode cX12_emits 8 = .ok (.aload_n 0, 1) := by decide +kernel
theorem dX12_emits_9 : decode cX12_emits 9 = .ok (.getfield 211, 3) := by decide +kernel
theorem dX12_emits_12 : decode cX12_emits 12 = .ok (.imul, 1) := by decide +kernel
theorem dX12_emits_13 : decode cX12_emits 13 = .ok (.iadd, 1) := by decide +kernel
theorem dX12_emits_14 : decode cX12_emits 14 = .ok (.iload_n 1, 1) := by decide +kernel
theorem dX12_emits_15 : decode cX12_emits 15 = .ok (.iastore, 1) := by decide +kernel
theorem dX12_emits_16 : decode cX12_emits 16 = .ok (.aload_n 0, 1) := by decide +kernel
theorem dX12_emits_17 : decode cX12_emits 17 = .ok (.getfield 13, 3) := by decide +kernel
theorem dX12_emits_20 : decode cX12_emits 20 = .ok (.sipush 1271, 3) := by decide +kernel
theorem dX12_emits_23 : decode cX12_emits 23 = .ok (.iconst 2, 1) := by decide +kernel
theorem dX12_emits_24 : decode cX12_emits 24 = .ok (.aload_n 0, 1) := by decide +kernel
theorem dX12_emits_25 : decode cX12_emits 25 = .ok (.getfield 211, 3) := by decide +kernel
theorem dX12_emits_28 : decode cX12_emits 28 = .ok (.imul, 1) := by decide +kernel
theorem dX12_emits_29 : decode cX12_emits 29 = .ok (.iadd, 1) := by decide +kernel
theorem dX12_emits_30 : decode cX12_emits 30 = .ok (.iconst 1, 1) := by decide +kernel
theorem dX12_emits_31 : decode cX12_emits 31 = .ok (.iadd, 1) := by decide +kernel
theorem dX12_emits_32 : decode cX12_emits 32 = .ok (.iload_n 2, 1) := by decide +kernel
theorem dX12_emits_33 : decode cX12_emits 33 = .ok (.iastore, 1) := by decide +kernel
theorem dX12_emits_34 : decode cX12_emits 34 = .ok (.aload_n 0, 1) := by decide +kernel
theorem dX12_emits_35 : decode cX12_emits 35 = .ok (.dup, 1) := by decide +kernel
theorem dX12_emits_36 : decode cX12_emits 36 = .ok (.getfield 211, 3) := by decide +kernel
theorem dX12_emits_39 : decode cX12_emits 39 = .ok (.iconst 1, 1) := by decide +kernel
theorem dX12_emits_40 : decode cX12_emits 40 = .ok (.iadd, 1) := by decide +kernel
theorem dX12_emits_41 : decode cX12_emits 41 = .ok (.putfield 211, 3) := by decide +kernel
theorem dX12_emits_44 : decode cX12_emits 44 = .ok (.return_, 1) := by decide +kernel
theorem dX12_wordOfPart_0 : decode cX12_wordOfPart 0 = .ok (.aload_n 0, 1) := by decide +kernel
theorem dX12_wordOfPart_1 : decode cX12_wordOfPart 1 = .ok (.ldc 178, 2) := by decide +kernel
theorem dX12_wordOfPart_3 : decode cX12_wordOfPart 3 = .ok (.invokevirtual 139, 3) := by decide +kernel
theorem dX12_wordOfPart_6 : decode cX12_wordOfPart 6 = .ok (.ifCond .eq 5, 3) := by decide +kernel
theorem dX12_wordOfPart_9 : decode cX12_wordOfPart 9 = .ok (.iconst 0, 1) := by decide +kernel
theorem dX12_wordOfPart_10 : decode cX12_wordOfPart 10 = .ok (.ireturn, 1) := by decide +kernel
theorem dX12_wordOfPart_11 : decode cX12_wordOfPart 11 = .ok (.aload_n 0, 1) := by decide +kernel
theorem dX12_wordOfPart_12 : decode cX12_wordOfPart 12 = .ok (.ldc 150, 2) := by decide +kernel
theorem dX12_wordOfPart_14 : decode cX12_wordOfPart 14 = .ok (.invokevirtual 139, 3) := by decide +kernel
theorem dX12_wordOfPart_17 : decode cX12_wordOfPart 17 = .ok (.ifCond .eq 5, 3) := by decide +kernel
theorem dX12_wordOfPart_20 : decode cX12_wordOfPart 20 = .ok (.iconst 1, 1) := by decide +kernel
theorem dX12_wordOfPart_21 : decode cX12_wordOfPart 21 = .ok (.ireturn, 1) := by decide +kernel
theorem dX12_wordOfPart_22 : decode cX12_wordOfPart 22 = .ok (.aload_n 0, 1) := by decide +kernel
theorem dX12_wordOfPart_23 : decode cX12_wordOfPart 23 = .ok (.ldc 155, 2) := by decide +kernel
theorem dX12_wordOfPart_25 : decode cX12_wordOfPart 25 = .ok (.invokevirtual 139, 3) := by decide +kernel
theorem dX12_wordOfPart_28 : decode cX12_wordOfPart 28 = .ok (.ifCond .eq 5, 3) := by decide +kernel
theorem dX12_wordOfPart_31 : decode cX12_wordOfPart 31 = .ok (.iconst 2, 1) := by decide +kernel
theorem dX12_wordOfPart_32 : decode cX12_wordOfPart 32 = .ok (.ireturn, 1) := by decide +kernel
theorem dX12_wordOfPart_33 : decode cX12_wordOfPart 33 = .ok (.aload_n 0, 1) := by decide +kernel
theorem dX12_wordOfPart_34 : decode cX12_wordOfPart 34 = .ok (.ldc 157, 2) := by decide +kernel
theorem dX12_wordOfPart_36 : decode cX12_wordOfPart 36 = .ok (.invokevirtual 139, 3) := by decide +kernel
theorem dX12_wordOfPart_39 : decode cX12_wordOfPart 39 = .ok (.ifCond .eq 5, 3) := by decide +kernel
theorem dX12_wordOfPart_42 : decode cX12_wordOfPart 42 = .ok (.iconst 3, 1) := by decide +kernel
theorem dX12_wordOfPart_43 : decode cX12_wordOfPart 43 = .ok (.ireturn, 1) := by decide +kernel
theorem dX12_wordOfPart_44 : decode cX12_wordOfPart 44 = .ok (.aload_n 0, 1) := by decide +kernel
theorem dX12_wordOfPart_45 : decode cX12_wordOfPart 45 = .ok (.ldc 193, 2) := by decide +kernel
theorem dX12_wordOfPart_47 : decode cX12_wordOfPart 47 = .ok (.invokevirtual 139, 3) := by decide +kernel
theorem dX12_wordOfPart_50 : decode cX12_wordOfPart 50 = .ok (.ifCond .eq 5, 3) := by decide +kernel
theorem dX12_wordOfPart_53 : decode cX12_wordOfPart 53 = .ok (.iconst 4, 1) := by decide +kernel
theorem dX12_wordOfPart_54 : decode cX12_wordOfPart 54 = .ok (.ireturn, 1) := by decide +kernel
theorem dX12_wordOfPart_55 : decode cX12_wordOfPart 55 = .ok (.aload_n 0, 1) := by decide +kernel
theorem dX12_wordOfPart_56 : decode cX12_wordOfPart 56 = .ok (.ldc 183, 2) := by decide +kernel
theorem dX12_wordOfPart_58 : decode cX12_wordOfPart 58 = .ok (.invokevirtual 139, 3) := by decide +kernel
theorem dX12_wordOfPart_61 : decode cX12_wordOfPart 61 = .ok (.ifCond .eq 5, 3) := by decide +kernel
theorem dX12_wordOfPart_64 : decode cX12_wordOfPart 64 = .ok (.iconst 5, 1) := by decide +kernel
theorem dX12_wordOfPart_65 : decode cX12_wordOfPart 65 = .ok (.ireturn, 1) := by decide +kernel
theorem dX12_wordOfPart_66 : decode cX12_wordOfPart 66 = .ok (.aload_n 0, 1) := by decide +kernel
theorem dX12_wordOfPart_67 : decode cX12_wordOfPart 67 = .ok (.ldc 209, 2) := by decide +kernel
theorem dX12_wordOfPart_69 : decode cX12_wordOfPart 69 = .ok (.invokevirtual 139, 3) := by decide +kernel
theorem dX12_wordOfPart_72 : decode cX12_wordOfPart 72 = .ok (.ifCond .eq 8, 3) := by decide +kernel
theorem dX12_wordOfPart_75 : decode cX12_wordOfPart 75 = .ok (.bipush 6, 2) := by decide +kernel
theorem dX12_wordOfPart_77 : decode cX12_wordOfPart 77 = .ok (.goto 4, 3) := by decide +kernel
theorem dX12_wordOfPart_80 : decode cX12_wordOfPart 80 = .ok (.iconst (-1), 1) := by decide +kernel
theorem dX12_wordOfPart_81 : decode cX12_wordOfPart 81 = .ok (.ireturn, 1) := by decide +kernel
theorem dX12_readPart_0 : decode cX12_readPart 0 = .ok (.aload_n 0, 1) := by decide +kernel
theorem dX12_readPart_1 : decode cX12_readPart 1 = .ok (.invokevirtual 136, 3) := by decide +kernel
theorem dX12_readPart_4 : decode cX12_readPart 4 = .ok (.aload_n 0, 1) := by decide +kernel
theorem dX12_readPart_5 : decode cX12_readPart 5 = .ok (.getfield 111, 3) := by decide +kernel
theorem dX12_readPart_8 : decode cX12_readPart 8 = .ok (.aload_n 0, 1) := by decide +kernel
theorem dX12_readPart_9 : decode cX12_readPart 9 = .ok (.getfield 121, 3) := by decide +kernel
theorem dX12_readPart_12 : decode cX12_readPart 12 = .ok (.if_icmp .ne 7, 3) := by decide +kernel
theorem dX12_readPart_15 : decode cX12_readPart 15 = .ok (.iconst 1, 1) := by decide +kernel
theorem dX12_readPart_16 : decode cX12_readPart 16 = .ok (.goto 4, 3) := by decide +kernel
theorem dX12_readPart_19 : decode cX12_readPart 19 = .ok (.iconst 0, 1) := by decide +kernel
theorem dX12_readPart_20 : decode cX12_readPart 20 = .ok (.istore_n 1, 1) := by decide +kernel
theorem dX12_readPart_21 : decode cX12_readPart 21 = .ok (.iload_n 1, 1) := by decide +kernel
theorem dX12_readPart_22 : decode cX12_readPart 22 = .ok (.ifCond .eq 14, 3) := by decide +kernel
theorem dX12_readPart_25 : decode cX12_readPart 25 = .ok (.aload_n 0, 1) := by decide +kernel
theorem dX12_readPart_26 : decode cX12_readPart 26 = .ok (.iconst 0, 1) := by decide +kernel
theorem dX12_readPart_27 : decode cX12_readPart 27 = .ok (.sipush 999, 3) := by decide +kernel
theorem dX12_readPart_30 : decode cX12_readPart 30 = .ok (.invokevirtual 143, 3) := by decide +kernel
theorem dX12_readPart_33 : decode cX12_readPart 33 = .ok (.goto 7, 3) := by decide +kernel
theorem dX12_readPart_36 : decode cX12_readPart 36 = .ok (.aload_n 0, 1) := by decide +kernel
theorem dX12_readPart_37 : decode cX12_readPart 37 = .ok (.invokevirtual 214, 3) := by decide +kernel
theorem dX12_readPart_40 : decode cX12_readPart 40 = .ok (.istore_n 2, 1) := by decide +kernel
theorem dX12_readPart_41 : decode cX12_readPart 41 = .ok (.aload_n 0, 1) := by decide +kernel
theorem dX12_readPart_42 : decode cX12_readPart 42 = .ok (.iload_n 1, 1) := by decide +kernel
theorem dX12_readPart_43 : decode cX12_readPart 43 = .ok (.ifCond .eq 8, 3) := by decide +kernel
theorem dX12_readPart_46 : decode cX12_readPart 46 = .ok (.bipush 10, 2) := by decide +kernel
theorem dX12_readPart_48 : decode cX12_readPart 48 = .ok (.goto 4, 3) := by decide +kernel
theorem dX12_readPart_51 : decode cX12_readPart 51 = .ok (.iload_n 2, 1) := by decide +kernel
theorem dX12_readPart_52 : decode cX12_readPart 52 = .ok (.iload_n 1, 1) := by decide +kernel
theorem dX12_readPart_53 : decode cX12_readPart 53 = .ok (.ifCond .eq 7, 3) := by decide +kernel
theorem dX12_readPart_56 : decode cX12_readPart 56 = .ok (.iload_n 2, 1) := by decide +kernel
theorem dX12_readPart_57 : decode cX12_readPart 57 = .ok (.goto 4, 3) := by decide +kernel
theorem dX12_readPart_60 : decode cX12_readPart 60 = .ok (.iconst 0, 1) := by decide +kernel
theorem dX12_readPart_61 : decode cX12_readPart 61 = .ok (.invokevirtual 217, 3) := by decide +kernel
theorem dX12_readPart_64 : decode cX12_readPart 64 = .ok (.iload_n 2, 1) := by decide +kernel
theorem dX12_readPart_65 : decode cX12_readPart 65 = .ok (.ifCond .lt 7, 3) := by decide +kernel
theorem dX12_readPart_68 : decode cX12_readPart 68 = .ok (.iconst 1, 1) := by decide +kernel
theorem dX12_readPart_69 : decode cX12_readPart 69 = .ok (.goto 4, 3) := by decide +kernel
theorem dX12_readPart_72 : decode cX12_readPart 72 = .ok (.iconst 0, 1) := by decide +kernel
theorem dX12_readPart_73 : decode cX12_readPart 73 = .ok (.ireturn, 1) := by decide +kernel
theorem dX12_readSum_0 : decode cX12_readSum 0 = .ok (.aload_n 0, 1) := by decide +kernel
theorem dX12_readSum_1 : decode cX12_readSum 1 = .ok (.invokevirtual 221, 3) := by decide +kernel
theorem dX12_readSum_4 : decode cX12_readSum 4 = .ok (.ifCond .ne 5, 3) := by decide +kernel
theorem dX12_readSum_7 : decode cX12_readSum 7 = .ok (.iconst 0, 1) := by decide +kernel
theorem dX12_readSum_8 : decode cX12_readSum 8 = .ok (.ireturn, 1) := by decide +kernel
theorem dX12_readSum_9 : decode cX12_readSum 9 = .ok (.aload_n 0, 1) := by decide +kernel
theorem dX12_readSum_10 : decode cX12_readSum 10 = .ok (.bipush 43, 2) := by decide +kernel
theorem dX12_readSum_12 : decode cX12_readSum 12 = .ok (.invokevirtual 224, 3) := by decide +kernel
theorem dX12_readSum_15 : decode cX12_readSum 15 = .ok (.ifCond .eq 22, 3) := by decide +kernel
theorem dX12_readSum_18 : decode cX12_readSum 18 = .ok (.aload_n 0, 1) := by decide +kernel
theorem dX12_readSum_19 : decode cX12_readSum 19 = .ok (.invokevirtual 221, 3) := by decide +kernel
theorem dX12_readSum_22 : decode cX12_readSum 22 = .ok (.ifCond .ne 5, 3) := by decide +kernel
theorem dX12_readSum_25 : decode cX12_readSum 25 = .ok (.iconst 0, 1) := by decide +kernel
theorem dX12_readSum_26 : decode cX12_readSum 26 = .ok (.ireturn, 1) := by decide +kernel
theorem dX12_readSum_27 : decode cX12_readSum 27 = .ok (.aload_n 0, 1) := by decide +kernel
theorem dX12_readSum_28 : decode cX12_readSum 28 = .ok (.bipush 11, 2) := by decide +kernel
theorem dX12_readSum_30 : decode cX12_readSum 30 = .ok (.iconst 0, 1) := by decide +kernel
theorem dX12_readSum_31 : decode cX12_readSum 31 = .ok (.invokevirtual 217, 3) := by decide +kernel
theorem dX12_readSum_34 : decode cX12_readSum 34 = .ok (.goto (-25), 3) := by decide +kernel
theorem dX12_readSum_37 : decode cX12_readSum 37 = .ok (.iconst 1, 1) := by decide +kernel
theorem dX12_readSum_38 : decode cX12_readSum 38 = .ok (.ireturn, 1) := by decide +kernel
theorem dX12_readTag_0 : decode cX12_readTag 0 = .ok (.aload_n 0, 1) := by decide +kernel
theorem dX12_readTag_1 : decode cX12_readTag 1 = .ok (.invokevirtual 136, 3) := by decide +kernel
theorem dX12_readTag_4 : decode cX12_readTag 4 = .ok (.aload_n 0, 1) := by decide +kernel
theorem dX12_readTag_5 : decode cX12_readTag 5 = .ok (.ldc 227, 2) := by decide +kernel
theorem dX12_readTag_7 : decode cX12_readTag 7 = .ok (.invokevirtual 139, 3) := by decide +kernel
theorem dX12_readTag_10 : decode cX12_readTag 10 = .ok (.ifCond .eq 8, 3) := by decide +kernel
theorem dX12_readTag_13 : decode cX12_readTag 13 = .ok (.bipush 7, 2) := by decide +kernel
theorem dX12_readTag_15 : decode cX12_readTag 15 = .ok (.goto 32, 3) := by decide +kernel
theorem dX12_readTag_18 : decode cX12_readTag 18 = .ok (.aload_n 0, 1) := by decide +kernel
theorem dX12_readTag_19 : decode cX12_readTag 19 = .ok (.ldc 229, 2) := by decide +kernel
theorem dX12_readTag_21 : decode cX12_readTag 21 = .ok (.invokevirtual 139, 3) := by decide +kernel
theorem dX12_readTag_24 : decode cX12_readTag 24 = .ok (.ifCond .eq 8, 3) := by decide +kernel
theorem dX12_readTag_27 : decode cX12_readTag 27 = .ok (.bipush 8, 2) := by decide +kernel
theorem dX12_readTag_29 : decode cX12_readTag 29 = .ok (.goto 18, 3) := by decide +kernel
theorem dX12_readTag_32 : decode cX12_readTag 32 = .ok (.aload_n 0, 1) := by decide +kernel
theorem dX12_readTag_33 : decode cX12_readTag 33 = .ok (.ldc 231, 2) := by decide +kernel
theorem dX12_readTag_35 : decode cX12_readTag 35 = .ok (.invokevirtual 139, 3) := by decide +kernel
theorem dX12_readTag_38 : decode cX12_readTag 38 = .ok (.ifCond .eq 8, 3) := by decide +kernel
theorem dX12_readTag_41 : decode cX12_readTag 41 = .ok (.bipush 9, 2) := by decide +kernel
theorem dX12_readTag_43 : decode cX12_readTag 43 = .ok (.goto 4, 3) := by decide +kernel
theorem dX12_readTag_46 : decode cX12_readTag 46 = .ok (.iconst (-1), 1) := by decide +kernel
theorem dX12_readTag_47 : decode cX12_readTag 47 = .ok (.istore_n 1, 1) := by decide +kernel
theorem dX12_readTag_48 : decode cX12_readTag 48 = .ok (.iload_n 1, 1) := by decide +kernel
theorem dX12_readTag_49 : decode cX12_readTag 49 = .ok (.ifCond .lt 12, 3) := by decide +kernel
theorem dX12_readTag_52 : decode cX12_readTag 52 = .ok (.aload_n 0, 1) := by decide +kernel
theorem dX12_readTag_53 : decode cX12_readTag 53 = .ok (.iload_n 1, 1) := by decide +kernel
theorem dX12_readTag_54 : decode cX12_readTag 54 = .ok (.iconst 0, 1) := by decide +kernel
theorem dX12_readTag_55 : decode cX12_readTag 55 = .ok (.invokevirtual 217, 3) := by decide +kernel
theorem dX12_readTag_58 : decode cX12_readTag 58 = .ok (.goto 11, 3) := by decide +kernel
theorem dX12_readTag_61 : decode cX12_readTag 61 = .ok (.aload_n 0, 1) := by decide +kernel
theorem dX12_readTag_62 : decode cX12_readTag 62 = .ok (.aload_n 0, 1) := by decide +kernel
theorem dX12_readTag_63 : decode cX12_readTag 63 = .ok (.getfield 121, 3) := by decide +kernel
theorem dX12_readTag_66 : decode cX12_readTag 66 = .ok (.putfield 111, 3) := by decide +kernel
theorem dX12_readTag_69 : decode cX12_readTag 69 = .ok (.iload_n 1, 1) := by decide +kernel
theorem dX12_readTag_70 : decode cX12_readTag 70 = .ok (.ifCond .lt 7, 3) := by decide +kernel
theorem dX12_readTag_73 : decode cX12_readTag 73 = .ok (.iconst 1, 1) := by decide +kernel
theorem dX12_readTag_74 : decode cX12_readTag 74 = .ok (.goto 4, 3) := by decide +kernel
theorem dX12_readTag_77 : decode cX12_readTag 77 = .ok (.iconst 0, 1) := by decide +kernel
theorem dX12_readTag_78 : decode cX12_readTag 78 = .ok (.ireturn, 1) := by decide +kernel
theorem dX12_readAtom_0 : decode cX12_readAtom 0 = .ok (.aload_n 0, 1) := by decide +kernel
theorem dX12_readAtom_1 : decode cX12_readAtom 1 = .ok (.bipush 40, 2) := by decide +kernel
theorem dX12_readAtom_3 : decode cX12_readAtom 3 = .ok (.invokevirtual 224, 3) := by decide +kernel
theorem dX12_readAtom_6 : decode cX12_readAtom 6 = .ok (.ifCond .eq 50, 3) := by decide +kernel
theorem dX12_readAtom_9 : decode cX12_readAtom 9 = .ok (.aload_n 0, 1) := by decide +kernel
theorem dX12_readAtom_10 : decode cX12_readAtom 10 = .ok (.getfield 233, 3) := by decide +kernel
theorem dX12_readAtom_13 : decode cX12_readAtom 13 = .ok (.bipush 6, 2) := by decide +kernel
theorem dX12_readAtom_15 : decode cX12_readAtom 15 = .ok (.if_icmp .ne 5, 3) := by decide +kernel
theorem dX12_readAtom_18 : decode cX12_readAtom 18 = .ok (.iconst 0, 1) := by decide +kernel
theorem dX12_readAtom_19 : decode cX12_readAtom 19 = .ok (.ireturn, 1) := by decide +kernel
theorem dX12_readAtom_20 : decode cX12_readAtom 20 = .ok (.aload_n 0, 1) := by decide +kernel
theorem dX12_readAtom_21 : decode cX12_readAtom 21 = .ok (.dup, 1) := by decide +kernel
theorem dX12_readAtom_22 : decode cX12_readAtom 22 = .ok (.getfield 233, 3) := by decide +kernel
theorem dX12_readAtom_25 : decode cX12_readAtom 25 = .ok (.iconst 1, 1) := by decide +kernel
theorem dX12_readAtom_26 : decode cX12_readAtom 26 = .ok (.iadd, 1) := by decide +kernel
theorem dX12_readAtom_27 : decode cX12_readAtom 27 = .ok (.putfield 233, 3) := by decide +kernel
theorem dX12_readAtom_30 : decode cX12_readAtom 30 = .ok (.aload_n 0, 1) := by decide +kernel
theorem dX12_readAtom_31 : decode cX12_readAtom 31 = .ok (.invokevirtual 236, 3) := by decide +kernel
theorem dX12_readAtom_34 : decode cX12_readAtom 34 = .ok (.ifCond .ne 5, 3) := by decide +kernel
theorem dX12_readAtom_37 : decode cX12_readAtom 37 = .ok (.iconst 0, 1) := by decide +kernel
theorem dX12_readAtom_38 : decode cX12_readAtom 38 = .ok (.ireturn, 1) := by decide +kernel
theorem dX12_readAtom_39 : decode cX12_readAtom 39 = .ok (.aload_n 0, 1) := by decide +kernel
theorem dX12_readAtom_40 : decode cX12_readAtom 40 = .ok (.dup, 1) := by decide +kernel
theorem dX12_readAtom_41 : decode cX12_readAtom 41 = .ok (.getfield 233, 3) := by decide +kernel
theorem dX12_readAtom_44 : decode cX12_readAtom 44 = .ok (.iconst 1, 1) := by decide +kernel
theorem dX12_readAtom_45 : decode cX12_readAtom 45 = .ok (.isub, 1) := by decide +kernel
theorem dX12_readAtom_46 : decode cX12_readAtom 46 = .ok (.putfield 233, 3) := by decide +kernel
theorem dX12_readAtom_49 : decode cX12_readAtom 49 = .ok (.aload_n 0, 1) := by decide +kernel
theorem dX12_readAtom_50 : decode cX12_readAtom 50 = .ok (.bipush 41, 2) := by decide +kernel
theorem dX12_readAtom_52 : decode cX12_readAtom 52 = .ok (.invokevirtual 224, 3) := by decide +kernel
theorem dX12_readAtom_55 : decode cX12_readAtom 55 = .ok (.ireturn, 1) := by decide +kernel
theorem dX12_readAtom_56 : decode cX12_readAtom 56 = .ok (.aload_n 0, 1) := by decide +kernel
theorem dX12_readAtom_57 : decode cX12_readAtom 57 = .ok (.ldc 239, 2) := by decide +kernel
theorem dX12_readAtom_59 : decode cX12_readAtom 59 = .ok (.invokevirtual 146, 3) := by decide +kernel
theorem dX12_readAtom_62 : decode cX12_readAtom 62 = .ok (.ifCond .eq 52, 3) := by decide +kernel
theorem dX12_readAtom_65 : decode cX12_readAtom 65 = .ok (.aload_n 0, 1) := by decide +kernel
theorem dX12_readAtom_66 : decode cX12_readAtom 66 = .ok (.getfield 233, 3) := by decide +kernel
theorem dX12_readAtom_69 : decode cX12_readAtom 69 = .ok (.bipush 6, 2) := by decide +kernel
theorem dX12_readAtom_71 : decode cX12_readAtom 71 = .ok (.if_icmp .ne 5, 3) := by decide +kernel
theorem dX12_readAtom_74 : decode cX12_readAtom 74 = .ok (.iconst 0, 1) := by decide +kernel
theorem dX12_readAtom_75 : decode cX12_readAtom 75 = .ok (.ireturn, 1) := by decide +kernel
theorem dX12_readAtom_76 : decode cX12_readAtom 76 = .ok (.aload_n 0, 1) := by decide +kernel
theorem dX12_readAtom_77 : decode cX12_readAtom 77 = .ok (.dup, 1) := by decide +kernel
theorem dX12_readAtom_78 : decode cX12_readAtom 78 = .ok (.getfield 233, 3) := by decide +kernel
theorem dX12_readAtom_81 : decode cX12_readAtom 81 = .ok (.iconst 1, 1) := by decide +kernel
theorem dX12_readAtom_82 : decode cX12_readAtom 82 = .ok (.iadd, 1) := by decide +kernel
theorem dX12_readAtom_83 : decode cX12_readAtom 83 = .ok (.putfield 233, 3) := by decide +kernel
theorem dX12_readAtom_86 : decode cX12_readAtom 86 = .ok (.aload_n 0, 1) := by decide +kernel
theorem dX12_readAtom_87 : decode cX12_readAtom 87 = .ok (.invokevirtual 241, 3) := by decide +kernel
theorem dX12_readAtom_90 : decode cX12_readAtom 90 = .ok (.ifCond .ne 5, 3) := by decide +kernel
theorem dX12_readAtom_93 : decode cX12_readAtom 93 = .ok (.iconst 0, 1) := by decide +kernel
theorem dX12_readAtom_94 : decode cX12_readAtom 94 = .ok (.ireturn, 1) := by decide +kernel
theorem dX12_readAtom_95 : decode cX12_readAtom 95 = .ok (.aload_n 0, 1) := by decide +kernel
theorem dX12_readAtom_96 : decode cX12_readAtom 96 = .ok (.dup, 1) := by decide +kernel
theorem dX12_readAtom_97 : decode cX12_readAtom 97 = .ok (.getfield 233, 3) := by decide +kernel
theorem dX12_readAtom_100 : decode cX12_readAtom 100 = .ok (.iconst 1, 1) := by decide +kernel
theorem dX12_readAtom_101 : decode cX12_readAtom 101 = .ok (.isub, 1) := by decide +kernel
theorem dX12_readAtom_102 : decode cX12_readAtom 102 = .ok (.putfield 233, 3) := by decide +kernel
theorem dX12_readAtom_105 : decode cX12_readAtom 105 = .ok (.aload_n 0, 1) := by decide +kernel
theorem dX12_readAtom_106 : decode cX12_readAtom 106 = .ok (.bipush 14, 2) := by decide +kernel
theorem dX12_readAtom_108 : decode cX12_readAtom 108 = .ok (.iconst 0, 1) := by decide +kernel
theorem dX12_readAtom_109 : decode cX12_readAtom 109 = .ok (.invokevirtual 217, 3) := by decide +kernel
theorem dX12_readAtom_112 : decode cX12_readAtom 112 = .ok (.iconst 1, 1) := by decide +kernel
theorem dX12_readAtom_113 : decode cX12_readAtom 113 = .ok (.ireturn, 1) := by decide +kernel
theorem dX12_readAtom_114 : decode cX12_readAtom 114 = .ok (.aload_n 0, 1) := by decide +kernel
theorem dX12_readAtom_115 : decode cX12_readAtom 115 = .ok (.invokevirtual 244, 3) := by decide +kernel
theorem dX12_readAtom_118 : decode cX12_readAtom 118 = .ok (.ifCond .eq 5, 3) := by decide +kernel
theorem dX12_readAtom_121 : decode cX12_readAtom 121 = .ok (.iconst 1, 1) := by decide +kernel
theorem dX12_readAtom_122 : decode cX12_readAtom 122 = .ok (.ireturn, 1) := by decide +kernel
theorem dX12_readAtom_123 : decode cX12_readAtom 123 = .ok (.aload_n 0, 1) := by decide +kernel
theorem dX12_readAtom_124 : decode cX12_readAtom 124 = .ok (.invokevirtual 247, 3) := by decide +kernel
theorem dX12_readAtom_127 : decode cX12_readAtom 127 = .ok (.ifCond .ne 5, 3) := by decide +kernel
theorem dX12_readAtom_130 : decode cX12_readAtom 130 = .ok (.iconst 0, 1) := by decide +kernel
theorem dX12_readAtom_131 : decode cX12_readAtom 131 = .ok (.ireturn, 1) := by decide +kernel
theorem dX12_readAtom_132 : decode cX12_readAtom 132 = .ok (.aload_n 0, 1) := by decide +kernel
theorem dX12_readAtom_133 : decode cX12_readAtom 133 = .ok (.bipush 60, 2) := by decide +kernel
theorem dX12_readAtom_135 : decode cX12_readAtom 135 = .ok (.invokevirtual 224, 3) := by decide +kernel
theorem dX12_readAtom_138 : decode cX12_readAtom 138 = .ok (.istore_n 1, 1) := by decide +kernel
theorem dX12_readAtom_139 : decode cX12_readAtom 139 = .ok (.iload_n 1, 1) := by decide +kernel
theorem dX12_readAtom_140 : decode cX12_readAtom 140 = .ok (.ifCond .ne 12, 3) := by decide +kernel
theorem dX12_readAtom_143 : decode cX12_readAtom 143 = .ok (.aload_n 0, 1) := by decide +kernel
theorem dX12_readAtom_144 : decode cX12_readAtom 144 = .ok (.bipush 62, 2) := by decide +kernel
theorem dX12_readAtom_146 : decode cX12_readAtom 146 = .ok (.invokevirtual 224, 3) := by decide +kernel
theorem dX12_readAtom_149 : decode cX12_readAtom 149 = .ok (.ifCond .eq 10, 3) := by decide +kernel
theorem dX12_readAtom_152 : decode cX12_readAtom 152 = .ok (.aload_n 0, 1) := by decide +kernel
theorem dX12_readAtom_153 : decode cX12_readAtom 153 = .ok (.invokevirtual 247, 3) := by decide +kernel
theorem dX12_readAtom_156 : decode cX12_readAtom 156 = .ok (.ifCond .ne 5, 3) := by decide +kernel
theorem dX12_readAtom_159 : decode cX12_readAtom 159 = .ok (.iconst 0, 1) := by decide +kernel
theorem dX12_readAtom_160 : decode cX12_readAtom 160 = .ok (.ireturn, 1) := by decide +kernel
theorem dX12_readAtom_161 : decode cX12_readAtom 161 = .ok (.aload_n 0, 1) := by decide +kernel
theorem dX12_readAtom_162 : decode cX12_readAtom 162 = .ok (.iload_n 1, 1) := by decide +kernel
theorem dX12_readAtom_163 : decode cX12_readAtom 163 = .ok (.ifCond .eq 8, 3) := by decide +kernel
theorem dX12_readAtom_166 : decode cX12_readAtom 166 = .ok (.bipush 12, 2) := by decide +kernel
theorem dX12_readAtom_168 : decode cX12_readAtom 168 = .ok (.goto 5, 3) := by decide +kernel
theorem dX12_readAtom_171 : decode cX12_readAtom 171 = .ok (.bipush 13, 2) := by decide +kernel
theorem dX12_readAtom_173 : decode cX12_readAtom 173 = .ok (.iconst 0, 1) := by decide +kernel
theorem dX12_readAtom_174 : decode cX12_readAtom 174 = .ok (.invokevirtual 217, 3) := by decide +kernel
theorem dX12_readAtom_177 : decode cX12_readAtom 177 = .ok (.iconst 1, 1) := by decide +kernel
theorem dX12_readAtom_178 : decode cX12_readAtom 178 = .ok (.ireturn, 1) := by decide +kernel
theorem dX12_readAllOf_0 : decode cX12_readAllOf 0 = .ok (.aload_n 0, 1) := by decide +kernel
theorem dX12_readAllOf_1 : decode cX12_readAllOf 1 = .ok (.invokevirtual 241, 3) := by decide +kernel
theorem dX12_readAllOf_4 : decode cX12_readAllOf 4 = .ok (.ifCond .ne 5, 3) := by decide +kernel
theorem dX12_readAllOf_7 : decode cX12_readAllOf 7 = .ok (.iconst 0, 1) := by decide +kernel
theorem dX12_readAllOf_8 : decode cX12_readAllOf 8 = .ok (.ireturn, 1) := by decide +kernel
theorem dX12_readAllOf_9 : decode cX12_readAllOf 9 = .ok (.aload_n 0, 1) := by decide +kernel
theorem dX12_readAllOf_10 : decode cX12_readAllOf 10 = .ok (.ldc 250, 2) := by decide +kernel
theorem dX12_readAllOf_12 : decode cX12_readAllOf 12 = .ok (.invokevirtual 146, 3) := by decide +kernel
theorem dX12_readAllOf_15 : decode cX12_readAllOf 15 = .ok (.ifCond .eq 22, 3) := by decide +kernel
theorem dX12_readAllOf_18 : decode cX12_readAllOf 18 = .ok (.aload_n 0, 1) := by decide +kernel
theorem dX12_readAllOf_19 : decode cX12_readAllOf 19 = .ok (.invokevirtual 241, 3) := by decide +kernel
theorem dX12_readAllOf_22 : decode cX12_readAllOf 22 = .ok (.ifCond .ne 5, 3) := by decide +kernel
theorem dX12_readAllOf_25 : decode cX12_readAllOf 25 = .ok (.iconst 0, 1) := by decide +kernel
theorem dX12_readAllOf_26 : decode cX12_readAllOf 26 = .ok (.ireturn, 1) := by decide +kernel
theorem dX12_readAllOf_27 : decode cX12_readAllOf 27 = .ok (.aload_n 0, 1) := by decide +kernel
theorem dX12_readAllOf_28 : decode cX12_readAllOf 28 = .ok (.bipush 15, 2) := by decide +kernel
theorem dX12_readAllOf_30 : decode cX12_readAllOf 30 = .ok (.iconst 0, 1) := by decide +kernel
theorem dX12_readAllOf_31 : decode cX12_readAllOf 31 = .ok (.invokevirtual 217, 3) := by decide +kernel
theorem dX12_readAllOf_34 : decode cX12_readAllOf 34 = .ok (.goto (-25), 3) := by decide +kernel
theorem dX12_readAllOf_37 : decode cX12_readAllOf 37 = .ok (.iconst 1, 1) := by decide +kernel
theorem dX12_readAllOf_38 : decode cX12_readAllOf 38 = .ok (.ireturn, 1) := by decide +kernel
theorem dX12_readCond_0 : decode cX12_readCond 0 = .ok (.aload_n 0, 1) := by decide +kernel
theorem dX12_readCond_1 : decode cX12_readCond 1 = .ok (.invokevirtual 252, 3) := by decide +kernel
theorem dX12_readCond_4 : decode cX12_readCond 4 = .ok (.ifCond .ne 5, 3) := by decide +kernel
theorem dX12_readCond_7 : decode cX12_readCond 7 = .ok (.iconst 0, 1) := by decide +kernel
theorem dX12_readCond_8 : decode cX12_readCond 8 = .ok (.ireturn, 1) := by decide +kernel
theorem dX12_readCond_9 : decode cX12_readCond 9 = .ok (.aload_n 0, 1) := by decide +kernel
theorem dX12_readCond_10 : decode cX12_readCond 10 = .ok (.ldc 255, 2) := by decide +kernel
theorem dX12_readCond_12 : decode cX12_readCond 12 = .ok (.invokevirtual 146, 3) := by decide +kernel
theorem dX12_readCond_15 : decode cX12_readCond 15 = .ok (.ifCond .eq 22, 3) := by decide +kernel
theorem dX12_readCond_18 : decode cX12_readCond 18 = .ok (.aload_n 0, 1) := by decide +kernel
theorem dX12_readCond_19 : decode cX12_readCond 19 = .ok (.invokevirtual 252, 3) := by decide +kernel
theorem dX12_readCond_22 : decode cX12_readCond 22 = .ok (.ifCond .ne 5, 3) := by decide +kernel
theorem dX12_readCond_25 : decode cX12_readCond 25 = .ok (.iconst 0, 1) := by decide +kernel
theorem dX12_readCond_26 : decode cX12_readCond 26 = .ok (.ireturn, 1) := by decide +kernel
theorem dX12_readCond_27 : decode cX12_readCond 27 = .ok (.aload_n 0, 1) := by decide +kernel
theorem dX12_readCond_28 : decode cX12_readCond 28 = .ok (.bipush 16, 2) := by decide +kernel
theorem dX12_readCond_30 : decode cX12_readCond 30 = .ok (.iconst 0, 1) := by decide +kernel
theorem dX12_readCond_31 : decode cX12_readCond 31 = .ok (.invokevirtual 217, 3) := by decide +kernel
theorem dX12_readCond_34 : decode cX12_readCond 34 = .ok (.goto (-25), 3) := by decide +kernel
theorem dX12_readCond_37 : decode cX12_readCond 37 = .ok (.iconst 1, 1) := by decide +kernel
theorem dX12_readCond_38 : decode cX12_readCond 38 = .ok (.ireturn, 1) := by decide +kernel
theorem dX12_readLawLine_0 : decode cX12_readLawLine 0 = .ok (.sipush 1223, 3) := by decide +kernel
theorem dX12_readLawLine_3 : decode cX12_readLawLine 3 = .ok (.iconst 4, 1) := by decide +kernel
theorem dX12_readLawLine_4 : decode cX12_readLawLine 4 = .ok (.iload_n 1, 1) := by decide +kernel
theorem dX12_readLawLine_5 : decode cX12_readLawLine 5 = .ok (.imul, 1) := by decide +kernel
theorem dX12_readLawLine_6 : decode cX12_readLawLine 6 = .ok (.iadd, 1) := by decide +kernel
theorem dX12_readLawLine_7 : decode cX12_readLawLine 7 = .ok (.istore_n 2, 1) := by decide +kernel
theorem dX12_readLawLine_8 : decode cX12_readLawLine 8 = .ok (.aload_n 0, 1) := by decide +kernel
theorem dX12_readLawLine_9 : decode cX12_readLawLine 9 = .ok (.getfield 13, 3) := by decide +kernel
theorem dX12_readLawLine_12 : decode cX12_readLawLine 12 = .ok (.iload_n 2, 1) := by decide +kernel
theorem dX12_readLawLine_13 : decode cX12_readLawLine 13 = .ok (.aload_n 0, 1) := by decide +kernel
theorem dX12_readLawLine_14 : decode cX12_readLawLine 14 = .ok (.ldc_w 257, 3) := by decide +kernel
theorem dX12_readLawLine_17 : decode cX12_readLawLine 17 = .ok (.invokevirtual 139, 3) := by decide +kernel
theorem dX12_readLawLine_20 : decode cX12_readLawLine 20 = .ok (.ifCond .eq 7, 3) := by decide +kernel
theorem dX12_readLawLine_23 : decode cX12_readLawLine 23 = .ok (.iconst 0, 1) := by decide +kernel
theorem dX12_readLawLine_24 : decode cX12_readLawLine 24 = .ok (.goto 32, 3) := by decide +kernel
theorem dX12_readLawLine_27 : decode cX12_readLawLine 27 = .ok (.aload_n 0, 1) := by decide +kernel
theorem dX12_readLawLine_28 : decode cX12_readLawLine 28 = .ok (.ldc_w 259, 3) := by decide +kernel
theorem dX12_readLawLine_31 : decode cX12_readLawLine 31 = .ok (.invokevirtual 139, 3) := by decide +kernel
theorem dX12_readLawLine_34 : decode cX12_readLawLine 34 = .ok (.ifCond .eq 7, 3) := by decide +kernel
theorem dX12_readLawLine_37 : decode cX12_readLawLine 37 = .ok (.iconst 1, 1) := by decide +kernel
theorem dX12_readLawLine_38 : decode cX12_readLawLine 38 = .ok (.goto 18, 3) := by decide +kernel
theorem dX12_readLawLine_41 : decode cX12_readLawLine 41 = .ok (.aload_n 0, 1) := by decide +kernel
theorem dX12_readLawLine_42 : decode cX12_readLawLine 42 = .ok (.ldc_w 261, 3) := by decide +kernel
theorem dX12_readLawLine_45 : decode cX12_readLawLine 45 = .ok (.invokevirtual 139, 3) := by decide +kernel
theorem dX12_readLawLine_48 : decode cX12_readLawLine 48 = .ok (.ifCond .eq 7, 3) := by decide +kernel
theorem dX12_readLawLine_51 : decode cX12_readLawLine 51 = .ok (.iconst 2, 1) := by decide +kernel
theorem dX12_readLawLine_52 : decode cX12_readLawLine 52 = .ok (.goto 4, 3) := by decide +kernel
theorem dX12_readLawLine_55 : decode cX12_readLawLine 55 = .ok (.iconst (-1), 1) := by decide +kernel
theorem dX12_readLawLine_56 : decode cX12_readLawLine 56 = .ok (.iastore, 1) := by decide +kernel
theorem dX12_readLawLine_57 : decode cX12_readLawLine 57 = .ok (.aload_n 0, 1) := by decide +kernel
theorem dX12_readLawLine_58 : decode cX12_readLawLine 58 = .ok (.getfield 13, 3) := by decide +kernel
theorem dX12_readLawLine_61 : decode cX12_readLawLine 61 = .ok (.iload_n 2, 1) := by decide +kernel
theorem dX12_readLawLine_62 : decode cX12_readLawLine 62 = .ok (.iaload, 1) := by decide +kernel
theorem dX12_readLawLine_63 : decode cX12_readLawLine 63 = .ok (.ifCond .ge 5, 3) := by decide +kernel
theorem dX12_readLawLine_66 : decode cX12_readLawLine 66 = .ok (.iconst 0, 1) := by decide +kernel
theorem dX12_readLawLine_67 : decode cX12_readLawLine 67 = .ok (.ireturn, 1) := by decide +kernel
theorem dX12_readLawLine_68 : decode cX12_readLawLine 68 = .ok (.aload_n 0, 1) := by decide +kernel
theorem dX12_readLawLine_69 : decode cX12_readLawLine 69 = .ok (.getfield 13, 3) := by decide +kernel
theorem dX12_readLawLine_72 : decode cX12_readLawLine 72 = .ok (.iload_n 2, 1) := by decide +kernel
theorem dX12_readLawLine_73 : decode cX12_readLawLine 73 = .ok (.iconst 1, 1) := by decide +kernel
theorem dX12_readLawLine_74 : decode cX12_readLawLine 74 = .ok (.iadd, 1) := by decide +kernel
theorem dX12_readLawLine_75 : decode cX12_readLawLine 75 = .ok (.aload_n 0, 1) := by decide +kernel
theorem dX12_readLawLine_76 : decode cX12_readLawLine 76 = .ok (.iconst 0, 1) := by decide +kernel
theorem dX12_readLawLine_77 : decode cX12_readLawLine 77 = .ok (.bipush 40, 2) := by decide +kernel
theorem dX12_readLawLine_79 : decode cX12_readLawLine 79 = .ok (.invokevirtual 143, 3) := by decide +kernel
theorem dX12_readLawLine_82 : decode cX12_readLawLine 82 = .ok (.iastore, 1) := by decide +kernel
theorem dX12_readLawLine_83 : decode cX12_readLawLine 83 = .ok (.aload_n 0, 1) := by decide +kernel
theorem dX12_readLawLine_84 : decode cX12_readLawLine 84 = .ok (.getfield 13, 3) := by decide +kernel
theorem dX12_readLawLine_87 : decode cX12_readLawLine 87 = .ok (.iload_n 2, 1) := by decide +kernel
theorem dX12_readLawLine_88 : decode cX12_readLawLine 88 = .ok (.iconst 1, 1) := by decide +kernel
theorem dX12_readLawLine_89 : decode cX12_readLawLine 89 = .ok (.iadd, 1) := by decide +kernel
theorem dX12_readLawLine_90 : decode cX12_readLawLine 90 = .ok (.iaload, 1) := by decide +kernel
theorem dX12_readLawLine_91 : decode cX12_readLawLine 91 = .ok (.ifCond .ge 5, 3) := by decide +kernel
theorem dX12_readLawLine_94 : decode cX12_readLawLine 94 = .ok (.iconst 0, 1) := by decide +kernel
theorem dX12_readLawLine_95 : decode cX12_readLawLine 95 = .ok (.ireturn, 1) := by decide +kernel
theorem dX12_readLawLine_96 : decode cX12_readLawLine 96 = .ok (.aload_n 0, 1) := by decide +kernel
theorem dX12_readLawLine_97 : decode cX12_readLawLine 97 = .ok (.getfield 13, 3) := by decide +kernel
theorem dX12_readLawLine_100 : decode cX12_readLawLine 100 = .ok (.iload_n 2, 1) := by decide +kernel
theorem dX12_readLawLine_101 : decode cX12_readLawLine 101 = .ok (.iconst 2, 1) := by decide +kernel
theorem dX12_readLawLine_102 : decode cX12_readLawLine 102 = .ok (.iadd, 1) := by decide +kernel
theorem dX12_readLawLine_103 : decode cX12_readLawLine 103 = .ok (.aload_n 0, 1) := by decide +kernel
theorem dX12_readLawLine_104 : decode cX12_readLawLine 104 = .ok (.getfield 211, 3) := by decide +kernel
theorem dX12_readLawLine_107 : decode cX12_readLawLine 107 = .ok (.iastore, 1) := by decide +kernel
theorem dX12_readLawLine_108 : decode cX12_readLawLine 108 = .ok (.aload_n 0, 1) := by decide +kernel
theorem dX12_readLawLine_109 : decode cX12_readLawLine 109 = .ok (.iconst 0, 1) := by decide +kernel
theorem dX12_readLawLine_110 : decode cX12_readLawLine 110 = .ok (.putfield 233, 3) := by decide +kernel
theorem dX12_readLawLine_113 : decode cX12_readLawLine 113 = .ok (.aload_n 0, 1) := by decide +kernel
theorem dX12_readLawLine_114 : decode cX12_readLawLine 114 = .ok (.ldc_w 263, 3) := by decide +kernel
theorem dX12_readLawLine_117 : decode cX12_readLawLine 117 = .ok (.invokevirtual 146, 3) := by decide +kernel
theorem dX12_readLawLine_120 : decode cX12_readLawLine 120 = .ok (.ifCond .eq 12, 3) := by decide +kernel
theorem dX12_readLawLine_123 : decode cX12_readLawLine 123 = .ok (.aload_n 0, 1) := by decide +kernel
theorem dX12_readLawLine_124 : decode cX12_readLawLine 124 = .ok (.invokevirtual 236, 3) := by decide +kernel
theorem dX12_readLawLine_127 : decode cX12_readLawLine 127 = .ok (.ifCond .ne 5, 3) := by decide +kernel
theorem dX12_readLawLine_130 : decode cX12_readLawLine 130 = .ok (.iconst 0, 1) := by decide +kernel
theorem dX12_readLawLine_131 : decode cX12_readLawLine 131 = .ok (.ireturn, 1) := by decide +kernel
theorem dX12_readLawLine_132 : decode cX12_readLawLine 132 = .ok (.aload_n 0, 1) := by decide +kernel
theorem dX12_readLawLine_133 : decode cX12_readLawLine 133 = .ok (.getfield 13, 3) := by decide +kernel
theorem dX12_readLawLine_136 : decode cX12_readLawLine 136 = .ok (.iload_n 2, 1) := by decide +kernel
theorem dX12_readLawLine_137 : decode cX12_readLawLine 137 = .ok (.iconst 3, 1) := by decide +kernel
theorem dX12_readLawLine_138 : decode cX12_readLawLine 138 = .ok (.iadd, 1) := by decide +kernel
theorem dX12_readLawLine_139 : decode cX12_readLawLine 139 = .ok (.aload_n 0, 1) := by decide +kernel
theorem dX12_readLawLine_140 : decode cX12_readLawLine 140 = .ok (.getfield 211, 3) := by decide +kernel
theorem dX12_readLawLine_143 : decode cX12_readLawLine 143 = .ok (.iastore, 1) := by decide +kernel
theorem dX12_readLawLine_144 : decode cX12_readLawLine 144 = .ok (.iconst 1, 1) := by decide +kernel
theorem dX12_readLawLine_145 : decode cX12_readLawLine 145 = .ok (.ireturn, 1) := by decide +kernel
theorem dX12_readLine_0 : decode cX12_readLine 0 = .ok (.aload_n 0, 1) := by decide +kernel
theorem dX12_readLine_1 : decode cX12_readLine 1 = .ok (.invokevirtual 136, 3) := by decide +kernel
theorem dX12_readLine_4 : decode cX12_readLine 4 = .ok (.iload_n 2, 1) := by decide +kernel
theorem dX12_readLine_5 : decode cX12_readLine 5 = .ok (.iload_n 1, 1) := by decide +kernel
theorem dX12_readLine_6 : decode cX12_readLine 6 = .ok (.ifCond .eq 8, 3) := by decide +kernel
theorem dX12_readLine_9 : decode cX12_readLine 9 = .ok (.bipush 14, 2) := by decide +kernel
theorem dX12_readLine_11 : decode cX12_readLine 11 = .ok (.goto 5, 3) := by decide +kernel
theorem dX12_readLine_14 : decode cX12_readLine 14 = .ok (.bipush 12, 2) := by decide +kernel
theorem dX12_readLine_16 : decode cX12_readLine 16 = .ok (.if_icmp .ge 29, 3) := by decide +kernel
theorem dX12_readLine_19 : decode cX12_readLine 19 = .ok (.iload_n 1, 1) := by decide +kernel
theorem dX12_readLine_20 : decode cX12_readLine 20 = .ok (.ifCond .eq 13, 3) := by decide +kernel
theorem dX12_readLine_23 : decode cX12_readLine 23 = .ok (.aload_n 0, 1) := by decide +kernel
theorem dX12_readLine_24 : decode cX12_readLine 24 = .ok (.invokevirtual 265, 3) := by decide +kernel
theorem dX12_readLine_27 : decode cX12_readLine 27 = .ok (.ifCond .eq 18, 3) := by decide +kernel
theorem dX12_readLine_30 : decode cX12_readLine 30 = .ok (.goto 11, 3) := by decide +kernel
theorem dX12_readLine_33 : decode cX12_readLine 33 = .ok (.aload_n 0, 1) := by decide +kernel
theorem dX12_readLine_34 : decode cX12_readLine 34 = .ok (.iload_n 2, 1) := by decide +kernel
theorem dX12_readLine_35 : decode cX12_readLine 35 = .ok (.invokevirtual 268, 3) := by decide +kernel
theorem dX12_readLine_38 : decode cX12_readLine 38 = .ok (.ifCond .eq 7, 3) := by decide +kernel
theorem dX12_readLine_41 : decode cX12_readLine 41 = .ok (.iconst 1, 1) := by decide +kernel
theorem dX12_readLine_42 : decode cX12_readLine 42 = .ok (.goto 4, 3) := by decide +kernel
theorem dX12_readLine_45 : decode cX12_readLine 45 = .ok (.iconst 0, 1) := by decide +kernel
theorem dX12_readLine_46 : decode cX12_readLine 46 = .ok (.ireturn, 1) := by decide +kernel
theorem dX12_readAll_0 : decode cX12_readAll 0 = .ok (.aload_n 0, 1) := by decide +kernel
theorem dX12_readAll_1 : decode cX12_readAll 1 = .ok (.invokevirtual 271, 3) := by decide +kernel
theorem dX12_readAll_4 : decode cX12_readAll 4 = .ok (.aload_n 0, 1) := by decide +kernel
theorem dX12_readAll_5 : decode cX12_readAll 5 = .ok (.iconst 0, 1) := by decide +kernel
theorem dX12_readAll_6 : decode cX12_readAll 6 = .ok (.putfield 211, 3) := by decide +kernel
theorem dX12_readAll_9 : decode cX12_readAll 9 = .ok (.aload_n 0, 1) := by decide +kernel
theorem dX12_readAll_10 : decode cX12_readAll 10 = .ok (.invokevirtual 124, 3) := by decide +kernel
theorem dX12_readAll_13 : decode cX12_readAll 13 = .ok (.aload_n 0, 1) := by decide +kernel
theorem dX12_readAll_14 : decode cX12_readAll 14 = .ok (.getfield 111, 3) := by decide +kernel
theorem dX12_readAll_17 : decode cX12_readAll 17 = .ok (.aload_n 0, 1) := by decide +kernel
theorem dX12_readAll_18 : decode cX12_readAll 18 = .ok (.getfield 114, 3) := by decide +kernel
theorem dX12_readAll_21 : decode cX12_readAll 21 = .ok (.if_icmp .ne 5, 3) := by decide +kernel
theorem dX12_readAll_24 : decode cX12_readAll 24 = .ok (.iconst 0, 1) := by decide +kernel
theorem dX12_readAll_25 : decode cX12_readAll 25 = .ok (.ireturn, 1) := by decide +kernel
theorem dX12_readAll_26 : decode cX12_readAll 26 = .ok (.iconst 0, 1) := by decide +kernel
theorem dX12_readAll_27 : decode cX12_readAll 27 = .ok (.istore_n 2, 1) := by decide +kernel
theorem dX12_readAll_28 : decode cX12_readAll 28 = .ok (.aload_n 0, 1) := by decide +kernel
theorem dX12_readAll_29 : decode cX12_readAll 29 = .ok (.iload_n 1, 1) := by decide +kernel
theorem dX12_readAll_30 : decode cX12_readAll 30 = .ok (.iload_n 2, 1) := by decide +kernel
theorem dX12_readAll_31 : decode cX12_readAll 31 = .ok (.invokevirtual 274, 3) := by decide +kernel
theorem dX12_readAll_34 : decode cX12_readAll 34 = .ok (.ifCond .ne 5, 3) := by decide +kernel
theorem dX12_readAll_37 : decode cX12_readAll 37 = .ok (.iconst (-1), 1) := by decide +kernel
theorem dX12_readAll_38 : decode cX12_readAll 38 = .ok (.ireturn, 1) := by decide +kernel
theorem dX12_readAll_39 : decode cX12_readAll 39 = .ok (.aload_n 0, 1) := by decide +kernel
theorem dX12_readAll_40 : decode cX12_readAll 40 = .ok (.invokevirtual 124, 3) := by decide +kernel
theorem dX12_readAll_43 : decode cX12_readAll 43 = .ok (.aload_n 0, 1) := by decide +kernel
theorem dX12_readAll_44 : decode cX12_readAll 44 = .ok (.getfield 111, 3) := by decide +kernel
theorem dX12_readAll_47 : decode cX12_readAll 47 = .ok (.aload_n 0, 1) := by decide +kernel
theorem dX12_readAll_48 : decode cX12_readAll 48 = .ok (.getfield 114, 3) := by decide +kernel
theorem dX12_readAll_51 : decode cX12_readAll 51 = .ok (.if_icmp .ne 7, 3) := by decide +kernel
theorem dX12_readAll_54 : decode cX12_readAll 54 = .ok (.iload_n 2, 1) := by decide +kernel
theorem dX12_readAll_55 : decode cX12_readAll 55 = .ok (.iconst 1, 1) := by decide +kernel
theorem dX12_readAll_56 : decode cX12_readAll 56 = .ok (.iadd, 1) := by decide +kernel
theorem dX12_readAll_57 : decode cX12_readAll 57 = .ok (.ireturn, 1) := by decide +kernel
theorem dX12_readAll_58 : decode cX12_readAll 58 = .ok (.aload_n 0, 1) := by decide +kernel
theorem dX12_readAll_59 : decode cX12_readAll 59 = .ok (.bipush 59, 2) := by decide +kernel
theorem dX12_readAll_61 : decode cX12_readAll 61 = .ok (.bipush 59, 2) := by decide +kernel
theorem dX12_readAll_63 : decode cX12_readAll 63 = .ok (.invokevirtual 117, 3) := by decide +kernel
theorem dX12_readAll_66 : decode cX12_readAll 66 = .ok (.ifCond .ne 5, 3) := by decide +kernel
theorem dX12_readAll_69 : decode cX12_readAll 69 = .ok (.iconst (-1), 1) := by decide +kernel
theorem dX12_readAll_70 : decode cX12_readAll 70 = .ok (.ireturn, 1) := by decide +kernel
theorem dX12_readAll_71 : decode cX12_readAll 71 = .ok (.aload_n 0, 1) := by decide +kernel
theorem dX12_readAll_72 : decode cX12_readAll 72 = .ok (.dup, 1) := by decide +kernel
theorem dX12_readAll_73 : decode cX12_readAll 73 = .ok (.getfield 111, 3) := by decide +kernel
theorem dX12_readAll_76 : decode cX12_readAll 76 = .ok (.iconst 1, 1) := by decide +kernel
theorem dX12_readAll_77 : decode cX12_readAll 77 = .ok (.iadd, 1) := by decide +kernel
theorem dX12_readAll_78 : decode cX12_readAll 78 = .ok (.putfield 111, 3) := by decide +kernel
theorem dX12_readAll_81 : decode cX12_readAll 81 = .ok (.iinc 2 1, 3) := by decide +kernel
theorem dX12_readAll_84 : decode cX12_readAll 84 = .ok (.goto (-56), 3) := by decide +kernel
theorem dX12_dock_0 : decode cX12_dock 0 = .ok (.iconst 0, 1) := by decide +kernel
theorem dX12_dock_1 : decode cX12_dock 1 = .ok (.istore_n 1, 1) := by decide +kernel
theorem dX12_dock_2 : decode cX12_dock 2 = .ok (.iload_n 1, 1) := by decide +kernel
theorem dX12_dock_3 : decode cX12_dock 3 = .ok (.sipush 1222, 3) := by decide +kernel
theorem dX12_dock_6 : decode cX12_dock 6 = .ok (.if_icmp .ge 21, 3) := by decide +kernel
theorem dX12_dock_9 : decode cX12_dock 9 = .ok (.aload_n 0, 1) := by decide +kernel
theorem dX12_dock_10 : decode cX12_dock 10 = .ok (.getfield 20, 3) := by decide +kernel
theorem dX12_dock_13 : decode cX12_dock 13 = .ok (.iload_n 1, 1) := by decide +kernel
theorem dX12_dock_14 : decode cX12_dock 14 = .ok (.aload_n 0, 1) := by decide +kernel
theorem dX12_dock_15 : decode cX12_dock 15 = .ok (.getfield 13, 3) := by decide +kernel
theorem dX12_dock_18 : decode cX12_dock 18 = .ok (.iload_n 1, 1) := by decide +kernel
theorem dX12_dock_19 : decode cX12_dock 19 = .ok (.iaload, 1) := by decide +kernel
theorem dX12_dock_20 : decode cX12_dock 20 = .ok (.iastore, 1) := by decide +kernel
theorem dX12_dock_21 : decode cX12_dock 21 = .ok (.iinc 1 1, 3) := by decide +kernel
theorem dX12_dock_24 : decode cX12_dock 24 = .ok (.goto (-22), 3) := by decide +kernel
theorem dX12_dock_27 : decode cX12_dock 27 = .ok (.aload_n 0, 1) := by decide +kernel
theorem dX12_dock_28 : decode cX12_dock 28 = .ok (.iconst 1, 1) := by decide +kernel
theorem dX12_dock_29 : decode cX12_dock 29 = .ok (.invokevirtual 278, 3) := by decide +kernel
theorem dX12_dock_32 : decode cX12_dock 32 = .ok (.istore_n 1, 1) := by decide +kernel
theorem dX12_dock_33 : decode cX12_dock 33 = .ok (.aload_n 0, 1) := by decide +kernel
theorem dX12_dock_34 : decode cX12_dock 34 = .ok (.iload_n 1, 1) := by decide +kernel
theorem dX12_dock_35 : decode cX12_dock 35 = .ok (.ifCond .ge 10, 3) := by decide +kernel
theorem dX12_dock_38 : decode cX12_dock 38 = .ok (.aload_n 0, 1) := by decide +kernel
theorem dX12_dock_39 : decode cX12_dock 39 = .ok (.getfield 121, 3) := by decide +kernel
theorem dX12_dock_42 : decode cX12_dock 42 = .ok (.goto 4, 3) := by decide +kernel
theorem dX12_dock_45 : decode cX12_dock 45 = .ok (.iconst (-1), 1) := by decide +kernel
theorem dX12_dock_46 : decode cX12_dock 46 = .ok (.putfield 33, 3) := by decide +kernel
theorem dX12_dock_49 : decode cX12_dock 49 = .ok (.aload_n 0, 1) := by decide +kernel
theorem dX12_dock_50 : decode cX12_dock 50 = .ok (.iload_n 1, 1) := by decide +kernel
theorem dX12_dock_51 : decode cX12_dock 51 = .ok (.ifCond .ge 7, 3) := by decide +kernel
theorem dX12_dock_54 : decode cX12_dock 54 = .ok (.iconst 1, 1) := by decide +kernel
theorem dX12_dock_55 : decode cX12_dock 55 = .ok (.goto 4, 3) := by decide +kernel
theorem dX12_dock_58 : decode cX12_dock 58 = .ok (.iconst 0, 1) := by decide +kernel
theorem dX12_dock_59 : decode cX12_dock 59 = .ok (.iconst 1, 1) := by decide +kernel
theorem dX12_dock_60 : decode cX12_dock 60 = .ok (.invokevirtual 282, 3) := by decide +kernel
theorem dX12_dock_63 : decode cX12_dock 63 = .ok (.ifCond .ne 27, 3) := by decide +kernel
theorem dX12_dock_66 : decode cX12_dock 66 = .ok (.aload_n 0, 1) := by decide +kernel
theorem dX12_dock_67 : decode cX12_dock 67 = .ok (.aload_n 0, 1) := by decide +kernel
theorem dX12_dock_68 : decode cX12_dock 68 = .ok (.getfield 13, 3) := by decide +kernel
theorem dX12_dock_71 : decode cX12_dock 71 = .ok (.iconst 1, 1) := by decide +kernel
theorem dX12_dock_72 : decode cX12_dock 72 = .ok (.iaload, 1) := by decide +kernel
theorem dX12_dock_73 : decode cX12_dock 73 = .ok (.bipush 12, 2) := by decide +kernel
theorem dX12_dock_75 : decode cX12_dock 75 = .ok (.if_icmp .ne 7, 3) := by decide +kernel
theorem dX12_dock_78 : decode cX12_dock 78 = .ok (.iconst 1, 1) := by decide +kernel
theorem dX12_dock_79 : decode cX12_dock 79 = .ok (.goto 4, 3) := by decide +kernel
theorem dX12_dock_82 : decode cX12_dock 82 = .ok (.iconst 0, 1) := by decide +kernel
theorem dX12_dock_83 : decode cX12_dock 83 = .ok (.iconst 2, 1) := by decide +kernel
theorem dX12_dock_84 : decode cX12_dock 84 = .ok (.invokevirtual 282, 3) := by decide +kernel
theorem dX12_dock_87 : decode cX12_dock 87 = .ok (.ifCond .eq 32, 3) := by decide +kernel
theorem dX12_dock_90 : decode cX12_dock 90 = .ok (.iconst 0, 1) := by decide +kernel
theorem dX12_dock_91 : decode cX12_dock 91 = .ok (.istore_n 2, 1) := by decide +kernel
theorem dX12_dock_92 : decode cX12_dock 92 = .ok (.iload_n 2, 1) := by decide +kernel
theorem dX12_dock_93 : decode cX12_dock 93 = .ok (.sipush 1222, 3) := by decide +kernel
theorem dX12_dock_96 : decode cX12_dock 96 = .ok (.if_icmp .ge 21, 3) := by decide +kernel
theorem dX12_dock_99 : decode cX12_dock 99 = .ok (.aload_n 0, 1) := by decide +kernel
theorem dX12_dock_100 : decode cX12_dock 100 = .ok (.getfield 13, 3) := by decide +kernel
theorem dX12_dock_103 : decode cX12_dock 103 = .ok (.iload_n 2, 1) := by decide +kernel
theorem dX12_dock_104 : decode cX12_dock 104 = .ok (.aload_n 0, 1) := by decide +kernel
theorem dX12_dock_105 : decode cX12_dock 105 = .ok (.getfield 20, 3) := by decide +kernel
theorem dX12_dock_108 : decode cX12_dock 108 = .ok (.iload_n 2, 1) := by decide +kernel
theorem dX12_dock_109 : decode cX12_dock 109 = .ok (.iaload, 1) := by decide +kernel
theorem dX12_dock_110 : decode cX12_dock 110 = .ok (.iastore, 1) := by decide +kernel
theorem dX12_dock_111 : decode cX12_dock 111 = .ok (.iinc 2 1, 3) := by decide +kernel
theorem dX12_dock_114 : decode cX12_dock 114 = .ok (.goto (-22), 3) := by decide +kernel
theorem dX12_dock_117 : decode cX12_dock 117 = .ok (.iconst 0, 1) := by decide +kernel
theorem dX12_dock_118 : decode cX12_dock 118 = .ok (.ireturn, 1) := by decide +kernel
theorem dX12_dock_119 : decode cX12_dock 119 = .ok (.aload_n 0, 1) := by decide +kernel
theorem dX12_dock_120 : decode cX12_dock 120 = .ok (.getfield 13, 3) := by decide +kernel
theorem dX12_dock_123 : decode cX12_dock 123 = .ok (.iconst 1, 1) := by decide +kernel
theorem dX12_dock_124 : decode cX12_dock 124 = .ok (.dup2, 1) := by decide +kernel
theorem dX12_dock_125 : decode cX12_dock 125 = .ok (.iaload, 1) := by decide +kernel
theorem dX12_dock_126 : decode cX12_dock 126 = .ok (.iconst 1, 1) := by decide +kernel
theorem dX12_dock_127 : decode cX12_dock 127 = .ok (.iadd, 1) := by decide +kernel
theorem dX12_dock_128 : decode cX12_dock 128 = .ok (.iastore, 1) := by decide +kernel
theorem dX12_dock_129 : decode cX12_dock 129 = .ok (.aload_n 0, 1) := by decide +kernel
theorem dX12_dock_130 : decode cX12_dock 130 = .ok (.iconst 0, 1) := by decide +kernel
theorem dX12_dock_131 : decode cX12_dock 131 = .ok (.putfield 78, 3) := by decide +kernel
theorem dX12_dock_134 : decode cX12_dock 134 = .ok (.aload_n 0, 1) := by decide +kernel
theorem dX12_dock_135 : decode cX12_dock 135 = .ok (.getfield 13, 3) := by decide +kernel
theorem dX12_dock_138 : decode cX12_dock 138 = .ok (.iconst 1, 1) := by decide +kernel
theorem dX12_dock_139 : decode cX12_dock 139 = .ok (.iaload, 1) := by decide +kernel
theorem dX12_dock_140 : decode cX12_dock 140 = .ok (.ireturn, 1) := by decide +kernel
theorem dX12_law_0 : decode cX12_law 0 = .ok (.aload_n 0, 1) := by decide +kernel
theorem dX12_law_1 : decode cX12_law 1 = .ok (.iconst 0, 1) := by decide +kernel
theorem dX12_law_2 : decode cX12_law 2 = .ok (.invokevirtual 278, 3) := by decide +kernel
theorem dX12_law_5 : decode cX12_law 5 = .ok (.istore_n 1, 1) := by decide +kernel
theorem dX12_law_6 : decode cX12_law 6 = .ok (.aload_n 0, 1) := by decide +kernel
theorem dX12_law_7 : decode cX12_law 7 = .ok (.iload_n 1, 1) := by decide +kernel
theorem dX12_law_8 : decode cX12_law 8 = .ok (.ifCond .ge 10, 3) := by decide +kernel
theorem dX12_law_11 : decode cX12_law 11 = .ok (.aload_n 0, 1) := by decide +kernel
theorem dX12_law_12 : decode cX12_law 12 = .ok (.getfield 121, 3) := by decide +kernel
theorem dX12_law_15 : decode cX12_law 15 = .ok (.goto 4, 3) := by decide +kernel
theorem dX12_law_18 : decode cX12_law 18 = .ok (.iconst (-1), 1) := by decide +kernel
theorem dX12_law_19 : decode cX12_law 19 = .ok (.putfield 33, 3) := by decide +kernel
theorem dX12_law_22 : decode cX12_law 22 = .ok (.aload_n 0, 1) := by decide +kernel
theorem dX12_law_23 : decode cX12_law 23 = .ok (.iload_n 1, 1) := by decide +kernel
theorem dX12_law_24 : decode cX12_law 24 = .ok (.ifCond .ge 7, 3) := by decide +kernel
theorem dX12_law_27 : decode cX12_law 27 = .ok (.iconst 1, 1) := by decide +kernel
theorem dX12_law_28 : decode cX12_law 28 = .ok (.goto 4, 3) := by decide +kernel
theorem dX12_law_31 : decode cX12_law 31 = .ok (.iconst 0, 1) := by decide +kernel
theorem dX12_law_32 : decode cX12_law 32 = .ok (.iconst 1, 1) := by decide +kernel
theorem dX12_law_33 : decode cX12_law 33 = .ok (.invokevirtual 282, 3) := by decide +kernel
theorem dX12_law_36 : decode cX12_law 36 = .ok (.ifCond .eq 5, 3) := by decide +kernel
theorem dX12_law_39 : decode cX12_law 39 = .ok (.iconst 0, 1) := by decide +kernel
theorem dX12_law_40 : decode cX12_law 40 = .ok (.ireturn, 1) := by decide +kernel
theorem dX12_law_41 : decode cX12_law 41 = .ok (.aload_n 0, 1) := by decide +kernel
theorem dX12_law_42 : decode cX12_law 42 = .ok (.getfield 13, 3) := by decide +kernel
theorem dX12_law_45 : decode cX12_law 45 = .ok (.sipush 1222, 3) := by decide +kernel
theorem dX12_law_48 : decode cX12_law 48 = .ok (.iload_n 1, 1) := by decide +kernel
theorem dX12_law_49 : decode cX12_law 49 = .ok (.iastore, 1) := by decide +kernel
theorem dX12_law_50 : decode cX12_law 50 = .ok (.iconst 0, 1) := by decide +kernel
theorem dX12_law_51 : decode cX12_law 51 = .ok (.istore_n 2, 1) := by decide +kernel
theorem dX12_law_52 : decode cX12_law 52 = .ok (.iload_n 2, 1) := by decide +kernel
theorem dX12_law_53 : decode cX12_law 53 = .ok (.sipush 849, 3) := by decide +kernel
theorem dX12_law_56 : decode cX12_law 56 = .ok (.if_icmp .ge 29, 3) := by decide +kernel
theorem dX12_law_59 : decode cX12_law 59 = .ok (.aload_n 0, 1) := by decide +kernel
theorem dX12_law_60 : decode cX12_law 60 = .ok (.getfield 13, 3) := by decide +kernel
theorem dX12_law_63 : decode cX12_law 63 = .ok (.sipush 373, 3) := by decide +kernel
theorem dX12_law_66 : decode cX12_law 66 = .ok (.iload_n 2, 1) := by decide +kernel
theorem dX12_law_67 : decode cX12_law 67 = .ok (.iadd, 1) := by decide +kernel
theorem dX12_law_68 : decode cX12_law 68 = .ok (.aload_n 0, 1) := by decide +kernel
theorem dX12_law_69 : decode cX12_law 69 = .ok (.getfield 13, 3) := by decide +kernel
theorem dX12_law_72 : decode cX12_law 72 = .ok (.sipush 1222, 3) := by decide +kernel
theorem dX12_law_75 : decode cX12_law 75 = .ok (.iload_n 2, 1) := by decide +kernel
theorem dX12_law_76 : decode cX12_law 76 = .ok (.iadd, 1) := by decide +kernel
theorem dX12_law_77 : decode cX12_law 77 = .ok (.iaload, 1) := by decide +kernel
theorem dX12_law_78 : decode cX12_law 78 = .ok (.iastore, 1) := by decide +kernel
theorem dX12_law_79 : decode cX12_law 79 = .ok (.iinc 2 1, 3) := by decide +kernel
theorem dX12_law_82 : decode cX12_law 82 = .ok (.goto (-30), 3) := by decide +kernel
theorem dX12_law_85 : decode cX12_law 85 = .ok (.aload_n 0, 1) := by decide +kernel
theorem dX12_law_86 : decode cX12_law 86 = .ok (.getfield 13, 3) := by decide +kernel
theorem dX12_law_89 : decode cX12_law 89 = .ok (.iconst 2, 1) := by decide +kernel
theorem dX12_law_90 : decode cX12_law 90 = .ok (.iconst 1, 1) := by decide +kernel
theorem dX12_law_91 : decode cX12_law 91 = .ok (.iastore, 1) := by decide +kernel
theorem dX12_law_92 : decode cX12_law 92 = .ok (.aload_n 0, 1) := by decide +kernel
theorem dX12_law_93 : decode cX12_law 93 = .ok (.iconst 0, 1) := by decide +kernel
theorem dX12_law_94 : decode cX12_law 94 = .ok (.putfield 78, 3) := by decide +kernel
theorem dX12_law_97 : decode cX12_law 97 = .ok (.iload_n 1, 1) := by decide +kernel
theorem dX12_law_98 : decode cX12_law 98 = .ok (.ireturn, 1) := by decide +kernel
theorem dX12_ofShip_0 : decode cX12_ofShip 0 = .ok (.iload_n 1, 1) := by decide +kernel
theorem dX12_ofShip_1 : decode cX12_ofShip 1 = .ok (.iconst (-1), 1) := by decide +kernel
theorem dX12_ofShip_2 : decode cX12_ofShip 2 = .ok (.if_icmp .ne 7, 3) := by decide +kernel
theorem dX12_ofShip_5 : decode cX12_ofShip 5 = .ok (.iconst 0, 1) := by decide +kernel
theorem dX12_ofShip_6 : decode cX12_ofShip 6 = .ok (.goto 9, 3) := by decide +kernel
theorem dX12_ofShip_9 : decode cX12_ofShip 9 = .ok (.aload_n 0, 1) := by decide +kernel
theorem dX12_ofShip_10 : decode cX12_ofShip 10 = .ok (.iload_n 1, 1) := by decide +kernel
theorem dX12_ofShip_11 : decode cX12_ofShip 11 = .ok (.iload_n 2, 1) := by decide +kernel
theorem dX12_ofShip_12 : decode cX12_ofShip 12 = .ok (.invokevirtual 85, 3) := by decide +kernel
theorem dX12_ofShip_15 : decode cX12_ofShip 15 = .ok (.ireturn, 1) := by decide +kernel
theorem dX12_factOf_0 : decode cX12_factOf 0 = .ok (.iload_n 1, 1) := by decide +kernel
theorem dX12_factOf_1 : decode cX12_factOf 1 = .ok (.tableswitch 142 0 9 #[55, 67, 74, 81, 88, 95, 101, 112, 119, 135], 55) := by decide +kernel
theorem dX12_factOf_56 : decode cX12_factOf 56 = .ok (.iload_n 3, 1) := by decide +kernel
theorem dX12_factOf_57 : decode cX12_factOf 57 = .ok (.iconst (-1), 1) := by decide +kernel
theorem dX12_factOf_58 : decode cX12_factOf 58 = .ok (.if_icmp .ne 8, 3) := by decide +kernel
theorem dX12_factOf_61 : decode cX12_factOf 61 = .ok (.bipush 9, 2) := by decide +kernel
theorem dX12_factOf_63 : decode cX12_factOf 63 = .ok (.goto 4, 3) := by decide +kernel
theorem dX12_factOf_66 : decode cX12_factOf 66 = .ok (.iload_n 3, 1) := by decide +kernel
theorem dX12_factOf_67 : decode cX12_factOf 67 = .ok (.ireturn, 1) := by decide +kernel
theorem dX12_factOf_68 : decode cX12_factOf 68 = .ok (.aload_n 0, 1) := by decide +kernel
theorem dX12_factOf_69 : decode cX12_factOf 69 = .ok (.iload_n 3, 1) := by decide +kernel
theorem dX12_factOf_70 : decode cX12_factOf 70 = .ok (.iconst 0, 1) := by decide +kernel
theorem dX12_factOf_71 : decode cX12_factOf 71 = .ok (.invokevirtual 285, 3) := by decide +kernel
theorem dX12_factOf_74 : decode cX12_factOf 74 = .ok (.ireturn, 1) := by decide +kernel
theorem dX12_factOf_75 : decode cX12_factOf 75 = .ok (.aload_n 0, 1) := by decide +kernel
theorem dX12_factOf_76 : decode cX12_factOf 76 = .ok (.iload_n 3, 1) := by decide +kernel
theorem dX12_factOf_77 : decode cX12_factOf 77 = .ok (.iconst 1, 1) := by decide +kernel
theorem dX12_factOf_78 : decode cX12_factOf 78 = .ok (.invokevirtual 285, 3) := by decide +kernel
theorem dX12_factOf_81 : decode cX12_factOf 81 = .ok (.ireturn, 1) := by decide +kernel
theorem dX12_factOf_82 : decode cX12_factOf 82 = .ok (.aload_n 0, 1) := by decide +kernel
theorem dX12_factOf_83 : decode cX12_factOf 83 = .ok (.iload_n 3, 1) := by decide +kernel
theorem dX12_factOf_84 : decode cX12_factOf 84 = .ok (.iconst 2, 1) := by decide +kernel
theorem dX12_factOf_85 : decode cX12_factOf 85 = .ok (.invokevirtual 285, 3) := by decide +kernel
theorem dX12_factOf_88 : decode cX12_factOf 88 = .ok (.ireturn, 1) := by decide +kernel
theorem dX12_factOf_89 : decode cX12_factOf 89 = .ok (.aload_n 0, 1) := by decide +kernel
theorem dX12_factOf_90 : decode cX12_factOf 90 = .ok (.getfield 13, 3) := by decide +kernel
theorem dX12_factOf_93 : decode cX12_factOf 93 = .ok (.iconst 3, 1) := by decide +kernel
theorem dX12_factOf_94 : decode cX12_factOf 94 = .ok (.iaload, 1) := by decide +kernel
theorem dX12_factOf_95 : decode cX12_factOf 95 = .ok (.ireturn, 1) := by decide +kernel
theorem dX12_factOf_96 : decode cX12_factOf 96 = .ok (.aload_n 0, 1) := by decide +kernel
theorem dX12_factOf_97 : decode cX12_factOf 97 = .ok (.iconst 0, 1) := by decide +kernel
theorem dX12_factOf_98 : decode cX12_factOf 98 = .ok (.invokevirtual 288, 3) := by decide +kernel
theorem dX12_factOf_101 : decode cX12_factOf 101 = .ok (.ireturn, 1) := by decide +kernel
theorem dX12_factOf_102 : decode cX12_factOf 102 = .ok (.aload_n 0, 1) := by decide +kernel
theorem dX12_factOf_103 : decode cX12_factOf 103 = .ok (.getfield 13, 3) := by decide +kernel
theorem dX12_factOf_106 : decode cX12_factOf 106 = .ok (.bipush 9, 2) := by decide +kernel
theorem dX12_factOf_108 : decode cX12_factOf 108 = .ok (.iaload, 1) := by decide +kernel
theorem dX12_factOf_109 : decode cX12_factOf 109 = .ok (.bipush 12, 2) := by decide +kernel
theorem dX12_factOf_111 : decode cX12_factOf 111 = .ok (.irem, 1) := by decide +kernel
theorem dX12_factOf_112 : decode cX12_factOf 112 = .ok (.ireturn, 1) := by decide +kernel
theorem dX12_factOf_113 : decode cX12_factOf 113 = .ok (.aload_n 0, 1) := by decide +kernel
theorem dX12_factOf_114 : decode cX12_factOf 114 = .ok (.getfield 13, 3) := by decide +kernel
theorem dX12_factOf_117 : decode cX12_factOf 117 = .ok (.iconst 4, 1) := by decide +kernel
theorem dX12_factOf_118 : decode cX12_factOf 118 = .ok (.iaload, 1) := by decide +kernel
theorem dX12_factOf_119 : decode cX12_factOf 119 = .ok (.ireturn, 1) := by decide +kernel
theorem dX12_factOf_120 : decode cX12_factOf 120 = .ok (.aload_n 0, 1) := by decide +kernel
theorem dX12_factOf_121 : decode cX12_factOf 121 = .ok (.getfield 13, 3) := by decide +kernel
theorem dX12_factOf_124 : decode cX12_factOf 124 = .ok (.iconst 3, 1) := by decide +kernel
theorem dX12_factOf_125 : decode cX12_factOf 125 = .ok (.iaload, 1) := by decide +kernel
theorem dX12_factOf_126 : decode cX12_factOf 126 = .ok (.iconst 2, 1) := by decide +kernel
theorem dX12_factOf_127 : decode cX12_factOf 127 = .ok (.if_icmp .gt 7, 3) := by decide +kernel
theorem dX12_factOf_130 : decode cX12_factOf 130 = .ok (.iconst 1, 1) := by decide +kernel
theorem dX12_factOf_131 : decode cX12_factOf 131 = .ok (.goto 4, 3) := by decide +kernel
theorem dX12_factOf_134 : decode cX12_factOf 134 = .ok (.iconst 0, 1) := by decide +kernel
theorem dX12_factOf_135 : decode cX12_factOf 135 = .ok (.ireturn, 1) := by decide +kernel
theorem dX12_factOf_136 : decode cX12_factOf 136 = .ok (.aload_n 0, 1) := by decide +kernel
theorem dX12_factOf_137 : decode cX12_factOf 137 = .ok (.iload_n 3, 1) := by decide +kernel
theorem dX12_factOf_138 : decode cX12_factOf 138 = .ok (.iconst 5, 1) := by decide +kernel
theorem dX12_factOf_139 : decode cX12_factOf 139 = .ok (.invokevirtual 285, 3) := by decide +kernel
theorem dX12_factOf_142 : decode cX12_factOf 142 = .ok (.ireturn, 1) := by decide +kernel
theorem dX12_factOf_143 : decode cX12_factOf 143 = .ok (.iload_n 2, 1) := by decide +kernel
theorem dX12_factOf_144 : decode cX12_factOf 144 = .ok (.ireturn, 1) := by decide +kernel
theorem dX12_holdsLine_0 : decode cX12_holdsLine 0 = .ok (.iconst 0, 1) := by decide +kernel
theorem dX12_holdsLine_1 : decode cX12_holdsLine 1 = .ok (.istore_n 3, 1) := by decide +kernel
theorem dX12_holdsLine_2 : decode cX12_holdsLine 2 = .ok (.sipush 374, 3) := by decide +kernel
theorem dX12_holdsLine_5 : decode cX12_holdsLine 5 = .ok (.iconst 4, 1) := by decide +kernel
theorem dX12_holdsLine_6 : decode cX12_holdsLine 6 = .ok (.iload_n 1, 1) := by decide +kernel
theorem dX12_holdsLine_7 : decode cX12_holdsLine 7 = .ok (.imul, 1) := by decide +kernel
theorem dX12_holdsLine_8 : decode cX12_holdsLine 8 = .ok (.iadd, 1) := by decide +kernel
theorem dX12_holdsLine_9 : decode cX12_holdsLine 9 = .ok (.istore 4, 2) := by decide +kernel
theorem dX12_holdsLine_11 : decode cX12_holdsLine 11 = .ok (.aload_n 0, 1) := by decide +kernel
theorem dX12_holdsLine_12 : decode cX12_holdsLine 12 = .ok (.getfield 13, 3) := by decide +kernel
theorem dX12_holdsLine_15 : decode cX12_holdsLine 15 = .ok (.iload 4, 2) := by decide +kernel
theorem dX12_holdsLine_17 : decode cX12_holdsLine 17 = .ok (.iconst 2, 1) := by decide +kernel
theorem dX12_holdsLine_18 : decode cX12_holdsLine 18 = .ok (.iadd, 1) := by decide +kernel
theorem dX12_holdsLine_19 : decode cX12_holdsLine 19 = .ok (.iaload, 1) := by decide +kernel
theorem dX12_holdsLine_20 : decode cX12_holdsLine 20 = .ok (.istore 5, 2) := by decide +kernel
theorem dX12_holdsLine_22 : decode cX12_holdsLine 22 = .ok (.iload 5, 2) := by decide +kernel
theorem dX12_holdsLine_24 : decode cX12_holdsLine 24 = .ok (.aload_n 0, 1) := by decide +kernel
theorem dX12_holdsLine_25 : decode cX12_holdsLine 25 = .ok (.getfield 13, 3) := by decide +kernel
theorem dX12_holdsLine_28 : decode cX12_holdsLine 28 = .ok (.iload 4, 2) := by decide +kernel
theorem dX12_holdsLine_30 : decode cX12_holdsLine 30 = .ok (.iconst 3, 1) := by decide +kernel
theorem dX12_holdsLine_31 : decode cX12_holdsLine 31 = .ok (.iadd, 1) := by decide +kernel
theorem dX12_holdsLine_32 : decode cX12_holdsLine 32 = .ok (.iaload, 1) := by decide +kernel
theorem dX12_holdsLine_33 : decode cX12_holdsLine 33 = .ok (.if_icmp .ge 230, 3) := by decide +kernel
theorem dX12_holdsLine_36 : decode cX12_holdsLine 36 = .ok (.aload_n 0, 1) := by decide +kernel
theorem dX12_holdsLine_37 : decode cX12_holdsLine 37 = .ok (.getfield 13, 3) := by decide +kernel
theorem dX12_holdsLine_40 : decode cX12_holdsLine 40 = .ok (.sipush 422, 3) := by decide +kernel
theorem dX12_holdsLine_43 : decode cX12_holdsLine 43 = .ok (.iconst 2, 1) := by decide +kernel
theorem dX12_holdsLine_44 : decode cX12_holdsLine 44 = .ok (.iload 5, 2) := by decide +kernel
theorem dX12_holdsLine_46 : decode cX12_holdsLine 46 = .ok (.imul, 1) := by decide +kernel
theorem dX12_holdsLine_47 : decode cX12_holdsLine 47 = .ok (.iadd, 1) := by decide +kernel
theorem dX12_holdsLine_48 : decode cX12_holdsLine 48 = .ok (.iaload, 1) := by decide +kernel
theorem dX12_holdsLine_49 : decode cX12_holdsLine 49 = .ok (.istore 6, 2) := by decide +kernel
theorem dX12_holdsLine_51 : decode cX12_holdsLine 51 = .ok (.iload 6, 2) := by decide +kernel
theorem dX12_holdsLine_53 : decode cX12_holdsLine 53 = .ok (.bipush 10, 2) := by decide +kernel
theorem dX12_holdsLine_55 : decode cX12_holdsLine 55 = .ok (.if_icmp .gt 37, 3) := by decide +kernel
theorem dX12_holdsLine_58 : decode cX12_holdsLine 58 = .ok (.aload_n 0, 1) := by decide +kernel
theorem dX12_holdsLine_59 : decode cX12_holdsLine 59 = .ok (.getfield 39, 3) := by decide +kernel
theorem dX12_holdsLine_62 : decode cX12_holdsLine 62 = .ok (.iload_n 3, 1) := by decide +kernel
theorem dX12_holdsLine_63 : decode cX12_holdsLine 63 = .ok (.aload_n 0, 1) := by decide +kernel
theorem dX12_holdsLine_64 : decode cX12_holdsLine 64 = .ok (.iload 6, 2) := by decide +kernel
theorem dX12_holdsLine_66 : decode cX12_holdsLine 66 = .ok (.aload_n 0, 1) := by decide +kernel
theorem dX12_holdsLine_67 : decode cX12_holdsLine 67 = .ok (.getfield 13, 3) := by decide +kernel
theorem dX12_holdsLine_70 : decode cX12_holdsLine 70 = .ok (.sipush 422, 3) := by decide +kernel
theorem dX12_holdsLine_73 : decode cX12_holdsLine 73 = .ok (.iconst 2, 1) := by decide +kernel
theorem dX12_holdsLine_74 : decode cX12_holdsLine 74 = .ok (.iload 5, 2) := by decide +kernel
theorem dX12_holdsLine_76 : decode cX12_holdsLine 76 = .ok (.imul, 1) := by decide +kernel
theorem dX12_holdsLine_77 : decode cX12_holdsLine 77 = .ok (.iadd, 1) := by decide +kernel
theorem dX12_holdsLine_78 : decode cX12_holdsLine 78 = .ok (.iconst 1, 1) := by decide +kernel
theorem dX12_holdsLine_79 : decode cX12_holdsLine 79 = .ok (.iadd, 1) := by decide +kernel
theorem dX12_holdsLine_80 : decode cX12_holdsLine 80 = .ok (.iaload, 1) := by decide +kernel
theorem dX12_holdsLine_81 : decode cX12_holdsLine 81 = .ok (.iload_n 2, 1) := by decide +kernel
theorem dX12_holdsLine_82 : decode cX12_holdsLine 82 = .ok (.invokevirtual 291, 3) := by decide +kernel
theorem dX12_holdsLine_85 : decode cX12_holdsLine 85 = .ok (.iastore, 1) := by decide +kernel
theorem dX12_holdsLine_86 : decode cX12_holdsLine 86 = .ok (.iinc 3 1, 3) := by decide +kernel
theorem dX12_holdsLine_89 : decode cX12_holdsLine 89 = .ok (.goto 168, 3) := by decide +kernel
theorem dX12_holdsLine_92 : decode cX12_holdsLine 92 = .ok (.iload 6, 2) := by decide +kernel
theorem dX12_holdsLine_94 : decode cX12_holdsLine 94 = .ok (.bipush 14, 2) := by decide +kernel
theorem dX12_holdsLine_96 : decode cX12_holdsLine 96 = .ok (.if_icmp .ne 24, 3) := by decide +kernel
theorem dX12_holdsLine_99 : decode cX12_holdsLine 99 = .ok (.aload_n 0, 1) := by decide +kernel
theorem dX12_holdsLine_100 : decode cX12_holdsLine 100 = .ok (.getfield 39, 3) := by decide +kernel
theorem dX12_holdsLine_103 : decode cX12_holdsLine 103 = .ok (.iload_n 3, 1) := by decide +kernel
theorem dX12_holdsLine_104 : decode cX12_holdsLine 104 = .ok (.iconst 1, 1) := by decide +kernel
theorem dX12_holdsLine_105 : decode cX12_holdsLine 105 = .ok (.isub, 1) := by decide +kernel
theorem dX12_holdsLine_106 : decode cX12_holdsLine 106 = .ok (.iconst 1, 1) := by decide +kernel
theorem dX12_holdsLine_107 : decode cX12_holdsLine 107 = .ok (.aload_n 0, 1) := by decide +kernel
theorem dX12_holdsLine_108 : decode cX12_holdsLine 108 = .ok (.getfield 39, 3) := by decide +kernel
theorem dX12_holdsLine_111 : decode cX12_holdsLine 111 = .ok (.iload_n 3, 1) := by decide +kernel
theorem dX12_holdsLine_112 : decode cX12_holdsLine 112 = .ok (.iconst 1, 1) := by decide +kernel
theorem dX12_holdsLine_113 : decode cX12_holdsLine 113 = .ok (.isub, 1) := by decide +kernel
theorem dX12_holdsLine_114 : decode cX12_holdsLine 114 = .ok (.iaload, 1) := by decide +kernel
theorem dX12_holdsLine_115 : decode cX12_holdsLine 115 = .ok (.isub, 1) := by decide +kernel
theorem dX12_holdsLine_116 : decode cX12_holdsLine 116 = .ok (.iastore, 1) := by decide +kernel
theorem dX12_holdsLine_117 : decode cX12_holdsLine 117 = .ok (.goto 140, 3) := by decide +kernel
theorem dX12_holdsLine_120 : decode cX12_holdsLine 120 = .ok (.iinc 3 (-1), 3) := by decide +kernel
theorem dX12_holdsLine_123 : decode cX12_holdsLine 123 = .ok (.aload_n 0, 1) := by decide +kernel
theorem dX12_holdsLine_124 : decode cX12_holdsLine 124 = .ok (.getfield 39, 3) := by decide +kernel
theorem dX12_holdsLine_127 : decode cX12_holdsLine 127 = .ok (.iload_n 3, 1) := by decide +kernel
theorem dX12_holdsLine_128 : decode cX12_holdsLine 128 = .ok (.iconst 1, 1) := by decide +kernel
theorem dX12_holdsLine_129 : decode cX12_holdsLine 129 = .ok (.isub, 1) := by decide +kernel
theorem dX12_holdsLine_130 : decode cX12_holdsLine 130 = .ok (.iaload, 1) := by decide +kernel
theorem dX12_holdsLine_131 : decode cX12_holdsLine 131 = .ok (.istore 7, 2) := by decide +kernel
theorem dX12_holdsLine_133 : decode cX12_holdsLine 133 = .ok (.aload_n 0, 1) := by decide +kernel
theorem dX12_holdsLine_134 : decode cX12_holdsLine 134 = .ok (.getfield 39, 3) := by decide +kernel
theorem dX12_holdsLine_137 : decode cX12_holdsLine 137 = .ok (.iload_n 3, 1) := by decide +kernel
theorem dX12_holdsLine_138 : decode cX12_holdsLine 138 = .ok (.iaload, 1) := by decide +kernel
theorem dX12_holdsLine_139 : decode cX12_holdsLine 139 = .ok (.istore 8, 2) := by decide +kernel
theorem dX12_holdsLine_141 : decode cX12_holdsLine 141 = .ok (.iload 6, 2) := by decide +kernel
theorem dX12_holdsLine_143 : decode cX12_holdsLine 143 = .ok (.bipush 12, 2) := by decide +kernel
theorem dX12_holdsLine_145 : decode cX12_holdsLine 145 = .ok (.if_icmp .ne 18, 3) := by decide +kernel
theorem dX12_holdsLine_148 : decode cX12_holdsLine 148 = .ok (.iload 7, 2) := by decide +kernel
theorem dX12_holdsLine_150 : decode cX12_holdsLine 150 = .ok (.iload 8, 2) := by decide +kernel
theorem dX12_holdsLine_152 : decode cX12_holdsLine 152 = .ok (.if_icmp .ge 7, 3) := by decide +kernel
theorem dX12_holdsLine_155 : decode cX12_holdsLine 155 = .ok (.iconst 1, 1) := by decide +kernel
theorem dX12_holdsLine_156 : decode cX12_holdsLine 156 = .ok (.goto 66, 3) := by decide +kernel
theorem dX12_holdsLine_159 : decode cX12_holdsLine 159 = .ok (.iconst 0, 1) := by decide +kernel
theorem dX12_holdsLine_160 : decode cX12_holdsLine 160 = .ok (.goto 62, 3) := by decide +kernel
theorem dX12_holdsLine_163 : decode cX12_holdsLine 163 = .ok (.iload 6, 2) := by decide +kernel
theorem dX12_holdsLine_165 : decode cX12_holdsLine 165 = .ok (.bipush 13, 2) := by decide +kernel
theorem dX12_holdsLine_167 : decode cX12_holdsLine 167 = .ok (.if_icmp .ne 18, 3) := by decide +kernel
theorem dX12_holdsLine_170 : decode cX12_holdsLine 170 = .ok (.iload 7, 2) := by decide +kernel
theorem dX12_holdsLine_172 : decode cX12_holdsLine 172 = .ok (.iload 8, 2) := by decide +kernel
theorem dX12_holdsLine_174 : decode cX12_holdsLine 174 = .ok (.if_icmp .le 7, 3) := by decide +kernel
theorem dX12_holdsLine_177 : decode cX12_holdsLine 177 = .ok (.iconst 1, 1) := by decide +kernel
theorem dX12_holdsLine_178 : decode cX12_holdsLine 178 = .ok (.goto 44, 3) := by decide +kernel
theorem dX12_holdsLine_181 : decode cX12_holdsLine 181 = .ok (.iconst 0, 1) := by decide +kernel
theorem dX12_holdsLine_182 : decode cX12_holdsLine 182 = .ok (.goto 40, 3) := by decide +kernel
theorem dX12_holdsLine_185 : decode cX12_holdsLine 185 = .ok (.iload 6, 2) := by decide +kernel
theorem dX12_holdsLine_187 : decode cX12_holdsLine 187 = .ok (.bipush 15, 2) := by decide +kernel
theorem dX12_holdsLine_189 : decode cX12_holdsLine 189 = .ok (.if_icmp .ne 20, 3) := by decide +kernel
theorem dX12_holdsLine_192 : decode cX12_holdsLine 192 = .ok (.iload 7, 2) := by decide +kernel
theorem dX12_holdsLine_194 : decode cX12_holdsLine 194 = .ok (.iload 8, 2) := by decide +kernel
theorem dX12_holdsLine_196 : decode cX12_holdsLine 196 = .ok (.iadd, 1) := by decide +kernel
theorem dX12_holdsLine_197 : decode cX12_holdsLine 197 = .ok (.iconst 2, 1) := by decide +kernel
theorem dX12_holdsLine_198 : decode cX12_holdsLine 198 = .ok (.if_icmp .ne 7, 3) := by decide +kernel
theorem dX12_holdsLine_201 : decode cX12_holdsLine 201 = .ok (.iconst 1, 1) := by decide +kernel
theorem dX12_holdsLine_202 : decode cX12_holdsLine 202 = .ok (.goto 20, 3) := by decide +kernel
theorem dX12_holdsLine_205 : decode cX12_holdsLine 205 = .ok (.iconst 0, 1) := by decide +kernel
theorem dX12_holdsLine_206 : decode cX12_holdsLine 206 = .ok (.goto 16, 3) := by decide +kernel
theorem dX12_holdsLine_209 : decode cX12_holdsLine 209 = .ok (.iload 7, 2) := by decide +kernel
theorem dX12_holdsLine_211 : decode cX12_holdsLine 211 = .ok (.iload 8, 2) := by decide +kernel
theorem dX12_holdsLine_213 : decode cX12_holdsLine 213 = .ok (.iadd, 1) := by decide +kernel
theorem dX12_holdsLine_214 : decode cX12_holdsLine 214 = .ok (.ifCond .le 7, 3) := by decide +kernel
theorem dX12_holdsLine_217 : decode cX12_holdsLine 217 = .ok (.iconst 1, 1) := by decide +kernel
theorem dX12_holdsLine_218 : decode cX12_holdsLine 218 = .ok (.goto 4, 3) := by decide +kernel
theorem dX12_holdsLine_221 : decode cX12_holdsLine 221 = .ok (.iconst 0, 1) := by decide +kernel
theorem dX12_holdsLine_222 : decode cX12_holdsLine 222 = .ok (.istore 9, 2) := by decide +kernel
theorem dX12_holdsLine_224 : decode cX12_holdsLine 224 = .ok (.aload_n 0, 1) := by decide +kernel
theorem dX12_holdsLine_225 : decode cX12_holdsLine 225 = .ok (.getfield 39, 3) := by decide +kernel
theorem dX12_holdsLine_228 : decode cX12_holdsLine 228 = .ok (.iload_n 3, 1) := by decide +kernel
theorem dX12_holdsLine_229 : decode cX12_holdsLine 229 = .ok (.iconst 1, 1) := by decide +kernel
theorem dX12_holdsLine_230 : decode cX12_holdsLine 230 = .ok (.isub, 1) := by decide +kernel
theorem dX12_holdsLine_231 : decode cX12_holdsLine 231 = .ok (.iload 6, 2) := by decide +kernel
theorem dX12_holdsLine_233 : decode cX12_holdsLine 233 = .ok (.bipush 11, 2) := by decide +kernel
theorem dX12_holdsLine_235 : decode cX12_holdsLine 235 = .ok (.if_icmp .ne 11, 3) := by decide +kernel
theorem dX12_holdsLine_238 : decode cX12_holdsLine 238 = .ok (.iload 7, 2) := by decide +kernel
theorem dX12_holdsLine_240 : decode cX12_holdsLine 240 = .ok (.iload 8, 2) := by decide +kernel
theorem dX12_holdsLine_242 : decode cX12_holdsLine 242 = .ok (.iadd, 1) := by decide +kernel
theorem dX12_holdsLine_243 : decode cX12_holdsLine 243 = .ok (.goto 13, 3) := by decide +kernel
theorem dX12_holdsLine_246 : decode cX12_holdsLine 246 = .ok (.iload 9, 2) := by decide +kernel
theorem dX12_holdsLine_248 : decode cX12_holdsLine 248 = .ok (.ifCond .eq 7, 3) := by decide +kernel
theorem dX12_holdsLine_251 : decode cX12_holdsLine 251 = .ok (.iconst 1, 1) := by decide +kernel
theorem dX12_holdsLine_252 : decode cX12_holdsLine 252 = .ok (.goto 4, 3) := by decide +kernel
theorem dX12_holdsLine_255 : decode cX12_holdsLine 255 = .ok (.iconst 0, 1) := by decide +kernel
theorem dX12_holdsLine_256 : decode cX12_holdsLine 256 = .ok (.iastore, 1) := by decide +kernel
theorem dX12_holdsLine_257 : decode cX12_holdsLine 257 = .ok (.iinc 5 1, 3) := by decide +kernel
theorem dX12_holdsLine_260 : decode cX12_holdsLine 260 = .ok (.goto (-238), 3) := by decide +kernel
theorem dX12_holdsLine_263 : decode cX12_holdsLine 263 = .ok (.iload_n 3, 1) := by decide +kernel
theorem dX12_holdsLine_264 : decode cX12_holdsLine 264 = .ok (.ifCond .eq 13, 3) := by decide +kernel
theorem dX12_holdsLine_267 : decode cX12_holdsLine 267 = .ok (.aload_n 0, 1) := by decide +kernel
theorem dX12_holdsLine_268 : decode cX12_holdsLine 268 = .ok (.getfield 39, 3) := by decide +kernel
theorem dX12_holdsLine_271 : decode cX12_holdsLine 271 = .ok (.iconst 0, 1) := by decide +kernel
theorem dX12_holdsLine_272 : decode cX12_holdsLine 272 = .ok (.iaload, 1) := by decide +kernel
theorem dX12_holdsLine_273 : decode cX12_holdsLine 273 = .ok (.iconst 1, 1) := by decide +kernel
theorem dX12_holdsLine_274 : decode cX12_holdsLine 274 = .ok (.if_icmp .ne 7, 3) := by decide +kernel
theorem dX12_holdsLine_277 : decode cX12_holdsLine 277 = .ok (.iconst 1, 1) := by decide +kernel
theorem dX12_holdsLine_278 : decode cX12_holdsLine 278 = .ok (.goto 4, 3) := by decide +kernel
theorem dX12_holdsLine_281 : decode cX12_holdsLine 281 = .ok (.iconst 0, 1) := by decide +kernel
theorem dX12_holdsLine_282 : decode cX12_holdsLine 282 = .ok (.ireturn, 1) := by decide +kernel
theorem dX12_sumOf_0 : decode cX12_sumOf 0 = .ok (.iconst 0, 1) := by decide +kernel
theorem dX12_sumOf_1 : decode cX12_sumOf 1 = .ok (.istore_n 3, 1) := by decide +kernel
theorem dX12_sumOf_2 : decode cX12_sumOf 2 = .ok (.iconst 0, 1) := by decide +kernel
theorem dX12_sumOf_3 : decode cX12_sumOf 3 = .ok (.istore 4, 2) := by decide +kernel
theorem dX12_sumOf_5 : decode cX12_sumOf 5 = .ok (.aload_n 0, 1) := by decide +kernel
theorem dX12_sumOf_6 : decode cX12_sumOf 6 = .ok (.getfield 13, 3) := by decide +kernel
theorem dX12_sumOf_9 : decode cX12_sumOf 9 = .ok (.iconst 2, 1) := by decide +kernel
theorem dX12_sumOf_10 : decode cX12_sumOf 10 = .ok (.iaload, 1) := by decide +kernel
theorem dX12_sumOf_11 : decode cX12_sumOf 11 = .ok (.iconst 1, 1) := by decide +kernel
theorem dX12_sumOf_12 : decode cX12_sumOf 12 = .ok (.if_icmp .ne 67, 3) := by decide +kernel
theorem dX12_sumOf_15 : decode cX12_sumOf 15 = .ok (.iload 4, 2) := by decide +kernel
theorem dX12_sumOf_17 : decode cX12_sumOf 17 = .ok (.aload_n 0, 1) := by decide +kernel
theorem dX12_sumOf_18 : decode cX12_sumOf 18 = .ok (.getfield 13, 3) := by decide +kernel
theorem dX12_sumOf_21 : decode cX12_sumOf 21 = .ok (.sipush 373, 3) := by decide +kernel
theorem dX12_sumOf_24 : decode cX12_sumOf 24 = .ok (.iaload, 1) := by decide +kernel
theorem dX12_sumOf_25 : decode cX12_sumOf 25 = .ok (.if_icmp .ge 54, 3) := by decide +kernel
theorem dX12_sumOf_28 : decode cX12_sumOf 28 = .ok (.aload_n 0, 1) := by decide +kernel
theorem dX12_sumOf_29 : decode cX12_sumOf 29 = .ok (.getfield 13, 3) := by decide +kernel
theorem dX12_sumOf_32 : decode cX12_sumOf 32 = .ok (.sipush 374, 3) := by decide +kernel
theorem dX12_sumOf_35 : decode cX12_sumOf 35 = .ok (.iconst 4, 1) := by decide +kernel
theorem dX12_sumOf_36 : decode cX12_sumOf 36 = .ok (.iload 4, 2) := by decide +kernel
theorem dX12_sumOf_38 : decode cX12_sumOf 38 = .ok (.imul, 1) := by decide +kernel
theorem dX12_sumOf_39 : decode cX12_sumOf 39 = .ok (.iadd, 1) := by decide +kernel
theorem dX12_sumOf_40 : decode cX12_sumOf 40 = .ok (.iaload, 1) := by decide +kernel
theorem dX12_sumOf_41 : decode cX12_sumOf 41 = .ok (.iload_n 1, 1) := by decide +kernel
theorem dX12_sumOf_42 : decode cX12_sumOf 42 = .ok (.if_icmp .ne 31, 3) := by decide +kernel
theorem dX12_sumOf_45 : decode cX12_sumOf 45 = .ok (.aload_n 0, 1) := by decide +kernel
theorem dX12_sumOf_46 : decode cX12_sumOf 46 = .ok (.iload 4, 2) := by decide +kernel
theorem dX12_sumOf_48 : decode cX12_sumOf 48 = .ok (.iload_n 2, 1) := by decide +kernel
theorem dX12_sumOf_49 : decode cX12_sumOf 49 = .ok (.invokevirtual 295, 3) := by decide +kernel
theorem dX12_sumOf_52 : decode cX12_sumOf 52 = .ok (.ifCond .eq 21, 3) := by decide +kernel
theorem dX12_sumOf_55 : decode cX12_sumOf 55 = .ok (.iload_n 3, 1) := by decide +kernel
theorem dX12_sumOf_56 : decode cX12_sumOf 56 = .ok (.aload_n 0, 1) := by decide +kernel
theorem dX12_sumOf_57 : decode cX12_sumOf 57 = .ok (.getfield 13, 3) := by decide +kernel
theorem dX12_sumOf_60 : decode cX12_sumOf 60 = .ok (.sipush 374, 3) := by decide +kernel
theorem dX12_sumOf_63 : decode cX12_sumOf 63 = .ok (.iconst 4, 1) := by decide +kernel
theorem dX12_sumOf_64 : decode cX12_sumOf 64 = .ok (.iload 4, 2) := by decide +kernel
theorem dX12_sumOf_66 : decode cX12_sumOf 66 = .ok (.imul, 1) := by decide +kernel
theorem dX12_sumOf_67 : decode cX12_sumOf 67 = .ok (.iadd, 1) := by decide +kernel
theorem dX12_sumOf_68 : decode cX12_sumOf 68 = .ok (.iconst 1, 1) := by decide +kernel
theorem dX12_sumOf_69 : decode cX12_sumOf 69 = .ok (.iadd, 1) := by decide +kernel
theorem dX12_sumOf_70 : decode cX12_sumOf 70 = .ok (.iaload, 1) := by decide +kernel
theorem dX12_sumOf_71 : decode cX12_sumOf 71 = .ok (.iadd, 1) := by decide +kernel
theorem dX12_sumOf_72 : decode cX12_sumOf 72 = .ok (.istore_n 3, 1) := by decide +kernel
theorem dX12_sumOf_73 : decode cX12_sumOf 73 = .ok (.iinc 4 1, 3) := by decide +kernel
theorem dX12_sumOf_76 : decode cX12_sumOf 76 = .ok (.goto (-71), 3) := by decide +kernel
theorem dX12_sumOf_79 : decode cX12_sumOf 79 = .ok (.iload_n 3, 1) := by decide +kernel
theorem dX12_sumOf_80 : decode cX12_sumOf 80 = .ok (.ireturn, 1) := by decide +kernel
theorem dX12_pullsNow_0 : decode cX12_pullsNow 0 = .ok (.aload_n 0, 1) := by decide +kernel
theorem dX12_pullsNow_1 : decode cX12_pullsNow 1 = .ok (.getfield 13, 3) := by decide +kernel
theorem dX12_pullsNow_4 : decode cX12_pullsNow 4 = .ok (.iconst 5, 1) := by decide +kernel
theorem dX12_pullsNow_5 : decode cX12_pullsNow 5 = .ok (.iaload, 1) := by decide +kernel
theorem dX12_pullsNow_6 : decode cX12_pullsNow 6 = .ok (.aload_n 0, 1) := by decide +kernel
theorem dX12_pullsNow_7 : decode cX12_pullsNow 7 = .ok (.iconst 0, 1) := by decide +kernel
theorem dX12_pullsNow_8 : decode cX12_pullsNow 8 = .ok (.iconst (-1), 1) := by decide +kernel
theorem dX12_pullsNow_9 : decode cX12_pullsNow 9 = .ok (.invokevirtual 298, 3) := by decide +kernel
theorem dX12_pullsNow_12 : decode cX12_pullsNow 12 = .ok (.iadd, 1) := by decide +kernel
theorem dX12_pullsNow_13 : decode cX12_pullsNow 13 = .ok (.ireturn, 1) := by decide +kernel
theorem dX12_leaksNow_0 : decode cX12_leaksNow 0 = .ok (.aload_n 0, 1) := by decide +kernel
theorem dX12_leaksNow_1 : decode cX12_leaksNow 1 = .ok (.iconst 0, 1) := by decide +kernel
theorem dX12_leaksNow_2 : decode cX12_leaksNow 2 = .ok (.invokevirtual 288, 3) := by decide +kernel
theorem dX12_leaksNow_5 : decode cX12_leaksNow 5 = .ok (.aload_n 0, 1) := by decide +kernel
theorem dX12_leaksNow_6 : decode cX12_leaksNow 6 = .ok (.getfield 13, 3) := by decide +kernel
theorem dX12_leaksNow_9 : decode cX12_leaksNow 9 = .ok (.iconst 3, 1) := by decide +kernel
theorem dX12_leaksNow_10 : decode cX12_leaksNow 10 = .ok (.iaload, 1) := by decide +kernel
theorem dX12_leaksNow_11 : decode cX12_leaksNow 11 = .ok (.if_icmp .le 7, 3) := by decide +kernel
theorem dX12_leaksNow_14 : decode cX12_leaksNow 14 = .ok (.iconst 1, 1) := by decide +kernel
theorem dX12_leaksNow_15 : decode cX12_leaksNow 15 = .ok (.goto 4, 3) := by decide +kernel
theorem dX12_leaksNow_18 : decode cX12_leaksNow 18 = .ok (.iconst 0, 1) := by decide +kernel
theorem dX12_leaksNow_19 : decode cX12_leaksNow 19 = .ok (.aload_n 0, 1) := by decide +kernel
theorem dX12_leaksNow_20 : decode cX12_leaksNow 20 = .ok (.iconst 1, 1) := by decide +kernel
theorem dX12_leaksNow_21 : decode cX12_leaksNow 21 = .ok (.iconst (-1), 1) := by decide +kernel
theorem dX12_leaksNow_22 : decode cX12_leaksNow 22 = .ok (.invokevirtual 298, 3) := by decide +kernel
theorem dX12_leaksNow_25 : decode cX12_leaksNow 25 = .ok (.iadd, 1) := by decide +kernel
theorem dX12_leaksNow_26 : decode cX12_leaksNow 26 = .ok (.ireturn, 1) := by decide +kernel
theorem dX12_feeOf_0 : decode cX12_feeOf 0 = .ok (.iconst 3, 1) := by decide +kernel
theorem dX12_feeOf_1 : decode cX12_feeOf 1 = .ok (.aload_n 0, 1) := by decide +kernel
theorem dX12_feeOf_2 : decode cX12_feeOf 2 = .ok (.iload_n 1, 1) := by decide +kernel
theorem dX12_feeOf_3 : decode cX12_feeOf 3 = .ok (.iconst 0, 1) := by decide +kernel
theorem dX12_feeOf_4 : decode cX12_feeOf 4 = .ok (.invokevirtual 85, 3) := by decide +kernel
theorem dX12_feeOf_7 : decode cX12_feeOf 7 = .ok (.imul, 1) := by decide +kernel
theorem dX12_feeOf_8 : decode cX12_feeOf 8 = .ok (.aload_n 0, 1) := by decide +kernel
theorem dX12_feeOf_9 : decode cX12_feeOf 9 = .ok (.iconst 2, 1) := by decide +kernel
theorem dX12_feeOf_10 : decode cX12_feeOf 10 = .ok (.iload_n 1, 1) := by decide +kernel
theorem dX12_feeOf_11 : decode cX12_feeOf 11 = .ok (.invokevirtual 298, 3) := by decide +kernel
theorem dX12_feeOf_14 : decode cX12_feeOf 14 = .ok (.iadd, 1) := by decide +kernel
theorem dX12_feeOf_15 : decode cX12_feeOf 15 = .ok (.ireturn, 1) := by decide +kernel
theorem dX12_isEven_0 : decode cX12_isEven 0 = .ok (.aload_n 0, 1) := by decide +kernel
theorem dX12_isEven_1 : decode cX12_isEven 1 = .ok (.getfield 13, 3) := by decide +kernel
theorem dX12_isEven_4 : decode cX12_isEven 4 = .ok (.iconst 3, 1) := by decide +kernel
theorem dX12_isEven_5 : decode cX12_isEven 5 = .ok (.iaload, 1) := by decide +kernel
theorem dX12_isEven_6 : decode cX12_isEven 6 = .ok (.aload_n 0, 1) := by decide +kernel
theorem dX12_isEven_7 : decode cX12_isEven 7 = .ok (.iconst 0, 1) := by decide +kernel
theorem dX12_isEven_8 : decode cX12_isEven 8 = .ok (.invokevirtual 288, 3) := by decide +kernel
theorem dX12_isEven_11 : decode cX12_isEven 11 = .ok (.isub, 1) := by decide +kernel
theorem dX12_isEven_12 : decode cX12_isEven 12 = .ok (.invokestatic 301, 3) := by decide +kernel
theorem dX12_isEven_15 : decode cX12_isEven 15 = .ok (.iconst 1, 1) := by decide +kernel
theorem dX12_isEven_16 : decode cX12_isEven 16 = .ok (.if_icmp .gt 7, 3) := by decide +kernel
theorem dX12_isEven_19 : decode cX12_isEven 19 = .ok (.iconst 1, 1) := by decide +kernel
theorem dX12_isEven_20 : decode cX12_isEven 20 = .ok (.goto 4, 3) := by decide +kernel
theorem dX12_isEven_23 : decode cX12_isEven 23 = .ok (.iconst 0, 1) := by decide +kernel
theorem dX12_isEven_24 : decode cX12_isEven 24 = .ok (.ireturn, 1) := by decide +kernel
theorem dX12_sits_0 : decode cX12_sits 0 = .ok (.aload_n 0, 1) := by decide +kernel
theorem dX12_sits_1 : decode cX12_sits 1 = .ok (.iload_n 1, 1) := by decide +kernel
theorem dX12_sits_2 : decode cX12_sits 2 = .ok (.invokevirtual 88, 3) := by decide +kernel
theorem dX12_sits_5 : decode cX12_sits 5 = .ok (.ifCond .eq 22, 3) := by decide +kernel
theorem dX12_sits_8 : decode cX12_sits 8 = .ok (.aload_n 0, 1) := by decide +kernel
theorem dX12_sits_9 : decode cX12_sits 9 = .ok (.iload_n 1, 1) := by decide +kernel
theorem dX12_sits_10 : decode cX12_sits 10 = .ok (.iconst 1, 1) := by decide +kernel
theorem dX12_sits_11 : decode cX12_sits 11 = .ok (.invokevirtual 85, 3) := by decide +kernel
theorem dX12_sits_14 : decode cX12_sits 14 = .ok (.aload_n 0, 1) := by decide +kernel
theorem dX12_sits_15 : decode cX12_sits 15 = .ok (.getfield 13, 3) := by decide +kernel
theorem dX12_sits_18 : decode cX12_sits 18 = .ok (.iconst 3, 1) := by decide +kernel
theorem dX12_sits_19 : decode cX12_sits 19 = .ok (.iaload, 1) := by decide +kernel
theorem dX12_sits_20 : decode cX12_sits 20 = .ok (.if_icmp .le 7, 3) := by decide +kernel
theorem dX12_sits_23 : decode cX12_sits 23 = .ok (.iconst 1, 1) := by decide +kernel
theorem dX12_sits_24 : decode cX12_sits 24 = .ok (.goto 4, 3) := by decide +kernel
theorem dX12_sits_27 : decode cX12_sits 27 = .ok (.iconst 0, 1) := by decide +kernel
theorem dX12_sits_28 : decode cX12_sits 28 = .ok (.ireturn, 1) := by decide +kernel
theorem dX12_wedgesOf_0 : decode cX12_wedgesOf 0 = .ok (.aload_n 0, 1) := by decide +kernel
theorem dX12_wedgesOf_1 : decode cX12_wedgesOf 1 = .ok (.iload_n 1, 1) := by decide +kernel
theorem dX12_wedgesOf_2 : decode cX12_wedgesOf 2 = .ok (.iconst 4, 1) := by decide +kernel
theorem dX12_wedgesOf_3 : decode cX12_wedgesOf 3 = .ok (.invokevirtual 85, 3) := by decide +kernel
theorem dX12_wedgesOf_6 : decode cX12_wedgesOf 6 = .ok (.istore_n 2, 1) := by decide +kernel
theorem dX12_wedgesOf_7 : decode cX12_wedgesOf 7 = .ok (.aload_n 0, 1) := by decide +kernel
theorem dX12_wedgesOf_8 : decode cX12_wedgesOf 8 = .ok (.iload_n 1, 1) := by decide +kernel
theorem dX12_wedgesOf_9 : decode cX12_wedgesOf 9 = .ok (.iconst 0, 1) := by decide +kernel
theorem dX12_wedgesOf_10 : decode cX12_wedgesOf 10 = .ok (.invokevirtual 85, 3) := by decide +kernel
theorem dX12_wedgesOf_13 : decode cX12_wedgesOf 13 = .ok (.istore_n 3, 1) := by decide +kernel
theorem dX12_wedgesOf_14 : decode cX12_wedgesOf 14 = .ok (.iload_n 3, 1) := by decide +kernel
theorem dX12_wedgesOf_15 : decode cX12_wedgesOf 15 = .ok (.iconst 3, 1) := by decide +kernel
theorem dX12_wedgesOf_16 : decode cX12_wedgesOf 16 = .ok (.if_icmp .ge 25, 3) := by decide +kernel
theorem dX12_wedgesOf_19 : decode cX12_wedgesOf 19 = .ok (.aload_n 0, 1) := by decide +kernel
theorem dX12_wedgesOf_20 : decode cX12_wedgesOf 20 = .ok (.getfield 13, 3) := by decide +kernel
theorem dX12_wedgesOf_23 : decode cX12_wedgesOf 23 = .ok (.bipush 10, 2) := by decide +kernel
theorem dX12_wedgesOf_25 : decode cX12_wedgesOf 25 = .ok (.iaload, 1) := by decide +kernel
theorem dX12_wedgesOf_26 : decode cX12_wedgesOf 26 = .ok (.aload_n 0, 1) := by decide +kernel
theorem dX12_wedgesOf_27 : decode cX12_wedgesOf 27 = .ok (.iload_n 1, 1) := by decide +kernel
theorem dX12_wedgesOf_28 : decode cX12_wedgesOf 28 = .ok (.invokevirtual 99, 3) := by decide +kernel
theorem dX12_wedgesOf_31 : decode cX12_wedgesOf 31 = .ok (.iand, 1) := by decide +kernel
theorem dX12_wedgesOf_32 : decode cX12_wedgesOf 32 = .ok (.ifCond .ne 7, 3) := by decide +kernel
theorem dX12_wedgesOf_35 : decode cX12_wedgesOf 35 = .ok (.iconst 1, 1) := by decide +kernel
theorem dX12_wedgesOf_36 : decode cX12_wedgesOf 36 = .ok (.goto 4, 3) := by decide +kernel
theorem dX12_wedgesOf_39 : decode cX12_wedgesOf 39 = .ok (.iconst 0, 1) := by decide +kernel
theorem dX12_wedgesOf_40 : decode cX12_wedgesOf 40 = .ok (.ireturn, 1) := by decide +kernel
theorem dX12_wedgesOf_41 : decode cX12_wedgesOf 41 = .ok (.iconst 0, 1) := by decide +kernel
theorem dX12_wedgesOf_42 : decode cX12_wedgesOf 42 = .ok (.istore 4, 2) := by decide +kernel
theorem dX12_wedgesOf_44 : decode cX12_wedgesOf 44 = .ok (.iload_n 2, 1) := by decide +kernel
theorem dX12_wedgesOf_45 : decode cX12_wedgesOf 45 = .ok (.iconst 1, 1) := by decide +kernel
theorem dX12_wedgesOf_46 : decode cX12_wedgesOf 46 = .ok (.isub, 1) := by decide +kernel
theorem dX12_wedgesOf_47 : decode cX12_wedgesOf 47 = .ok (.istore 5, 2) := by decide +kernel
theorem dX12_wedgesOf_49 : decode cX12_wedgesOf 49 = .ok (.iload_n 2, 1) := by decide +kernel
theorem dX12_wedgesOf_50 : decode cX12_wedgesOf 50 = .ok (.istore 6, 2) := by decide +kernel
theorem dX12_wedgesOf_52 : decode cX12_wedgesOf 52 = .ok (.iload 6, 2) := by decide +kernel
theorem dX12_wedgesOf_54 : decode cX12_wedgesOf 54 = .ok (.iload_n 2, 1) := by decide +kernel
theorem dX12_wedgesOf_55 : decode cX12_wedgesOf 55 = .ok (.iload_n 3, 1) := by decide +kernel
theorem dX12_wedgesOf_56 : decode cX12_wedgesOf 56 = .ok (.iadd, 1) := by decide +kernel
theorem dX12_wedgesOf_57 : decode cX12_wedgesOf 57 = .ok (.if_icmp .ge 63, 3) := by decide +kernel
theorem dX12_wedgesOf_60 : decode cX12_wedgesOf 60 = .ok (.aload_n 0, 1) := by decide +kernel
theorem dX12_wedgesOf_61 : decode cX12_wedgesOf 61 = .ok (.getfield 13, 3) := by decide +kernel
theorem dX12_wedgesOf_64 : decode cX12_wedgesOf 64 = .ok (.bipush 10, 2) := by decide +kernel
theorem dX12_wedgesOf_66 : decode cX12_wedgesOf 66 = .ok (.iaload, 1) := by decide +kernel
theorem dX12_wedgesOf_67 : decode cX12_wedgesOf 67 = .ok (.iload 6, 2) := by decide +kernel
theorem dX12_wedgesOf_69 : decode cX12_wedgesOf 69 = .ok (.invokestatic 306, 3) := by decide +kernel
theorem dX12_wedgesOf_72 : decode cX12_wedgesOf 72 = .ok (.istore 7, 2) := by decide +kernel
theorem dX12_wedgesOf_74 : decode cX12_wedgesOf 74 = .ok (.iload 7, 2) := by decide +kernel
theorem dX12_wedgesOf_76 : decode cX12_wedgesOf 76 = .ok (.ifCond .ne 15, 3) := by decide +kernel
theorem dX12_wedgesOf_79 : decode cX12_wedgesOf 79 = .ok (.iload 6, 2) := by decide +kernel
theorem dX12_wedgesOf_81 : decode cX12_wedgesOf 81 = .ok (.iload 5, 2) := by decide +kernel
theorem dX12_wedgesOf_83 : decode cX12_wedgesOf 83 = .ok (.isub, 1) := by decide +kernel
theorem dX12_wedgesOf_84 : decode cX12_wedgesOf 84 = .ok (.iconst 3, 1) := by decide +kernel
theorem dX12_wedgesOf_85 : decode cX12_wedgesOf 85 = .ok (.if_icmp .ne 6, 3) := by decide +kernel
theorem dX12_wedgesOf_88 : decode cX12_wedgesOf 88 = .ok (.iinc 4 1, 3) := by decide +kernel
theorem dX12_wedgesOf_91 : decode cX12_wedgesOf 91 = .ok (.iload 7, 2) := by decide +kernel
theorem dX12_wedgesOf_93 : decode cX12_wedgesOf 93 = .ok (.ifCond .ne 12, 3) := by decide +kernel
theorem dX12_wedgesOf_96 : decode cX12_wedgesOf 96 = .ok (.iload 6, 2) := by decide +kernel
theorem dX12_wedgesOf_98 : decode cX12_wedgesOf 98 = .ok (.iload 5, 2) := by decide +kernel
theorem dX12_wedgesOf_100 : decode cX12_wedgesOf 100 = .ok (.isub, 1) := by decide +kernel
theorem dX12_wedgesOf_101 : decode cX12_wedgesOf 101 = .ok (.iconst 3, 1) := by decide +kernel
theorem dX12_wedgesOf_102 : decode cX12_wedgesOf 102 = .ok (.if_icmp .ne 8, 3) := by decide +kernel
theorem dX12_wedgesOf_105 : decode cX12_wedgesOf 105 = .ok (.iload 6, 2) := by decide +kernel
theorem dX12_wedgesOf_107 : decode cX12_wedgesOf 107 = .ok (.goto 5, 3) := by decide +kernel
theorem dX12_wedgesOf_110 : decode cX12_wedgesOf 110 = .ok (.iload 5, 2) := by decide +kernel
theorem dX12_wedgesOf_112 : decode cX12_wedgesOf 112 = .ok (.istore 5, 2) := by decide +kernel
theorem dX12_wedgesOf_114 : decode cX12_wedgesOf 114 = .ok (.iinc 6 1, 3) := by decide +kernel
theorem dX12_wedgesOf_117 : decode cX12_wedgesOf 117 = .ok (.goto (-65), 3) := by decide +kernel
theorem dX12_wedgesOf_120 : decode cX12_wedgesOf 120 = .ok (.iload 4, 2) := by decide +kernel
theorem dX12_wedgesOf_122 : decode cX12_wedgesOf 122 = .ok (.ireturn, 1) := by decide +kernel
theorem dX12_isBorne_0 : decode cX12_isBorne 0 = .ok (.aload_n 0, 1) := by decide +kernel
theorem dX12_isBorne_1 : decode cX12_isBorne 1 = .ok (.iload_n 1, 1) := by decide +kernel
theorem dX12_isBorne_2 : decode cX12_isBorne 2 = .ok (.invokevirtual 88, 3) := by decide +kernel
theorem dX12_isBorne_5 : decode cX12_isBorne 5 = .ok (.ifCond .eq 15, 3) := by decide +kernel
theorem dX12_isBorne_8 : decode cX12_isBorne 8 = .ok (.aload_n 0, 1) := by decide +kernel
theorem dX12_isBorne_9 : decode cX12_isBorne 9 = .ok (.iload_n 1, 1) := by decide +kernel
theorem dX12_isBorne_10 : decode cX12_isBorne 10 = .ok (.invokevirtual 309, 3) := by decide +kernel
theorem dX12_isBorne_13 : decode cX12_isBorne 13 = .ok (.ifCond .ne 7, 3) := by decide +kernel
theorem dX12_isBorne_16 : decode cX12_isBorne 16 = .ok (.iconst 1, 1) := by decide +kernel
theorem dX12_isBorne_17 : decode cX12_isBorne 17 = .ok (.goto 4, 3) := by decide +kernel
theorem dX12_isBorne_20 : decode cX12_isBorne 20 = .ok (.iconst 0, 1) := by decide +kernel
theorem dX12_isBorne_21 : decode cX12_isBorne 21 = .ok (.ireturn, 1) := by decide +kernel
theorem dX12_isTold_0 : decode cX12_isTold 0 = .ok (.sipush 299, 3) := by decide +kernel
theorem dX12_isTold_3 : decode cX12_isTold 3 = .ok (.istore 4, 2) := by decide +kernel
theorem dX12_isTold_5 : decode cX12_isTold 5 = .ok (.iload 4, 2) := by decide +kernel
theorem dX12_isTold_7 : decode cX12_isTold 7 = .ok (.iconst 5, 1) := by decide +kernel
theorem dX12_isTold_8 : decode cX12_isTold 8 = .ok (.if_icmp .lt 31, 3) := by decide +kernel
theorem dX12_isTold_11 : decode cX12_isTold 11 = .ok (.aload_n 0, 1) := by decide +kernel
theorem dX12_isTold_12 : decode cX12_isTold 12 = .ok (.getfield 13, 3) := by decide +kernel
theorem dX12_isTold_15 : decode cX12_isTold 15 = .ok (.bipush 73, 2) := by decide +kernel
theorem dX12_isTold_17 : decode cX12_isTold 17 = .ok (.iload 4, 2) := by decide +kernel
theorem dX12_isTold_19 : decode cX12_isTold 19 = .ok (.iadd, 1) := by decide +kernel
theorem dX12_isTold_20 : decode cX12_isTold 20 = .ok (.aload_n 0, 1) := by decide +kernel
theorem dX12_isTold_21 : decode cX12_isTold 21 = .ok (.getfield 13, 3) := by decide +kernel
theorem dX12_isTold_24 : decode cX12_isTold 24 = .ok (.bipush 73, 2) := by decide +kernel
theorem dX12_isTold_26 : decode cX12_isTold 26 = .ok (.iload 4, 2) := by decide +kernel
theorem dX12_isTold_28 : decode cX12_isTold 28 = .ok (.iadd, 1) := by decide +kernel
theorem dX12_isTold_29 : decode cX12_isTold 29 = .ok (.iconst 5, 1) := by decide +kernel
theorem dX12_isTold_30 : decode cX12_isTold 30 = .ok (.isub, 1) := by decide +kernel
theorem dX12_isTold_31 : decode cX12_isTold 31 = .ok (.iaload, 1) := by decide +kernel
theorem dX12_isTold_32 : decode cX12_isTold 32 = .ok (.iastore, 1) := by decide +kernel
theorem dX12_isTold_33 : decode cX12_isTold 33 = .ok (.iinc 4 (-1), 3) := by decide +kernel
theorem dX12_isTold_36 : decode cX12_isTold 36 = .ok (.goto (-31), 3) := by decide +kernel
theorem dX12_isTold_39 : decode cX12_isTold 39 = .ok (.aload_n 0, 1) := by decide +kernel
theorem dX12_isTold_40 : decode cX12_isTold 40 = .ok (.getfield 13, 3) := by decide +kernel
theorem dX12_isTold_43 : decode cX12_isTold 43 = .ok (.bipush 73, 2) := by decide +kernel
theorem dX12_isTold_45 : decode cX12_isTold 45 = .ok (.aload_n 0, 1) := by decide +kernel
theorem dX12_isTold_46 : decode cX12_isTold 46 = .ok (.getfield 13, 3) := by decide +kernel
theorem dX12_isTold_49 : decode cX12_isTold 49 = .ok (.bipush 9, 2) := by decide +kernel
theorem dX12_isTold_51 : decode cX12_isTold 51 = .ok (.iaload, 1) := by decide +kernel
theorem dX12_isTold_52 : decode cX12_isTold 52 = .ok (.iastore, 1) := by decide +kernel
theorem dX12_isTold_53 : decode cX12_isTold 53 = .ok (.aload_n 0, 1) := by decide +kernel
theorem dX12_isTold_54 : decode cX12_isTold 54 = .ok (.getfield 13, 3) := by decide +kernel
theorem dX12_isTold_57 : decode cX12_isTold 57 = .ok (.bipush 74, 2) := by decide +kernel
theorem dX12_isTold_59 : decode cX12_isTold 59 = .ok (.iload_n 1, 1) := by decide +kernel
theorem dX12_isTold_60 : decode cX12_isTold 60 = .ok (.iastore, 1) := by decide +kernel
theorem dX12_isTold_61 : decode cX12_isTold 61 = .ok (.aload_n 0, 1) := by decide +kernel
theorem dX12_isTold_62 : decode cX12_isTold 62 = .ok (.getfield 13, 3) := by decide +kernel
theorem dX12_isTold_65 : decode cX12_isTold 65 = .ok (.bipush 75, 2) := by decide +kernel
theorem dX12_isTold_67 : decode cX12_isTold 67 = .ok (.iload_n 2, 1) := by decide +kernel
theorem dX12_isTold_68 : decode cX12_isTold 68 = .ok (.iastore, 1) := by decide +kernel
theorem dX12_isTold_69 : decode cX12_isTold 69 = .ok (.aload_n 0, 1) := by decide +kernel
theorem dX12_isTold_70 : decode cX12_isTold 70 = .ok (.getfield 13, 3) := by decide +kernel
theorem dX12_isTold_73 : decode cX12_isTold 73 = .ok (.bipush 76, 2) := by decide +kernel
theorem dX12_isTold_75 : decode cX12_isTold 75 = .ok (.iload_n 3, 1) := by decide +kernel
theorem dX12_isTold_76 : decode cX12_isTold 76 = .ok (.iastore, 1) := by decide +kernel
theorem dX12_isTold_77 : decode cX12_isTold 77 = .ok (.aload_n 0, 1) := by decide +kernel
theorem dX12_isTold_78 : decode cX12_isTold 78 = .ok (.getfield 13, 3) := by decide +kernel
theorem dX12_isTold_81 : decode cX12_isTold 81 = .ok (.bipush 77, 2) := by decide +kernel
theorem dX12_isTold_83 : decode cX12_isTold 83 = .ok (.aload_n 0, 1) := by decide +kernel
theorem dX12_isTold_84 : decode cX12_isTold 84 = .ok (.getfield 13, 3) := by decide +kernel
theorem dX12_isTold_87 : decode cX12_isTold 87 = .ok (.iconst 3, 1) := by decide +kernel
theorem dX12_isTold_88 : decode cX12_isTold 88 = .ok (.iaload, 1) := by decide +kernel
theorem dX12_isTold_89 : decode cX12_isTold 89 = .ok (.iastore, 1) := by decide +kernel
theorem dX12_isTold_90 : decode cX12_isTold 90 = .ok (.aload_n 0, 1) := by decide +kernel
theorem dX12_isTold_91 : decode cX12_isTold 91 = .ok (.getfield 13, 3) := by decide +kernel
theorem dX12_isTold_94 : decode cX12_isTold 94 = .ok (.bipush 11, 2) := by decide +kernel
theorem dX12_isTold_96 : decode cX12_isTold 96 = .ok (.bipush 60, 2) := by decide +kernel
theorem dX12_isTold_98 : decode cX12_isTold 98 = .ok (.aload_n 0, 1) := by decide +kernel
theorem dX12_isTold_99 : decode cX12_isTold 99 = .ok (.getfield 13, 3) := by decide +kernel
theorem dX12_isTold_102 : decode cX12_isTold 102 = .ok (.bipush 11, 2) := by decide +kernel
theorem dX12_isTold_104 : decode cX12_isTold 104 = .ok (.iaload, 1) := by decide +kernel
theorem dX12_isTold_105 : decode cX12_isTold 105 = .ok (.iconst 1, 1) := by decide +kernel
theorem dX12_isTold_106 : decode cX12_isTold 106 = .ok (.iadd, 1) := by decide +kernel
theorem dX12_isTold_107 : decode cX12_isTold 107 = .ok (.invokestatic 312, 3) := by decide +kernel
theorem dX12_isTold_110 : decode cX12_isTold 110 = .ok (.iastore, 1) := by decide +kernel
theorem dX12_isTold_111 : decode cX12_isTold 111 = .ok (.return_, 1) := by decide +kernel
theorem dX12_someHurt_0 : decode cX12_someHurt 0 = .ok (.iconst 0, 1) := by decide +kernel
theorem dX12_someHurt_1 : decode cX12_someHurt 1 = .ok (.istore_n 1, 1) := by decide +kernel
theorem dX12_someHurt_2 : decode cX12_someHurt 2 = .ok (.iload_n 1, 1) := by decide +kernel
theorem dX12_someHurt_3 : decode cX12_someHurt 3 = .ok (.aload_n 0, 1) := by decide +kernel
theorem dX12_someHurt_4 : decode cX12_someHurt 4 = .ok (.invokevirtual 95, 3) := by decide +kernel
theorem dX12_someHurt_7 : decode cX12_someHurt 7 = .ok (.if_icmp .ge 84, 3) := by decide +kernel
theorem dX12_someHurt_10 : decode cX12_someHurt 10 = .ok (.aload_n 0, 1) := by decide +kernel
theorem dX12_someHurt_11 : decode cX12_someHurt 11 = .ok (.iload_n 1, 1) := by decide +kernel
theorem dX12_someHurt_12 : decode cX12_someHurt 12 = .ok (.invokevirtual 315, 3) := by decide +kernel
theorem dX12_someHurt_15 : decode cX12_someHurt 15 = .ok (.ifCond .eq 70, 3) := by decide +kernel
theorem dX12_someHurt_18 : decode cX12_someHurt 18 = .ok (.aload_n 0, 1) := by decide +kernel
theorem dX12_someHurt_19 : decode cX12_someHurt 19 = .ok (.iload_n 1, 1) := by decide +kernel
theorem dX12_someHurt_20 : decode cX12_someHurt 20 = .ok (.invokevirtual 318, 3) := by decide +kernel
theorem dX12_someHurt_23 : decode cX12_someHurt 23 = .ok (.ifCond .ne 62, 3) := by decide +kernel
theorem dX12_someHurt_26 : decode cX12_someHurt 26 = .ok (.aload_n 0, 1) := by decide +kernel
theorem dX12_someHurt_27 : decode cX12_someHurt 27 = .ok (.iload_n 1, 1) := by decide +kernel
theorem dX12_someHurt_28 : decode cX12_someHurt 28 = .ok (.iconst 5, 1) := by decide +kernel
theorem dX12_someHurt_29 : decode cX12_someHurt 29 = .ok (.invokevirtual 85, 3) := by decide +kernel
theorem dX12_someHurt_32 : decode cX12_someHurt 32 = .ok (.iconst 1, 1) := by decide +kernel
theorem dX12_someHurt_33 : decode cX12_someHurt 33 = .ok (.if_icmp .ne 6, 3) := by decide +kernel
theorem dX12_someHurt_36 : decode cX12_someHurt 36 = .ok (.goto 49, 3) := by decide +kernel
theorem dX12_someHurt_39 : decode cX12_someHurt 39 = .ok (.aload_n 0, 1) := by decide +kernel
theorem dX12_someHurt_40 : decode cX12_someHurt 40 = .ok (.getfield 13, 3) := by decide +kernel
theorem dX12_someHurt_43 : decode cX12_someHurt 43 = .ok (.iload_n 1, 1) := by decide +kernel
theorem dX12_someHurt_44 : decode cX12_someHurt 44 = .ok (.iconst 5, 1) := by decide +kernel
theorem dX12_someHurt_45 : decode cX12_someHurt 45 = .ok (.invokestatic 81, 3) := by decide +kernel
theorem dX12_someHurt_48 : decode cX12_someHurt 48 = .ok (.iconst 1, 1) := by decide +kernel
theorem dX12_someHurt_49 : decode cX12_someHurt 49 = .ok (.iastore, 1) := by decide +kernel
theorem dX12_someHurt_50 : decode cX12_someHurt 50 = .ok (.aload_n 0, 1) := by decide +kernel
theorem dX12_someHurt_51 : decode cX12_someHurt 51 = .ok (.getfield 13, 3) := by decide +kernel
theorem dX12_someHurt_54 : decode cX12_someHurt 54 = .ok (.iload_n 1, 1) := by decide +kernel
theorem dX12_someHurt_55 : decode cX12_someHurt 55 = .ok (.iconst 2, 1) := by decide +kernel
theorem dX12_someHurt_56 : decode cX12_someHurt 56 = .ok (.invokestatic 81, 3) := by decide +kernel
theorem dX12_someHurt_59 : decode cX12_someHurt 59 = .ok (.bipush 99, 2) := by decide +kernel
theorem dX12_someHurt_61 : decode cX12_someHurt 61 = .ok (.aload_n 0, 1) := by decide +kernel
theorem dX12_someHurt_62 : decode cX12_someHurt 62 = .ok (.iload_n 1, 1) := by decide +kernel
theorem dX12_someHurt_63 : decode cX12_someHurt 63 = .ok (.iconst 2, 1) := by decide +kernel
theorem dX12_someHurt_64 : decode cX12_someHurt 64 = .ok (.invokevirtual 85, 3) := by decide +kernel
theorem dX12_someHurt_67 : decode cX12_someHurt 67 = .ok (.iconst 5, 1) := by decide +kernel
theorem dX12_someHurt_68 : decode cX12_someHurt 68 = .ok (.iadd, 1) := by decide +kernel
theorem dX12_someHurt_69 : decode cX12_someHurt 69 = .ok (.invokestatic 312, 3) := by decide +kernel
theorem dX12_someHurt_72 : decode cX12_someHurt 72 = .ok (.iastore, 1) := by decide +kernel
theorem dX12_someHurt_73 : decode cX12_someHurt 73 = .ok (.aload_n 0, 1) := by decide +kernel
theorem dX12_someHurt_74 : decode cX12_someHurt 74 = .ok (.iload_n 1, 1) := by decide +kernel
theorem dX12_someHurt_75 : decode cX12_someHurt 75 = .ok (.iconst 2, 1) := by decide +kernel
theorem dX12_someHurt_76 : decode cX12_someHurt 76 = .ok (.aload_n 0, 1) := by decide +kernel
theorem dX12_someHurt_77 : decode cX12_someHurt 77 = .ok (.iload_n 1, 1) := by decide +kernel
theorem dX12_someHurt_78 : decode cX12_someHurt 78 = .ok (.iconst 4, 1) := by decide +kernel
theorem dX12_someHurt_79 : decode cX12_someHurt 79 = .ok (.invokevirtual 85, 3) := by decide +kernel
theorem dX12_someHurt_82 : decode cX12_someHurt 82 = .ok (.invokevirtual 321, 3) := by decide +kernel
theorem dX12_someHurt_85 : decode cX12_someHurt 85 = .ok (.iinc 1 1, 3) := by decide +kernel
theorem dX12_someHurt_88 : decode cX12_someHurt 88 = .ok (.goto (-86), 3) := by decide +kernel
theorem dX12_someHurt_91 : decode cX12_someHurt 91 = .ok (.return_, 1) := by decide +kernel
theorem dX12_allWork_0 : decode cX12_allWork 0 = .ok (.aload_n 0, 1) := by decide +kernel
theorem dX12_allWork_1 : decode cX12_allWork 1 = .ok (.getfield 13, 3) := by decide +kernel
theorem dX12_allWork_4 : decode cX12_allWork 4 = .ok (.bipush 6, 2) := by decide +kernel
theorem dX12_allWork_6 : decode cX12_allWork 6 = .ok (.iaload, 1) := by decide +kernel
theorem dX12_allWork_7 : decode cX12_allWork 7 = .ok (.istore_n 1, 1) := by decide +kernel
theorem dX12_allWork_8 : decode cX12_allWork 8 = .ok (.iconst 0, 1) := by decide +kernel
theorem dX12_allWork_9 : decode cX12_allWork 9 = .ok (.istore_n 2, 1) := by decide +kernel
theorem dX12_allWork_10 : decode cX12_allWork 10 = .ok (.iconst 0, 1) := by decide +kernel
theorem dX12_allWork_11 : decode cX12_allWork 11 = .ok (.istore_n 3, 1) := by decide +kernel
theorem dX12_allWork_12 : decode cX12_allWork 12 = .ok (.iload_n 3, 1) := by decide +kernel
theorem dX12_allWork_13 : decode cX12_allWork 13 = .ok (.aload_n 0, 1) := by decide +kernel
theorem dX12_allWork_14 : decode cX12_allWork 14 = .ok (.invokevirtual 95, 3) := by decide +kernel
theorem dX12_allWork_17 : decode cX12_allWork 17 = .ok (.if_icmp .ge 87, 3) := by decide +kernel
theorem dX12_allWork_20 : decode cX12_allWork 20 = .ok (.aload_n 0, 1) := by decide +kernel
theorem dX12_allWork_21 : decode cX12_allWork 21 = .ok (.iload_n 3, 1) := by decide +kernel
theorem dX12_allWork_22 : decode cX12_allWork 22 = .ok (.invokevirtual 315, 3) := by decide +kernel
theorem dX12_allWork_25 : decode cX12_allWork 25 = .ok (.ifCond .eq 16, 3) := by decide +kernel
theorem dX12_allWork_28 : decode cX12_allWork 28 = .ok (.iload_n 1, 1) := by decide +kernel
theorem dX12_allWork_29 : decode cX12_allWork 29 = .ok (.aload_n 0, 1) := by decide +kernel
theorem dX12_allWork_30 : decode cX12_allWork 30 = .ok (.iload_n 3, 1) := by decide +kernel
theorem dX12_allWork_31 : decode cX12_allWork 31 = .ok (.iconst 2, 1) := by decide +kernel
theorem dX12_allWork_32 : decode cX12_allWork 32 = .ok (.invokevirtual 85, 3) := by decide +kernel
theorem dX12_allWork_35 : decode cX12_allWork 35 = .ok (.invokestatic 312, 3) := by decide +kernel
theorem dX12_allWork_38 : decode cX12_allWork 38 = .ok (.goto 4, 3) := by decide +kernel
theorem dX12_allWork_41 : decode cX12_allWork 41 = .ok (.iconst 0, 1) := by decide +kernel
theorem dX12_allWork_42 : decode cX12_allWork 42 = .ok (.istore 4, 2) := by decide +kernel
theorem dX12_allWork_44 : decode cX12_allWork 44 = .ok (.iload 4, 2) := by decide +kernel
theorem dX12_allWork_46 : decode cX12_allWork 46 = .ok (.ifCond .ne 6, 3) := by decide +kernel
theorem dX12_allWork_49 : decode cX12_allWork 49 = .ok (.goto 49, 3) := by decide +kernel
theorem dX12_allWork_52 : decode cX12_allWork 52 = .ok (.iload_n 1, 1) := by decide +kernel
theorem dX12_allWork_53 : decode cX12_allWork 53 = .ok (.iload 4, 2) := by decide +kernel
theorem dX12_allWork_55 : decode cX12_allWork 55 = .ok (.isub, 1) := by decide +kernel
theorem dX12_allWork_56 : decode cX12_allWork 56 = .ok (.istore_n 1, 1) := by decide +kernel
theorem dX12_allWork_57 : decode cX12_allWork 57 = .ok (.iload_n 2, 1) := by decide +kernel
theorem dX12_allWork_58 : decode cX12_allWork 58 = .ok (.iload 4, 2) := by decide +kernel
theorem dX12_allWork_60 : decode cX12_allWork 60 = .ok (.iadd, 1) := by decide +kernel
theorem dX12_allWork_61 : decode cX12_allWork 61 = .ok (.istore_n 2, 1) := by decide +kernel
theorem dX12_allWork_62 : decode cX12_allWork 62 = .ok (.aload_n 0, 1) := by decide +kernel
theorem dX12_allWork_63 : decode cX12_allWork 63 = .ok (.getfield 13, 3) := by decide +kernel
theorem dX12_allWork_66 : decode cX12_allWork 66 = .ok (.iload_n 3, 1) := by decide +kernel
theorem dX12_allWork_67 : decode cX12_allWork 67 = .ok (.iconst 2, 1) := by decide +kernel
theorem dX12_allWork_68 : decode cX12_allWork 68 = .ok (.invokestatic 81, 3) := by decide +kernel
theorem dX12_allWork_71 : decode cX12_allWork 71 = .ok (.dup2, 1) := by decide +kernel
theorem dX12_allWork_72 : decode cX12_allWork 72 = .ok (.iaload, 1) := by decide +kernel
theorem dX12_allWork_73 : decode cX12_allWork 73 = .ok (.iload 4, 2) := by decide +kernel
theorem dX12_allWork_75 : decode cX12_allWork 75 = .ok (.isub, 1) := by decide +kernel
theorem dX12_allWork_76 : decode cX12_allWork 76 = .ok (.iastore, 1) := by decide +kernel
theorem dX12_allWork_77 : decode cX12_allWork 77 = .ok (.aload_n 0, 1) := by decide +kernel
theorem dX12_allWork_78 : decode cX12_allWork 78 = .ok (.iload_n 3, 1) := by decide +kernel
theorem dX12_allWork_79 : decode cX12_allWork 79 = .ok (.iconst 2, 1) := by decide +kernel
theorem dX12_allWork_80 : decode cX12_allWork 80 = .ok (.invokevirtual 85, 3) := by decide +kernel
theorem dX12_allWork_83 : decode cX12_allWork 83 = .ok (.ifCond .ne 15, 3) := by decide +kernel
theorem dX12_allWork_86 : decode cX12_allWork 86 = .ok (.aload_n 0, 1) := by decide +kernel
theorem dX12_allWork_87 : decode cX12_allWork 87 = .ok (.iload_n 3, 1) := by decide +kernel
theorem dX12_allWork_88 : decode cX12_allWork 88 = .ok (.iconst 3, 1) := by decide +kernel
theorem dX12_allWork_89 : decode cX12_allWork 89 = .ok (.aload_n 0, 1) := by decide +kernel
theorem dX12_allWork_90 : decode cX12_allWork 90 = .ok (.iload_n 3, 1) := by decide +kernel
theorem dX12_allWork_91 : decode cX12_allWork 91 = .ok (.iconst 4, 1) := by decide +kernel
theorem dX12_allWork_92 : decode cX12_allWork 92 = .ok (.invokevirtual 85, 3) := by decide +kernel
theorem dX12_allWork_95 : decode cX12_allWork 95 = .ok (.invokevirtual 321, 3) := by decide +kernel
theorem dX12_allWork_98 : decode cX12_allWork 98 = .ok (.iinc 3 1, 3) := by decide +kernel
theorem dX12_allWork_101 : decode cX12_allWork 101 = .ok (.goto (-89), 3) := by decide +kernel
theorem dX12_allWork_104 : decode cX12_allWork 104 = .ok (.iload_n 2, 1) := by decide +kernel
theorem dX12_allWork_105 : decode cX12_allWork 105 = .ok (.ireturn, 1) := by decide +kernel
theorem dX12_oneHour_0 : decode cX12_oneHour 0 = .ok (.aload_n 0, 1) := by decide +kernel
theorem dX12_oneHour_1 : decode cX12_oneHour 1 = .ok (.getfield 13, 3) := by decide +kernel
theorem dX12_oneHour_4 : decode cX12_oneHour 4 = .ok (.bipush 9, 2) := by decide +kernel
theorem dX12_oneHour_6 : decode cX12_oneHour 6 = .ok (.sipush 9999, 3) := by decide +kernel
theorem dX12_oneHour_9 : decode cX12_oneHour 9 = .ok (.aload_n 0, 1) := by decide +kernel
theorem dX12_oneHour_10 : decode cX12_oneHour 10 = .ok (.getfield 13, 3) := by decide +kernel
theorem dX12_oneHour_13 : decode cX12_oneHour 13 = .ok (.bipush 9, 2) := by decide +kernel
theorem dX12_oneHour_15 : decode cX12_oneHour 15 = .ok (.iaload, 1) := by decide +kernel
theorem dX12_oneHour_16 : decode cX12_oneHour 16 = .ok (.iconst 1, 1) := by decide +kernel
theorem dX12_oneHour_17 : decode cX12_oneHour 17 = .ok (.iadd, 1) := by decide +kernel
theorem dX12_oneHour_18 : decode cX12_oneHour 18 = .ok (.invokestatic 312, 3) := by decide +kernel
theorem dX12_oneHour_21 : decode cX12_oneHour 21 = .ok (.iastore, 1) := by decide +kernel
theorem dX12_oneHour_22 : decode cX12_oneHour 22 = .ok (.aload_n 0, 1) := by decide +kernel
theorem dX12_oneHour_23 : decode cX12_oneHour 23 = .ok (.getfield 13, 3) := by decide +kernel
theorem dX12_oneHour_26 : decode cX12_oneHour 26 = .ok (.iconst 4, 1) := by decide +kernel
theorem dX12_oneHour_27 : decode cX12_oneHour 27 = .ok (.iaload, 1) := by decide +kernel
theorem dX12_oneHour_28 : decode cX12_oneHour 28 = .ok (.iconst 1, 1) := by decide +kernel
theorem dX12_oneHour_29 : decode cX12_oneHour 29 = .ok (.if_icmp .ne 39, 3) := by decide +kernel
theorem dX12_oneHour_32 : decode cX12_oneHour 32 = .ok (.aload_n 0, 1) := by decide +kernel
theorem dX12_oneHour_33 : decode cX12_oneHour 33 = .ok (.getfield 13, 3) := by decide +kernel
theorem dX12_oneHour_36 : decode cX12_oneHour 36 = .ok (.iconst 3, 1) := by decide +kernel
theorem dX12_oneHour_37 : decode cX12_oneHour 37 = .ok (.aload_n 0, 1) := by decide +kernel
theorem dX12_oneHour_38 : decode cX12_oneHour 38 = .ok (.iconst 0, 1) := by decide +kernel
theorem dX12_oneHour_39 : decode cX12_oneHour 39 = .ok (.invokevirtual 288, 3) := by decide +kernel
theorem dX12_oneHour_42 : decode cX12_oneHour 42 = .ok (.iload_n 1, 1) := by decide +kernel
theorem dX12_oneHour_43 : decode cX12_oneHour 43 = .ok (.ifCond .eq 7, 3) := by decide +kernel
theorem dX12_oneHour_46 : decode cX12_oneHour 46 = .ok (.iconst 0, 1) := by decide +kernel
theorem dX12_oneHour_47 : decode cX12_oneHour 47 = .ok (.goto 16, 3) := by decide +kernel
theorem dX12_oneHour_50 : decode cX12_oneHour 50 = .ok (.aload_n 0, 1) := by decide +kernel
theorem dX12_oneHour_51 : decode cX12_oneHour 51 = .ok (.aload_n 0, 1) := by decide +kernel
theorem dX12_oneHour_52 : decode cX12_oneHour 52 = .ok (.getfield 13, 3) := by decide +kernel
theorem dX12_oneHour_55 : decode cX12_oneHour 55 = .ok (.bipush 7, 2) := by decide +kernel
theorem dX12_oneHour_57 : decode cX12_oneHour 57 = .ok (.iaload, 1) := by decide +kernel
theorem dX12_oneHour_58 : decode cX12_oneHour 58 = .ok (.iconst 1, 1) := by decide +kernel
theorem dX12_oneHour_59 : decode cX12_oneHour 59 = .ok (.iadd, 1) := by decide +kernel
theorem dX12_oneHour_60 : decode cX12_oneHour 60 = .ok (.invokevirtual 324, 3) := by decide +kernel
theorem dX12_oneHour_63 : decode cX12_oneHour 63 = .ok (.iadd, 1) := by decide +kernel
theorem dX12_oneHour_64 : decode cX12_oneHour 64 = .ok (.iastore, 1) := by decide +kernel
theorem dX12_oneHour_65 : decode cX12_oneHour 65 = .ok (.goto 34, 3) := by decide +kernel
theorem dX12_oneHour_68 : decode cX12_oneHour 68 = .ok (.aload_n 0, 1) := by decide +kernel
theorem dX12_oneHour_69 : decode cX12_oneHour 69 = .ok (.getfield 13, 3) := by decide +kernel
theorem dX12_oneHour_72 : decode cX12_oneHour 72 = .ok (.iconst 3, 1) := by decide +kernel
theorem dX12_oneHour_73 : decode cX12_oneHour 73 = .ok (.iconst 0, 1) := by decide +kernel
theorem dX12_oneHour_74 : decode cX12_oneHour 74 = .ok (.bipush 40, 2) := by decide +kernel
theorem dX12_oneHour_76 : decode cX12_oneHour 76 = .ok (.aload_n 0, 1) := by decide +kernel
theorem dX12_oneHour_77 : decode cX12_oneHour 77 = .ok (.getfield 13, 3) := by decide +kernel
theorem dX12_oneHour_80 : decode cX12_oneHour 80 = .ok (.iconst 3, 1) := by decide +kernel
theorem dX12_oneHour_81 : decode cX12_oneHour 81 = .ok (.iaload, 1) := by decide +kernel
theorem dX12_oneHour_82 : decode cX12_oneHour 82 = .ok (.aload_n 0, 1) := by decide +kernel
theorem dX12_oneHour_83 : decode cX12_oneHour 83 = .ok (.invokevirtual 327, 3) := by decide +kernel
theorem dX12_oneHour_86 : decode cX12_oneHour 86 = .ok (.iadd, 1) := by decide +kernel
theorem dX12_oneHour_87 : decode cX12_oneHour 87 = .ok (.aload_n 0, 1) := by decide +kernel
theorem dX12_oneHour_88 : decode cX12_oneHour 88 = .ok (.invokevirtual 330, 3) := by decide +kernel
theorem dX12_oneHour_91 : decode cX12_oneHour 91 = .ok (.isub, 1) := by decide +kernel
theorem dX12_oneHour_92 : decode cX12_oneHour 92 = .ok (.invokestatic 312, 3) := by decide +kernel
theorem dX12_oneHour_95 : decode cX12_oneHour 95 = .ok (.invokestatic 333, 3) := by decide +kernel
theorem dX12_oneHour_98 : decode cX12_oneHour 98 = .ok (.iastore, 1) := by decide +kernel
theorem dX12_oneHour_99 : decode cX12_oneHour 99 = .ok (.aload_n 0, 1) := by decide +kernel
theorem dX12_oneHour_100 : decode cX12_oneHour 100 = .ok (.invokevirtual 336, 3) := by decide +kernel
theorem dX12_oneHour_103 : decode cX12_oneHour 103 = .ok (.aload_n 0, 1) := by decide +kernel
theorem dX12_oneHour_104 : decode cX12_oneHour 104 = .ok (.getfield 13, 3) := by decide +kernel
theorem dX12_oneHour_107 : decode cX12_oneHour 107 = .ok (.iconst 3, 1) := by decide +kernel
theorem dX12_oneHour_108 : decode cX12_oneHour 108 = .ok (.iaload, 1) := by decide +kernel
theorem dX12_oneHour_109 : decode cX12_oneHour 109 = .ok (.iconst 2, 1) := by decide +kernel
theorem dX12_oneHour_110 : decode cX12_oneHour 110 = .ok (.if_icmp .gt 10, 3) := by decide +kernel
theorem dX12_oneHour_113 : decode cX12_oneHour 113 = .ok (.aload_n 0, 1) := by decide +kernel
theorem dX12_oneHour_114 : decode cX12_oneHour 114 = .ok (.invokevirtual 339, 3) := by decide +kernel
theorem dX12_oneHour_117 : decode cX12_oneHour 117 = .ok (.goto 4, 3) := by decide +kernel
theorem dX12_oneHour_120 : decode cX12_oneHour 120 = .ok (.iconst 0, 1) := by decide +kernel
theorem dX12_oneHour_121 : decode cX12_oneHour 121 = .ok (.ireturn, 1) := by decide +kernel
theorem dX12_goesOn_0 : decode cX12_goesOn 0 = .ok (.iconst 0, 1) := by decide +kernel
theorem dX12_goesOn_1 : decode cX12_goesOn 1 = .ok (.istore_n 3, 1) := by decide +kernel
theorem dX12_goesOn_2 : decode cX12_goesOn 2 = .ok (.iconst 0, 1) := by decide +kernel
theorem dX12_goesOn_3 : decode cX12_goesOn 3 = .ok (.istore 4, 2) := by decide +kernel
theorem dX12_goesOn_5 : decode cX12_goesOn 5 = .ok (.iload 4, 2) := by decide +kernel
theorem dX12_goesOn_7 : decode cX12_goesOn 7 = .ok (.iload_n 1, 1) := by decide +kernel
theorem dX12_goesOn_8 : decode cX12_goesOn 8 = .ok (.if_icmp .ge 17, 3) := by decide +kernel
theorem dX12_goesOn_11 : decode cX12_goesOn 11 = .ok (.iload_n 3, 1) := by decide +kernel
theorem dX12_goesOn_12 : decode cX12_goesOn 12 = .ok (.aload_n 0, 1) := by decide +kernel
theorem dX12_goesOn_13 : decode cX12_goesOn 13 = .ok (.iload_n 2, 1) := by decide +kernel
theorem dX12_goesOn_14 : decode cX12_goesOn 14 = .ok (.invokevirtual 342, 3) := by decide +kernel
theorem dX12_goesOn_17 : decode cX12_goesOn 17 = .ok (.iadd, 1) := by decide +kernel
theorem dX12_goesOn_18 : decode cX12_goesOn 18 = .ok (.istore_n 3, 1) := by decide +kernel
theorem dX12_goesOn_19 : decode cX12_goesOn 19 = .ok (.iinc 4 1, 3) := by decide +kernel
theorem dX12_goesOn_22 : decode cX12_goesOn 22 = .ok (.goto (-17), 3) := by decide +kernel
theorem dX12_goesOn_25 : decode cX12_goesOn 25 = .ok (.iload_n 3, 1) := by decide +kernel
theorem dX12_goesOn_26 : decode cX12_goesOn 26 = .ok (.ireturn, 1) := by decide +kernel
theorem dX12_whenOf_0 : decode cX12_whenOf 0 = .ok (.iconst 0, 1) := by decide +kernel
theorem dX12_whenOf_1 : decode cX12_whenOf 1 = .ok (.istore_n 2, 1) := by decide +kernel
theorem dX12_whenOf_2 : decode cX12_whenOf 2 = .ok (.iload_n 2, 1) := by decide +kernel
theorem dX12_whenOf_3 : decode cX12_whenOf 3 = .ok (.bipush 12, 2) := by decide +kernel
theorem dX12_whenOf_5 : decode cX12_whenOf 5 = .ok (.if_icmp .ge 25, 3) := by decide +kernel
theorem dX12_whenOf_8 : decode cX12_whenOf 8 = .ok (.aload_n 0, 1) := by decide +kernel
theorem dX12_whenOf_9 : decode cX12_whenOf 9 = .ok (.iload_n 2, 1) := by decide +kernel
theorem dX12_whenOf_10 : decode cX12_whenOf 10 = .ok (.invokevirtual 288, 3) := by decide +kernel
theorem dX12_whenOf_13 : decode cX12_whenOf 13 = .ok (.aload_n 0, 1) := by decide +kernel
theorem dX12_whenOf_14 : decode cX12_whenOf 14 = .ok (.iload_n 1, 1) := by decide +kernel
theorem dX12_whenOf_15 : decode cX12_whenOf 15 = .ok (.iconst 1, 1) := by decide +kernel
theorem dX12_whenOf_16 : decode cX12_whenOf 16 = .ok (.invokevirtual 85, 3) := by decide +kernel
theorem dX12_whenOf_19 : decode cX12_whenOf 19 = .ok (.if_icmp .lt 5, 3) := by decide +kernel
theorem dX12_whenOf_22 : decode cX12_whenOf 22 = .ok (.iload_n 2, 1) := by decide +kernel
theorem dX12_whenOf_23 : decode cX12_whenOf 23 = .ok (.ireturn, 1) := by decide +kernel
theorem dX12_whenOf_24 : decode cX12_whenOf 24 = .ok (.iinc 2 1, 3) := by decide +kernel
theorem dX12_whenOf_27 : decode cX12_whenOf 27 = .ok (.goto (-25), 3) := by decide +kernel
theorem dX12_whenOf_30 : decode cX12_whenOf 30 = .ok (.iconst (-1), 1) := by decide +kernel
theorem dX12_whenOf_31 : decode cX12_whenOf 31 = .ok (.ireturn, 1) := by decide +kernel
theorem dX12_firstFit_0 : decode cX12_firstFit 0 = .ok (.aload_n 0, 1) := by decide +kernel
theorem dX12_firstFit_1 : decode cX12_firstFit 1 = .ok (.invokevirtual 168, 3) := by decide +kernel
theorem dX12_firstFit_4 : decode cX12_firstFit 4 = .ok (.istore_n 2, 1) := by decide +kernel
theorem dX12_firstFit_5 : decode cX12_firstFit 5 = .ok (.iconst (-1), 1) := by decide +kernel
theorem dX12_firstFit_6 : decode cX12_firstFit 6 = .ok (.istore_n 3, 1) := by decide +kernel
theorem dX12_firstFit_7 : decode cX12_firstFit 7 = .ok (.bipush 23, 2) := by decide +kernel
theorem dX12_firstFit_9 : decode cX12_firstFit 9 = .ok (.istore 4, 2) := by decide +kernel
theorem dX12_firstFit_11 : decode cX12_firstFit 11 = .ok (.iload 4, 2) := by decide +kernel
theorem dX12_firstFit_13 : decode cX12_firstFit 13 = .ok (.ifCond .lt 31, 3) := by decide +kernel
theorem dX12_firstFit_16 : decode cX12_firstFit 16 = .ok (.iload_n 2, 1) := by decide +kernel
theorem dX12_firstFit_17 : decode cX12_firstFit 17 = .ok (.iload 4, 2) := by decide +kernel
theorem dX12_firstFit_19 : decode cX12_firstFit 19 = .ok (.aload_n 0, 1) := by decide +kernel
theorem dX12_firstFit_20 : decode cX12_firstFit 20 = .ok (.iload_n 1, 1) := by decide +kernel
theorem dX12_firstFit_21 : decode cX12_firstFit 21 = .ok (.iconst 0, 1) := by decide +kernel
theorem dX12_firstFit_22 : decode cX12_firstFit 22 = .ok (.invokevirtual 85, 3) := by decide +kernel
theorem dX12_firstFit_25 : decode cX12_firstFit 25 = .ok (.invokestatic 171, 3) := by decide +kernel
theorem dX12_firstFit_28 : decode cX12_firstFit 28 = .ok (.ifCond .eq 8, 3) := by decide +kernel
theorem dX12_firstFit_31 : decode cX12_firstFit 31 = .ok (.iload 4, 2) := by decide +kernel
theorem dX12_firstFit_33 : decode cX12_firstFit 33 = .ok (.goto 4, 3) := by decide +kernel
theorem dX12_firstFit_36 : decode cX12_firstFit 36 = .ok (.iload_n 3, 1) := by decide +kernel
theorem dX12_firstFit_37 : decode cX12_firstFit 37 = .ok (.istore_n 3, 1) := by decide +kernel
theorem dX12_firstFit_38 : decode cX12_firstFit 38 = .ok (.iinc 4 (-1), 3) := by decide +kernel
theorem dX12_firstFit_41 : decode cX12_firstFit 41 = .ok (.goto (-30), 3) := by decide +kernel
theorem dX12_firstFit_44 : decode cX12_firstFit 44 = .ok (.aload_n 0, 1) := by decide +kernel
theorem dX12_firstFit_45 : decode cX12_firstFit 45 = .ok (.iload_n 1, 1) := by decide +kernel
theorem dX12_firstFit_46 : decode cX12_firstFit 46 = .ok (.iconst 3, 1) := by decide +kernel
theorem dX12_firstFit_47 : decode cX12_firstFit 47 = .ok (.invokevirtual 85, 3) := by decide +kernel
theorem dX12_firstFit_50 : decode cX12_firstFit 50 = .ok (.ifCond .ne 7, 3) := by decide +kernel
theorem dX12_firstFit_53 : decode cX12_firstFit 53 = .ok (.iload_n 3, 1) := by decide +kernel
theorem dX12_firstFit_54 : decode cX12_firstFit 54 = .ok (.goto 4, 3) := by decide +kernel
theorem dX12_firstFit_57 : decode cX12_firstFit 57 = .ok (.iconst (-1), 1) := by decide +kernel
theorem dX12_firstFit_58 : decode cX12_firstFit 58 = .ok (.ireturn, 1) := by decide +kernel
theorem dX12_workOf_0 : decode cX12_workOf 0 = .ok (.iconst 0, 1) := by decide +kernel
theorem dX12_workOf_1 : decode cX12_workOf 1 = .ok (.istore_n 2, 1) := by decide +kernel
theorem dX12_workOf_2 : decode cX12_workOf 2 = .ok (.iconst 0, 1) := by decide +kernel
theorem dX12_workOf_3 : decode cX12_workOf 3 = .ok (.istore_n 3, 1) := by decide +kernel
theorem dX12_workOf_4 : decode cX12_workOf 4 = .ok (.iload_n 3, 1) := by decide +kernel
theorem dX12_workOf_5 : decode cX12_workOf 5 = .ok (.aload_n 0, 1) := by decide +kernel
theorem dX12_workOf_6 : decode cX12_workOf 6 = .ok (.invokevirtual 95, 3) := by decide +kernel
theorem dX12_workOf_9 : decode cX12_workOf 9 = .ok (.if_icmp .ge 36, 3) := by decide +kernel
theorem dX12_workOf_12 : decode cX12_workOf 12 = .ok (.iload_n 2, 1) := by decide +kernel
theorem dX12_workOf_13 : decode cX12_workOf 13 = .ok (.iload_n 1, 1) := by decide +kernel
theorem dX12_workOf_14 : decode cX12_workOf 14 = .ok (.ifCond .ne 13, 3) := by decide +kernel
theorem dX12_workOf_17 : decode cX12_workOf 17 = .ok (.aload_n 0, 1) := by decide +kernel
theorem dX12_workOf_18 : decode cX12_workOf 18 = .ok (.iload_n 3, 1) := by decide +kernel
theorem dX12_workOf_19 : decode cX12_workOf 19 = .ok (.iconst 3, 1) := by decide +kernel
theorem dX12_workOf_20 : decode cX12_workOf 20 = .ok (.invokevirtual 85, 3) := by decide +kernel
theorem dX12_workOf_23 : decode cX12_workOf 23 = .ok (.iconst 2, 1) := by decide +kernel
theorem dX12_workOf_24 : decode cX12_workOf 24 = .ok (.if_icmp .eq 12, 3) := by decide +kernel
theorem dX12_workOf_27 : decode cX12_workOf 27 = .ok (.aload_n 0, 1) := by decide +kernel
theorem dX12_workOf_28 : decode cX12_workOf 28 = .ok (.iload_n 3, 1) := by decide +kernel
theorem dX12_workOf_29 : decode cX12_workOf 29 = .ok (.iconst 2, 1) := by decide +kernel
theorem dX12_workOf_30 : decode cX12_workOf 30 = .ok (.invokevirtual 85, 3) := by decide +kernel
theorem dX12_workOf_33 : decode cX12_workOf 33 = .ok (.goto 4, 3) := by decide +kernel
theorem dX12_workOf_36 : decode cX12_workOf 36 = .ok (.iconst 0, 1) := by decide +kernel
theorem dX12_workOf_37 : decode cX12_workOf 37 = .ok (.iadd, 1) := by decide +kernel
theorem dX12_workOf_38 : decode cX12_workOf 38 = .ok (.istore_n 2, 1) := by decide +kernel
theorem dX12_workOf_39 : decode cX12_workOf 39 = .ok (.iinc 3 1, 3) := by decide +kernel
theorem dX12_workOf_42 : decode cX12_workOf 42 = .ok (.goto (-38), 3) := by decide +kernel
theorem dX12_workOf_45 : decode cX12_workOf 45 = .ok (.iload_n 2, 1) := by decide +kernel
theorem dX12_workOf_46 : decode cX12_workOf 46 = .ok (.ireturn, 1) := by decide +kernel
theorem dX12_ship_0 : decode cX12_ship 0 = .ok (.aload_n 0, 1) := by decide +kernel
theorem dX12_ship_1 : decode cX12_ship 1 = .ok (.iconst 0, 1) := by decide +kernel
theorem dX12_ship_2 : decode cX12_ship 2 = .ok (.putfield 3, 3) := by decide +kernel
theorem dX12_ship_5 : decode cX12_ship 5 = .ok (.aload_n 0, 1) := by decide +kernel
theorem dX12_ship_6 : decode cX12_ship 6 = .ok (.aload_n 0, 1) := by decide +kernel
theorem dX12_ship_7 : decode cX12_ship 7 = .ok (.iload_n 1, 1) := by decide +kernel
theorem dX12_ship_8 : decode cX12_ship 8 = .ok (.invokevirtual 345, 3) := by decide +kernel
theorem dX12_ship_11 : decode cX12_ship 11 = .ok (.iconst 1, 1) := by decide +kernel
theorem dX12_ship_12 : decode cX12_ship 12 = .ok (.invokevirtual 282, 3) := by decide +kernel
theorem dX12_ship_15 : decode cX12_ship 15 = .ok (.ifCond .ne 26, 3) := by decide +kernel
theorem dX12_ship_18 : decode cX12_ship 18 = .ok (.aload_n 0, 1) := by decide +kernel
theorem dX12_ship_19 : decode cX12_ship 19 = .ok (.iload_n 2, 1) := by decide +kernel
theorem dX12_ship_20 : decode cX12_ship 20 = .ok (.iconst 0, 1) := by decide +kernel
theorem dX12_ship_21 : decode cX12_ship 21 = .ok (.bipush 12, 2) := by decide +kernel
theorem dX12_ship_23 : decode cX12_ship 23 = .ok (.invokestatic 103, 3) := by decide +kernel
theorem dX12_ship_26 : decode cX12_ship 26 = .ok (.ifCond .ne 7, 3) := by decide +kernel
theorem dX12_ship_29 : decode cX12_ship 29 = .ok (.iconst 1, 1) := by decide +kernel
theorem dX12_ship_30 : decode cX12_ship 30 = .ok (.goto 4, 3) := by decide +kernel
theorem dX12_ship_33 : decode cX12_ship 33 = .ok (.iconst 0, 1) := by decide +kernel
theorem dX12_ship_34 : decode cX12_ship 34 = .ok (.iconst 2, 1) := by decide +kernel
theorem dX12_ship_35 : decode cX12_ship 35 = .ok (.invokevirtual 282, 3) := by decide +kernel
theorem dX12_ship_38 : decode cX12_ship 38 = .ok (.ifCond .eq 5, 3) := by decide +kernel
theorem dX12_ship_41 : decode cX12_ship 41 = .ok (.iconst 0, 1) := by decide +kernel
theorem dX12_ship_42 : decode cX12_ship 42 = .ok (.ireturn, 1) := by decide +kernel
theorem dX12_ship_43 : decode cX12_ship 43 = .ok (.iload_n 2, 1) := by decide +kernel
theorem dX12_ship_44 : decode cX12_ship 44 = .ok (.tableswitch 154 6 12 #[44, 50, 72, 86, 104, 110, 116], 44) := by decide +kernel
theorem dX12_ship_88 : decode cX12_ship 88 = .ok (.aload_n 0, 1) := by decide +kernel
theorem dX12_ship_89 : decode cX12_ship 89 = .ok (.iload_n 1, 1) := by decide +kernel
theorem dX12_ship_90 : decode cX12_ship 90 = .ok (.invokevirtual 348, 3) := by decide +kernel
theorem dX12_ship_93 : decode cX12_ship 93 = .ok (.ireturn, 1) := by decide +kernel
theorem dX12_ship_94 : decode cX12_ship 94 = .ok (.aload_n 0, 1) := by decide +kernel
theorem dX12_ship_95 : decode cX12_ship 95 = .ok (.iload_n 1, 1) := by decide +kernel
theorem dX12_ship_96 : decode cX12_ship 96 = .ok (.invokevirtual 88, 3) := by decide +kernel
theorem dX12_ship_99 : decode cX12_ship 99 = .ok (.ifCond .eq 15, 3) := by decide +kernel
theorem dX12_ship_102 : decode cX12_ship 102 = .ok (.aload_n 0, 1) := by decide +kernel
theorem dX12_ship_103 : decode cX12_ship 103 = .ok (.iload_n 1, 1) := by decide +kernel
theorem dX12_ship_104 : decode cX12_ship 104 = .ok (.invokevirtual 315, 3) := by decide +kernel
theorem dX12_ship_107 : decode cX12_ship 107 = .ok (.ifCond .ne 7, 3) := by decide +kernel
theorem dX12_ship_110 : decode cX12_ship 110 = .ok (.iconst 1, 1) := by decide +kernel
theorem dX12_ship_111 : decode cX12_ship 111 = .ok (.goto 4, 3) := by decide +kernel
theorem dX12_ship_114 : decode cX12_ship 114 = .ok (.iconst 0, 1) := by decide +kernel
theorem dX12_ship_115 : decode cX12_ship 115 = .ok (.ireturn, 1) := by decide +kernel
theorem dX12_ship_116 : decode cX12_ship 116 = .ok (.aload_n 0, 1) := by decide +kernel
theorem dX12_ship_117 : decode cX12_ship 117 = .ok (.iload_n 1, 1) := by decide +kernel
theorem dX12_ship_118 : decode cX12_ship 118 = .ok (.invokevirtual 318, 3) := by decide +kernel
theorem dX12_ship_121 : decode cX12_ship 121 = .ok (.ifCond .eq 7, 3) := by decide +kernel
theorem dX12_ship_124 : decode cX12_ship 124 = .ok (.iconst 1, 1) := by decide +kernel
theorem dX12_ship_125 : decode cX12_ship 125 = .ok (.goto 4, 3) := by decide +kernel
theorem dX12_ship_128 : decode cX12_ship 128 = .ok (.iconst 0, 1) := by decide +kernel
theorem dX12_ship_129 : decode cX12_ship 129 = .ok (.ireturn, 1) := by decide +kernel
theorem dX12_ship_130 : decode cX12_ship 130 = .ok (.aload_n 0, 1) := by decide +kernel
theorem dX12_ship_131 : decode cX12_ship 131 = .ok (.iload_n 1, 1) := by decide +kernel
theorem dX12_ship_132 : decode cX12_ship 132 = .ok (.invokevirtual 88, 3) := by decide +kernel
theorem dX12_ship_135 : decode cX12_ship 135 = .ok (.ifCond .eq 11, 3) := by decide +kernel
theorem dX12_ship_138 : decode cX12_ship 138 = .ok (.aload_n 0, 1) := by decide +kernel
theorem dX12_ship_139 : decode cX12_ship 139 = .ok (.iload_n 1, 1) := by decide +kernel
theorem dX12_ship_140 : decode cX12_ship 140 = .ok (.invokevirtual 309, 3) := by decide +kernel
theorem dX12_ship_143 : decode cX12_ship 143 = .ok (.goto 4, 3) := by decide +kernel
theorem dX12_ship_146 : decode cX12_ship 146 = .ok (.iconst (-1), 1) := by decide +kernel
theorem dX12_ship_147 : decode cX12_ship 147 = .ok (.ireturn, 1) := by decide +kernel
theorem dX12_ship_148 : decode cX12_ship 148 = .ok (.aload_n 0, 1) := by decide +kernel
theorem dX12_ship_149 : decode cX12_ship 149 = .ok (.iload_n 1, 1) := by decide +kernel
theorem dX12_ship_150 : decode cX12_ship 150 = .ok (.invokevirtual 351, 3) := by decide +kernel
theorem dX12_ship_153 : decode cX12_ship 153 = .ok (.ireturn, 1) := by decide +kernel
theorem dX12_ship_154 : decode cX12_ship 154 = .ok (.aload_n 0, 1) := by decide +kernel
theorem dX12_ship_155 : decode cX12_ship 155 = .ok (.iload_n 1, 1) := by decide +kernel
theorem dX12_ship_156 : decode cX12_ship 156 = .ok (.invokevirtual 354, 3) := by decide +kernel
theorem dX12_ship_159 : decode cX12_ship 159 = .ok (.ireturn, 1) := by decide +kernel
theorem dX12_ship_160 : decode cX12_ship 160 = .ok (.aload_n 0, 1) := by decide +kernel
theorem dX12_ship_161 : decode cX12_ship 161 = .ok (.iload_n 1, 1) := by decide +kernel
theorem dX12_ship_162 : decode cX12_ship 162 = .ok (.iconst 3, 1) := by decide +kernel
theorem dX12_ship_163 : decode cX12_ship 163 = .ok (.invokevirtual 85, 3) := by decide +kernel
theorem dX12_ship_166 : decode cX12_ship 166 = .ok (.iconst 2, 1) := by decide +kernel
theorem dX12_ship_167 : decode cX12_ship 167 = .ok (.if_icmp .eq 11, 3) := by decide +kernel
theorem dX12_ship_170 : decode cX12_ship 170 = .ok (.aload_n 0, 1) := by decide +kernel
theorem dX12_ship_171 : decode cX12_ship 171 = .ok (.iconst 0, 1) := by decide +kernel
theorem dX12_ship_172 : decode cX12_ship 172 = .ok (.invokevirtual 357, 3) := by decide +kernel
theorem dX12_ship_175 : decode cX12_ship 175 = .ok (.ifCond .ne 7, 3) := by decide +kernel
theorem dX12_ship_178 : decode cX12_ship 178 = .ok (.iconst 0, 1) := by decide +kernel
theorem dX12_ship_179 : decode cX12_ship 179 = .ok (.goto 18, 3) := by decide +kernel
theorem dX12_ship_182 : decode cX12_ship 182 = .ok (.bipush 100, 2) := by decide +kernel
theorem dX12_ship_184 : decode cX12_ship 184 = .ok (.aload_n 0, 1) := by decide +kernel
theorem dX12_ship_185 : decode cX12_ship 185 = .ok (.iload_n 1, 1) := by decide +kernel
theorem dX12_ship_186 : decode cX12_ship 186 = .ok (.iconst 2, 1) := by decide +kernel
theorem dX12_ship_187 : decode cX12_ship 187 = .ok (.invokevirtual 85, 3) := by decide +kernel
theorem dX12_ship_190 : decode cX12_ship 190 = .ok (.imul, 1) := by decide +kernel
theorem dX12_ship_191 : decode cX12_ship 191 = .ok (.aload_n 0, 1) := by decide +kernel
theorem dX12_ship_192 : decode cX12_ship 192 = .ok (.iconst 0, 1) := by decide +kernel
theorem dX12_ship_193 : decode cX12_ship 193 = .ok (.invokevirtual 357, 3) := by decide +kernel
theorem dX12_ship_196 : decode cX12_ship 196 = .ok (.idiv, 1) := by decide +kernel
theorem dX12_ship_197 : decode cX12_ship 197 = .ok (.ireturn, 1) := by decide +kernel
theorem dX12_ship_198 : decode cX12_ship 198 = .ok (.aload_n 0, 1) := by decide +kernel
theorem dX12_ship_199 : decode cX12_ship 199 = .ok (.iload_n 1, 1) := by decide +kernel
theorem dX12_ship_200 : decode cX12_ship 200 = .ok (.iload_n 2, 1) := by decide +kernel
theorem dX12_ship_201 : decode cX12_ship 201 = .ok (.invokevirtual 85, 3) := by decide +kernel
theorem dX12_ship_204 : decode cX12_ship 204 = .ok (.ireturn, 1) := by decide +kernel
theorem dX12_place_0 : decode cX12_place 0 = .ok (.aload_n 0, 1) := by decide +kernel
theorem dX12_place_1 : decode cX12_place 1 = .ok (.iconst 0, 1) := by decide +kernel
theorem dX12_place_2 : decode cX12_place 2 = .ok (.putfield 3, 3) := by decide +kernel
theorem dX12_place_5 : decode cX12_place 5 = .ok (.aload_n 0, 1) := by decide +kernel
theorem dX12_place_6 : decode cX12_place 6 = .ok (.iload_n 1, 1) := by decide +kernel
theorem dX12_place_7 : decode cX12_place 7 = .ok (.invokestatic 360, 3) := by decide +kernel
theorem dX12_place_10 : decode cX12_place 10 = .ok (.iconst 1, 1) := by decide +kernel
theorem dX12_place_11 : decode cX12_place 11 = .ok (.invokevirtual 282, 3) := by decide +kernel
theorem dX12_place_14 : decode cX12_place 14 = .ok (.ifCond .ne 25, 3) := by decide +kernel
theorem dX12_place_17 : decode cX12_place 17 = .ok (.aload_n 0, 1) := by decide +kernel
theorem dX12_place_18 : decode cX12_place 18 = .ok (.iload_n 2, 1) := by decide +kernel
theorem dX12_place_19 : decode cX12_place 19 = .ok (.iconst 0, 1) := by decide +kernel
theorem dX12_place_20 : decode cX12_place 20 = .ok (.iconst 1, 1) := by decide +kernel
theorem dX12_place_21 : decode cX12_place 21 = .ok (.invokestatic 103, 3) := by decide +kernel
theorem dX12_place_24 : decode cX12_place 24 = .ok (.ifCond .ne 7, 3) := by decide +kernel
theorem dX12_place_27 : decode cX12_place 27 = .ok (.iconst 1, 1) := by decide +kernel
theorem dX12_place_28 : decode cX12_place 28 = .ok (.goto 4, 3) := by decide +kernel
theorem dX12_place_31 : decode cX12_place 31 = .ok (.iconst 0, 1) := by decide +kernel
theorem dX12_place_32 : decode cX12_place 32 = .ok (.iconst 2, 1) := by decide +kernel
theorem dX12_place_33 : decode cX12_place 33 = .ok (.invokevirtual 282, 3) := by decide +kernel
theorem dX12_place_36 : decode cX12_place 36 = .ok (.ifCond .eq 5, 3) := by decide +kernel
theorem dX12_place_39 : decode cX12_place 39 = .ok (.iconst 0, 1) := by decide +kernel
theorem dX12_place_40 : decode cX12_place 40 = .ok (.ireturn, 1) := by decide +kernel
theorem dX12_place_41 : decode cX12_place 41 = .ok (.iload_n 2, 1) := by decide +kernel
theorem dX12_place_42 : decode cX12_place 42 = .ok (.ifCond .ne 15, 3) := by decide +kernel
theorem dX12_place_45 : decode cX12_place 45 = .ok (.aload_n 0, 1) := by decide +kernel
theorem dX12_place_46 : decode cX12_place 46 = .ok (.getfield 13, 3) := by decide +kernel
theorem dX12_place_49 : decode cX12_place 49 = .ok (.bipush 10, 2) := by decide +kernel
theorem dX12_place_51 : decode cX12_place 51 = .ok (.iaload, 1) := by decide +kernel
theorem dX12_place_52 : decode cX12_place 52 = .ok (.iload_n 1, 1) := by decide +kernel
theorem dX12_place_53 : decode cX12_place 53 = .ok (.ishr, 1) := by decide +kernel
theorem dX12_place_54 : decode cX12_place 54 = .ok (.iconst 1, 1) := by decide +kernel
theorem dX12_place_55 : decode cX12_place 55 = .ok (.iand, 1) := by decide +kernel
theorem dX12_place_56 : decode cX12_place 56 = .ok (.ireturn, 1) := by decide +kernel
theorem dX12_place_57 : decode cX12_place 57 = .ok (.iconst (-1), 1) := by decide +kernel
theorem dX12_place_58 : decode cX12_place 58 = .ok (.istore_n 3, 1) := by decide +kernel
theorem dX12_place_59 : decode cX12_place 59 = .ok (.iconst 0, 1) := by decide +kernel
theorem dX12_place_60 : decode cX12_place 60 = .ok (.istore 4, 2) := by decide +kernel
theorem dX12_place_62 : decode cX12_place 62 = .ok (.iload 4, 2) := by decide +kernel
theorem dX12_place_64 : decode cX12_place 64 = .ok (.aload_n 0, 1) := by decide +kernel
theorem dX12_place_65 : decode cX12_place 65 = .ok (.invokevirtual 95, 3) := by decide +kernel
theorem dX12_place_68 : decode cX12_place 68 = .ok (.if_icmp .ge 29, 3) := by decide +kernel
theorem dX12_place_71 : decode cX12_place 71 = .ok (.aload_n 0, 1) := by decide +kernel
theorem dX12_place_72 : decode cX12_place 72 = .ok (.iload 4, 2) := by decide +kernel
theorem dX12_place_74 : decode cX12_place 74 = .ok (.invokevirtual 99, 3) := by decide +kernel
theorem dX12_place_77 : decode cX12_place 77 = .ok (.iload_n 1, 1) := by decide +kernel
theorem dX12_place_78 : decode cX12_place 78 = .ok (.invokestatic 306, 3) := by decide +kernel
theorem dX12_place_81 : decode cX12_place 81 = .ok (.ifCond .eq 8, 3) := by decide +kernel
theorem dX12_place_84 : decode cX12_place 84 = .ok (.iload 4, 2) := by decide +kernel
theorem dX12_place_86 : decode cX12_place 86 = .ok (.goto 4, 3) := by decide +kernel
theorem dX12_place_89 : decode cX12_place 89 = .ok (.iload_n 3, 1) := by decide +kernel
theorem dX12_place_90 : decode cX12_place 90 = .ok (.istore_n 3, 1) := by decide +kernel
theorem dX12_place_91 : decode cX12_place 91 = .ok (.iinc 4 1, 3) := by decide +kernel
theorem dX12_place_94 : decode cX12_place 94 = .ok (.goto (-32), 3) := by decide +kernel
theorem dX12_place_97 : decode cX12_place 97 = .ok (.iload_n 3, 1) := by decide +kernel
theorem dX12_place_98 : decode cX12_place 98 = .ok (.ireturn, 1) := by decide +kernel
theorem dX12_tide_0 : decode cX12_tide 0 = .ok (.aload_n 0, 1) := by decide +kernel
theorem dX12_tide_1 : decode cX12_tide 1 = .ok (.iconst 0, 1) := by decide +kernel
theorem dX12_tide_2 : decode cX12_tide 2 = .ok (.putfield 3, 3) := by decide +kernel
theorem dX12_tide_5 : decode cX12_tide 5 = .ok (.aload_n 0, 1) := by decide +kernel
theorem dX12_tide_6 : decode cX12_tide 6 = .ok (.iload_n 1, 1) := by decide +kernel
theorem dX12_tide_7 : decode cX12_tide 7 = .ok (.iconst 0, 1) := by decide +kernel
theorem dX12_tide_8 : decode cX12_tide 8 = .ok (.bipush 11, 2) := by decide +kernel
theorem dX12_tide_10 : decode cX12_tide 10 = .ok (.invokestatic 103, 3) := by decide +kernel
theorem dX12_tide_13 : decode cX12_tide 13 = .ok (.ifCond .ne 7, 3) := by decide +kernel
theorem dX12_tide_16 : decode cX12_tide 16 = .ok (.iconst 1, 1) := by decide +kernel
theorem dX12_tide_17 : decode cX12_tide 17 = .ok (.goto 4, 3) := by decide +kernel
theorem dX12_tide_20 : decode cX12_tide 20 = .ok (.iconst 0, 1) := by decide +kernel
theorem dX12_tide_21 : decode cX12_tide 21 = .ok (.iconst 1, 1) := by decide +kernel
theorem dX12_tide_22 : decode cX12_tide 22 = .ok (.invokevirtual 282, 3) := by decide +kernel
theorem dX12_tide_25 : decode cX12_tide 25 = .ok (.ifCond .eq 7, 3) := by decide +kernel
theorem dX12_tide_28 : decode cX12_tide 28 = .ok (.iconst 0, 1) := by decide +kernel
theorem dX12_tide_29 : decode cX12_tide 29 = .ok (.goto 12, 3) := by decide +kernel
theorem dX12_tide_32 : decode cX12_tide 32 = .ok (.aload_n 0, 1) := by decide +kernel
theorem dX12_tide_33 : decode cX12_tide 33 = .ok (.getfield 13, 3) := by decide +kernel
theorem dX12_tide_36 : decode cX12_tide 36 = .ok (.bipush 13, 2) := by decide +kernel
theorem dX12_tide_38 : decode cX12_tide 38 = .ok (.iload_n 1, 1) := by decide +kernel
theorem dX12_tide_39 : decode cX12_tide 39 = .ok (.iadd, 1) := by decide +kernel
theorem dX12_tide_40 : decode cX12_tide 40 = .ok (.iaload, 1) := by decide +kernel
theorem dX12_tide_41 : decode cX12_tide 41 = .ok (.ireturn, 1) := by decide +kernel
theorem dX12_hours_0 : decode cX12_hours 0 = .ok (.aload_n 0, 1) := by decide +kernel
theorem dX12_hours_1 : decode cX12_hours 1 = .ok (.iconst 0, 1) := by decide +kernel
theorem dX12_hours_2 : decode cX12_hours 2 = .ok (.putfield 3, 3) := by decide +kernel
theorem dX12_hours_5 : decode cX12_hours 5 = .ok (.aload_n 0, 1) := by decide +kernel
theorem dX12_hours_6 : decode cX12_hours 6 = .ok (.iload_n 1, 1) := by decide +kernel
theorem dX12_hours_7 : decode cX12_hours 7 = .ok (.iconst 1, 1) := by decide +kernel
theorem dX12_hours_8 : decode cX12_hours 8 = .ok (.bipush 60, 2) := by decide +kernel
theorem dX12_hours_10 : decode cX12_hours 10 = .ok (.invokestatic 103, 3) := by decide +kernel
theorem dX12_hours_13 : decode cX12_hours 13 = .ok (.ifCond .ne 7, 3) := by decide +kernel
theorem dX12_hours_16 : decode cX12_hours 16 = .ok (.iconst 1, 1) := by decide +kernel
theorem dX12_hours_17 : decode cX12_hours 17 = .ok (.goto 4, 3) := by decide +kernel
theorem dX12_hours_20 : decode cX12_hours 20 = .ok (.iconst 0, 1) := by decide +kernel
theorem dX12_hours_21 : decode cX12_hours 21 = .ok (.iconst 1, 1) := by decide +kernel
theorem dX12_hours_22 : decode cX12_hours 22 = .ok (.invokevirtual 282, 3) := by decide +kernel
theorem dX12_hours_25 : decode cX12_hours 25 = .ok (.ifCond .eq 5, 3) := by decide +kernel
theorem dX12_hours_28 : decode cX12_hours 28 = .ok (.iconst 0, 1) := by decide +kernel
theorem dX12_hours_29 : decode cX12_hours 29 = .ok (.ireturn, 1) := by decide +kernel
theorem dX12_hours_30 : decode cX12_hours 30 = .ok (.aload_n 0, 1) := by decide +kernel
theorem dX12_hours_31 : decode cX12_hours 31 = .ok (.invokevirtual 363, 3) := by decide +kernel
theorem dX12_hours_34 : decode cX12_hours 34 = .ok (.aload_n 0, 1) := by decide +kernel
theorem dX12_hours_35 : decode cX12_hours 35 = .ok (.iload_n 1, 1) := by decide +kernel
theorem dX12_hours_36 : decode cX12_hours 36 = .ok (.iconst 0, 1) := by decide +kernel
theorem dX12_hours_37 : decode cX12_hours 37 = .ok (.invokevirtual 366, 3) := by decide +kernel
theorem dX12_hours_40 : decode cX12_hours 40 = .ok (.ireturn, 1) := by decide +kernel
theorem dX12_isNow_0 : decode cX12_isNow 0 = .ok (.aload_n 0, 1) := by decide +kernel
theorem dX12_isNow_1 : decode cX12_isNow 1 = .ok (.invokevirtual 363, 3) := by decide +kernel
theorem dX12_isNow_4 : decode cX12_isNow 4 = .ok (.aload_n 0, 1) := by decide +kernel
theorem dX12_isNow_5 : decode cX12_isNow 5 = .ok (.getfield 13, 3) := by decide +kernel
theorem dX12_isNow_8 : decode cX12_isNow 8 = .ok (.iload_n 1, 1) := by decide +kernel
theorem dX12_isNow_9 : decode cX12_isNow 9 = .ok (.iaload, 1) := by decide +kernel
theorem dX12_isNow_10 : decode cX12_isNow 10 = .ok (.istore_n 3, 1) := by decide +kernel
theorem dX12_isNow_11 : decode cX12_isNow 11 = .ok (.aload_n 0, 1) := by decide +kernel
theorem dX12_isNow_12 : decode cX12_isNow 12 = .ok (.getfield 13, 3) := by decide +kernel
theorem dX12_isNow_15 : decode cX12_isNow 15 = .ok (.iload_n 1, 1) := by decide +kernel
theorem dX12_isNow_16 : decode cX12_isNow 16 = .ok (.iload_n 2, 1) := by decide +kernel
theorem dX12_isNow_17 : decode cX12_isNow 17 = .ok (.iastore, 1) := by decide +kernel
theorem dX12_isNow_18 : decode cX12_isNow 18 = .ok (.iload_n 3, 1) := by decide +kernel
theorem dX12_isNow_19 : decode cX12_isNow 19 = .ok (.ireturn, 1) := by decide +kernel
