theorem dX11_person_75 : decode cX11_person 75 = .ok (.iload_n 2, 1) := by decide +kernel
theorem dX11_person_76 : decode cX11_person 76 = .ok (.iastore, 1) := by decide +kernel
theorem dX11_person_77 : decode cX11_person 77 = .ok (.aload_n 0, 1) := by decide +kernel
theorem dX11_person_78 : decode cX11_person 78 = .ok (.dup, 1) := by decide +kernel
theorem dX11_person_79 : decode cX11_person 79 = .ok (.getfield 364, 3) := by decide +kernel
theorem dX11_person_82 : decode cX11_person 82 = .ok (.dup_x1, 1) := by decide +kernel
theorem dX11_person_83 : decode cX11_person 83 = .ok (.iconst 1, 1) := by decide +kernel
theorem dX11_person_84 : decode cX11_person 84 = .ok (.iadd, 1) := by decide +kernel
theorem dX11_person_85 : decode cX11_person 85 = .ok (.putfield 364, 3) := by decide +kernel
theorem dX11_person_88 : decode cX11_person 88 = .ok (.ireturn, 1) := by decide +kernel
theorem dX11_isCandidate_0 : decode cX11_isCandidate 0 = .ok (.iload_n 1, 1) := by decide +kernel
theorem dX11_isCandidate_1 : decode cX11_isCandidate 1 = .ok (.ifCond .lt 11, 3) := by decide +kernel
theorem dX11_isCandidate_4 : decode cX11_isCandidate 4 = .ok (.iload_n 1, 1) := by decide +kernel
theorem dX11_isCandidate_5 : decode cX11_isCandidate 5 = .ok (.aload_n 0, 1) := by decide +kernel
theorem dX11_isCandidate_6 : decode cX11_isCandidate 6 = .ok (.getfield 364, 3) := by decide +kernel
theorem dX11_isCandidate_9 : decode cX11_isCandidate 9 = .ok (.if_icmp .lt 5, 3) := by decide +kernel
theorem dX11_isCandidate_12 : decode cX11_isCandidate 12 = .ok (.iconst 0, 1) := by decide +kernel
theorem dX11_isCandidate_13 : decode cX11_isCandidate 13 = .ok (.ireturn, 1) := by decide +kernel
theorem dX11_isCandidate_14 : decode cX11_isCandidate 14 = .ok (.aload_n 0, 1) := by decide +kernel
theorem dX11_isCandidate_15 : decode cX11_isCandidate 15 = .ok (.getfield 16, 3) := by decide +kernel
theorem dX11_isCandidate_18 : decode cX11_isCandidate 18 = .ok (.iload_n 2, 1) := by decide +kernel
theorem dX11_isCandidate_19 : decode cX11_isCandidate 19 = .ok (.iaload, 1) := by decide +kernel
theorem dX11_isCandidate_20 : decode cX11_isCandidate 20 = .ok (.ifCond .ne 19, 3) := by decide +kernel
theorem dX11_isCandidate_23 : decode cX11_isCandidate 23 = .ok (.aload_n 0, 1) := by decide +kernel
theorem dX11_isCandidate_24 : decode cX11_isCandidate 24 = .ok (.getfield 160, 3) := by decide +kernel
theorem dX11_isCandidate_27 : decode cX11_isCandidate 27 = .ok (.iload_n 1, 1) := by decide +kernel
theorem dX11_isCandidate_28 : decode cX11_isCandidate 28 = .ok (.iaload, 1) := by decide +kernel
theorem dX11_isCandidate_29 : decode cX11_isCandidate 29 = .ok (.iload_n 2, 1) := by decide +kernel
theorem dX11_isCandidate_30 : decode cX11_isCandidate 30 = .ok (.if_icmp .ne 7, 3) := by decide +kernel
theorem dX11_isCandidate_33 : decode cX11_isCandidate 33 = .ok (.iconst 1, 1) := by decide +kernel
theorem dX11_isCandidate_34 : decode cX11_isCandidate 34 = .ok (.goto 4, 3) := by decide +kernel
theorem dX11_isCandidate_37 : decode cX11_isCandidate 37 = .ok (.iconst 0, 1) := by decide +kernel
theorem dX11_isCandidate_38 : decode cX11_isCandidate 38 = .ok (.ireturn, 1) := by decide +kernel
theorem dX11_isCandidate_39 : decode cX11_isCandidate 39 = .ok (.iconst 0, 1) := by decide +kernel
theorem dX11_isCandidate_40 : decode cX11_isCandidate 40 = .ok (.istore_n 3, 1) := by decide +kernel
theorem dX11_isCandidate_41 : decode cX11_isCandidate 41 = .ok (.iload_n 3, 1) := by decide +kernel
theorem dX11_isCandidate_42 : decode cX11_isCandidate 42 = .ok (.aload_n 0, 1) := by decide +kernel
theorem dX11_isCandidate_43 : decode cX11_isCandidate 43 = .ok (.getfield 7, 3) := by decide +kernel
theorem dX11_isCandidate_46 : decode cX11_isCandidate 46 = .ok (.if_icmp .ge 31, 3) := by decide +kernel
theorem dX11_isCandidate_49 : decode cX11_isCandidate 49 = .ok (.aload_n 0, 1) := by decide +kernel
theorem dX11_isCandidate_50 : decode cX11_isCandidate 50 = .ok (.getfield 20, 3) := by decide +kernel
theorem dX11_isCandidate_53 : decode cX11_isCandidate 53 = .ok (.iload_n 3, 1) := by decide +kernel
theorem dX11_isCandidate_54 : decode cX11_isCandidate 54 = .ok (.iaload, 1) := by decide +kernel
theorem dX11_isCandidate_55 : decode cX11_isCandidate 55 = .ok (.iload_n 2, 1) := by decide +kernel
theorem dX11_isCandidate_56 : decode cX11_isCandidate 56 = .ok (.if_icmp .ne 15, 3) := by decide +kernel
theorem dX11_isCandidate_59 : decode cX11_isCandidate 59 = .ok (.aload_n 0, 1) := by decide +kernel
theorem dX11_isCandidate_60 : decode cX11_isCandidate 60 = .ok (.getfield 35, 3) := by decide +kernel
theorem dX11_isCandidate_63 : decode cX11_isCandidate 63 = .ok (.iload_n 3, 1) := by decide +kernel
theorem dX11_isCandidate_64 : decode cX11_isCandidate 64 = .ok (.iaload, 1) := by decide +kernel
theorem dX11_isCandidate_65 : decode cX11_isCandidate 65 = .ok (.iload_n 1, 1) := by decide +kernel
theorem dX11_isCandidate_66 : decode cX11_isCandidate 66 = .ok (.if_icmp .ne 5, 3) := by decide +kernel
theorem dX11_isCandidate_69 : decode cX11_isCandidate 69 = .ok (.iconst 1, 1) := by decide +kernel
theorem dX11_isCandidate_70 : decode cX11_isCandidate 70 = .ok (.ireturn, 1) := by decide +kernel
theorem dX11_isCandidate_71 : decode cX11_isCandidate 71 = .ok (.iinc 3 1, 3) := by decide +kernel
theorem dX11_isCandidate_74 : decode cX11_isCandidate 74 = .ok (.goto (-33), 3) := by decide +kernel
theorem dX11_isCandidate_77 : decode cX11_isCandidate 77 = .ok (.iconst 0, 1) := by decide +kernel
theorem dX11_isCandidate_78 : decode cX11_isCandidate 78 = .ok (.ireturn, 1) := by decide +kernel
theorem dX11_choose_0 : decode cX11_choose 0 = .ok (.aload_n 0, 1) := by decide +kernel
theorem dX11_choose_1 : decode cX11_choose 1 = .ok (.iload_n 1, 1) := by decide +kernel
theorem dX11_choose_2 : decode cX11_choose 2 = .ok (.invokevirtual 208, 3) := by decide +kernel
theorem dX11_choose_5 : decode cX11_choose 5 = .ok (.ifCond .eq 10, 3) := by decide +kernel
theorem dX11_choose_8 : decode cX11_choose 8 = .ok (.iload_n 2, 1) := by decide +kernel
theorem dX11_choose_9 : decode cX11_choose 9 = .ok (.invokestatic 237, 3) := by decide +kernel
theorem dX11_choose_12 : decode cX11_choose 12 = .ok (.ifCond .ne 9, 3) := by decide +kernel
theorem dX11_choose_15 : decode cX11_choose 15 = .ok (.aload_n 0, 1) := by decide +kernel
theorem dX11_choose_16 : decode cX11_choose 16 = .ok (.iconst (-1), 1) := by decide +kernel
theorem dX11_choose_17 : decode cX11_choose 17 = .ok (.invokevirtual 212, 3) := by decide +kernel
theorem dX11_choose_20 : decode cX11_choose 20 = .ok (.ireturn, 1) := by decide +kernel
theorem dX11_choose_21 : decode cX11_choose 21 = .ok (.aload_n 0, 1) := by decide +kernel
theorem dX11_choose_22 : decode cX11_choose 22 = .ok (.iload_n 2, 1) := by decide +kernel
theorem dX11_choose_23 : decode cX11_choose 23 = .ok (.invokevirtual 249, 3) := by decide +kernel
theorem dX11_choose_26 : decode cX11_choose 26 = .ok (.istore_n 3, 1) := by decide +kernel
theorem dX11_choose_27 : decode cX11_choose 27 = .ok (.iload_n 3, 1) := by decide +kernel
theorem dX11_choose_28 : decode cX11_choose 28 = .ok (.ifCond .eq 9, 3) := by decide +kernel
theorem dX11_choose_31 : decode cX11_choose 31 = .ok (.aload_n 0, 1) := by decide +kernel
theorem dX11_choose_32 : decode cX11_choose 32 = .ok (.iload_n 3, 1) := by decide +kernel
theorem dX11_choose_33 : decode cX11_choose 33 = .ok (.invokevirtual 212, 3) := by decide +kernel
theorem dX11_choose_36 : decode cX11_choose 36 = .ok (.ireturn, 1) := by decide +kernel
theorem dX11_choose_37 : decode cX11_choose 37 = .ok (.iconst 0, 1) := by decide +kernel
theorem dX11_choose_38 : decode cX11_choose 38 = .ok (.istore 4, 2) := by decide +kernel
theorem dX11_choose_40 : decode cX11_choose 40 = .ok (.iconst 0, 1) := by decide +kernel
theorem dX11_choose_41 : decode cX11_choose 41 = .ok (.istore 5, 2) := by decide +kernel
theorem dX11_choose_43 : decode cX11_choose 43 = .ok (.iload 5, 2) := by decide +kernel
theorem dX11_choose_45 : decode cX11_choose 45 = .ok (.aload_n 0, 1) := by decide +kernel
theorem dX11_choose_46 : decode cX11_choose 46 = .ok (.getfield 364, 3) := by decide +kernel
theorem dX11_choose_49 : decode cX11_choose 49 = .ok (.if_icmp .ge 22, 3) := by decide +kernel
theorem dX11_choose_52 : decode cX11_choose 52 = .ok (.aload_n 0, 1) := by decide +kernel
theorem dX11_choose_53 : decode cX11_choose 53 = .ok (.iload 5, 2) := by decide +kernel
theorem dX11_choose_55 : decode cX11_choose 55 = .ok (.iload_n 1, 1) := by decide +kernel
theorem dX11_choose_56 : decode cX11_choose 56 = .ok (.invokevirtual 367, 3) := by decide +kernel
theorem dX11_choose_59 : decode cX11_choose 59 = .ok (.ifCond .eq 6, 3) := by decide +kernel
theorem dX11_choose_62 : decode cX11_choose 62 = .ok (.iinc 4 1, 3) := by decide +kernel
theorem dX11_choose_65 : decode cX11_choose 65 = .ok (.iinc 5 1, 3) := by decide +kernel
theorem dX11_choose_68 : decode cX11_choose 68 = .ok (.goto (-25), 3) := by decide +kernel
theorem dX11_choose_71 : decode cX11_choose 71 = .ok (.aload_n 0, 1) := by decide +kernel
theorem dX11_choose_72 : decode cX11_choose 72 = .ok (.getfield 51, 3) := by decide +kernel
theorem dX11_choose_75 : decode cX11_choose 75 = .ok (.iload_n 2, 1) := by decide +kernel
theorem dX11_choose_76 : decode cX11_choose 76 = .ok (.iaload, 1) := by decide +kernel
theorem dX11_choose_77 : decode cX11_choose 77 = .ok (.iload 4, 2) := by decide +kernel
theorem dX11_choose_79 : decode cX11_choose 79 = .ok (.if_icmp .ge 10, 3) := by decide +kernel
theorem dX11_choose_82 : decode cX11_choose 82 = .ok (.aload_n 0, 1) := by decide +kernel
theorem dX11_choose_83 : decode cX11_choose 83 = .ok (.bipush (-5), 2) := by decide +kernel
theorem dX11_choose_85 : decode cX11_choose 85 = .ok (.invokevirtual 212, 3) := by decide +kernel
theorem dX11_choose_88 : decode cX11_choose 88 = .ok (.ireturn, 1) := by decide +kernel
theorem dX11_choose_89 : decode cX11_choose 89 = .ok (.aload_n 0, 1) := by decide +kernel
theorem dX11_choose_90 : decode cX11_choose 90 = .ok (.getfield 35, 3) := by decide +kernel
theorem dX11_choose_93 : decode cX11_choose 93 = .ok (.iload_n 1, 1) := by decide +kernel
theorem dX11_choose_94 : decode cX11_choose 94 = .ok (.iaload, 1) := by decide +kernel
theorem dX11_choose_95 : decode cX11_choose 95 = .ok (.iconst (-1), 1) := by decide +kernel
theorem dX11_choose_96 : decode cX11_choose 96 = .ok (.if_icmp .ne 12, 3) := by decide +kernel
theorem dX11_choose_99 : decode cX11_choose 99 = .ok (.iload 4, 2) := by decide +kernel
theorem dX11_choose_101 : decode cX11_choose 101 = .ok (.ifCond .eq 7, 3) := by decide +kernel
theorem dX11_choose_104 : decode cX11_choose 104 = .ok (.iload_n 1, 1) := by decide +kernel
theorem dX11_choose_105 : decode cX11_choose 105 = .ok (.ifCond .ne 10, 3) := by decide +kernel
theorem dX11_choose_108 : decode cX11_choose 108 = .ok (.aload_n 0, 1) := by decide +kernel
theorem dX11_choose_109 : decode cX11_choose 109 = .ok (.bipush (-6), 2) := by decide +kernel
theorem dX11_choose_111 : decode cX11_choose 111 = .ok (.invokevirtual 212, 3) := by decide +kernel
theorem dX11_choose_114 : decode cX11_choose 114 = .ok (.ireturn, 1) := by decide +kernel
theorem dX11_choose_115 : decode cX11_choose 115 = .ok (.iconst (-1), 1) := by decide +kernel
theorem dX11_choose_116 : decode cX11_choose 116 = .ok (.istore 5, 2) := by decide +kernel
theorem dX11_choose_118 : decode cX11_choose 118 = .ok (.iconst (-1), 1) := by decide +kernel
theorem dX11_choose_119 : decode cX11_choose 119 = .ok (.istore 6, 2) := by decide +kernel
theorem dX11_choose_121 : decode cX11_choose 121 = .ok (.iconst 0, 1) := by decide +kernel
theorem dX11_choose_122 : decode cX11_choose 122 = .ok (.istore 7, 2) := by decide +kernel
theorem dX11_choose_124 : decode cX11_choose 124 = .ok (.iload 7, 2) := by decide +kernel
theorem dX11_choose_126 : decode cX11_choose 126 = .ok (.aload_n 0, 1) := by decide +kernel
theorem dX11_choose_127 : decode cX11_choose 127 = .ok (.getfield 364, 3) := by decide +kernel
theorem dX11_choose_130 : decode cX11_choose 130 = .ok (.if_icmp .ge 101, 3) := by decide +kernel
theorem dX11_choose_133 : decode cX11_choose 133 = .ok (.aload_n 0, 1) := by decide +kernel
theorem dX11_choose_134 : decode cX11_choose 134 = .ok (.iload 7, 2) := by decide +kernel
theorem dX11_choose_136 : decode cX11_choose 136 = .ok (.iload_n 1, 1) := by decide +kernel
theorem dX11_choose_137 : decode cX11_choose 137 = .ok (.invokevirtual 367, 3) := by decide +kernel
theorem dX11_choose_140 : decode cX11_choose 140 = .ok (.ifCond .ne 6, 3) := by decide +kernel
theorem dX11_choose_143 : decode cX11_choose 143 = .ok (.goto 82, 3) := by decide +kernel
theorem dX11_choose_146 : decode cX11_choose 146 = .ok (.iconst 0, 1) := by decide +kernel
theorem dX11_choose_147 : decode cX11_choose 147 = .ok (.istore 8, 2) := by decide +kernel
theorem dX11_choose_149 : decode cX11_choose 149 = .ok (.iconst 0, 1) := by decide +kernel
theorem dX11_choose_150 : decode cX11_choose 150 = .ok (.istore 9, 2) := by decide +kernel
theorem dX11_choose_152 : decode cX11_choose 152 = .ok (.iload 9, 2) := by decide +kernel
theorem dX11_choose_154 : decode cX11_choose 154 = .ok (.iload 4, 2) := by decide +kernel
theorem dX11_choose_156 : decode cX11_choose 156 = .ok (.if_icmp .ge 30, 3) := by decide +kernel
theorem dX11_choose_159 : decode cX11_choose 159 = .ok (.aload_n 0, 1) := by decide +kernel
theorem dX11_choose_160 : decode cX11_choose 160 = .ok (.getfield 57, 3) := by decide +kernel
theorem dX11_choose_163 : decode cX11_choose 163 = .ok (.bipush 60, 2) := by decide +kernel
theorem dX11_choose_165 : decode cX11_choose 165 = .ok (.iload_n 2, 1) := by decide +kernel
theorem dX11_choose_166 : decode cX11_choose 166 = .ok (.imul, 1) := by decide +kernel
theorem dX11_choose_167 : decode cX11_choose 167 = .ok (.iload 9, 2) := by decide +kernel
theorem dX11_choose_169 : decode cX11_choose 169 = .ok (.iadd, 1) := by decide +kernel
theorem dX11_choose_170 : decode cX11_choose 170 = .ok (.laload, 1) := by decide +kernel
theorem dX11_choose_171 : decode cX11_choose 171 = .ok (.l2i, 1) := by decide +kernel
theorem dX11_choose_172 : decode cX11_choose 172 = .ok (.iload 7, 2) := by decide +kernel
theorem dX11_choose_174 : decode cX11_choose 174 = .ok (.if_icmp .ne 6, 3) := by decide +kernel
theorem dX11_choose_177 : decode cX11_choose 177 = .ok (.iinc 8 1, 3) := by decide +kernel
theorem dX11_choose_180 : decode cX11_choose 180 = .ok (.iinc 9 1, 3) := by decide +kernel
theorem dX11_choose_183 : decode cX11_choose 183 = .ok (.goto (-31), 3) := by decide +kernel
theorem dX11_choose_186 : decode cX11_choose 186 = .ok (.iload 8, 2) := by decide +kernel
theorem dX11_choose_188 : decode cX11_choose 188 = .ok (.iload 6, 2) := by decide +kernel
theorem dX11_choose_190 : decode cX11_choose 190 = .ok (.if_icmp .gt 27, 3) := by decide +kernel
theorem dX11_choose_193 : decode cX11_choose 193 = .ok (.iload 8, 2) := by decide +kernel
theorem dX11_choose_195 : decode cX11_choose 195 = .ok (.iload 6, 2) := by decide +kernel
theorem dX11_choose_197 : decode cX11_choose 197 = .ok (.if_icmp .ne 28, 3) := by decide +kernel
theorem dX11_choose_200 : decode cX11_choose 200 = .ok (.aload_n 0, 1) := by decide +kernel
theorem dX11_choose_201 : decode cX11_choose 201 = .ok (.getfield 163, 3) := by decide +kernel
theorem dX11_choose_204 : decode cX11_choose 204 = .ok (.iload 7, 2) := by decide +kernel
theorem dX11_choose_206 : decode cX11_choose 206 = .ok (.iaload, 1) := by decide +kernel
theorem dX11_choose_207 : decode cX11_choose 207 = .ok (.aload_n 0, 1) := by decide +kernel
theorem dX11_choose_208 : decode cX11_choose 208 = .ok (.getfield 163, 3) := by decide +kernel
theorem dX11_choose_211 : decode cX11_choose 211 = .ok (.iload 5, 2) := by decide +kernel
theorem dX11_choose_213 : decode cX11_choose 213 = .ok (.iaload, 1) := by decide +kernel
theorem dX11_choose_214 : decode cX11_choose 214 = .ok (.if_icmp .ge 11, 3) := by decide +kernel
theorem dX11_choose_217 : decode cX11_choose 217 = .ok (.iload 7, 2) := by decide +kernel
theorem dX11_choose_219 : decode cX11_choose 219 = .ok (.istore 5, 2) := by decide +kernel
theorem dX11_choose_221 : decode cX11_choose 221 = .ok (.iload 8, 2) := by decide +kernel
theorem dX11_choose_223 : decode cX11_choose 223 = .ok (.istore 6, 2) := by decide +kernel
theorem dX11_choose_225 : decode cX11_choose 225 = .ok (.iinc 7 1, 3) := by decide +kernel
theorem dX11_choose_228 : decode cX11_choose 228 = .ok (.goto (-104), 3) := by decide +kernel
theorem dX11_choose_231 : decode cX11_choose 231 = .ok (.aload_n 0, 1) := by decide +kernel
theorem dX11_choose_232 : decode cX11_choose 232 = .ok (.getfield 35, 3) := by decide +kernel
theorem dX11_choose_235 : decode cX11_choose 235 = .ok (.iload_n 1, 1) := by decide +kernel
theorem dX11_choose_236 : decode cX11_choose 236 = .ok (.iload 5, 2) := by decide +kernel
theorem dX11_choose_238 : decode cX11_choose 238 = .ok (.iastore, 1) := by decide +kernel
theorem dX11_choose_239 : decode cX11_choose 239 = .ok (.iload 5, 2) := by decide +kernel
theorem dX11_choose_241 : decode cX11_choose 241 = .ok (.ireturn, 1) := by decide +kernel
theorem dX11_unchoose_0 : decode cX11_unchoose 0 = .ok (.aload_n 0, 1) := by decide +kernel
theorem dX11_unchoose_1 : decode cX11_unchoose 1 = .ok (.iload_n 1, 1) := by decide +kernel
theorem dX11_unchoose_2 : decode cX11_unchoose 2 = .ok (.invokevirtual 208, 3) := by decide +kernel
theorem dX11_unchoose_5 : decode cX11_unchoose 5 = .ok (.ifCond .ne 9, 3) := by decide +kernel
theorem dX11_unchoose_8 : decode cX11_unchoose 8 = .ok (.aload_n 0, 1) := by decide +kernel
theorem dX11_unchoose_9 : decode cX11_unchoose 9 = .ok (.iconst (-1), 1) := by decide +kernel
theorem dX11_unchoose_10 : decode cX11_unchoose 10 = .ok (.invokevirtual 212, 3) := by decide +kernel
theorem dX11_unchoose_13 : decode cX11_unchoose 13 = .ok (.ireturn, 1) := by decide +kernel
theorem dX11_unchoose_14 : decode cX11_unchoose 14 = .ok (.aload_n 0, 1) := by decide +kernel
theorem dX11_unchoose_15 : decode cX11_unchoose 15 = .ok (.getfield 35, 3) := by decide +kernel
theorem dX11_unchoose_18 : decode cX11_unchoose 18 = .ok (.iload_n 1, 1) := by decide +kernel
theorem dX11_unchoose_19 : decode cX11_unchoose 19 = .ok (.iaload, 1) := by decide +kernel
theorem dX11_unchoose_20 : decode cX11_unchoose 20 = .ok (.iconst (-1), 1) := by decide +kernel
theorem dX11_unchoose_21 : decode cX11_unchoose 21 = .ok (.if_icmp .ne 10, 3) := by decide +kernel
theorem dX11_unchoose_24 : decode cX11_unchoose 24 = .ok (.aload_n 0, 1) := by decide +kernel
theorem dX11_unchoose_25 : decode cX11_unchoose 25 = .ok (.bipush (-6), 2) := by decide +kernel
theorem dX11_unchoose_27 : decode cX11_unchoose 27 = .ok (.invokevirtual 212, 3) := by decide +kernel
theorem dX11_unchoose_30 : decode cX11_unchoose 30 = .ok (.ireturn, 1) := by decide +kernel
theorem dX11_unchoose_31 : decode cX11_unchoose 31 = .ok (.aload_n 0, 1) := by decide +kernel
theorem dX11_unchoose_32 : decode cX11_unchoose 32 = .ok (.getfield 35, 3) := by decide +kernel
theorem dX11_unchoose_35 : decode cX11_unchoose 35 = .ok (.iload_n 1, 1) := by decide +kernel
theorem dX11_unchoose_36 : decode cX11_unchoose 36 = .ok (.iaload, 1) := by decide +kernel
theorem dX11_unchoose_37 : decode cX11_unchoose 37 = .ok (.istore_n 2, 1) := by decide +kernel
theorem dX11_unchoose_38 : decode cX11_unchoose 38 = .ok (.iconst 0, 1) := by decide +kernel
theorem dX11_unchoose_39 : decode cX11_unchoose 39 = .ok (.istore_n 3, 1) := by decide +kernel
theorem dX11_unchoose_40 : decode cX11_unchoose 40 = .ok (.iload_n 1, 1) := by decide +kernel
theorem dX11_unchoose_41 : decode cX11_unchoose 41 = .ok (.istore 4, 2) := by decide +kernel
theorem dX11_unchoose_43 : decode cX11_unchoose 43 = .ok (.iload 4, 2) := by decide +kernel
theorem dX11_unchoose_45 : decode cX11_unchoose 45 = .ok (.iconst (-1), 1) := by decide +kernel
theorem dX11_unchoose_46 : decode cX11_unchoose 46 = .ok (.if_icmp .eq 37, 3) := by decide +kernel
theorem dX11_unchoose_49 : decode cX11_unchoose 49 = .ok (.aload_n 0, 1) := by decide +kernel
theorem dX11_unchoose_50 : decode cX11_unchoose 50 = .ok (.getfield 35, 3) := by decide +kernel
theorem dX11_unchoose_53 : decode cX11_unchoose 53 = .ok (.iload 4, 2) := by decide +kernel
theorem dX11_unchoose_55 : decode cX11_unchoose 55 = .ok (.iaload, 1) := by decide +kernel
theorem dX11_unchoose_56 : decode cX11_unchoose 56 = .ok (.iload_n 2, 1) := by decide +kernel
theorem dX11_unchoose_57 : decode cX11_unchoose 57 = .ok (.if_icmp .ne 26, 3) := by decide +kernel
theorem dX11_unchoose_60 : decode cX11_unchoose 60 = .ok (.aload_n 0, 1) := by decide +kernel
theorem dX11_unchoose_61 : decode cX11_unchoose 61 = .ok (.getfield 35, 3) := by decide +kernel
theorem dX11_unchoose_64 : decode cX11_unchoose 64 = .ok (.iload 4, 2) := by decide +kernel
theorem dX11_unchoose_66 : decode cX11_unchoose 66 = .ok (.iconst (-1), 1) := by decide +kernel
theorem dX11_unchoose_67 : decode cX11_unchoose 67 = .ok (.iastore, 1) := by decide +kernel
theorem dX11_unchoose_68 : decode cX11_unchoose 68 = .ok (.iinc 3 1, 3) := by decide +kernel
theorem dX11_unchoose_71 : decode cX11_unchoose 71 = .ok (.aload_n 0, 1) := by decide +kernel
theorem dX11_unchoose_72 : decode cX11_unchoose 72 = .ok (.getfield 20, 3) := by decide +kernel
theorem dX11_unchoose_75 : decode cX11_unchoose 75 = .ok (.iload 4, 2) := by decide +kernel
theorem dX11_unchoose_77 : decode cX11_unchoose 77 = .ok (.iaload, 1) := by decide +kernel
theorem dX11_unchoose_78 : decode cX11_unchoose 78 = .ok (.istore 4, 2) := by decide +kernel
theorem dX11_unchoose_80 : decode cX11_unchoose 80 = .ok (.goto (-37), 3) := by decide +kernel
theorem dX11_unchoose_83 : decode cX11_unchoose 83 = .ok (.iload_n 3, 1) := by decide +kernel
theorem dX11_unchoose_84 : decode cX11_unchoose 84 = .ok (.ireturn, 1) := by decide +kernel
theorem dX11_bind_0 : decode cX11_bind 0 = .ok (.aload_n 0, 1) := by decide +kernel
theorem dX11_bind_1 : decode cX11_bind 1 = .ok (.iload_n 1, 1) := by decide +kernel
theorem dX11_bind_2 : decode cX11_bind 2 = .ok (.invokevirtual 240, 3) := by decide +kernel
theorem dX11_bind_5 : decode cX11_bind 5 = .ok (.ifCond .ne 9, 3) := by decide +kernel
theorem dX11_bind_8 : decode cX11_bind 8 = .ok (.aload_n 0, 1) := by decide +kernel
theorem dX11_bind_9 : decode cX11_bind 9 = .ok (.iconst (-1), 1) := by decide +kernel
theorem dX11_bind_10 : decode cX11_bind 10 = .ok (.invokevirtual 212, 3) := by decide +kernel
theorem dX11_bind_13 : decode cX11_bind 13 = .ok (.ireturn, 1) := by decide +kernel
theorem dX11_bind_14 : decode cX11_bind 14 = .ok (.aload_n 0, 1) := by decide +kernel
theorem dX11_bind_15 : decode cX11_bind 15 = .ok (.getfield 79, 3) := by decide +kernel
theorem dX11_bind_18 : decode cX11_bind 18 = .ok (.iload_n 1, 1) := by decide +kernel
theorem dX11_bind_19 : decode cX11_bind 19 = .ok (.iaload, 1) := by decide +kernel
theorem dX11_bind_20 : decode cX11_bind 20 = .ok (.iconst 2, 1) := by decide +kernel
theorem dX11_bind_21 : decode cX11_bind 21 = .ok (.if_icmp .ne 36, 3) := by decide +kernel
theorem dX11_bind_24 : decode cX11_bind 24 = .ok (.aload_n 0, 1) := by decide +kernel
theorem dX11_bind_25 : decode cX11_bind 25 = .ok (.getfield 64, 3) := by decide +kernel
theorem dX11_bind_28 : decode cX11_bind 28 = .ok (.iload_n 1, 1) := by decide +kernel
theorem dX11_bind_29 : decode cX11_bind 29 = .ok (.iaload, 1) := by decide +kernel
theorem dX11_bind_30 : decode cX11_bind 30 = .ok (.ifCond .eq 27, 3) := by decide +kernel
theorem dX11_bind_33 : decode cX11_bind 33 = .ok (.aload_n 0, 1) := by decide +kernel
theorem dX11_bind_34 : decode cX11_bind 34 = .ok (.getfield 35, 3) := by decide +kernel
theorem dX11_bind_37 : decode cX11_bind 37 = .ok (.aload_n 0, 1) := by decide +kernel
theorem dX11_bind_38 : decode cX11_bind 38 = .ok (.getfield 64, 3) := by decide +kernel
theorem dX11_bind_41 : decode cX11_bind 41 = .ok (.iload_n 1, 1) := by decide +kernel
theorem dX11_bind_42 : decode cX11_bind 42 = .ok (.iaload, 1) := by decide +kernel
theorem dX11_bind_43 : decode cX11_bind 43 = .ok (.iaload, 1) := by decide +kernel
theorem dX11_bind_44 : decode cX11_bind 44 = .ok (.iconst (-1), 1) := by decide +kernel
theorem dX11_bind_45 : decode cX11_bind 45 = .ok (.if_icmp .eq 12, 3) := by decide +kernel
theorem dX11_bind_48 : decode cX11_bind 48 = .ok (.aload_n 0, 1) := by decide +kernel
theorem dX11_bind_49 : decode cX11_bind 49 = .ok (.getfield 106, 3) := by decide +kernel
theorem dX11_bind_52 : decode cX11_bind 52 = .ok (.iload_n 1, 1) := by decide +kernel
theorem dX11_bind_53 : decode cX11_bind 53 = .ok (.baload, 1) := by decide +kernel
theorem dX11_bind_54 : decode cX11_bind 54 = .ok (.ifCond .eq 10, 3) := by decide +kernel
theorem dX11_bind_57 : decode cX11_bind 57 = .ok (.aload_n 0, 1) := by decide +kernel
theorem dX11_bind_58 : decode cX11_bind 58 = .ok (.bipush (-6), 2) := by decide +kernel
theorem dX11_bind_60 : decode cX11_bind 60 = .ok (.invokevirtual 212, 3) := by decide +kernel
theorem dX11_bind_63 : decode cX11_bind 63 = .ok (.ireturn, 1) := by decide +kernel
theorem dX11_bind_64 : decode cX11_bind 64 = .ok (.aload_n 0, 1) := by decide +kernel
theorem dX11_bind_65 : decode cX11_bind 65 = .ok (.getfield 79, 3) := by decide +kernel
theorem dX11_bind_68 : decode cX11_bind 68 = .ok (.iload_n 1, 1) := by decide +kernel
theorem dX11_bind_69 : decode cX11_bind 69 = .ok (.iconst 3, 1) := by decide +kernel
theorem dX11_bind_70 : decode cX11_bind 70 = .ok (.iastore, 1) := by decide +kernel
theorem dX11_bind_71 : decode cX11_bind 71 = .ok (.aload_n 0, 1) := by decide +kernel
theorem dX11_bind_72 : decode cX11_bind 72 = .ok (.getfield 35, 3) := by decide +kernel
theorem dX11_bind_75 : decode cX11_bind 75 = .ok (.aload_n 0, 1) := by decide +kernel
theorem dX11_bind_76 : decode cX11_bind 76 = .ok (.getfield 64, 3) := by decide +kernel
theorem dX11_bind_79 : decode cX11_bind 79 = .ok (.iload_n 1, 1) := by decide +kernel
theorem dX11_bind_80 : decode cX11_bind 80 = .ok (.iaload, 1) := by decide +kernel
theorem dX11_bind_81 : decode cX11_bind 81 = .ok (.iaload, 1) := by decide +kernel
theorem dX11_bind_82 : decode cX11_bind 82 = .ok (.ireturn, 1) := by decide +kernel
theorem dX11_unbind_0 : decode cX11_unbind 0 = .ok (.aload_n 0, 1) := by decide +kernel
theorem dX11_unbind_1 : decode cX11_unbind 1 = .ok (.iload_n 1, 1) := by decide +kernel
theorem dX11_unbind_2 : decode cX11_unbind 2 = .ok (.invokevirtual 240, 3) := by decide +kernel
theorem dX11_unbind_5 : decode cX11_unbind 5 = .ok (.ifCond .ne 9, 3) := by decide +kernel
theorem dX11_unbind_8 : decode cX11_unbind 8 = .ok (.aload_n 0, 1) := by decide +kernel
theorem dX11_unbind_9 : decode cX11_unbind 9 = .ok (.iconst (-1), 1) := by decide +kernel
theorem dX11_unbind_10 : decode cX11_unbind 10 = .ok (.invokevirtual 212, 3) := by decide +kernel
theorem dX11_unbind_13 : decode cX11_unbind 13 = .ok (.ireturn, 1) := by decide +kernel
theorem dX11_unbind_14 : decode cX11_unbind 14 = .ok (.aload_n 0, 1) := by decide +kernel
theorem dX11_unbind_15 : decode cX11_unbind 15 = .ok (.getfield 79, 3) := by decide +kernel
theorem dX11_unbind_18 : decode cX11_unbind 18 = .ok (.iload_n 1, 1) := by decide +kernel
theorem dX11_unbind_19 : decode cX11_unbind 19 = .ok (.iaload, 1) := by decide +kernel
theorem dX11_unbind_20 : decode cX11_unbind 20 = .ok (.iconst 3, 1) := by decide +kernel
theorem dX11_unbind_21 : decode cX11_unbind 21 = .ok (.if_icmp .ne 13, 3) := by decide +kernel
theorem dX11_unbind_24 : decode cX11_unbind 24 = .ok (.aload_n 0, 1) := by decide +kernel
theorem dX11_unbind_25 : decode cX11_unbind 25 = .ok (.getfield 94, 3) := by decide +kernel
theorem dX11_unbind_28 : decode cX11_unbind 28 = .ok (.iload_n 1, 1) := by decide +kernel
theorem dX11_unbind_29 : decode cX11_unbind 29 = .ok (.iaload, 1) := by decide +kernel
theorem dX11_unbind_30 : decode cX11_unbind 30 = .ok (.iconst (-1), 1) := by decide +kernel
theorem dX11_unbind_31 : decode cX11_unbind 31 = .ok (.if_icmp .eq 10, 3) := by decide +kernel
theorem dX11_unbind_34 : decode cX11_unbind 34 = .ok (.aload_n 0, 1) := by decide +kernel
theorem dX11_unbind_35 : decode cX11_unbind 35 = .ok (.bipush (-6), 2) := by decide +kernel
theorem dX11_unbind_37 : decode cX11_unbind 37 = .ok (.invokevirtual 212, 3) := by decide +kernel
theorem dX11_unbind_40 : decode cX11_unbind 40 = .ok (.ireturn, 1) := by decide +kernel
theorem dX11_unbind_41 : decode cX11_unbind 41 = .ok (.aload_n 0, 1) := by decide +kernel
theorem dX11_unbind_42 : decode cX11_unbind 42 = .ok (.getfield 94, 3) := by decide +kernel
theorem dX11_unbind_45 : decode cX11_unbind 45 = .ok (.iload_n 1, 1) := by decide +kernel
theorem dX11_unbind_46 : decode cX11_unbind 46 = .ok (.aload_n 0, 1) := by decide +kernel
theorem dX11_unbind_47 : decode cX11_unbind 47 = .ok (.getfield 224, 3) := by decide +kernel
theorem dX11_unbind_50 : decode cX11_unbind 50 = .ok (.aload_n 0, 1) := by decide +kernel
theorem dX11_unbind_51 : decode cX11_unbind 51 = .ok (.aload_n 0, 1) := by decide +kernel
theorem dX11_unbind_52 : decode cX11_unbind 52 = .ok (.getfield 64, 3) := by decide +kernel
theorem dX11_unbind_55 : decode cX11_unbind 55 = .ok (.iload_n 1, 1) := by decide +kernel
theorem dX11_unbind_56 : decode cX11_unbind 56 = .ok (.iaload, 1) := by decide +kernel
theorem dX11_unbind_57 : decode cX11_unbind 57 = .ok (.iconst 0, 1) := by decide +kernel
theorem dX11_unbind_58 : decode cX11_unbind 58 = .ok (.invokevirtual 220, 3) := by decide +kernel
theorem dX11_unbind_61 : decode cX11_unbind 61 = .ok (.iadd, 1) := by decide +kernel
theorem dX11_unbind_62 : decode cX11_unbind 62 = .ok (.iastore, 1) := by decide +kernel
theorem dX11_unbind_63 : decode cX11_unbind 63 = .ok (.aload_n 0, 1) := by decide +kernel
theorem dX11_unbind_64 : decode cX11_unbind 64 = .ok (.getfield 94, 3) := by decide +kernel
theorem dX11_unbind_67 : decode cX11_unbind 67 = .ok (.iload_n 1, 1) := by decide +kernel
theorem dX11_unbind_68 : decode cX11_unbind 68 = .ok (.iaload, 1) := by decide +kernel
theorem dX11_unbind_69 : decode cX11_unbind 69 = .ok (.ireturn, 1) := by decide +kernel
theorem dX11_give_0 : decode cX11_give 0 = .ok (.aload_n 0, 1) := by decide +kernel
theorem dX11_give_1 : decode cX11_give 1 = .ok (.iload_n 1, 1) := by decide +kernel
theorem dX11_give_2 : decode cX11_give 2 = .ok (.invokevirtual 240, 3) := by decide +kernel
theorem dX11_give_5 : decode cX11_give 5 = .ok (.ifCond .ne 9, 3) := by decide +kernel
theorem dX11_give_8 : decode cX11_give 8 = .ok (.aload_n 0, 1) := by decide +kernel
theorem dX11_give_9 : decode cX11_give 9 = .ok (.iconst (-1), 1) := by decide +kernel
theorem dX11_give_10 : decode cX11_give 10 = .ok (.invokevirtual 212, 3) := by decide +kernel
theorem dX11_give_13 : decode cX11_give 13 = .ok (.ireturn, 1) := by decide +kernel
theorem dX11_give_14 : decode cX11_give 14 = .ok (.aload_n 0, 1) := by decide +kernel
theorem dX11_give_15 : decode cX11_give 15 = .ok (.getfield 79, 3) := by decide +kernel
theorem dX11_give_18 : decode cX11_give 18 = .ok (.iload_n 1, 1) := by decide +kernel
theorem dX11_give_19 : decode cX11_give 19 = .ok (.iaload, 1) := by decide +kernel
theorem dX11_give_20 : decode cX11_give 20 = .ok (.iconst 2, 1) := by decide +kernel
theorem dX11_give_21 : decode cX11_give 21 = .ok (.if_icmp .lt 36, 3) := by decide +kernel
theorem dX11_give_24 : decode cX11_give 24 = .ok (.aload_n 0, 1) := by decide +kernel
theorem dX11_give_25 : decode cX11_give 25 = .ok (.getfield 64, 3) := by decide +kernel
theorem dX11_give_28 : decode cX11_give 28 = .ok (.iload_n 1, 1) := by decide +kernel
theorem dX11_give_29 : decode cX11_give 29 = .ok (.iaload, 1) := by decide +kernel
theorem dX11_give_30 : decode cX11_give 30 = .ok (.ifCond .eq 27, 3) := by decide +kernel
theorem dX11_give_33 : decode cX11_give 33 = .ok (.aload_n 0, 1) := by decide +kernel
theorem dX11_give_34 : decode cX11_give 34 = .ok (.getfield 35, 3) := by decide +kernel
theorem dX11_give_37 : decode cX11_give 37 = .ok (.aload_n 0, 1) := by decide +kernel
theorem dX11_give_38 : decode cX11_give 38 = .ok (.getfield 64, 3) := by decide +kernel
theorem dX11_give_41 : decode cX11_give 41 = .ok (.iload_n 1, 1) := by decide +kernel
theorem dX11_give_42 : decode cX11_give 42 = .ok (.iaload, 1) := by decide +kernel
theorem dX11_give_43 : decode cX11_give 43 = .ok (.iaload, 1) := by decide +kernel
theorem dX11_give_44 : decode cX11_give 44 = .ok (.iconst (-1), 1) := by decide +kernel
theorem dX11_give_45 : decode cX11_give 45 = .ok (.if_icmp .eq 12, 3) := by decide +kernel
theorem dX11_give_48 : decode cX11_give 48 = .ok (.aload_n 0, 1) := by decide +kernel
theorem dX11_give_49 : decode cX11_give 49 = .ok (.getfield 106, 3) := by decide +kernel
theorem dX11_give_52 : decode cX11_give 52 = .ok (.iload_n 1, 1) := by decide +kernel
theorem dX11_give_53 : decode cX11_give 53 = .ok (.baload, 1) := by decide +kernel
theorem dX11_give_54 : decode cX11_give 54 = .ok (.ifCond .eq 10, 3) := by decide +kernel
theorem dX11_give_57 : decode cX11_give 57 = .ok (.aload_n 0, 1) := by decide +kernel
theorem dX11_give_58 : decode cX11_give 58 = .ok (.bipush (-6), 2) := by decide +kernel
theorem dX11_give_60 : decode cX11_give 60 = .ok (.invokevirtual 212, 3) := by decide +kernel
theorem dX11_give_63 : decode cX11_give 63 = .ok (.ireturn, 1) := by decide +kernel
theorem dX11_give_64 : decode cX11_give 64 = .ok (.aload_n 0, 1) := by decide +kernel
theorem dX11_give_65 : decode cX11_give 65 = .ok (.getfield 79, 3) := by decide +kernel
theorem dX11_give_68 : decode cX11_give 68 = .ok (.iload_n 1, 1) := by decide +kernel
theorem dX11_give_69 : decode cX11_give 69 = .ok (.iaload, 1) := by decide +kernel
theorem dX11_give_70 : decode cX11_give 70 = .ok (.iconst 3, 1) := by decide +kernel
theorem dX11_give_71 : decode cX11_give 71 = .ok (.if_icmp .ne 33, 3) := by decide +kernel
theorem dX11_give_74 : decode cX11_give 74 = .ok (.aload_n 0, 1) := by decide +kernel
theorem dX11_give_75 : decode cX11_give 75 = .ok (.getfield 94, 3) := by decide +kernel
theorem dX11_give_78 : decode cX11_give 78 = .ok (.iload_n 1, 1) := by decide +kernel
theorem dX11_give_79 : decode cX11_give 79 = .ok (.iaload, 1) := by decide +kernel
theorem dX11_give_80 : decode cX11_give 80 = .ok (.iconst (-1), 1) := by decide +kernel
theorem dX11_give_81 : decode cX11_give 81 = .ok (.if_icmp .eq 16, 3) := by decide +kernel
theorem dX11_give_84 : decode cX11_give 84 = .ok (.aload_n 0, 1) := by decide +kernel
theorem dX11_give_85 : decode cX11_give 85 = .ok (.getfield 94, 3) := by decide +kernel
theorem dX11_give_88 : decode cX11_give 88 = .ok (.iload_n 1, 1) := by decide +kernel
theorem dX11_give_89 : decode cX11_give 89 = .ok (.iaload, 1) := by decide +kernel
theorem dX11_give_90 : decode cX11_give 90 = .ok (.aload_n 0, 1) := by decide +kernel
theorem dX11_give_91 : decode cX11_give 91 = .ok (.getfield 224, 3) := by decide +kernel
theorem dX11_give_94 : decode cX11_give 94 = .ok (.if_icmp .le 10, 3) := by decide +kernel
theorem dX11_give_97 : decode cX11_give 97 = .ok (.aload_n 0, 1) := by decide +kernel
theorem dX11_give_98 : decode cX11_give 98 = .ok (.bipush (-6), 2) := by decide +kernel
theorem dX11_give_100 : decode cX11_give 100 = .ok (.invokevirtual 212, 3) := by decide +kernel
theorem dX11_give_103 : decode cX11_give 103 = .ok (.ireturn, 1) := by decide +kernel
theorem dX11_give_104 : decode cX11_give 104 = .ok (.aload_n 0, 1) := by decide +kernel
theorem dX11_give_105 : decode cX11_give 105 = .ok (.getfield 106, 3) := by decide +kernel
theorem dX11_give_108 : decode cX11_give 108 = .ok (.iload_n 1, 1) := by decide +kernel
theorem dX11_give_109 : decode cX11_give 109 = .ok (.iconst 1, 1) := by decide +kernel
theorem dX11_give_110 : decode cX11_give 110 = .ok (.bastore, 1) := by decide +kernel
theorem dX11_give_111 : decode cX11_give 111 = .ok (.aload_n 0, 1) := by decide +kernel
theorem dX11_give_112 : decode cX11_give 112 = .ok (.getfield 35, 3) := by decide +kernel
theorem dX11_give_115 : decode cX11_give 115 = .ok (.aload_n 0, 1) := by decide +kernel
theorem dX11_give_116 : decode cX11_give 116 = .ok (.getfield 64, 3) := by decide +kernel
theorem dX11_give_119 : decode cX11_give 119 = .ok (.iload_n 1, 1) := by decide +kernel
theorem dX11_give_120 : decode cX11_give 120 = .ok (.iaload, 1) := by decide +kernel
theorem dX11_give_121 : decode cX11_give 121 = .ok (.iaload, 1) := by decide +kernel
theorem dX11_give_122 : decode cX11_give 122 = .ok (.ireturn, 1) := by decide +kernel
theorem dX11_clash_0 : decode cX11_clash 0 = .ok (.iload_n 1, 1) := by decide +kernel
theorem dX11_clash_1 : decode cX11_clash 1 = .ok (.ifCond .lt 19, 3) := by decide +kernel
theorem dX11_clash_4 : decode cX11_clash 4 = .ok (.iload_n 1, 1) := by decide +kernel
theorem dX11_clash_5 : decode cX11_clash 5 = .ok (.bipush 15, 2) := by decide +kernel
theorem dX11_clash_7 : decode cX11_clash 7 = .ok (.if_icmp .gt 13, 3) := by decide +kernel
theorem dX11_clash_10 : decode cX11_clash 10 = .ok (.iload_n 2, 1) := by decide +kernel
theorem dX11_clash_11 : decode cX11_clash 11 = .ok (.ifCond .lt 9, 3) := by decide +kernel
theorem dX11_clash_14 : decode cX11_clash 14 = .ok (.iload_n 2, 1) := by decide +kernel
theorem dX11_clash_15 : decode cX11_clash 15 = .ok (.bipush 15, 2) := by decide +kernel
theorem dX11_clash_17 : decode cX11_clash 17 = .ok (.if_icmp .le 10, 3) := by decide +kernel
theorem dX11_clash_20 : decode cX11_clash 20 = .ok (.aload_n 0, 1) := by decide +kernel
theorem dX11_clash_21 : decode cX11_clash 21 = .ok (.bipush (-6), 2) := by decide +kernel
theorem dX11_clash_23 : decode cX11_clash 23 = .ok (.invokevirtual 212, 3) := by decide +kernel
theorem dX11_clash_26 : decode cX11_clash 26 = .ok (.ireturn, 1) := by decide +kernel
theorem dX11_clash_27 : decode cX11_clash 27 = .ok (.aload_n 0, 1) := by decide +kernel
theorem dX11_clash_28 : decode cX11_clash 28 = .ok (.getfield 166, 3) := by decide +kernel
theorem dX11_clash_31 : decode cX11_clash 31 = .ok (.bipush 16, 2) := by decide +kernel
theorem dX11_clash_33 : decode cX11_clash 33 = .ok (.iload_n 1, 1) := by decide +kernel
theorem dX11_clash_34 : decode cX11_clash 34 = .ok (.imul, 1) := by decide +kernel
theorem dX11_clash_35 : decode cX11_clash 35 = .ok (.iload_n 2, 1) := by decide +kernel
theorem dX11_clash_36 : decode cX11_clash 36 = .ok (.iadd, 1) := by decide +kernel
theorem dX11_clash_37 : decode cX11_clash 37 = .ok (.baload, 1) := by decide +kernel
theorem dX11_clash_38 : decode cX11_clash 38 = .ok (.iload_n 3, 1) := by decide +kernel
theorem dX11_clash_39 : decode cX11_clash 39 = .ok (.if_icmp .ne 5, 3) := by decide +kernel
theorem dX11_clash_42 : decode cX11_clash 42 = .ok (.iconst 0, 1) := by decide +kernel
theorem dX11_clash_43 : decode cX11_clash 43 = .ok (.ireturn, 1) := by decide +kernel
theorem dX11_clash_44 : decode cX11_clash 44 = .ok (.aload_n 0, 1) := by decide +kernel
theorem dX11_clash_45 : decode cX11_clash 45 = .ok (.getfield 166, 3) := by decide +kernel
theorem dX11_clash_48 : decode cX11_clash 48 = .ok (.bipush 16, 2) := by decide +kernel
theorem dX11_clash_50 : decode cX11_clash 50 = .ok (.iload_n 1, 1) := by decide +kernel
theorem dX11_clash_51 : decode cX11_clash 51 = .ok (.imul, 1) := by decide +kernel
theorem dX11_clash_52 : decode cX11_clash 52 = .ok (.iload_n 2, 1) := by decide +kernel
theorem dX11_clash_53 : decode cX11_clash 53 = .ok (.iadd, 1) := by decide +kernel
theorem dX11_clash_54 : decode cX11_clash 54 = .ok (.iload_n 3, 1) := by decide +kernel
theorem dX11_clash_55 : decode cX11_clash 55 = .ok (.bastore, 1) := by decide +kernel
theorem dX11_clash_56 : decode cX11_clash 56 = .ok (.aload_n 0, 1) := by decide +kernel
theorem dX11_clash_57 : decode cX11_clash 57 = .ok (.getfield 166, 3) := by decide +kernel
theorem dX11_clash_60 : decode cX11_clash 60 = .ok (.bipush 16, 2) := by decide +kernel
theorem dX11_clash_62 : decode cX11_clash 62 = .ok (.iload_n 2, 1) := by decide +kernel
theorem dX11_clash_63 : decode cX11_clash 63 = .ok (.imul, 1) := by decide +kernel
theorem dX11_clash_64 : decode cX11_clash 64 = .ok (.iload_n 1, 1) := by decide +kernel
theorem dX11_clash_65 : decode cX11_clash 65 = .ok (.iadd, 1) := by decide +kernel
theorem dX11_clash_66 : decode cX11_clash 66 = .ok (.iload_n 3, 1) := by decide +kernel
theorem dX11_clash_67 : decode cX11_clash 67 = .ok (.bastore, 1) := by decide +kernel
theorem dX11_clash_68 : decode cX11_clash 68 = .ok (.iconst 1, 1) := by decide +kernel
theorem dX11_clash_69 : decode cX11_clash 69 = .ok (.ireturn, 1) := by decide +kernel
theorem dX11_standing_0 : decode cX11_standing 0 = .ok (.iconst 0, 1) := by decide +kernel
theorem dX11_standing_1 : decode cX11_standing 1 = .ok (.istore_n 2, 1) := by decide +kernel
theorem dX11_standing_2 : decode cX11_standing 2 = .ok (.iconst 0, 1) := by decide +kernel
theorem dX11_standing_3 : decode cX11_standing 3 = .ok (.istore_n 3, 1) := by decide +kernel
theorem dX11_standing_4 : decode cX11_standing 4 = .ok (.iload_n 3, 1) := by decide +kernel
theorem dX11_standing_5 : decode cX11_standing 5 = .ok (.aload_n 0, 1) := by decide +kernel
theorem dX11_standing_6 : decode cX11_standing 6 = .ok (.getfield 205, 3) := by decide +kernel
theorem dX11_standing_9 : decode cX11_standing 9 = .ok (.if_icmp .ge 37, 3) := by decide +kernel
theorem dX11_standing_12 : decode cX11_standing 12 = .ok (.aload_n 0, 1) := by decide +kernel
theorem dX11_standing_13 : decode cX11_standing 13 = .ok (.getfield 64, 3) := by decide +kernel
theorem dX11_standing_16 : decode cX11_standing 16 = .ok (.iload_n 3, 1) := by decide +kernel
theorem dX11_standing_17 : decode cX11_standing 17 = .ok (.iaload, 1) := by decide +kernel
theorem dX11_standing_18 : decode cX11_standing 18 = .ok (.iload_n 1, 1) := by decide +kernel
theorem dX11_standing_19 : decode cX11_standing 19 = .ok (.if_icmp .ne 21, 3) := by decide +kernel
theorem dX11_standing_22 : decode cX11_standing 22 = .ok (.aload_n 0, 1) := by decide +kernel
theorem dX11_standing_23 : decode cX11_standing 23 = .ok (.iload_n 3, 1) := by decide +kernel
theorem dX11_standing_24 : decode cX11_standing 24 = .ok (.invokevirtual 338, 3) := by decide +kernel
theorem dX11_standing_27 : decode cX11_standing 27 = .ok (.ifCond .eq 13, 3) := by decide +kernel
theorem dX11_standing_30 : decode cX11_standing 30 = .ok (.aload_n 0, 1) := by decide +kernel
theorem dX11_standing_31 : decode cX11_standing 31 = .ok (.getfield 187, 3) := by decide +kernel
theorem dX11_standing_34 : decode cX11_standing 34 = .ok (.iload_n 2, 1) := by decide +kernel
theorem dX11_standing_35 : decode cX11_standing 35 = .ok (.iinc 2 1, 3) := by decide +kernel
theorem dX11_standing_38 : decode cX11_standing 38 = .ok (.iload_n 3, 1) := by decide +kernel
theorem dX11_standing_39 : decode cX11_standing 39 = .ok (.iastore, 1) := by decide +kernel
theorem dX11_standing_40 : decode cX11_standing 40 = .ok (.iinc 3 1, 3) := by decide +kernel
theorem dX11_standing_43 : decode cX11_standing 43 = .ok (.goto (-39), 3) := by decide +kernel
theorem dX11_standing_46 : decode cX11_standing 46 = .ok (.iload_n 2, 1) := by decide +kernel
theorem dX11_standing_47 : decode cX11_standing 47 = .ok (.ireturn, 1) := by decide +kernel
theorem dX11_isFree_0 : decode cX11_isFree 0 = .ok (.iconst 0, 1) := by decide +kernel
theorem dX11_isFree_1 : decode cX11_isFree 1 = .ok (.istore_n 3, 1) := by decide +kernel
theorem dX11_isFree_2 : decode cX11_isFree 2 = .ok (.iload_n 3, 1) := by decide +kernel
theorem dX11_isFree_3 : decode cX11_isFree 3 = .ok (.iload_n 1, 1) := by decide +kernel
theorem dX11_isFree_4 : decode cX11_isFree 4 = .ok (.if_icmp .ge 78, 3) := by decide +kernel
theorem dX11_isFree_7 : decode cX11_isFree 7 = .ok (.iconst 0, 1) := by decide +kernel
theorem dX11_isFree_8 : decode cX11_isFree 8 = .ok (.istore 4, 2) := by decide +kernel
theorem dX11_isFree_10 : decode cX11_isFree 10 = .ok (.iload 4, 2) := by decide +kernel
theorem dX11_isFree_12 : decode cX11_isFree 12 = .ok (.iload_n 3, 1) := by decide +kernel
theorem dX11_isFree_13 : decode cX11_isFree 13 = .ok (.if_icmp .ge 63, 3) := by decide +kernel
theorem dX11_isFree_16 : decode cX11_isFree 16 = .ok (.iload_n 2, 1) := by decide +kernel
theorem dX11_isFree_17 : decode cX11_isFree 17 = .ok (.iload_n 3, 1) := by decide +kernel
theorem dX11_isFree_18 : decode cX11_isFree 18 = .ok (.ishr, 1) := by decide +kernel
theorem dX11_isFree_19 : decode cX11_isFree 19 = .ok (.iconst 1, 1) := by decide +kernel
theorem dX11_isFree_20 : decode cX11_isFree 20 = .ok (.iand, 1) := by decide +kernel
theorem dX11_isFree_21 : decode cX11_isFree 21 = .ok (.ifCond .ne 49, 3) := by decide +kernel
theorem dX11_isFree_24 : decode cX11_isFree 24 = .ok (.iload_n 2, 1) := by decide +kernel
theorem dX11_isFree_25 : decode cX11_isFree 25 = .ok (.iload 4, 2) := by decide +kernel
theorem dX11_isFree_27 : decode cX11_isFree 27 = .ok (.ishr, 1) := by decide +kernel
theorem dX11_isFree_28 : decode cX11_isFree 28 = .ok (.iconst 1, 1) := by decide +kernel
theorem dX11_isFree_29 : decode cX11_isFree 29 = .ok (.iand, 1) := by decide +kernel
theorem dX11_isFree_30 : decode cX11_isFree 30 = .ok (.ifCond .ne 40, 3) := by decide +kernel
theorem dX11_isFree_33 : decode cX11_isFree 33 = .ok (.aload_n 0, 1) := by decide +kernel
theorem dX11_isFree_34 : decode cX11_isFree 34 = .ok (.getfield 166, 3) := by decide +kernel
theorem dX11_isFree_37 : decode cX11_isFree 37 = .ok (.bipush 16, 2) := by decide +kernel
theorem dX11_isFree_39 : decode cX11_isFree 39 = .ok (.aload_n 0, 1) := by decide +kernel
theorem dX11_isFree_40 : decode cX11_isFree 40 = .ok (.getfield 67, 3) := by decide +kernel
theorem dX11_isFree_43 : decode cX11_isFree 43 = .ok (.aload_n 0, 1) := by decide +kernel
theorem dX11_isFree_44 : decode cX11_isFree 44 = .ok (.getfield 187, 3) := by decide +kernel
theorem dX11_isFree_47 : decode cX11_isFree 47 = .ok (.iload_n 3, 1) := by decide +kernel
theorem dX11_isFree_48 : decode cX11_isFree 48 = .ok (.iaload, 1) := by decide +kernel
theorem dX11_isFree_49 : decode cX11_isFree 49 = .ok (.iaload, 1) := by decide +kernel
theorem dX11_isFree_50 : decode cX11_isFree 50 = .ok (.imul, 1) := by decide +kernel
theorem dX11_isFree_51 : decode cX11_isFree 51 = .ok (.aload_n 0, 1) := by decide +kernel
theorem dX11_isFree_52 : decode cX11_isFree 52 = .ok (.getfield 67, 3) := by decide +kernel
theorem dX11_isFree_55 : decode cX11_isFree 55 = .ok (.aload_n 0, 1) := by decide +kernel
theorem dX11_isFree_56 : decode cX11_isFree 56 = .ok (.getfield 187, 3) := by decide +kernel
theorem dX11_isFree_59 : decode cX11_isFree 59 = .ok (.iload 4, 2) := by decide +kernel
theorem dX11_isFree_61 : decode cX11_isFree 61 = .ok (.iaload, 1) := by decide +kernel
theorem dX11_isFree_62 : decode cX11_isFree 62 = .ok (.iaload, 1) := by decide +kernel
theorem dX11_isFree_63 : decode cX11_isFree 63 = .ok (.iadd, 1) := by decide +kernel
theorem dX11_isFree_64 : decode cX11_isFree 64 = .ok (.baload, 1) := by decide +kernel
theorem dX11_isFree_65 : decode cX11_isFree 65 = .ok (.ifCond .eq 5, 3) := by decide +kernel
theorem dX11_isFree_68 : decode cX11_isFree 68 = .ok (.iconst 0, 1) := by decide +kernel
theorem dX11_isFree_69 : decode cX11_isFree 69 = .ok (.ireturn, 1) := by decide +kernel
theorem dX11_isFree_70 : decode cX11_isFree 70 = .ok (.iinc 4 1, 3) := by decide +kernel
theorem dX11_isFree_73 : decode cX11_isFree 73 = .ok (.goto (-63), 3) := by decide +kernel
theorem dX11_isFree_76 : decode cX11_isFree 76 = .ok (.iinc 3 1, 3) := by decide +kernel
theorem dX11_isFree_79 : decode cX11_isFree 79 = .ok (.goto (-77), 3) := by decide +kernel
theorem dX11_isFree_82 : decode cX11_isFree 82 = .ok (.iconst 1, 1) := by decide +kernel
theorem dX11_isFree_83 : decode cX11_isFree 83 = .ok (.ireturn, 1) := by decide +kernel
theorem dX11_bits_0 : decode cX11_bits 0 = .ok (.iconst 0, 1) := by decide +kernel
theorem dX11_bits_1 : decode cX11_bits 1 = .ok (.istore_n 1, 1) := by decide +kernel
theorem dX11_bits_2 : decode cX11_bits 2 = .ok (.iconst 0, 1) := by decide +kernel
theorem dX11_bits_3 : decode cX11_bits 3 = .ok (.istore_n 2, 1) := by decide +kernel
theorem dX11_bits_4 : decode cX11_bits 4 = .ok (.iload_n 2, 1) := by decide +kernel
theorem dX11_bits_5 : decode cX11_bits 5 = .ok (.bipush 16, 2) := by decide +kernel
theorem dX11_bits_7 : decode cX11_bits 7 = .ok (.if_icmp .ge 17, 3) := by decide +kernel
theorem dX11_bits_10 : decode cX11_bits 10 = .ok (.iload_n 1, 1) := by decide +kernel
theorem dX11_bits_11 : decode cX11_bits 11 = .ok (.iload_n 0, 1) := by decide +kernel
theorem dX11_bits_12 : decode cX11_bits 12 = .ok (.iload_n 2, 1) := by decide +kernel
theorem dX11_bits_13 : decode cX11_bits 13 = .ok (.ishr, 1) := by decide +kernel
theorem dX11_bits_14 : decode cX11_bits 14 = .ok (.iconst 1, 1) := by decide +kernel
theorem dX11_bits_15 : decode cX11_bits 15 = .ok (.iand, 1) := by decide +kernel
theorem dX11_bits_16 : decode cX11_bits 16 = .ok (.iadd, 1) := by decide +kernel
theorem dX11_bits_17 : decode cX11_bits 17 = .ok (.istore_n 1, 1) := by decide +kernel
theorem dX11_bits_18 : decode cX11_bits 18 = .ok (.iinc 2 1, 3) := by decide +kernel
theorem dX11_bits_21 : decode cX11_bits 21 = .ok (.goto (-17), 3) := by decide +kernel
theorem dX11_bits_24 : decode cX11_bits 24 = .ok (.iload_n 1, 1) := by decide +kernel
theorem dX11_bits_25 : decode cX11_bits 25 = .ok (.ireturn, 1) := by decide +kernel
theorem dX11_leave_0 : decode cX11_leave 0 = .ok (.aload_n 0, 1) := by decide +kernel
theorem dX11_leave_1 : decode cX11_leave 1 = .ok (.iload_n 1, 1) := by decide +kernel
theorem dX11_leave_2 : decode cX11_leave 2 = .ok (.invokevirtual 208, 3) := by decide +kernel
theorem dX11_leave_5 : decode cX11_leave 5 = .ok (.ifCond .ne 9, 3) := by decide +kernel
theorem dX11_leave_8 : decode cX11_leave 8 = .ok (.aload_n 0, 1) := by decide +kernel
theorem dX11_leave_9 : decode cX11_leave 9 = .ok (.iconst (-1), 1) := by decide +kernel
theorem dX11_leave_10 : decode cX11_leave 10 = .ok (.invokevirtual 212, 3) := by decide +kernel
theorem dX11_leave_13 : decode cX11_leave 13 = .ok (.ireturn, 1) := by decide +kernel
theorem dX11_leave_14 : decode cX11_leave 14 = .ok (.aload_n 0, 1) := by decide +kernel
theorem dX11_leave_15 : decode cX11_leave 15 = .ok (.iload_n 1, 1) := by decide +kernel
theorem dX11_leave_16 : decode cX11_leave 16 = .ok (.invokevirtual 370, 3) := by decide +kernel
theorem dX11_leave_19 : decode cX11_leave 19 = .ok (.istore_n 2, 1) := by decide +kernel
theorem dX11_leave_20 : decode cX11_leave 20 = .ok (.iload_n 2, 1) := by decide +kernel
theorem dX11_leave_21 : decode cX11_leave 21 = .ok (.bipush 12, 2) := by decide +kernel
theorem dX11_leave_23 : decode cX11_leave 23 = .ok (.if_icmp .le 10, 3) := by decide +kernel
theorem dX11_leave_26 : decode cX11_leave 26 = .ok (.aload_n 0, 1) := by decide +kernel
theorem dX11_leave_27 : decode cX11_leave 27 = .ok (.bipush (-7), 2) := by decide +kernel
theorem dX11_leave_29 : decode cX11_leave 29 = .ok (.invokevirtual 212, 3) := by decide +kernel
theorem dX11_leave_32 : decode cX11_leave 32 = .ok (.ireturn, 1) := by decide +kernel
theorem dX11_leave_33 : decode cX11_leave 33 = .ok (.iconst (-1), 1) := by decide +kernel
theorem dX11_leave_34 : decode cX11_leave 34 = .ok (.istore_n 3, 1) := by decide +kernel
theorem dX11_leave_35 : decode cX11_leave 35 = .ok (.iconst 0, 1) := by decide +kernel
theorem dX11_leave_36 : decode cX11_leave 36 = .ok (.istore 4, 2) := by decide +kernel
theorem dX11_leave_38 : decode cX11_leave 38 = .ok (.iload 4, 2) := by decide +kernel
theorem dX11_leave_40 : decode cX11_leave 40 = .ok (.iconst 1, 1) := by decide +kernel
theorem dX11_leave_41 : decode cX11_leave 41 = .ok (.iload_n 2, 1) := by decide +kernel
theorem dX11_leave_42 : decode cX11_leave 42 = .ok (.ishl, 1) := by decide +kernel
theorem dX11_leave_43 : decode cX11_leave 43 = .ok (.if_icmp .ge 39, 3) := by decide +kernel
theorem dX11_leave_46 : decode cX11_leave 46 = .ok (.aload_n 0, 1) := by decide +kernel
theorem dX11_leave_47 : decode cX11_leave 47 = .ok (.iload_n 2, 1) := by decide +kernel
theorem dX11_leave_48 : decode cX11_leave 48 = .ok (.iload 4, 2) := by decide +kernel
theorem dX11_leave_50 : decode cX11_leave 50 = .ok (.invokevirtual 373, 3) := by decide +kernel
theorem dX11_leave_53 : decode cX11_leave 53 = .ok (.ifCond .eq 23, 3) := by decide +kernel
theorem dX11_leave_56 : decode cX11_leave 56 = .ok (.iload_n 3, 1) := by decide +kernel
theorem dX11_leave_57 : decode cX11_leave 57 = .ok (.iconst (-1), 1) := by decide +kernel
theorem dX11_leave_58 : decode cX11_leave 58 = .ok (.if_icmp .eq 15, 3) := by decide +kernel
theorem dX11_leave_61 : decode cX11_leave 61 = .ok (.iload 4, 2) := by decide +kernel
theorem dX11_leave_63 : decode cX11_leave 63 = .ok (.invokestatic 376, 3) := by decide +kernel
theorem dX11_leave_66 : decode cX11_leave 66 = .ok (.iload_n 3, 1) := by decide +kernel
theorem dX11_leave_67 : decode cX11_leave 67 = .ok (.invokestatic 376, 3) := by decide +kernel
theorem dX11_leave_70 : decode cX11_leave 70 = .ok (.if_icmp .ge 6, 3) := by decide +kernel
theorem dX11_leave_73 : decode cX11_leave 73 = .ok (.iload 4, 2) := by decide +kernel
theorem dX11_leave_75 : decode cX11_leave 75 = .ok (.istore_n 3, 1) := by decide +kernel
theorem dX11_leave_76 : decode cX11_leave 76 = .ok (.iinc 4 1, 3) := by decide +kernel
theorem dX11_leave_79 : decode cX11_leave 79 = .ok (.goto (-41), 3) := by decide +kernel
theorem dX11_leave_82 : decode cX11_leave 82 = .ok (.iload_n 3, 1) := by decide +kernel
theorem dX11_leave_83 : decode cX11_leave 83 = .ok (.ireturn, 1) := by decide +kernel
theorem dX11_judge_0 : decode cX11_judge 0 = .ok (.aload_n 0, 1) := by decide +kernel
theorem dX11_judge_1 : decode cX11_judge 1 = .ok (.iload_n 1, 1) := by decide +kernel
theorem dX11_judge_2 : decode cX11_judge 2 = .ok (.invokevirtual 208, 3) := by decide +kernel
theorem dX11_judge_5 : decode cX11_judge 5 = .ok (.ifCond .eq 10, 3) := by decide +kernel
theorem dX11_judge_8 : decode cX11_judge 8 = .ok (.iload_n 2, 1) := by decide +kernel
theorem dX11_judge_9 : decode cX11_judge 9 = .ok (.invokestatic 237, 3) := by decide +kernel
theorem dX11_judge_12 : decode cX11_judge 12 = .ok (.ifCond .ne 9, 3) := by decide +kernel
theorem dX11_judge_15 : decode cX11_judge 15 = .ok (.aload_n 0, 1) := by decide +kernel
theorem dX11_judge_16 : decode cX11_judge 16 = .ok (.iconst (-1), 1) := by decide +kernel
theorem dX11_judge_17 : decode cX11_judge 17 = .ok (.invokevirtual 212, 3) := by decide +kernel
theorem dX11_judge_20 : decode cX11_judge 20 = .ok (.ireturn, 1) := by decide +kernel
theorem dX11_judge_21 : decode cX11_judge 21 = .ok (.aload_n 0, 1) := by decide +kernel
theorem dX11_judge_22 : decode cX11_judge 22 = .ok (.iload_n 2, 1) := by decide +kernel
theorem dX11_judge_23 : decode cX11_judge 23 = .ok (.invokevirtual 249, 3) := by decide +kernel
theorem dX11_judge_26 : decode cX11_judge 26 = .ok (.istore_n 3, 1) := by decide +kernel
theorem dX11_judge_27 : decode cX11_judge 27 = .ok (.iload_n 3, 1) := by decide +kernel
theorem dX11_judge_28 : decode cX11_judge 28 = .ok (.ifCond .eq 9, 3) := by decide +kernel
theorem dX11_judge_31 : decode cX11_judge 31 = .ok (.aload_n 0, 1) := by decide +kernel
theorem dX11_judge_32 : decode cX11_judge 32 = .ok (.iload_n 3, 1) := by decide +kernel
theorem dX11_judge_33 : decode cX11_judge 33 = .ok (.invokevirtual 212, 3) := by decide +kernel
theorem dX11_judge_36 : decode cX11_judge 36 = .ok (.ireturn, 1) := by decide +kernel
theorem dX11_judge_37 : decode cX11_judge 37 = .ok (.aload_n 0, 1) := by decide +kernel
theorem dX11_judge_38 : decode cX11_judge 38 = .ok (.iload_n 1, 1) := by decide +kernel
theorem dX11_judge_39 : decode cX11_judge 39 = .ok (.invokevirtual 370, 3) := by decide +kernel
theorem dX11_judge_42 : decode cX11_judge 42 = .ok (.istore 4, 2) := by decide +kernel
theorem dX11_judge_44 : decode cX11_judge 44 = .ok (.iconst 0, 1) := by decide +kernel
theorem dX11_judge_45 : decode cX11_judge 45 = .ok (.istore 5, 2) := by decide +kernel
theorem dX11_judge_47 : decode cX11_judge 47 = .ok (.iconst 0, 1) := by decide +kernel
theorem dX11_judge_48 : decode cX11_judge 48 = .ok (.istore 6, 2) := by decide +kernel
theorem dX11_judge_50 : decode cX11_judge 50 = .ok (.iload 6, 2) := by decide +kernel
theorem dX11_judge_52 : decode cX11_judge 52 = .ok (.aload_n 0, 1) := by decide +kernel
theorem dX11_judge_53 : decode cX11_judge 53 = .ok (.getfield 51, 3) := by decide +kernel
theorem dX11_judge_56 : decode cX11_judge 56 = .ok (.iload_n 2, 1) := by decide +kernel
theorem dX11_judge_57 : decode cX11_judge 57 = .ok (.iaload, 1) := by decide +kernel
theorem dX11_judge_58 : decode cX11_judge 58 = .ok (.if_icmp .ge 59, 3) := by decide +kernel
theorem dX11_judge_61 : decode cX11_judge 61 = .ok (.aload_n 0, 1) := by decide +kernel
theorem dX11_judge_62 : decode cX11_judge 62 = .ok (.getfield 57, 3) := by decide +kernel
theorem dX11_judge_65 : decode cX11_judge 65 = .ok (.bipush 60, 2) := by decide +kernel
theorem dX11_judge_67 : decode cX11_judge 67 = .ok (.iload_n 2, 1) := by decide +kernel
theorem dX11_judge_68 : decode cX11_judge 68 = .ok (.imul, 1) := by decide +kernel
theorem dX11_judge_69 : decode cX11_judge 69 = .ok (.iload 6, 2) := by decide +kernel
theorem dX11_judge_71 : decode cX11_judge 71 = .ok (.iadd, 1) := by decide +kernel
theorem dX11_judge_72 : decode cX11_judge 72 = .ok (.laload, 1) := by decide +kernel
theorem dX11_judge_73 : decode cX11_judge 73 = .ok (.l2i, 1) := by decide +kernel
theorem dX11_judge_74 : decode cX11_judge 74 = .ok (.istore 7, 2) := by decide +kernel
theorem dX11_judge_76 : decode cX11_judge 76 = .ok (.iload 7, 2) := by decide +kernel
theorem dX11_judge_78 : decode cX11_judge 78 = .ok (.ifCond .lt 10, 3) := by decide +kernel
theorem dX11_judge_81 : decode cX11_judge 81 = .ok (.iload 7, 2) := by decide +kernel
theorem dX11_judge_83 : decode cX11_judge 83 = .ok (.iload 4, 2) := by decide +kernel
theorem dX11_judge_85 : decode cX11_judge 85 = .ok (.if_icmp .lt 10, 3) := by decide +kernel
theorem dX11_judge_88 : decode cX11_judge 88 = .ok (.aload_n 0, 1) := by decide +kernel
theorem dX11_judge_89 : decode cX11_judge 89 = .ok (.bipush (-6), 2) := by decide +kernel
theorem dX11_judge_91 : decode cX11_judge 91 = .ok (.invokevirtual 212, 3) := by decide +kernel
theorem dX11_judge_94 : decode cX11_judge 94 = .ok (.ireturn, 1) := by decide +kernel
theorem dX11_judge_95 : decode cX11_judge 95 = .ok (.iload 7, 2) := by decide +kernel
theorem dX11_judge_97 : decode cX11_judge 97 = .ok (.bipush 31, 2) := by decide +kernel
theorem dX11_judge_99 : decode cX11_judge 99 = .ok (.if_icmp .ge 12, 3) := by decide +kernel
theorem dX11_judge_102 : decode cX11_judge 102 = .ok (.iload 5, 2) := by decide +kernel
theorem dX11_judge_104 : decode cX11_judge 104 = .ok (.iconst 1, 1) := by decide +kernel
theorem dX11_judge_105 : decode cX11_judge 105 = .ok (.iload 7, 2) := by decide +kernel
theorem dX11_judge_107 : decode cX11_judge 107 = .ok (.ishl, 1) := by decide +kernel
theorem dX11_judge_108 : decode cX11_judge 108 = .ok (.ior, 1) := by decide +kernel
theorem dX11_judge_109 : decode cX11_judge 109 = .ok (.istore 5, 2) := by decide +kernel
theorem dX11_judge_111 : decode cX11_judge 111 = .ok (.iinc 6 1, 3) := by decide +kernel
theorem dX11_judge_114 : decode cX11_judge 114 = .ok (.goto (-64), 3) := by decide +kernel
theorem dX11_judge_117 : decode cX11_judge 117 = .ok (.iload 4, 2) := by decide +kernel
theorem dX11_judge_119 : decode cX11_judge 119 = .ok (.bipush 12, 2) := by decide +kernel
theorem dX11_judge_121 : decode cX11_judge 121 = .ok (.if_icmp .le 10, 3) := by decide +kernel
theorem dX11_judge_124 : decode cX11_judge 124 = .ok (.aload_n 0, 1) := by decide +kernel
theorem dX11_judge_125 : decode cX11_judge 125 = .ok (.bipush (-7), 2) := by decide +kernel
theorem dX11_judge_127 : decode cX11_judge 127 = .ok (.invokevirtual 212, 3) := by decide +kernel
theorem dX11_judge_130 : decode cX11_judge 130 = .ok (.ireturn, 1) := by decide +kernel
theorem dX11_judge_131 : decode cX11_judge 131 = .ok (.aload_n 0, 1) := by decide +kernel
theorem dX11_judge_132 : decode cX11_judge 132 = .ok (.iload 4, 2) := by decide +kernel
theorem dX11_judge_134 : decode cX11_judge 134 = .ok (.iload 5, 2) := by decide +kernel
theorem dX11_judge_136 : decode cX11_judge 136 = .ok (.invokevirtual 373, 3) := by decide +kernel
theorem dX11_judge_139 : decode cX11_judge 139 = .ok (.ifCond .eq 7, 3) := by decide +kernel
theorem dX11_judge_142 : decode cX11_judge 142 = .ok (.iconst 1, 1) := by decide +kernel
theorem dX11_judge_143 : decode cX11_judge 143 = .ok (.goto 4, 3) := by decide +kernel
theorem dX11_judge_146 : decode cX11_judge 146 = .ok (.iconst 0, 1) := by decide +kernel
theorem dX11_judge_147 : decode cX11_judge 147 = .ok (.ireturn, 1) := by decide +kernel
theorem dX11_saidAt_0 : decode cX11_saidAt 0 = .ok (.iconst 0, 1) := by decide +kernel
theorem dX11_saidAt_1 : decode cX11_saidAt 1 = .ok (.istore_n 2, 1) := by decide +kernel
theorem dX11_saidAt_2 : decode cX11_saidAt 2 = .ok (.iconst 0, 1) := by decide +kernel
theorem dX11_saidAt_3 : decode cX11_saidAt 3 = .ok (.istore_n 3, 1) := by decide +kernel
theorem dX11_saidAt_4 : decode cX11_saidAt 4 = .ok (.iload_n 3, 1) := by decide +kernel
theorem dX11_saidAt_5 : decode cX11_saidAt 5 = .ok (.aload_n 0, 1) := by decide +kernel
theorem dX11_saidAt_6 : decode cX11_saidAt 6 = .ok (.getfield 335, 3) := by decide +kernel
theorem dX11_saidAt_9 : decode cX11_saidAt 9 = .ok (.if_icmp .ge 54, 3) := by decide +kernel
theorem dX11_saidAt_12 : decode cX11_saidAt 12 = .ok (.aload_n 0, 1) := by decide +kernel
theorem dX11_saidAt_13 : decode cX11_saidAt 13 = .ok (.getfield 73, 3) := by decide +kernel
theorem dX11_saidAt_16 : decode cX11_saidAt 16 = .ok (.aload_n 0, 1) := by decide +kernel
theorem dX11_saidAt_17 : decode cX11_saidAt 17 = .ok (.getfield 178, 3) := by decide +kernel
theorem dX11_saidAt_20 : decode cX11_saidAt 20 = .ok (.iload_n 3, 1) := by decide +kernel
theorem dX11_saidAt_21 : decode cX11_saidAt 21 = .ok (.iaload, 1) := by decide +kernel
theorem dX11_saidAt_22 : decode cX11_saidAt 22 = .ok (.iaload, 1) := by decide +kernel
theorem dX11_saidAt_23 : decode cX11_saidAt 23 = .ok (.iload_n 1, 1) := by decide +kernel
theorem dX11_saidAt_24 : decode cX11_saidAt 24 = .ok (.isub, 1) := by decide +kernel
theorem dX11_saidAt_25 : decode cX11_saidAt 25 = .ok (.istore 4, 2) := by decide +kernel
theorem dX11_saidAt_27 : decode cX11_saidAt 27 = .ok (.iload_n 2, 1) := by decide +kernel
theorem dX11_saidAt_28 : decode cX11_saidAt 28 = .ok (.aload_n 0, 1) := by decide +kernel
theorem dX11_saidAt_29 : decode cX11_saidAt 29 = .ok (.aload_n 0, 1) := by decide +kernel
theorem dX11_saidAt_30 : decode cX11_saidAt 30 = .ok (.getfield 178, 3) := by decide +kernel
theorem dX11_saidAt_33 : decode cX11_saidAt 33 = .ok (.iload_n 3, 1) := by decide +kernel
theorem dX11_saidAt_34 : decode cX11_saidAt 34 = .ok (.iaload, 1) := by decide +kernel
theorem dX11_saidAt_35 : decode cX11_saidAt 35 = .ok (.invokevirtual 264, 3) := by decide +kernel
theorem dX11_saidAt_38 : decode cX11_saidAt 38 = .ok (.bipush 100, 2) := by decide +kernel
theorem dX11_saidAt_40 : decode cX11_saidAt 40 = .ok (.iload 4, 2) := by decide +kernel
theorem dX11_saidAt_42 : decode cX11_saidAt 42 = .ok (.ifCond .ge 9, 3) := by decide +kernel
theorem dX11_saidAt_45 : decode cX11_saidAt 45 = .ok (.iload 4, 2) := by decide +kernel
theorem dX11_saidAt_47 : decode cX11_saidAt 47 = .ok (.ineg, 1) := by decide +kernel
theorem dX11_saidAt_48 : decode cX11_saidAt 48 = .ok (.goto 5, 3) := by decide +kernel
theorem dX11_saidAt_51 : decode cX11_saidAt 51 = .ok (.iload 4, 2) := by decide +kernel
theorem dX11_saidAt_53 : decode cX11_saidAt 53 = .ok (.isub, 1) := by decide +kernel
theorem dX11_saidAt_54 : decode cX11_saidAt 54 = .ok (.imul, 1) := by decide +kernel
theorem dX11_saidAt_55 : decode cX11_saidAt 55 = .ok (.iadd, 1) := by decide +kernel
theorem dX11_saidAt_56 : decode cX11_saidAt 56 = .ok (.istore_n 2, 1) := by decide +kernel
theorem dX11_saidAt_57 : decode cX11_saidAt 57 = .ok (.iinc 3 1, 3) := by decide +kernel
theorem dX11_saidAt_60 : decode cX11_saidAt 60 = .ok (.goto (-56), 3) := by decide +kernel
theorem dX11_saidAt_63 : decode cX11_saidAt 63 = .ok (.iload_n 2, 1) := by decide +kernel
theorem dX11_saidAt_64 : decode cX11_saidAt 64 = .ok (.ireturn, 1) := by decide +kernel
theorem dX11_best_0 : decode cX11_best 0 = .ok (.aload_n 0, 1) := by decide +kernel
theorem dX11_best_1 : decode cX11_best 1 = .ok (.iload_n 1, 1) := by decide +kernel
theorem dX11_best_2 : decode cX11_best 2 = .ok (.invokevirtual 208, 3) := by decide +kernel
theorem dX11_best_5 : decode cX11_best 5 = .ok (.ifCond .ne 9, 3) := by decide +kernel
theorem dX11_best_8 : decode cX11_best 8 = .ok (.aload_n 0, 1) := by decide +kernel
theorem dX11_best_9 : decode cX11_best 9 = .ok (.iconst (-1), 1) := by decide +kernel
theorem dX11_best_10 : decode cX11_best 10 = .ok (.invokevirtual 212, 3) := by decide +kernel
theorem dX11_best_13 : decode cX11_best 13 = .ok (.ireturn, 1) := by decide +kernel
theorem dX11_best_14 : decode cX11_best 14 = .ok (.iload_n 2, 1) := by decide +kernel
theorem dX11_best_15 : decode cX11_best 15 = .ok (.ifCond .lt 18, 3) := by decide +kernel
theorem dX11_best_18 : decode cX11_best 18 = .ok (.iload_n 2, 1) := by decide +kernel
theorem dX11_best_19 : decode cX11_best 19 = .ok (.bipush 12, 2) := by decide +kernel
theorem dX11_best_21 : decode cX11_best 21 = .ok (.if_icmp .gt 12, 3) := by decide +kernel
theorem dX11_best_24 : decode cX11_best 24 = .ok (.aload_n 0, 1) := by decide +kernel
theorem dX11_best_25 : decode cX11_best 25 = .ok (.getfield 16, 3) := by decide +kernel
theorem dX11_best_28 : decode cX11_best 28 = .ok (.iload_n 1, 1) := by decide +kernel
theorem dX11_best_29 : decode cX11_best 29 = .ok (.iaload, 1) := by decide +kernel
theorem dX11_best_30 : decode cX11_best 30 = .ok (.ifCond .ne 10, 3) := by decide +kernel
theorem dX11_best_33 : decode cX11_best 33 = .ok (.aload_n 0, 1) := by decide +kernel
theorem dX11_best_34 : decode cX11_best 34 = .ok (.bipush (-6), 2) := by decide +kernel
theorem dX11_best_36 : decode cX11_best 36 = .ok (.invokevirtual 212, 3) := by decide +kernel
theorem dX11_best_39 : decode cX11_best 39 = .ok (.ireturn, 1) := by decide +kernel
theorem dX11_best_40 : decode cX11_best 40 = .ok (.iconst 0, 1) := by decide +kernel
theorem dX11_best_41 : decode cX11_best 41 = .ok (.istore_n 3, 1) := by decide +kernel
theorem dX11_best_42 : decode cX11_best 42 = .ok (.iconst 0, 1) := by decide +kernel
theorem dX11_best_43 : decode cX11_best 43 = .ok (.istore 4, 2) := by decide +kernel
theorem dX11_best_45 : decode cX11_best 45 = .ok (.iload 4, 2) := by decide +kernel
theorem dX11_best_47 : decode cX11_best 47 = .ok (.sipush 128, 3) := by decide +kernel
theorem dX11_best_50 : decode cX11_best 50 = .ok (.if_icmp .ge 22, 3) := by decide +kernel
theorem dX11_best_53 : decode cX11_best 53 = .ok (.aload_n 0, 1) := by decide +kernel
theorem dX11_best_54 : decode cX11_best 54 = .ok (.iload_n 1, 1) := by decide +kernel
theorem dX11_best_55 : decode cX11_best 55 = .ok (.iload 4, 2) := by decide +kernel
theorem dX11_best_57 : decode cX11_best 57 = .ok (.invokevirtual 354, 3) := by decide +kernel
theorem dX11_best_60 : decode cX11_best 60 = .ok (.ifCond .le 6, 3) := by decide +kernel
theorem dX11_best_63 : decode cX11_best 63 = .ok (.iinc 3 1, 3) := by decide +kernel
theorem dX11_best_66 : decode cX11_best 66 = .ok (.iinc 4 1, 3) := by decide +kernel
theorem dX11_best_69 : decode cX11_best 69 = .ok (.goto (-24), 3) := by decide +kernel
theorem dX11_best_72 : decode cX11_best 72 = .ok (.iload_n 3, 1) := by decide +kernel
theorem dX11_best_73 : decode cX11_best 73 = .ok (.bipush 10, 2) := by decide +kernel
theorem dX11_best_75 : decode cX11_best 75 = .ok (.if_icmp .le 10, 3) := by decide +kernel
theorem dX11_best_78 : decode cX11_best 78 = .ok (.aload_n 0, 1) := by decide +kernel
theorem dX11_best_79 : decode cX11_best 79 = .ok (.bipush (-7), 2) := by decide +kernel
theorem dX11_best_81 : decode cX11_best 81 = .ok (.invokevirtual 212, 3) := by decide +kernel
theorem dX11_best_84 : decode cX11_best 84 = .ok (.ireturn, 1) := by decide +kernel
theorem dX11_best_85 : decode cX11_best 85 = .ok (.iconst 0, 1) := by decide +kernel
theorem dX11_best_86 : decode cX11_best 86 = .ok (.istore_n 3, 1) := by decide +kernel
theorem dX11_best_87 : decode cX11_best 87 = .ok (.iconst 0, 1) := by decide +kernel
theorem dX11_best_88 : decode cX11_best 88 = .ok (.istore 4, 2) := by decide +kernel
theorem dX11_best_90 : decode cX11_best 90 = .ok (.iload 4, 2) := by decide +kernel
theorem dX11_best_92 : decode cX11_best 92 = .ok (.sipush 128, 3) := by decide +kernel
theorem dX11_best_95 : decode cX11_best 95 = .ok (.if_icmp .ge 109, 3) := by decide +kernel
theorem dX11_best_98 : decode cX11_best 98 = .ok (.aload_n 0, 1) := by decide +kernel
theorem dX11_best_99 : decode cX11_best 99 = .ok (.iload_n 1, 1) := by decide +kernel
theorem dX11_best_100 : decode cX11_best 100 = .ok (.iload 4, 2) := by decide +kernel
theorem dX11_best_102 : decode cX11_best 102 = .ok (.invokevirtual 354, 3) := by decide +kernel
theorem dX11_best_105 : decode cX11_best 105 = .ok (.ifCond .ne 6, 3) := by decide +kernel
theorem dX11_best_108 : decode cX11_best 108 = .ok (.goto 90, 3) := by decide +kernel
theorem dX11_best_111 : decode cX11_best 111 = .ok (.aload_n 0, 1) := by decide +kernel
theorem dX11_best_112 : decode cX11_best 112 = .ok (.getfield 202, 3) := by decide +kernel
theorem dX11_best_115 : decode cX11_best 115 = .ok (.iload_n 3, 1) := by decide +kernel
theorem dX11_best_116 : decode cX11_best 116 = .ok (.iload 4, 2) := by decide +kernel
theorem dX11_best_118 : decode cX11_best 118 = .ok (.iastore, 1) := by decide +kernel
theorem dX11_best_119 : decode cX11_best 119 = .ok (.aload_n 0, 1) := by decide +kernel
theorem dX11_best_120 : decode cX11_best 120 = .ok (.getfield 199, 3) := by decide +kernel
theorem dX11_best_123 : decode cX11_best 123 = .ok (.iload_n 3, 1) := by decide +kernel
theorem dX11_best_124 : decode cX11_best 124 = .ok (.iconst 1, 1) := by decide +kernel
theorem dX11_best_125 : decode cX11_best 125 = .ok (.iastore, 1) := by decide +kernel
theorem dX11_best_126 : decode cX11_best 126 = .ok (.aload_n 0, 1) := by decide +kernel
theorem dX11_best_127 : decode cX11_best 127 = .ok (.getfield 196, 3) := by decide +kernel
theorem dX11_best_130 : decode cX11_best 130 = .ok (.iload_n 3, 1) := by decide +kernel
theorem dX11_best_131 : decode cX11_best 131 = .ok (.aload_n 0, 1) := by decide +kernel
theorem dX11_best_132 : decode cX11_best 132 = .ok (.aload_n 0, 1) := by decide +kernel
theorem dX11_best_133 : decode cX11_best 133 = .ok (.iconst 1, 1) := by decide +kernel
theorem dX11_best_134 : decode cX11_best 134 = .ok (.invokevirtual 344, 3) := by decide +kernel
theorem dX11_best_137 : decode cX11_best 137 = .ok (.invokevirtual 379, 3) := by decide +kernel
theorem dX11_best_140 : decode cX11_best 140 = .ok (.iastore, 1) := by decide +kernel
theorem dX11_best_141 : decode cX11_best 141 = .ok (.iconst 2, 1) := by decide +kernel
theorem dX11_best_142 : decode cX11_best 142 = .ok (.istore 5, 2) := by decide +kernel
theorem dX11_best_144 : decode cX11_best 144 = .ok (.iload 5, 2) := by decide +kernel
theorem dX11_best_146 : decode cX11_best 146 = .ok (.iconst 4, 1) := by decide +kernel
theorem dX11_best_147 : decode cX11_best 147 = .ok (.if_icmp .ge 48, 3) := by decide +kernel
theorem dX11_best_150 : decode cX11_best 150 = .ok (.aload_n 0, 1) := by decide +kernel
theorem dX11_best_151 : decode cX11_best 151 = .ok (.aload_n 0, 1) := by decide +kernel
theorem dX11_best_152 : decode cX11_best 152 = .ok (.iload 5, 2) := by decide +kernel
theorem dX11_best_154 : decode cX11_best 154 = .ok (.invokevirtual 344, 3) := by decide +kernel
theorem dX11_best_157 : decode cX11_best 157 = .ok (.invokevirtual 379, 3) := by decide +kernel
theorem dX11_best_160 : decode cX11_best 160 = .ok (.istore 6, 2) := by decide +kernel
theorem dX11_best_162 : decode cX11_best 162 = .ok (.iload 6, 2) := by decide +kernel
theorem dX11_best_164 : decode cX11_best 164 = .ok (.aload_n 0, 1) := by decide +kernel
theorem dX11_best_165 : decode cX11_best 165 = .ok (.getfield 196, 3) := by decide +kernel
theorem dX11_best_168 : decode cX11_best 168 = .ok (.iload_n 3, 1) := by decide +kernel
theorem dX11_best_169 : decode cX11_best 169 = .ok (.iaload, 1) := by decide +kernel
theorem dX11_best_170 : decode cX11_best 170 = .ok (.if_icmp .le 19, 3) := by decide +kernel
theorem dX11_best_173 : decode cX11_best 173 = .ok (.aload_n 0, 1) := by decide +kernel
theorem dX11_best_174 : decode cX11_best 174 = .ok (.getfield 196, 3) := by decide +kernel
theorem dX11_best_177 : decode cX11_best 177 = .ok (.iload_n 3, 1) := by decide +kernel
theorem dX11_best_178 : decode cX11_best 178 = .ok (.iload 6, 2) := by decide +kernel
theorem dX11_best_180 : decode cX11_best 180 = .ok (.iastore, 1) := by decide +kernel
theorem dX11_best_181 : decode cX11_best 181 = .ok (.aload_n 0, 1) := by decide +kernel
theorem dX11_best_182 : decode cX11_best 182 = .ok (.getfield 199, 3) := by decide +kernel
theorem dX11_best_185 : decode cX11_best 185 = .ok (.iload_n 3, 1) := by decide +kernel
theorem dX11_best_186 : decode cX11_best 186 = .ok (.iload 5, 2) := by decide +kernel
theorem dX11_best_188 : decode cX11_best 188 = .ok (.iastore, 1) := by decide +kernel
theorem dX11_best_189 : decode cX11_best 189 = .ok (.iinc 5 1, 3) := by decide +kernel
theorem dX11_best_192 : decode cX11_best 192 = .ok (.goto (-48), 3) := by decide +kernel
theorem dX11_best_195 : decode cX11_best 195 = .ok (.iinc 3 1, 3) := by decide +kernel
theorem dX11_best_198 : decode cX11_best 198 = .ok (.iinc 4 1, 3) := by decide +kernel
theorem dX11_best_201 : decode cX11_best 201 = .ok (.goto (-111), 3) := by decide +kernel
theorem dX11_best_204 : decode cX11_best 204 = .ok (.iconst 0, 1) := by decide +kernel
theorem dX11_best_205 : decode cX11_best 205 = .ok (.istore 4, 2) := by decide +kernel
theorem dX11_best_207 : decode cX11_best 207 = .ok (.iconst 0, 1) := by decide +kernel
theorem dX11_best_208 : decode cX11_best 208 = .ok (.istore 5, 2) := by decide +kernel
theorem dX11_best_210 : decode cX11_best 210 = .ok (.iconst 1, 1) := by decide +kernel
theorem dX11_best_211 : decode cX11_best 211 = .ok (.istore 6, 2) := by decide +kernel
theorem dX11_best_213 : decode cX11_best 213 = .ok (.iload 6, 2) := by decide +kernel
theorem dX11_best_215 : decode cX11_best 215 = .ok (.iconst 1, 1) := by decide +kernel
theorem dX11_best_216 : decode cX11_best 216 = .ok (.iload_n 3, 1) := by decide +kernel
theorem dX11_best_217 : decode cX11_best 217 = .ok (.ishl, 1) := by decide +kernel
theorem dX11_best_218 : decode cX11_best 218 = .ok (.if_icmp .ge 149, 3) := by decide +kernel
theorem dX11_best_221 : decode cX11_best 221 = .ok (.iload 6, 2) := by decide +kernel
theorem dX11_best_223 : decode cX11_best 223 = .ok (.invokestatic 376, 3) := by decide +kernel
theorem dX11_best_226 : decode cX11_best 226 = .ok (.iload_n 2, 1) := by decide +kernel
theorem dX11_best_227 : decode cX11_best 227 = .ok (.if_icmp .le 6, 3) := by decide +kernel
theorem dX11_best_230 : decode cX11_best 230 = .ok (.goto 131, 3) := by decide +kernel
theorem dX11_best_233 : decode cX11_best 233 = .ok (.iconst 0, 1) := by decide +kernel
theorem dX11_best_234 : decode cX11_best 234 = .ok (.istore 7, 2) := by decide +kernel
theorem dX11_best_236 : decode cX11_best 236 = .ok (.iconst 1, 1) := by decide +kernel
theorem dX11_best_237 : decode cX11_best 237 = .ok (.istore 8, 2) := by decide +kernel
theorem dX11_best_239 : decode cX11_best 239 = .ok (.iconst 0, 1) := by decide +kernel
theorem dX11_best_240 : decode cX11_best 240 = .ok (.istore 9, 2) := by decide +kernel
theorem dX11_best_242 : decode cX11_best 242 = .ok (.iload 9, 2) := by decide +kernel
theorem dX11_best_244 : decode cX11_best 244 = .ok (.iload_n 3, 1) := by decide +kernel
theorem dX11_best_245 : decode cX11_best 245 = .ok (.if_icmp .ge 96, 3) := by decide +kernel
theorem dX11_best_248 : decode cX11_best 248 = .ok (.iload 6, 2) := by decide +kernel
theorem dX11_best_250 : decode cX11_best 250 = .ok (.iload 9, 2) := by decide +kernel
theorem dX11_best_252 : decode cX11_best 252 = .ok (.ishr, 1) := by decide +kernel
theorem dX11_best_253 : decode cX11_best 253 = .ok (.iconst 1, 1) := by decide +kernel
theorem dX11_best_254 : decode cX11_best 254 = .ok (.iand, 1) := by decide +kernel
theorem dX11_best_255 : decode cX11_best 255 = .ok (.ifCond .ne 6, 3) := by decide +kernel
theorem dX11_best_258 : decode cX11_best 258 = .ok (.goto 77, 3) := by decide +kernel
theorem dX11_best_261 : decode cX11_best 261 = .ok (.iload 7, 2) := by decide +kernel
theorem dX11_best_263 : decode cX11_best 263 = .ok (.aload_n 0, 1) := by decide +kernel
theorem dX11_best_264 : decode cX11_best 264 = .ok (.getfield 196, 3) := by decide +kernel
theorem dX11_best_267 : decode cX11_best 267 = .ok (.iload 9, 2) := by decide +kernel
theorem dX11_best_269 : decode cX11_best 269 = .ok (.iaload, 1) := by decide +kernel
theorem dX11_best_270 : decode cX11_best 270 = .ok (.iadd, 1) := by decide +kernel
theorem dX11_best_271 : decode cX11_best 271 = .ok (.istore 7, 2) := by decide +kernel
theorem dX11_best_273 : decode cX11_best 273 = .ok (.iconst 0, 1) := by decide +kernel
theorem dX11_best_274 : decode cX11_best 274 = .ok (.istore 10, 2) := by decide +kernel
theorem dX11_best_276 : decode cX11_best 276 = .ok (.iload 10, 2) := by decide +kernel
theorem dX11_best_278 : decode cX11_best 278 = .ok (.iload 9, 2) := by decide +kernel
theorem dX11_best_280 : decode cX11_best 280 = .ok (.if_icmp .ge 55, 3) := by decide +kernel
theorem dX11_best_283 : decode cX11_best 283 = .ok (.iload 6, 2) := by decide +kernel
theorem dX11_best_285 : decode cX11_best 285 = .ok (.iload 10, 2) := by decide +kernel
theorem dX11_best_287 : decode cX11_best 287 = .ok (.ishr, 1) := by decide +kernel
theorem dX11_best_288 : decode cX11_best 288 = .ok (.iconst 1, 1) := by decide +kernel
theorem dX11_best_289 : decode cX11_best 289 = .ok (.iand, 1) := by decide +kernel
theorem dX11_best_290 : decode cX11_best 290 = .ok (.iconst 1, 1) := by decide +kernel
theorem dX11_best_291 : decode cX11_best 291 = .ok (.if_icmp .ne 38, 3) := by decide +kernel
theorem dX11_best_294 : decode cX11_best 294 = .ok (.aload_n 0, 1) := by decide +kernel
theorem dX11_best_295 : decode cX11_best 295 = .ok (.getfield 166, 3) := by decide +kernel
theorem dX11_best_298 : decode cX11_best 298 = .ok (.bipush 16, 2) := by decide +kernel
theorem dX11_best_300 : decode cX11_best 300 = .ok (.aload_n 0, 1) := by decide +kernel
theorem dX11_best_301 : decode cX11_best 301 = .ok (.getfield 202, 3) := by decide +kernel
theorem dX11_best_304 : decode cX11_best 304 = .ok (.iload 9, 2) := by decide +kernel
theorem dX11_best_306 : decode cX11_best 306 = .ok (.iaload, 1) := by decide +kernel
theorem dX11_best_307 : decode cX11_best 307 = .ok (.bipush 8, 2) := by decide +kernel
theorem dX11_best_309 : decode cX11_best 309 = .ok (.idiv, 1) := by decide +kernel
theorem dX11_best_310 : decode cX11_best 310 = .ok (.imul, 1) := by decide +kernel
theorem dX11_best_311 : decode cX11_best 311 = .ok (.aload_n 0, 1) := by decide +kernel
theorem dX11_best_312 : decode cX11_best 312 = .ok (.getfield 202, 3) := by decide +kernel
theorem dX11_best_315 : decode cX11_best 315 = .ok (.iload 10, 2) := by decide +kernel
theorem dX11_best_317 : decode cX11_best 317 = .ok (.iaload, 1) := by decide +kernel
theorem dX11_best_318 : decode cX11_best 318 = .ok (.bipush 8, 2) := by decide +kernel
theorem dX11_best_320 : decode cX11_best 320 = .ok (.idiv, 1) := by decide +kernel
theorem dX11_best_321 : decode cX11_best 321 = .ok (.iadd, 1) := by decide +kernel
theorem dX11_best_322 : decode cX11_best 322 = .ok (.baload, 1) := by decide +kernel
theorem dX11_best_323 : decode cX11_best 323 = .ok (.ifCond .eq 6, 3) := by decide +kernel
theorem dX11_best_326 : decode cX11_best 326 = .ok (.iconst 0, 1) := by decide +kernel
theorem dX11_best_327 : decode cX11_best 327 = .ok (.istore 8, 2) := by decide +kernel
theorem dX11_best_329 : decode cX11_best 329 = .ok (.iinc 10 1, 3) := by decide +kernel
theorem dX11_best_332 : decode cX11_best 332 = .ok (.goto (-56), 3) := by decide +kernel
theorem dX11_best_335 : decode cX11_best 335 = .ok (.iinc 9 1, 3) := by decide +kernel
theorem dX11_best_338 : decode cX11_best 338 = .ok (.goto (-96), 3) := by decide +kernel
theorem dX11_best_341 : decode cX11_best 341 = .ok (.iload 8, 2) := by decide +kernel
theorem dX11_best_343 : decode cX11_best 343 = .ok (.ifCond .eq 18, 3) := by decide +kernel
theorem dX11_best_346 : decode cX11_best 346 = .ok (.iload 7, 2) := by decide +kernel
theorem dX11_best_348 : decode cX11_best 348 = .ok (.iload 5, 2) := by decide +kernel
theorem dX11_best_350 : decode cX11_best 350 = .ok (.if_icmp .le 11, 3) := by decide +kernel
theorem dX11_best_353 : decode cX11_best 353 = .ok (.iload 6, 2) := by decide +kernel
theorem dX11_best_355 : decode cX11_best 355 = .ok (.istore 4, 2) := by decide +kernel
theorem dX11_best_357 : decode cX11_best 357 = .ok (.iload 7, 2) := by decide +kernel
theorem dX11_best_359 : decode cX11_best 359 = .ok (.istore 5, 2) := by decide +kernel
theorem dX11_best_361 : decode cX11_best 361 = .ok (.iinc 6 1, 3) := by decide +kernel
theorem dX11_best_364 : decode cX11_best 364 = .ok (.goto (-151), 3) := by decide +kernel
theorem dX11_best_367 : decode cX11_best 367 = .ok (.aload_n 0, 1) := by decide +kernel
theorem dX11_best_368 : decode cX11_best 368 = .ok (.iload_n 3, 1) := by decide +kernel
theorem dX11_best_369 : decode cX11_best 369 = .ok (.putfield 190, 3) := by decide +kernel
theorem dX11_best_372 : decode cX11_best 372 = .ok (.iconst 0, 1) := by decide +kernel
theorem dX11_best_373 : decode cX11_best 373 = .ok (.istore 6, 2) := by decide +kernel
theorem dX11_best_375 : decode cX11_best 375 = .ok (.iload 6, 2) := by decide +kernel
theorem dX11_best_377 : decode cX11_best 377 = .ok (.iload_n 3, 1) := by decide +kernel
theorem dX11_best_378 : decode cX11_best 378 = .ok (.if_icmp .ge 38, 3) := by decide +kernel
theorem dX11_best_381 : decode cX11_best 381 = .ok (.aload_n 0, 1) := by decide +kernel
theorem dX11_best_382 : decode cX11_best 382 = .ok (.getfield 193, 3) := by decide +kernel
theorem dX11_best_385 : decode cX11_best 385 = .ok (.iload 6, 2) := by decide +kernel
theorem dX11_best_387 : decode cX11_best 387 = .ok (.iload 4, 2) := by decide +kernel
theorem dX11_best_389 : decode cX11_best 389 = .ok (.iload 6, 2) := by decide +kernel
theorem dX11_best_391 : decode cX11_best 391 = .ok (.ishr, 1) := by decide +kernel
theorem dX11_best_392 : decode cX11_best 392 = .ok (.iconst 1, 1) := by decide +kernel
theorem dX11_best_393 : decode cX11_best 393 = .ok (.iand, 1) := by decide +kernel
theorem dX11_best_394 : decode cX11_best 394 = .ok (.iconst 1, 1) := by decide +kernel
theorem dX11_best_395 : decode cX11_best 395 = .ok (.if_icmp .ne 13, 3) := by decide +kernel
theorem dX11_best_398 : decode cX11_best 398 = .ok (.aload_n 0, 1) := by decide +kernel
theorem dX11_best_399 : decode cX11_best 399 = .ok (.getfield 199, 3) := by decide +kernel
theorem dX11_best_402 : decode cX11_best 402 = .ok (.iload 6, 2) := by decide +kernel
theorem dX11_best_404 : decode cX11_best 404 = .ok (.iaload, 1) := by decide +kernel
theorem dX11_best_405 : decode cX11_best 405 = .ok (.goto 4, 3) := by decide +kernel
theorem dX11_best_408 : decode cX11_best 408 = .ok (.iconst 0, 1) := by decide +kernel
theorem dX11_best_409 : decode cX11_best 409 = .ok (.iastore, 1) := by decide +kernel
theorem dX11_best_410 : decode cX11_best 410 = .ok (.iinc 6 1, 3) := by decide +kernel
theorem dX11_best_413 : decode cX11_best 413 = .ok (.goto (-38), 3) := by decide +kernel
theorem dX11_best_416 : decode cX11_best 416 = .ok (.iload 5, 2) := by decide +kernel
theorem dX11_best_418 : decode cX11_best 418 = .ok (.ireturn, 1) := by decide +kernel
theorem dX11_bestOf_0 : decode cX11_bestOf 0 = .ok (.iload_n 1, 1) := by decide +kernel
theorem dX11_bestOf_1 : decode cX11_bestOf 1 = .ok (.ifCond .lt 20, 3) := by decide +kernel
theorem dX11_bestOf_4 : decode cX11_bestOf 4 = .ok (.iload_n 1, 1) := by decide +kernel
theorem dX11_bestOf_5 : decode cX11_bestOf 5 = .ok (.aload_n 0, 1) := by decide +kernel
theorem dX11_bestOf_6 : decode cX11_bestOf 6 = .ok (.getfield 190, 3) := by decide +kernel
theorem dX11_bestOf_9 : decode cX11_bestOf 9 = .ok (.if_icmp .ge 12, 3) := by decide +kernel
theorem dX11_bestOf_12 : decode cX11_bestOf 12 = .ok (.aload_n 0, 1) := by decide +kernel
theorem dX11_bestOf_13 : decode cX11_bestOf 13 = .ok (.getfield 193, 3) := by decide +kernel
theorem dX11_bestOf_16 : decode cX11_bestOf 16 = .ok (.iload_n 1, 1) := by decide +kernel
theorem dX11_bestOf_17 : decode cX11_bestOf 17 = .ok (.iaload, 1) := by decide +kernel
theorem dX11_bestOf_18 : decode cX11_bestOf 18 = .ok (.goto 4, 3) := by decide +kernel
theorem dX11_bestOf_21 : decode cX11_bestOf 21 = .ok (.iconst (-1), 1) := by decide +kernel
theorem dX11_bestOf_22 : decode cX11_bestOf 22 = .ok (.ireturn, 1) := by decide +kernel
theorem dX11_said_0 : decode cX11_said 0 = .ok (.aload_n 0, 1) := by decide +kernel
theorem dX11_said_1 : decode cX11_said 1 = .ok (.iload_n 1, 1) := by decide +kernel
theorem dX11_said_2 : decode cX11_said 2 = .ok (.invokevirtual 208, 3) := by decide +kernel
theorem dX11_said_5 : decode cX11_said 5 = .ok (.ifCond .eq 12, 3) := by decide +kernel
theorem dX11_said_8 : decode cX11_said 8 = .ok (.aload_n 0, 1) := by decide +kernel
theorem dX11_said_9 : decode cX11_said 9 = .ok (.getfield 41, 3) := by decide +kernel
theorem dX11_said_12 : decode cX11_said 12 = .ok (.iload_n 1, 1) := by decide +kernel
theorem dX11_said_13 : decode cX11_said 13 = .ok (.baload, 1) := by decide +kernel
theorem dX11_said_14 : decode cX11_said 14 = .ok (.ifCond .ne 5, 3) := by decide +kernel
theorem dX11_said_17 : decode cX11_said 17 = .ok (.iconst (-1), 1) := by decide +kernel
theorem dX11_said_18 : decode cX11_said 18 = .ok (.ireturn, 1) := by decide +kernel
theorem dX11_said_19 : decode cX11_said 19 = .ok (.iconst 0, 1) := by decide +kernel
theorem dX11_said_20 : decode cX11_said 20 = .ok (.istore_n 2, 1) := by decide +kernel
theorem dX11_said_21 : decode cX11_said 21 = .ok (.iconst 0, 1) := by decide +kernel
theorem dX11_said_22 : decode cX11_said 22 = .ok (.istore_n 3, 1) := by decide +kernel
theorem dX11_said_23 : decode cX11_said 23 = .ok (.iload_n 3, 1) := by decide +kernel
theorem dX11_said_24 : decode cX11_said 24 = .ok (.aload_n 0, 1) := by decide +kernel
theorem dX11_said_25 : decode cX11_said 25 = .ok (.getfield 205, 3) := by decide +kernel
theorem dX11_said_28 : decode cX11_said 28 = .ok (.if_icmp .ge 87, 3) := by decide +kernel
theorem dX11_said_31 : decode cX11_said 31 = .ok (.aload_n 0, 1) := by decide +kernel
theorem dX11_said_32 : decode cX11_said 32 = .ok (.getfield 64, 3) := by decide +kernel
theorem dX11_said_35 : decode cX11_said 35 = .ok (.iload_n 3, 1) := by decide +kernel
theorem dX11_said_36 : decode cX11_said 36 = .ok (.iaload, 1) := by decide +kernel
theorem dX11_said_37 : decode cX11_said 37 = .ok (.iload_n 1, 1) := by decide +kernel
theorem dX11_said_38 : decode cX11_said 38 = .ok (.if_icmp .eq 6, 3) := by decide +kernel
theorem dX11_said_41 : decode cX11_said 41 = .ok (.goto 68, 3) := by decide +kernel
theorem dX11_said_44 : decode cX11_said 44 = .ok (.aload_n 0, 1) := by decide +kernel
theorem dX11_said_45 : decode cX11_said 45 = .ok (.iconst 0, 1) := by decide +kernel
theorem dX11_said_46 : decode cX11_said 46 = .ok (.putfield 335, 3) := by decide +kernel
theorem dX11_said_49 : decode cX11_said 49 = .ok (.iconst 0, 1) := by decide +kernel
theorem dX11_said_50 : decode cX11_said 50 = .ok (.istore 4, 2) := by decide +kernel
theorem dX11_said_52 : decode cX11_said 52 = .ok (.iload 4, 2) := by decide +kernel
theorem dX11_said_54 : decode cX11_said 54 = .ok (.aload_n 0, 1) := by decide +kernel
theorem dX11_said_55 : decode cX11_said 55 = .ok (.getfield 205, 3) := by decide +kernel
theorem dX11_said_58 : decode cX11_said 58 = .ok (.if_icmp .ge 38, 3) := by decide +kernel
theorem dX11_said_61 : decode cX11_said 61 = .ok (.aload_n 0, 1) := by decide +kernel
theorem dX11_said_62 : decode cX11_said 62 = .ok (.getfield 85, 3) := by decide +kernel
theorem dX11_said_65 : decode cX11_said 65 = .ok (.iload 4, 2) := by decide +kernel
theorem dX11_said_67 : decode cX11_said 67 = .ok (.iaload, 1) := by decide +kernel
theorem dX11_said_68 : decode cX11_said 68 = .ok (.iload_n 3, 1) := by decide +kernel
theorem dX11_said_69 : decode cX11_said 69 = .ok (.if_icmp .ne 21, 3) := by decide +kernel
theorem dX11_said_72 : decode cX11_said 72 = .ok (.aload_n 0, 1) := by decide +kernel
theorem dX11_said_73 : decode cX11_said 73 = .ok (.getfield 178, 3) := by decide +kernel
theorem dX11_said_76 : decode cX11_said 76 = .ok (.aload_n 0, 1) := by decide +kernel
theorem dX11_said_77 : decode cX11_said 77 = .ok (.dup, 1) := by decide +kernel
theorem dX11_said_78 : decode cX11_said 78 = .ok (.getfield 335, 3) := by decide +kernel
theorem dX11_said_81 : decode cX11_said 81 = .ok (.dup_x1, 1) := by decide +kernel
theorem dX11_said_82 : decode cX11_said 82 = .ok (.iconst 1, 1) := by decide +kernel
theorem dX11_said_83 : decode cX11_said 83 = .ok (.iadd, 1) := by decide +kernel
theorem dX11_said_84 : decode cX11_said 84 = .ok (.putfield 335, 3) := by decide +kernel
theorem dX11_said_87 : decode cX11_said 87 = .ok (.iload 4, 2) := by decide +kernel
theorem dX11_said_89 : decode cX11_said 89 = .ok (.iastore, 1) := by decide +kernel
theorem dX11_said_90 : decode cX11_said 90 = .ok (.iinc 4 1, 3) := by decide +kernel
theorem dX11_said_93 : decode cX11_said 93 = .ok (.goto (-41), 3) := by decide +kernel
theorem dX11_said_96 : decode cX11_said 96 = .ok (.iload_n 2, 1) := by decide +kernel
theorem dX11_said_97 : decode cX11_said 97 = .ok (.aload_n 0, 1) := by decide +kernel
theorem dX11_said_98 : decode cX11_said 98 = .ok (.aload_n 0, 1) := by decide +kernel
theorem dX11_said_99 : decode cX11_said 99 = .ok (.getfield 73, 3) := by decide +kernel
theorem dX11_said_102 : decode cX11_said 102 = .ok (.iload_n 3, 1) := by decide +kernel
theorem dX11_said_103 : decode cX11_said 103 = .ok (.iaload, 1) := by decide +kernel
theorem dX11_said_104 : decode cX11_said 104 = .ok (.invokevirtual 379, 3) := by decide +kernel
theorem dX11_said_107 : decode cX11_said 107 = .ok (.iadd, 1) := by decide +kernel
theorem dX11_said_108 : decode cX11_said 108 = .ok (.istore_n 2, 1) := by decide +kernel
theorem dX11_said_109 : decode cX11_said 109 = .ok (.iinc 3 1, 3) := by decide +kernel
theorem dX11_said_112 : decode cX11_said 112 = .ok (.goto (-89), 3) := by decide +kernel
theorem dX11_said_115 : decode cX11_said 115 = .ok (.iload_n 2, 1) := by decide +kernel
theorem dX11_said_116 : decode cX11_said 116 = .ok (.ireturn, 1) := by decide +kernel
theorem dX11_comes_0 : decode cX11_comes 0 = .ok (.iload_n 1, 1) := by decide +kernel
theorem dX11_comes_1 : decode cX11_comes 1 = .ok (.iconst 2, 1) := by decide +kernel
theorem dX11_comes_2 : decode cX11_comes 2 = .ok (.if_icmp .ne 52, 3) := by decide +kernel
theorem dX11_comes_5 : decode cX11_comes 5 = .ok (.iconst 0, 1) := by decide +kernel
theorem dX11_comes_6 : decode cX11_comes 6 = .ok (.istore_n 3, 1) := by decide +kernel
theorem dX11_comes_7 : decode cX11_comes 7 = .ok (.iload_n 3, 1) := by decide +kernel
theorem dX11_comes_8 : decode cX11_comes 8 = .ok (.aload_n 0, 1) := by decide +kernel
theorem dX11_comes_9 : decode cX11_comes 9 = .ok (.getfield 205, 3) := by decide +kernel
theorem dX11_comes_12 : decode cX11_comes 12 = .ok (.if_icmp .ge 40, 3) := by decide +kernel
theorem dX11_comes_15 : decode cX11_comes 15 = .ok (.aload_n 0, 1) := by decide +kernel
theorem dX11_comes_16 : decode cX11_comes 16 = .ok (.getfield 64, 3) := by decide +kernel
theorem dX11_comes_19 : decode cX11_comes 19 = .ok (.iload_n 3, 1) := by decide +kernel
theorem dX11_comes_20 : decode cX11_comes 20 = .ok (.iaload, 1) := by decide +kernel
theorem dX11_comes_21 : decode cX11_comes 21 = .ok (.ifCond .ne 25, 3) := by decide +kernel
theorem dX11_comes_24 : decode cX11_comes 24 = .ok (.bipush 8, 2) := by decide +kernel
theorem dX11_comes_26 : decode cX11_comes 26 = .ok (.aload_n 0, 1) := by decide +kernel
theorem dX11_comes_27 : decode cX11_comes 27 = .ok (.getfield 67, 3) := by decide +kernel
theorem dX11_comes_30 : decode cX11_comes 30 = .ok (.iload_n 3, 1) := by decide +kernel
theorem dX11_comes_31 : decode cX11_comes 31 = .ok (.iaload, 1) := by decide +kernel
theorem dX11_comes_32 : decode cX11_comes 32 = .ok (.imul, 1) := by decide +kernel
theorem dX11_comes_33 : decode cX11_comes 33 = .ok (.aload_n 0, 1) := by decide +kernel
theorem dX11_comes_34 : decode cX11_comes 34 = .ok (.getfield 70, 3) := by decide +kernel
theorem dX11_comes_37 : decode cX11_comes 37 = .ok (.iload_n 3, 1) := by decide +kernel
theorem dX11_comes_38 : decode cX11_comes 38 = .ok (.iaload, 1) := by decide +kernel
theorem dX11_comes_39 : decode cX11_comes 39 = .ok (.iadd, 1) := by decide +kernel
theorem dX11_comes_40 : decode cX11_comes 40 = .ok (.iload_n 2, 1) := by decide +kernel
theorem dX11_comes_41 : decode cX11_comes 41 = .ok (.if_icmp .ne 5, 3) := by decide +kernel
theorem dX11_comes_44 : decode cX11_comes 44 = .ok (.iconst 1, 1) := by decide +kernel
theorem dX11_comes_45 : decode cX11_comes 45 = .ok (.ireturn, 1) := by decide +kernel
theorem dX11_comes_46 : decode cX11_comes 46 = .ok (.iinc 3 1, 3) := by decide +kernel
theorem dX11_comes_49 : decode cX11_comes 49 = .ok (.goto (-42), 3) := by decide +kernel
theorem dX11_comes_52 : decode cX11_comes 52 = .ok (.iconst 0, 1) := by decide +kernel
theorem dX11_comes_53 : decode cX11_comes 53 = .ok (.ireturn, 1) := by decide +kernel
theorem dX11_comes_54 : decode cX11_comes 54 = .ok (.iload_n 1, 1) := by decide +kernel
theorem dX11_comes_55 : decode cX11_comes 55 = .ok (.ifCond .ne 70, 3) := by decide +kernel
theorem dX11_comes_58 : decode cX11_comes 58 = .ok (.iconst 0, 1) := by decide +kernel
theorem dX11_comes_59 : decode cX11_comes 59 = .ok (.istore_n 3, 1) := by decide +kernel
theorem dX11_comes_60 : decode cX11_comes 60 = .ok (.iconst 0, 1) := by decide +kernel
theorem dX11_comes_61 : decode cX11_comes 61 = .ok (.istore 4, 2) := by decide +kernel
theorem dX11_comes_63 : decode cX11_comes 63 = .ok (.iload 4, 2) := by decide +kernel
theorem dX11_comes_65 : decode cX11_comes 65 = .ok (.aload_n 0, 1) := by decide +kernel
theorem dX11_comes_66 : decode cX11_comes 66 = .ok (.getfield 7, 3) := by decide +kernel
theorem dX11_comes_69 : decode cX11_comes 69 = .ok (.if_icmp .ge 39, 3) := by decide +kernel
theorem dX11_comes_72 : decode cX11_comes 72 = .ok (.aload_n 0, 1) := by decide +kernel
theorem dX11_comes_73 : decode cX11_comes 73 = .ok (.getfield 16, 3) := by decide +kernel
theorem dX11_comes_76 : decode cX11_comes 76 = .ok (.iload 4, 2) := by decide +kernel
theorem dX11_comes_78 : decode cX11_comes 78 = .ok (.iaload, 1) := by decide +kernel
theorem dX11_comes_79 : decode cX11_comes 79 = .ok (.ifCond .ne 23, 3) := by decide +kernel
theorem dX11_comes_82 : decode cX11_comes 82 = .ok (.aload_n 0, 1) := by decide +kernel
theorem dX11_comes_83 : decode cX11_comes 83 = .ok (.iload 4, 2) := by decide +kernel
theorem dX11_comes_85 : decode cX11_comes 85 = .ok (.iload_n 2, 1) := by decide +kernel
theorem dX11_comes_86 : decode cX11_comes 86 = .ok (.invokevirtual 361, 3) := by decide +kernel
theorem dX11_comes_89 : decode cX11_comes 89 = .ok (.ifCond .eq 13, 3) := by decide +kernel
theorem dX11_comes_92 : decode cX11_comes 92 = .ok (.iload_n 3, 1) := by decide +kernel
theorem dX11_comes_93 : decode cX11_comes 93 = .ok (.aload_n 0, 1) := by decide +kernel
theorem dX11_comes_94 : decode cX11_comes 94 = .ok (.getfield 29, 3) := by decide +kernel
theorem dX11_comes_97 : decode cX11_comes 97 = .ok (.iload 4, 2) := by decide +kernel
theorem dX11_comes_99 : decode cX11_comes 99 = .ok (.iaload, 1) := by decide +kernel
theorem dX11_comes_100 : decode cX11_comes 100 = .ok (.iadd, 1) := by decide +kernel
theorem dX11_comes_101 : decode cX11_comes 101 = .ok (.istore_n 3, 1) := by decide +kernel
theorem dX11_comes_102 : decode cX11_comes 102 = .ok (.iinc 4 1, 3) := by decide +kernel
theorem dX11_comes_105 : decode cX11_comes 105 = .ok (.goto (-42), 3) := by decide +kernel
theorem dX11_comes_108 : decode cX11_comes 108 = .ok (.iconst 2, 1) := by decide +kernel
theorem dX11_comes_109 : decode cX11_comes 109 = .ok (.iload_n 3, 1) := by decide +kernel
theorem dX11_comes_110 : decode cX11_comes 110 = .ok (.imul, 1) := by decide +kernel
theorem dX11_comes_111 : decode cX11_comes 111 = .ok (.aload_n 0, 1) := by decide +kernel
theorem dX11_comes_112 : decode cX11_comes 112 = .ok (.iconst 0, 1) := by decide +kernel
theorem dX11_comes_113 : decode cX11_comes 113 = .ok (.invokevirtual 231, 3) := by decide +kernel
theorem dX11_comes_116 : decode cX11_comes 116 = .ok (.if_icmp .le 7, 3) := by decide +kernel
theorem dX11_comes_119 : decode cX11_comes 119 = .ok (.iconst 1, 1) := by decide +kernel
theorem dX11_comes_120 : decode cX11_comes 120 = .ok (.goto 4, 3) := by decide +kernel
theorem dX11_comes_123 : decode cX11_comes 123 = .ok (.iconst 0, 1) := by decide +kernel
theorem dX11_comes_124 : decode cX11_comes 124 = .ok (.ireturn, 1) := by decide +kernel
theorem dX11_comes_125 : decode cX11_comes 125 = .ok (.iconst 0, 1) := by decide +kernel
theorem dX11_comes_126 : decode cX11_comes 126 = .ok (.istore_n 3, 1) := by decide +kernel
theorem dX11_comes_127 : decode cX11_comes 127 = .ok (.iconst 0, 1) := by decide +kernel
theorem dX11_comes_128 : decode cX11_comes 128 = .ok (.istore 4, 2) := by decide +kernel
theorem dX11_comes_130 : decode cX11_comes 130 = .ok (.iload 4, 2) := by decide +kernel
theorem dX11_comes_132 : decode cX11_comes 132 = .ok (.iconst 3, 1) := by decide +kernel
theorem dX11_comes_133 : decode cX11_comes 133 = .ok (.if_icmp .ge 86, 3) := by decide +kernel
theorem dX11_comes_136 : decode cX11_comes 136 = .ok (.iconst 0, 1) := by decide +kernel
theorem dX11_comes_137 : decode cX11_comes 137 = .ok (.istore 5, 2) := by decide +kernel
theorem dX11_comes_139 : decode cX11_comes 139 = .ok (.iconst 0, 1) := by decide +kernel
theorem dX11_comes_140 : decode cX11_comes 140 = .ok (.istore 6, 2) := by decide +kernel
theorem dX11_comes_142 : decode cX11_comes 142 = .ok (.iconst 0, 1) := by decide +kernel
theorem dX11_comes_143 : decode cX11_comes 143 = .ok (.istore 7, 2) := by decide +kernel
theorem dX11_comes_145 : decode cX11_comes 145 = .ok (.iload 7, 2) := by decide +kernel
theorem dX11_comes_147 : decode cX11_comes 147 = .ok (.aload_n 0, 1) := by decide +kernel
theorem dX11_comes_148 : decode cX11_comes 148 = .ok (.getfield 7, 3) := by decide +kernel
theorem dX11_comes_151 : decode cX11_comes 151 = .ok (.if_icmp .ge 50, 3) := by decide +kernel
theorem dX11_comes_154 : decode cX11_comes 154 = .ok (.aload_n 0, 1) := by decide +kernel
theorem dX11_comes_155 : decode cX11_comes 155 = .ok (.getfield 16, 3) := by decide +kernel
theorem dX11_comes_158 : decode cX11_comes 158 = .ok (.iload 7, 2) := by decide +kernel
theorem dX11_comes_160 : decode cX11_comes 160 = .ok (.iaload, 1) := by decide +kernel
theorem dX11_comes_161 : decode cX11_comes 161 = .ok (.ifCond .ne 34, 3) := by decide +kernel
theorem dX11_comes_164 : decode cX11_comes 164 = .ok (.aload_n 0, 1) := by decide +kernel
theorem dX11_comes_165 : decode cX11_comes 165 = .ok (.getfield 26, 3) := by decide +kernel
theorem dX11_comes_168 : decode cX11_comes 168 = .ok (.iload 7, 2) := by decide +kernel
theorem dX11_comes_170 : decode cX11_comes 170 = .ok (.iaload, 1) := by decide +kernel
theorem dX11_comes_171 : decode cX11_comes 171 = .ok (.iload 4, 2) := by decide +kernel
theorem dX11_comes_173 : decode cX11_comes 173 = .ok (.if_icmp .eq 6, 3) := by decide +kernel
theorem dX11_comes_176 : decode cX11_comes 176 = .ok (.goto 19, 3) := by decide +kernel
theorem dX11_comes_179 : decode cX11_comes 179 = .ok (.iinc 6 1, 3) := by decide +kernel
theorem dX11_comes_182 : decode cX11_comes 182 = .ok (.aload_n 0, 1) := by decide +kernel
theorem dX11_comes_183 : decode cX11_comes 183 = .ok (.iload 7, 2) := by decide +kernel
theorem dX11_comes_185 : decode cX11_comes 185 = .ok (.iload_n 2, 1) := by decide +kernel
theorem dX11_comes_186 : decode cX11_comes 186 = .ok (.invokevirtual 361, 3) := by decide +kernel
theorem dX11_comes_189 : decode cX11_comes 189 = .ok (.ifCond .eq 6, 3) := by decide +kernel
theorem dX11_comes_192 : decode cX11_comes 192 = .ok (.iinc 5 1, 3) := by decide +kernel
theorem dX11_comes_195 : decode cX11_comes 195 = .ok (.iinc 7 1, 3) := by decide +kernel
theorem dX11_comes_198 : decode cX11_comes 198 = .ok (.goto (-53), 3) := by decide +kernel
theorem dX11_comes_201 : decode cX11_comes 201 = .ok (.iconst 2, 1) := by decide +kernel
theorem dX11_comes_202 : decode cX11_comes 202 = .ok (.iload 5, 2) := by decide +kernel
theorem dX11_comes_204 : decode cX11_comes 204 = .ok (.imul, 1) := by decide +kernel
theorem dX11_comes_205 : decode cX11_comes 205 = .ok (.iload 6, 2) := by decide +kernel
theorem dX11_comes_207 : decode cX11_comes 207 = .ok (.if_icmp .le 6, 3) := by decide +kernel
theorem dX11_comes_210 : decode cX11_comes 210 = .ok (.iinc 3 1, 3) := by decide +kernel
theorem dX11_comes_213 : decode cX11_comes 213 = .ok (.iinc 4 1, 3) := by decide +kernel
theorem dX11_comes_216 : decode cX11_comes 216 = .ok (.goto (-86), 3) := by decide +kernel
theorem dX11_comes_219 : decode cX11_comes 219 = .ok (.iload_n 3, 1) := by decide +kernel
theorem dX11_comes_220 : decode cX11_comes 220 = .ok (.iconst 1, 1) := by decide +kernel
theorem dX11_comes_221 : decode cX11_comes 221 = .ok (.if_icmp .le 7, 3) := by decide +kernel
theorem dX11_comes_224 : decode cX11_comes 224 = .ok (.iconst 1, 1) := by decide +kernel
theorem dX11_comes_225 : decode cX11_comes 225 = .ok (.goto 4, 3) := by decide +kernel
theorem dX11_comes_228 : decode cX11_comes 228 = .ok (.iconst 0, 1) := by decide +kernel
theorem dX11_comes_229 : decode cX11_comes 229 = .ok (.ireturn, 1) := by decide +kernel
theorem dX11_other_0 : decode cX11_other 0 = .ok (.iload_n 1, 1) := by decide +kernel
theorem dX11_other_1 : decode cX11_other 1 = .ok (.ifCond .lt 18, 3) := by decide +kernel
theorem dX11_other_4 : decode cX11_other 4 = .ok (.iload_n 1, 1) := by decide +kernel
theorem dX11_other_5 : decode cX11_other 5 = .ok (.iconst 2, 1) := by decide +kernel
theorem dX11_other_6 : decode cX11_other 6 = .ok (.if_icmp .gt 13, 3) := by decide +kernel
theorem dX11_other_9 : decode cX11_other 9 = .ok (.iload_n 2, 1) := by decide +kernel
theorem dX11_other_10 : decode cX11_other 10 = .ok (.ifCond .lt 9, 3) := by decide +kernel
theorem dX11_other_13 : decode cX11_other 13 = .ok (.iload_n 2, 1) := by decide +kernel
theorem dX11_other_14 : decode cX11_other 14 = .ok (.bipush 15, 2) := by decide +kernel
theorem dX11_other_16 : decode cX11_other 16 = .ok (.if_icmp .le 5, 3) := by decide +kernel
theorem dX11_other_19 : decode cX11_other 19 = .ok (.iconst (-1), 1) := by decide +kernel
theorem dX11_other_20 : decode cX11_other 20 = .ok (.ireturn, 1) := by decide +kernel
theorem dX11_other_21 : decode cX11_other 21 = .ok (.iload_n 2, 1) := by decide +kernel
theorem dX11_other_22 : decode cX11_other 22 = .ok (.istore_n 3, 1) := by decide +kernel
theorem dX11_other_23 : decode cX11_other 23 = .ok (.iconst 0, 1) := by decide +kernel
theorem dX11_other_24 : decode cX11_other 24 = .ok (.istore 4, 2) := by decide +kernel
theorem dX11_other_26 : decode cX11_other 26 = .ok (.iload 4, 2) := by decide +kernel
theorem dX11_other_28 : decode cX11_other 28 = .ok (.sipush 128, 3) := by decide +kernel
theorem dX11_other_31 : decode cX11_other 31 = .ok (.if_icmp .ge 29, 3) := by decide +kernel
theorem dX11_other_34 : decode cX11_other 34 = .ok (.aload_n 0, 1) := by decide +kernel
theorem dX11_other_35 : decode cX11_other 35 = .ok (.iload_n 1, 1) := by decide +kernel
theorem dX11_other_36 : decode cX11_other 36 = .ok (.iload 4, 2) := by decide +kernel
theorem dX11_other_38 : decode cX11_other 38 = .ok (.invokevirtual 382, 3) := by decide +kernel
theorem dX11_other_41 : decode cX11_other 41 = .ok (.ifCond .eq 13, 3) := by decide +kernel
theorem dX11_other_44 : decode cX11_other 44 = .ok (.iload_n 3, 1) := by decide +kernel
theorem dX11_other_45 : decode cX11_other 45 = .ok (.iinc 3 (-1), 3) := by decide +kernel
theorem dX11_other_48 : decode cX11_other 48 = .ok (.ifCond .ne 6, 3) := by decide +kernel
theorem dX11_other_51 : decode cX11_other 51 = .ok (.iload 4, 2) := by decide +kernel
theorem dX11_other_53 : decode cX11_other 53 = .ok (.ireturn, 1) := by decide +kernel
theorem dX11_other_54 : decode cX11_other 54 = .ok (.iinc 4 1, 3) := by decide +kernel
theorem dX11_other_57 : decode cX11_other 57 = .ok (.goto (-31), 3) := by decide +kernel
theorem dX11_other_60 : decode cX11_other 60 = .ok (.iconst (-1), 1) := by decide +kernel
theorem dX11_other_61 : decode cX11_other 61 = .ok (.ireturn, 1) := by decide +kernel
theorem dX11_status_0 : decode cX11_status 0 = .ok (.iload_n 1, 1) := by decide +kernel
theorem dX11_status_1 : decode cX11_status 1 = .ok (.bipush 10, 2) := by decide +kernel
theorem dX11_status_3 : decode cX11_status 3 = .ok (.if_icmp .le 19, 3) := by decide +kernel
theorem dX11_status_6 : decode cX11_status 6 = .ok (.iload_n 1, 1) := by decide +kernel
theorem dX11_status_7 : decode cX11_status 7 = .ok (.bipush 18, 2) := by decide +kernel
theorem dX11_status_9 : decode cX11_status 9 = .ok (.if_icmp .ge 13, 3) := by decide +kernel
theorem dX11_status_12 : decode cX11_status 12 = .ok (.aload_n 0, 1) := by decide +kernel
theorem dX11_status_13 : decode cX11_status 13 = .ok (.getfield 169, 3) := by decide +kernel
theorem dX11_status_16 : decode cX11_status 16 = .ok (.iload_n 1, 1) := by decide +kernel
theorem dX11_status_17 : decode cX11_status 17 = .ok (.bipush 10, 2) := by decide +kernel
theorem dX11_status_19 : decode cX11_status 19 = .ok (.isub, 1) := by decide +kernel
theorem dX11_status_20 : decode cX11_status 20 = .ok (.iaload, 1) := by decide +kernel
theorem dX11_status_21 : decode cX11_status 21 = .ok (.ireturn, 1) := by decide +kernel
theorem dX11_status_22 : decode cX11_status 22 = .ok (.iconst 0, 1) := by decide +kernel
theorem dX11_status_23 : decode cX11_status 23 = .ok (.istore_n 2, 1) := by decide +kernel
theorem dX11_status_24 : decode cX11_status 24 = .ok (.iload_n 1, 1) := by decide +kernel
theorem dX11_status_25 : decode cX11_status 25 = .ok (.tableswitch 241 0 10 #[59, 64, 69, 74, 79, 84, 89, 119, 150, 181, 211], 59) := by decide +kernel
theorem dX11_status_84 : decode cX11_status 84 = .ok (.aload_n 0, 1) := by decide +kernel
theorem dX11_status_85 : decode cX11_status 85 = .ok (.getfield 7, 3) := by decide +kernel
theorem dX11_status_88 : decode cX11_status 88 = .ok (.ireturn, 1) := by decide +kernel
theorem dX11_status_89 : decode cX11_status 89 = .ok (.aload_n 0, 1) := by decide +kernel
theorem dX11_status_90 : decode cX11_status 90 = .ok (.getfield 205, 3) := by decide +kernel
theorem dX11_status_93 : decode cX11_status 93 = .ok (.ireturn, 1) := by decide +kernel
theorem dX11_status_94 : decode cX11_status 94 = .ok (.aload_n 0, 1) := by decide +kernel
theorem dX11_status_95 : decode cX11_status 95 = .ok (.getfield 252, 3) := by decide +kernel
theorem dX11_status_98 : decode cX11_status 98 = .ok (.ireturn, 1) := by decide +kernel
theorem dX11_status_99 : decode cX11_status 99 = .ok (.aload_n 0, 1) := by decide +kernel
theorem dX11_status_100 : decode cX11_status 100 = .ok (.getfield 329, 3) := by decide +kernel
theorem dX11_status_103 : decode cX11_status 103 = .ok (.ireturn, 1) := by decide +kernel
theorem dX11_status_104 : decode cX11_status 104 = .ok (.aload_n 0, 1) := by decide +kernel
theorem dX11_status_105 : decode cX11_status 105 = .ok (.getfield 364, 3) := by decide +kernel
theorem dX11_status_108 : decode cX11_status 108 = .ok (.ireturn, 1) := by decide +kernel
theorem dX11_status_109 : decode cX11_status 109 = .ok (.aload_n 0, 1) := by decide +kernel
theorem dX11_status_110 : decode cX11_status 110 = .ok (.getfield 224, 3) := by decide +kernel
theorem dX11_status_113 : decode cX11_status 113 = .ok (.ireturn, 1) := by decide +kernel
theorem dX11_status_114 : decode cX11_status 114 = .ok (.iconst 0, 1) := by decide +kernel
theorem dX11_status_115 : decode cX11_status 115 = .ok (.istore_n 3, 1) := by decide +kernel
theorem dX11_status_116 : decode cX11_status 116 = .ok (.iload_n 3, 1) := by decide +kernel
theorem dX11_status_117 : decode cX11_status 117 = .ok (.aload_n 0, 1) := by decide +kernel
theorem dX11_status_118 : decode cX11_status 118 = .ok (.getfield 7, 3) := by decide +kernel
theorem dX11_status_121 : decode cX11_status 121 = .ok (.if_icmp .ge 21, 3) := by decide +kernel
theorem dX11_status_124 : decode cX11_status 124 = .ok (.aload_n 0, 1) := by decide +kernel
theorem dX11_status_125 : decode cX11_status 125 = .ok (.getfield 41, 3) := by decide +kernel
theorem dX11_status_128 : decode cX11_status 128 = .ok (.iload_n 3, 1) := by decide +kernel
theorem dX11_status_129 : decode cX11_status 129 = .ok (.baload, 1) := by decide +kernel
theorem dX11_status_130 : decode cX11_status 130 = .ok (.ifCond .eq 6, 3) := by decide +kernel
theorem dX11_status_133 : decode cX11_status 133 = .ok (.iinc 2 1, 3) := by decide +kernel
theorem dX11_status_136 : decode cX11_status 136 = .ok (.iinc 3 1, 3) := by decide +kernel
theorem dX11_status_139 : decode cX11_status 139 = .ok (.goto (-23), 3) := by decide +kernel
theorem dX11_status_142 : decode cX11_status 142 = .ok (.iload_n 2, 1) := by decide +kernel
theorem dX11_status_143 : decode cX11_status 143 = .ok (.ireturn, 1) := by decide +kernel
theorem dX11_status_144 : decode cX11_status 144 = .ok (.iconst 0, 1) := by decide +kernel
theorem dX11_status_145 : decode cX11_status 145 = .ok (.istore_n 3, 1) := by decide +kernel
theorem dX11_status_146 : decode cX11_status 146 = .ok (.iload_n 3, 1) := by decide +kernel
theorem dX11_status_147 : decode cX11_status 147 = .ok (.aload_n 0, 1) := by decide +kernel
theorem dX11_status_148 : decode cX11_status 148 = .ok (.getfield 205, 3) := by decide +kernel
theorem dX11_status_151 : decode cX11_status 151 = .ok (.if_icmp .ge 22, 3) := by decide +kernel
theorem dX11_status_154 : decode cX11_status 154 = .ok (.aload_n 0, 1) := by decide +kernel
theorem dX11_status_155 : decode cX11_status 155 = .ok (.getfield 79, 3) := by decide +kernel
theorem dX11_status_158 : decode cX11_status 158 = .ok (.iload_n 3, 1) := by decide +kernel
theorem dX11_status_159 : decode cX11_status 159 = .ok (.iaload, 1) := by decide +kernel
theorem dX11_status_160 : decode cX11_status 160 = .ok (.iconst 1, 1) := by decide +kernel
theorem dX11_status_161 : decode cX11_status 161 = .ok (.if_icmp .ne 6, 3) := by decide +kernel
theorem dX11_status_164 : decode cX11_status 164 = .ok (.iinc 2 1, 3) := by decide +kernel
theorem dX11_status_167 : decode cX11_status 167 = .ok (.iinc 3 1, 3) := by decide +kernel
theorem dX11_status_170 : decode cX11_status 170 = .ok (.goto (-24), 3) := by decide +kernel
theorem dX11_status_173 : decode cX11_status 173 = .ok (.iload_n 2, 1) := by decide +kernel
theorem dX11_status_174 : decode cX11_status 174 = .ok (.ireturn, 1) := by decide +kernel
theorem dX11_status_175 : decode cX11_status 175 = .ok (.iconst 0, 1) := by decide +kernel
theorem dX11_status_176 : decode cX11_status 176 = .ok (.istore_n 3, 1) := by decide +kernel
theorem dX11_status_177 : decode cX11_status 177 = .ok (.iload_n 3, 1) := by decide +kernel
theorem dX11_status_178 : decode cX11_status 178 = .ok (.aload_n 0, 1) := by decide +kernel
theorem dX11_status_179 : decode cX11_status 179 = .ok (.getfield 205, 3) := by decide +kernel
theorem dX11_status_182 : decode cX11_status 182 = .ok (.if_icmp .ge 22, 3) := by decide +kernel
theorem dX11_status_185 : decode cX11_status 185 = .ok (.aload_n 0, 1) := by decide +kernel
theorem dX11_status_186 : decode cX11_status 186 = .ok (.getfield 88, 3) := by decide +kernel
theorem dX11_status_189 : decode cX11_status 189 = .ok (.iload_n 3, 1) := by decide +kernel
theorem dX11_status_190 : decode cX11_status 190 = .ok (.iaload, 1) := by decide +kernel
theorem dX11_status_191 : decode cX11_status 191 = .ok (.iconst (-1), 1) := by decide +kernel
theorem dX11_status_192 : decode cX11_status 192 = .ok (.if_icmp .eq 6, 3) := by decide +kernel
theorem dX11_status_195 : decode cX11_status 195 = .ok (.iinc 2 1, 3) := by decide +kernel
theorem dX11_status_198 : decode cX11_status 198 = .ok (.iinc 3 1, 3) := by decide +kernel
theorem dX11_status_201 : decode cX11_status 201 = .ok (.goto (-24), 3) := by decide +kernel
theorem dX11_status_204 : decode cX11_status 204 = .ok (.iload_n 2, 1) := by decide +kernel
theorem dX11_status_205 : decode cX11_status 205 = .ok (.ireturn, 1) := by decide +kernel
theorem dX11_status_206 : decode cX11_status 206 = .ok (.iconst 0, 1) := by decide +kernel
theorem dX11_status_207 : decode cX11_status 207 = .ok (.istore_n 3, 1) := by decide +kernel
theorem dX11_status_208 : decode cX11_status 208 = .ok (.iload_n 3, 1) := by decide +kernel
theorem dX11_status_209 : decode cX11_status 209 = .ok (.aload_n 0, 1) := by decide +kernel
theorem dX11_status_210 : decode cX11_status 210 = .ok (.getfield 205, 3) := by decide +kernel
theorem dX11_status_213 : decode cX11_status 213 = .ok (.if_icmp .ge 21, 3) := by decide +kernel
theorem dX11_status_216 : decode cX11_status 216 = .ok (.aload_n 0, 1) := by decide +kernel
theorem dX11_status_217 : decode cX11_status 217 = .ok (.getfield 100, 3) := by decide +kernel
theorem dX11_status_220 : decode cX11_status 220 = .ok (.iload_n 3, 1) := by decide +kernel
theorem dX11_status_221 : decode cX11_status 221 = .ok (.baload, 1) := by decide +kernel
theorem dX11_status_222 : decode cX11_status 222 = .ok (.ifCond .eq 6, 3) := by decide +kernel
theorem dX11_status_225 : decode cX11_status 225 = .ok (.iinc 2 1, 3) := by decide +kernel
theorem dX11_status_228 : decode cX11_status 228 = .ok (.iinc 3 1, 3) := by decide +kernel
theorem dX11_status_231 : decode cX11_status 231 = .ok (.goto (-23), 3) := by decide +kernel
theorem dX11_status_234 : decode cX11_status 234 = .ok (.iload_n 2, 1) := by decide +kernel
theorem dX11_status_235 : decode cX11_status 235 = .ok (.ireturn, 1) := by decide +kernel
theorem dX11_status_236 : decode cX11_status 236 = .ok (.iconst 0, 1) := by decide +kernel
theorem dX11_status_237 : decode cX11_status 237 = .ok (.istore_n 3, 1) := by decide +kernel
theorem dX11_status_238 : decode cX11_status 238 = .ok (.iload_n 3, 1) := by decide +kernel
theorem dX11_status_239 : decode cX11_status 239 = .ok (.aload_n 0, 1) := by decide +kernel
theorem dX11_status_240 : decode cX11_status 240 = .ok (.getfield 205, 3) := by decide +kernel
theorem dX11_status_243 : decode cX11_status 243 = .ok (.if_icmp .ge 21, 3) := by decide +kernel
theorem dX11_status_246 : decode cX11_status 246 = .ok (.aload_n 0, 1) := by decide +kernel
theorem dX11_status_247 : decode cX11_status 247 = .ok (.getfield 106, 3) := by decide +kernel
theorem dX11_status_250 : decode cX11_status 250 = .ok (.iload_n 3, 1) := by decide +kernel
theorem dX11_status_251 : decode cX11_status 251 = .ok (.baload, 1) := by decide +kernel
theorem dX11_status_252 : decode cX11_status 252 = .ok (.ifCond .eq 6, 3) := by decide +kernel
theorem dX11_status_255 : decode cX11_status 255 = .ok (.iinc 2 1, 3) := by decide +kernel
theorem dX11_status_258 : decode cX11_status 258 = .ok (.iinc 3 1, 3) := by decide +kernel
theorem dX11_status_261 : decode cX11_status 261 = .ok (.goto (-23), 3) := by decide +kernel
theorem dX11_status_264 : decode cX11_status 264 = .ok (.iload_n 2, 1) := by decide +kernel
theorem dX11_status_265 : decode cX11_status 265 = .ok (.ireturn, 1) := by decide +kernel
theorem dX11_status_266 : decode cX11_status 266 = .ok (.iconst (-1), 1) := by decide +kernel
theorem dX11_status_267 : decode cX11_status 267 = .ok (.ireturn, 1) := by decide +kernel
theorem dJ6_bitCount_0f7a4_0 : decode cJ6_bitCount_0f7a4 0 = .ok (.iload_n 0, 1) := by decide +kernel
theorem dJ6_bitCount_0f7a4_1 : decode cJ6_bitCount_0f7a4 1 = .ok (.iload_n 0, 1) := by decide +kernel
theorem dJ6_bitCount_0f7a4_2 : decode cJ6_bitCount_0f7a4 2 = .ok (.iconst 1, 1) := by decide +kernel
theorem dJ6_bitCount_0f7a4_3 : decode cJ6_bitCount_0f7a4 3 = .ok (.iushr, 1) := by decide +kernel
theorem dJ6_bitCount_0f7a4_4 : decode cJ6_bitCount_0f7a4 4 = .ok (.ldc_w 265, 3) := by decide +kernel
theorem dJ6_bitCount_0f7a4_7 : decode cJ6_bitCount_0f7a4 7 = .ok (.iand, 1) := by decide +kernel
theorem dJ6_bitCount_0f7a4_8 : decode cJ6_bitCount_0f7a4 8 = .ok (.isub, 1) := by decide +kernel
theorem dJ6_bitCount_0f7a4_9 : decode cJ6_bitCount_0f7a4 9 = .ok (.istore_n 0, 1) := by decide +kernel
theorem dJ6_bitCount_0f7a4_10 : decode cJ6_bitCount_0f7a4 10 = .ok (.iload_n 0, 1) := by decide +kernel
theorem dJ6_bitCount_0f7a4_11 : decode cJ6_bitCount_0f7a4 11 = .ok (.ldc_w 266, 3) := by decide +kernel
theorem dJ6_bitCount_0f7a4_14 : decode cJ6_bitCount_0f7a4 14 = .ok (.iand, 1) := by decide +kernel
theorem dJ6_bitCount_0f7a4_15 : decode cJ6_bitCount_0f7a4 15 = .ok (.iload_n 0, 1) := by decide +kernel
theorem dJ6_bitCount_0f7a4_16 : decode cJ6_bitCount_0f7a4 16 = .ok (.iconst 2, 1) := by decide +kernel
theorem dJ6_bitCount_0f7a4_17 : decode cJ6_bitCount_0f7a4 17 = .ok (.iushr, 1) := by decide +kernel
theorem dJ6_bitCount_0f7a4_18 : decode cJ6_bitCount_0f7a4 18 = .ok (.ldc_w 266, 3) := by decide +kernel
theorem dJ6_bitCount_0f7a4_21 : decode cJ6_bitCount_0f7a4 21 = .ok (.iand, 1) := by decide +kernel
theorem dJ6_bitCount_0f7a4_22 : decode cJ6_bitCount_0f7a4 22 = .ok (.iadd, 1) := by decide +kernel
theorem dJ6_bitCount_0f7a4_23 : decode cJ6_bitCount_0f7a4 23 = .ok (.istore_n 0, 1) := by decide +kernel
theorem dJ6_bitCount_0f7a4_24 : decode cJ6_bitCount_0f7a4 24 = .ok (.iload_n 0, 1) := by decide +kernel
theorem dJ6_bitCount_0f7a4_25 : decode cJ6_bitCount_0f7a4 25 = .ok (.iload_n 0, 1) := by decide +kernel
theorem dJ6_bitCount_0f7a4_26 : decode cJ6_bitCount_0f7a4 26 = .ok (.iconst 4, 1) := by decide +kernel
theorem dJ6_bitCount_0f7a4_27 : decode cJ6_bitCount_0f7a4 27 = .ok (.iushr, 1) := by decide +kernel
theorem dJ6_bitCount_0f7a4_28 : decode cJ6_bitCount_0f7a4 28 = .ok (.iadd, 1) := by decide +kernel
theorem dJ6_bitCount_0f7a4_29 : decode cJ6_bitCount_0f7a4 29 = .ok (.ldc_w 267, 3) := by decide +kernel
theorem dJ6_bitCount_0f7a4_32 : decode cJ6_bitCount_0f7a4 32 = .ok (.iand, 1) := by decide +kernel
theorem dJ6_bitCount_0f7a4_33 : decode cJ6_bitCount_0f7a4 33 = .ok (.istore_n 0, 1) := by decide +kernel
theorem dJ6_bitCount_0f7a4_34 : decode cJ6_bitCount_0f7a4 34 = .ok (.iload_n 0, 1) := by decide +kernel
theorem dJ6_bitCount_0f7a4_35 : decode cJ6_bitCount_0f7a4 35 = .ok (.iload_n 0, 1) := by decide +kernel
theorem dJ6_bitCount_0f7a4_36 : decode cJ6_bitCount_0f7a4 36 = .ok (.bipush 8, 2) := by decide +kernel
theorem dJ6_bitCount_0f7a4_38 : decode cJ6_bitCount_0f7a4 38 = .ok (.iushr, 1) := by decide +kernel
theorem dJ6_bitCount_0f7a4_39 : decode cJ6_bitCount_0f7a4 39 = .ok (.iadd, 1) := by decide +kernel
theorem dJ6_bitCount_0f7a4_40 : decode cJ6_bitCount_0f7a4 40 = .ok (.istore_n 0, 1) := by decide +kernel
theorem dJ6_bitCount_0f7a4_41 : decode cJ6_bitCount_0f7a4 41 = .ok (.iload_n 0, 1) := by decide +kernel
theorem dJ6_bitCount_0f7a4_42 : decode cJ6_bitCount_0f7a4 42 = .ok (.iload_n 0, 1) := by decide +kernel
theorem dJ6_bitCount_0f7a4_43 : decode cJ6_bitCount_0f7a4 43 = .ok (.bipush 16, 2) := by decide +kernel
theorem dJ6_bitCount_0f7a4_45 : decode cJ6_bitCount_0f7a4 45 = .ok (.iushr, 1) := by decide +kernel
theorem dJ6_bitCount_0f7a4_46 : decode cJ6_bitCount_0f7a4 46 = .ok (.iadd, 1) := by decide +kernel
theorem dJ6_bitCount_0f7a4_47 : decode cJ6_bitCount_0f7a4 47 = .ok (.istore_n 0, 1) := by decide +kernel
theorem dJ6_bitCount_0f7a4_48 : decode cJ6_bitCount_0f7a4 48 = .ok (.iload_n 0, 1) := by decide +kernel
theorem dJ6_bitCount_0f7a4_49 : decode cJ6_bitCount_0f7a4 49 = .ok (.bipush 63, 2) := by decide +kernel
theorem dJ6_bitCount_0f7a4_51 : decode cJ6_bitCount_0f7a4 51 = .ok (.iand, 1) := by decide +kernel
theorem dJ6_bitCount_0f7a4_52 : decode cJ6_bitCount_0f7a4 52 = .ok (.ireturn, 1) := by decide +kernel
theorem dJ9_abs_0f7a4_0 : decode cJ9_abs_0f7a4 0 = .ok (.iload_n 0, 1) := by decide +kernel
theorem dJ9_abs_0f7a4_1 : decode cJ9_abs_0f7a4 1 = .ok (.ifCond .ge 8, 3) := by decide +kernel
theorem dJ9_abs_0f7a4_4 : decode cJ9_abs_0f7a4 4 = .ok (.iload_n 0, 1) := by decide +kernel
theorem dJ9_abs_0f7a4_5 : decode cJ9_abs_0f7a4 5 = .ok (.ineg, 1) := by decide +kernel
theorem dJ9_abs_0f7a4_6 : decode cJ9_abs_0f7a4 6 = .ok (.goto 4, 3) := by decide +kernel
theorem dJ9_abs_0f7a4_9 : decode cJ9_abs_0f7a4 9 = .ok (.iload_n 0, 1) := by decide +kernel
theorem dJ9_abs_0f7a4_10 : decode cJ9_abs_0f7a4 10 = .ok (.ireturn, 1) := by decide +kernel
theorem dJ9_max_7cf53_0 : decode cJ9_max_7cf53 0 = .ok (.iload_n 0, 1) := by decide +kernel
theorem dJ9_max_7cf53_1 : decode cJ9_max_7cf53 1 = .ok (.iload_n 1, 1) := by decide +kernel
theorem dJ9_max_7cf53_2 : decode cJ9_max_7cf53 2 = .ok (.if_icmp .lt 7, 3) := by decide +kernel
theorem dJ9_max_7cf53_5 : decode cJ9_max_7cf53 5 = .ok (.iload_n 0, 1) := by decide +kernel
theorem dJ9_max_7cf53_6 : decode cJ9_max_7cf53 6 = .ok (.goto 4, 3) := by decide +kernel
theorem dJ9_max_7cf53_9 : decode cJ9_max_7cf53 9 = .ok (.iload_n 1, 1) := by decide +kernel
theorem dJ9_max_7cf53_10 : decode cJ9_max_7cf53 10 = .ok (.ireturn, 1) := by decide +kernel
theorem dJ9_min_7cf53_0 : decode cJ9_min_7cf53 0 = .ok (.iload_n 0, 1) := by decide +kernel
theorem dJ9_min_7cf53_1 : decode cJ9_min_7cf53 1 = .ok (.iload_n 1, 1) := by decide +kernel
theorem dJ9_min_7cf53_2 : decode cJ9_min_7cf53 2 = .ok (.if_icmp .gt 7, 3) := by decide +kernel
theorem dJ9_min_7cf53_5 : decode cJ9_min_7cf53 5 = .ok (.iload_n 0, 1) := by decide +kernel
theorem dJ9_min_7cf53_6 : decode cJ9_min_7cf53 6 = .ok (.goto 4, 3) := by decide +kernel
theorem dJ9_min_7cf53_9 : decode cJ9_min_7cf53 9 = .ok (.iload_n 1, 1) := by decide +kernel
theorem dJ9_min_7cf53_10 : decode cJ9_min_7cf53 10 = .ok (.ireturn, 1) := by decide +kernel
theorem dJ0_length_8abf5_0 : decode cJ0_length_8abf5 0 = .ok (.aload_n 0, 1) := by decide +kernel
theorem dJ0_length_8abf5_1 : decode cJ0_length_8abf5 1 = .ok (.getfield 9, 3) := by decide +kernel
theorem dJ0_length_8abf5_4 : decode cJ0_length_8abf5 4 = .ok (.arraylength, 1) := by decide +kernel
theorem dJ0_length_8abf5_5 : decode cJ0_length_8abf5 5 = .ok (.aload_n 0, 1) := by decide +kernel
theorem dJ0_length_8abf5_6 : decode cJ0_length_8abf5 6 = .ok (.invokevirtual 335, 3) := by decide +kernel
theorem dJ0_length_8abf5_9 : decode cJ0_length_8abf5 9 = .ok (.ishr, 1) := by decide +kernel
theorem dJ0_length_8abf5_10 : decode cJ0_length_8abf5 10 = .ok (.ireturn, 1) := by decide +kernel
theorem dJ0_charAt_5068e_0 : decode cJ0_charAt_5068e 0 = .ok (.aload_n 0, 1) := by decide +kernel
theorem dJ0_charAt_5068e_1 : decode cJ0_charAt_5068e 1 = .ok (.invokevirtual 492, 3) := by decide +kernel
theorem dJ0_charAt_5068e_4 : decode cJ0_charAt_5068e 4 = .ok (.ifCond .eq 12, 3) := by decide +kernel
theorem dJ0_charAt_5068e_7 : decode cJ0_charAt_5068e 7 = .ok (.aload_n 0, 1) := by decide +kernel
theorem dJ0_charAt_5068e_8 : decode cJ0_charAt_5068e 8 = .ok (.getfield 9, 3) := by decide +kernel
theorem dJ0_charAt_5068e_11 : decode cJ0_charAt_5068e 11 = .ok (.iload_n 1, 1) := by decide +kernel
theorem dJ0_charAt_5068e_12 : decode cJ0_charAt_5068e 12 = .ok (.invokestatic 495, 3) := by decide +kernel
theorem dJ0_charAt_5068e_15 : decode cJ0_charAt_5068e 15 = .ok (.ireturn, 1) := by decide +kernel
theorem dJ0_charAt_5068e_16 : decode cJ0_charAt_5068e 16 = .ok (.aload_n 0, 1) := by decide +kernel
theorem dJ0_charAt_5068e_17 : decode cJ0_charAt_5068e 17 = .ok (.getfield 9, 3) := by decide +kernel
theorem dJ0_charAt_5068e_20 : decode cJ0_charAt_5068e 20 = .ok (.iload_n 1, 1) := by decide +kernel
theorem dJ0_charAt_5068e_21 : decode cJ0_charAt_5068e 21 = .ok (.invokestatic 498, 3) := by decide +kernel
theorem dJ0_charAt_5068e_24 : decode cJ0_charAt_5068e 24 = .ok (.ireturn, 1) := by decide +kernel
theorem dJ0_coder_7d493_0 : decode cJ0_coder_7d493 0 = .ok (.getstatic 38, 3) := by decide +kernel
theorem dJ0_coder_7d493_3 : decode cJ0_coder_7d493 3 = .ok (.ifCond .eq 10, 3) := by decide +kernel
theorem dJ0_coder_7d493_6 : decode cJ0_coder_7d493 6 = .ok (.aload_n 0, 1) := by decide +kernel
theorem dJ0_coder_7d493_7 : decode cJ0_coder_7d493 7 = .ok (.getfield 15, 3) := by decide +kernel
theorem dJ0_coder_7d493_10 : decode cJ0_coder_7d493 10 = .ok (.goto 4, 3) := by decide +kernel
theorem dJ0_coder_7d493_13 : decode cJ0_coder_7d493 13 = .ok (.iconst 1, 1) := by decide +kernel
theorem dJ0_coder_7d493_14 : decode cJ0_coder_7d493 14 = .ok (.ireturn, 1) := by decide +kernel
theorem dJ0_isLatin1_aae02_0 : decode cJ0_isLatin1_aae02 0 = .ok (.getstatic 38, 3) := by decide +kernel
theorem dJ0_isLatin1_aae02_3 : decode cJ0_isLatin1_aae02 3 = .ok (.ifCond .eq 14, 3) := by decide +kernel
theorem dJ0_isLatin1_aae02_6 : decode cJ0_isLatin1_aae02 6 = .ok (.aload_n 0, 1) := by decide +kernel
theorem dJ0_isLatin1_aae02_7 : decode cJ0_isLatin1_aae02 7 = .ok (.getfield 15, 3) := by decide +kernel
theorem dJ0_isLatin1_aae02_10 : decode cJ0_isLatin1_aae02 10 = .ok (.ifCond .ne 7, 3) := by decide +kernel
theorem dJ0_isLatin1_aae02_13 : decode cJ0_isLatin1_aae02 13 = .ok (.iconst 1, 1) := by decide +kernel
theorem dJ0_isLatin1_aae02_14 : decode cJ0_isLatin1_aae02 14 = .ok (.goto 4, 3) := by decide +kernel
theorem dJ0_isLatin1_aae02_17 : decode cJ0_isLatin1_aae02 17 = .ok (.iconst 0, 1) := by decide +kernel
theorem dJ0_isLatin1_aae02_18 : decode cJ0_isLatin1_aae02 18 = .ok (.ireturn, 1) := by decide +kernel
theorem dJ0_checkIndex_df160_0 : decode cJ0_checkIndex_df160 0 = .ok (.iload_n 0, 1) := by decide +kernel
theorem dJ0_checkIndex_df160_1 : decode cJ0_checkIndex_df160 1 = .ok (.iload_n 1, 1) := by decide +kernel
theorem dJ0_checkIndex_df160_2 : decode cJ0_checkIndex_df160 2 = .ok (.getstatic 1053, 3) := by decide +kernel
theorem dJ0_checkIndex_df160_5 : decode cJ0_checkIndex_df160 5 = .ok (.invokestatic 1059, 3) := by decide +kernel
theorem dJ0_checkIndex_df160_8 : decode cJ0_checkIndex_df160 8 = .ok (.pop, 1) := by decide +kernel
theorem dJ0_checkIndex_df160_9 : decode cJ0_checkIndex_df160 9 = .ok (.return_, 1) := by decide +kernel
theorem dJ1_charAt_3b067_0 : decode cJ1_charAt_3b067 0 = .ok (.iload_n 1, 1) := by decide +kernel
theorem dJ1_charAt_3b067_1 : decode cJ1_charAt_3b067 1 = .ok (.aload_n 0, 1) := by decide +kernel
theorem dJ1_charAt_3b067_2 : decode cJ1_charAt_3b067 2 = .ok (.arraylength, 1) := by decide +kernel
theorem dJ1_charAt_3b067_3 : decode cJ1_charAt_3b067 3 = .ok (.invokestatic 9, 3) := by decide +kernel
theorem dJ1_charAt_3b067_6 : decode cJ1_charAt_3b067 6 = .ok (.aload_n 0, 1) := by decide +kernel
theorem dJ1_charAt_3b067_7 : decode cJ1_charAt_3b067 7 = .ok (.iload_n 1, 1) := by decide +kernel
theorem dJ1_charAt_3b067_8 : decode cJ1_charAt_3b067 8 = .ok (.baload, 1) := by decide +kernel
theorem dJ1_charAt_3b067_9 : decode cJ1_charAt_3b067 9 = .ok (.sipush 255, 3) := by decide +kernel
theorem dJ1_charAt_3b067_12 : decode cJ1_charAt_3b067 12 = .ok (.iand, 1) := by decide +kernel
theorem dJ1_charAt_3b067_13 : decode cJ1_charAt_3b067 13 = .ok (.i2c, 1) := by decide +kernel
theorem dJ1_charAt_3b067_14 : decode cJ1_charAt_3b067 14 = .ok (.ireturn, 1) := by decide +kernel
theorem dJ2_getChar_3b067_0 : decode cJ2_getChar_3b067 0 = .ok (.getstatic 44, 3) := by decide +kernel
theorem dJ2_getChar_3b067_3 : decode cJ2_getChar_3b067 3 = .ok (.ifCond .ne 25, 3) := by decide +kernel
theorem dJ2_getChar_3b067_6 : decode cJ2_getChar_3b067 6 = .ok (.iload_n 1, 1) := by decide +kernel
theorem dJ2_getChar_3b067_7 : decode cJ2_getChar_3b067 7 = .ok (.ifCond .lt 11, 3) := by decide +kernel
theorem dJ2_getChar_3b067_10 : decode cJ2_getChar_3b067 10 = .ok (.iload_n 1, 1) := by decide +kernel
theorem dJ2_getChar_3b067_11 : decode cJ2_getChar_3b067 11 = .ok (.aload_n 0, 1) := by decide +kernel
theorem dJ2_getChar_3b067_12 : decode cJ2_getChar_3b067 12 = .ok (.invokestatic 48, 3) := by decide +kernel
theorem dJ2_getChar_3b067_15 : decode cJ2_getChar_3b067 15 = .ok (.if_icmp .lt 13, 3) := by decide +kernel
theorem dJ2_getChar_3b067_18 : decode cJ2_getChar_3b067 18 = .ok (.new 52, 3) := by decide +kernel
theorem dJ2_getChar_3b067_21 : decode cJ2_getChar_3b067 21 = .ok (.dup, 1) := by decide +kernel
theorem dJ2_getChar_3b067_22 : decode cJ2_getChar_3b067 22 = .ok (.ldc 54, 2) := by decide +kernel
theorem dJ2_getChar_3b067_24 : decode cJ2_getChar_3b067 24 = .ok (.invokespecial 56, 3) := by decide +kernel
theorem dJ2_getChar_3b067_27 : decode cJ2_getChar_3b067 27 = .ok (.athrow, 1) := by decide +kernel
theorem dJ2_getChar_3b067_28 : decode cJ2_getChar_3b067 28 = .ok (.iload_n 1, 1) := by decide +kernel
theorem dJ2_getChar_3b067_29 : decode cJ2_getChar_3b067 29 = .ok (.iconst 1, 1) := by decide +kernel
theorem dJ2_getChar_3b067_30 : decode cJ2_getChar_3b067 30 = .ok (.ishl, 1) := by decide +kernel
theorem dJ2_getChar_3b067_31 : decode cJ2_getChar_3b067 31 = .ok (.istore_n 1, 1) := by decide +kernel
theorem dJ2_getChar_3b067_32 : decode cJ2_getChar_3b067 32 = .ok (.aload_n 0, 1) := by decide +kernel
theorem dJ2_getChar_3b067_33 : decode cJ2_getChar_3b067 33 = .ok (.iload_n 1, 1) := by decide +kernel
theorem dJ2_getChar_3b067_34 : decode cJ2_getChar_3b067 34 = .ok (.iinc 1 1, 3) := by decide +kernel
theorem dJ2_getChar_3b067_37 : decode cJ2_getChar_3b067 37 = .ok (.baload, 1) := by decide +kernel
theorem dJ2_getChar_3b067_38 : decode cJ2_getChar_3b067 38 = .ok (.sipush 255, 3) := by decide +kernel
theorem dJ2_getChar_3b067_41 : decode cJ2_getChar_3b067 41 = .ok (.iand, 1) := by decide +kernel
theorem dJ2_getChar_3b067_42 : decode cJ2_getChar_3b067 42 = .ok (.getstatic 59, 3) := by decide +kernel
theorem dJ2_getChar_3b067_45 : decode cJ2_getChar_3b067 45 = .ok (.ishl, 1) := by decide +kernel
theorem dJ2_getChar_3b067_46 : decode cJ2_getChar_3b067 46 = .ok (.aload_n 0, 1) := by decide +kernel
theorem dJ2_getChar_3b067_47 : decode cJ2_getChar_3b067 47 = .ok (.iload_n 1, 1) := by decide +kernel
theorem dJ2_getChar_3b067_48 : decode cJ2_getChar_3b067 48 = .ok (.baload, 1) := by decide +kernel
theorem dJ2_getChar_3b067_49 : decode cJ2_getChar_3b067 49 = .ok (.sipush 255, 3) := by decide +kernel
theorem dJ2_getChar_3b067_52 : decode cJ2_getChar_3b067 52 = .ok (.iand, 1) := by decide +kernel
theorem dJ2_getChar_3b067_53 : decode cJ2_getChar_3b067 53 = .ok (.getstatic 63, 3) := by decide +kernel
theorem dJ2_getChar_3b067_56 : decode cJ2_getChar_3b067 56 = .ok (.ishl, 1) := by decide +kernel
theorem dJ2_getChar_3b067_57 : decode cJ2_getChar_3b067 57 = .ok (.ior, 1) := by decide +kernel
theorem dJ2_getChar_3b067_58 : decode cJ2_getChar_3b067 58 = .ok (.i2c, 1) := by decide +kernel
theorem dJ2_getChar_3b067_59 : decode cJ2_getChar_3b067 59 = .ok (.ireturn, 1) := by decide +kernel
theorem dJ2_length_9d52b_0 : decode cJ2_length_9d52b 0 = .ok (.aload_n 0, 1) := by decide +kernel
theorem dJ2_length_9d52b_1 : decode cJ2_length_9d52b 1 = .ok (.arraylength, 1) := by decide +kernel
theorem dJ2_length_9d52b_2 : decode cJ2_length_9d52b 2 = .ok (.iconst 1, 1) := by decide +kernel
theorem dJ2_length_9d52b_3 : decode cJ2_length_9d52b 3 = .ok (.ishr, 1) := by decide +kernel
theorem dJ2_length_9d52b_4 : decode cJ2_length_9d52b 4 = .ok (.ireturn, 1) := by decide +kernel
theorem dJ2_charAt_3b067_0 : decode cJ2_charAt_3b067 0 = .ok (.iload_n 1, 1) := by decide +kernel
theorem dJ2_charAt_3b067_1 : decode cJ2_charAt_3b067 1 = .ok (.aload_n 0, 1) := by decide +kernel
theorem dJ2_charAt_3b067_2 : decode cJ2_charAt_3b067 2 = .ok (.invokestatic 67, 3) := by decide +kernel
theorem dJ2_charAt_3b067_5 : decode cJ2_charAt_3b067 5 = .ok (.aload_n 0, 1) := by decide +kernel
theorem dJ2_charAt_3b067_6 : decode cJ2_charAt_3b067 6 = .ok (.iload_n 1, 1) := by decide +kernel
theorem dJ2_charAt_3b067_7 : decode cJ2_charAt_3b067 7 = .ok (.invokestatic 71, 3) := by decide +kernel
theorem dJ2_charAt_3b067_10 : decode cJ2_charAt_3b067 10 = .ok (.ireturn, 1) := by decide +kernel
theorem dJ2_checkIndex_2214a_0 : decode cJ2_checkIndex_2214a 0 = .ok (.iload_n 0, 1) := by decide +kernel
theorem dJ2_checkIndex_2214a_1 : decode cJ2_checkIndex_2214a 1 = .ok (.aload_n 1, 1) := by decide +kernel
theorem dJ2_checkIndex_2214a_2 : decode cJ2_checkIndex_2214a 2 = .ok (.invokestatic 48, 3) := by decide +kernel
theorem dJ2_checkIndex_2214a_5 : decode cJ2_checkIndex_2214a 5 = .ok (.invokestatic 414, 3) := by decide +kernel
theorem dJ2_checkIndex_2214a_8 : decode cJ2_checkIndex_2214a 8 = .ok (.return_, 1) := by decide +kernel
theorem dJ7_fill_d0a16_0 : decode cJ7_fill_d0a16 0 = .ok (.iconst 0, 1) := by decide +kernel
theorem dJ7_fill_d0a16_1 : decode cJ7_fill_d0a16 1 = .ok (.istore_n 3, 1) := by decide +kernel
theorem dJ7_fill_d0a16_2 : decode cJ7_fill_d0a16 2 = .ok (.aload_n 0, 1) := by decide +kernel
theorem dJ7_fill_d0a16_3 : decode cJ7_fill_d0a16 3 = .ok (.arraylength, 1) := by decide +kernel
theorem dJ7_fill_d0a16_4 : decode cJ7_fill_d0a16 4 = .ok (.istore 4, 2) := by decide +kernel
theorem dJ7_fill_d0a16_6 : decode cJ7_fill_d0a16 6 = .ok (.iload_n 3, 1) := by decide +kernel
theorem dJ7_fill_d0a16_7 : decode cJ7_fill_d0a16 7 = .ok (.iload 4, 2) := by decide +kernel
theorem dJ7_fill_d0a16_9 : decode cJ7_fill_d0a16 9 = .ok (.if_icmp .ge 13, 3) := by decide +kernel
theorem dJ7_fill_d0a16_12 : decode cJ7_fill_d0a16 12 = .ok (.aload_n 0, 1) := by decide +kernel
theorem dJ7_fill_d0a16_13 : decode cJ7_fill_d0a16 13 = .ok (.iload_n 3, 1) := by decide +kernel
theorem dJ7_fill_d0a16_14 : decode cJ7_fill_d0a16 14 = .ok (.lload_n 1, 1) := by decide +kernel
theorem dJ7_fill_d0a16_15 : decode cJ7_fill_d0a16 15 = .ok (.lastore, 1) := by decide +kernel
theorem dJ7_fill_d0a16_16 : decode cJ7_fill_d0a16 16 = .ok (.iinc 3 1, 3) := by decide +kernel
theorem dJ7_fill_d0a16_19 : decode cJ7_fill_d0a16 19 = .ok (.goto (-13), 3) := by decide +kernel
theorem dJ7_fill_d0a16_22 : decode cJ7_fill_d0a16 22 = .ok (.return_, 1) := by decide +kernel
theorem dJ7_fill_53178_0 : decode cJ7_fill_53178 0 = .ok (.iconst 0, 1) := by decide +kernel
theorem dJ7_fill_53178_1 : decode cJ7_fill_53178 1 = .ok (.istore_n 2, 1) := by decide +kernel
theorem dJ7_fill_53178_2 : decode cJ7_fill_53178 2 = .ok (.aload_n 0, 1) := by decide +kernel
theorem dJ7_fill_53178_3 : decode cJ7_fill_53178 3 = .ok (.arraylength, 1) := by decide +kernel
theorem dJ7_fill_53178_4 : decode cJ7_fill_53178 4 = .ok (.istore_n 3, 1) := by decide +kernel
theorem dJ7_fill_53178_5 : decode cJ7_fill_53178 5 = .ok (.iload_n 2, 1) := by decide +kernel
theorem dJ7_fill_53178_6 : decode cJ7_fill_53178 6 = .ok (.iload_n 3, 1) := by decide +kernel
theorem dJ7_fill_53178_7 : decode cJ7_fill_53178 7 = .ok (.if_icmp .ge 13, 3) := by decide +kernel
theorem dJ7_fill_53178_10 : decode cJ7_fill_53178 10 = .ok (.aload_n 0, 1) := by decide +kernel
theorem dJ7_fill_53178_11 : decode cJ7_fill_53178 11 = .ok (.iload_n 2, 1) := by decide +kernel
theorem dJ7_fill_53178_12 : decode cJ7_fill_53178 12 = .ok (.iload_n 1, 1) := by decide +kernel
theorem dJ7_fill_53178_13 : decode cJ7_fill_53178 13 = .ok (.iastore, 1) := by decide +kernel
theorem dJ7_fill_53178_14 : decode cJ7_fill_53178 14 = .ok (.iinc 2 1, 3) := by decide +kernel
theorem dJ7_fill_53178_17 : decode cJ7_fill_53178 17 = .ok (.goto (-12), 3) := by decide +kernel
theorem dJ7_fill_53178_20 : decode cJ7_fill_53178 20 = .ok (.return_, 1) := by decide +kernel
theorem dJ7_copyOf_c38d5_0 : decode cJ7_copyOf_c38d5 0 = .ok (.iload_n 1, 1) := by decide +kernel
theorem dJ7_copyOf_c38d5_1 : decode cJ7_copyOf_c38d5 1 = .ok (.aload_n 0, 1) := by decide +kernel
theorem dJ7_copyOf_c38d5_2 : decode cJ7_copyOf_c38d5 2 = .ok (.arraylength, 1) := by decide +kernel
theorem dJ7_copyOf_c38d5_3 : decode cJ7_copyOf_c38d5 3 = .ok (.if_icmp .ne 11, 3) := by decide +kernel
theorem dJ7_copyOf_c38d5_6 : decode cJ7_copyOf_c38d5 6 = .ok (.aload_n 0, 1) := by decide +kernel
theorem dJ7_copyOf_c38d5_7 : decode cJ7_copyOf_c38d5 7 = .ok (.invokevirtual 319, 3) := by decide +kernel
theorem dJ7_copyOf_c38d5_10 : decode cJ7_copyOf_c38d5 10 = .ok (.checkcast 320, 3) := by decide +kernel
theorem dJ7_copyOf_c38d5_13 : decode cJ7_copyOf_c38d5 13 = .ok (.areturn, 1) := by decide +kernel
theorem dJ7_copyOf_c38d5_14 : decode cJ7_copyOf_c38d5 14 = .ok (.iload_n 1, 1) := by decide +kernel
theorem dJ7_copyOf_c38d5_15 : decode cJ7_copyOf_c38d5 15 = .ok (.newarray .long, 2) := by decide +kernel
theorem dJ7_copyOf_c38d5_17 : decode cJ7_copyOf_c38d5 17 = .ok (.astore_n 2, 1) := by decide +kernel
theorem dJ7_copyOf_c38d5_18 : decode cJ7_copyOf_c38d5 18 = .ok (.aload_n 0, 1) := by decide +kernel
theorem dJ7_copyOf_c38d5_19 : decode cJ7_copyOf_c38d5 19 = .ok (.iconst 0, 1) := by decide +kernel
theorem dJ7_copyOf_c38d5_20 : decode cJ7_copyOf_c38d5 20 = .ok (.aload_n 2, 1) := by decide +kernel
theorem dJ7_copyOf_c38d5_21 : decode cJ7_copyOf_c38d5 21 = .ok (.iconst 0, 1) := by decide +kernel
theorem dJ7_copyOf_c38d5_22 : decode cJ7_copyOf_c38d5 22 = .ok (.aload_n 0, 1) := by decide +kernel
theorem dJ7_copyOf_c38d5_23 : decode cJ7_copyOf_c38d5 23 = .ok (.arraylength, 1) := by decide +kernel
theorem dJ7_copyOf_c38d5_24 : decode cJ7_copyOf_c38d5 24 = .ok (.iload_n 1, 1) := by decide +kernel
theorem dJ7_copyOf_c38d5_25 : decode cJ7_copyOf_c38d5 25 = .ok (.invokestatic 304, 3) := by decide +kernel
theorem dJ7_copyOf_c38d5_28 : decode cJ7_copyOf_c38d5 28 = .ok (.invokestatic 150, 3) := by decide +kernel
theorem dJ7_copyOf_c38d5_31 : decode cJ7_copyOf_c38d5 31 = .ok (.aload_n 2, 1) := by decide +kernel
theorem dJ7_copyOf_c38d5_32 : decode cJ7_copyOf_c38d5 32 = .ok (.areturn, 1) := by decide +kernel
theorem dJ3_checkIndex_8e157_0 : decode cJ3_checkIndex_8e157 0 = .ok (.iload_n 0, 1) := by decide +kernel
theorem dJ3_checkIndex_8e157_1 : decode cJ3_checkIndex_8e157 1 = .ok (.ifCond .lt 8, 3) := by decide +kernel
theorem dJ3_checkIndex_8e157_4 : decode cJ3_checkIndex_8e157 4 = .ok (.iload_n 0, 1) := by decide +kernel
theorem dJ3_checkIndex_8e157_5 : decode cJ3_checkIndex_8e157 5 = .ok (.iload_n 1, 1) := by decide +kernel
theorem dJ3_checkIndex_8e157_6 : decode cJ3_checkIndex_8e157 6 = .ok (.if_icmp .lt 10, 3) := by decide +kernel
theorem dJ3_checkIndex_8e157_9 : decode cJ3_checkIndex_8e157 9 = .ok (.aload_n 2, 1) := by decide +kernel
theorem dJ3_checkIndex_8e157_10 : decode cJ3_checkIndex_8e157 10 = .ok (.iload_n 0, 1) := by decide +kernel
theorem dJ3_checkIndex_8e157_11 : decode cJ3_checkIndex_8e157 11 = .ok (.iload_n 1, 1) := by decide +kernel
theorem dJ3_checkIndex_8e157_12 : decode cJ3_checkIndex_8e157 12 = .ok (.invokestatic 95, 3) := by decide +kernel
theorem dJ3_checkIndex_8e157_15 : decode cJ3_checkIndex_8e157 15 = .ok (.athrow, 1) := by decide +kernel
theorem dJ3_checkIndex_8e157_16 : decode cJ3_checkIndex_8e157 16 = .ok (.iload_n 0, 1) := by decide +kernel
theorem dJ3_checkIndex_8e157_17 : decode cJ3_checkIndex_8e157 17 = .ok (.ireturn, 1) := by decide +kernel
theorem dL_law_0 : decode cL_law 0 = .ok (.new 7, 3) := by decide +kernel
theorem dL_law_3 : decode cL_law 3 = .ok (.dup, 1) := by decide +kernel
theorem dL_law_4 : decode cL_law 4 = .ok (.invokespecial 9, 3) := by decide +kernel
theorem dL_law_7 : decode cL_law 7 = .ok (.astore_n 1, 1) := by decide +kernel
theorem dL_law_8 : decode cL_law 8 = .ok (.new 10, 3) := by decide +kernel
theorem dL_law_11 : decode cL_law 11 = .ok (.dup, 1) := by decide +kernel
theorem dL_law_12 : decode cL_law 12 = .ok (.invokespecial 12, 3) := by decide +kernel
theorem dL_law_15 : decode cL_law 15 = .ok (.astore_n 2, 1) := by decide +kernel
theorem dL_law_16 : decode cL_law 16 = .ok (.iconst 0, 1) := by decide +kernel
theorem dL_law_17 : decode cL_law 17 = .ok (.istore_n 3, 1) := by decide +kernel
theorem dL_law_18 : decode cL_law 18 = .ok (.iload_n 3, 1) := by decide +kernel
theorem dL_law_19 : decode cL_law 19 = .ok (.aload_n 0, 1) := by decide +kernel
theorem dL_law_20 : decode cL_law 20 = .ok (.arraylength, 1) := by decide +kernel
theorem dL_law_21 : decode cL_law 21 = .ok (.bipush 6, 2) := by decide +kernel
theorem dL_law_23 : decode cL_law 23 = .ok (.isub, 1) := by decide +kernel
theorem dL_law_24 : decode cL_law 24 = .ok (.if_icmp .gt 1858, 3) := by decide +kernel
theorem dL_law_27 : decode cL_law 27 = .ok (.aload_n 0, 1) := by decide +kernel
theorem dL_law_28 : decode cL_law 28 = .ok (.iload_n 3, 1) := by decide +kernel
theorem dL_law_29 : decode cL_law 29 = .ok (.iaload, 1) := by decide +kernel
theorem dL_law_30 : decode cL_law 30 = .ok (.bipush 63, 2) := by decide +kernel
theorem dL_law_32 : decode cL_law 32 = .ok (.iand, 1) := by decide +kernel
theorem dL_law_33 : decode cL_law 33 = .ok (.tableswitch 1843 0 46 #[203, 236, 289, 322, 345, 378, 421, 494, 557, 591, 624, 647, 680, 723, 756, 819, 842, 875, 908, 941, 990, 1013, 1046, 1069, 1092, 1125, 1168, 1181, 1204, 1237, 1280, 1303, 1372, 1435, 1468, 1501, 1524, 1547, 1570, 1593, 1652, 1675, 1708, 1741, 1764, 1787, 1820], 203) := by decide +kernel
theorem dL_law_236 : decode cL_law 236 = .ok (.aload_n 1, 1) := by decide +kernel
theorem dL_law_237 : decode cL_law 237 = .ok (.aload_n 0, 1) := by decide +kernel
theorem dL_law_238 : decode cL_law 238 = .ok (.iload_n 3, 1) := by decide +kernel
theorem dL_law_239 : decode cL_law 239 = .ok (.iconst 1, 1) := by decide +kernel
theorem dL_law_240 : decode cL_law 240 = .ok (.iadd, 1) := by decide +kernel
theorem dL_law_241 : decode cL_law 241 = .ok (.iaload, 1) := by decide +kernel
theorem dL_law_242 : decode cL_law 242 = .ok (.aload_n 0, 1) := by decide +kernel
theorem dL_law_243 : decode cL_law 243 = .ok (.iload_n 3, 1) := by decide +kernel
theorem dL_law_244 : decode cL_law 244 = .ok (.iconst 2, 1) := by decide +kernel
theorem dL_law_245 : decode cL_law 245 = .ok (.iadd, 1) := by decide +kernel
theorem dL_law_246 : decode cL_law 246 = .ok (.iaload, 1) := by decide +kernel
theorem dL_law_247 : decode cL_law 247 = .ok (.invokevirtual 13, 3) := by decide +kernel
theorem dL_law_250 : decode cL_law 250 = .ok (.aload_n 2, 1) := by decide +kernel
theorem dL_law_251 : decode cL_law 251 = .ok (.aload_n 0, 1) := by decide +kernel
theorem dL_law_252 : decode cL_law 252 = .ok (.iload_n 3, 1) := by decide +kernel
theorem dL_law_253 : decode cL_law 253 = .ok (.iconst 1, 1) := by decide +kernel
theorem dL_law_254 : decode cL_law 254 = .ok (.iadd, 1) := by decide +kernel
theorem dL_law_255 : decode cL_law 255 = .ok (.iaload, 1) := by decide +kernel
theorem dL_law_256 : decode cL_law 256 = .ok (.aload_n 0, 1) := by decide +kernel
theorem dL_law_257 : decode cL_law 257 = .ok (.iload_n 3, 1) := by decide +kernel
theorem dL_law_258 : decode cL_law 258 = .ok (.iconst 2, 1) := by decide +kernel
theorem dL_law_259 : decode cL_law 259 = .ok (.iadd, 1) := by decide +kernel
theorem dL_law_260 : decode cL_law 260 = .ok (.iaload, 1) := by decide +kernel
theorem dL_law_261 : decode cL_law 261 = .ok (.invokevirtual 17, 3) := by decide +kernel
theorem dL_law_264 : decode cL_law 264 = .ok (.if_icmp .eq 1612, 3) := by decide +kernel
theorem dL_law_267 : decode cL_law 267 = .ok (.iconst 0, 1) := by decide +kernel
theorem dL_law_268 : decode cL_law 268 = .ok (.ireturn, 1) := by decide +kernel
theorem dL_law_269 : decode cL_law 269 = .ok (.aload_n 1, 1) := by decide +kernel
theorem dL_law_270 : decode cL_law 270 = .ok (.aload_n 0, 1) := by decide +kernel
theorem dL_law_271 : decode cL_law 271 = .ok (.iload_n 3, 1) := by decide +kernel
theorem dL_law_272 : decode cL_law 272 = .ok (.iconst 1, 1) := by decide +kernel
theorem dL_law_273 : decode cL_law 273 = .ok (.iadd, 1) := by decide +kernel
theorem dL_law_274 : decode cL_law 274 = .ok (.iaload, 1) := by decide +kernel
theorem dL_law_275 : decode cL_law 275 = .ok (.aload_n 0, 1) := by decide +kernel
theorem dL_law_276 : decode cL_law 276 = .ok (.iload_n 3, 1) := by decide +kernel
theorem dL_law_277 : decode cL_law 277 = .ok (.iconst 2, 1) := by decide +kernel
theorem dL_law_278 : decode cL_law 278 = .ok (.iadd, 1) := by decide +kernel
theorem dL_law_279 : decode cL_law 279 = .ok (.iaload, 1) := by decide +kernel
theorem dL_law_280 : decode cL_law 280 = .ok (.aload_n 0, 1) := by decide +kernel
theorem dL_law_281 : decode cL_law 281 = .ok (.iload_n 3, 1) := by decide +kernel
theorem dL_law_282 : decode cL_law 282 = .ok (.iconst 3, 1) := by decide +kernel
theorem dL_law_283 : decode cL_law 283 = .ok (.iadd, 1) := by decide +kernel
theorem dL_law_284 : decode cL_law 284 = .ok (.iaload, 1) := by decide +kernel
theorem dL_law_285 : decode cL_law 285 = .ok (.aload_n 0, 1) := by decide +kernel
theorem dL_law_286 : decode cL_law 286 = .ok (.iload_n 3, 1) := by decide +kernel
theorem dL_law_287 : decode cL_law 287 = .ok (.iconst 4, 1) := by decide +kernel
theorem dL_law_288 : decode cL_law 288 = .ok (.iadd, 1) := by decide +kernel
theorem dL_law_289 : decode cL_law 289 = .ok (.iaload, 1) := by decide +kernel
theorem dL_law_290 : decode cL_law 290 = .ok (.invokevirtual 18, 3) := by decide +kernel
theorem dL_law_293 : decode cL_law 293 = .ok (.aload_n 2, 1) := by decide +kernel
theorem dL_law_294 : decode cL_law 294 = .ok (.aload_n 0, 1) := by decide +kernel
theorem dL_law_295 : decode cL_law 295 = .ok (.iload_n 3, 1) := by decide +kernel
theorem dL_law_296 : decode cL_law 296 = .ok (.iconst 1, 1) := by decide +kernel
theorem dL_law_297 : decode cL_law 297 = .ok (.iadd, 1) := by decide +kernel
theorem dL_law_298 : decode cL_law 298 = .ok (.iaload, 1) := by decide +kernel
theorem dL_law_299 : decode cL_law 299 = .ok (.aload_n 0, 1) := by decide +kernel
theorem dL_law_300 : decode cL_law 300 = .ok (.iload_n 3, 1) := by decide +kernel
theorem dL_law_301 : decode cL_law 301 = .ok (.iconst 2, 1) := by decide +kernel
theorem dL_law_302 : decode cL_law 302 = .ok (.iadd, 1) := by decide +kernel
theorem dL_law_303 : decode cL_law 303 = .ok (.iaload, 1) := by decide +kernel
theorem dL_law_304 : decode cL_law 304 = .ok (.aload_n 0, 1) := by decide +kernel
theorem dL_law_305 : decode cL_law 305 = .ok (.iload_n 3, 1) := by decide +kernel
theorem dL_law_306 : decode cL_law 306 = .ok (.iconst 3, 1) := by decide +kernel
theorem dL_law_307 : decode cL_law 307 = .ok (.iadd, 1) := by decide +kernel
theorem dL_law_308 : decode cL_law 308 = .ok (.iaload, 1) := by decide +kernel
theorem dL_law_309 : decode cL_law 309 = .ok (.aload_n 0, 1) := by decide +kernel
theorem dL_law_310 : decode cL_law 310 = .ok (.iload_n 3, 1) := by decide +kernel
theorem dL_law_311 : decode cL_law 311 = .ok (.iconst 4, 1) := by decide +kernel
theorem dL_law_312 : decode cL_law 312 = .ok (.iadd, 1) := by decide +kernel
theorem dL_law_313 : decode cL_law 313 = .ok (.iaload, 1) := by decide +kernel
theorem dL_law_314 : decode cL_law 314 = .ok (.invokevirtual 22, 3) := by decide +kernel
theorem dL_law_317 : decode cL_law 317 = .ok (.if_icmp .eq 1559, 3) := by decide +kernel
theorem dL_law_320 : decode cL_law 320 = .ok (.iconst 0, 1) := by decide +kernel
theorem dL_law_321 : decode cL_law 321 = .ok (.ireturn, 1) := by decide +kernel
theorem dL_law_322 : decode cL_law 322 = .ok (.aload_n 1, 1) := by decide +kernel
theorem dL_law_323 : decode cL_law 323 = .ok (.aload_n 0, 1) := by decide +kernel
theorem dL_law_324 : decode cL_law 324 = .ok (.iload_n 3, 1) := by decide +kernel
theorem dL_law_325 : decode cL_law 325 = .ok (.iconst 1, 1) := by decide +kernel
theorem dL_law_326 : decode cL_law 326 = .ok (.iadd, 1) := by decide +kernel
theorem dL_law_327 : decode cL_law 327 = .ok (.iaload, 1) := by decide +kernel
theorem dL_law_328 : decode cL_law 328 = .ok (.aload_n 0, 1) := by decide +kernel
theorem dL_law_329 : decode cL_law 329 = .ok (.iload_n 3, 1) := by decide +kernel
theorem dL_law_330 : decode cL_law 330 = .ok (.iconst 2, 1) := by decide +kernel
theorem dL_law_331 : decode cL_law 331 = .ok (.iadd, 1) := by decide +kernel
theorem dL_law_332 : decode cL_law 332 = .ok (.iaload, 1) := by decide +kernel
theorem dL_law_333 : decode cL_law 333 = .ok (.invokevirtual 23, 3) := by decide +kernel
theorem dL_law_336 : decode cL_law 336 = .ok (.aload_n 2, 1) := by decide +kernel
theorem dL_law_337 : decode cL_law 337 = .ok (.aload_n 0, 1) := by decide +kernel
theorem dL_law_338 : decode cL_law 338 = .ok (.iload_n 3, 1) := by decide +kernel
theorem dL_law_339 : decode cL_law 339 = .ok (.iconst 1, 1) := by decide +kernel
theorem dL_law_340 : decode cL_law 340 = .ok (.iadd, 1) := by decide +kernel
theorem dL_law_341 : decode cL_law 341 = .ok (.iaload, 1) := by decide +kernel
theorem dL_law_342 : decode cL_law 342 = .ok (.aload_n 0, 1) := by decide +kernel
theorem dL_law_343 : decode cL_law 343 = .ok (.iload_n 3, 1) := by decide +kernel
theorem dL_law_344 : decode cL_law 344 = .ok (.iconst 2, 1) := by decide +kernel
theorem dL_law_345 : decode cL_law 345 = .ok (.iadd, 1) := by decide +kernel
theorem dL_law_346 : decode cL_law 346 = .ok (.iaload, 1) := by decide +kernel
theorem dL_law_347 : decode cL_law 347 = .ok (.invokevirtual 26, 3) := by decide +kernel
theorem dL_law_350 : decode cL_law 350 = .ok (.if_icmp .eq 1526, 3) := by decide +kernel
theorem dL_law_353 : decode cL_law 353 = .ok (.iconst 0, 1) := by decide +kernel
theorem dL_law_354 : decode cL_law 354 = .ok (.ireturn, 1) := by decide +kernel
theorem dL_law_355 : decode cL_law 355 = .ok (.aload_n 1, 1) := by decide +kernel
theorem dL_law_356 : decode cL_law 356 = .ok (.aload_n 0, 1) := by decide +kernel
theorem dL_law_357 : decode cL_law 357 = .ok (.iload_n 3, 1) := by decide +kernel
theorem dL_law_358 : decode cL_law 358 = .ok (.iconst 1, 1) := by decide +kernel
theorem dL_law_359 : decode cL_law 359 = .ok (.iadd, 1) := by decide +kernel
theorem dL_law_360 : decode cL_law 360 = .ok (.iaload, 1) := by decide +kernel
theorem dL_law_361 : decode cL_law 361 = .ok (.invokevirtual 27, 3) := by decide +kernel
theorem dL_law_364 : decode cL_law 364 = .ok (.aload_n 2, 1) := by decide +kernel
theorem dL_law_365 : decode cL_law 365 = .ok (.aload_n 0, 1) := by decide +kernel
theorem dL_law_366 : decode cL_law 366 = .ok (.iload_n 3, 1) := by decide +kernel
theorem dL_law_367 : decode cL_law 367 = .ok (.iconst 1, 1) := by decide +kernel
theorem dL_law_368 : decode cL_law 368 = .ok (.iadd, 1) := by decide +kernel
theorem dL_law_369 : decode cL_law 369 = .ok (.iaload, 1) := by decide +kernel
theorem dL_law_370 : decode cL_law 370 = .ok (.invokevirtual 31, 3) := by decide +kernel
theorem dL_law_373 : decode cL_law 373 = .ok (.if_icmp .eq 1503, 3) := by decide +kernel
theorem dL_law_376 : decode cL_law 376 = .ok (.iconst 0, 1) := by decide +kernel
theorem dL_law_377 : decode cL_law 377 = .ok (.ireturn, 1) := by decide +kernel
theorem dL_law_378 : decode cL_law 378 = .ok (.aload_n 1, 1) := by decide +kernel
theorem dL_law_379 : decode cL_law 379 = .ok (.aload_n 0, 1) := by decide +kernel
theorem dL_law_380 : decode cL_law 380 = .ok (.iload_n 3, 1) := by decide +kernel
theorem dL_law_381 : decode cL_law 381 = .ok (.iconst 1, 1) := by decide +kernel
theorem dL_law_382 : decode cL_law 382 = .ok (.iadd, 1) := by decide +kernel
theorem dL_law_383 : decode cL_law 383 = .ok (.iaload, 1) := by decide +kernel
theorem dL_law_384 : decode cL_law 384 = .ok (.aload_n 0, 1) := by decide +kernel
theorem dL_law_385 : decode cL_law 385 = .ok (.iload_n 3, 1) := by decide +kernel
theorem dL_law_386 : decode cL_law 386 = .ok (.iconst 2, 1) := by decide +kernel
theorem dL_law_387 : decode cL_law 387 = .ok (.iadd, 1) := by decide +kernel
theorem dL_law_388 : decode cL_law 388 = .ok (.iaload, 1) := by decide +kernel
theorem dL_law_389 : decode cL_law 389 = .ok (.invokevirtual 32, 3) := by decide +kernel
theorem dL_law_392 : decode cL_law 392 = .ok (.aload_n 2, 1) := by decide +kernel
theorem dL_law_393 : decode cL_law 393 = .ok (.aload_n 0, 1) := by decide +kernel
theorem dL_law_394 : decode cL_law 394 = .ok (.iload_n 3, 1) := by decide +kernel
theorem dL_law_395 : decode cL_law 395 = .ok (.iconst 1, 1) := by decide +kernel
theorem dL_law_396 : decode cL_law 396 = .ok (.iadd, 1) := by decide +kernel
theorem dL_law_397 : decode cL_law 397 = .ok (.iaload, 1) := by decide +kernel
theorem dL_law_398 : decode cL_law 398 = .ok (.aload_n 0, 1) := by decide +kernel
theorem dL_law_399 : decode cL_law 399 = .ok (.iload_n 3, 1) := by decide +kernel
theorem dL_law_400 : decode cL_law 400 = .ok (.iconst 2, 1) := by decide +kernel
theorem dL_law_401 : decode cL_law 401 = .ok (.iadd, 1) := by decide +kernel
theorem dL_law_402 : decode cL_law 402 = .ok (.iaload, 1) := by decide +kernel
theorem dL_law_403 : decode cL_law 403 = .ok (.invokevirtual 35, 3) := by decide +kernel
theorem dL_law_406 : decode cL_law 406 = .ok (.if_icmp .eq 1470, 3) := by decide +kernel
theorem dL_law_409 : decode cL_law 409 = .ok (.iconst 0, 1) := by decide +kernel
theorem dL_law_410 : decode cL_law 410 = .ok (.ireturn, 1) := by decide +kernel
theorem dL_law_411 : decode cL_law 411 = .ok (.aload_n 1, 1) := by decide +kernel
theorem dL_law_412 : decode cL_law 412 = .ok (.aload_n 0, 1) := by decide +kernel
theorem dL_law_413 : decode cL_law 413 = .ok (.iload_n 3, 1) := by decide +kernel
theorem dL_law_414 : decode cL_law 414 = .ok (.iconst 1, 1) := by decide +kernel
theorem dL_law_415 : decode cL_law 415 = .ok (.iadd, 1) := by decide +kernel
theorem dL_law_416 : decode cL_law 416 = .ok (.iaload, 1) := by decide +kernel
theorem dL_law_417 : decode cL_law 417 = .ok (.aload_n 0, 1) := by decide +kernel
theorem dL_law_418 : decode cL_law 418 = .ok (.iload_n 3, 1) := by decide +kernel
theorem dL_law_419 : decode cL_law 419 = .ok (.iconst 2, 1) := by decide +kernel
theorem dL_law_420 : decode cL_law 420 = .ok (.iadd, 1) := by decide +kernel
theorem dL_law_421 : decode cL_law 421 = .ok (.iaload, 1) := by decide +kernel
theorem dL_law_422 : decode cL_law 422 = .ok (.aload_n 0, 1) := by decide +kernel
theorem dL_law_423 : decode cL_law 423 = .ok (.iload_n 3, 1) := by decide +kernel
theorem dL_law_424 : decode cL_law 424 = .ok (.iconst 3, 1) := by decide +kernel
theorem dL_law_425 : decode cL_law 425 = .ok (.iadd, 1) := by decide +kernel
theorem dL_law_426 : decode cL_law 426 = .ok (.iaload, 1) := by decide +kernel
theorem dL_law_427 : decode cL_law 427 = .ok (.invokevirtual 36, 3) := by decide +kernel
theorem dL_law_430 : decode cL_law 430 = .ok (.aload_n 2, 1) := by decide +kernel
theorem dL_law_431 : decode cL_law 431 = .ok (.aload_n 0, 1) := by decide +kernel
theorem dL_law_432 : decode cL_law 432 = .ok (.iload_n 3, 1) := by decide +kernel
theorem dL_law_433 : decode cL_law 433 = .ok (.iconst 1, 1) := by decide +kernel
theorem dL_law_434 : decode cL_law 434 = .ok (.iadd, 1) := by decide +kernel
theorem dL_law_435 : decode cL_law 435 = .ok (.iaload, 1) := by decide +kernel
theorem dL_law_436 : decode cL_law 436 = .ok (.aload_n 0, 1) := by decide +kernel
theorem dL_law_437 : decode cL_law 437 = .ok (.iload_n 3, 1) := by decide +kernel
theorem dL_law_438 : decode cL_law 438 = .ok (.iconst 2, 1) := by decide +kernel
theorem dL_law_439 : decode cL_law 439 = .ok (.iadd, 1) := by decide +kernel
theorem dL_law_440 : decode cL_law 440 = .ok (.iaload, 1) := by decide +kernel
theorem dL_law_441 : decode cL_law 441 = .ok (.aload_n 0, 1) := by decide +kernel
theorem dL_law_442 : decode cL_law 442 = .ok (.iload_n 3, 1) := by decide +kernel
theorem dL_law_443 : decode cL_law 443 = .ok (.iconst 3, 1) := by decide +kernel
theorem dL_law_444 : decode cL_law 444 = .ok (.iadd, 1) := by decide +kernel
theorem dL_law_445 : decode cL_law 445 = .ok (.iaload, 1) := by decide +kernel
theorem dL_law_446 : decode cL_law 446 = .ok (.invokevirtual 40, 3) := by decide +kernel
theorem dL_law_449 : decode cL_law 449 = .ok (.if_icmp .eq 1427, 3) := by decide +kernel
theorem dL_law_452 : decode cL_law 452 = .ok (.iconst 0, 1) := by decide +kernel
theorem dL_law_453 : decode cL_law 453 = .ok (.ireturn, 1) := by decide +kernel
theorem dL_law_454 : decode cL_law 454 = .ok (.aload_n 1, 1) := by decide +kernel
theorem dL_law_455 : decode cL_law 455 = .ok (.aload_n 0, 1) := by decide +kernel
theorem dL_law_456 : decode cL_law 456 = .ok (.iload_n 3, 1) := by decide +kernel
theorem dL_law_457 : decode cL_law 457 = .ok (.iconst 1, 1) := by decide +kernel
theorem dL_law_458 : decode cL_law 458 = .ok (.iadd, 1) := by decide +kernel
theorem dL_law_459 : decode cL_law 459 = .ok (.iaload, 1) := by decide +kernel
theorem dL_law_460 : decode cL_law 460 = .ok (.aload_n 0, 1) := by decide +kernel
theorem dL_law_461 : decode cL_law 461 = .ok (.iload_n 3, 1) := by decide +kernel
theorem dL_law_462 : decode cL_law 462 = .ok (.iconst 2, 1) := by decide +kernel
theorem dL_law_463 : decode cL_law 463 = .ok (.iadd, 1) := by decide +kernel
theorem dL_law_464 : decode cL_law 464 = .ok (.iaload, 1) := by decide +kernel
theorem dL_law_465 : decode cL_law 465 = .ok (.aload_n 0, 1) := by decide +kernel
theorem dL_law_466 : decode cL_law 466 = .ok (.iload_n 3, 1) := by decide +kernel
theorem dL_law_467 : decode cL_law 467 = .ok (.iconst 3, 1) := by decide +kernel
theorem dL_law_468 : decode cL_law 468 = .ok (.iadd, 1) := by decide +kernel
theorem dL_law_469 : decode cL_law 469 = .ok (.iaload, 1) := by decide +kernel
theorem dL_law_470 : decode cL_law 470 = .ok (.i2l, 1) := by decide +kernel
theorem dL_law_471 : decode cL_law 471 = .ok (.bipush 32, 2) := by decide +kernel
theorem dL_law_473 : decode cL_law 473 = .ok (.lshl, 1) := by decide +kernel
theorem dL_law_474 : decode cL_law 474 = .ok (.aload_n 0, 1) := by decide +kernel
theorem dL_law_475 : decode cL_law 475 = .ok (.iload_n 3, 1) := by decide +kernel
theorem dL_law_476 : decode cL_law 476 = .ok (.iconst 4, 1) := by decide +kernel
theorem dL_law_477 : decode cL_law 477 = .ok (.iadd, 1) := by decide +kernel
theorem dL_law_478 : decode cL_law 478 = .ok (.iaload, 1) := by decide +kernel
theorem dL_law_479 : decode cL_law 479 = .ok (.i2l, 1) := by decide +kernel
theorem dL_law_480 : decode cL_law 480 = .ok (.ldc2_w 41, 3) := by decide +kernel
theorem dL_law_483 : decode cL_law 483 = .ok (.land, 1) := by decide +kernel
theorem dL_law_484 : decode cL_law 484 = .ok (.lor, 1) := by decide +kernel
theorem dL_law_485 : decode cL_law 485 = .ok (.invokevirtual 43, 3) := by decide +kernel
theorem dL_law_488 : decode cL_law 488 = .ok (.aload_n 2, 1) := by decide +kernel
theorem dL_law_489 : decode cL_law 489 = .ok (.aload_n 0, 1) := by decide +kernel
theorem dL_law_490 : decode cL_law 490 = .ok (.iload_n 3, 1) := by decide +kernel
theorem dL_law_491 : decode cL_law 491 = .ok (.iconst 1, 1) := by decide +kernel
theorem dL_law_492 : decode cL_law 492 = .ok (.iadd, 1) := by decide +kernel
theorem dL_law_493 : decode cL_law 493 = .ok (.iaload, 1) := by decide +kernel
theorem dL_law_494 : decode cL_law 494 = .ok (.aload_n 0, 1) := by decide +kernel
theorem dL_law_495 : decode cL_law 495 = .ok (.iload_n 3, 1) := by decide +kernel
theorem dL_law_496 : decode cL_law 496 = .ok (.iconst 2, 1) := by decide +kernel
theorem dL_law_497 : decode cL_law 497 = .ok (.iadd, 1) := by decide +kernel
theorem dL_law_498 : decode cL_law 498 = .ok (.iaload, 1) := by decide +kernel
theorem dL_law_499 : decode cL_law 499 = .ok (.aload_n 0, 1) := by decide +kernel
theorem dL_law_500 : decode cL_law 500 = .ok (.iload_n 3, 1) := by decide +kernel
theorem dL_law_501 : decode cL_law 501 = .ok (.iconst 3, 1) := by decide +kernel
theorem dL_law_502 : decode cL_law 502 = .ok (.iadd, 1) := by decide +kernel
theorem dL_law_503 : decode cL_law 503 = .ok (.iaload, 1) := by decide +kernel
theorem dL_law_504 : decode cL_law 504 = .ok (.i2l, 1) := by decide +kernel
theorem dL_law_505 : decode cL_law 505 = .ok (.bipush 32, 2) := by decide +kernel
theorem dL_law_507 : decode cL_law 507 = .ok (.lshl, 1) := by decide +kernel
theorem dL_law_508 : decode cL_law 508 = .ok (.aload_n 0, 1) := by decide +kernel
theorem dL_law_509 : decode cL_law 509 = .ok (.iload_n 3, 1) := by decide +kernel
theorem dL_law_510 : decode cL_law 510 = .ok (.iconst 4, 1) := by decide +kernel
theorem dL_law_511 : decode cL_law 511 = .ok (.iadd, 1) := by decide +kernel
theorem dL_law_512 : decode cL_law 512 = .ok (.iaload, 1) := by decide +kernel
theorem dL_law_513 : decode cL_law 513 = .ok (.i2l, 1) := by decide +kernel
theorem dL_law_514 : decode cL_law 514 = .ok (.ldc2_w 41, 3) := by decide +kernel
theorem dL_law_517 : decode cL_law 517 = .ok (.land, 1) := by decide +kernel
theorem dL_law_518 : decode cL_law 518 = .ok (.lor, 1) := by decide +kernel
theorem dL_law_519 : decode cL_law 519 = .ok (.invokevirtual 47, 3) := by decide +kernel
theorem dL_law_522 : decode cL_law 522 = .ok (.if_icmp .eq 1354, 3) := by decide +kernel
theorem dL_law_525 : decode cL_law 525 = .ok (.iconst 0, 1) := by decide +kernel
theorem dL_law_526 : decode cL_law 526 = .ok (.ireturn, 1) := by decide +kernel
theorem dL_law_527 : decode cL_law 527 = .ok (.aload_n 1, 1) := by decide +kernel
theorem dL_law_528 : decode cL_law 528 = .ok (.aload_n 0, 1) := by decide +kernel
theorem dL_law_529 : decode cL_law 529 = .ok (.iload_n 3, 1) := by decide +kernel
theorem dL_law_530 : decode cL_law 530 = .ok (.iconst 1, 1) := by decide +kernel
theorem dL_law_531 : decode cL_law 531 = .ok (.iadd, 1) := by decide +kernel
theorem dL_law_532 : decode cL_law 532 = .ok (.iaload, 1) := by decide +kernel
theorem dL_law_533 : decode cL_law 533 = .ok (.aload_n 0, 1) := by decide +kernel
theorem dL_law_534 : decode cL_law 534 = .ok (.iload_n 3, 1) := by decide +kernel
theorem dL_law_535 : decode cL_law 535 = .ok (.iconst 2, 1) := by decide +kernel
theorem dL_law_536 : decode cL_law 536 = .ok (.iadd, 1) := by decide +kernel
theorem dL_law_537 : decode cL_law 537 = .ok (.iaload, 1) := by decide +kernel
theorem dL_law_538 : decode cL_law 538 = .ok (.aload_n 0, 1) := by decide +kernel
theorem dL_law_539 : decode cL_law 539 = .ok (.iload_n 3, 1) := by decide +kernel
theorem dL_law_540 : decode cL_law 540 = .ok (.iconst 3, 1) := by decide +kernel
theorem dL_law_541 : decode cL_law 541 = .ok (.iadd, 1) := by decide +kernel
theorem dL_law_542 : decode cL_law 542 = .ok (.iaload, 1) := by decide +kernel
theorem dL_law_543 : decode cL_law 543 = .ok (.aload_n 0, 1) := by decide +kernel
theorem dL_law_544 : decode cL_law 544 = .ok (.iload_n 3, 1) := by decide +kernel
theorem dL_law_545 : decode cL_law 545 = .ok (.iconst 4, 1) := by decide +kernel
theorem dL_law_546 : decode cL_law 546 = .ok (.iadd, 1) := by decide +kernel
theorem dL_law_547 : decode cL_law 547 = .ok (.iaload, 1) := by decide +kernel
theorem dL_law_548 : decode cL_law 548 = .ok (.aload_n 0, 1) := by decide +kernel
theorem dL_law_549 : decode cL_law 549 = .ok (.iload_n 3, 1) := by decide +kernel
theorem dL_law_550 : decode cL_law 550 = .ok (.iconst 5, 1) := by decide +kernel
theorem dL_law_551 : decode cL_law 551 = .ok (.iadd, 1) := by decide +kernel
theorem dL_law_552 : decode cL_law 552 = .ok (.iaload, 1) := by decide +kernel
theorem dL_law_553 : decode cL_law 553 = .ok (.invokevirtual 48, 3) := by decide +kernel
theorem dL_law_556 : decode cL_law 556 = .ok (.aload_n 2, 1) := by decide +kernel
theorem dL_law_557 : decode cL_law 557 = .ok (.aload_n 0, 1) := by decide +kernel
theorem dL_law_558 : decode cL_law 558 = .ok (.iload_n 3, 1) := by decide +kernel
theorem dL_law_559 : decode cL_law 559 = .ok (.iconst 1, 1) := by decide +kernel
theorem dL_law_560 : decode cL_law 560 = .ok (.iadd, 1) := by decide +kernel
theorem dL_law_561 : decode cL_law 561 = .ok (.iaload, 1) := by decide +kernel
theorem dL_law_562 : decode cL_law 562 = .ok (.aload_n 0, 1) := by decide +kernel
theorem dL_law_563 : decode cL_law 563 = .ok (.iload_n 3, 1) := by decide +kernel
theorem dL_law_564 : decode cL_law 564 = .ok (.iconst 2, 1) := by decide +kernel
theorem dL_law_565 : decode cL_law 565 = .ok (.iadd, 1) := by decide +kernel
theorem dL_law_566 : decode cL_law 566 = .ok (.iaload, 1) := by decide +kernel
theorem dL_law_567 : decode cL_law 567 = .ok (.aload_n 0, 1) := by decide +kernel
theorem dL_law_568 : decode cL_law 568 = .ok (.iload_n 3, 1) := by decide +kernel
theorem dL_law_569 : decode cL_law 569 = .ok (.iconst 3, 1) := by decide +kernel
theorem dL_law_570 : decode cL_law 570 = .ok (.iadd, 1) := by decide +kernel
theorem dL_law_571 : decode cL_law 571 = .ok (.iaload, 1) := by decide +kernel
theorem dL_law_572 : decode cL_law 572 = .ok (.aload_n 0, 1) := by decide +kernel
theorem dL_law_573 : decode cL_law 573 = .ok (.iload_n 3, 1) := by decide +kernel
theorem dL_law_574 : decode cL_law 574 = .ok (.iconst 4, 1) := by decide +kernel
theorem dL_law_575 : decode cL_law 575 = .ok (.iadd, 1) := by decide +kernel
theorem dL_law_576 : decode cL_law 576 = .ok (.iaload, 1) := by decide +kernel
theorem dL_law_577 : decode cL_law 577 = .ok (.aload_n 0, 1) := by decide +kernel
theorem dL_law_578 : decode cL_law 578 = .ok (.iload_n 3, 1) := by decide +kernel
theorem dL_law_579 : decode cL_law 579 = .ok (.iconst 5, 1) := by decide +kernel
theorem dL_law_580 : decode cL_law 580 = .ok (.iadd, 1) := by decide +kernel
theorem dL_law_581 : decode cL_law 581 = .ok (.iaload, 1) := by decide +kernel
theorem dL_law_582 : decode cL_law 582 = .ok (.invokevirtual 52, 3) := by decide +kernel
theorem dL_law_585 : decode cL_law 585 = .ok (.if_icmp .eq 1291, 3) := by decide +kernel
theorem dL_law_588 : decode cL_law 588 = .ok (.iconst 0, 1) := by decide +kernel
theorem dL_law_589 : decode cL_law 589 = .ok (.ireturn, 1) := by decide +kernel
theorem dL_law_590 : decode cL_law 590 = .ok (.aload_n 1, 1) := by decide +kernel
theorem dL_law_591 : decode cL_law 591 = .ok (.aload_n 0, 1) := by decide +kernel
theorem dL_law_592 : decode cL_law 592 = .ok (.iload_n 3, 1) := by decide +kernel
theorem dL_law_593 : decode cL_law 593 = .ok (.iconst 1, 1) := by decide +kernel
theorem dL_law_594 : decode cL_law 594 = .ok (.iadd, 1) := by decide +kernel
theorem dL_law_595 : decode cL_law 595 = .ok (.iaload, 1) := by decide +kernel
theorem dL_law_596 : decode cL_law 596 = .ok (.aload_n 0, 1) := by decide +kernel
theorem dL_law_597 : decode cL_law 597 = .ok (.iload_n 3, 1) := by decide +kernel
theorem dL_law_598 : decode cL_law 598 = .ok (.iconst 2, 1) := by decide +kernel
theorem dL_law_599 : decode cL_law 599 = .ok (.iadd, 1) := by decide +kernel
theorem dL_law_600 : decode cL_law 600 = .ok (.iaload, 1) := by decide +kernel
theorem dL_law_601 : decode cL_law 601 = .ok (.invokevirtual 53, 3) := by decide +kernel
theorem dL_law_604 : decode cL_law 604 = .ok (.aload_n 2, 1) := by decide +kernel
theorem dL_law_605 : decode cL_law 605 = .ok (.aload_n 0, 1) := by decide +kernel
theorem dL_law_606 : decode cL_law 606 = .ok (.iload_n 3, 1) := by decide +kernel
theorem dL_law_607 : decode cL_law 607 = .ok (.iconst 1, 1) := by decide +kernel
theorem dL_law_608 : decode cL_law 608 = .ok (.iadd, 1) := by decide +kernel
theorem dL_law_609 : decode cL_law 609 = .ok (.iaload, 1) := by decide +kernel
theorem dL_law_610 : decode cL_law 610 = .ok (.aload_n 0, 1) := by decide +kernel
theorem dL_law_611 : decode cL_law 611 = .ok (.iload_n 3, 1) := by decide +kernel
theorem dL_law_612 : decode cL_law 612 = .ok (.iconst 2, 1) := by decide +kernel
theorem dL_law_613 : decode cL_law 613 = .ok (.iadd, 1) := by decide +kernel
theorem dL_law_614 : decode cL_law 614 = .ok (.iaload, 1) := by decide +kernel
theorem dL_law_615 : decode cL_law 615 = .ok (.invokevirtual 57, 3) := by decide +kernel
theorem dL_law_618 : decode cL_law 618 = .ok (.lcmp, 1) := by decide +kernel
theorem dL_law_619 : decode cL_law 619 = .ok (.ifCond .eq 1257, 3) := by decide +kernel
theorem dL_law_622 : decode cL_law 622 = .ok (.iconst 0, 1) := by decide +kernel
theorem dL_law_623 : decode cL_law 623 = .ok (.ireturn, 1) := by decide +kernel
theorem dL_law_624 : decode cL_law 624 = .ok (.aload_n 1, 1) := by decide +kernel
theorem dL_law_625 : decode cL_law 625 = .ok (.aload_n 0, 1) := by decide +kernel
theorem dL_law_626 : decode cL_law 626 = .ok (.iload_n 3, 1) := by decide +kernel
theorem dL_law_627 : decode cL_law 627 = .ok (.iconst 1, 1) := by decide +kernel
theorem dL_law_628 : decode cL_law 628 = .ok (.iadd, 1) := by decide +kernel
theorem dL_law_629 : decode cL_law 629 = .ok (.iaload, 1) := by decide +kernel
theorem dL_law_630 : decode cL_law 630 = .ok (.aload_n 0, 1) := by decide +kernel
theorem dL_law_631 : decode cL_law 631 = .ok (.iload_n 3, 1) := by decide +kernel
theorem dL_law_632 : decode cL_law 632 = .ok (.iconst 2, 1) := by decide +kernel
theorem dL_law_633 : decode cL_law 633 = .ok (.iadd, 1) := by decide +kernel
theorem dL_law_634 : decode cL_law 634 = .ok (.iaload, 1) := by decide +kernel
theorem dL_law_635 : decode cL_law 635 = .ok (.invokevirtual 58, 3) := by decide +kernel
theorem dL_law_638 : decode cL_law 638 = .ok (.aload_n 2, 1) := by decide +kernel
theorem dL_law_639 : decode cL_law 639 = .ok (.aload_n 0, 1) := by decide +kernel
theorem dL_law_640 : decode cL_law 640 = .ok (.iload_n 3, 1) := by decide +kernel
theorem dL_law_641 : decode cL_law 641 = .ok (.iconst 1, 1) := by decide +kernel
theorem dL_law_642 : decode cL_law 642 = .ok (.iadd, 1) := by decide +kernel
theorem dL_law_643 : decode cL_law 643 = .ok (.iaload, 1) := by decide +kernel
theorem dL_law_644 : decode cL_law 644 = .ok (.aload_n 0, 1) := by decide +kernel
theorem dL_law_645 : decode cL_law 645 = .ok (.iload_n 3, 1) := by decide +kernel
theorem dL_law_646 : decode cL_law 646 = .ok (.iconst 2, 1) := by decide +kernel
theorem dL_law_647 : decode cL_law 647 = .ok (.iadd, 1) := by decide +kernel
theorem dL_law_648 : decode cL_law 648 = .ok (.iaload, 1) := by decide +kernel
theorem dL_law_649 : decode cL_law 649 = .ok (.invokevirtual 61, 3) := by decide +kernel
theorem dL_law_652 : decode cL_law 652 = .ok (.if_icmp .eq 1224, 3) := by decide +kernel
theorem dL_law_655 : decode cL_law 655 = .ok (.iconst 0, 1) := by decide +kernel
theorem dL_law_656 : decode cL_law 656 = .ok (.ireturn, 1) := by decide +kernel
theorem dL_law_657 : decode cL_law 657 = .ok (.aload_n 1, 1) := by decide +kernel
theorem dL_law_658 : decode cL_law 658 = .ok (.aload_n 0, 1) := by decide +kernel
theorem dL_law_659 : decode cL_law 659 = .ok (.iload_n 3, 1) := by decide +kernel
theorem dL_law_660 : decode cL_law 660 = .ok (.iconst 1, 1) := by decide +kernel
theorem dL_law_661 : decode cL_law 661 = .ok (.iadd, 1) := by decide +kernel
theorem dL_law_662 : decode cL_law 662 = .ok (.iaload, 1) := by decide +kernel
theorem dL_law_663 : decode cL_law 663 = .ok (.invokevirtual 62, 3) := by decide +kernel
theorem dL_law_666 : decode cL_law 666 = .ok (.aload_n 2, 1) := by decide +kernel
theorem dL_law_667 : decode cL_law 667 = .ok (.aload_n 0, 1) := by decide +kernel
theorem dL_law_668 : decode cL_law 668 = .ok (.iload_n 3, 1) := by decide +kernel
theorem dL_law_669 : decode cL_law 669 = .ok (.iconst 1, 1) := by decide +kernel
theorem dL_law_670 : decode cL_law 670 = .ok (.iadd, 1) := by decide +kernel
theorem dL_law_671 : decode cL_law 671 = .ok (.iaload, 1) := by decide +kernel
theorem dL_law_672 : decode cL_law 672 = .ok (.invokevirtual 65, 3) := by decide +kernel
theorem dL_law_675 : decode cL_law 675 = .ok (.if_icmp .eq 1201, 3) := by decide +kernel
theorem dL_law_678 : decode cL_law 678 = .ok (.iconst 0, 1) := by decide +kernel
theorem dL_law_679 : decode cL_law 679 = .ok (.ireturn, 1) := by decide +kernel
theorem dL_law_680 : decode cL_law 680 = .ok (.aload_n 1, 1) := by decide +kernel
theorem dL_law_681 : decode cL_law 681 = .ok (.aload_n 0, 1) := by decide +kernel
theorem dL_law_682 : decode cL_law 682 = .ok (.iload_n 3, 1) := by decide +kernel
theorem dL_law_683 : decode cL_law 683 = .ok (.iconst 1, 1) := by decide +kernel
theorem dL_law_684 : decode cL_law 684 = .ok (.iadd, 1) := by decide +kernel
theorem dL_law_685 : decode cL_law 685 = .ok (.iaload, 1) := by decide +kernel
theorem dL_law_686 : decode cL_law 686 = .ok (.aload_n 0, 1) := by decide +kernel
theorem dL_law_687 : decode cL_law 687 = .ok (.iload_n 3, 1) := by decide +kernel
theorem dL_law_688 : decode cL_law 688 = .ok (.iconst 2, 1) := by decide +kernel
theorem dL_law_689 : decode cL_law 689 = .ok (.iadd, 1) := by decide +kernel
theorem dL_law_690 : decode cL_law 690 = .ok (.iaload, 1) := by decide +kernel
theorem dL_law_691 : decode cL_law 691 = .ok (.invokevirtual 66, 3) := by decide +kernel
theorem dL_law_694 : decode cL_law 694 = .ok (.aload_n 2, 1) := by decide +kernel
theorem dL_law_695 : decode cL_law 695 = .ok (.aload_n 0, 1) := by decide +kernel
theorem dL_law_696 : decode cL_law 696 = .ok (.iload_n 3, 1) := by decide +kernel
theorem dL_law_697 : decode cL_law 697 = .ok (.iconst 1, 1) := by decide +kernel
theorem dL_law_698 : decode cL_law 698 = .ok (.iadd, 1) := by decide +kernel
theorem dL_law_699 : decode cL_law 699 = .ok (.iaload, 1) := by decide +kernel
theorem dL_law_700 : decode cL_law 700 = .ok (.aload_n 0, 1) := by decide +kernel
theorem dL_law_701 : decode cL_law 701 = .ok (.iload_n 3, 1) := by decide +kernel
theorem dL_law_702 : decode cL_law 702 = .ok (.iconst 2, 1) := by decide +kernel
theorem dL_law_703 : decode cL_law 703 = .ok (.iadd, 1) := by decide +kernel
theorem dL_law_704 : decode cL_law 704 = .ok (.iaload, 1) := by decide +kernel
theorem dL_law_705 : decode cL_law 705 = .ok (.invokevirtual 69, 3) := by decide +kernel
theorem dL_law_708 : decode cL_law 708 = .ok (.if_icmp .eq 1168, 3) := by decide +kernel
theorem dL_law_711 : decode cL_law 711 = .ok (.iconst 0, 1) := by decide +kernel
theorem dL_law_712 : decode cL_law 712 = .ok (.ireturn, 1) := by decide +kernel
theorem dL_law_713 : decode cL_law 713 = .ok (.aload_n 1, 1) := by decide +kernel
theorem dL_law_714 : decode cL_law 714 = .ok (.aload_n 0, 1) := by decide +kernel
theorem dL_law_715 : decode cL_law 715 = .ok (.iload_n 3, 1) := by decide +kernel
theorem dL_law_716 : decode cL_law 716 = .ok (.iconst 1, 1) := by decide +kernel
theorem dL_law_717 : decode cL_law 717 = .ok (.iadd, 1) := by decide +kernel
theorem dL_law_718 : decode cL_law 718 = .ok (.iaload, 1) := by decide +kernel
theorem dL_law_719 : decode cL_law 719 = .ok (.aload_n 0, 1) := by decide +kernel
theorem dL_law_720 : decode cL_law 720 = .ok (.iload_n 3, 1) := by decide +kernel
theorem dL_law_721 : decode cL_law 721 = .ok (.iconst 2, 1) := by decide +kernel
theorem dL_law_722 : decode cL_law 722 = .ok (.iadd, 1) := by decide +kernel
theorem dL_law_723 : decode cL_law 723 = .ok (.iaload, 1) := by decide +kernel
theorem dL_law_724 : decode cL_law 724 = .ok (.aload_n 0, 1) := by decide +kernel
theorem dL_law_725 : decode cL_law 725 = .ok (.iload_n 3, 1) := by decide +kernel
theorem dL_law_726 : decode cL_law 726 = .ok (.iconst 3, 1) := by decide +kernel
theorem dL_law_727 : decode cL_law 727 = .ok (.iadd, 1) := by decide +kernel
theorem dL_law_728 : decode cL_law 728 = .ok (.iaload, 1) := by decide +kernel
theorem dL_law_729 : decode cL_law 729 = .ok (.invokevirtual 70, 3) := by decide +kernel
theorem dL_law_732 : decode cL_law 732 = .ok (.aload_n 2, 1) := by decide +kernel
theorem dL_law_733 : decode cL_law 733 = .ok (.aload_n 0, 1) := by decide +kernel
theorem dL_law_734 : decode cL_law 734 = .ok (.iload_n 3, 1) := by decide +kernel
theorem dL_law_735 : decode cL_law 735 = .ok (.iconst 1, 1) := by decide +kernel
theorem dL_law_736 : decode cL_law 736 = .ok (.iadd, 1) := by decide +kernel
theorem dL_law_737 : decode cL_law 737 = .ok (.iaload, 1) := by decide +kernel
theorem dL_law_738 : decode cL_law 738 = .ok (.aload_n 0, 1) := by decide +kernel
theorem dL_law_739 : decode cL_law 739 = .ok (.iload_n 3, 1) := by decide +kernel
theorem dL_law_740 : decode cL_law 740 = .ok (.iconst 2, 1) := by decide +kernel
theorem dL_law_741 : decode cL_law 741 = .ok (.iadd, 1) := by decide +kernel
theorem dL_law_742 : decode cL_law 742 = .ok (.iaload, 1) := by decide +kernel
theorem dL_law_743 : decode cL_law 743 = .ok (.aload_n 0, 1) := by decide +kernel
theorem dL_law_744 : decode cL_law 744 = .ok (.iload_n 3, 1) := by decide +kernel
theorem dL_law_745 : decode cL_law 745 = .ok (.iconst 3, 1) := by decide +kernel
theorem dL_law_746 : decode cL_law 746 = .ok (.iadd, 1) := by decide +kernel
theorem dL_law_747 : decode cL_law 747 = .ok (.iaload, 1) := by decide +kernel
theorem dL_law_748 : decode cL_law 748 = .ok (.invokevirtual 73, 3) := by decide +kernel
theorem dL_law_751 : decode cL_law 751 = .ok (.if_icmp .eq 1125, 3) := by decide +kernel
theorem dL_law_754 : decode cL_law 754 = .ok (.iconst 0, 1) := by decide +kernel
theorem dL_law_755 : decode cL_law 755 = .ok (.ireturn, 1) := by decide +kernel
theorem dL_law_756 : decode cL_law 756 = .ok (.aload_n 1, 1) := by decide +kernel
theorem dL_law_757 : decode cL_law 757 = .ok (.aload_n 0, 1) := by decide +kernel
theorem dL_law_758 : decode cL_law 758 = .ok (.iload_n 3, 1) := by decide +kernel
theorem dL_law_759 : decode cL_law 759 = .ok (.iconst 1, 1) := by decide +kernel
theorem dL_law_760 : decode cL_law 760 = .ok (.iadd, 1) := by decide +kernel
theorem dL_law_761 : decode cL_law 761 = .ok (.iaload, 1) := by decide +kernel
theorem dL_law_762 : decode cL_law 762 = .ok (.aload_n 0, 1) := by decide +kernel
theorem dL_law_763 : decode cL_law 763 = .ok (.iload_n 3, 1) := by decide +kernel
theorem dL_law_764 : decode cL_law 764 = .ok (.iconst 2, 1) := by decide +kernel
theorem dL_law_765 : decode cL_law 765 = .ok (.iadd, 1) := by decide +kernel
theorem dL_law_766 : decode cL_law 766 = .ok (.iaload, 1) := by decide +kernel
theorem dL_law_767 : decode cL_law 767 = .ok (.invokevirtual 74, 3) := by decide +kernel
theorem dL_law_770 : decode cL_law 770 = .ok (.aload_n 2, 1) := by decide +kernel
theorem dL_law_771 : decode cL_law 771 = .ok (.aload_n 0, 1) := by decide +kernel
theorem dL_law_772 : decode cL_law 772 = .ok (.iload_n 3, 1) := by decide +kernel
theorem dL_law_773 : decode cL_law 773 = .ok (.iconst 1, 1) := by decide +kernel
theorem dL_law_774 : decode cL_law 774 = .ok (.iadd, 1) := by decide +kernel
theorem dL_law_775 : decode cL_law 775 = .ok (.iaload, 1) := by decide +kernel
theorem dL_law_776 : decode cL_law 776 = .ok (.aload_n 0, 1) := by decide +kernel
theorem dL_law_777 : decode cL_law 777 = .ok (.iload_n 3, 1) := by decide +kernel
theorem dL_law_778 : decode cL_law 778 = .ok (.iconst 2, 1) := by decide +kernel
theorem dL_law_779 : decode cL_law 779 = .ok (.iadd, 1) := by decide +kernel
theorem dL_law_780 : decode cL_law 780 = .ok (.iaload, 1) := by decide +kernel
theorem dL_law_781 : decode cL_law 781 = .ok (.invokevirtual 77, 3) := by decide +kernel
theorem dL_law_784 : decode cL_law 784 = .ok (.if_icmp .eq 1092, 3) := by decide +kernel
theorem dL_law_787 : decode cL_law 787 = .ok (.iconst 0, 1) := by decide +kernel
theorem dL_law_788 : decode cL_law 788 = .ok (.ireturn, 1) := by decide +kernel
theorem dL_law_789 : decode cL_law 789 = .ok (.aload_n 1, 1) := by decide +kernel
theorem dL_law_790 : decode cL_law 790 = .ok (.aload_n 0, 1) := by decide +kernel
theorem dL_law_791 : decode cL_law 791 = .ok (.iload_n 3, 1) := by decide +kernel
theorem dL_law_792 : decode cL_law 792 = .ok (.iconst 1, 1) := by decide +kernel
theorem dL_law_793 : decode cL_law 793 = .ok (.iadd, 1) := by decide +kernel
theorem dL_law_794 : decode cL_law 794 = .ok (.iaload, 1) := by decide +kernel
theorem dL_law_795 : decode cL_law 795 = .ok (.aload_n 0, 1) := by decide +kernel
theorem dL_law_796 : decode cL_law 796 = .ok (.iload_n 3, 1) := by decide +kernel
theorem dL_law_797 : decode cL_law 797 = .ok (.iconst 2, 1) := by decide +kernel
theorem dL_law_798 : decode cL_law 798 = .ok (.iadd, 1) := by decide +kernel
theorem dL_law_799 : decode cL_law 799 = .ok (.iaload, 1) := by decide +kernel
theorem dL_law_800 : decode cL_law 800 = .ok (.aload_n 0, 1) := by decide +kernel
theorem dL_law_801 : decode cL_law 801 = .ok (.iload_n 3, 1) := by decide +kernel
theorem dL_law_802 : decode cL_law 802 = .ok (.iconst 3, 1) := by decide +kernel
theorem dL_law_803 : decode cL_law 803 = .ok (.iadd, 1) := by decide +kernel
theorem dL_law_804 : decode cL_law 804 = .ok (.iaload, 1) := by decide +kernel
theorem dL_law_805 : decode cL_law 805 = .ok (.aload_n 0, 1) := by decide +kernel
theorem dL_law_806 : decode cL_law 806 = .ok (.iload_n 3, 1) := by decide +kernel
theorem dL_law_807 : decode cL_law 807 = .ok (.iconst 4, 1) := by decide +kernel
theorem dL_law_808 : decode cL_law 808 = .ok (.iadd, 1) := by decide +kernel
theorem dL_law_809 : decode cL_law 809 = .ok (.iaload, 1) := by decide +kernel
theorem dL_law_810 : decode cL_law 810 = .ok (.aload_n 0, 1) := by decide +kernel
theorem dL_law_811 : decode cL_law 811 = .ok (.iload_n 3, 1) := by decide +kernel
theorem dL_law_812 : decode cL_law 812 = .ok (.iconst 5, 1) := by decide +kernel
theorem dL_law_813 : decode cL_law 813 = .ok (.iadd, 1) := by decide +kernel
theorem dL_law_814 : decode cL_law 814 = .ok (.iaload, 1) := by decide +kernel
theorem dL_law_815 : decode cL_law 815 = .ok (.invokevirtual 78, 3) := by decide +kernel
theorem dL_law_818 : decode cL_law 818 = .ok (.aload_n 2, 1) := by decide +kernel
theorem dL_law_819 : decode cL_law 819 = .ok (.aload_n 0, 1) := by decide +kernel
theorem dL_law_820 : decode cL_law 820 = .ok (.iload_n 3, 1) := by decide +kernel
theorem dL_law_821 : decode cL_law 821 = .ok (.iconst 1, 1) := by decide +kernel
theorem dL_law_822 : decode cL_law 822 = .ok (.iadd, 1) := by decide +kernel
theorem dL_law_823 : decode cL_law 823 = .ok (.iaload, 1) := by decide +kernel
theorem dL_law_824 : decode cL_law 824 = .ok (.aload_n 0, 1) := by decide +kernel
theorem dL_law_825 : decode cL_law 825 = .ok (.iload_n 3, 1) := by decide +kernel
theorem dL_law_826 : decode cL_law 826 = .ok (.iconst 2, 1) := by decide +kernel
theorem dL_law_827 : decode cL_law 827 = .ok (.iadd, 1) := by decide +kernel
theorem dL_law_828 : decode cL_law 828 = .ok (.iaload, 1) := by decide +kernel
theorem dL_law_829 : decode cL_law 829 = .ok (.aload_n 0, 1) := by decide +kernel
theorem dL_law_830 : decode cL_law 830 = .ok (.iload_n 3, 1) := by decide +kernel
theorem dL_law_831 : decode cL_law 831 = .ok (.iconst 3, 1) := by decide +kernel
theorem dL_law_832 : decode cL_law 832 = .ok (.iadd, 1) := by decide +kernel
theorem dL_law_833 : decode cL_law 833 = .ok (.iaload, 1) := by decide +kernel
theorem dL_law_834 : decode cL_law 834 = .ok (.aload_n 0, 1) := by decide +kernel
theorem dL_law_835 : decode cL_law 835 = .ok (.iload_n 3, 1) := by decide +kernel
theorem dL_law_836 : decode cL_law 836 = .ok (.iconst 4, 1) := by decide +kernel
theorem dL_law_837 : decode cL_law 837 = .ok (.iadd, 1) := by decide +kernel
theorem dL_law_838 : decode cL_law 838 = .ok (.iaload, 1) := by decide +kernel
theorem dL_law_839 : decode cL_law 839 = .ok (.aload_n 0, 1) := by decide +kernel
theorem dL_law_840 : decode cL_law 840 = .ok (.iload_n 3, 1) := by decide +kernel
theorem dL_law_841 : decode cL_law 841 = .ok (.iconst 5, 1) := by decide +kernel
theorem dL_law_842 : decode cL_law 842 = .ok (.iadd, 1) := by decide +kernel
theorem dL_law_843 : decode cL_law 843 = .ok (.iaload, 1) := by decide +kernel
theorem dL_law_844 : decode cL_law 844 = .ok (.invokevirtual 81, 3) := by decide +kernel
theorem dL_law_847 : decode cL_law 847 = .ok (.if_icmp .eq 1029, 3) := by decide +kernel
theorem dL_law_850 : decode cL_law 850 = .ok (.iconst 0, 1) := by decide +kernel
theorem dL_law_851 : decode cL_law 851 = .ok (.ireturn, 1) := by decide +kernel
theorem dL_law_852 : decode cL_law 852 = .ok (.aload_n 1, 1) := by decide +kernel
theorem dL_law_853 : decode cL_law 853 = .ok (.aload_n 0, 1) := by decide +kernel
theorem dL_law_854 : decode cL_law 854 = .ok (.iload_n 3, 1) := by decide +kernel
theorem dL_law_855 : decode cL_law 855 = .ok (.iconst 1, 1) := by decide +kernel
theorem dL_law_856 : decode cL_law 856 = .ok (.iadd, 1) := by decide +kernel
theorem dL_law_857 : decode cL_law 857 = .ok (.iaload, 1) := by decide +kernel
theorem dL_law_858 : decode cL_law 858 = .ok (.invokevirtual 82, 3) := by decide +kernel
theorem dL_law_861 : decode cL_law 861 = .ok (.aload_n 2, 1) := by decide +kernel
theorem dL_law_862 : decode cL_law 862 = .ok (.aload_n 0, 1) := by decide +kernel
theorem dL_law_863 : decode cL_law 863 = .ok (.iload_n 3, 1) := by decide +kernel
theorem dL_law_864 : decode cL_law 864 = .ok (.iconst 1, 1) := by decide +kernel
theorem dL_law_865 : decode cL_law 865 = .ok (.iadd, 1) := by decide +kernel
theorem dL_law_866 : decode cL_law 866 = .ok (.iaload, 1) := by decide +kernel
theorem dL_law_867 : decode cL_law 867 = .ok (.invokevirtual 85, 3) := by decide +kernel
theorem dL_law_870 : decode cL_law 870 = .ok (.if_icmp .eq 1006, 3) := by decide +kernel
theorem dL_law_873 : decode cL_law 873 = .ok (.iconst 0, 1) := by decide +kernel
theorem dL_law_874 : decode cL_law 874 = .ok (.ireturn, 1) := by decide +kernel
theorem dL_law_875 : decode cL_law 875 = .ok (.aload_n 1, 1) := by decide +kernel
theorem dL_law_876 : decode cL_law 876 = .ok (.aload_n 0, 1) := by decide +kernel
theorem dL_law_877 : decode cL_law 877 = .ok (.iload_n 3, 1) := by decide +kernel
theorem dL_law_878 : decode cL_law 878 = .ok (.iconst 1, 1) := by decide +kernel
theorem dL_law_879 : decode cL_law 879 = .ok (.iadd, 1) := by decide +kernel
theorem dL_law_880 : decode cL_law 880 = .ok (.iaload, 1) := by decide +kernel
theorem dL_law_881 : decode cL_law 881 = .ok (.aload_n 0, 1) := by decide +kernel
theorem dL_law_882 : decode cL_law 882 = .ok (.iload_n 3, 1) := by decide +kernel
theorem dL_law_883 : decode cL_law 883 = .ok (.iconst 2, 1) := by decide +kernel
theorem dL_law_884 : decode cL_law 884 = .ok (.iadd, 1) := by decide +kernel
theorem dL_law_885 : decode cL_law 885 = .ok (.iaload, 1) := by decide +kernel
theorem dL_law_886 : decode cL_law 886 = .ok (.invokevirtual 86, 3) := by decide +kernel
theorem dL_law_889 : decode cL_law 889 = .ok (.aload_n 2, 1) := by decide +kernel
theorem dL_law_890 : decode cL_law 890 = .ok (.aload_n 0, 1) := by decide +kernel
theorem dL_law_891 : decode cL_law 891 = .ok (.iload_n 3, 1) := by decide +kernel
theorem dL_law_892 : decode cL_law 892 = .ok (.iconst 1, 1) := by decide +kernel
theorem dL_law_893 : decode cL_law 893 = .ok (.iadd, 1) := by decide +kernel
theorem dL_law_894 : decode cL_law 894 = .ok (.iaload, 1) := by decide +kernel
theorem dL_law_895 : decode cL_law 895 = .ok (.aload_n 0, 1) := by decide +kernel
theorem dL_law_896 : decode cL_law 896 = .ok (.iload_n 3, 1) := by decide +kernel
theorem dL_law_897 : decode cL_law 897 = .ok (.iconst 2, 1) := by decide +kernel
theorem dL_law_898 : decode cL_law 898 = .ok (.iadd, 1) := by decide +kernel
theorem dL_law_899 : decode cL_law 899 = .ok (.iaload, 1) := by decide +kernel
theorem dL_law_900 : decode cL_law 900 = .ok (.invokevirtual 89, 3) := by decide +kernel
theorem dL_law_903 : decode cL_law 903 = .ok (.if_icmp .eq 973, 3) := by decide +kernel
theorem dL_law_906 : decode cL_law 906 = .ok (.iconst 0, 1) := by decide +kernel
theorem dL_law_907 : decode cL_law 907 = .ok (.ireturn, 1) := by decide +kernel
theorem dL_law_908 : decode cL_law 908 = .ok (.aload_n 1, 1) := by decide +kernel
theorem dL_law_909 : decode cL_law 909 = .ok (.aload_n 0, 1) := by decide +kernel
theorem dL_law_910 : decode cL_law 910 = .ok (.iload_n 3, 1) := by decide +kernel
theorem dL_law_911 : decode cL_law 911 = .ok (.iconst 1, 1) := by decide +kernel
theorem dL_law_912 : decode cL_law 912 = .ok (.iadd, 1) := by decide +kernel
theorem dL_law_913 : decode cL_law 913 = .ok (.iaload, 1) := by decide +kernel
theorem dL_law_914 : decode cL_law 914 = .ok (.aload_n 0, 1) := by decide +kernel
theorem dL_law_915 : decode cL_law 915 = .ok (.iload_n 3, 1) := by decide +kernel
theorem dL_law_916 : decode cL_law 916 = .ok (.iconst 2, 1) := by decide +kernel
theorem dL_law_917 : decode cL_law 917 = .ok (.iadd, 1) := by decide +kernel
theorem dL_law_918 : decode cL_law 918 = .ok (.iaload, 1) := by decide +kernel
theorem dL_law_919 : decode cL_law 919 = .ok (.invokevirtual 90, 3) := by decide +kernel
theorem dL_law_922 : decode cL_law 922 = .ok (.aload_n 2, 1) := by decide +kernel
theorem dL_law_923 : decode cL_law 923 = .ok (.aload_n 0, 1) := by decide +kernel
theorem dL_law_924 : decode cL_law 924 = .ok (.iload_n 3, 1) := by decide +kernel
theorem dL_law_925 : decode cL_law 925 = .ok (.iconst 1, 1) := by decide +kernel
theorem dL_law_926 : decode cL_law 926 = .ok (.iadd, 1) := by decide +kernel
theorem dL_law_927 : decode cL_law 927 = .ok (.iaload, 1) := by decide +kernel
theorem dL_law_928 : decode cL_law 928 = .ok (.aload_n 0, 1) := by decide +kernel
theorem dL_law_929 : decode cL_law 929 = .ok (.iload_n 3, 1) := by decide +kernel
theorem dL_law_930 : decode cL_law 930 = .ok (.iconst 2, 1) := by decide +kernel
theorem dL_law_931 : decode cL_law 931 = .ok (.iadd, 1) := by decide +kernel
theorem dL_law_932 : decode cL_law 932 = .ok (.iaload, 1) := by decide +kernel
theorem dL_law_933 : decode cL_law 933 = .ok (.invokevirtual 93, 3) := by decide +kernel
theorem dL_law_936 : decode cL_law 936 = .ok (.if_icmp .eq 940, 3) := by decide +kernel
theorem dL_law_939 : decode cL_law 939 = .ok (.iconst 0, 1) := by decide +kernel
theorem dL_law_940 : decode cL_law 940 = .ok (.ireturn, 1) := by decide +kernel
theorem dL_law_941 : decode cL_law 941 = .ok (.aload_n 1, 1) := by decide +kernel
theorem dL_law_942 : decode cL_law 942 = .ok (.aload_n 0, 1) := by decide +kernel
theorem dL_law_943 : decode cL_law 943 = .ok (.iload_n 3, 1) := by decide +kernel
theorem dL_law_944 : decode cL_law 944 = .ok (.iconst 1, 1) := by decide +kernel
theorem dL_law_945 : decode cL_law 945 = .ok (.iadd, 1) := by decide +kernel
theorem dL_law_946 : decode cL_law 946 = .ok (.iaload, 1) := by decide +kernel
theorem dL_law_947 : decode cL_law 947 = .ok (.aload_n 0, 1) := by decide +kernel
theorem dL_law_948 : decode cL_law 948 = .ok (.iload_n 3, 1) := by decide +kernel
theorem dL_law_949 : decode cL_law 949 = .ok (.iconst 2, 1) := by decide +kernel
theorem dL_law_950 : decode cL_law 950 = .ok (.iadd, 1) := by decide +kernel
theorem dL_law_951 : decode cL_law 951 = .ok (.iaload, 1) := by decide +kernel
theorem dL_law_952 : decode cL_law 952 = .ok (.invokevirtual 94, 3) := by decide +kernel
theorem dL_law_955 : decode cL_law 955 = .ok (.aload_n 2, 1) := by decide +kernel
theorem dL_law_956 : decode cL_law 956 = .ok (.aload_n 0, 1) := by decide +kernel
theorem dL_law_957 : decode cL_law 957 = .ok (.iload_n 3, 1) := by decide +kernel
theorem dL_law_958 : decode cL_law 958 = .ok (.iconst 1, 1) := by decide +kernel
theorem dL_law_959 : decode cL_law 959 = .ok (.iadd, 1) := by decide +kernel
theorem dL_law_960 : decode cL_law 960 = .ok (.iaload, 1) := by decide +kernel
theorem dL_law_961 : decode cL_law 961 = .ok (.aload_n 0, 1) := by decide +kernel
theorem dL_law_962 : decode cL_law 962 = .ok (.iload_n 3, 1) := by decide +kernel
theorem dL_law_963 : decode cL_law 963 = .ok (.iconst 2, 1) := by decide +kernel
theorem dL_law_964 : decode cL_law 964 = .ok (.iadd, 1) := by decide +kernel
theorem dL_law_965 : decode cL_law 965 = .ok (.iaload, 1) := by decide +kernel
theorem dL_law_966 : decode cL_law 966 = .ok (.invokevirtual 97, 3) := by decide +kernel
theorem dL_law_969 : decode cL_law 969 = .ok (.if_icmp .eq 907, 3) := by decide +kernel
theorem dL_law_972 : decode cL_law 972 = .ok (.iconst 0, 1) := by decide +kernel
theorem dL_law_973 : decode cL_law 973 = .ok (.ireturn, 1) := by decide +kernel
theorem dL_law_974 : decode cL_law 974 = .ok (.aload_n 1, 1) := by decide +kernel
theorem dL_law_975 : decode cL_law 975 = .ok (.aload_n 0, 1) := by decide +kernel
theorem dL_law_976 : decode cL_law 976 = .ok (.iload_n 3, 1) := by decide +kernel
theorem dL_law_977 : decode cL_law 977 = .ok (.iconst 1, 1) := by decide +kernel
theorem dL_law_978 : decode cL_law 978 = .ok (.iadd, 1) := by decide +kernel
theorem dL_law_979 : decode cL_law 979 = .ok (.iaload, 1) := by decide +kernel
theorem dL_law_980 : decode cL_law 980 = .ok (.aload_n 0, 1) := by decide +kernel
theorem dL_law_981 : decode cL_law 981 = .ok (.iload_n 3, 1) := by decide +kernel
theorem dL_law_982 : decode cL_law 982 = .ok (.iconst 2, 1) := by decide +kernel
theorem dL_law_983 : decode cL_law 983 = .ok (.iadd, 1) := by decide +kernel
theorem dL_law_984 : decode cL_law 984 = .ok (.iaload, 1) := by decide +kernel
theorem dL_law_985 : decode cL_law 985 = .ok (.ifCond .eq 7, 3) := by decide +kernel
theorem dL_law_988 : decode cL_law 988 = .ok (.iconst 1, 1) := by decide +kernel
theorem dL_law_989 : decode cL_law 989 = .ok (.goto 4, 3) := by decide +kernel
theorem dL_law_992 : decode cL_law 992 = .ok (.iconst 0, 1) := by decide +kernel
theorem dL_law_993 : decode cL_law 993 = .ok (.invokevirtual 98, 3) := by decide +kernel
theorem dL_law_996 : decode cL_law 996 = .ok (.aload_n 2, 1) := by decide +kernel
theorem dL_law_997 : decode cL_law 997 = .ok (.aload_n 0, 1) := by decide +kernel
theorem dL_law_998 : decode cL_law 998 = .ok (.iload_n 3, 1) := by decide +kernel
theorem dL_law_999 : decode cL_law 999 = .ok (.iconst 1, 1) := by decide +kernel
theorem dL_law_1000 : decode cL_law 1000 = .ok (.iadd, 1) := by decide +kernel
theorem dL_law_1001 : decode cL_law 1001 = .ok (.iaload, 1) := by decide +kernel
theorem dL_law_1002 : decode cL_law 1002 = .ok (.aload_n 0, 1) := by decide +kernel
theorem dL_law_1003 : decode cL_law 1003 = .ok (.iload_n 3, 1) := by decide +kernel
theorem dL_law_1004 : decode cL_law 1004 = .ok (.iconst 2, 1) := by decide +kernel
theorem dL_law_1005 : decode cL_law 1005 = .ok (.iadd, 1) := by decide +kernel
theorem dL_law_1006 : decode cL_law 1006 = .ok (.iaload, 1) := by decide +kernel
theorem dL_law_1007 : decode cL_law 1007 = .ok (.ifCond .eq 7, 3) := by decide +kernel
theorem dL_law_1010 : decode cL_law 1010 = .ok (.iconst 1, 1) := by decide +kernel
theorem dL_law_1011 : decode cL_law 1011 = .ok (.goto 4, 3) := by decide +kernel
theorem dL_law_1014 : decode cL_law 1014 = .ok (.iconst 0, 1) := by decide +kernel
theorem dL_law_1015 : decode cL_law 1015 = .ok (.invokevirtual 102, 3) := by decide +kernel
theorem dL_law_1018 : decode cL_law 1018 = .ok (.if_icmp .eq 858, 3) := by decide +kernel
theorem dL_law_1021 : decode cL_law 1021 = .ok (.iconst 0, 1) := by decide +kernel
theorem dL_law_1022 : decode cL_law 1022 = .ok (.ireturn, 1) := by decide +kernel
theorem dL_law_1023 : decode cL_law 1023 = .ok (.aload_n 1, 1) := by decide +kernel
theorem dL_law_1024 : decode cL_law 1024 = .ok (.aload_n 0, 1) := by decide +kernel
theorem dL_law_1025 : decode cL_law 1025 = .ok (.iload_n 3, 1) := by decide +kernel
theorem dL_law_1026 : decode cL_law 1026 = .ok (.iconst 1, 1) := by decide +kernel
theorem dL_law_1027 : decode cL_law 1027 = .ok (.iadd, 1) := by decide +kernel
theorem dL_law_1028 : decode cL_law 1028 = .ok (.iaload, 1) := by decide +kernel
theorem dL_law_1029 : decode cL_law 1029 = .ok (.invokevirtual 103, 3) := by decide +kernel
theorem dL_law_1032 : decode cL_law 1032 = .ok (.aload_n 2, 1) := by decide +kernel
theorem dL_law_1033 : decode cL_law 1033 = .ok (.aload_n 0, 1) := by decide +kernel
theorem dL_law_1034 : decode cL_law 1034 = .ok (.iload_n 3, 1) := by decide +kernel
theorem dL_law_1035 : decode cL_law 1035 = .ok (.iconst 1, 1) := by decide +kernel
theorem dL_law_1036 : decode cL_law 1036 = .ok (.iadd, 1) := by decide +kernel
theorem dL_law_1037 : decode cL_law 1037 = .ok (.iaload, 1) := by decide +kernel
theorem dL_law_1038 : decode cL_law 1038 = .ok (.invokevirtual 106, 3) := by decide +kernel
theorem dL_law_1041 : decode cL_law 1041 = .ok (.if_icmp .eq 835, 3) := by decide +kernel
theorem dL_law_1044 : decode cL_law 1044 = .ok (.iconst 0, 1) := by decide +kernel
theorem dL_law_1045 : decode cL_law 1045 = .ok (.ireturn, 1) := by decide +kernel
theorem dL_law_1046 : decode cL_law 1046 = .ok (.aload_n 1, 1) := by decide +kernel
theorem dL_law_1047 : decode cL_law 1047 = .ok (.aload_n 0, 1) := by decide +kernel
theorem dL_law_1048 : decode cL_law 1048 = .ok (.iload_n 3, 1) := by decide +kernel
theorem dL_law_1049 : decode cL_law 1049 = .ok (.iconst 1, 1) := by decide +kernel
theorem dL_law_1050 : decode cL_law 1050 = .ok (.iadd, 1) := by decide +kernel
theorem dL_law_1051 : decode cL_law 1051 = .ok (.iaload, 1) := by decide +kernel
theorem dL_law_1052 : decode cL_law 1052 = .ok (.aload_n 0, 1) := by decide +kernel
theorem dL_law_1053 : decode cL_law 1053 = .ok (.iload_n 3, 1) := by decide +kernel
theorem dL_law_1054 : decode cL_law 1054 = .ok (.iconst 2, 1) := by decide +kernel
theorem dL_law_1055 : decode cL_law 1055 = .ok (.iadd, 1) := by decide +kernel
theorem dL_law_1056 : decode cL_law 1056 = .ok (.iaload, 1) := by decide +kernel
theorem dL_law_1057 : decode cL_law 1057 = .ok (.invokevirtual 107, 3) := by decide +kernel
theorem dL_law_1060 : decode cL_law 1060 = .ok (.aload_n 2, 1) := by decide +kernel
theorem dL_law_1061 : decode cL_law 1061 = .ok (.aload_n 0, 1) := by decide +kernel
theorem dL_law_1062 : decode cL_law 1062 = .ok (.iload_n 3, 1) := by decide +kernel
theorem dL_law_1063 : decode cL_law 1063 = .ok (.iconst 1, 1) := by decide +kernel
theorem dL_law_1064 : decode cL_law 1064 = .ok (.iadd, 1) := by decide +kernel
theorem dL_law_1065 : decode cL_law 1065 = .ok (.iaload, 1) := by decide +kernel
theorem dL_law_1066 : decode cL_law 1066 = .ok (.aload_n 0, 1) := by decide +kernel
theorem dL_law_1067 : decode cL_law 1067 = .ok (.iload_n 3, 1) := by decide +kernel
theorem dL_law_1068 : decode cL_law 1068 = .ok (.iconst 2, 1) := by decide +kernel
theorem dL_law_1069 : decode cL_law 1069 = .ok (.iadd, 1) := by decide +kernel
theorem dL_law_1070 : decode cL_law 1070 = .ok (.iaload, 1) := by decide +kernel
theorem dL_law_1071 : decode cL_law 1071 = .ok (.invokevirtual 110, 3) := by decide +kernel
theorem dL_law_1074 : decode cL_law 1074 = .ok (.if_icmp .eq 802, 3) := by decide +kernel
theorem dL_law_1077 : decode cL_law 1077 = .ok (.iconst 0, 1) := by decide +kernel
theorem dL_law_1078 : decode cL_law 1078 = .ok (.ireturn, 1) := by decide +kernel
theorem dL_law_1079 : decode cL_law 1079 = .ok (.aload_n 1, 1) := by decide +kernel
theorem dL_law_1080 : decode cL_law 1080 = .ok (.aload_n 0, 1) := by decide +kernel
theorem dL_law_1081 : decode cL_law 1081 = .ok (.iload_n 3, 1) := by decide +kernel
theorem dL_law_1082 : decode cL_law 1082 = .ok (.iconst 1, 1) := by decide +kernel
theorem dL_law_1083 : decode cL_law 1083 = .ok (.iadd, 1) := by decide +kernel
theorem dL_law_1084 : decode cL_law 1084 = .ok (.iaload, 1) := by decide +kernel
theorem dL_law_1085 : decode cL_law 1085 = .ok (.invokevirtual 111, 3) := by decide +kernel
theorem dL_law_1088 : decode cL_law 1088 = .ok (.aload_n 2, 1) := by decide +kernel
theorem dL_law_1089 : decode cL_law 1089 = .ok (.aload_n 0, 1) := by decide +kernel
theorem dL_law_1090 : decode cL_law 1090 = .ok (.iload_n 3, 1) := by decide +kernel
theorem dL_law_1091 : decode cL_law 1091 = .ok (.iconst 1, 1) := by decide +kernel
theorem dL_law_1092 : decode cL_law 1092 = .ok (.iadd, 1) := by decide +kernel
theorem dL_law_1093 : decode cL_law 1093 = .ok (.iaload, 1) := by decide +kernel
theorem dL_law_1094 : decode cL_law 1094 = .ok (.invokevirtual 114, 3) := by decide +kernel
theorem dL_law_1097 : decode cL_law 1097 = .ok (.if_icmp .eq 779, 3) := by decide +kernel
theorem dL_law_1100 : decode cL_law 1100 = .ok (.iconst 0, 1) := by decide +kernel
theorem dL_law_1101 : decode cL_law 1101 = .ok (.ireturn, 1) := by decide +kernel
theorem dL_law_1102 : decode cL_law 1102 = .ok (.aload_n 1, 1) := by decide +kernel
theorem dL_law_1103 : decode cL_law 1103 = .ok (.aload_n 0, 1) := by decide +kernel
theorem dL_law_1104 : decode cL_law 1104 = .ok (.iload_n 3, 1) := by decide +kernel
theorem dL_law_1105 : decode cL_law 1105 = .ok (.iconst 1, 1) := by decide +kernel
theorem dL_law_1106 : decode cL_law 1106 = .ok (.iadd, 1) := by decide +kernel
theorem dL_law_1107 : decode cL_law 1107 = .ok (.iaload, 1) := by decide +kernel
theorem dL_law_1108 : decode cL_law 1108 = .ok (.invokevirtual 115, 3) := by decide +kernel
theorem dL_law_1111 : decode cL_law 1111 = .ok (.aload_n 2, 1) := by decide +kernel
theorem dL_law_1112 : decode cL_law 1112 = .ok (.aload_n 0, 1) := by decide +kernel
theorem dL_law_1113 : decode cL_law 1113 = .ok (.iload_n 3, 1) := by decide +kernel
theorem dL_law_1114 : decode cL_law 1114 = .ok (.iconst 1, 1) := by decide +kernel
theorem dL_law_1115 : decode cL_law 1115 = .ok (.iadd, 1) := by decide +kernel
theorem dL_law_1116 : decode cL_law 1116 = .ok (.iaload, 1) := by decide +kernel
theorem dL_law_1117 : decode cL_law 1117 = .ok (.invokevirtual 118, 3) := by decide +kernel
theorem dL_law_1120 : decode cL_law 1120 = .ok (.if_icmp .eq 756, 3) := by decide +kernel
theorem dL_law_1123 : decode cL_law 1123 = .ok (.iconst 0, 1) := by decide +kernel
theorem dL_law_1124 : decode cL_law 1124 = .ok (.ireturn, 1) := by decide +kernel
theorem dL_law_1125 : decode cL_law 1125 = .ok (.aload_n 1, 1) := by decide +kernel
theorem dL_law_1126 : decode cL_law 1126 = .ok (.aload_n 0, 1) := by decide +kernel
theorem dL_law_1127 : decode cL_law 1127 = .ok (.iload_n 3, 1) := by decide +kernel
theorem dL_law_1128 : decode cL_law 1128 = .ok (.iconst 1, 1) := by decide +kernel
theorem dL_law_1129 : decode cL_law 1129 = .ok (.iadd, 1) := by decide +kernel
theorem dL_law_1130 : decode cL_law 1130 = .ok (.iaload, 1) := by decide +kernel
theorem dL_law_1131 : decode cL_law 1131 = .ok (.aload_n 0, 1) := by decide +kernel
theorem dL_law_1132 : decode cL_law 1132 = .ok (.iload_n 3, 1) := by decide +kernel
theorem dL_law_1133 : decode cL_law 1133 = .ok (.iconst 2, 1) := by decide +kernel
theorem dL_law_1134 : decode cL_law 1134 = .ok (.iadd, 1) := by decide +kernel
theorem dL_law_1135 : decode cL_law 1135 = .ok (.iaload, 1) := by decide +kernel
theorem dL_law_1136 : decode cL_law 1136 = .ok (.invokevirtual 119, 3) := by decide +kernel
theorem dL_law_1139 : decode cL_law 1139 = .ok (.aload_n 2, 1) := by decide +kernel
theorem dL_law_1140 : decode cL_law 1140 = .ok (.aload_n 0, 1) := by decide +kernel
theorem dL_law_1141 : decode cL_law 1141 = .ok (.iload_n 3, 1) := by decide +kernel
theorem dL_law_1142 : decode cL_law 1142 = .ok (.iconst 1, 1) := by decide +kernel
theorem dL_law_1143 : decode cL_law 1143 = .ok (.iadd, 1) := by decide +kernel
theorem dL_law_1144 : decode cL_law 1144 = .ok (.iaload, 1) := by decide +kernel
theorem dL_law_1145 : decode cL_law 1145 = .ok (.aload_n 0, 1) := by decide +kernel
theorem dL_law_1146 : decode cL_law 1146 = .ok (.iload_n 3, 1) := by decide +kernel
theorem dL_law_1147 : decode cL_law 1147 = .ok (.iconst 2, 1) := by decide +kernel
theorem dL_law_1148 : decode cL_law 1148 = .ok (.iadd, 1) := by decide +kernel
theorem dL_law_1149 : decode cL_law 1149 = .ok (.iaload, 1) := by decide +kernel
theorem dL_law_1150 : decode cL_law 1150 = .ok (.invokevirtual 122, 3) := by decide +kernel
theorem dL_law_1153 : decode cL_law 1153 = .ok (.if_icmp .eq 723, 3) := by decide +kernel
theorem dL_law_1156 : decode cL_law 1156 = .ok (.iconst 0, 1) := by decide +kernel
theorem dL_law_1157 : decode cL_law 1157 = .ok (.ireturn, 1) := by decide +kernel
theorem dL_law_1158 : decode cL_law 1158 = .ok (.aload_n 1, 1) := by decide +kernel
theorem dL_law_1159 : decode cL_law 1159 = .ok (.aload_n 0, 1) := by decide +kernel
theorem dL_law_1160 : decode cL_law 1160 = .ok (.iload_n 3, 1) := by decide +kernel
theorem dL_law_1161 : decode cL_law 1161 = .ok (.iconst 1, 1) := by decide +kernel
theorem dL_law_1162 : decode cL_law 1162 = .ok (.iadd, 1) := by decide +kernel
theorem dL_law_1163 : decode cL_law 1163 = .ok (.iaload, 1) := by decide +kernel
theorem dL_law_1164 : decode cL_law 1164 = .ok (.aload_n 0, 1) := by decide +kernel
theorem dL_law_1165 : decode cL_law 1165 = .ok (.iload_n 3, 1) := by decide +kernel
theorem dL_law_1166 : decode cL_law 1166 = .ok (.iconst 2, 1) := by decide +kernel
theorem dL_law_1167 : decode cL_law 1167 = .ok (.iadd, 1) := by decide +kernel
theorem dL_law_1168 : decode cL_law 1168 = .ok (.iaload, 1) := by decide +kernel
theorem dL_law_1169 : decode cL_law 1169 = .ok (.aload_n 0, 1) := by decide +kernel
theorem dL_law_1170 : decode cL_law 1170 = .ok (.iload_n 3, 1) := by decide +kernel
theorem dL_law_1171 : decode cL_law 1171 = .ok (.iconst 3, 1) := by decide +kernel
theorem dL_law_1172 : decode cL_law 1172 = .ok (.iadd, 1) := by decide +kernel
theorem dL_law_1173 : decode cL_law 1173 = .ok (.iaload, 1) := by decide +kernel
theorem dL_law_1174 : decode cL_law 1174 = .ok (.invokevirtual 123, 3) := by decide +kernel
theorem dL_law_1177 : decode cL_law 1177 = .ok (.aload_n 2, 1) := by decide +kernel
theorem dL_law_1178 : decode cL_law 1178 = .ok (.aload_n 0, 1) := by decide +kernel
theorem dL_law_1179 : decode cL_law 1179 = .ok (.iload_n 3, 1) := by decide +kernel
theorem dL_law_1180 : decode cL_law 1180 = .ok (.iconst 1, 1) := by decide +kernel
theorem dL_law_1181 : decode cL_law 1181 = .ok (.iadd, 1) := by decide +kernel
theorem dL_law_1182 : decode cL_law 1182 = .ok (.iaload, 1) := by decide +kernel
theorem dL_law_1183 : decode cL_law 1183 = .ok (.aload_n 0, 1) := by decide +kernel
theorem dL_law_1184 : decode cL_law 1184 = .ok (.iload_n 3, 1) := by decide +kernel
theorem dL_law_1185 : decode cL_law 1185 = .ok (.iconst 2, 1) := by decide +kernel
theorem dL_law_1186 : decode cL_law 1186 = .ok (.iadd, 1) := by decide +kernel
theorem dL_law_1187 : decode cL_law 1187 = .ok (.iaload, 1) := by decide +kernel
theorem dL_law_1188 : decode cL_law 1188 = .ok (.aload_n 0, 1) := by decide +kernel
theorem dL_law_1189 : decode cL_law 1189 = .ok (.iload_n 3, 1) := by decide +kernel
theorem dL_law_1190 : decode cL_law 1190 = .ok (.iconst 3, 1) := by decide +kernel
theorem dL_law_1191 : decode cL_law 1191 = .ok (.iadd, 1) := by decide +kernel
theorem dL_law_1192 : decode cL_law 1192 = .ok (.iaload, 1) := by decide +kernel
theorem dL_law_1193 : decode cL_law 1193 = .ok (.invokevirtual 126, 3) := by decide +kernel
theorem dL_law_1196 : decode cL_law 1196 = .ok (.if_icmp .eq 680, 3) := by decide +kernel
theorem dL_law_1199 : decode cL_law 1199 = .ok (.iconst 0, 1) := by decide +kernel
theorem dL_law_1200 : decode cL_law 1200 = .ok (.ireturn, 1) := by decide +kernel
theorem dL_law_1201 : decode cL_law 1201 = .ok (.aload_n 1, 1) := by decide +kernel
theorem dL_law_1202 : decode cL_law 1202 = .ok (.invokevirtual 127, 3) := by decide +kernel
theorem dL_law_1205 : decode cL_law 1205 = .ok (.aload_n 2, 1) := by decide +kernel
theorem dL_law_1206 : decode cL_law 1206 = .ok (.invokevirtual 131, 3) := by decide +kernel
theorem dL_law_1209 : decode cL_law 1209 = .ok (.if_icmp .eq 667, 3) := by decide +kernel
theorem dL_law_1212 : decode cL_law 1212 = .ok (.iconst 0, 1) := by decide +kernel
theorem dL_law_1213 : decode cL_law 1213 = .ok (.ireturn, 1) := by decide +kernel
theorem dL_law_1214 : decode cL_law 1214 = .ok (.aload_n 1, 1) := by decide +kernel
theorem dL_law_1215 : decode cL_law 1215 = .ok (.aload_n 0, 1) := by decide +kernel
theorem dL_law_1216 : decode cL_law 1216 = .ok (.iload_n 3, 1) := by decide +kernel
theorem dL_law_1217 : decode cL_law 1217 = .ok (.iconst 1, 1) := by decide +kernel
theorem dL_law_1218 : decode cL_law 1218 = .ok (.iadd, 1) := by decide +kernel
theorem dL_law_1219 : decode cL_law 1219 = .ok (.iaload, 1) := by decide +kernel
theorem dL_law_1220 : decode cL_law 1220 = .ok (.invokevirtual 132, 3) := by decide +kernel
theorem dL_law_1223 : decode cL_law 1223 = .ok (.aload_n 2, 1) := by decide +kernel
theorem dL_law_1224 : decode cL_law 1224 = .ok (.aload_n 0, 1) := by decide +kernel
theorem dL_law_1225 : decode cL_law 1225 = .ok (.iload_n 3, 1) := by decide +kernel
theorem dL_law_1226 : decode cL_law 1226 = .ok (.iconst 1, 1) := by decide +kernel
theorem dL_law_1227 : decode cL_law 1227 = .ok (.iadd, 1) := by decide +kernel
theorem dL_law_1228 : decode cL_law 1228 = .ok (.iaload, 1) := by decide +kernel
theorem dL_law_1229 : decode cL_law 1229 = .ok (.invokevirtual 135, 3) := by decide +kernel
theorem dL_law_1232 : decode cL_law 1232 = .ok (.if_icmp .eq 644, 3) := by decide +kernel
theorem dL_law_1235 : decode cL_law 1235 = .ok (.iconst 0, 1) := by decide +kernel
theorem dL_law_1236 : decode cL_law 1236 = .ok (.ireturn, 1) := by decide +kernel
theorem dL_law_1237 : decode cL_law 1237 = .ok (.aload_n 1, 1) := by decide +kernel
theorem dL_law_1238 : decode cL_law 1238 = .ok (.aload_n 0, 1) := by decide +kernel
theorem dL_law_1239 : decode cL_law 1239 = .ok (.iload_n 3, 1) := by decide +kernel
theorem dL_law_1240 : decode cL_law 1240 = .ok (.iconst 1, 1) := by decide +kernel
theorem dL_law_1241 : decode cL_law 1241 = .ok (.iadd, 1) := by decide +kernel
theorem dL_law_1242 : decode cL_law 1242 = .ok (.iaload, 1) := by decide +kernel
theorem dL_law_1243 : decode cL_law 1243 = .ok (.aload_n 0, 1) := by decide +kernel
theorem dL_law_1244 : decode cL_law 1244 = .ok (.iload_n 3, 1) := by decide +kernel
theorem dL_law_1245 : decode cL_law 1245 = .ok (.iconst 2, 1) := by decide +kernel
theorem dL_law_1246 : decode cL_law 1246 = .ok (.iadd, 1) := by decide +kernel
theorem dL_law_1247 : decode cL_law 1247 = .ok (.iaload, 1) := by decide +kernel
theorem dL_law_1248 : decode cL_law 1248 = .ok (.invokevirtual 136, 3) := by decide +kernel
theorem dL_law_1251 : decode cL_law 1251 = .ok (.aload_n 2, 1) := by decide +kernel
theorem dL_law_1252 : decode cL_law 1252 = .ok (.aload_n 0, 1) := by decide +kernel
theorem dL_law_1253 : decode cL_law 1253 = .ok (.iload_n 3, 1) := by decide +kernel
theorem dL_law_1254 : decode cL_law 1254 = .ok (.iconst 1, 1) := by decide +kernel
theorem dL_law_1255 : decode cL_law 1255 = .ok (.iadd, 1) := by decide +kernel
theorem dL_law_1256 : decode cL_law 1256 = .ok (.iaload, 1) := by decide +kernel
theorem dL_law_1257 : decode cL_law 1257 = .ok (.aload_n 0, 1) := by decide +kernel
theorem dL_law_1258 : decode cL_law 1258 = .ok (.iload_n 3, 1) := by decide +kernel
theorem dL_law_1259 : decode cL_law 1259 = .ok (.iconst 2, 1) := by decide +kernel
theorem dL_law_1260 : decode cL_law 1260 = .ok (.iadd, 1) := by decide +kernel
theorem dL_law_1261 : decode cL_law 1261 = .ok (.iaload, 1) := by decide +kernel
theorem dL_law_1262 : decode cL_law 1262 = .ok (.invokevirtual 139, 3) := by decide +kernel
theorem dL_law_1265 : decode cL_law 1265 = .ok (.if_icmp .eq 611, 3) := by decide +kernel
theorem dL_law_1268 : decode cL_law 1268 = .ok (.iconst 0, 1) := by decide +kernel
theorem dL_law_1269 : decode cL_law 1269 = .ok (.ireturn, 1) := by decide +kernel
theorem dL_law_1270 : decode cL_law 1270 = .ok (.aload_n 1, 1) := by decide +kernel
theorem dL_law_1271 : decode cL_law 1271 = .ok (.aload_n 0, 1) := by decide +kernel
theorem dL_law_1272 : decode cL_law 1272 = .ok (.iload_n 3, 1) := by decide +kernel
theorem dL_law_1273 : decode cL_law 1273 = .ok (.iconst 1, 1) := by decide +kernel
theorem dL_law_1274 : decode cL_law 1274 = .ok (.iadd, 1) := by decide +kernel
theorem dL_law_1275 : decode cL_law 1275 = .ok (.iaload, 1) := by decide +kernel
theorem dL_law_1276 : decode cL_law 1276 = .ok (.aload_n 0, 1) := by decide +kernel
theorem dL_law_1277 : decode cL_law 1277 = .ok (.iload_n 3, 1) := by decide +kernel
theorem dL_law_1278 : decode cL_law 1278 = .ok (.iconst 2, 1) := by decide +kernel
theorem dL_law_1279 : decode cL_law 1279 = .ok (.iadd, 1) := by decide +kernel
theorem dL_law_1280 : decode cL_law 1280 = .ok (.iaload, 1) := by decide +kernel
theorem dL_law_1281 : decode cL_law 1281 = .ok (.aload_n 0, 1) := by decide +kernel
theorem dL_law_1282 : decode cL_law 1282 = .ok (.iload_n 3, 1) := by decide +kernel
theorem dL_law_1283 : decode cL_law 1283 = .ok (.iconst 3, 1) := by decide +kernel
theorem dL_law_1284 : decode cL_law 1284 = .ok (.iadd, 1) := by decide +kernel
theorem dL_law_1285 : decode cL_law 1285 = .ok (.iaload, 1) := by decide +kernel
theorem dL_law_1286 : decode cL_law 1286 = .ok (.invokevirtual 140, 3) := by decide +kernel
theorem dL_law_1289 : decode cL_law 1289 = .ok (.aload_n 2, 1) := by decide +kernel
theorem dL_law_1290 : decode cL_law 1290 = .ok (.aload_n 0, 1) := by decide +kernel
theorem dL_law_1291 : decode cL_law 1291 = .ok (.iload_n 3, 1) := by decide +kernel
theorem dL_law_1292 : decode cL_law 1292 = .ok (.iconst 1, 1) := by decide +kernel
theorem dL_law_1293 : decode cL_law 1293 = .ok (.iadd, 1) := by decide +kernel
theorem dL_law_1294 : decode cL_law 1294 = .ok (.iaload, 1) := by decide +kernel
theorem dL_law_1295 : decode cL_law 1295 = .ok (.aload_n 0, 1) := by decide +kernel
theorem dL_law_1296 : decode cL_law 1296 = .ok (.iload_n 3, 1) := by decide +kernel
theorem dL_law_1297 : decode cL_law 1297 = .ok (.iconst 2, 1) := by decide +kernel
theorem dL_law_1298 : decode cL_law 1298 = .ok (.iadd, 1) := by decide +kernel
theorem dL_law_1299 : decode cL_law 1299 = .ok (.iaload, 1) := by decide +kernel
theorem dL_law_1300 : decode cL_law 1300 = .ok (.aload_n 0, 1) := by decide +kernel
theorem dL_law_1301 : decode cL_law 1301 = .ok (.iload_n 3, 1) := by decide +kernel
theorem dL_law_1302 : decode cL_law 1302 = .ok (.iconst 3, 1) := by decide +kernel
theorem dL_law_1303 : decode cL_law 1303 = .ok (.iadd, 1) := by decide +kernel
theorem dL_law_1304 : decode cL_law 1304 = .ok (.iaload, 1) := by decide +kernel
theorem dL_law_1305 : decode cL_law 1305 = .ok (.invokevirtual 143, 3) := by decide +kernel
theorem dL_law_1308 : decode cL_law 1308 = .ok (.if_icmp .eq 568, 3) := by decide +kernel
theorem dL_law_1311 : decode cL_law 1311 = .ok (.iconst 0, 1) := by decide +kernel
theorem dL_law_1312 : decode cL_law 1312 = .ok (.ireturn, 1) := by decide +kernel
theorem dL_law_1313 : decode cL_law 1313 = .ok (.aload_n 1, 1) := by decide +kernel
theorem dL_law_1314 : decode cL_law 1314 = .ok (.aload_n 0, 1) := by decide +kernel
theorem dL_law_1315 : decode cL_law 1315 = .ok (.iload_n 3, 1) := by decide +kernel
theorem dL_law_1316 : decode cL_law 1316 = .ok (.iconst 1, 1) := by decide +kernel
theorem dL_law_1317 : decode cL_law 1317 = .ok (.iadd, 1) := by decide +kernel
theorem dL_law_1318 : decode cL_law 1318 = .ok (.iaload, 1) := by decide +kernel
theorem dL_law_1319 : decode cL_law 1319 = .ok (.invokevirtual 144, 3) := by decide +kernel
theorem dL_law_1322 : decode cL_law 1322 = .ok (.aload_n 2, 1) := by decide +kernel
theorem dL_law_1323 : decode cL_law 1323 = .ok (.aload_n 0, 1) := by decide +kernel
theorem dL_law_1324 : decode cL_law 1324 = .ok (.iload_n 3, 1) := by decide +kernel
theorem dL_law_1325 : decode cL_law 1325 = .ok (.iconst 1, 1) := by decide +kernel
theorem dL_law_1326 : decode cL_law 1326 = .ok (.iadd, 1) := by decide +kernel
theorem dL_law_1327 : decode cL_law 1327 = .ok (.iaload, 1) := by decide +kernel
theorem dL_law_1328 : decode cL_law 1328 = .ok (.invokevirtual 147, 3) := by decide +kernel
theorem dL_law_1331 : decode cL_law 1331 = .ok (.if_icmp .eq 545, 3) := by decide +kernel
theorem dL_law_1334 : decode cL_law 1334 = .ok (.iconst 0, 1) := by decide +kernel
theorem dL_law_1335 : decode cL_law 1335 = .ok (.ireturn, 1) := by decide +kernel
theorem dL_law_1336 : decode cL_law 1336 = .ok (.aload_n 1, 1) := by decide +kernel
theorem dL_law_1337 : decode cL_law 1337 = .ok (.aload_n 0, 1) := by decide +kernel
theorem dL_law_1338 : decode cL_law 1338 = .ok (.iload_n 3, 1) := by decide +kernel
theorem dL_law_1339 : decode cL_law 1339 = .ok (.iconst 1, 1) := by decide +kernel
theorem dL_law_1340 : decode cL_law 1340 = .ok (.iadd, 1) := by decide +kernel
theorem dL_law_1341 : decode cL_law 1341 = .ok (.iaload, 1) := by decide +kernel
theorem dL_law_1342 : decode cL_law 1342 = .ok (.aload_n 0, 1) := by decide +kernel
theorem dL_law_1343 : decode cL_law 1343 = .ok (.iload_n 3, 1) := by decide +kernel
theorem dL_law_1344 : decode cL_law 1344 = .ok (.iconst 2, 1) := by decide +kernel
theorem dL_law_1345 : decode cL_law 1345 = .ok (.iadd, 1) := by decide +kernel
theorem dL_law_1346 : decode cL_law 1346 = .ok (.iaload, 1) := by decide +kernel
theorem dL_law_1347 : decode cL_law 1347 = .ok (.aload_n 0, 1) := by decide +kernel
theorem dL_law_1348 : decode cL_law 1348 = .ok (.iload_n 3, 1) := by decide +kernel
theorem dL_law_1349 : decode cL_law 1349 = .ok (.iconst 3, 1) := by decide +kernel
theorem dL_law_1350 : decode cL_law 1350 = .ok (.iadd, 1) := by decide +kernel
theorem dL_law_1351 : decode cL_law 1351 = .ok (.iaload, 1) := by decide +kernel
theorem dL_law_1352 : decode cL_law 1352 = .ok (.aload_n 0, 1) := by decide +kernel
theorem dL_law_1353 : decode cL_law 1353 = .ok (.iload_n 3, 1) := by decide +kernel
theorem dL_law_1354 : decode cL_law 1354 = .ok (.iconst 4, 1) := by decide +kernel
theorem dL_law_1355 : decode cL_law 1355 = .ok (.iadd, 1) := by decide +kernel
theorem dL_law_1356 : decode cL_law 1356 = .ok (.iaload, 1) := by decide +kernel
theorem dL_law_1357 : decode cL_law 1357 = .ok (.ifCond .eq 7, 3) := by decide +kernel
theorem dL_law_1360 : decode cL_law 1360 = .ok (.iconst 1, 1) := by decide +kernel
theorem dL_law_1361 : decode cL_law 1361 = .ok (.goto 4, 3) := by decide +kernel
theorem dL_law_1364 : decode cL_law 1364 = .ok (.iconst 0, 1) := by decide +kernel
theorem dL_law_1365 : decode cL_law 1365 = .ok (.invokevirtual 148, 3) := by decide +kernel
theorem dL_law_1368 : decode cL_law 1368 = .ok (.aload_n 2, 1) := by decide +kernel
theorem dL_law_1369 : decode cL_law 1369 = .ok (.aload_n 0, 1) := by decide +kernel
theorem dL_law_1370 : decode cL_law 1370 = .ok (.iload_n 3, 1) := by decide +kernel
theorem dL_law_1371 : decode cL_law 1371 = .ok (.iconst 1, 1) := by decide +kernel
theorem dL_law_1372 : decode cL_law 1372 = .ok (.iadd, 1) := by decide +kernel
theorem dL_law_1373 : decode cL_law 1373 = .ok (.iaload, 1) := by decide +kernel
theorem dL_law_1374 : decode cL_law 1374 = .ok (.aload_n 0, 1) := by decide +kernel
theorem dL_law_1375 : decode cL_law 1375 = .ok (.iload_n 3, 1) := by decide +kernel
theorem dL_law_1376 : decode cL_law 1376 = .ok (.iconst 2, 1) := by decide +kernel
theorem dL_law_1377 : decode cL_law 1377 = .ok (.iadd, 1) := by decide +kernel
theorem dL_law_1378 : decode cL_law 1378 = .ok (.iaload, 1) := by decide +kernel
theorem dL_law_1379 : decode cL_law 1379 = .ok (.aload_n 0, 1) := by decide +kernel
theorem dL_law_1380 : decode cL_law 1380 = .ok (.iload_n 3, 1) := by decide +kernel
theorem dL_law_1381 : decode cL_law 1381 = .ok (.iconst 3, 1) := by decide +kernel
theorem dL_law_1382 : decode cL_law 1382 = .ok (.iadd, 1) := by decide +kernel
theorem dL_law_1383 : decode cL_law 1383 = .ok (.iaload, 1) := by decide +kernel
theorem dL_law_1384 : decode cL_law 1384 = .ok (.aload_n 0, 1) := by decide +kernel
theorem dL_law_1385 : decode cL_law 1385 = .ok (.iload_n 3, 1) := by decide +kernel
theorem dL_law_1386 : decode cL_law 1386 = .ok (.iconst 4, 1) := by decide +kernel
theorem dL_law_1387 : decode cL_law 1387 = .ok (.iadd, 1) := by decide +kernel
theorem dL_law_1388 : decode cL_law 1388 = .ok (.iaload, 1) := by decide +kernel
theorem dL_law_1389 : decode cL_law 1389 = .ok (.ifCond .eq 7, 3) := by decide +kernel
theorem dL_law_1392 : decode cL_law 1392 = .ok (.iconst 1, 1) := by decide +kernel
theorem dL_law_1393 : decode cL_law 1393 = .ok (.goto 4, 3) := by decide +kernel
theorem dL_law_1396 : decode cL_law 1396 = .ok (.iconst 0, 1) := by decide +kernel
theorem dL_law_1397 : decode cL_law 1397 = .ok (.invokevirtual 152, 3) := by decide +kernel
theorem dL_law_1400 : decode cL_law 1400 = .ok (.if_icmp .eq 476, 3) := by decide +kernel
theorem dL_law_1403 : decode cL_law 1403 = .ok (.iconst 0, 1) := by decide +kernel
theorem dL_law_1404 : decode cL_law 1404 = .ok (.ireturn, 1) := by decide +kernel
theorem dL_law_1405 : decode cL_law 1405 = .ok (.aload_n 1, 1) := by decide +kernel
theorem dL_law_1406 : decode cL_law 1406 = .ok (.aload_n 0, 1) := by decide +kernel
theorem dL_law_1407 : decode cL_law 1407 = .ok (.iload_n 3, 1) := by decide +kernel
theorem dL_law_1408 : decode cL_law 1408 = .ok (.iconst 1, 1) := by decide +kernel
theorem dL_law_1409 : decode cL_law 1409 = .ok (.iadd, 1) := by decide +kernel
theorem dL_law_1410 : decode cL_law 1410 = .ok (.iaload, 1) := by decide +kernel
theorem dL_law_1411 : decode cL_law 1411 = .ok (.aload_n 0, 1) := by decide +kernel
theorem dL_law_1412 : decode cL_law 1412 = .ok (.iload_n 3, 1) := by decide +kernel
theorem dL_law_1413 : decode cL_law 1413 = .ok (.iconst 2, 1) := by decide +kernel
theorem dL_law_1414 : decode cL_law 1414 = .ok (.iadd, 1) := by decide +kernel
theorem dL_law_1415 : decode cL_law 1415 = .ok (.iaload, 1) := by decide +kernel
theorem dL_law_1416 : decode cL_law 1416 = .ok (.aload_n 0, 1) := by decide +kernel
theorem dL_law_1417 : decode cL_law 1417 = .ok (.iload_n 3, 1) := by decide +kernel
theorem dL_law_1418 : decode cL_law 1418 = .ok (.iconst 3, 1) := by decide +kernel
theorem dL_law_1419 : decode cL_law 1419 = .ok (.iadd, 1) := by decide +kernel
theorem dL_law_1420 : decode cL_law 1420 = .ok (.iaload, 1) := by decide +kernel
theorem dL_law_1421 : decode cL_law 1421 = .ok (.aload_n 0, 1) := by decide +kernel
theorem dL_law_1422 : decode cL_law 1422 = .ok (.iload_n 3, 1) := by decide +kernel
theorem dL_law_1423 : decode cL_law 1423 = .ok (.iconst 4, 1) := by decide +kernel
theorem dL_law_1424 : decode cL_law 1424 = .ok (.iadd, 1) := by decide +kernel
theorem dL_law_1425 : decode cL_law 1425 = .ok (.iaload, 1) := by decide +kernel
theorem dL_law_1426 : decode cL_law 1426 = .ok (.aload_n 0, 1) := by decide +kernel
theorem dL_law_1427 : decode cL_law 1427 = .ok (.iload_n 3, 1) := by decide +kernel
theorem dL_law_1428 : decode cL_law 1428 = .ok (.iconst 5, 1) := by decide +kernel
theorem dL_law_1429 : decode cL_law 1429 = .ok (.iadd, 1) := by decide +kernel
theorem dL_law_1430 : decode cL_law 1430 = .ok (.iaload, 1) := by decide +kernel
theorem dL_law_1431 : decode cL_law 1431 = .ok (.invokevirtual 153, 3) := by decide +kernel
theorem dL_law_1434 : decode cL_law 1434 = .ok (.aload_n 2, 1) := by decide +kernel
theorem dL_law_1435 : decode cL_law 1435 = .ok (.aload_n 0, 1) := by decide +kernel
theorem dL_law_1436 : decode cL_law 1436 = .ok (.iload_n 3, 1) := by decide +kernel
theorem dL_law_1437 : decode cL_law 1437 = .ok (.iconst 1, 1) := by decide +kernel
theorem dL_law_1438 : decode cL_law 1438 = .ok (.iadd, 1) := by decide +kernel
theorem dL_law_1439 : decode cL_law 1439 = .ok (.iaload, 1) := by decide +kernel
theorem dL_law_1440 : decode cL_law 1440 = .ok (.aload_n 0, 1) := by decide +kernel
theorem dL_law_1441 : decode cL_law 1441 = .ok (.iload_n 3, 1) := by decide +kernel
theorem dL_law_1442 : decode cL_law 1442 = .ok (.iconst 2, 1) := by decide +kernel
theorem dL_law_1443 : decode cL_law 1443 = .ok (.iadd, 1) := by decide +kernel
theorem dL_law_1444 : decode cL_law 1444 = .ok (.iaload, 1) := by decide +kernel
theorem dL_law_1445 : decode cL_law 1445 = .ok (.aload_n 0, 1) := by decide +kernel
theorem dL_law_1446 : decode cL_law 1446 = .ok (.iload_n 3, 1) := by decide +kernel
theorem dL_law_1447 : decode cL_law 1447 = .ok (.iconst 3, 1) := by decide +kernel
theorem dL_law_1448 : decode cL_law 1448 = .ok (.iadd, 1) := by decide +kernel
theorem dL_law_1449 : decode cL_law 1449 = .ok (.iaload, 1) := by decide +kernel
theorem dL_law_1450 : decode cL_law 1450 = .ok (.aload_n 0, 1) := by decide +kernel
theorem dL_law_1451 : decode cL_law 1451 = .ok (.iload_n 3, 1) := by decide +kernel
theorem dL_law_1452 : decode cL_law 1452 = .ok (.iconst 4, 1) := by decide +kernel
theorem dL_law_1453 : decode cL_law 1453 = .ok (.iadd, 1) := by decide +kernel
theorem dL_law_1454 : decode cL_law 1454 = .ok (.iaload, 1) := by decide +kernel
theorem dL_law_1455 : decode cL_law 1455 = .ok (.aload_n 0, 1) := by decide +kernel
theorem dL_law_1456 : decode cL_law 1456 = .ok (.iload_n 3, 1) := by decide +kernel
theorem dL_law_1457 : decode cL_law 1457 = .ok (.iconst 5, 1) := by decide +kernel
theorem dL_law_1458 : decode cL_law 1458 = .ok (.iadd, 1) := by decide +kernel
theorem dL_law_1459 : decode cL_law 1459 = .ok (.iaload, 1) := by decide +kernel
theorem dL_law_1460 : decode cL_law 1460 = .ok (.invokevirtual 156, 3) := by decide +kernel
theorem dL_law_1463 : decode cL_law 1463 = .ok (.if_icmp .eq 413, 3) := by decide +kernel
theorem dL_law_1466 : decode cL_law 1466 = .ok (.iconst 0, 1) := by decide +kernel
theorem dL_law_1467 : decode cL_law 1467 = .ok (.ireturn, 1) := by decide +kernel
theorem dL_law_1468 : decode cL_law 1468 = .ok (.aload_n 1, 1) := by decide +kernel
theorem dL_law_1469 : decode cL_law 1469 = .ok (.aload_n 0, 1) := by decide +kernel
theorem dL_law_1470 : decode cL_law 1470 = .ok (.iload_n 3, 1) := by decide +kernel
theorem dL_law_1471 : decode cL_law 1471 = .ok (.iconst 1, 1) := by decide +kernel
theorem dL_law_1472 : decode cL_law 1472 = .ok (.iadd, 1) := by decide +kernel
theorem dL_law_1473 : decode cL_law 1473 = .ok (.iaload, 1) := by decide +kernel
theorem dL_law_1474 : decode cL_law 1474 = .ok (.aload_n 0, 1) := by decide +kernel
theorem dL_law_1475 : decode cL_law 1475 = .ok (.iload_n 3, 1) := by decide +kernel
theorem dL_law_1476 : decode cL_law 1476 = .ok (.iconst 2, 1) := by decide +kernel
theorem dL_law_1477 : decode cL_law 1477 = .ok (.iadd, 1) := by decide +kernel
theorem dL_law_1478 : decode cL_law 1478 = .ok (.iaload, 1) := by decide +kernel
theorem dL_law_1479 : decode cL_law 1479 = .ok (.invokevirtual 157, 3) := by decide +kernel
theorem dL_law_1482 : decode cL_law 1482 = .ok (.aload_n 2, 1) := by decide +kernel
theorem dL_law_1483 : decode cL_law 1483 = .ok (.aload_n 0, 1) := by decide +kernel
theorem dL_law_1484 : decode cL_law 1484 = .ok (.iload_n 3, 1) := by decide +kernel
theorem dL_law_1485 : decode cL_law 1485 = .ok (.iconst 1, 1) := by decide +kernel
theorem dL_law_1486 : decode cL_law 1486 = .ok (.iadd, 1) := by decide +kernel
theorem dL_law_1487 : decode cL_law 1487 = .ok (.iaload, 1) := by decide +kernel
theorem dL_law_1488 : decode cL_law 1488 = .ok (.aload_n 0, 1) := by decide +kernel
theorem dL_law_1489 : decode cL_law 1489 = .ok (.iload_n 3, 1) := by decide +kernel
theorem dL_law_1490 : decode cL_law 1490 = .ok (.iconst 2, 1) := by decide +kernel
theorem dL_law_1491 : decode cL_law 1491 = .ok (.iadd, 1) := by decide +kernel
theorem dL_law_1492 : decode cL_law 1492 = .ok (.iaload, 1) := by decide +kernel
theorem dL_law_1493 : decode cL_law 1493 = .ok (.invokevirtual 160, 3) := by decide +kernel
theorem dL_law_1496 : decode cL_law 1496 = .ok (.if_icmp .eq 380, 3) := by decide +kernel
theorem dL_law_1499 : decode cL_law 1499 = .ok (.iconst 0, 1) := by decide +kernel
theorem dL_law_1500 : decode cL_law 1500 = .ok (.ireturn, 1) := by decide +kernel
theorem dL_law_1501 : decode cL_law 1501 = .ok (.aload_n 1, 1) := by decide +kernel
theorem dL_law_1502 : decode cL_law 1502 = .ok (.aload_n 0, 1) := by decide +kernel
theorem dL_law_1503 : decode cL_law 1503 = .ok (.iload_n 3, 1) := by decide +kernel
theorem dL_law_1504 : decode cL_law 1504 = .ok (.iconst 1, 1) := by decide +kernel
theorem dL_law_1505 : decode cL_law 1505 = .ok (.iadd, 1) := by decide +kernel
theorem dL_law_1506 : decode cL_law 1506 = .ok (.iaload, 1) := by decide +kernel
theorem dL_law_1507 : decode cL_law 1507 = .ok (.aload_n 0, 1) := by decide +kernel
theorem dL_law_1508 : decode cL_law 1508 = .ok (.iload_n 3, 1) := by decide +kernel
theorem dL_law_1509 : decode cL_law 1509 = .ok (.iconst 2, 1) := by decide +kernel
theorem dL_law_1510 : decode cL_law 1510 = .ok (.iadd, 1) := by decide +kernel
theorem dL_law_1511 : decode cL_law 1511 = .ok (.iaload, 1) := by decide +kernel
theorem dL_law_1512 : decode cL_law 1512 = .ok (.invokevirtual 161, 3) := by decide +kernel
theorem dL_law_1515 : decode cL_law 1515 = .ok (.aload_n 2, 1) := by decide +kernel
theorem dL_law_1516 : decode cL_law 1516 = .ok (.aload_n 0, 1) := by decide +kernel
theorem dL_law_1517 : decode cL_law 1517 = .ok (.iload_n 3, 1) := by decide +kernel
theorem dL_law_1518 : decode cL_law 1518 = .ok (.iconst 1, 1) := by decide +kernel
theorem dL_law_1519 : decode cL_law 1519 = .ok (.iadd, 1) := by decide +kernel
theorem dL_law_1520 : decode cL_law 1520 = .ok (.iaload, 1) := by decide +kernel
theorem dL_law_1521 : decode cL_law 1521 = .ok (.aload_n 0, 1) := by decide +kernel
theorem dL_law_1522 : decode cL_law 1522 = .ok (.iload_n 3, 1) := by decide +kernel
theorem dL_law_1523 : decode cL_law 1523 = .ok (.iconst 2, 1) := by decide +kernel
theorem dL_law_1524 : decode cL_law 1524 = .ok (.iadd, 1) := by decide +kernel
theorem dL_law_1525 : decode cL_law 1525 = .ok (.iaload, 1) := by decide +kernel
theorem dL_law_1526 : decode cL_law 1526 = .ok (.invokevirtual 164, 3) := by decide +kernel
theorem dL_law_1529 : decode cL_law 1529 = .ok (.if_icmp .eq 347, 3) := by decide +kernel
theorem dL_law_1532 : decode cL_law 1532 = .ok (.iconst 0, 1) := by decide +kernel
theorem dL_law_1533 : decode cL_law 1533 = .ok (.ireturn, 1) := by decide +kernel
theorem dL_law_1534 : decode cL_law 1534 = .ok (.aload_n 1, 1) := by decide +kernel
theorem dL_law_1535 : decode cL_law 1535 = .ok (.aload_n 0, 1) := by decide +kernel
theorem dL_law_1536 : decode cL_law 1536 = .ok (.iload_n 3, 1) := by decide +kernel
theorem dL_law_1537 : decode cL_law 1537 = .ok (.iconst 1, 1) := by decide +kernel
theorem dL_law_1538 : decode cL_law 1538 = .ok (.iadd, 1) := by decide +kernel
theorem dL_law_1539 : decode cL_law 1539 = .ok (.iaload, 1) := by decide +kernel
theorem dL_law_1540 : decode cL_law 1540 = .ok (.invokevirtual 165, 3) := by decide +kernel
theorem dL_law_1543 : decode cL_law 1543 = .ok (.aload_n 2, 1) := by decide +kernel
theorem dL_law_1544 : decode cL_law 1544 = .ok (.aload_n 0, 1) := by decide +kernel
theorem dL_law_1545 : decode cL_law 1545 = .ok (.iload_n 3, 1) := by decide +kernel
theorem dL_law_1546 : decode cL_law 1546 = .ok (.iconst 1, 1) := by decide +kernel
theorem dL_law_1547 : decode cL_law 1547 = .ok (.iadd, 1) := by decide +kernel
theorem dL_law_1548 : decode cL_law 1548 = .ok (.iaload, 1) := by decide +kernel
theorem dL_law_1549 : decode cL_law 1549 = .ok (.invokevirtual 168, 3) := by decide +kernel
theorem dL_law_1552 : decode cL_law 1552 = .ok (.if_icmp .eq 324, 3) := by decide +kernel
theorem dL_law_1555 : decode cL_law 1555 = .ok (.iconst 0, 1) := by decide +kernel
theorem dL_law_1556 : decode cL_law 1556 = .ok (.ireturn, 1) := by decide +kernel
theorem dL_law_1557 : decode cL_law 1557 = .ok (.aload_n 1, 1) := by decide +kernel
theorem dL_law_1558 : decode cL_law 1558 = .ok (.aload_n 0, 1) := by decide +kernel
theorem dL_law_1559 : decode cL_law 1559 = .ok (.iload_n 3, 1) := by decide +kernel
theorem dL_law_1560 : decode cL_law 1560 = .ok (.iconst 1, 1) := by decide +kernel
theorem dL_law_1561 : decode cL_law 1561 = .ok (.iadd, 1) := by decide +kernel
theorem dL_law_1562 : decode cL_law 1562 = .ok (.iaload, 1) := by decide +kernel
theorem dL_law_1563 : decode cL_law 1563 = .ok (.invokevirtual 169, 3) := by decide +kernel
theorem dL_law_1566 : decode cL_law 1566 = .ok (.aload_n 2, 1) := by decide +kernel
theorem dL_law_1567 : decode cL_law 1567 = .ok (.aload_n 0, 1) := by decide +kernel
theorem dL_law_1568 : decode cL_law 1568 = .ok (.iload_n 3, 1) := by decide +kernel
theorem dL_law_1569 : decode cL_law 1569 = .ok (.iconst 1, 1) := by decide +kernel
theorem dL_law_1570 : decode cL_law 1570 = .ok (.iadd, 1) := by decide +kernel
theorem dL_law_1571 : decode cL_law 1571 = .ok (.iaload, 1) := by decide +kernel
theorem dL_law_1572 : decode cL_law 1572 = .ok (.invokevirtual 172, 3) := by decide +kernel
theorem dL_law_1575 : decode cL_law 1575 = .ok (.if_icmp .eq 301, 3) := by decide +kernel
theorem dL_law_1578 : decode cL_law 1578 = .ok (.iconst 0, 1) := by decide +kernel
theorem dL_law_1579 : decode cL_law 1579 = .ok (.ireturn, 1) := by decide +kernel
theorem dL_law_1580 : decode cL_law 1580 = .ok (.aload_n 1, 1) := by decide +kernel
theorem dL_law_1581 : decode cL_law 1581 = .ok (.aload_n 0, 1) := by decide +kernel
theorem dL_law_1582 : decode cL_law 1582 = .ok (.iload_n 3, 1) := by decide +kernel
theorem dL_law_1583 : decode cL_law 1583 = .ok (.iconst 1, 1) := by decide +kernel
theorem dL_law_1584 : decode cL_law 1584 = .ok (.iadd, 1) := by decide +kernel
theorem dL_law_1585 : decode cL_law 1585 = .ok (.iaload, 1) := by decide +kernel
theorem dL_law_1586 : decode cL_law 1586 = .ok (.invokevirtual 173, 3) := by decide +kernel
theorem dL_law_1589 : decode cL_law 1589 = .ok (.aload_n 2, 1) := by decide +kernel
theorem dL_law_1590 : decode cL_law 1590 = .ok (.aload_n 0, 1) := by decide +kernel
theorem dL_law_1591 : decode cL_law 1591 = .ok (.iload_n 3, 1) := by decide +kernel
theorem dL_law_1592 : decode cL_law 1592 = .ok (.iconst 1, 1) := by decide +kernel
theorem dL_law_1593 : decode cL_law 1593 = .ok (.iadd, 1) := by decide +kernel
theorem dL_law_1594 : decode cL_law 1594 = .ok (.iaload, 1) := by decide +kernel
theorem dL_law_1595 : decode cL_law 1595 = .ok (.invokevirtual 176, 3) := by decide +kernel
theorem dL_law_1598 : decode cL_law 1598 = .ok (.if_icmp .eq 278, 3) := by decide +kernel
theorem dL_law_1601 : decode cL_law 1601 = .ok (.iconst 0, 1) := by decide +kernel
theorem dL_law_1602 : decode cL_law 1602 = .ok (.ireturn, 1) := by decide +kernel
theorem dL_law_1603 : decode cL_law 1603 = .ok (.aload_n 1, 1) := by decide +kernel
theorem dL_law_1604 : decode cL_law 1604 = .ok (.aload_n 0, 1) := by decide +kernel
theorem dL_law_1605 : decode cL_law 1605 = .ok (.iload_n 3, 1) := by decide +kernel
theorem dL_law_1606 : decode cL_law 1606 = .ok (.iconst 1, 1) := by decide +kernel
theorem dL_law_1607 : decode cL_law 1607 = .ok (.iadd, 1) := by decide +kernel
theorem dL_law_1608 : decode cL_law 1608 = .ok (.iaload, 1) := by decide +kernel
theorem dL_law_1609 : decode cL_law 1609 = .ok (.invokevirtual 177, 3) := by decide +kernel
theorem dL_law_1612 : decode cL_law 1612 = .ok (.aload_n 2, 1) := by decide +kernel
theorem dL_law_1613 : decode cL_law 1613 = .ok (.aload_n 0, 1) := by decide +kernel
theorem dL_law_1614 : decode cL_law 1614 = .ok (.iload_n 3, 1) := by decide +kernel
theorem dL_law_1615 : decode cL_law 1615 = .ok (.iconst 1, 1) := by decide +kernel
theorem dL_law_1616 : decode cL_law 1616 = .ok (.iadd, 1) := by decide +kernel
theorem dL_law_1617 : decode cL_law 1617 = .ok (.iaload, 1) := by decide +kernel
theorem dL_law_1618 : decode cL_law 1618 = .ok (.invokevirtual 180, 3) := by decide +kernel
theorem dL_law_1621 : decode cL_law 1621 = .ok (.if_icmp .eq 255, 3) := by decide +kernel
theorem dL_law_1624 : decode cL_law 1624 = .ok (.iconst 0, 1) := by decide +kernel
theorem dL_law_1625 : decode cL_law 1625 = .ok (.ireturn, 1) := by decide +kernel
theorem dL_law_1626 : decode cL_law 1626 = .ok (.aload_n 1, 1) := by decide +kernel
theorem dL_law_1627 : decode cL_law 1627 = .ok (.aload_n 0, 1) := by decide +kernel
theorem dL_law_1628 : decode cL_law 1628 = .ok (.iload_n 3, 1) := by decide +kernel
theorem dL_law_1629 : decode cL_law 1629 = .ok (.iconst 1, 1) := by decide +kernel
theorem dL_law_1630 : decode cL_law 1630 = .ok (.iadd, 1) := by decide +kernel
theorem dL_law_1631 : decode cL_law 1631 = .ok (.iaload, 1) := by decide +kernel
theorem dL_law_1632 : decode cL_law 1632 = .ok (.aload_n 0, 1) := by decide +kernel
theorem dL_law_1633 : decode cL_law 1633 = .ok (.iload_n 3, 1) := by decide +kernel
theorem dL_law_1634 : decode cL_law 1634 = .ok (.iconst 2, 1) := by decide +kernel
theorem dL_law_1635 : decode cL_law 1635 = .ok (.iadd, 1) := by decide +kernel
theorem dL_law_1636 : decode cL_law 1636 = .ok (.iaload, 1) := by decide +kernel
theorem dL_law_1637 : decode cL_law 1637 = .ok (.aload_n 0, 1) := by decide +kernel
theorem dL_law_1638 : decode cL_law 1638 = .ok (.iload_n 3, 1) := by decide +kernel
theorem dL_law_1639 : decode cL_law 1639 = .ok (.iconst 3, 1) := by decide +kernel
theorem dL_law_1640 : decode cL_law 1640 = .ok (.iadd, 1) := by decide +kernel
theorem dL_law_1641 : decode cL_law 1641 = .ok (.iaload, 1) := by decide +kernel
theorem dL_law_1642 : decode cL_law 1642 = .ok (.ifCond .eq 7, 3) := by decide +kernel
theorem dL_law_1645 : decode cL_law 1645 = .ok (.iconst 1, 1) := by decide +kernel
theorem dL_law_1646 : decode cL_law 1646 = .ok (.goto 4, 3) := by decide +kernel
theorem dL_law_1649 : decode cL_law 1649 = .ok (.iconst 0, 1) := by decide +kernel
theorem dL_law_1650 : decode cL_law 1650 = .ok (.invokevirtual 181, 3) := by decide +kernel
theorem dL_law_1653 : decode cL_law 1653 = .ok (.aload_n 2, 1) := by decide +kernel
theorem dL_law_1654 : decode cL_law 1654 = .ok (.aload_n 0, 1) := by decide +kernel
theorem dL_law_1655 : decode cL_law 1655 = .ok (.iload_n 3, 1) := by decide +kernel
theorem dL_law_1656 : decode cL_law 1656 = .ok (.iconst 1, 1) := by decide +kernel
theorem dL_law_1657 : decode cL_law 1657 = .ok (.iadd, 1) := by decide +kernel
theorem dL_law_1658 : decode cL_law 1658 = .ok (.iaload, 1) := by decide +kernel
theorem dL_law_1659 : decode cL_law 1659 = .ok (.aload_n 0, 1) := by decide +kernel
theorem dL_law_1660 : decode cL_law 1660 = .ok (.iload_n 3, 1) := by decide +kernel
theorem dL_law_1661 : decode cL_law 1661 = .ok (.iconst 2, 1) := by decide +kernel
theorem dL_law_1662 : decode cL_law 1662 = .ok (.iadd, 1) := by decide +kernel
theorem dL_law_1663 : decode cL_law 1663 = .ok (.iaload, 1) := by decide +kernel
theorem dL_law_1664 : decode cL_law 1664 = .ok (.aload_n 0, 1) := by decide +kernel
theorem dL_law_1665 : decode cL_law 1665 = .ok (.iload_n 3, 1) := by decide +kernel
theorem dL_law_1666 : decode cL_law 1666 = .ok (.iconst 3, 1) := by decide +kernel
theorem dL_law_1667 : decode cL_law 1667 = .ok (.iadd, 1) := by decide +kernel
theorem dL_law_1668 : decode cL_law 1668 = .ok (.iaload, 1) := by decide +kernel
theorem dL_law_1669 : decode cL_law 1669 = .ok (.ifCond .eq 7, 3) := by decide +kernel
theorem dL_law_1672 : decode cL_law 1672 = .ok (.iconst 1, 1) := by decide +kernel
theorem dL_law_1673 : decode cL_law 1673 = .ok (.goto 4, 3) := by decide +kernel
theorem dL_law_1676 : decode cL_law 1676 = .ok (.iconst 0, 1) := by decide +kernel
theorem dL_law_1677 : decode cL_law 1677 = .ok (.invokevirtual 185, 3) := by decide +kernel
theorem dL_law_1680 : decode cL_law 1680 = .ok (.if_icmp .eq 196, 3) := by decide +kernel
theorem dL_law_1683 : decode cL_law 1683 = .ok (.iconst 0, 1) := by decide +kernel
theorem dL_law_1684 : decode cL_law 1684 = .ok (.ireturn, 1) := by decide +kernel
theorem dL_law_1685 : decode cL_law 1685 = .ok (.aload_n 1, 1) := by decide +kernel
theorem dL_law_1686 : decode cL_law 1686 = .ok (.aload_n 0, 1) := by decide +kernel
theorem dL_law_1687 : decode cL_law 1687 = .ok (.iload_n 3, 1) := by decide +kernel
theorem dL_law_1688 : decode cL_law 1688 = .ok (.iconst 1, 1) := by decide +kernel
theorem dL_law_1689 : decode cL_law 1689 = .ok (.iadd, 1) := by decide +kernel
theorem dL_law_1690 : decode cL_law 1690 = .ok (.iaload, 1) := by decide +kernel
theorem dL_law_1691 : decode cL_law 1691 = .ok (.invokevirtual 186, 3) := by decide +kernel
theorem dL_law_1694 : decode cL_law 1694 = .ok (.aload_n 2, 1) := by decide +kernel
theorem dL_law_1695 : decode cL_law 1695 = .ok (.aload_n 0, 1) := by decide +kernel
theorem dL_law_1696 : decode cL_law 1696 = .ok (.iload_n 3, 1) := by decide +kernel
theorem dL_law_1697 : decode cL_law 1697 = .ok (.iconst 1, 1) := by decide +kernel
theorem dL_law_1698 : decode cL_law 1698 = .ok (.iadd, 1) := by decide +kernel
theorem dL_law_1699 : decode cL_law 1699 = .ok (.iaload, 1) := by decide +kernel
theorem dL_law_1700 : decode cL_law 1700 = .ok (.invokevirtual 189, 3) := by decide +kernel
theorem dL_law_1703 : decode cL_law 1703 = .ok (.if_icmp .eq 173, 3) := by decide +kernel
theorem dL_law_1706 : decode cL_law 1706 = .ok (.iconst 0, 1) := by decide +kernel
theorem dL_law_1707 : decode cL_law 1707 = .ok (.ireturn, 1) := by decide +kernel
theorem dL_law_1708 : decode cL_law 1708 = .ok (.aload_n 1, 1) := by decide +kernel
theorem dL_law_1709 : decode cL_law 1709 = .ok (.aload_n 0, 1) := by decide +kernel
theorem dL_law_1710 : decode cL_law 1710 = .ok (.iload_n 3, 1) := by decide +kernel
theorem dL_law_1711 : decode cL_law 1711 = .ok (.iconst 1, 1) := by decide +kernel
theorem dL_law_1712 : decode cL_law 1712 = .ok (.iadd, 1) := by decide +kernel
theorem dL_law_1713 : decode cL_law 1713 = .ok (.iaload, 1) := by decide +kernel
theorem dL_law_1714 : decode cL_law 1714 = .ok (.aload_n 0, 1) := by decide +kernel
theorem dL_law_1715 : decode cL_law 1715 = .ok (.iload_n 3, 1) := by decide +kernel
theorem dL_law_1716 : decode cL_law 1716 = .ok (.iconst 2, 1) := by decide +kernel
theorem dL_law_1717 : decode cL_law 1717 = .ok (.iadd, 1) := by decide +kernel
theorem dL_law_1718 : decode cL_law 1718 = .ok (.iaload, 1) := by decide +kernel
theorem dL_law_1719 : decode cL_law 1719 = .ok (.invokevirtual 190, 3) := by decide +kernel
theorem dL_law_1722 : decode cL_law 1722 = .ok (.aload_n 2, 1) := by decide +kernel
theorem dL_law_1723 : decode cL_law 1723 = .ok (.aload_n 0, 1) := by decide +kernel
theorem dL_law_1724 : decode cL_law 1724 = .ok (.iload_n 3, 1) := by decide +kernel
theorem dL_law_1725 : decode cL_law 1725 = .ok (.iconst 1, 1) := by decide +kernel
theorem dL_law_1726 : decode cL_law 1726 = .ok (.iadd, 1) := by decide +kernel
theorem dL_law_1727 : decode cL_law 1727 = .ok (.iaload, 1) := by decide +kernel
theorem dL_law_1728 : decode cL_law 1728 = .ok (.aload_n 0, 1) := by decide +kernel
theorem dL_law_1729 : decode cL_law 1729 = .ok (.iload_n 3, 1) := by decide +kernel
theorem dL_law_1730 : decode cL_law 1730 = .ok (.iconst 2, 1) := by decide +kernel
theorem dL_law_1731 : decode cL_law 1731 = .ok (.iadd, 1) := by decide +kernel
theorem dL_law_1732 : decode cL_law 1732 = .ok (.iaload, 1) := by decide +kernel
theorem dL_law_1733 : decode cL_law 1733 = .ok (.invokevirtual 193, 3) := by decide +kernel
theorem dL_law_1736 : decode cL_law 1736 = .ok (.if_icmp .eq 140, 3) := by decide +kernel
theorem dL_law_1739 : decode cL_law 1739 = .ok (.iconst 0, 1) := by decide +kernel
theorem dL_law_1740 : decode cL_law 1740 = .ok (.ireturn, 1) := by decide +kernel
theorem dL_law_1741 : decode cL_law 1741 = .ok (.aload_n 1, 1) := by decide +kernel
theorem dL_law_1742 : decode cL_law 1742 = .ok (.aload_n 0, 1) := by decide +kernel
theorem dL_law_1743 : decode cL_law 1743 = .ok (.iload_n 3, 1) := by decide +kernel
theorem dL_law_1744 : decode cL_law 1744 = .ok (.iconst 1, 1) := by decide +kernel
theorem dL_law_1745 : decode cL_law 1745 = .ok (.iadd, 1) := by decide +kernel
theorem dL_law_1746 : decode cL_law 1746 = .ok (.iaload, 1) := by decide +kernel
theorem dL_law_1747 : decode cL_law 1747 = .ok (.aload_n 0, 1) := by decide +kernel
theorem dL_law_1748 : decode cL_law 1748 = .ok (.iload_n 3, 1) := by decide +kernel
theorem dL_law_1749 : decode cL_law 1749 = .ok (.iconst 2, 1) := by decide +kernel
theorem dL_law_1750 : decode cL_law 1750 = .ok (.iadd, 1) := by decide +kernel
theorem dL_law_1751 : decode cL_law 1751 = .ok (.iaload, 1) := by decide +kernel
theorem dL_law_1752 : decode cL_law 1752 = .ok (.invokevirtual 194, 3) := by decide +kernel
theorem dL_law_1755 : decode cL_law 1755 = .ok (.aload_n 2, 1) := by decide +kernel
theorem dL_law_1756 : decode cL_law 1756 = .ok (.aload_n 0, 1) := by decide +kernel
theorem dL_law_1757 : decode cL_law 1757 = .ok (.iload_n 3, 1) := by decide +kernel
theorem dL_law_1758 : decode cL_law 1758 = .ok (.iconst 1, 1) := by decide +kernel
theorem dL_law_1759 : decode cL_law 1759 = .ok (.iadd, 1) := by decide +kernel
theorem dL_law_1760 : decode cL_law 1760 = .ok (.iaload, 1) := by decide +kernel
theorem dL_law_1761 : decode cL_law 1761 = .ok (.aload_n 0, 1) := by decide +kernel
theorem dL_law_1762 : decode cL_law 1762 = .ok (.iload_n 3, 1) := by decide +kernel
theorem dL_law_1763 : decode cL_law 1763 = .ok (.iconst 2, 1) := by decide +kernel
theorem dL_law_1764 : decode cL_law 1764 = .ok (.iadd, 1) := by decide +kernel
theorem dL_law_1765 : decode cL_law 1765 = .ok (.iaload, 1) := by decide +kernel
theorem dL_law_1766 : decode cL_law 1766 = .ok (.invokevirtual 197, 3) := by decide +kernel
theorem dL_law_1769 : decode cL_law 1769 = .ok (.if_icmp .eq 107, 3) := by decide +kernel
theorem dL_law_1772 : decode cL_law 1772 = .ok (.iconst 0, 1) := by decide +kernel
theorem dL_law_1773 : decode cL_law 1773 = .ok (.ireturn, 1) := by decide +kernel
theorem dL_law_1774 : decode cL_law 1774 = .ok (.aload_n 1, 1) := by decide +kernel
theorem dL_law_1775 : decode cL_law 1775 = .ok (.aload_n 0, 1) := by decide +kernel
theorem dL_law_1776 : decode cL_law 1776 = .ok (.iload_n 3, 1) := by decide +kernel
theorem dL_law_1777 : decode cL_law 1777 = .ok (.iconst 1, 1) := by decide +kernel
theorem dL_law_1778 : decode cL_law 1778 = .ok (.iadd, 1) := by decide +kernel
theorem dL_law_1779 : decode cL_law 1779 = .ok (.iaload, 1) := by decide +kernel
theorem dL_law_1780 : decode cL_law 1780 = .ok (.invokevirtual 198, 3) := by decide +kernel
theorem dL_law_1783 : decode cL_law 1783 = .ok (.aload_n 2, 1) := by decide +kernel
theorem dL_law_1784 : decode cL_law 1784 = .ok (.aload_n 0, 1) := by decide +kernel
theorem dL_law_1785 : decode cL_law 1785 = .ok (.iload_n 3, 1) := by decide +kernel
theorem dL_law_1786 : decode cL_law 1786 = .ok (.iconst 1, 1) := by decide +kernel
theorem dL_law_1787 : decode cL_law 1787 = .ok (.iadd, 1) := by decide +kernel
theorem dL_law_1788 : decode cL_law 1788 = .ok (.iaload, 1) := by decide +kernel
theorem dL_law_1789 : decode cL_law 1789 = .ok (.invokevirtual 201, 3) := by decide +kernel
theorem dL_law_1792 : decode cL_law 1792 = .ok (.if_icmp .eq 84, 3) := by decide +kernel
theorem dL_law_1795 : decode cL_law 1795 = .ok (.iconst 0, 1) := by decide +kernel
theorem dL_law_1796 : decode cL_law 1796 = .ok (.ireturn, 1) := by decide +kernel
theorem dL_law_1797 : decode cL_law 1797 = .ok (.aload_n 1, 1) := by decide +kernel
theorem dL_law_1798 : decode cL_law 1798 = .ok (.aload_n 0, 1) := by decide +kernel
theorem dL_law_1799 : decode cL_law 1799 = .ok (.iload_n 3, 1) := by decide +kernel
theorem dL_law_1800 : decode cL_law 1800 = .ok (.iconst 1, 1) := by decide +kernel
theorem dL_law_1801 : decode cL_law 1801 = .ok (.iadd, 1) := by decide +kernel
theorem dL_law_1802 : decode cL_law 1802 = .ok (.iaload, 1) := by decide +kernel
theorem dL_law_1803 : decode cL_law 1803 = .ok (.invokevirtual 202, 3) := by decide +kernel
theorem dL_law_1806 : decode cL_law 1806 = .ok (.aload_n 2, 1) := by decide +kernel
theorem dL_law_1807 : decode cL_law 1807 = .ok (.aload_n 0, 1) := by decide +kernel
theorem dL_law_1808 : decode cL_law 1808 = .ok (.iload_n 3, 1) := by decide +kernel
theorem dL_law_1809 : decode cL_law 1809 = .ok (.iconst 1, 1) := by decide +kernel
theorem dL_law_1810 : decode cL_law 1810 = .ok (.iadd, 1) := by decide +kernel
theorem dL_law_1811 : decode cL_law 1811 = .ok (.iaload, 1) := by decide +kernel
theorem dL_law_1812 : decode cL_law 1812 = .ok (.invokevirtual 205, 3) := by decide +kernel
theorem dL_law_1815 : decode cL_law 1815 = .ok (.if_icmp .eq 61, 3) := by decide +kernel
theorem dL_law_1818 : decode cL_law 1818 = .ok (.iconst 0, 1) := by decide +kernel
theorem dL_law_1819 : decode cL_law 1819 = .ok (.ireturn, 1) := by decide +kernel
theorem dL_law_1820 : decode cL_law 1820 = .ok (.aload_n 1, 1) := by decide +kernel
theorem dL_law_1821 : decode cL_law 1821 = .ok (.aload_n 0, 1) := by decide +kernel
theorem dL_law_1822 : decode cL_law 1822 = .ok (.iload_n 3, 1) := by decide +kernel
theorem dL_law_1823 : decode cL_law 1823 = .ok (.iconst 1, 1) := by decide +kernel
theorem dL_law_1824 : decode cL_law 1824 = .ok (.iadd, 1) := by decide +kernel
theorem dL_law_1825 : decode cL_law 1825 = .ok (.iaload, 1) := by decide +kernel
theorem dL_law_1826 : decode cL_law 1826 = .ok (.aload_n 0, 1) := by decide +kernel
theorem dL_law_1827 : decode cL_law 1827 = .ok (.iload_n 3, 1) := by decide +kernel
theorem dL_law_1828 : decode cL_law 1828 = .ok (.iconst 2, 1) := by decide +kernel
theorem dL_law_1829 : decode cL_law 1829 = .ok (.iadd, 1) := by decide +kernel
theorem dL_law_1830 : decode cL_law 1830 = .ok (.iaload, 1) := by decide +kernel
theorem dL_law_1831 : decode cL_law 1831 = .ok (.invokevirtual 206, 3) := by decide +kernel
theorem dL_law_1834 : decode cL_law 1834 = .ok (.aload_n 2, 1) := by decide +kernel
theorem dL_law_1835 : decode cL_law 1835 = .ok (.aload_n 0, 1) := by decide +kernel
theorem dL_law_1836 : decode cL_law 1836 = .ok (.iload_n 3, 1) := by decide +kernel
theorem dL_law_1837 : decode cL_law 1837 = .ok (.iconst 1, 1) := by decide +kernel
theorem dL_law_1838 : decode cL_law 1838 = .ok (.iadd, 1) := by decide +kernel
theorem dL_law_1839 : decode cL_law 1839 = .ok (.iaload, 1) := by decide +kernel
theorem dL_law_1840 : decode cL_law 1840 = .ok (.aload_n 0, 1) := by decide +kernel
theorem dL_law_1841 : decode cL_law 1841 = .ok (.iload_n 3, 1) := by decide +kernel
theorem dL_law_1842 : decode cL_law 1842 = .ok (.iconst 2, 1) := by decide +kernel
theorem dL_law_1843 : decode cL_law 1843 = .ok (.iadd, 1) := by decide +kernel
theorem dL_law_1844 : decode cL_law 1844 = .ok (.iaload, 1) := by decide +kernel
theorem dL_law_1845 : decode cL_law 1845 = .ok (.invokevirtual 209, 3) := by decide +kernel
theorem dL_law_1848 : decode cL_law 1848 = .ok (.if_icmp .eq 28, 3) := by decide +kernel
theorem dL_law_1851 : decode cL_law 1851 = .ok (.iconst 0, 1) := by decide +kernel
theorem dL_law_1852 : decode cL_law 1852 = .ok (.ireturn, 1) := by decide +kernel
theorem dL_law_1853 : decode cL_law 1853 = .ok (.aload_n 1, 1) := by decide +kernel
theorem dL_law_1854 : decode cL_law 1854 = .ok (.aload_n 0, 1) := by decide +kernel
theorem dL_law_1855 : decode cL_law 1855 = .ok (.iload_n 3, 1) := by decide +kernel
theorem dL_law_1856 : decode cL_law 1856 = .ok (.iconst 1, 1) := by decide +kernel
theorem dL_law_1857 : decode cL_law 1857 = .ok (.iadd, 1) := by decide +kernel
theorem dL_law_1858 : decode cL_law 1858 = .ok (.iaload, 1) := by decide +kernel
theorem dL_law_1859 : decode cL_law 1859 = .ok (.invokevirtual 210, 3) := by decide +kernel
theorem dL_law_1862 : decode cL_law 1862 = .ok (.aload_n 2, 1) := by decide +kernel
theorem dL_law_1863 : decode cL_law 1863 = .ok (.aload_n 0, 1) := by decide +kernel
theorem dL_law_1864 : decode cL_law 1864 = .ok (.iload_n 3, 1) := by decide +kernel
theorem dL_law_1865 : decode cL_law 1865 = .ok (.iconst 1, 1) := by decide +kernel
theorem dL_law_1866 : decode cL_law 1866 = .ok (.iadd, 1) := by decide +kernel
theorem dL_law_1867 : decode cL_law 1867 = .ok (.iaload, 1) := by decide +kernel
theorem dL_law_1868 : decode cL_law 1868 = .ok (.invokevirtual 213, 3) := by decide +kernel
theorem dL_law_1871 : decode cL_law 1871 = .ok (.if_icmp .eq 5, 3) := by decide +kernel
theorem dL_law_1874 : decode cL_law 1874 = .ok (.iconst 0, 1) := by decide +kernel
theorem dL_law_1875 : decode cL_law 1875 = .ok (.ireturn, 1) := by decide +kernel
theorem dL_law_1876 : decode cL_law 1876 = .ok (.iinc 3 6, 3) := by decide +kernel
theorem dL_law_1879 : decode cL_law 1879 = .ok (.goto (-1861), 3) := by decide +kernel
theorem dL_law_1882 : decode cL_law 1882 = .ok (.iconst 1, 1) := by decide +kernel
theorem dL_law_1883 : decode cL_law 1883 = .ok (.ireturn, 1) := by decide +kernel
