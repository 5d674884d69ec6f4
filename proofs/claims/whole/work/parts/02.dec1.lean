theorem dX10_borrow_78 : decode cX10_borrow 78 = .ok (.getfield 209, 3) := by decide +kernel
theorem dX10_borrow_81 : decode cX10_borrow 81 = .ok (.if_icmp .le 19, 3) := by decide +kernel
theorem dX10_borrow_84 : decode cX10_borrow 84 = .ok (.aload_n 1, 1) := by decide +kernel
theorem dX10_borrow_85 : decode cX10_borrow 85 = .ok (.iconst 1, 1) := by decide +kernel
theorem dX10_borrow_86 : decode cX10_borrow 86 = .ok (.putfield 309, 3) := by decide +kernel
theorem dX10_borrow_89 : decode cX10_borrow 89 = .ok (.aload_n 1, 1) := by decide +kernel
theorem dX10_borrow_90 : decode cX10_borrow 90 = .ok (.aload_n 3, 1) := by decide +kernel
theorem dX10_borrow_91 : decode cX10_borrow 91 = .ok (.putfield 245, 3) := by decide +kernel
theorem dX10_borrow_94 : decode cX10_borrow 94 = .ok (.aload_n 1, 1) := by decide +kernel
theorem dX10_borrow_95 : decode cX10_borrow 95 = .ok (.iload 4, 2) := by decide +kernel
theorem dX10_borrow_97 : decode cX10_borrow 97 = .ok (.putfield 209, 3) := by decide +kernel
theorem dX10_borrow_100 : decode cX10_borrow 100 = .ok (.iinc 2 1, 3) := by decide +kernel
theorem dX10_borrow_103 : decode cX10_borrow 103 = .ok (.goto (-101), 3) := by decide +kernel
theorem dX10_borrow_106 : decode cX10_borrow 106 = .ok (.return_, 1) := by decide +kernel
theorem dX10_enter_0 : decode cX10_enter 0 = .ok (.aload_n 0, 1) := by decide +kernel
theorem dX10_enter_1 : decode cX10_enter 1 = .ok (.getfield 23, 3) := by decide +kernel
theorem dX10_enter_4 : decode cX10_enter 4 = .ok (.aload_n 0, 1) := by decide +kernel
theorem dX10_enter_5 : decode cX10_enter 5 = .ok (.getfield 249, 3) := by decide +kernel
theorem dX10_enter_8 : decode cX10_enter 8 = .ok (.aload_n 1, 1) := by decide +kernel
theorem dX10_enter_9 : decode cX10_enter 9 = .ok (.aastore, 1) := by decide +kernel
theorem dX10_enter_10 : decode cX10_enter 10 = .ok (.aload_n 0, 1) := by decide +kernel
theorem dX10_enter_11 : decode cX10_enter 11 = .ok (.dup, 1) := by decide +kernel
theorem dX10_enter_12 : decode cX10_enter 12 = .ok (.getfield 249, 3) := by decide +kernel
theorem dX10_enter_15 : decode cX10_enter 15 = .ok (.iconst 1, 1) := by decide +kernel
theorem dX10_enter_16 : decode cX10_enter 16 = .ok (.iadd, 1) := by decide +kernel
theorem dX10_enter_17 : decode cX10_enter 17 = .ok (.putfield 249, 3) := by decide +kernel
theorem dX10_enter_20 : decode cX10_enter 20 = .ok (.aload_n 1, 1) := by decide +kernel
theorem dX10_enter_21 : decode cX10_enter 21 = .ok (.getfield 204, 3) := by decide +kernel
theorem dX10_enter_24 : decode cX10_enter 24 = .ok (.ireturn, 1) := by decide +kernel
theorem dX10_lastOf_0 : decode cX10_lastOf 0 = .ok (.aload_n 0, 1) := by decide +kernel
theorem dX10_lastOf_1 : decode cX10_lastOf 1 = .ok (.astore_n 1, 1) := by decide +kernel
theorem dX10_lastOf_2 : decode cX10_lastOf 2 = .ok (.iconst 0, 1) := by decide +kernel
theorem dX10_lastOf_3 : decode cX10_lastOf 3 = .ok (.istore_n 2, 1) := by decide +kernel
theorem dX10_lastOf_4 : decode cX10_lastOf 4 = .ok (.iload_n 2, 1) := by decide +kernel
theorem dX10_lastOf_5 : decode cX10_lastOf 5 = .ok (.iconst 4, 1) := by decide +kernel
theorem dX10_lastOf_6 : decode cX10_lastOf 6 = .ok (.if_icmp .ge 21, 3) := by decide +kernel
theorem dX10_lastOf_9 : decode cX10_lastOf 9 = .ok (.aload_n 1, 1) := by decide +kernel
theorem dX10_lastOf_10 : decode cX10_lastOf 10 = .ok (.getfield 315, 3) := by decide +kernel
theorem dX10_lastOf_13 : decode cX10_lastOf 13 = .ok (.ifnull 14, 3) := by decide +kernel
theorem dX10_lastOf_16 : decode cX10_lastOf 16 = .ok (.aload_n 1, 1) := by decide +kernel
theorem dX10_lastOf_17 : decode cX10_lastOf 17 = .ok (.getfield 315, 3) := by decide +kernel
theorem dX10_lastOf_20 : decode cX10_lastOf 20 = .ok (.astore_n 1, 1) := by decide +kernel
theorem dX10_lastOf_21 : decode cX10_lastOf 21 = .ok (.iinc 2 1, 3) := by decide +kernel
theorem dX10_lastOf_24 : decode cX10_lastOf 24 = .ok (.goto (-20), 3) := by decide +kernel
theorem dX10_lastOf_27 : decode cX10_lastOf 27 = .ok (.aload_n 1, 1) := by decide +kernel
theorem dX10_lastOf_28 : decode cX10_lastOf 28 = .ok (.areturn, 1) := by decide +kernel
theorem dX10_sizeOfBook_0 : decode cX10_sizeOfBook 0 = .ok (.iconst 0, 1) := by decide +kernel
theorem dX10_sizeOfBook_1 : decode cX10_sizeOfBook 1 = .ok (.istore_n 2, 1) := by decide +kernel
theorem dX10_sizeOfBook_2 : decode cX10_sizeOfBook 2 = .ok (.iconst 0, 1) := by decide +kernel
theorem dX10_sizeOfBook_3 : decode cX10_sizeOfBook 3 = .ok (.istore_n 3, 1) := by decide +kernel
theorem dX10_sizeOfBook_4 : decode cX10_sizeOfBook 4 = .ok (.iload_n 3, 1) := by decide +kernel
theorem dX10_sizeOfBook_5 : decode cX10_sizeOfBook 5 = .ok (.aload_n 0, 1) := by decide +kernel
theorem dX10_sizeOfBook_6 : decode cX10_sizeOfBook 6 = .ok (.getfield 249, 3) := by decide +kernel
theorem dX10_sizeOfBook_9 : decode cX10_sizeOfBook 9 = .ok (.if_icmp .ge 33, 3) := by decide +kernel
theorem dX10_sizeOfBook_12 : decode cX10_sizeOfBook 12 = .ok (.iload_n 2, 1) := by decide +kernel
theorem dX10_sizeOfBook_13 : decode cX10_sizeOfBook 13 = .ok (.aload_n 0, 1) := by decide +kernel
theorem dX10_sizeOfBook_14 : decode cX10_sizeOfBook 14 = .ok (.getfield 23, 3) := by decide +kernel
theorem dX10_sizeOfBook_17 : decode cX10_sizeOfBook 17 = .ok (.iload_n 3, 1) := by decide +kernel
theorem dX10_sizeOfBook_18 : decode cX10_sizeOfBook 18 = .ok (.aaload, 1) := by decide +kernel
theorem dX10_sizeOfBook_19 : decode cX10_sizeOfBook 19 = .ok (.getfield 255, 3) := by decide +kernel
theorem dX10_sizeOfBook_22 : decode cX10_sizeOfBook 22 = .ok (.aload_n 1, 1) := by decide +kernel
theorem dX10_sizeOfBook_23 : decode cX10_sizeOfBook 23 = .ok (.if_acmp .ne 7, 3) := by decide +kernel
theorem dX10_sizeOfBook_26 : decode cX10_sizeOfBook 26 = .ok (.iconst 1, 1) := by decide +kernel
theorem dX10_sizeOfBook_27 : decode cX10_sizeOfBook 27 = .ok (.goto 4, 3) := by decide +kernel
theorem dX10_sizeOfBook_30 : decode cX10_sizeOfBook 30 = .ok (.iconst 0, 1) := by decide +kernel
theorem dX10_sizeOfBook_31 : decode cX10_sizeOfBook 31 = .ok (.invokestatic 138, 3) := by decide +kernel
theorem dX10_sizeOfBook_34 : decode cX10_sizeOfBook 34 = .ok (.iadd, 1) := by decide +kernel
theorem dX10_sizeOfBook_35 : decode cX10_sizeOfBook 35 = .ok (.istore_n 2, 1) := by decide +kernel
theorem dX10_sizeOfBook_36 : decode cX10_sizeOfBook 36 = .ok (.iinc 3 1, 3) := by decide +kernel
theorem dX10_sizeOfBook_39 : decode cX10_sizeOfBook 39 = .ok (.goto (-35), 3) := by decide +kernel
theorem dX10_sizeOfBook_42 : decode cX10_sizeOfBook 42 = .ok (.iload_n 2, 1) := by decide +kernel
theorem dX10_sizeOfBook_43 : decode cX10_sizeOfBook 43 = .ok (.ireturn, 1) := by decide +kernel
theorem dX10_standingIn_0 : decode cX10_standingIn 0 = .ok (.iconst 0, 1) := by decide +kernel
theorem dX10_standingIn_1 : decode cX10_standingIn 1 = .ok (.istore_n 2, 1) := by decide +kernel
theorem dX10_standingIn_2 : decode cX10_standingIn 2 = .ok (.iconst 0, 1) := by decide +kernel
theorem dX10_standingIn_3 : decode cX10_standingIn 3 = .ok (.istore_n 3, 1) := by decide +kernel
theorem dX10_standingIn_4 : decode cX10_standingIn 4 = .ok (.iload_n 3, 1) := by decide +kernel
theorem dX10_standingIn_5 : decode cX10_standingIn 5 = .ok (.aload_n 0, 1) := by decide +kernel
theorem dX10_standingIn_6 : decode cX10_standingIn 6 = .ok (.getfield 249, 3) := by decide +kernel
theorem dX10_standingIn_9 : decode cX10_standingIn 9 = .ok (.if_icmp .ge 45, 3) := by decide +kernel
theorem dX10_standingIn_12 : decode cX10_standingIn 12 = .ok (.iload_n 2, 1) := by decide +kernel
theorem dX10_standingIn_13 : decode cX10_standingIn 13 = .ok (.aload_n 0, 1) := by decide +kernel
theorem dX10_standingIn_14 : decode cX10_standingIn 14 = .ok (.getfield 23, 3) := by decide +kernel
theorem dX10_standingIn_17 : decode cX10_standingIn 17 = .ok (.iload_n 3, 1) := by decide +kernel
theorem dX10_standingIn_18 : decode cX10_standingIn 18 = .ok (.aaload, 1) := by decide +kernel
theorem dX10_standingIn_19 : decode cX10_standingIn 19 = .ok (.getfield 255, 3) := by decide +kernel
theorem dX10_standingIn_22 : decode cX10_standingIn 22 = .ok (.aload_n 1, 1) := by decide +kernel
theorem dX10_standingIn_23 : decode cX10_standingIn 23 = .ok (.if_acmp .ne 19, 3) := by decide +kernel
theorem dX10_standingIn_26 : decode cX10_standingIn 26 = .ok (.aload_n 0, 1) := by decide +kernel
theorem dX10_standingIn_27 : decode cX10_standingIn 27 = .ok (.getfield 23, 3) := by decide +kernel
theorem dX10_standingIn_30 : decode cX10_standingIn 30 = .ok (.iload_n 3, 1) := by decide +kernel
theorem dX10_standingIn_31 : decode cX10_standingIn 31 = .ok (.aaload, 1) := by decide +kernel
theorem dX10_standingIn_32 : decode cX10_standingIn 32 = .ok (.invokevirtual 300, 3) := by decide +kernel
theorem dX10_standingIn_35 : decode cX10_standingIn 35 = .ok (.ifCond .eq 7, 3) := by decide +kernel
theorem dX10_standingIn_38 : decode cX10_standingIn 38 = .ok (.iconst 1, 1) := by decide +kernel
theorem dX10_standingIn_39 : decode cX10_standingIn 39 = .ok (.goto 4, 3) := by decide +kernel
theorem dX10_standingIn_42 : decode cX10_standingIn 42 = .ok (.iconst 0, 1) := by decide +kernel
theorem dX10_standingIn_43 : decode cX10_standingIn 43 = .ok (.invokestatic 138, 3) := by decide +kernel
theorem dX10_standingIn_46 : decode cX10_standingIn 46 = .ok (.iadd, 1) := by decide +kernel
theorem dX10_standingIn_47 : decode cX10_standingIn 47 = .ok (.istore_n 2, 1) := by decide +kernel
theorem dX10_standingIn_48 : decode cX10_standingIn 48 = .ok (.iinc 3 1, 3) := by decide +kernel
theorem dX10_standingIn_51 : decode cX10_standingIn 51 = .ok (.goto (-47), 3) := by decide +kernel
theorem dX10_standingIn_54 : decode cX10_standingIn 54 = .ok (.iload_n 2, 1) := by decide +kernel
theorem dX10_standingIn_55 : decode cX10_standingIn 55 = .ok (.ireturn, 1) := by decide +kernel
theorem dX10_rule_0 : decode cX10_rule 0 = .ok (.aload_n 0, 1) := by decide +kernel
theorem dX10_rule_1 : decode cX10_rule 1 = .ok (.iload_n 3, 1) := by decide +kernel
theorem dX10_rule_2 : decode cX10_rule 2 = .ok (.invokevirtual 156, 3) := by decide +kernel
theorem dX10_rule_5 : decode cX10_rule 5 = .ok (.astore 4, 2) := by decide +kernel
theorem dX10_rule_7 : decode cX10_rule 7 = .ok (.aload 4, 2) := by decide +kernel
theorem dX10_rule_9 : decode cX10_rule 9 = .ok (.ifnull 12, 3) := by decide +kernel
theorem dX10_rule_12 : decode cX10_rule 12 = .ok (.iload_n 1, 1) := by decide +kernel
theorem dX10_rule_13 : decode cX10_rule 13 = .ok (.iconst 1, 1) := by decide +kernel
theorem dX10_rule_14 : decode cX10_rule 14 = .ok (.iconst 3, 1) := by decide +kernel
theorem dX10_rule_15 : decode cX10_rule 15 = .ok (.invokestatic 99, 3) := by decide +kernel
theorem dX10_rule_18 : decode cX10_rule 18 = .ok (.ifCond .ne 9, 3) := by decide +kernel
theorem dX10_rule_21 : decode cX10_rule 21 = .ok (.aload_n 0, 1) := by decide +kernel
theorem dX10_rule_22 : decode cX10_rule 22 = .ok (.iconst (-1), 1) := by decide +kernel
theorem dX10_rule_23 : decode cX10_rule 23 = .ok (.invokevirtual 95, 3) := by decide +kernel
theorem dX10_rule_26 : decode cX10_rule 26 = .ok (.ireturn, 1) := by decide +kernel
theorem dX10_rule_27 : decode cX10_rule 27 = .ok (.aload 4, 2) := by decide +kernel
theorem dX10_rule_29 : decode cX10_rule 29 = .ok (.invokestatic 164, 3) := by decide +kernel
theorem dX10_rule_32 : decode cX10_rule 32 = .ok (.istore 5, 2) := by decide +kernel
theorem dX10_rule_34 : decode cX10_rule 34 = .ok (.iload 5, 2) := by decide +kernel
theorem dX10_rule_36 : decode cX10_rule 36 = .ok (.ifCond .eq 10, 3) := by decide +kernel
theorem dX10_rule_39 : decode cX10_rule 39 = .ok (.aload_n 0, 1) := by decide +kernel
theorem dX10_rule_40 : decode cX10_rule 40 = .ok (.iload 5, 2) := by decide +kernel
theorem dX10_rule_42 : decode cX10_rule 42 = .ok (.invokevirtual 95, 3) := by decide +kernel
theorem dX10_rule_45 : decode cX10_rule 45 = .ok (.ireturn, 1) := by decide +kernel
theorem dX10_rule_46 : decode cX10_rule 46 = .ok (.iload_n 2, 1) := by decide +kernel
theorem dX10_rule_47 : decode cX10_rule 47 = .ok (.iconst 0, 1) := by decide +kernel
theorem dX10_rule_48 : decode cX10_rule 48 = .ok (.sipush 4000, 3) := by decide +kernel
theorem dX10_rule_51 : decode cX10_rule 51 = .ok (.invokestatic 99, 3) := by decide +kernel
theorem dX10_rule_54 : decode cX10_rule 54 = .ok (.ifCond .ne 10, 3) := by decide +kernel
theorem dX10_rule_57 : decode cX10_rule 57 = .ok (.aload_n 0, 1) := by decide +kernel
theorem dX10_rule_58 : decode cX10_rule 58 = .ok (.bipush (-6), 2) := by decide +kernel
theorem dX10_rule_60 : decode cX10_rule 60 = .ok (.invokevirtual 95, 3) := by decide +kernel
theorem dX10_rule_63 : decode cX10_rule 63 = .ok (.ireturn, 1) := by decide +kernel
theorem dX10_rule_64 : decode cX10_rule 64 = .ok (.aload_n 0, 1) := by decide +kernel
theorem dX10_rule_65 : decode cX10_rule 65 = .ok (.getfield 55, 3) := by decide +kernel
theorem dX10_rule_68 : decode cX10_rule 68 = .ok (.aload 4, 2) := by decide +kernel
theorem dX10_rule_70 : decode cX10_rule 70 = .ok (.getfield 171, 3) := by decide +kernel
theorem dX10_rule_73 : decode cX10_rule 73 = .ok (.aload 4, 2) := by decide +kernel
theorem dX10_rule_75 : decode cX10_rule 75 = .ok (.getfield 168, 3) := by decide +kernel
theorem dX10_rule_78 : decode cX10_rule 78 = .ok (.invokevirtual 336, 3) := by decide +kernel
theorem dX10_rule_81 : decode cX10_rule 81 = .ok (.aload_n 0, 1) := by decide +kernel
theorem dX10_rule_82 : decode cX10_rule 82 = .ok (.getfield 55, 3) := by decide +kernel
theorem dX10_rule_85 : decode cX10_rule 85 = .ok (.invokevirtual 340, 3) := by decide +kernel
theorem dX10_rule_88 : decode cX10_rule 88 = .ok (.aload_n 0, 1) := by decide +kernel
theorem dX10_rule_89 : decode cX10_rule 89 = .ok (.aload_n 0, 1) := by decide +kernel
theorem dX10_rule_90 : decode cX10_rule 90 = .ok (.getfield 55, 3) := by decide +kernel
theorem dX10_rule_93 : decode cX10_rule 93 = .ok (.getfield 343, 3) := by decide +kernel
theorem dX10_rule_96 : decode cX10_rule 96 = .ok (.putfield 80, 3) := by decide +kernel
theorem dX10_rule_99 : decode cX10_rule 99 = .ok (.aload_n 0, 1) := by decide +kernel
theorem dX10_rule_100 : decode cX10_rule 100 = .ok (.getfield 80, 3) := by decide +kernel
theorem dX10_rule_103 : decode cX10_rule 103 = .ok (.iconst (-1), 1) := by decide +kernel
theorem dX10_rule_104 : decode cX10_rule 104 = .ok (.if_icmp .eq 10, 3) := by decide +kernel
theorem dX10_rule_107 : decode cX10_rule 107 = .ok (.aload_n 0, 1) := by decide +kernel
theorem dX10_rule_108 : decode cX10_rule 108 = .ok (.bipush (-6), 2) := by decide +kernel
theorem dX10_rule_110 : decode cX10_rule 110 = .ok (.invokevirtual 95, 3) := by decide +kernel
theorem dX10_rule_113 : decode cX10_rule 113 = .ok (.ireturn, 1) := by decide +kernel
theorem dX10_rule_114 : decode cX10_rule 114 = .ok (.aload_n 0, 1) := by decide +kernel
theorem dX10_rule_115 : decode cX10_rule 115 = .ok (.getfield 346, 3) := by decide +kernel
theorem dX10_rule_118 : decode cX10_rule 118 = .ok (.bipush 12, 2) := by decide +kernel
theorem dX10_rule_120 : decode cX10_rule 120 = .ok (.if_icmp .lt 10, 3) := by decide +kernel
theorem dX10_rule_123 : decode cX10_rule 123 = .ok (.aload_n 0, 1) := by decide +kernel
theorem dX10_rule_124 : decode cX10_rule 124 = .ok (.bipush (-7), 2) := by decide +kernel
theorem dX10_rule_126 : decode cX10_rule 126 = .ok (.invokevirtual 95, 3) := by decide +kernel
theorem dX10_rule_129 : decode cX10_rule 129 = .ok (.ireturn, 1) := by decide +kernel
theorem dX10_rule_130 : decode cX10_rule 130 = .ok (.aload_n 0, 1) := by decide +kernel
theorem dX10_rule_131 : decode cX10_rule 131 = .ok (.getfield 346, 3) := by decide +kernel
theorem dX10_rule_134 : decode cX10_rule 134 = .ok (.istore 6, 2) := by decide +kernel
theorem dX10_rule_136 : decode cX10_rule 136 = .ok (.aload_n 0, 1) := by decide +kernel
theorem dX10_rule_137 : decode cX10_rule 137 = .ok (.getfield 35, 3) := by decide +kernel
theorem dX10_rule_140 : decode cX10_rule 140 = .ok (.iload 6, 2) := by decide +kernel
theorem dX10_rule_142 : decode cX10_rule 142 = .ok (.new 33, 3) := by decide +kernel
theorem dX10_rule_145 : decode cX10_rule 145 = .ok (.dup, 1) := by decide +kernel
theorem dX10_rule_146 : decode cX10_rule 146 = .ok (.iload 6, 2) := by decide +kernel
theorem dX10_rule_148 : decode cX10_rule 148 = .ok (.iload_n 1, 1) := by decide +kernel
theorem dX10_rule_149 : decode cX10_rule 149 = .ok (.iload_n 2, 1) := by decide +kernel
theorem dX10_rule_150 : decode cX10_rule 150 = .ok (.aload 4, 2) := by decide +kernel
theorem dX10_rule_152 : decode cX10_rule 152 = .ok (.invokevirtual 222, 3) := by decide +kernel
theorem dX10_rule_155 : decode cX10_rule 155 = .ok (.invokespecial 349, 3) := by decide +kernel
theorem dX10_rule_158 : decode cX10_rule 158 = .ok (.aastore, 1) := by decide +kernel
theorem dX10_rule_159 : decode cX10_rule 159 = .ok (.aload_n 0, 1) := by decide +kernel
theorem dX10_rule_160 : decode cX10_rule 160 = .ok (.dup, 1) := by decide +kernel
theorem dX10_rule_161 : decode cX10_rule 161 = .ok (.getfield 346, 3) := by decide +kernel
theorem dX10_rule_164 : decode cX10_rule 164 = .ok (.iconst 1, 1) := by decide +kernel
theorem dX10_rule_165 : decode cX10_rule 165 = .ok (.iadd, 1) := by decide +kernel
theorem dX10_rule_166 : decode cX10_rule 166 = .ok (.putfield 346, 3) := by decide +kernel
theorem dX10_rule_169 : decode cX10_rule 169 = .ok (.iload 6, 2) := by decide +kernel
theorem dX10_rule_171 : decode cX10_rule 171 = .ok (.ireturn, 1) := by decide +kernel
theorem dX10_fault_0 : decode cX10_fault 0 = .ok (.aload_n 0, 1) := by decide +kernel
theorem dX10_fault_1 : decode cX10_fault 1 = .ok (.getfield 80, 3) := by decide +kernel
theorem dX10_fault_4 : decode cX10_fault 4 = .ok (.ireturn, 1) := by decide +kernel
theorem dX10_strike_0 : decode cX10_strike 0 = .ok (.iload_n 1, 1) := by decide +kernel
theorem dX10_strike_1 : decode cX10_strike 1 = .ok (.iconst 0, 1) := by decide +kernel
theorem dX10_strike_2 : decode cX10_strike 2 = .ok (.aload_n 0, 1) := by decide +kernel
theorem dX10_strike_3 : decode cX10_strike 3 = .ok (.getfield 346, 3) := by decide +kernel
theorem dX10_strike_6 : decode cX10_strike 6 = .ok (.iconst 1, 1) := by decide +kernel
theorem dX10_strike_7 : decode cX10_strike 7 = .ok (.isub, 1) := by decide +kernel
theorem dX10_strike_8 : decode cX10_strike 8 = .ok (.invokestatic 99, 3) := by decide +kernel
theorem dX10_strike_11 : decode cX10_strike 11 = .ok (.ifCond .ne 9, 3) := by decide +kernel
theorem dX10_strike_14 : decode cX10_strike 14 = .ok (.aload_n 0, 1) := by decide +kernel
theorem dX10_strike_15 : decode cX10_strike 15 = .ok (.iconst (-1), 1) := by decide +kernel
theorem dX10_strike_16 : decode cX10_strike 16 = .ok (.invokevirtual 95, 3) := by decide +kernel
theorem dX10_strike_19 : decode cX10_strike 19 = .ok (.ireturn, 1) := by decide +kernel
theorem dX10_strike_20 : decode cX10_strike 20 = .ok (.aload_n 0, 1) := by decide +kernel
theorem dX10_strike_21 : decode cX10_strike 21 = .ok (.getfield 35, 3) := by decide +kernel
theorem dX10_strike_24 : decode cX10_strike 24 = .ok (.iload_n 1, 1) := by decide +kernel
theorem dX10_strike_25 : decode cX10_strike 25 = .ok (.aaload, 1) := by decide +kernel
theorem dX10_strike_26 : decode cX10_strike 26 = .ok (.astore_n 2, 1) := by decide +kernel
theorem dX10_strike_27 : decode cX10_strike 27 = .ok (.aload_n 2, 1) := by decide +kernel
theorem dX10_strike_28 : decode cX10_strike 28 = .ok (.getfield 352, 3) := by decide +kernel
theorem dX10_strike_31 : decode cX10_strike 31 = .ok (.iconst (-1), 1) := by decide +kernel
theorem dX10_strike_32 : decode cX10_strike 32 = .ok (.if_icmp .eq 10, 3) := by decide +kernel
theorem dX10_strike_35 : decode cX10_strike 35 = .ok (.aload_n 0, 1) := by decide +kernel
theorem dX10_strike_36 : decode cX10_strike 36 = .ok (.bipush (-6), 2) := by decide +kernel
theorem dX10_strike_38 : decode cX10_strike 38 = .ok (.invokevirtual 95, 3) := by decide +kernel
theorem dX10_strike_41 : decode cX10_strike 41 = .ok (.ireturn, 1) := by decide +kernel
theorem dX10_strike_42 : decode cX10_strike 42 = .ok (.aload_n 2, 1) := by decide +kernel
theorem dX10_strike_43 : decode cX10_strike 43 = .ok (.aload_n 0, 1) := by decide +kernel
theorem dX10_strike_44 : decode cX10_strike 44 = .ok (.getfield 114, 3) := by decide +kernel
theorem dX10_strike_47 : decode cX10_strike 47 = .ok (.putfield 352, 3) := by decide +kernel
theorem dX10_strike_50 : decode cX10_strike 50 = .ok (.iconst 1, 1) := by decide +kernel
theorem dX10_strike_51 : decode cX10_strike 51 = .ok (.ireturn, 1) := by decide +kernel
theorem dX10_force_0 : decode cX10_force 0 = .ok (.aload_n 0, 1) := by decide +kernel
theorem dX10_force_1 : decode cX10_force 1 = .ok (.iload_n 1, 1) := by decide +kernel
theorem dX10_force_2 : decode cX10_force 2 = .ok (.iload_n 2, 1) := by decide +kernel
theorem dX10_force_3 : decode cX10_force 3 = .ok (.invokevirtual 355, 3) := by decide +kernel
theorem dX10_force_6 : decode cX10_force 6 = .ok (.astore_n 3, 1) := by decide +kernel
theorem dX10_force_7 : decode cX10_force 7 = .ok (.aload_n 3, 1) := by decide +kernel
theorem dX10_force_8 : decode cX10_force 8 = .ok (.ifnonnull 7, 3) := by decide +kernel
theorem dX10_force_11 : decode cX10_force 11 = .ok (.iconst (-1), 1) := by decide +kernel
theorem dX10_force_12 : decode cX10_force 12 = .ok (.goto 7, 3) := by decide +kernel
theorem dX10_force_15 : decode cX10_force 15 = .ok (.aload_n 3, 1) := by decide +kernel
theorem dX10_force_16 : decode cX10_force 16 = .ok (.getfield 359, 3) := by decide +kernel
theorem dX10_force_19 : decode cX10_force 19 = .ok (.ireturn, 1) := by decide +kernel
theorem dX10_vote_0 : decode cX10_vote 0 = .ok (.aload_n 0, 1) := by decide +kernel
theorem dX10_vote_1 : decode cX10_vote 1 = .ok (.iload_n 1, 1) := by decide +kernel
theorem dX10_vote_2 : decode cX10_vote 2 = .ok (.invokevirtual 91, 3) := by decide +kernel
theorem dX10_vote_5 : decode cX10_vote 5 = .ok (.astore 4, 2) := by decide +kernel
theorem dX10_vote_7 : decode cX10_vote 7 = .ok (.aload 4, 2) := by decide +kernel
theorem dX10_vote_9 : decode cX10_vote 9 = .ok (.ifnonnull 9, 3) := by decide +kernel
theorem dX10_vote_12 : decode cX10_vote 12 = .ok (.aload_n 0, 1) := by decide +kernel
theorem dX10_vote_13 : decode cX10_vote 13 = .ok (.iconst (-1), 1) := by decide +kernel
theorem dX10_vote_14 : decode cX10_vote 14 = .ok (.invokevirtual 95, 3) := by decide +kernel
theorem dX10_vote_17 : decode cX10_vote 17 = .ok (.ireturn, 1) := by decide +kernel
theorem dX10_vote_18 : decode cX10_vote 18 = .ok (.iload_n 2, 1) := by decide +kernel
theorem dX10_vote_19 : decode cX10_vote 19 = .ok (.iconst 0, 1) := by decide +kernel
theorem dX10_vote_20 : decode cX10_vote 20 = .ok (.bipush 15, 2) := by decide +kernel
theorem dX10_vote_22 : decode cX10_vote 22 = .ok (.invokestatic 99, 3) := by decide +kernel
theorem dX10_vote_25 : decode cX10_vote 25 = .ok (.ifCond .eq 13, 3) := by decide +kernel
theorem dX10_vote_28 : decode cX10_vote 28 = .ok (.iload_n 3, 1) := by decide +kernel
theorem dX10_vote_29 : decode cX10_vote 29 = .ok (.iconst 0, 1) := by decide +kernel
theorem dX10_vote_30 : decode cX10_vote 30 = .ok (.bipush 99, 2) := by decide +kernel
theorem dX10_vote_32 : decode cX10_vote 32 = .ok (.invokestatic 99, 3) := by decide +kernel
theorem dX10_vote_35 : decode cX10_vote 35 = .ok (.ifCond .ne 10, 3) := by decide +kernel
theorem dX10_vote_38 : decode cX10_vote 38 = .ok (.aload_n 0, 1) := by decide +kernel
theorem dX10_vote_39 : decode cX10_vote 39 = .ok (.bipush (-6), 2) := by decide +kernel
theorem dX10_vote_41 : decode cX10_vote 41 = .ok (.invokevirtual 95, 3) := by decide +kernel
theorem dX10_vote_44 : decode cX10_vote 44 = .ok (.ireturn, 1) := by decide +kernel
theorem dX10_vote_45 : decode cX10_vote 45 = .ok (.aload 4, 2) := by decide +kernel
theorem dX10_vote_47 : decode cX10_vote 47 = .ok (.getfield 360, 3) := by decide +kernel
theorem dX10_vote_50 : decode cX10_vote 50 = .ok (.iload_n 2, 1) := by decide +kernel
theorem dX10_vote_51 : decode cX10_vote 51 = .ok (.iaload, 1) := by decide +kernel
theorem dX10_vote_52 : decode cX10_vote 52 = .ok (.istore 5, 2) := by decide +kernel
theorem dX10_vote_54 : decode cX10_vote 54 = .ok (.aload 4, 2) := by decide +kernel
theorem dX10_vote_56 : decode cX10_vote 56 = .ok (.getfield 360, 3) := by decide +kernel
theorem dX10_vote_59 : decode cX10_vote 59 = .ok (.iload_n 2, 1) := by decide +kernel
theorem dX10_vote_60 : decode cX10_vote 60 = .ok (.iload_n 3, 1) := by decide +kernel
theorem dX10_vote_61 : decode cX10_vote 61 = .ok (.iastore, 1) := by decide +kernel
theorem dX10_vote_62 : decode cX10_vote 62 = .ok (.iload 5, 2) := by decide +kernel
theorem dX10_vote_64 : decode cX10_vote 64 = .ok (.ireturn, 1) := by decide +kernel
theorem dX10_make_0 : decode cX10_make 0 = .ok (.aload_n 0, 1) := by decide +kernel
theorem dX10_make_1 : decode cX10_make 1 = .ok (.iload_n 1, 1) := by decide +kernel
theorem dX10_make_2 : decode cX10_make 2 = .ok (.invokevirtual 91, 3) := by decide +kernel
theorem dX10_make_5 : decode cX10_make 5 = .ok (.astore_n 2, 1) := by decide +kernel
theorem dX10_make_6 : decode cX10_make 6 = .ok (.aload_n 2, 1) := by decide +kernel
theorem dX10_make_7 : decode cX10_make 7 = .ok (.ifnonnull 9, 3) := by decide +kernel
theorem dX10_make_10 : decode cX10_make 10 = .ok (.aload_n 0, 1) := by decide +kernel
theorem dX10_make_11 : decode cX10_make 11 = .ok (.iconst (-1), 1) := by decide +kernel
theorem dX10_make_12 : decode cX10_make 12 = .ok (.invokevirtual 95, 3) := by decide +kernel
theorem dX10_make_15 : decode cX10_make 15 = .ok (.ireturn, 1) := by decide +kernel
theorem dX10_make_16 : decode cX10_make 16 = .ok (.aload_n 2, 1) := by decide +kernel
theorem dX10_make_17 : decode cX10_make 17 = .ok (.getfield 103, 3) := by decide +kernel
theorem dX10_make_20 : decode cX10_make 20 = .ok (.ifCond .eq 10, 3) := by decide +kernel
theorem dX10_make_23 : decode cX10_make 23 = .ok (.aload_n 2, 1) := by decide +kernel
theorem dX10_make_24 : decode cX10_make 24 = .ok (.getfield 134, 3) := by decide +kernel
theorem dX10_make_27 : decode cX10_make 27 = .ok (.ifCond .eq 10, 3) := by decide +kernel
theorem dX10_make_30 : decode cX10_make 30 = .ok (.aload_n 0, 1) := by decide +kernel
theorem dX10_make_31 : decode cX10_make 31 = .ok (.bipush (-6), 2) := by decide +kernel
theorem dX10_make_33 : decode cX10_make 33 = .ok (.invokevirtual 95, 3) := by decide +kernel
theorem dX10_make_36 : decode cX10_make 36 = .ok (.ireturn, 1) := by decide +kernel
theorem dX10_make_37 : decode cX10_make 37 = .ok (.aload_n 0, 1) := by decide +kernel
theorem dX10_make_38 : decode cX10_make 38 = .ok (.aload_n 2, 1) := by decide +kernel
theorem dX10_make_39 : decode cX10_make 39 = .ok (.invokevirtual 363, 3) := by decide +kernel
theorem dX10_make_42 : decode cX10_make 42 = .ok (.aload_n 0, 1) := by decide +kernel
theorem dX10_make_43 : decode cX10_make 43 = .ok (.aload_n 2, 1) := by decide +kernel
theorem dX10_make_44 : decode cX10_make 44 = .ok (.invokevirtual 367, 3) := by decide +kernel
theorem dX10_make_47 : decode cX10_make 47 = .ok (.istore_n 3, 1) := by decide +kernel
theorem dX10_make_48 : decode cX10_make 48 = .ok (.aload_n 0, 1) := by decide +kernel
theorem dX10_make_49 : decode cX10_make 49 = .ok (.getfield 249, 3) := by decide +kernel
theorem dX10_make_52 : decode cX10_make 52 = .ok (.iload_n 3, 1) := by decide +kernel
theorem dX10_make_53 : decode cX10_make 53 = .ok (.iadd, 1) := by decide +kernel
theorem dX10_make_54 : decode cX10_make 54 = .ok (.sipush 160, 3) := by decide +kernel
theorem dX10_make_57 : decode cX10_make 57 = .ok (.if_icmp .le 10, 3) := by decide +kernel
theorem dX10_make_60 : decode cX10_make 60 = .ok (.aload_n 0, 1) := by decide +kernel
theorem dX10_make_61 : decode cX10_make 61 = .ok (.bipush (-7), 2) := by decide +kernel
theorem dX10_make_63 : decode cX10_make 63 = .ok (.invokevirtual 95, 3) := by decide +kernel
theorem dX10_make_66 : decode cX10_make 66 = .ok (.ireturn, 1) := by decide +kernel
theorem dX10_make_67 : decode cX10_make 67 = .ok (.iconst 0, 1) := by decide +kernel
theorem dX10_make_68 : decode cX10_make 68 = .ok (.istore 4, 2) := by decide +kernel
theorem dX10_make_70 : decode cX10_make 70 = .ok (.iload 4, 2) := by decide +kernel
theorem dX10_make_72 : decode cX10_make 72 = .ok (.aload_n 0, 1) := by decide +kernel
theorem dX10_make_73 : decode cX10_make 73 = .ok (.getfield 62, 3) := by decide +kernel
theorem dX10_make_76 : decode cX10_make 76 = .ok (.getfield 370, 3) := by decide +kernel
theorem dX10_make_79 : decode cX10_make 79 = .ok (.if_icmp .ge 43, 3) := by decide +kernel
theorem dX10_make_82 : decode cX10_make 82 = .ok (.aload_n 0, 1) := by decide +kernel
theorem dX10_make_83 : decode cX10_make 83 = .ok (.getfield 62, 3) := by decide +kernel
theorem dX10_make_86 : decode cX10_make 86 = .ok (.getfield 371, 3) := by decide +kernel
theorem dX10_make_89 : decode cX10_make 89 = .ok (.iload 4, 2) := by decide +kernel
theorem dX10_make_91 : decode cX10_make 91 = .ok (.iaload, 1) := by decide +kernel
theorem dX10_make_92 : decode cX10_make 92 = .ok (.iconst (-1), 1) := by decide +kernel
theorem dX10_make_93 : decode cX10_make 93 = .ok (.if_icmp .ne 16, 3) := by decide +kernel
theorem dX10_make_96 : decode cX10_make 96 = .ok (.aload_n 0, 1) := by decide +kernel
theorem dX10_make_97 : decode cX10_make 97 = .ok (.getfield 62, 3) := by decide +kernel
theorem dX10_make_100 : decode cX10_make 100 = .ok (.iload 4, 2) := by decide +kernel
theorem dX10_make_102 : decode cX10_make 102 = .ok (.aload_n 2, 1) := by decide +kernel
theorem dX10_make_103 : decode cX10_make 103 = .ok (.invokevirtual 374, 3) := by decide +kernel
theorem dX10_make_106 : decode cX10_make 106 = .ok (.goto 10, 3) := by decide +kernel
theorem dX10_make_109 : decode cX10_make 109 = .ok (.aload_n 0, 1) := by decide +kernel
theorem dX10_make_110 : decode cX10_make 110 = .ok (.iload 4, 2) := by decide +kernel
theorem dX10_make_112 : decode cX10_make 112 = .ok (.aload_n 2, 1) := by decide +kernel
theorem dX10_make_113 : decode cX10_make 113 = .ok (.invokevirtual 378, 3) := by decide +kernel
theorem dX10_make_116 : decode cX10_make 116 = .ok (.iinc 4 1, 3) := by decide +kernel
theorem dX10_make_119 : decode cX10_make 119 = .ok (.goto (-49), 3) := by decide +kernel
theorem dX10_make_122 : decode cX10_make 122 = .ok (.aload_n 2, 1) := by decide +kernel
theorem dX10_make_123 : decode cX10_make 123 = .ok (.iconst 1, 1) := by decide +kernel
theorem dX10_make_124 : decode cX10_make 124 = .ok (.putfield 134, 3) := by decide +kernel
theorem dX10_make_127 : decode cX10_make 127 = .ok (.iload_n 3, 1) := by decide +kernel
theorem dX10_make_128 : decode cX10_make 128 = .ok (.ireturn, 1) := by decide +kernel
theorem dX10_said_0 : decode cX10_said 0 = .ok (.aload_n 0, 1) := by decide +kernel
theorem dX10_said_1 : decode cX10_said 1 = .ok (.iload_n 1, 1) := by decide +kernel
theorem dX10_said_2 : decode cX10_said 2 = .ok (.invokevirtual 91, 3) := by decide +kernel
theorem dX10_said_5 : decode cX10_said 5 = .ok (.astore_n 2, 1) := by decide +kernel
theorem dX10_said_6 : decode cX10_said 6 = .ok (.aload_n 2, 1) := by decide +kernel
theorem dX10_said_7 : decode cX10_said 7 = .ok (.ifnull 10, 3) := by decide +kernel
theorem dX10_said_10 : decode cX10_said 10 = .ok (.aload_n 2, 1) := by decide +kernel
theorem dX10_said_11 : decode cX10_said 11 = .ok (.getfield 134, 3) := by decide +kernel
theorem dX10_said_14 : decode cX10_said 14 = .ok (.ifCond .ne 5, 3) := by decide +kernel
theorem dX10_said_17 : decode cX10_said 17 = .ok (.iconst (-1), 1) := by decide +kernel
theorem dX10_said_18 : decode cX10_said 18 = .ok (.ireturn, 1) := by decide +kernel
theorem dX10_said_19 : decode cX10_said 19 = .ok (.iconst 0, 1) := by decide +kernel
theorem dX10_said_20 : decode cX10_said 20 = .ok (.istore_n 3, 1) := by decide +kernel
theorem dX10_said_21 : decode cX10_said 21 = .ok (.iconst 0, 1) := by decide +kernel
theorem dX10_said_22 : decode cX10_said 22 = .ok (.istore 4, 2) := by decide +kernel
theorem dX10_said_24 : decode cX10_said 24 = .ok (.iload 4, 2) := by decide +kernel
theorem dX10_said_26 : decode cX10_said 26 = .ok (.aload_n 0, 1) := by decide +kernel
theorem dX10_said_27 : decode cX10_said 27 = .ok (.getfield 249, 3) := by decide +kernel
theorem dX10_said_30 : decode cX10_said 30 = .ok (.if_icmp .ge 54, 3) := by decide +kernel
theorem dX10_said_33 : decode cX10_said 33 = .ok (.aload_n 0, 1) := by decide +kernel
theorem dX10_said_34 : decode cX10_said 34 = .ok (.getfield 23, 3) := by decide +kernel
theorem dX10_said_37 : decode cX10_said 37 = .ok (.iload 4, 2) := by decide +kernel
theorem dX10_said_39 : decode cX10_said 39 = .ok (.aaload, 1) := by decide +kernel
theorem dX10_said_40 : decode cX10_said 40 = .ok (.astore 5, 2) := by decide +kernel
theorem dX10_said_42 : decode cX10_said 42 = .ok (.aload 5, 2) := by decide +kernel
theorem dX10_said_44 : decode cX10_said 44 = .ok (.getfield 315, 3) := by decide +kernel
theorem dX10_said_47 : decode cX10_said 47 = .ok (.ifnull 31, 3) := by decide +kernel
theorem dX10_said_50 : decode cX10_said 50 = .ok (.aload 5, 2) := by decide +kernel
theorem dX10_said_52 : decode cX10_said 52 = .ok (.getfield 315, 3) := by decide +kernel
theorem dX10_said_55 : decode cX10_said 55 = .ok (.getfield 255, 3) := by decide +kernel
theorem dX10_said_58 : decode cX10_said 58 = .ok (.aload_n 2, 1) := by decide +kernel
theorem dX10_said_59 : decode cX10_said 59 = .ok (.if_acmp .ne 19, 3) := by decide +kernel
theorem dX10_said_62 : decode cX10_said 62 = .ok (.iload_n 3, 1) := by decide +kernel
theorem dX10_said_63 : decode cX10_said 63 = .ok (.aload 5, 2) := by decide +kernel
theorem dX10_said_65 : decode cX10_said 65 = .ok (.aload 5, 2) := by decide +kernel
theorem dX10_said_67 : decode cX10_said 67 = .ok (.getfield 315, 3) := by decide +kernel
theorem dX10_said_70 : decode cX10_said 70 = .ok (.getfield 216, 3) := by decide +kernel
theorem dX10_said_73 : decode cX10_said 73 = .ok (.invokevirtual 381, 3) := by decide +kernel
theorem dX10_said_76 : decode cX10_said 76 = .ok (.iadd, 1) := by decide +kernel
theorem dX10_said_77 : decode cX10_said 77 = .ok (.istore_n 3, 1) := by decide +kernel
theorem dX10_said_78 : decode cX10_said 78 = .ok (.iinc 4 1, 3) := by decide +kernel
theorem dX10_said_81 : decode cX10_said 81 = .ok (.goto (-57), 3) := by decide +kernel
theorem dX10_said_84 : decode cX10_said 84 = .ok (.iload_n 3, 1) := by decide +kernel
theorem dX10_said_85 : decode cX10_said 85 = .ok (.ireturn, 1) := by decide +kernel
theorem dX10_ruleInForce_0 : decode cX10_ruleInForce 0 = .ok (.aconst_null, 1) := by decide +kernel
theorem dX10_ruleInForce_1 : decode cX10_ruleInForce 1 = .ok (.astore_n 3, 1) := by decide +kernel
theorem dX10_ruleInForce_2 : decode cX10_ruleInForce 2 = .ok (.iconst 0, 1) := by decide +kernel
theorem dX10_ruleInForce_3 : decode cX10_ruleInForce 3 = .ok (.istore 4, 2) := by decide +kernel
theorem dX10_ruleInForce_5 : decode cX10_ruleInForce 5 = .ok (.iload 4, 2) := by decide +kernel
theorem dX10_ruleInForce_7 : decode cX10_ruleInForce 7 = .ok (.aload_n 0, 1) := by decide +kernel
theorem dX10_ruleInForce_8 : decode cX10_ruleInForce 8 = .ok (.getfield 346, 3) := by decide +kernel
theorem dX10_ruleInForce_11 : decode cX10_ruleInForce 11 = .ok (.if_icmp .ge 85, 3) := by decide +kernel
theorem dX10_ruleInForce_14 : decode cX10_ruleInForce 14 = .ok (.aload_n 0, 1) := by decide +kernel
theorem dX10_ruleInForce_15 : decode cX10_ruleInForce 15 = .ok (.getfield 35, 3) := by decide +kernel
theorem dX10_ruleInForce_18 : decode cX10_ruleInForce 18 = .ok (.iload 4, 2) := by decide +kernel
theorem dX10_ruleInForce_20 : decode cX10_ruleInForce 20 = .ok (.aaload, 1) := by decide +kernel
theorem dX10_ruleInForce_21 : decode cX10_ruleInForce 21 = .ok (.astore 5, 2) := by decide +kernel
theorem dX10_ruleInForce_23 : decode cX10_ruleInForce 23 = .ok (.aload 5, 2) := by decide +kernel
theorem dX10_ruleInForce_25 : decode cX10_ruleInForce 25 = .ok (.getfield 352, 3) := by decide +kernel
theorem dX10_ruleInForce_28 : decode cX10_ruleInForce 28 = .ok (.iconst (-1), 1) := by decide +kernel
theorem dX10_ruleInForce_29 : decode cX10_ruleInForce 29 = .ok (.if_icmp .eq 16, 3) := by decide +kernel
theorem dX10_ruleInForce_32 : decode cX10_ruleInForce 32 = .ok (.aload 5, 2) := by decide +kernel
theorem dX10_ruleInForce_34 : decode cX10_ruleInForce 34 = .ok (.getfield 352, 3) := by decide +kernel
theorem dX10_ruleInForce_37 : decode cX10_ruleInForce 37 = .ok (.iload_n 2, 1) := by decide +kernel
theorem dX10_ruleInForce_38 : decode cX10_ruleInForce 38 = .ok (.if_icmp .gt 7, 3) := by decide +kernel
theorem dX10_ruleInForce_41 : decode cX10_ruleInForce 41 = .ok (.iconst 1, 1) := by decide +kernel
theorem dX10_ruleInForce_42 : decode cX10_ruleInForce 42 = .ok (.goto 4, 3) := by decide +kernel
theorem dX10_ruleInForce_45 : decode cX10_ruleInForce 45 = .ok (.iconst 0, 1) := by decide +kernel
theorem dX10_ruleInForce_46 : decode cX10_ruleInForce 46 = .ok (.istore 6, 2) := by decide +kernel
theorem dX10_ruleInForce_48 : decode cX10_ruleInForce 48 = .ok (.aload 5, 2) := by decide +kernel
theorem dX10_ruleInForce_50 : decode cX10_ruleInForce 50 = .ok (.getfield 384, 3) := by decide +kernel
theorem dX10_ruleInForce_53 : decode cX10_ruleInForce 53 = .ok (.iload_n 1, 1) := by decide +kernel
theorem dX10_ruleInForce_54 : decode cX10_ruleInForce 54 = .ok (.if_icmp .ne 36, 3) := by decide +kernel
theorem dX10_ruleInForce_57 : decode cX10_ruleInForce 57 = .ok (.aload 5, 2) := by decide +kernel
theorem dX10_ruleInForce_59 : decode cX10_ruleInForce 59 = .ok (.getfield 385, 3) := by decide +kernel
theorem dX10_ruleInForce_62 : decode cX10_ruleInForce 62 = .ok (.iload_n 2, 1) := by decide +kernel
theorem dX10_ruleInForce_63 : decode cX10_ruleInForce 63 = .ok (.if_icmp .gt 27, 3) := by decide +kernel
theorem dX10_ruleInForce_66 : decode cX10_ruleInForce 66 = .ok (.iload 6, 2) := by decide +kernel
theorem dX10_ruleInForce_68 : decode cX10_ruleInForce 68 = .ok (.ifCond .ne 22, 3) := by decide +kernel
theorem dX10_ruleInForce_71 : decode cX10_ruleInForce 71 = .ok (.aload_n 3, 1) := by decide +kernel
theorem dX10_ruleInForce_72 : decode cX10_ruleInForce 72 = .ok (.ifnull 15, 3) := by decide +kernel
theorem dX10_ruleInForce_75 : decode cX10_ruleInForce 75 = .ok (.aload 5, 2) := by decide +kernel
theorem dX10_ruleInForce_77 : decode cX10_ruleInForce 77 = .ok (.getfield 385, 3) := by decide +kernel
theorem dX10_ruleInForce_80 : decode cX10_ruleInForce 80 = .ok (.aload_n 3, 1) := by decide +kernel
theorem dX10_ruleInForce_81 : decode cX10_ruleInForce 81 = .ok (.getfield 385, 3) := by decide +kernel
theorem dX10_ruleInForce_84 : decode cX10_ruleInForce 84 = .ok (.if_icmp .lt 6, 3) := by decide +kernel
theorem dX10_ruleInForce_87 : decode cX10_ruleInForce 87 = .ok (.aload 5, 2) := by decide +kernel
theorem dX10_ruleInForce_89 : decode cX10_ruleInForce 89 = .ok (.astore_n 3, 1) := by decide +kernel
theorem dX10_ruleInForce_90 : decode cX10_ruleInForce 90 = .ok (.iinc 4 1, 3) := by decide +kernel
theorem dX10_ruleInForce_93 : decode cX10_ruleInForce 93 = .ok (.goto (-88), 3) := by decide +kernel
theorem dX10_ruleInForce_96 : decode cX10_ruleInForce 96 = .ok (.aload_n 3, 1) := by decide +kernel
theorem dX10_ruleInForce_97 : decode cX10_ruleInForce 97 = .ok (.areturn, 1) := by decide +kernel
theorem dX10_gather_0 : decode cX10_gather 0 = .ok (.aload_n 0, 1) := by decide +kernel
theorem dX10_gather_1 : decode cX10_gather 1 = .ok (.getfield 62, 3) := by decide +kernel
theorem dX10_gather_4 : decode cX10_gather 4 = .ok (.invokevirtual 386, 3) := by decide +kernel
theorem dX10_gather_7 : decode cX10_gather 7 = .ok (.iconst 0, 1) := by decide +kernel
theorem dX10_gather_8 : decode cX10_gather 8 = .ok (.istore_n 2, 1) := by decide +kernel
theorem dX10_gather_9 : decode cX10_gather 9 = .ok (.iload_n 2, 1) := by decide +kernel
theorem dX10_gather_10 : decode cX10_gather 10 = .ok (.aload_n 0, 1) := by decide +kernel
theorem dX10_gather_11 : decode cX10_gather 11 = .ok (.getfield 249, 3) := by decide +kernel
theorem dX10_gather_14 : decode cX10_gather 14 = .ok (.if_icmp .ge 50, 3) := by decide +kernel
theorem dX10_gather_17 : decode cX10_gather 17 = .ok (.aload_n 0, 1) := by decide +kernel
theorem dX10_gather_18 : decode cX10_gather 18 = .ok (.getfield 23, 3) := by decide +kernel
theorem dX10_gather_21 : decode cX10_gather 21 = .ok (.iload_n 2, 1) := by decide +kernel
theorem dX10_gather_22 : decode cX10_gather 22 = .ok (.aaload, 1) := by decide +kernel
theorem dX10_gather_23 : decode cX10_gather 23 = .ok (.getfield 255, 3) := by decide +kernel
theorem dX10_gather_26 : decode cX10_gather 26 = .ok (.getfield 117, 3) := by decide +kernel
theorem dX10_gather_29 : decode cX10_gather 29 = .ok (.aload_n 1, 1) := by decide +kernel
theorem dX10_gather_30 : decode cX10_gather 30 = .ok (.if_acmp .ne 28, 3) := by decide +kernel
theorem dX10_gather_33 : decode cX10_gather 33 = .ok (.aload_n 0, 1) := by decide +kernel
theorem dX10_gather_34 : decode cX10_gather 34 = .ok (.getfield 23, 3) := by decide +kernel
theorem dX10_gather_37 : decode cX10_gather 37 = .ok (.iload_n 2, 1) := by decide +kernel
theorem dX10_gather_38 : decode cX10_gather 38 = .ok (.aaload, 1) := by decide +kernel
theorem dX10_gather_39 : decode cX10_gather 39 = .ok (.invokevirtual 300, 3) := by decide +kernel
theorem dX10_gather_42 : decode cX10_gather 42 = .ok (.ifCond .eq 16, 3) := by decide +kernel
theorem dX10_gather_45 : decode cX10_gather 45 = .ok (.aload_n 0, 1) := by decide +kernel
theorem dX10_gather_46 : decode cX10_gather 46 = .ok (.getfield 62, 3) := by decide +kernel
theorem dX10_gather_49 : decode cX10_gather 49 = .ok (.aload_n 0, 1) := by decide +kernel
theorem dX10_gather_50 : decode cX10_gather 50 = .ok (.getfield 23, 3) := by decide +kernel
theorem dX10_gather_53 : decode cX10_gather 53 = .ok (.iload_n 2, 1) := by decide +kernel
theorem dX10_gather_54 : decode cX10_gather 54 = .ok (.aaload, 1) := by decide +kernel
theorem dX10_gather_55 : decode cX10_gather 55 = .ok (.invokevirtual 389, 3) := by decide +kernel
theorem dX10_gather_58 : decode cX10_gather 58 = .ok (.iinc 2 1, 3) := by decide +kernel
theorem dX10_gather_61 : decode cX10_gather 61 = .ok (.goto (-52), 3) := by decide +kernel
theorem dX10_gather_64 : decode cX10_gather 64 = .ok (.aload_n 0, 1) := by decide +kernel
theorem dX10_gather_65 : decode cX10_gather 65 = .ok (.getfield 62, 3) := by decide +kernel
theorem dX10_gather_68 : decode cX10_gather 68 = .ok (.invokevirtual 392, 3) := by decide +kernel
theorem dX10_gather_71 : decode cX10_gather 71 = .ok (.return_, 1) := by decide +kernel
theorem dX10_sift_0 : decode cX10_sift 0 = .ok (.aload_n 0, 1) := by decide +kernel
theorem dX10_sift_1 : decode cX10_sift 1 = .ok (.aload_n 1, 1) := by decide +kernel
theorem dX10_sift_2 : decode cX10_sift 2 = .ok (.getfield 103, 3) := by decide +kernel
theorem dX10_sift_5 : decode cX10_sift 5 = .ok (.aload_n 0, 1) := by decide +kernel
theorem dX10_sift_6 : decode cX10_sift 6 = .ok (.getfield 114, 3) := by decide +kernel
theorem dX10_sift_9 : decode cX10_sift 9 = .ok (.invokevirtual 355, 3) := by decide +kernel
theorem dX10_sift_12 : decode cX10_sift 12 = .ok (.astore_n 2, 1) := by decide +kernel
theorem dX10_sift_13 : decode cX10_sift 13 = .ok (.iconst 0, 1) := by decide +kernel
theorem dX10_sift_14 : decode cX10_sift 14 = .ok (.istore_n 3, 1) := by decide +kernel
theorem dX10_sift_15 : decode cX10_sift 15 = .ok (.iconst 0, 1) := by decide +kernel
theorem dX10_sift_16 : decode cX10_sift 16 = .ok (.istore 4, 2) := by decide +kernel
theorem dX10_sift_18 : decode cX10_sift 18 = .ok (.iload 4, 2) := by decide +kernel
theorem dX10_sift_20 : decode cX10_sift 20 = .ok (.aload_n 0, 1) := by decide +kernel
theorem dX10_sift_21 : decode cX10_sift 21 = .ok (.getfield 62, 3) := by decide +kernel
theorem dX10_sift_24 : decode cX10_sift 24 = .ok (.getfield 370, 3) := by decide +kernel
theorem dX10_sift_27 : decode cX10_sift 27 = .ok (.if_icmp .ge 111, 3) := by decide +kernel
theorem dX10_sift_30 : decode cX10_sift 30 = .ok (.aload_n 0, 1) := by decide +kernel
theorem dX10_sift_31 : decode cX10_sift 31 = .ok (.getfield 62, 3) := by decide +kernel
theorem dX10_sift_34 : decode cX10_sift 34 = .ok (.getfield 371, 3) := by decide +kernel
theorem dX10_sift_37 : decode cX10_sift 37 = .ok (.iload 4, 2) := by decide +kernel
theorem dX10_sift_39 : decode cX10_sift 39 = .ok (.bipush 120, 2) := by decide +kernel
theorem dX10_sift_41 : decode cX10_sift 41 = .ok (.iastore, 1) := by decide +kernel
theorem dX10_sift_42 : decode cX10_sift 42 = .ok (.aload_n 2, 1) := by decide +kernel
theorem dX10_sift_43 : decode cX10_sift 43 = .ok (.ifnull 64, 3) := by decide +kernel
theorem dX10_sift_46 : decode cX10_sift 46 = .ok (.aload_n 0, 1) := by decide +kernel
theorem dX10_sift_47 : decode cX10_sift 47 = .ok (.aload_n 1, 1) := by decide +kernel
theorem dX10_sift_48 : decode cX10_sift 48 = .ok (.iload 4, 2) := by decide +kernel
theorem dX10_sift_50 : decode cX10_sift 50 = .ok (.invokevirtual 395, 3) := by decide +kernel
theorem dX10_sift_53 : decode cX10_sift 53 = .ok (.aload_n 0, 1) := by decide +kernel
theorem dX10_sift_54 : decode cX10_sift 54 = .ok (.getfield 55, 3) := by decide +kernel
theorem dX10_sift_57 : decode cX10_sift 57 = .ok (.aload_n 2, 1) := by decide +kernel
theorem dX10_sift_58 : decode cX10_sift 58 = .ok (.getfield 399, 3) := by decide +kernel
theorem dX10_sift_61 : decode cX10_sift 61 = .ok (.aload_n 2, 1) := by decide +kernel
theorem dX10_sift_62 : decode cX10_sift 62 = .ok (.getfield 399, 3) := by decide +kernel
theorem dX10_sift_65 : decode cX10_sift 65 = .ok (.arraylength, 1) := by decide +kernel
theorem dX10_sift_66 : decode cX10_sift 66 = .ok (.invokevirtual 336, 3) := by decide +kernel
theorem dX10_sift_69 : decode cX10_sift 69 = .ok (.aload_n 0, 1) := by decide +kernel
theorem dX10_sift_70 : decode cX10_sift 70 = .ok (.getfield 55, 3) := by decide +kernel
theorem dX10_sift_73 : decode cX10_sift 73 = .ok (.invokevirtual 340, 3) := by decide +kernel
theorem dX10_sift_76 : decode cX10_sift 76 = .ok (.aload_n 0, 1) := by decide +kernel
theorem dX10_sift_77 : decode cX10_sift 77 = .ok (.getfield 62, 3) := by decide +kernel
theorem dX10_sift_80 : decode cX10_sift 80 = .ok (.getfield 371, 3) := by decide +kernel
theorem dX10_sift_83 : decode cX10_sift 83 = .ok (.iload 4, 2) := by decide +kernel
theorem dX10_sift_85 : decode cX10_sift 85 = .ok (.aload_n 0, 1) := by decide +kernel
theorem dX10_sift_86 : decode cX10_sift 86 = .ok (.getfield 55, 3) := by decide +kernel
theorem dX10_sift_89 : decode cX10_sift 89 = .ok (.getfield 402, 3) := by decide +kernel
theorem dX10_sift_92 : decode cX10_sift 92 = .ok (.ifCond .eq 13, 3) := by decide +kernel
theorem dX10_sift_95 : decode cX10_sift 95 = .ok (.aload_n 0, 1) := by decide +kernel
theorem dX10_sift_96 : decode cX10_sift 96 = .ok (.getfield 55, 3) := by decide +kernel
theorem dX10_sift_99 : decode cX10_sift 99 = .ok (.getfield 405, 3) := by decide +kernel
theorem dX10_sift_102 : decode cX10_sift 102 = .ok (.goto 4, 3) := by decide +kernel
theorem dX10_sift_105 : decode cX10_sift 105 = .ok (.iconst (-1), 1) := by decide +kernel
theorem dX10_sift_106 : decode cX10_sift 106 = .ok (.iastore, 1) := by decide +kernel
theorem dX10_sift_107 : decode cX10_sift 107 = .ok (.iload_n 3, 1) := by decide +kernel
theorem dX10_sift_108 : decode cX10_sift 108 = .ok (.aload_n 0, 1) := by decide +kernel
theorem dX10_sift_109 : decode cX10_sift 109 = .ok (.getfield 62, 3) := by decide +kernel
theorem dX10_sift_112 : decode cX10_sift 112 = .ok (.getfield 371, 3) := by decide +kernel
theorem dX10_sift_115 : decode cX10_sift 115 = .ok (.iload 4, 2) := by decide +kernel
theorem dX10_sift_117 : decode cX10_sift 117 = .ok (.iaload, 1) := by decide +kernel
theorem dX10_sift_118 : decode cX10_sift 118 = .ok (.iconst (-1), 1) := by decide +kernel
theorem dX10_sift_119 : decode cX10_sift 119 = .ok (.if_icmp .eq 7, 3) := by decide +kernel
theorem dX10_sift_122 : decode cX10_sift 122 = .ok (.iconst 1, 1) := by decide +kernel
theorem dX10_sift_123 : decode cX10_sift 123 = .ok (.goto 4, 3) := by decide +kernel
theorem dX10_sift_126 : decode cX10_sift 126 = .ok (.iconst 0, 1) := by decide +kernel
theorem dX10_sift_127 : decode cX10_sift 127 = .ok (.invokestatic 138, 3) := by decide +kernel
theorem dX10_sift_130 : decode cX10_sift 130 = .ok (.iadd, 1) := by decide +kernel
theorem dX10_sift_131 : decode cX10_sift 131 = .ok (.istore_n 3, 1) := by decide +kernel
theorem dX10_sift_132 : decode cX10_sift 132 = .ok (.iinc 4 1, 3) := by decide +kernel
theorem dX10_sift_135 : decode cX10_sift 135 = .ok (.goto (-117), 3) := by decide +kernel
theorem dX10_sift_138 : decode cX10_sift 138 = .ok (.iload_n 3, 1) := by decide +kernel
theorem dX10_sift_139 : decode cX10_sift 139 = .ok (.ireturn, 1) := by decide +kernel
theorem dX10_tellFields_0 : decode cX10_tellFields 0 = .ok (.aload_n 0, 1) := by decide +kernel
theorem dX10_tellFields_1 : decode cX10_tellFields 1 = .ok (.getfield 62, 3) := by decide +kernel
theorem dX10_tellFields_4 : decode cX10_tellFields 4 = .ok (.iload_n 2, 1) := by decide +kernel
theorem dX10_tellFields_5 : decode cX10_tellFields 5 = .ok (.invokevirtual 408, 3) := by decide +kernel
theorem dX10_tellFields_8 : decode cX10_tellFields 8 = .ok (.getfield 252, 3) := by decide +kernel
theorem dX10_tellFields_11 : decode cX10_tellFields 11 = .ok (.istore_n 3, 1) := by decide +kernel
theorem dX10_tellFields_12 : decode cX10_tellFields 12 = .ok (.aload_n 0, 1) := by decide +kernel
theorem dX10_tellFields_13 : decode cX10_tellFields 13 = .ok (.getfield 55, 3) := by decide +kernel
theorem dX10_tellFields_16 : decode cX10_tellFields 16 = .ok (.getfield 411, 3) := by decide +kernel
theorem dX10_tellFields_19 : decode cX10_tellFields 19 = .ok (.iconst 0, 1) := by decide +kernel
theorem dX10_tellFields_20 : decode cX10_tellFields 20 = .ok (.aload_n 0, 1) := by decide +kernel
theorem dX10_tellFields_21 : decode cX10_tellFields 21 = .ok (.getfield 62, 3) := by decide +kernel
theorem dX10_tellFields_24 : decode cX10_tellFields 24 = .ok (.iload_n 2, 1) := by decide +kernel
theorem dX10_tellFields_25 : decode cX10_tellFields 25 = .ok (.invokevirtual 414, 3) := by decide +kernel
theorem dX10_tellFields_28 : decode cX10_tellFields 28 = .ok (.iastore, 1) := by decide +kernel
theorem dX10_tellFields_29 : decode cX10_tellFields 29 = .ok (.aload_n 0, 1) := by decide +kernel
theorem dX10_tellFields_30 : decode cX10_tellFields 30 = .ok (.getfield 55, 3) := by decide +kernel
theorem dX10_tellFields_33 : decode cX10_tellFields 33 = .ok (.getfield 411, 3) := by decide +kernel
theorem dX10_tellFields_36 : decode cX10_tellFields 36 = .ok (.iconst 1, 1) := by decide +kernel
theorem dX10_tellFields_37 : decode cX10_tellFields 37 = .ok (.aload_n 1, 1) := by decide +kernel
theorem dX10_tellFields_38 : decode cX10_tellFields 38 = .ok (.getfield 150, 3) := by decide +kernel
theorem dX10_tellFields_41 : decode cX10_tellFields 41 = .ok (.iastore, 1) := by decide +kernel
theorem dX10_tellFields_42 : decode cX10_tellFields 42 = .ok (.aload_n 0, 1) := by decide +kernel
theorem dX10_tellFields_43 : decode cX10_tellFields 43 = .ok (.getfield 55, 3) := by decide +kernel
theorem dX10_tellFields_46 : decode cX10_tellFields 46 = .ok (.getfield 411, 3) := by decide +kernel
theorem dX10_tellFields_49 : decode cX10_tellFields 49 = .ok (.iconst 2, 1) := by decide +kernel
theorem dX10_tellFields_50 : decode cX10_tellFields 50 = .ok (.aload_n 0, 1) := by decide +kernel
theorem dX10_tellFields_51 : decode cX10_tellFields 51 = .ok (.getfield 62, 3) := by decide +kernel
theorem dX10_tellFields_54 : decode cX10_tellFields 54 = .ok (.iload_n 2, 1) := by decide +kernel
theorem dX10_tellFields_55 : decode cX10_tellFields 55 = .ok (.invokevirtual 417, 3) := by decide +kernel
theorem dX10_tellFields_58 : decode cX10_tellFields 58 = .ok (.iastore, 1) := by decide +kernel
theorem dX10_tellFields_59 : decode cX10_tellFields 59 = .ok (.aload_n 0, 1) := by decide +kernel
theorem dX10_tellFields_60 : decode cX10_tellFields 60 = .ok (.getfield 55, 3) := by decide +kernel
theorem dX10_tellFields_63 : decode cX10_tellFields 63 = .ok (.getfield 411, 3) := by decide +kernel
theorem dX10_tellFields_66 : decode cX10_tellFields 66 = .ok (.iconst 3, 1) := by decide +kernel
theorem dX10_tellFields_67 : decode cX10_tellFields 67 = .ok (.aload_n 1, 1) := by decide +kernel
theorem dX10_tellFields_68 : decode cX10_tellFields 68 = .ok (.getfield 127, 3) := by decide +kernel
theorem dX10_tellFields_71 : decode cX10_tellFields 71 = .ok (.iastore, 1) := by decide +kernel
theorem dX10_tellFields_72 : decode cX10_tellFields 72 = .ok (.aload_n 0, 1) := by decide +kernel
theorem dX10_tellFields_73 : decode cX10_tellFields 73 = .ok (.getfield 55, 3) := by decide +kernel
theorem dX10_tellFields_76 : decode cX10_tellFields 76 = .ok (.getfield 411, 3) := by decide +kernel
theorem dX10_tellFields_79 : decode cX10_tellFields 79 = .ok (.iconst 4, 1) := by decide +kernel
theorem dX10_tellFields_80 : decode cX10_tellFields 80 = .ok (.aload_n 0, 1) := by decide +kernel
theorem dX10_tellFields_81 : decode cX10_tellFields 81 = .ok (.getfield 62, 3) := by decide +kernel
theorem dX10_tellFields_84 : decode cX10_tellFields 84 = .ok (.iload_n 2, 1) := by decide +kernel
theorem dX10_tellFields_85 : decode cX10_tellFields 85 = .ok (.bipush 120, 2) := by decide +kernel
theorem dX10_tellFields_87 : decode cX10_tellFields 87 = .ok (.invokevirtual 420, 3) := by decide +kernel
theorem dX10_tellFields_90 : decode cX10_tellFields 90 = .ok (.iastore, 1) := by decide +kernel
theorem dX10_tellFields_91 : decode cX10_tellFields 91 = .ok (.aload_n 0, 1) := by decide +kernel
theorem dX10_tellFields_92 : decode cX10_tellFields 92 = .ok (.getfield 55, 3) := by decide +kernel
theorem dX10_tellFields_95 : decode cX10_tellFields 95 = .ok (.getfield 411, 3) := by decide +kernel
theorem dX10_tellFields_98 : decode cX10_tellFields 98 = .ok (.iconst 5, 1) := by decide +kernel
theorem dX10_tellFields_99 : decode cX10_tellFields 99 = .ok (.iload_n 3, 1) := by decide +kernel
theorem dX10_tellFields_100 : decode cX10_tellFields 100 = .ok (.iastore, 1) := by decide +kernel
theorem dX10_tellFields_101 : decode cX10_tellFields 101 = .ok (.aload_n 0, 1) := by decide +kernel
theorem dX10_tellFields_102 : decode cX10_tellFields 102 = .ok (.getfield 55, 3) := by decide +kernel
theorem dX10_tellFields_105 : decode cX10_tellFields 105 = .ok (.getfield 411, 3) := by decide +kernel
theorem dX10_tellFields_108 : decode cX10_tellFields 108 = .ok (.bipush 6, 2) := by decide +kernel
theorem dX10_tellFields_110 : decode cX10_tellFields 110 = .ok (.aload_n 0, 1) := by decide +kernel
theorem dX10_tellFields_111 : decode cX10_tellFields 111 = .ok (.getfield 114, 3) := by decide +kernel
theorem dX10_tellFields_114 : decode cX10_tellFields 114 = .ok (.iastore, 1) := by decide +kernel
theorem dX10_tellFields_115 : decode cX10_tellFields 115 = .ok (.aload_n 0, 1) := by decide +kernel
theorem dX10_tellFields_116 : decode cX10_tellFields 116 = .ok (.getfield 55, 3) := by decide +kernel
theorem dX10_tellFields_119 : decode cX10_tellFields 119 = .ok (.getfield 411, 3) := by decide +kernel
theorem dX10_tellFields_122 : decode cX10_tellFields 122 = .ok (.bipush 7, 2) := by decide +kernel
theorem dX10_tellFields_124 : decode cX10_tellFields 124 = .ok (.aload_n 1, 1) := by decide +kernel
theorem dX10_tellFields_125 : decode cX10_tellFields 125 = .ok (.getfield 360, 3) := by decide +kernel
theorem dX10_tellFields_128 : decode cX10_tellFields 128 = .ok (.iload_n 3, 1) := by decide +kernel
theorem dX10_tellFields_129 : decode cX10_tellFields 129 = .ok (.iaload, 1) := by decide +kernel
theorem dX10_tellFields_130 : decode cX10_tellFields 130 = .ok (.iastore, 1) := by decide +kernel
theorem dX10_tellFields_131 : decode cX10_tellFields 131 = .ok (.return_, 1) := by decide +kernel
theorem dX10_merge_0 : decode cX10_merge 0 = .ok (.aload_n 0, 1) := by decide +kernel
theorem dX10_merge_1 : decode cX10_merge 1 = .ok (.getfield 62, 3) := by decide +kernel
theorem dX10_merge_4 : decode cX10_merge 4 = .ok (.iload_n 1, 1) := by decide +kernel
theorem dX10_merge_5 : decode cX10_merge 5 = .ok (.invokevirtual 408, 3) := by decide +kernel
theorem dX10_merge_8 : decode cX10_merge 8 = .ok (.astore_n 3, 1) := by decide +kernel
theorem dX10_merge_9 : decode cX10_merge 9 = .ok (.aload_n 0, 1) := by decide +kernel
theorem dX10_merge_10 : decode cX10_merge 10 = .ok (.getfield 62, 3) := by decide +kernel
theorem dX10_merge_13 : decode cX10_merge 13 = .ok (.iload_n 1, 1) := by decide +kernel
theorem dX10_merge_14 : decode cX10_merge 14 = .ok (.aload_n 0, 1) := by decide +kernel
theorem dX10_merge_15 : decode cX10_merge 15 = .ok (.getfield 62, 3) := by decide +kernel
theorem dX10_merge_18 : decode cX10_merge 18 = .ok (.getfield 371, 3) := by decide +kernel
theorem dX10_merge_21 : decode cX10_merge 21 = .ok (.iload_n 1, 1) := by decide +kernel
theorem dX10_merge_22 : decode cX10_merge 22 = .ok (.iaload, 1) := by decide +kernel
theorem dX10_merge_23 : decode cX10_merge 23 = .ok (.invokevirtual 420, 3) := by decide +kernel
theorem dX10_merge_26 : decode cX10_merge 26 = .ok (.istore 4, 2) := by decide +kernel
theorem dX10_merge_28 : decode cX10_merge 28 = .ok (.new 21, 3) := by decide +kernel
theorem dX10_merge_31 : decode cX10_merge 31 = .ok (.dup, 1) := by decide +kernel
theorem dX10_merge_32 : decode cX10_merge 32 = .ok (.aload_n 0, 1) := by decide +kernel
theorem dX10_merge_33 : decode cX10_merge 33 = .ok (.getfield 249, 3) := by decide +kernel
theorem dX10_merge_36 : decode cX10_merge 36 = .ok (.iconst 2, 1) := by decide +kernel
theorem dX10_merge_37 : decode cX10_merge 37 = .ok (.aload_n 2, 1) := by decide +kernel
theorem dX10_merge_38 : decode cX10_merge 38 = .ok (.aload_n 3, 1) := by decide +kernel
theorem dX10_merge_39 : decode cX10_merge 39 = .ok (.getfield 252, 3) := by decide +kernel
theorem dX10_merge_42 : decode cX10_merge 42 = .ok (.aload_n 3, 1) := by decide +kernel
theorem dX10_merge_43 : decode cX10_merge 43 = .ok (.getfield 312, 3) := by decide +kernel
theorem dX10_merge_46 : decode cX10_merge 46 = .ok (.iload 4, 2) := by decide +kernel
theorem dX10_merge_48 : decode cX10_merge 48 = .ok (.aload_n 0, 1) := by decide +kernel
theorem dX10_merge_49 : decode cX10_merge 49 = .ok (.getfield 114, 3) := by decide +kernel
theorem dX10_merge_52 : decode cX10_merge 52 = .ok (.invokespecial 286, 3) := by decide +kernel
theorem dX10_merge_55 : decode cX10_merge 55 = .ok (.astore 5, 2) := by decide +kernel
theorem dX10_merge_57 : decode cX10_merge 57 = .ok (.aload 5, 2) := by decide +kernel
theorem dX10_merge_59 : decode cX10_merge 59 = .ok (.aload_n 0, 1) := by decide +kernel
theorem dX10_merge_60 : decode cX10_merge 60 = .ok (.getfield 62, 3) := by decide +kernel
theorem dX10_merge_63 : decode cX10_merge 63 = .ok (.iload_n 1, 1) := by decide +kernel
theorem dX10_merge_64 : decode cX10_merge 64 = .ok (.invokevirtual 417, 3) := by decide +kernel
theorem dX10_merge_67 : decode cX10_merge 67 = .ok (.putfield 289, 3) := by decide +kernel
theorem dX10_merge_70 : decode cX10_merge 70 = .ok (.aload 5, 2) := by decide +kernel
theorem dX10_merge_72 : decode cX10_merge 72 = .ok (.aload_n 0, 1) := by decide +kernel
theorem dX10_merge_73 : decode cX10_merge 73 = .ok (.getfield 62, 3) := by decide +kernel
theorem dX10_merge_76 : decode cX10_merge 76 = .ok (.iload_n 1, 1) := by decide +kernel
theorem dX10_merge_77 : decode cX10_merge 77 = .ok (.aload 5, 2) := by decide +kernel
theorem dX10_merge_79 : decode cX10_merge 79 = .ok (.invokevirtual 423, 3) := by decide +kernel
theorem dX10_merge_82 : decode cX10_merge 82 = .ok (.putfield 325, 3) := by decide +kernel
theorem dX10_merge_85 : decode cX10_merge 85 = .ok (.aload_n 0, 1) := by decide +kernel
theorem dX10_merge_86 : decode cX10_merge 86 = .ok (.aload 5, 2) := by decide +kernel
theorem dX10_merge_88 : decode cX10_merge 88 = .ok (.invokevirtual 296, 3) := by decide +kernel
theorem dX10_merge_91 : decode cX10_merge 91 = .ok (.pop, 1) := by decide +kernel
theorem dX10_merge_92 : decode cX10_merge 92 = .ok (.return_, 1) := by decide +kernel
theorem dX10_count_0 : decode cX10_count 0 = .ok (.iload_n 3, 1) := by decide +kernel
theorem dX10_count_1 : decode cX10_count 1 = .ok (.iconst 0, 1) := by decide +kernel
theorem dX10_count_2 : decode cX10_count 2 = .ok (.iconst 3, 1) := by decide +kernel
theorem dX10_count_3 : decode cX10_count 3 = .ok (.invokestatic 99, 3) := by decide +kernel
theorem dX10_count_6 : decode cX10_count 6 = .ok (.ifCond .eq 11, 3) := by decide +kernel
theorem dX10_count_9 : decode cX10_count 9 = .ok (.iload_n 1, 1) := by decide +kernel
theorem dX10_count_10 : decode cX10_count 10 = .ok (.iload_n 2, 1) := by decide +kernel
theorem dX10_count_11 : decode cX10_count 11 = .ok (.invokestatic 278, 3) := by decide +kernel
theorem dX10_count_14 : decode cX10_count 14 = .ok (.ifCond .ne 5, 3) := by decide +kernel
theorem dX10_count_17 : decode cX10_count 17 = .ok (.iconst (-1), 1) := by decide +kernel
theorem dX10_count_18 : decode cX10_count 18 = .ok (.ireturn, 1) := by decide +kernel
theorem dX10_count_19 : decode cX10_count 19 = .ok (.aload_n 0, 1) := by decide +kernel
theorem dX10_count_20 : decode cX10_count 20 = .ok (.iload_n 1, 1) := by decide +kernel
theorem dX10_count_21 : decode cX10_count 21 = .ok (.iload_n 2, 1) := by decide +kernel
theorem dX10_count_22 : decode cX10_count 22 = .ok (.invokevirtual 427, 3) := by decide +kernel
theorem dX10_count_25 : decode cX10_count 25 = .ok (.istore 5, 2) := by decide +kernel
theorem dX10_count_27 : decode cX10_count 27 = .ok (.iconst 0, 1) := by decide +kernel
theorem dX10_count_28 : decode cX10_count 28 = .ok (.istore 6, 2) := by decide +kernel
theorem dX10_count_30 : decode cX10_count 30 = .ok (.iconst 0, 1) := by decide +kernel
theorem dX10_count_31 : decode cX10_count 31 = .ok (.istore 7, 2) := by decide +kernel
theorem dX10_count_33 : decode cX10_count 33 = .ok (.iload 7, 2) := by decide +kernel
theorem dX10_count_35 : decode cX10_count 35 = .ok (.aload_n 0, 1) := by decide +kernel
theorem dX10_count_36 : decode cX10_count 36 = .ok (.getfield 88, 3) := by decide +kernel
theorem dX10_count_39 : decode cX10_count 39 = .ok (.if_icmp .ge 77, 3) := by decide +kernel
theorem dX10_count_42 : decode cX10_count 42 = .ok (.aload_n 0, 1) := by decide +kernel
theorem dX10_count_43 : decode cX10_count 43 = .ok (.getfield 11, 3) := by decide +kernel
theorem dX10_count_46 : decode cX10_count 46 = .ok (.iload 7, 2) := by decide +kernel
theorem dX10_count_48 : decode cX10_count 48 = .ok (.aaload, 1) := by decide +kernel
theorem dX10_count_49 : decode cX10_count 49 = .ok (.astore 8, 2) := by decide +kernel
theorem dX10_count_51 : decode cX10_count 51 = .ok (.aload 8, 2) := by decide +kernel
theorem dX10_count_53 : decode cX10_count 53 = .ok (.getfield 103, 3) := by decide +kernel
theorem dX10_count_56 : decode cX10_count 56 = .ok (.ifCond .ne 54, 3) := by decide +kernel
theorem dX10_count_59 : decode cX10_count 59 = .ok (.iload_n 3, 1) := by decide +kernel
theorem dX10_count_60 : decode cX10_count 60 = .ok (.iconst 3, 1) := by decide +kernel
theorem dX10_count_61 : decode cX10_count 61 = .ok (.if_icmp .eq 12, 3) := by decide +kernel
theorem dX10_count_64 : decode cX10_count 64 = .ok (.aload 8, 2) := by decide +kernel
theorem dX10_count_66 : decode cX10_count 66 = .ok (.getfield 124, 3) := by decide +kernel
theorem dX10_count_69 : decode cX10_count 69 = .ok (.iload_n 3, 1) := by decide +kernel
theorem dX10_count_70 : decode cX10_count 70 = .ok (.if_icmp .ne 40, 3) := by decide +kernel
theorem dX10_count_73 : decode cX10_count 73 = .ok (.iload 6, 2) := by decide +kernel
theorem dX10_count_75 : decode cX10_count 75 = .ok (.iload 5, 2) := by decide +kernel
theorem dX10_count_77 : decode cX10_count 77 = .ok (.iload 7, 2) := by decide +kernel
theorem dX10_count_79 : decode cX10_count 79 = .ok (.invokestatic 430, 3) := by decide +kernel
theorem dX10_count_82 : decode cX10_count 82 = .ok (.ifCond .ne 17, 3) := by decide +kernel
theorem dX10_count_85 : decode cX10_count 85 = .ok (.iload 4, 2) := by decide +kernel
theorem dX10_count_87 : decode cX10_count 87 = .ok (.ifCond .eq 16, 3) := by decide +kernel
theorem dX10_count_90 : decode cX10_count 90 = .ok (.aload 8, 2) := by decide +kernel
theorem dX10_count_92 : decode cX10_count 92 = .ok (.getfield 147, 3) := by decide +kernel
theorem dX10_count_95 : decode cX10_count 95 = .ok (.iconst (-1), 1) := by decide +kernel
theorem dX10_count_96 : decode cX10_count 96 = .ok (.if_icmp .eq 7, 3) := by decide +kernel
theorem dX10_count_99 : decode cX10_count 99 = .ok (.iconst 1, 1) := by decide +kernel
theorem dX10_count_100 : decode cX10_count 100 = .ok (.goto 4, 3) := by decide +kernel
theorem dX10_count_103 : decode cX10_count 103 = .ok (.iconst 0, 1) := by decide +kernel
theorem dX10_count_104 : decode cX10_count 104 = .ok (.invokestatic 138, 3) := by decide +kernel
theorem dX10_count_107 : decode cX10_count 107 = .ok (.iadd, 1) := by decide +kernel
theorem dX10_count_108 : decode cX10_count 108 = .ok (.istore 6, 2) := by decide +kernel
theorem dX10_count_110 : decode cX10_count 110 = .ok (.iinc 7 1, 3) := by decide +kernel
theorem dX10_count_113 : decode cX10_count 113 = .ok (.goto (-80), 3) := by decide +kernel
theorem dX10_count_116 : decode cX10_count 116 = .ok (.iload 6, 2) := by decide +kernel
theorem dX10_count_118 : decode cX10_count 118 = .ok (.ireturn, 1) := by decide +kernel
theorem dX10_asked_0 : decode cX10_asked 0 = .ok (.aload_n 0, 1) := by decide +kernel
theorem dX10_asked_1 : decode cX10_asked 1 = .ok (.iload 4, 2) := by decide +kernel
theorem dX10_asked_3 : decode cX10_asked 3 = .ok (.invokevirtual 91, 3) := by decide +kernel
theorem dX10_asked_6 : decode cX10_asked 6 = .ok (.astore 6, 2) := by decide +kernel
theorem dX10_asked_8 : decode cX10_asked 8 = .ok (.aload 6, 2) := by decide +kernel
theorem dX10_asked_10 : decode cX10_asked 10 = .ok (.ifnull 11, 3) := by decide +kernel
theorem dX10_asked_13 : decode cX10_asked 13 = .ok (.iload_n 1, 1) := by decide +kernel
theorem dX10_asked_14 : decode cX10_asked 14 = .ok (.iload_n 2, 1) := by decide +kernel
theorem dX10_asked_15 : decode cX10_asked 15 = .ok (.invokestatic 278, 3) := by decide +kernel
theorem dX10_asked_18 : decode cX10_asked 18 = .ok (.ifCond .ne 5, 3) := by decide +kernel
theorem dX10_asked_21 : decode cX10_asked 21 = .ok (.iconst (-1), 1) := by decide +kernel
theorem dX10_asked_22 : decode cX10_asked 22 = .ok (.ireturn, 1) := by decide +kernel
theorem dX10_asked_23 : decode cX10_asked 23 = .ok (.iconst 0, 1) := by decide +kernel
theorem dX10_asked_24 : decode cX10_asked 24 = .ok (.istore 7, 2) := by decide +kernel
theorem dX10_asked_26 : decode cX10_asked 26 = .ok (.iconst 0, 1) := by decide +kernel
theorem dX10_asked_27 : decode cX10_asked 27 = .ok (.istore 8, 2) := by decide +kernel
theorem dX10_asked_29 : decode cX10_asked 29 = .ok (.iload 8, 2) := by decide +kernel
theorem dX10_asked_31 : decode cX10_asked 31 = .ok (.aload_n 0, 1) := by decide +kernel
theorem dX10_asked_32 : decode cX10_asked 32 = .ok (.getfield 249, 3) := by decide +kernel
theorem dX10_asked_35 : decode cX10_asked 35 = .ok (.if_icmp .ge 150, 3) := by decide +kernel
theorem dX10_asked_38 : decode cX10_asked 38 = .ok (.aload_n 0, 1) := by decide +kernel
theorem dX10_asked_39 : decode cX10_asked 39 = .ok (.getfield 23, 3) := by decide +kernel
theorem dX10_asked_42 : decode cX10_asked 42 = .ok (.iload 8, 2) := by decide +kernel
theorem dX10_asked_44 : decode cX10_asked 44 = .ok (.aaload, 1) := by decide +kernel
theorem dX10_asked_45 : decode cX10_asked 45 = .ok (.astore 9, 2) := by decide +kernel
theorem dX10_asked_47 : decode cX10_asked 47 = .ok (.aload 9, 2) := by decide +kernel
theorem dX10_asked_49 : decode cX10_asked 49 = .ok (.getfield 255, 3) := by decide +kernel
theorem dX10_asked_52 : decode cX10_asked 52 = .ok (.getfield 103, 3) := by decide +kernel
theorem dX10_asked_55 : decode cX10_asked 55 = .ok (.ifCond .ne 124, 3) := by decide +kernel
theorem dX10_asked_58 : decode cX10_asked 58 = .ok (.aload 9, 2) := by decide +kernel
theorem dX10_asked_60 : decode cX10_asked 60 = .ok (.iload_n 1, 1) := by decide +kernel
theorem dX10_asked_61 : decode cX10_asked 61 = .ok (.iload_n 2, 1) := by decide +kernel
theorem dX10_asked_62 : decode cX10_asked 62 = .ok (.invokevirtual 332, 3) := by decide +kernel
theorem dX10_asked_65 : decode cX10_asked 65 = .ok (.ifCond .eq 114, 3) := by decide +kernel
theorem dX10_asked_68 : decode cX10_asked 68 = .ok (.aload 9, 2) := by decide +kernel
theorem dX10_asked_70 : decode cX10_asked 70 = .ok (.getfield 255, 3) := by decide +kernel
theorem dX10_asked_73 : decode cX10_asked 73 = .ok (.aload 6, 2) := by decide +kernel
theorem dX10_asked_75 : decode cX10_asked 75 = .ok (.invokestatic 110, 3) := by decide +kernel
theorem dX10_asked_78 : decode cX10_asked 78 = .ok (.istore 10, 2) := by decide +kernel
theorem dX10_asked_80 : decode cX10_asked 80 = .ok (.aload 9, 2) := by decide +kernel
theorem dX10_asked_82 : decode cX10_asked 82 = .ok (.getfield 258, 3) := by decide +kernel
theorem dX10_asked_85 : decode cX10_asked 85 = .ok (.iload_n 3, 1) := by decide +kernel
theorem dX10_asked_86 : decode cX10_asked 86 = .ok (.if_icmp .gt 20, 3) := by decide +kernel
theorem dX10_asked_89 : decode cX10_asked 89 = .ok (.aload 9, 2) := by decide +kernel
theorem dX10_asked_91 : decode cX10_asked 91 = .ok (.getfield 258, 3) := by decide +kernel
theorem dX10_asked_94 : decode cX10_asked 94 = .ok (.iload 10, 2) := by decide +kernel
theorem dX10_asked_96 : decode cX10_asked 96 = .ok (.iadd, 1) := by decide +kernel
theorem dX10_asked_97 : decode cX10_asked 97 = .ok (.iload 5, 2) := by decide +kernel
theorem dX10_asked_99 : decode cX10_asked 99 = .ok (.if_icmp .gt 7, 3) := by decide +kernel
theorem dX10_asked_102 : decode cX10_asked 102 = .ok (.iconst 1, 1) := by decide +kernel
theorem dX10_asked_103 : decode cX10_asked 103 = .ok (.goto 4, 3) := by decide +kernel
theorem dX10_asked_106 : decode cX10_asked 106 = .ok (.iconst 0, 1) := by decide +kernel
theorem dX10_asked_107 : decode cX10_asked 107 = .ok (.istore 11, 2) := by decide +kernel
theorem dX10_asked_109 : decode cX10_asked 109 = .ok (.aload 9, 2) := by decide +kernel
theorem dX10_asked_111 : decode cX10_asked 111 = .ok (.getfield 303, 3) := by decide +kernel
theorem dX10_asked_114 : decode cX10_asked 114 = .ok (.iconst (-1), 1) := by decide +kernel
theorem dX10_asked_115 : decode cX10_asked 115 = .ok (.if_icmp .eq 29, 3) := by decide +kernel
theorem dX10_asked_118 : decode cX10_asked 118 = .ok (.aload 9, 2) := by decide +kernel
theorem dX10_asked_120 : decode cX10_asked 120 = .ok (.getfield 303, 3) := by decide +kernel
theorem dX10_asked_123 : decode cX10_asked 123 = .ok (.iload_n 3, 1) := by decide +kernel
theorem dX10_asked_124 : decode cX10_asked 124 = .ok (.if_icmp .gt 20, 3) := by decide +kernel
theorem dX10_asked_127 : decode cX10_asked 127 = .ok (.aload 9, 2) := by decide +kernel
theorem dX10_asked_129 : decode cX10_asked 129 = .ok (.getfield 303, 3) := by decide +kernel
theorem dX10_asked_132 : decode cX10_asked 132 = .ok (.iload 10, 2) := by decide +kernel
theorem dX10_asked_134 : decode cX10_asked 134 = .ok (.iadd, 1) := by decide +kernel
theorem dX10_asked_135 : decode cX10_asked 135 = .ok (.iload 5, 2) := by decide +kernel
theorem dX10_asked_137 : decode cX10_asked 137 = .ok (.if_icmp .gt 7, 3) := by decide +kernel
theorem dX10_asked_140 : decode cX10_asked 140 = .ok (.iconst 1, 1) := by decide +kernel
theorem dX10_asked_141 : decode cX10_asked 141 = .ok (.goto 4, 3) := by decide +kernel
theorem dX10_asked_144 : decode cX10_asked 144 = .ok (.iconst 0, 1) := by decide +kernel
theorem dX10_asked_145 : decode cX10_asked 145 = .ok (.istore 12, 2) := by decide +kernel
theorem dX10_asked_147 : decode cX10_asked 147 = .ok (.iload 7, 2) := by decide +kernel
theorem dX10_asked_149 : decode cX10_asked 149 = .ok (.iload 11, 2) := by decide +kernel
theorem dX10_asked_151 : decode cX10_asked 151 = .ok (.ifCond .eq 12, 3) := by decide +kernel
theorem dX10_asked_154 : decode cX10_asked 154 = .ok (.iload 12, 2) := by decide +kernel
theorem dX10_asked_156 : decode cX10_asked 156 = .ok (.ifCond .ne 7, 3) := by decide +kernel
theorem dX10_asked_159 : decode cX10_asked 159 = .ok (.iconst 1, 1) := by decide +kernel
theorem dX10_asked_160 : decode cX10_asked 160 = .ok (.goto 4, 3) := by decide +kernel
theorem dX10_asked_163 : decode cX10_asked 163 = .ok (.iconst 0, 1) := by decide +kernel
theorem dX10_asked_164 : decode cX10_asked 164 = .ok (.invokestatic 138, 3) := by decide +kernel
theorem dX10_asked_167 : decode cX10_asked 167 = .ok (.aload 9, 2) := by decide +kernel
theorem dX10_asked_169 : decode cX10_asked 169 = .ok (.getfield 255, 3) := by decide +kernel
theorem dX10_asked_172 : decode cX10_asked 172 = .ok (.getfield 121, 3) := by decide +kernel
theorem dX10_asked_175 : decode cX10_asked 175 = .ok (.ishl, 1) := by decide +kernel
theorem dX10_asked_176 : decode cX10_asked 176 = .ok (.ior, 1) := by decide +kernel
theorem dX10_asked_177 : decode cX10_asked 177 = .ok (.istore 7, 2) := by decide +kernel
theorem dX10_asked_179 : decode cX10_asked 179 = .ok (.iinc 8 1, 3) := by decide +kernel
theorem dX10_asked_182 : decode cX10_asked 182 = .ok (.goto (-153), 3) := by decide +kernel
theorem dX10_asked_185 : decode cX10_asked 185 = .ok (.iload 7, 2) := by decide +kernel
theorem dX10_asked_187 : decode cX10_asked 187 = .ok (.invokestatic 433, 3) := by decide +kernel
theorem dX10_asked_190 : decode cX10_asked 190 = .ok (.ireturn, 1) := by decide +kernel
theorem dX10_other_0 : decode cX10_other 0 = .ok (.iload_n 2, 1) := by decide +kernel
theorem dX10_other_1 : decode cX10_other 1 = .ok (.iconst 0, 1) := by decide +kernel
theorem dX10_other_2 : decode cX10_other 2 = .ok (.bipush 15, 2) := by decide +kernel
theorem dX10_other_4 : decode cX10_other 4 = .ok (.invokestatic 99, 3) := by decide +kernel
theorem dX10_other_7 : decode cX10_other 7 = .ok (.ifCond .ne 5, 3) := by decide +kernel
theorem dX10_other_10 : decode cX10_other 10 = .ok (.iconst (-1), 1) := by decide +kernel
theorem dX10_other_11 : decode cX10_other 11 = .ok (.ireturn, 1) := by decide +kernel
theorem dX10_other_12 : decode cX10_other 12 = .ok (.iload_n 2, 1) := by decide +kernel
theorem dX10_other_13 : decode cX10_other 13 = .ok (.istore_n 3, 1) := by decide +kernel
theorem dX10_other_14 : decode cX10_other 14 = .ok (.iconst 0, 1) := by decide +kernel
theorem dX10_other_15 : decode cX10_other 15 = .ok (.istore 4, 2) := by decide +kernel
theorem dX10_other_17 : decode cX10_other 17 = .ok (.iload 4, 2) := by decide +kernel
theorem dX10_other_19 : decode cX10_other 19 = .ok (.sipush 128, 3) := by decide +kernel
theorem dX10_other_22 : decode cX10_other 22 = .ok (.if_icmp .ge 37, 3) := by decide +kernel
theorem dX10_other_25 : decode cX10_other 25 = .ok (.aload_n 0, 1) := by decide +kernel
theorem dX10_other_26 : decode cX10_other 26 = .ok (.iload_n 1, 1) := by decide +kernel
theorem dX10_other_27 : decode cX10_other 27 = .ok (.iload 4, 2) := by decide +kernel
theorem dX10_other_29 : decode cX10_other 29 = .ok (.bipush 8, 2) := by decide +kernel
theorem dX10_other_31 : decode cX10_other 31 = .ok (.idiv, 1) := by decide +kernel
theorem dX10_other_32 : decode cX10_other 32 = .ok (.iload 4, 2) := by decide +kernel
theorem dX10_other_34 : decode cX10_other 34 = .ok (.bipush 8, 2) := by decide +kernel
theorem dX10_other_36 : decode cX10_other 36 = .ok (.irem, 1) := by decide +kernel
theorem dX10_other_37 : decode cX10_other 37 = .ok (.invokevirtual 438, 3) := by decide +kernel
theorem dX10_other_40 : decode cX10_other 40 = .ok (.ifCond .eq 13, 3) := by decide +kernel
theorem dX10_other_43 : decode cX10_other 43 = .ok (.iload_n 3, 1) := by decide +kernel
theorem dX10_other_44 : decode cX10_other 44 = .ok (.ifCond .ne 6, 3) := by decide +kernel
theorem dX10_other_47 : decode cX10_other 47 = .ok (.iload 4, 2) := by decide +kernel
theorem dX10_other_49 : decode cX10_other 49 = .ok (.ireturn, 1) := by decide +kernel
theorem dX10_other_50 : decode cX10_other 50 = .ok (.iinc 3 (-1), 3) := by decide +kernel
theorem dX10_other_53 : decode cX10_other 53 = .ok (.iinc 4 1, 3) := by decide +kernel
theorem dX10_other_56 : decode cX10_other 56 = .ok (.goto (-39), 3) := by decide +kernel
theorem dX10_other_59 : decode cX10_other 59 = .ok (.iconst (-1), 1) := by decide +kernel
theorem dX10_other_60 : decode cX10_other 60 = .ok (.ireturn, 1) := by decide +kernel
theorem dX10_askersOf_0 : decode cX10_askersOf 0 = .ok (.iconst 0, 1) := by decide +kernel
theorem dX10_askersOf_1 : decode cX10_askersOf 1 = .ok (.istore_n 3, 1) := by decide +kernel
theorem dX10_askersOf_2 : decode cX10_askersOf 2 = .ok (.iconst 0, 1) := by decide +kernel
theorem dX10_askersOf_3 : decode cX10_askersOf 3 = .ok (.istore 4, 2) := by decide +kernel
theorem dX10_askersOf_5 : decode cX10_askersOf 5 = .ok (.iload 4, 2) := by decide +kernel
theorem dX10_askersOf_7 : decode cX10_askersOf 7 = .ok (.aload_n 0, 1) := by decide +kernel
theorem dX10_askersOf_8 : decode cX10_askersOf 8 = .ok (.getfield 249, 3) := by decide +kernel
theorem dX10_askersOf_11 : decode cX10_askersOf 11 = .ok (.if_icmp .ge 60, 3) := by decide +kernel
theorem dX10_askersOf_14 : decode cX10_askersOf 14 = .ok (.aload_n 0, 1) := by decide +kernel
theorem dX10_askersOf_15 : decode cX10_askersOf 15 = .ok (.getfield 23, 3) := by decide +kernel
theorem dX10_askersOf_18 : decode cX10_askersOf 18 = .ok (.iload 4, 2) := by decide +kernel
theorem dX10_askersOf_20 : decode cX10_askersOf 20 = .ok (.aaload, 1) := by decide +kernel
theorem dX10_askersOf_21 : decode cX10_askersOf 21 = .ok (.astore 5, 2) := by decide +kernel
theorem dX10_askersOf_23 : decode cX10_askersOf 23 = .ok (.aload 5, 2) := by decide +kernel
theorem dX10_askersOf_25 : decode cX10_askersOf 25 = .ok (.getfield 255, 3) := by decide +kernel
theorem dX10_askersOf_28 : decode cX10_askersOf 28 = .ok (.getfield 103, 3) := by decide +kernel
theorem dX10_askersOf_31 : decode cX10_askersOf 31 = .ok (.ifCond .ne 34, 3) := by decide +kernel
theorem dX10_askersOf_34 : decode cX10_askersOf 34 = .ok (.aload 5, 2) := by decide +kernel
theorem dX10_askersOf_36 : decode cX10_askersOf 36 = .ok (.invokevirtual 300, 3) := by decide +kernel
theorem dX10_askersOf_39 : decode cX10_askersOf 39 = .ok (.ifCond .eq 26, 3) := by decide +kernel
theorem dX10_askersOf_42 : decode cX10_askersOf 42 = .ok (.aload 5, 2) := by decide +kernel
theorem dX10_askersOf_44 : decode cX10_askersOf 44 = .ok (.iload_n 1, 1) := by decide +kernel
theorem dX10_askersOf_45 : decode cX10_askersOf 45 = .ok (.iload_n 2, 1) := by decide +kernel
theorem dX10_askersOf_46 : decode cX10_askersOf 46 = .ok (.invokevirtual 332, 3) := by decide +kernel
theorem dX10_askersOf_49 : decode cX10_askersOf 49 = .ok (.ifCond .eq 16, 3) := by decide +kernel
theorem dX10_askersOf_52 : decode cX10_askersOf 52 = .ok (.iload_n 3, 1) := by decide +kernel
theorem dX10_askersOf_53 : decode cX10_askersOf 53 = .ok (.iconst 1, 1) := by decide +kernel
theorem dX10_askersOf_54 : decode cX10_askersOf 54 = .ok (.aload 5, 2) := by decide +kernel
theorem dX10_askersOf_56 : decode cX10_askersOf 56 = .ok (.getfield 255, 3) := by decide +kernel
theorem dX10_askersOf_59 : decode cX10_askersOf 59 = .ok (.getfield 121, 3) := by decide +kernel
theorem dX10_askersOf_62 : decode cX10_askersOf 62 = .ok (.ishl, 1) := by decide +kernel
theorem dX10_askersOf_63 : decode cX10_askersOf 63 = .ok (.ior, 1) := by decide +kernel
theorem dX10_askersOf_64 : decode cX10_askersOf 64 = .ok (.istore_n 3, 1) := by decide +kernel
theorem dX10_askersOf_65 : decode cX10_askersOf 65 = .ok (.iinc 4 1, 3) := by decide +kernel
theorem dX10_askersOf_68 : decode cX10_askersOf 68 = .ok (.goto (-63), 3) := by decide +kernel
theorem dX10_askersOf_71 : decode cX10_askersOf 71 = .ok (.iload_n 3, 1) := by decide +kernel
theorem dX10_askersOf_72 : decode cX10_askersOf 72 = .ok (.ireturn, 1) := by decide +kernel
theorem dX10_comesToTheTop_0 : decode cX10_comesToTheTop 0 = .ok (.iload_n 1, 1) := by decide +kernel
theorem dX10_comesToTheTop_1 : decode cX10_comesToTheTop 1 = .ok (.tableswitch 56 0 2 #[27, 38, 49], 27) := by decide +kernel
theorem dX10_comesToTheTop_28 : decode cX10_comesToTheTop 28 = .ok (.aload_n 0, 1) := by decide +kernel
theorem dX10_comesToTheTop_29 : decode cX10_comesToTheTop 29 = .ok (.aload_n 0, 1) := by decide +kernel
theorem dX10_comesToTheTop_30 : decode cX10_comesToTheTop 30 = .ok (.iload_n 2, 1) := by decide +kernel
theorem dX10_comesToTheTop_31 : decode cX10_comesToTheTop 31 = .ok (.iload_n 3, 1) := by decide +kernel
theorem dX10_comesToTheTop_32 : decode cX10_comesToTheTop 32 = .ok (.invokevirtual 427, 3) := by decide +kernel
theorem dX10_comesToTheTop_35 : decode cX10_comesToTheTop 35 = .ok (.invokevirtual 441, 3) := by decide +kernel
theorem dX10_comesToTheTop_38 : decode cX10_comesToTheTop 38 = .ok (.ireturn, 1) := by decide +kernel
theorem dX10_comesToTheTop_39 : decode cX10_comesToTheTop 39 = .ok (.aload_n 0, 1) := by decide +kernel
theorem dX10_comesToTheTop_40 : decode cX10_comesToTheTop 40 = .ok (.aload_n 0, 1) := by decide +kernel
theorem dX10_comesToTheTop_41 : decode cX10_comesToTheTop 41 = .ok (.iload_n 2, 1) := by decide +kernel
theorem dX10_comesToTheTop_42 : decode cX10_comesToTheTop 42 = .ok (.iload_n 3, 1) := by decide +kernel
theorem dX10_comesToTheTop_43 : decode cX10_comesToTheTop 43 = .ok (.invokevirtual 427, 3) := by decide +kernel
theorem dX10_comesToTheTop_46 : decode cX10_comesToTheTop 46 = .ok (.invokevirtual 444, 3) := by decide +kernel
theorem dX10_comesToTheTop_49 : decode cX10_comesToTheTop 49 = .ok (.ireturn, 1) := by decide +kernel
theorem dX10_comesToTheTop_50 : decode cX10_comesToTheTop 50 = .ok (.aload_n 0, 1) := by decide +kernel
theorem dX10_comesToTheTop_51 : decode cX10_comesToTheTop 51 = .ok (.iload_n 2, 1) := by decide +kernel
theorem dX10_comesToTheTop_52 : decode cX10_comesToTheTop 52 = .ok (.iload_n 3, 1) := by decide +kernel
theorem dX10_comesToTheTop_53 : decode cX10_comesToTheTop 53 = .ok (.invokevirtual 447, 3) := by decide +kernel
theorem dX10_comesToTheTop_56 : decode cX10_comesToTheTop 56 = .ok (.ireturn, 1) := by decide +kernel
theorem dX10_comesToTheTop_57 : decode cX10_comesToTheTop 57 = .ok (.iconst 0, 1) := by decide +kernel
theorem dX10_comesToTheTop_58 : decode cX10_comesToTheTop 58 = .ok (.ireturn, 1) := by decide +kernel
theorem dX10_askedByMostHearths_0 : decode cX10_askedByMostHearths 0 = .ok (.iconst 0, 1) := by decide +kernel
theorem dX10_askedByMostHearths_1 : decode cX10_askedByMostHearths 1 = .ok (.istore_n 2, 1) := by decide +kernel
theorem dX10_askedByMostHearths_2 : decode cX10_askedByMostHearths 2 = .ok (.iconst 0, 1) := by decide +kernel
theorem dX10_askedByMostHearths_3 : decode cX10_askedByMostHearths 3 = .ok (.istore_n 3, 1) := by decide +kernel
theorem dX10_askedByMostHearths_4 : decode cX10_askedByMostHearths 4 = .ok (.iload_n 3, 1) := by decide +kernel
theorem dX10_askedByMostHearths_5 : decode cX10_askedByMostHearths 5 = .ok (.aload_n 0, 1) := by decide +kernel
theorem dX10_askedByMostHearths_6 : decode cX10_askedByMostHearths 6 = .ok (.getfield 88, 3) := by decide +kernel
theorem dX10_askedByMostHearths_9 : decode cX10_askedByMostHearths 9 = .ok (.if_icmp .ge 33, 3) := by decide +kernel
theorem dX10_askedByMostHearths_12 : decode cX10_askedByMostHearths 12 = .ok (.iload_n 2, 1) := by decide +kernel
theorem dX10_askedByMostHearths_13 : decode cX10_askedByMostHearths 13 = .ok (.iload_n 1, 1) := by decide +kernel
theorem dX10_askedByMostHearths_14 : decode cX10_askedByMostHearths 14 = .ok (.iload_n 3, 1) := by decide +kernel
theorem dX10_askedByMostHearths_15 : decode cX10_askedByMostHearths 15 = .ok (.invokestatic 430, 3) := by decide +kernel
theorem dX10_askedByMostHearths_18 : decode cX10_askedByMostHearths 18 = .ok (.ifCond .eq 15, 3) := by decide +kernel
theorem dX10_askedByMostHearths_21 : decode cX10_askedByMostHearths 21 = .ok (.aload_n 0, 1) := by decide +kernel
theorem dX10_askedByMostHearths_22 : decode cX10_askedByMostHearths 22 = .ok (.getfield 11, 3) := by decide +kernel
theorem dX10_askedByMostHearths_25 : decode cX10_askedByMostHearths 25 = .ok (.iload_n 3, 1) := by decide +kernel
theorem dX10_askedByMostHearths_26 : decode cX10_askedByMostHearths 26 = .ok (.aaload, 1) := by decide +kernel
theorem dX10_askedByMostHearths_27 : decode cX10_askedByMostHearths 27 = .ok (.getfield 127, 3) := by decide +kernel
theorem dX10_askedByMostHearths_30 : decode cX10_askedByMostHearths 30 = .ok (.goto 4, 3) := by decide +kernel
theorem dX10_askedByMostHearths_33 : decode cX10_askedByMostHearths 33 = .ok (.iconst 0, 1) := by decide +kernel
theorem dX10_askedByMostHearths_34 : decode cX10_askedByMostHearths 34 = .ok (.iadd, 1) := by decide +kernel
theorem dX10_askedByMostHearths_35 : decode cX10_askedByMostHearths 35 = .ok (.istore_n 2, 1) := by decide +kernel
theorem dX10_askedByMostHearths_36 : decode cX10_askedByMostHearths 36 = .ok (.iinc 3 1, 3) := by decide +kernel
theorem dX10_askedByMostHearths_39 : decode cX10_askedByMostHearths 39 = .ok (.goto (-35), 3) := by decide +kernel
theorem dX10_askedByMostHearths_42 : decode cX10_askedByMostHearths 42 = .ok (.iconst 2, 1) := by decide +kernel
theorem dX10_askedByMostHearths_43 : decode cX10_askedByMostHearths 43 = .ok (.iload_n 2, 1) := by decide +kernel
theorem dX10_askedByMostHearths_44 : decode cX10_askedByMostHearths 44 = .ok (.imul, 1) := by decide +kernel
theorem dX10_askedByMostHearths_45 : decode cX10_askedByMostHearths 45 = .ok (.aload_n 0, 1) := by decide +kernel
theorem dX10_askedByMostHearths_46 : decode cX10_askedByMostHearths 46 = .ok (.getfield 11, 3) := by decide +kernel
theorem dX10_askedByMostHearths_49 : decode cX10_askedByMostHearths 49 = .ok (.iconst 0, 1) := by decide +kernel
theorem dX10_askedByMostHearths_50 : decode cX10_askedByMostHearths 50 = .ok (.aaload, 1) := by decide +kernel
theorem dX10_askedByMostHearths_51 : decode cX10_askedByMostHearths 51 = .ok (.getfield 127, 3) := by decide +kernel
theorem dX10_askedByMostHearths_54 : decode cX10_askedByMostHearths 54 = .ok (.if_icmp .le 7, 3) := by decide +kernel
theorem dX10_askedByMostHearths_57 : decode cX10_askedByMostHearths 57 = .ok (.iconst 1, 1) := by decide +kernel
theorem dX10_askedByMostHearths_58 : decode cX10_askedByMostHearths 58 = .ok (.goto 4, 3) := by decide +kernel
theorem dX10_askedByMostHearths_61 : decode cX10_askedByMostHearths 61 = .ok (.iconst 0, 1) := by decide +kernel
theorem dX10_askedByMostHearths_62 : decode cX10_askedByMostHearths 62 = .ok (.ireturn, 1) := by decide +kernel
theorem dX10_askedByMostOrders_0 : decode cX10_askedByMostOrders 0 = .ok (.iconst 0, 1) := by decide +kernel
theorem dX10_askedByMostOrders_1 : decode cX10_askedByMostOrders 1 = .ok (.istore_n 2, 1) := by decide +kernel
theorem dX10_askedByMostOrders_2 : decode cX10_askedByMostOrders 2 = .ok (.iconst 0, 1) := by decide +kernel
theorem dX10_askedByMostOrders_3 : decode cX10_askedByMostOrders 3 = .ok (.istore_n 3, 1) := by decide +kernel
theorem dX10_askedByMostOrders_4 : decode cX10_askedByMostOrders 4 = .ok (.iload_n 3, 1) := by decide +kernel
theorem dX10_askedByMostOrders_5 : decode cX10_askedByMostOrders 5 = .ok (.iconst 3, 1) := by decide +kernel
theorem dX10_askedByMostOrders_6 : decode cX10_askedByMostOrders 6 = .ok (.if_icmp .ge 84, 3) := by decide +kernel
theorem dX10_askedByMostOrders_9 : decode cX10_askedByMostOrders 9 = .ok (.iconst 0, 1) := by decide +kernel
theorem dX10_askedByMostOrders_10 : decode cX10_askedByMostOrders 10 = .ok (.istore 4, 2) := by decide +kernel
theorem dX10_askedByMostOrders_12 : decode cX10_askedByMostOrders 12 = .ok (.iconst 0, 1) := by decide +kernel
theorem dX10_askedByMostOrders_13 : decode cX10_askedByMostOrders 13 = .ok (.istore 5, 2) := by decide +kernel
theorem dX10_askedByMostOrders_15 : decode cX10_askedByMostOrders 15 = .ok (.iconst 0, 1) := by decide +kernel
theorem dX10_askedByMostOrders_16 : decode cX10_askedByMostOrders 16 = .ok (.istore 6, 2) := by decide +kernel
theorem dX10_askedByMostOrders_18 : decode cX10_askedByMostOrders 18 = .ok (.iload 6, 2) := by decide +kernel
theorem dX10_askedByMostOrders_20 : decode cX10_askedByMostOrders 20 = .ok (.aload_n 0, 1) := by decide +kernel
theorem dX10_askedByMostOrders_21 : decode cX10_askedByMostOrders 21 = .ok (.getfield 88, 3) := by decide +kernel
theorem dX10_askedByMostOrders_24 : decode cX10_askedByMostOrders 24 = .ok (.if_icmp .ge 40, 3) := by decide +kernel
theorem dX10_askedByMostOrders_27 : decode cX10_askedByMostOrders 27 = .ok (.aload_n 0, 1) := by decide +kernel
theorem dX10_askedByMostOrders_28 : decode cX10_askedByMostOrders 28 = .ok (.getfield 11, 3) := by decide +kernel
theorem dX10_askedByMostOrders_31 : decode cX10_askedByMostOrders 31 = .ok (.iload 6, 2) := by decide +kernel
theorem dX10_askedByMostOrders_33 : decode cX10_askedByMostOrders 33 = .ok (.aaload, 1) := by decide +kernel
theorem dX10_askedByMostOrders_34 : decode cX10_askedByMostOrders 34 = .ok (.getfield 124, 3) := by decide +kernel
theorem dX10_askedByMostOrders_37 : decode cX10_askedByMostOrders 37 = .ok (.iload_n 3, 1) := by decide +kernel
theorem dX10_askedByMostOrders_38 : decode cX10_askedByMostOrders 38 = .ok (.if_icmp .ne 20, 3) := by decide +kernel
theorem dX10_askedByMostOrders_41 : decode cX10_askedByMostOrders 41 = .ok (.iload 4, 2) := by decide +kernel
theorem dX10_askedByMostOrders_43 : decode cX10_askedByMostOrders 43 = .ok (.iload_n 1, 1) := by decide +kernel
theorem dX10_askedByMostOrders_44 : decode cX10_askedByMostOrders 44 = .ok (.iload 6, 2) := by decide +kernel
theorem dX10_askedByMostOrders_46 : decode cX10_askedByMostOrders 46 = .ok (.invokestatic 430, 3) := by decide +kernel
theorem dX10_askedByMostOrders_49 : decode cX10_askedByMostOrders 49 = .ok (.invokestatic 138, 3) := by decide +kernel
theorem dX10_askedByMostOrders_52 : decode cX10_askedByMostOrders 52 = .ok (.iadd, 1) := by decide +kernel
theorem dX10_askedByMostOrders_53 : decode cX10_askedByMostOrders 53 = .ok (.istore 4, 2) := by decide +kernel
theorem dX10_askedByMostOrders_55 : decode cX10_askedByMostOrders 55 = .ok (.iinc 5 1, 3) := by decide +kernel
theorem dX10_askedByMostOrders_58 : decode cX10_askedByMostOrders 58 = .ok (.iinc 6 1, 3) := by decide +kernel
theorem dX10_askedByMostOrders_61 : decode cX10_askedByMostOrders 61 = .ok (.goto (-43), 3) := by decide +kernel
theorem dX10_askedByMostOrders_64 : decode cX10_askedByMostOrders 64 = .ok (.iload_n 2, 1) := by decide +kernel
theorem dX10_askedByMostOrders_65 : decode cX10_askedByMostOrders 65 = .ok (.iconst 2, 1) := by decide +kernel
theorem dX10_askedByMostOrders_66 : decode cX10_askedByMostOrders 66 = .ok (.iload 4, 2) := by decide +kernel
theorem dX10_askedByMostOrders_68 : decode cX10_askedByMostOrders 68 = .ok (.imul, 1) := by decide +kernel
theorem dX10_askedByMostOrders_69 : decode cX10_askedByMostOrders 69 = .ok (.iload 5, 2) := by decide +kernel
theorem dX10_askedByMostOrders_71 : decode cX10_askedByMostOrders 71 = .ok (.if_icmp .le 7, 3) := by decide +kernel
theorem dX10_askedByMostOrders_74 : decode cX10_askedByMostOrders 74 = .ok (.iconst 1, 1) := by decide +kernel
theorem dX10_askedByMostOrders_75 : decode cX10_askedByMostOrders 75 = .ok (.goto 4, 3) := by decide +kernel
theorem dX10_askedByMostOrders_78 : decode cX10_askedByMostOrders 78 = .ok (.iconst 0, 1) := by decide +kernel
theorem dX10_askedByMostOrders_79 : decode cX10_askedByMostOrders 79 = .ok (.invokestatic 138, 3) := by decide +kernel
theorem dX10_askedByMostOrders_82 : decode cX10_askedByMostOrders 82 = .ok (.iadd, 1) := by decide +kernel
theorem dX10_askedByMostOrders_83 : decode cX10_askedByMostOrders 83 = .ok (.istore_n 2, 1) := by decide +kernel
theorem dX10_askedByMostOrders_84 : decode cX10_askedByMostOrders 84 = .ok (.iinc 3 1, 3) := by decide +kernel
theorem dX10_askedByMostOrders_87 : decode cX10_askedByMostOrders 87 = .ok (.goto (-83), 3) := by decide +kernel
theorem dX10_askedByMostOrders_90 : decode cX10_askedByMostOrders 90 = .ok (.iload_n 2, 1) := by decide +kernel
theorem dX10_askedByMostOrders_91 : decode cX10_askedByMostOrders 91 = .ok (.iconst 2, 1) := by decide +kernel
theorem dX10_askedByMostOrders_92 : decode cX10_askedByMostOrders 92 = .ok (.if_icmp .lt 7, 3) := by decide +kernel
theorem dX10_askedByMostOrders_95 : decode cX10_askedByMostOrders 95 = .ok (.iconst 1, 1) := by decide +kernel
theorem dX10_askedByMostOrders_96 : decode cX10_askedByMostOrders 96 = .ok (.goto 4, 3) := by decide +kernel
theorem dX10_askedByMostOrders_99 : decode cX10_askedByMostOrders 99 = .ok (.iconst 0, 1) := by decide +kernel
theorem dX10_askedByMostOrders_100 : decode cX10_askedByMostOrders 100 = .ok (.ireturn, 1) := by decide +kernel
theorem dX10_standsAtTheTop_0 : decode cX10_standsAtTheTop 0 = .ok (.iconst 0, 1) := by decide +kernel
theorem dX10_standsAtTheTop_1 : decode cX10_standsAtTheTop 1 = .ok (.istore_n 3, 1) := by decide +kernel
theorem dX10_standsAtTheTop_2 : decode cX10_standsAtTheTop 2 = .ok (.iload_n 3, 1) := by decide +kernel
theorem dX10_standsAtTheTop_3 : decode cX10_standsAtTheTop 3 = .ok (.aload_n 0, 1) := by decide +kernel
theorem dX10_standsAtTheTop_4 : decode cX10_standsAtTheTop 4 = .ok (.getfield 249, 3) := by decide +kernel
theorem dX10_standsAtTheTop_7 : decode cX10_standsAtTheTop 7 = .ok (.if_icmp .ge 41, 3) := by decide +kernel
theorem dX10_standsAtTheTop_10 : decode cX10_standsAtTheTop 10 = .ok (.aload_n 0, 1) := by decide +kernel
theorem dX10_standsAtTheTop_11 : decode cX10_standsAtTheTop 11 = .ok (.getfield 23, 3) := by decide +kernel
theorem dX10_standsAtTheTop_14 : decode cX10_standsAtTheTop 14 = .ok (.iload_n 3, 1) := by decide +kernel
theorem dX10_standsAtTheTop_15 : decode cX10_standsAtTheTop 15 = .ok (.aaload, 1) := by decide +kernel
theorem dX10_standsAtTheTop_16 : decode cX10_standsAtTheTop 16 = .ok (.getfield 255, 3) := by decide +kernel
theorem dX10_standsAtTheTop_19 : decode cX10_standsAtTheTop 19 = .ok (.getfield 103, 3) := by decide +kernel
theorem dX10_standsAtTheTop_22 : decode cX10_standsAtTheTop 22 = .ok (.iconst 3, 1) := by decide +kernel
theorem dX10_standsAtTheTop_23 : decode cX10_standsAtTheTop 23 = .ok (.if_icmp .ne 19, 3) := by decide +kernel
theorem dX10_standsAtTheTop_26 : decode cX10_standsAtTheTop 26 = .ok (.aload_n 0, 1) := by decide +kernel
theorem dX10_standsAtTheTop_27 : decode cX10_standsAtTheTop 27 = .ok (.getfield 23, 3) := by decide +kernel
theorem dX10_standsAtTheTop_30 : decode cX10_standsAtTheTop 30 = .ok (.iload_n 3, 1) := by decide +kernel
theorem dX10_standsAtTheTop_31 : decode cX10_standsAtTheTop 31 = .ok (.aaload, 1) := by decide +kernel
theorem dX10_standsAtTheTop_32 : decode cX10_standsAtTheTop 32 = .ok (.iload_n 1, 1) := by decide +kernel
theorem dX10_standsAtTheTop_33 : decode cX10_standsAtTheTop 33 = .ok (.iload_n 2, 1) := by decide +kernel
theorem dX10_standsAtTheTop_34 : decode cX10_standsAtTheTop 34 = .ok (.invokevirtual 332, 3) := by decide +kernel
theorem dX10_standsAtTheTop_37 : decode cX10_standsAtTheTop 37 = .ok (.ifCond .eq 5, 3) := by decide +kernel
theorem dX10_standsAtTheTop_40 : decode cX10_standsAtTheTop 40 = .ok (.iconst 1, 1) := by decide +kernel
theorem dX10_standsAtTheTop_41 : decode cX10_standsAtTheTop 41 = .ok (.ireturn, 1) := by decide +kernel
theorem dX10_standsAtTheTop_42 : decode cX10_standsAtTheTop 42 = .ok (.iinc 3 1, 3) := by decide +kernel
theorem dX10_standsAtTheTop_45 : decode cX10_standsAtTheTop 45 = .ok (.goto (-43), 3) := by decide +kernel
theorem dX10_standsAtTheTop_48 : decode cX10_standsAtTheTop 48 = .ok (.iconst 0, 1) := by decide +kernel
theorem dX10_standsAtTheTop_49 : decode cX10_standsAtTheTop 49 = .ok (.ireturn, 1) := by decide +kernel
theorem dX10_person_0 : decode cX10_person 0 = .ok (.aload_n 0, 1) := by decide +kernel
theorem dX10_person_1 : decode cX10_person 1 = .ok (.iload_n 1, 1) := by decide +kernel
theorem dX10_person_2 : decode cX10_person 2 = .ok (.invokevirtual 91, 3) := by decide +kernel
theorem dX10_person_5 : decode cX10_person 5 = .ok (.astore_n 3, 1) := by decide +kernel
theorem dX10_person_6 : decode cX10_person 6 = .ok (.aload_n 3, 1) := by decide +kernel
theorem dX10_person_7 : decode cX10_person 7 = .ok (.ifnonnull 9, 3) := by decide +kernel
theorem dX10_person_10 : decode cX10_person 10 = .ok (.aload_n 0, 1) := by decide +kernel
theorem dX10_person_11 : decode cX10_person 11 = .ok (.iconst (-1), 1) := by decide +kernel
theorem dX10_person_12 : decode cX10_person 12 = .ok (.invokevirtual 95, 3) := by decide +kernel
theorem dX10_person_15 : decode cX10_person 15 = .ok (.ireturn, 1) := by decide +kernel
theorem dX10_person_16 : decode cX10_person 16 = .ok (.aload_n 3, 1) := by decide +kernel
theorem dX10_person_17 : decode cX10_person 17 = .ok (.getfield 103, 3) := by decide +kernel
theorem dX10_person_20 : decode cX10_person 20 = .ok (.ifCond .ne 14, 3) := by decide +kernel
theorem dX10_person_23 : decode cX10_person 23 = .ok (.iload_n 2, 1) := by decide +kernel
theorem dX10_person_24 : decode cX10_person 24 = .ok (.iconst 0, 1) := by decide +kernel
theorem dX10_person_25 : decode cX10_person 25 = .ok (.sipush 9999, 3) := by decide +kernel
theorem dX10_person_28 : decode cX10_person 28 = .ok (.invokestatic 99, 3) := by decide +kernel
theorem dX10_person_31 : decode cX10_person 31 = .ok (.ifCond .ne 10, 3) := by decide +kernel
theorem dX10_person_34 : decode cX10_person 34 = .ok (.aload_n 0, 1) := by decide +kernel
theorem dX10_person_35 : decode cX10_person 35 = .ok (.bipush (-6), 2) := by decide +kernel
theorem dX10_person_37 : decode cX10_person 37 = .ok (.invokevirtual 95, 3) := by decide +kernel
theorem dX10_person_40 : decode cX10_person 40 = .ok (.ireturn, 1) := by decide +kernel
theorem dX10_person_41 : decode cX10_person 41 = .ok (.aload_n 0, 1) := by decide +kernel
theorem dX10_person_42 : decode cX10_person 42 = .ok (.getfield 450, 3) := by decide +kernel
theorem dX10_person_45 : decode cX10_person 45 = .ok (.bipush 20, 2) := by decide +kernel
theorem dX10_person_47 : decode cX10_person 47 = .ok (.if_icmp .lt 10, 3) := by decide +kernel
theorem dX10_person_50 : decode cX10_person 50 = .ok (.aload_n 0, 1) := by decide +kernel
theorem dX10_person_51 : decode cX10_person 51 = .ok (.bipush (-7), 2) := by decide +kernel
theorem dX10_person_53 : decode cX10_person 53 = .ok (.invokevirtual 95, 3) := by decide +kernel
theorem dX10_person_56 : decode cX10_person 56 = .ok (.ireturn, 1) := by decide +kernel
theorem dX10_person_57 : decode cX10_person 57 = .ok (.aload_n 0, 1) := by decide +kernel
theorem dX10_person_58 : decode cX10_person 58 = .ok (.getfield 450, 3) := by decide +kernel
theorem dX10_person_61 : decode cX10_person 61 = .ok (.istore 4, 2) := by decide +kernel
theorem dX10_person_63 : decode cX10_person 63 = .ok (.aload_n 0, 1) := by decide +kernel
theorem dX10_person_64 : decode cX10_person 64 = .ok (.getfield 41, 3) := by decide +kernel
theorem dX10_person_67 : decode cX10_person 67 = .ok (.iload 4, 2) := by decide +kernel
theorem dX10_person_69 : decode cX10_person 69 = .ok (.new 39, 3) := by decide +kernel
theorem dX10_person_72 : decode cX10_person 72 = .ok (.dup, 1) := by decide +kernel
theorem dX10_person_73 : decode cX10_person 73 = .ok (.iload 4, 2) := by decide +kernel
theorem dX10_person_75 : decode cX10_person 75 = .ok (.aload_n 3, 1) := by decide +kernel
theorem dX10_person_76 : decode cX10_person 76 = .ok (.iload_n 2, 1) := by decide +kernel
theorem dX10_person_77 : decode cX10_person 77 = .ok (.invokespecial 453, 3) := by decide +kernel
theorem dX10_person_80 : decode cX10_person 80 = .ok (.aastore, 1) := by decide +kernel
theorem dX10_person_81 : decode cX10_person 81 = .ok (.aload_n 0, 1) := by decide +kernel
theorem dX10_person_82 : decode cX10_person 82 = .ok (.dup, 1) := by decide +kernel
theorem dX10_person_83 : decode cX10_person 83 = .ok (.getfield 450, 3) := by decide +kernel
theorem dX10_person_86 : decode cX10_person 86 = .ok (.iconst 1, 1) := by decide +kernel
theorem dX10_person_87 : decode cX10_person 87 = .ok (.iadd, 1) := by decide +kernel
theorem dX10_person_88 : decode cX10_person 88 = .ok (.putfield 450, 3) := by decide +kernel
theorem dX10_person_91 : decode cX10_person 91 = .ok (.iload 4, 2) := by decide +kernel
theorem dX10_person_93 : decode cX10_person 93 = .ok (.ireturn, 1) := by decide +kernel
theorem dX10_choose_0 : decode cX10_choose 0 = .ok (.aload_n 0, 1) := by decide +kernel
theorem dX10_choose_1 : decode cX10_choose 1 = .ok (.iload_n 1, 1) := by decide +kernel
theorem dX10_choose_2 : decode cX10_choose 2 = .ok (.invokevirtual 91, 3) := by decide +kernel
theorem dX10_choose_5 : decode cX10_choose 5 = .ok (.astore_n 3, 1) := by decide +kernel
theorem dX10_choose_6 : decode cX10_choose 6 = .ok (.aload_n 0, 1) := by decide +kernel
theorem dX10_choose_7 : decode cX10_choose 7 = .ok (.iload_n 2, 1) := by decide +kernel
theorem dX10_choose_8 : decode cX10_choose 8 = .ok (.invokevirtual 156, 3) := by decide +kernel
theorem dX10_choose_11 : decode cX10_choose 11 = .ok (.astore 4, 2) := by decide +kernel
theorem dX10_choose_13 : decode cX10_choose 13 = .ok (.aload_n 3, 1) := by decide +kernel
theorem dX10_choose_14 : decode cX10_choose 14 = .ok (.ifnull 8, 3) := by decide +kernel
theorem dX10_choose_17 : decode cX10_choose 17 = .ok (.aload 4, 2) := by decide +kernel
theorem dX10_choose_19 : decode cX10_choose 19 = .ok (.ifnonnull 9, 3) := by decide +kernel
theorem dX10_choose_22 : decode cX10_choose 22 = .ok (.aload_n 0, 1) := by decide +kernel
theorem dX10_choose_23 : decode cX10_choose 23 = .ok (.iconst (-1), 1) := by decide +kernel
theorem dX10_choose_24 : decode cX10_choose 24 = .ok (.invokevirtual 95, 3) := by decide +kernel
theorem dX10_choose_27 : decode cX10_choose 27 = .ok (.ireturn, 1) := by decide +kernel
theorem dX10_choose_28 : decode cX10_choose 28 = .ok (.aload 4, 2) := by decide +kernel
theorem dX10_choose_30 : decode cX10_choose 30 = .ok (.invokestatic 164, 3) := by decide +kernel
theorem dX10_choose_33 : decode cX10_choose 33 = .ok (.istore 5, 2) := by decide +kernel
theorem dX10_choose_35 : decode cX10_choose 35 = .ok (.iload 5, 2) := by decide +kernel
theorem dX10_choose_37 : decode cX10_choose 37 = .ok (.ifCond .eq 10, 3) := by decide +kernel
theorem dX10_choose_40 : decode cX10_choose 40 = .ok (.aload_n 0, 1) := by decide +kernel
theorem dX10_choose_41 : decode cX10_choose 41 = .ok (.iload 5, 2) := by decide +kernel
theorem dX10_choose_43 : decode cX10_choose 43 = .ok (.invokevirtual 95, 3) := by decide +kernel
theorem dX10_choose_46 : decode cX10_choose 46 = .ok (.ireturn, 1) := by decide +kernel
theorem dX10_choose_47 : decode cX10_choose 47 = .ok (.aload_n 0, 1) := by decide +kernel
theorem dX10_choose_48 : decode cX10_choose 48 = .ok (.aload_n 3, 1) := by decide +kernel
theorem dX10_choose_49 : decode cX10_choose 49 = .ok (.invokevirtual 456, 3) := by decide +kernel
theorem dX10_choose_52 : decode cX10_choose 52 = .ok (.istore 6, 2) := by decide +kernel
theorem dX10_choose_54 : decode cX10_choose 54 = .ok (.aload 4, 2) := by decide +kernel
theorem dX10_choose_56 : decode cX10_choose 56 = .ok (.getfield 168, 3) := by decide +kernel
theorem dX10_choose_59 : decode cX10_choose 59 = .ok (.iload 6, 2) := by decide +kernel
theorem dX10_choose_61 : decode cX10_choose 61 = .ok (.if_icmp .ge 10, 3) := by decide +kernel
theorem dX10_choose_64 : decode cX10_choose 64 = .ok (.aload_n 0, 1) := by decide +kernel
theorem dX10_choose_65 : decode cX10_choose 65 = .ok (.bipush (-5), 2) := by decide +kernel
theorem dX10_choose_67 : decode cX10_choose 67 = .ok (.invokevirtual 95, 3) := by decide +kernel
theorem dX10_choose_70 : decode cX10_choose 70 = .ok (.ireturn, 1) := by decide +kernel
theorem dX10_choose_71 : decode cX10_choose 71 = .ok (.aload_n 0, 1) := by decide +kernel
theorem dX10_choose_72 : decode cX10_choose 72 = .ok (.aload_n 3, 1) := by decide +kernel
theorem dX10_choose_73 : decode cX10_choose 73 = .ok (.aload 4, 2) := by decide +kernel
theorem dX10_choose_75 : decode cX10_choose 75 = .ok (.iload 6, 2) := by decide +kernel
theorem dX10_choose_77 : decode cX10_choose 77 = .ok (.invokevirtual 459, 3) := by decide +kernel
theorem dX10_choose_80 : decode cX10_choose 80 = .ok (.astore 7, 2) := by decide +kernel
theorem dX10_choose_82 : decode cX10_choose 82 = .ok (.aload 7, 2) := by decide +kernel
theorem dX10_choose_84 : decode cX10_choose 84 = .ok (.ifnull 18, 3) := by decide +kernel
theorem dX10_choose_87 : decode cX10_choose 87 = .ok (.aload_n 3, 1) := by decide +kernel
theorem dX10_choose_88 : decode cX10_choose 88 = .ok (.getfield 142, 3) := by decide +kernel
theorem dX10_choose_91 : decode cX10_choose 91 = .ok (.ifnonnull 11, 3) := by decide +kernel
theorem dX10_choose_94 : decode cX10_choose 94 = .ok (.aload_n 3, 1) := by decide +kernel
theorem dX10_choose_95 : decode cX10_choose 95 = .ok (.getfield 103, 3) := by decide +kernel
theorem dX10_choose_98 : decode cX10_choose 98 = .ok (.iconst 3, 1) := by decide +kernel
theorem dX10_choose_99 : decode cX10_choose 99 = .ok (.if_icmp .ne 10, 3) := by decide +kernel
theorem dX10_choose_102 : decode cX10_choose 102 = .ok (.aload_n 0, 1) := by decide +kernel
theorem dX10_choose_103 : decode cX10_choose 103 = .ok (.bipush (-6), 2) := by decide +kernel
theorem dX10_choose_105 : decode cX10_choose 105 = .ok (.invokevirtual 95, 3) := by decide +kernel
theorem dX10_choose_108 : decode cX10_choose 108 = .ok (.ireturn, 1) := by decide +kernel
theorem dX10_choose_109 : decode cX10_choose 109 = .ok (.aload_n 3, 1) := by decide +kernel
theorem dX10_choose_110 : decode cX10_choose 110 = .ok (.aload 7, 2) := by decide +kernel
theorem dX10_choose_112 : decode cX10_choose 112 = .ok (.putfield 142, 3) := by decide +kernel
theorem dX10_choose_115 : decode cX10_choose 115 = .ok (.aload 7, 2) := by decide +kernel
theorem dX10_choose_117 : decode cX10_choose 117 = .ok (.getfield 146, 3) := by decide +kernel
theorem dX10_choose_120 : decode cX10_choose 120 = .ok (.ireturn, 1) := by decide +kernel
theorem dX10_unchoose_0 : decode cX10_unchoose 0 = .ok (.aload_n 0, 1) := by decide +kernel
theorem dX10_unchoose_1 : decode cX10_unchoose 1 = .ok (.iload_n 1, 1) := by decide +kernel
theorem dX10_unchoose_2 : decode cX10_unchoose 2 = .ok (.invokevirtual 91, 3) := by decide +kernel
theorem dX10_unchoose_5 : decode cX10_unchoose 5 = .ok (.astore_n 2, 1) := by decide +kernel
theorem dX10_unchoose_6 : decode cX10_unchoose 6 = .ok (.aload_n 2, 1) := by decide +kernel
theorem dX10_unchoose_7 : decode cX10_unchoose 7 = .ok (.ifnonnull 9, 3) := by decide +kernel
theorem dX10_unchoose_10 : decode cX10_unchoose 10 = .ok (.aload_n 0, 1) := by decide +kernel
theorem dX10_unchoose_11 : decode cX10_unchoose 11 = .ok (.iconst (-1), 1) := by decide +kernel
theorem dX10_unchoose_12 : decode cX10_unchoose 12 = .ok (.invokevirtual 95, 3) := by decide +kernel
theorem dX10_unchoose_15 : decode cX10_unchoose 15 = .ok (.ireturn, 1) := by decide +kernel
theorem dX10_unchoose_16 : decode cX10_unchoose 16 = .ok (.aload_n 2, 1) := by decide +kernel
theorem dX10_unchoose_17 : decode cX10_unchoose 17 = .ok (.getfield 142, 3) := by decide +kernel
theorem dX10_unchoose_20 : decode cX10_unchoose 20 = .ok (.astore_n 3, 1) := by decide +kernel
theorem dX10_unchoose_21 : decode cX10_unchoose 21 = .ok (.aload_n 3, 1) := by decide +kernel
theorem dX10_unchoose_22 : decode cX10_unchoose 22 = .ok (.ifnonnull 10, 3) := by decide +kernel
theorem dX10_unchoose_25 : decode cX10_unchoose 25 = .ok (.aload_n 0, 1) := by decide +kernel
theorem dX10_unchoose_26 : decode cX10_unchoose 26 = .ok (.bipush (-6), 2) := by decide +kernel
theorem dX10_unchoose_28 : decode cX10_unchoose 28 = .ok (.invokevirtual 95, 3) := by decide +kernel
theorem dX10_unchoose_31 : decode cX10_unchoose 31 = .ok (.ireturn, 1) := by decide +kernel
theorem dX10_unchoose_32 : decode cX10_unchoose 32 = .ok (.iconst 0, 1) := by decide +kernel
theorem dX10_unchoose_33 : decode cX10_unchoose 33 = .ok (.istore 4, 2) := by decide +kernel
theorem dX10_unchoose_35 : decode cX10_unchoose 35 = .ok (.aload_n 2, 1) := by decide +kernel
theorem dX10_unchoose_36 : decode cX10_unchoose 36 = .ok (.astore 5, 2) := by decide +kernel
theorem dX10_unchoose_38 : decode cX10_unchoose 38 = .ok (.aload 5, 2) := by decide +kernel
theorem dX10_unchoose_40 : decode cX10_unchoose 40 = .ok (.ifnull 31, 3) := by decide +kernel
theorem dX10_unchoose_43 : decode cX10_unchoose 43 = .ok (.aload 5, 2) := by decide +kernel
theorem dX10_unchoose_45 : decode cX10_unchoose 45 = .ok (.getfield 142, 3) := by decide +kernel
theorem dX10_unchoose_48 : decode cX10_unchoose 48 = .ok (.aload_n 3, 1) := by decide +kernel
theorem dX10_unchoose_49 : decode cX10_unchoose 49 = .ok (.if_acmp .ne 22, 3) := by decide +kernel
theorem dX10_unchoose_52 : decode cX10_unchoose 52 = .ok (.aload 5, 2) := by decide +kernel
theorem dX10_unchoose_54 : decode cX10_unchoose 54 = .ok (.aconst_null, 1) := by decide +kernel
theorem dX10_unchoose_55 : decode cX10_unchoose 55 = .ok (.putfield 142, 3) := by decide +kernel
theorem dX10_unchoose_58 : decode cX10_unchoose 58 = .ok (.iinc 4 1, 3) := by decide +kernel
theorem dX10_unchoose_61 : decode cX10_unchoose 61 = .ok (.aload 5, 2) := by decide +kernel
theorem dX10_unchoose_63 : decode cX10_unchoose 63 = .ok (.getfield 117, 3) := by decide +kernel
theorem dX10_unchoose_66 : decode cX10_unchoose 66 = .ok (.astore 5, 2) := by decide +kernel
theorem dX10_unchoose_68 : decode cX10_unchoose 68 = .ok (.goto (-30), 3) := by decide +kernel
theorem dX10_unchoose_71 : decode cX10_unchoose 71 = .ok (.iload 4, 2) := by decide +kernel
theorem dX10_unchoose_73 : decode cX10_unchoose 73 = .ok (.ireturn, 1) := by decide +kernel
theorem dX10_bind_0 : decode cX10_bind 0 = .ok (.aload_n 0, 1) := by decide +kernel
theorem dX10_bind_1 : decode cX10_bind 1 = .ok (.iload_n 1, 1) := by decide +kernel
theorem dX10_bind_2 : decode cX10_bind 2 = .ok (.invokevirtual 196, 3) := by decide +kernel
theorem dX10_bind_5 : decode cX10_bind 5 = .ok (.astore_n 2, 1) := by decide +kernel
theorem dX10_bind_6 : decode cX10_bind 6 = .ok (.aload_n 2, 1) := by decide +kernel
theorem dX10_bind_7 : decode cX10_bind 7 = .ok (.ifnonnull 9, 3) := by decide +kernel
theorem dX10_bind_10 : decode cX10_bind 10 = .ok (.aload_n 0, 1) := by decide +kernel
theorem dX10_bind_11 : decode cX10_bind 11 = .ok (.iconst (-1), 1) := by decide +kernel
theorem dX10_bind_12 : decode cX10_bind 12 = .ok (.invokevirtual 95, 3) := by decide +kernel
theorem dX10_bind_15 : decode cX10_bind 15 = .ok (.ireturn, 1) := by decide +kernel
theorem dX10_bind_16 : decode cX10_bind 16 = .ok (.aload_n 2, 1) := by decide +kernel
theorem dX10_bind_17 : decode cX10_bind 17 = .ok (.getfield 309, 3) := by decide +kernel
theorem dX10_bind_20 : decode cX10_bind 20 = .ok (.iconst 2, 1) := by decide +kernel
theorem dX10_bind_21 : decode cX10_bind 21 = .ok (.if_icmp .ne 31, 3) := by decide +kernel
theorem dX10_bind_24 : decode cX10_bind 24 = .ok (.aload_n 2, 1) := by decide +kernel
theorem dX10_bind_25 : decode cX10_bind 25 = .ok (.getfield 255, 3) := by decide +kernel
theorem dX10_bind_28 : decode cX10_bind 28 = .ok (.getfield 103, 3) := by decide +kernel
theorem dX10_bind_31 : decode cX10_bind 31 = .ok (.iconst 3, 1) := by decide +kernel
theorem dX10_bind_32 : decode cX10_bind 32 = .ok (.if_icmp .eq 20, 3) := by decide +kernel
theorem dX10_bind_35 : decode cX10_bind 35 = .ok (.aload_n 2, 1) := by decide +kernel
theorem dX10_bind_36 : decode cX10_bind 36 = .ok (.getfield 255, 3) := by decide +kernel
theorem dX10_bind_39 : decode cX10_bind 39 = .ok (.getfield 142, 3) := by decide +kernel
theorem dX10_bind_42 : decode cX10_bind 42 = .ok (.ifnull 10, 3) := by decide +kernel
theorem dX10_bind_45 : decode cX10_bind 45 = .ok (.aload_n 2, 1) := by decide +kernel
theorem dX10_bind_46 : decode cX10_bind 46 = .ok (.getfield 322, 3) := by decide +kernel
theorem dX10_bind_49 : decode cX10_bind 49 = .ok (.ifCond .eq 10, 3) := by decide +kernel
theorem dX10_bind_52 : decode cX10_bind 52 = .ok (.aload_n 0, 1) := by decide +kernel
theorem dX10_bind_53 : decode cX10_bind 53 = .ok (.bipush (-6), 2) := by decide +kernel
theorem dX10_bind_55 : decode cX10_bind 55 = .ok (.invokevirtual 95, 3) := by decide +kernel
theorem dX10_bind_58 : decode cX10_bind 58 = .ok (.ireturn, 1) := by decide +kernel
theorem dX10_bind_59 : decode cX10_bind 59 = .ok (.aload_n 2, 1) := by decide +kernel
theorem dX10_bind_60 : decode cX10_bind 60 = .ok (.iconst 3, 1) := by decide +kernel
theorem dX10_bind_61 : decode cX10_bind 61 = .ok (.putfield 309, 3) := by decide +kernel
theorem dX10_bind_64 : decode cX10_bind 64 = .ok (.aload_n 2, 1) := by decide +kernel
theorem dX10_bind_65 : decode cX10_bind 65 = .ok (.getfield 255, 3) := by decide +kernel
theorem dX10_bind_68 : decode cX10_bind 68 = .ok (.getfield 142, 3) := by decide +kernel
theorem dX10_bind_71 : decode cX10_bind 71 = .ok (.getfield 146, 3) := by decide +kernel
theorem dX10_bind_74 : decode cX10_bind 74 = .ok (.ireturn, 1) := by decide +kernel
theorem dX10_unbind_0 : decode cX10_unbind 0 = .ok (.aload_n 0, 1) := by decide +kernel
theorem dX10_unbind_1 : decode cX10_unbind 1 = .ok (.iload_n 1, 1) := by decide +kernel
theorem dX10_unbind_2 : decode cX10_unbind 2 = .ok (.invokevirtual 196, 3) := by decide +kernel
theorem dX10_unbind_5 : decode cX10_unbind 5 = .ok (.astore_n 2, 1) := by decide +kernel
theorem dX10_unbind_6 : decode cX10_unbind 6 = .ok (.aload_n 2, 1) := by decide +kernel
theorem dX10_unbind_7 : decode cX10_unbind 7 = .ok (.ifnonnull 9, 3) := by decide +kernel
theorem dX10_unbind_10 : decode cX10_unbind 10 = .ok (.aload_n 0, 1) := by decide +kernel
theorem dX10_unbind_11 : decode cX10_unbind 11 = .ok (.iconst (-1), 1) := by decide +kernel
theorem dX10_unbind_12 : decode cX10_unbind 12 = .ok (.invokevirtual 95, 3) := by decide +kernel
theorem dX10_unbind_15 : decode cX10_unbind 15 = .ok (.ireturn, 1) := by decide +kernel
theorem dX10_unbind_16 : decode cX10_unbind 16 = .ok (.aload_n 2, 1) := by decide +kernel
theorem dX10_unbind_17 : decode cX10_unbind 17 = .ok (.getfield 309, 3) := by decide +kernel
theorem dX10_unbind_20 : decode cX10_unbind 20 = .ok (.iconst 3, 1) := by decide +kernel
theorem dX10_unbind_21 : decode cX10_unbind 21 = .ok (.if_icmp .ne 11, 3) := by decide +kernel
theorem dX10_unbind_24 : decode cX10_unbind 24 = .ok (.aload_n 2, 1) := by decide +kernel
theorem dX10_unbind_25 : decode cX10_unbind 25 = .ok (.getfield 463, 3) := by decide +kernel
theorem dX10_unbind_28 : decode cX10_unbind 28 = .ok (.iconst (-1), 1) := by decide +kernel
theorem dX10_unbind_29 : decode cX10_unbind 29 = .ok (.if_icmp .eq 10, 3) := by decide +kernel
theorem dX10_unbind_32 : decode cX10_unbind 32 = .ok (.aload_n 0, 1) := by decide +kernel
theorem dX10_unbind_33 : decode cX10_unbind 33 = .ok (.bipush (-6), 2) := by decide +kernel
theorem dX10_unbind_35 : decode cX10_unbind 35 = .ok (.invokevirtual 95, 3) := by decide +kernel
theorem dX10_unbind_38 : decode cX10_unbind 38 = .ok (.ireturn, 1) := by decide +kernel
theorem dX10_unbind_39 : decode cX10_unbind 39 = .ok (.aload_n 2, 1) := by decide +kernel
theorem dX10_unbind_40 : decode cX10_unbind 40 = .ok (.aload_n 0, 1) := by decide +kernel
theorem dX10_unbind_41 : decode cX10_unbind 41 = .ok (.getfield 114, 3) := by decide +kernel
theorem dX10_unbind_44 : decode cX10_unbind 44 = .ok (.aload_n 2, 1) := by decide +kernel
theorem dX10_unbind_45 : decode cX10_unbind 45 = .ok (.getfield 255, 3) := by decide +kernel
theorem dX10_unbind_48 : decode cX10_unbind 48 = .ok (.aload_n 0, 1) := by decide +kernel
theorem dX10_unbind_49 : decode cX10_unbind 49 = .ok (.getfield 11, 3) := by decide +kernel
theorem dX10_unbind_52 : decode cX10_unbind 52 = .ok (.iconst 0, 1) := by decide +kernel
theorem dX10_unbind_53 : decode cX10_unbind 53 = .ok (.aaload, 1) := by decide +kernel
theorem dX10_unbind_54 : decode cX10_unbind 54 = .ok (.invokestatic 110, 3) := by decide +kernel
theorem dX10_unbind_57 : decode cX10_unbind 57 = .ok (.iadd, 1) := by decide +kernel
theorem dX10_unbind_58 : decode cX10_unbind 58 = .ok (.putfield 463, 3) := by decide +kernel
theorem dX10_unbind_61 : decode cX10_unbind 61 = .ok (.aload_n 2, 1) := by decide +kernel
theorem dX10_unbind_62 : decode cX10_unbind 62 = .ok (.getfield 463, 3) := by decide +kernel
theorem dX10_unbind_65 : decode cX10_unbind 65 = .ok (.ireturn, 1) := by decide +kernel
theorem dX10_give_0 : decode cX10_give 0 = .ok (.aload_n 0, 1) := by decide +kernel
theorem dX10_give_1 : decode cX10_give 1 = .ok (.iload_n 1, 1) := by decide +kernel
theorem dX10_give_2 : decode cX10_give 2 = .ok (.invokevirtual 196, 3) := by decide +kernel
theorem dX10_give_5 : decode cX10_give 5 = .ok (.astore_n 2, 1) := by decide +kernel
theorem dX10_give_6 : decode cX10_give 6 = .ok (.aload_n 2, 1) := by decide +kernel
theorem dX10_give_7 : decode cX10_give 7 = .ok (.ifnonnull 9, 3) := by decide +kernel
theorem dX10_give_10 : decode cX10_give 10 = .ok (.aload_n 0, 1) := by decide +kernel
theorem dX10_give_11 : decode cX10_give 11 = .ok (.iconst (-1), 1) := by decide +kernel
theorem dX10_give_12 : decode cX10_give 12 = .ok (.invokevirtual 95, 3) := by decide +kernel
theorem dX10_give_15 : decode cX10_give 15 = .ok (.ireturn, 1) := by decide +kernel
theorem dX10_give_16 : decode cX10_give 16 = .ok (.aload_n 2, 1) := by decide +kernel
theorem dX10_give_17 : decode cX10_give 17 = .ok (.iconst 2, 1) := by decide +kernel
theorem dX10_give_18 : decode cX10_give 18 = .ok (.invokevirtual 205, 3) := by decide +kernel
theorem dX10_give_21 : decode cX10_give 21 = .ok (.ifCond .eq 42, 3) := by decide +kernel
theorem dX10_give_24 : decode cX10_give 24 = .ok (.aload_n 2, 1) := by decide +kernel
theorem dX10_give_25 : decode cX10_give 25 = .ok (.getfield 255, 3) := by decide +kernel
theorem dX10_give_28 : decode cX10_give 28 = .ok (.getfield 103, 3) := by decide +kernel
theorem dX10_give_31 : decode cX10_give 31 = .ok (.iconst 3, 1) := by decide +kernel
theorem dX10_give_32 : decode cX10_give 32 = .ok (.if_icmp .eq 31, 3) := by decide +kernel
theorem dX10_give_35 : decode cX10_give 35 = .ok (.aload_n 2, 1) := by decide +kernel
theorem dX10_give_36 : decode cX10_give 36 = .ok (.getfield 255, 3) := by decide +kernel
theorem dX10_give_39 : decode cX10_give 39 = .ok (.getfield 142, 3) := by decide +kernel
theorem dX10_give_42 : decode cX10_give 42 = .ok (.ifnull 21, 3) := by decide +kernel
theorem dX10_give_45 : decode cX10_give 45 = .ok (.aload_n 2, 1) := by decide +kernel
theorem dX10_give_46 : decode cX10_give 46 = .ok (.getfield 322, 3) := by decide +kernel
theorem dX10_give_49 : decode cX10_give 49 = .ok (.ifCond .ne 14, 3) := by decide +kernel
theorem dX10_give_52 : decode cX10_give 52 = .ok (.aload_n 2, 1) := by decide +kernel
theorem dX10_give_53 : decode cX10_give 53 = .ok (.aload_n 0, 1) := by decide +kernel
theorem dX10_give_54 : decode cX10_give 54 = .ok (.getfield 114, 3) := by decide +kernel
theorem dX10_give_57 : decode cX10_give 57 = .ok (.invokevirtual 466, 3) := by decide +kernel
theorem dX10_give_60 : decode cX10_give 60 = .ok (.ifCond .eq 10, 3) := by decide +kernel
theorem dX10_give_63 : decode cX10_give 63 = .ok (.aload_n 0, 1) := by decide +kernel
theorem dX10_give_64 : decode cX10_give 64 = .ok (.bipush (-6), 2) := by decide +kernel
theorem dX10_give_66 : decode cX10_give 66 = .ok (.invokevirtual 95, 3) := by decide +kernel
theorem dX10_give_69 : decode cX10_give 69 = .ok (.ireturn, 1) := by decide +kernel
theorem dX10_give_70 : decode cX10_give 70 = .ok (.aload_n 2, 1) := by decide +kernel
theorem dX10_give_71 : decode cX10_give 71 = .ok (.iconst 1, 1) := by decide +kernel
theorem dX10_give_72 : decode cX10_give 72 = .ok (.putfield 322, 3) := by decide +kernel
theorem dX10_give_75 : decode cX10_give 75 = .ok (.aload_n 2, 1) := by decide +kernel
theorem dX10_give_76 : decode cX10_give 76 = .ok (.getfield 255, 3) := by decide +kernel
theorem dX10_give_79 : decode cX10_give 79 = .ok (.getfield 142, 3) := by decide +kernel
theorem dX10_give_82 : decode cX10_give 82 = .ok (.getfield 146, 3) := by decide +kernel
theorem dX10_give_85 : decode cX10_give 85 = .ok (.ireturn, 1) := by decide +kernel
theorem dX10_isCandidate_0 : decode cX10_isCandidate 0 = .ok (.aload_n 2, 1) := by decide +kernel
theorem dX10_isCandidate_1 : decode cX10_isCandidate 1 = .ok (.getfield 103, 3) := by decide +kernel
theorem dX10_isCandidate_4 : decode cX10_isCandidate 4 = .ok (.ifCond .ne 17, 3) := by decide +kernel
theorem dX10_isCandidate_7 : decode cX10_isCandidate 7 = .ok (.aload_n 1, 1) := by decide +kernel
theorem dX10_isCandidate_8 : decode cX10_isCandidate 8 = .ok (.getfield 469, 3) := by decide +kernel
theorem dX10_isCandidate_11 : decode cX10_isCandidate 11 = .ok (.aload_n 2, 1) := by decide +kernel
theorem dX10_isCandidate_12 : decode cX10_isCandidate 12 = .ok (.if_acmp .ne 7, 3) := by decide +kernel
theorem dX10_isCandidate_15 : decode cX10_isCandidate 15 = .ok (.iconst 1, 1) := by decide +kernel
theorem dX10_isCandidate_16 : decode cX10_isCandidate 16 = .ok (.goto 4, 3) := by decide +kernel
theorem dX10_isCandidate_19 : decode cX10_isCandidate 19 = .ok (.iconst 0, 1) := by decide +kernel
theorem dX10_isCandidate_20 : decode cX10_isCandidate 20 = .ok (.ireturn, 1) := by decide +kernel
theorem dX10_isCandidate_21 : decode cX10_isCandidate 21 = .ok (.iconst 0, 1) := by decide +kernel
theorem dX10_isCandidate_22 : decode cX10_isCandidate 22 = .ok (.istore_n 3, 1) := by decide +kernel
theorem dX10_isCandidate_23 : decode cX10_isCandidate 23 = .ok (.iload_n 3, 1) := by decide +kernel
theorem dX10_isCandidate_24 : decode cX10_isCandidate 24 = .ok (.aload_n 0, 1) := by decide +kernel
theorem dX10_isCandidate_25 : decode cX10_isCandidate 25 = .ok (.getfield 88, 3) := by decide +kernel
theorem dX10_isCandidate_28 : decode cX10_isCandidate 28 = .ok (.if_icmp .ge 37, 3) := by decide +kernel
theorem dX10_isCandidate_31 : decode cX10_isCandidate 31 = .ok (.aload_n 0, 1) := by decide +kernel
theorem dX10_isCandidate_32 : decode cX10_isCandidate 32 = .ok (.getfield 11, 3) := by decide +kernel
theorem dX10_isCandidate_35 : decode cX10_isCandidate 35 = .ok (.iload_n 3, 1) := by decide +kernel
theorem dX10_isCandidate_36 : decode cX10_isCandidate 36 = .ok (.aaload, 1) := by decide +kernel
theorem dX10_isCandidate_37 : decode cX10_isCandidate 37 = .ok (.getfield 117, 3) := by decide +kernel
theorem dX10_isCandidate_40 : decode cX10_isCandidate 40 = .ok (.aload_n 2, 1) := by decide +kernel
theorem dX10_isCandidate_41 : decode cX10_isCandidate 41 = .ok (.if_acmp .ne 18, 3) := by decide +kernel
theorem dX10_isCandidate_44 : decode cX10_isCandidate 44 = .ok (.aload_n 0, 1) := by decide +kernel
theorem dX10_isCandidate_45 : decode cX10_isCandidate 45 = .ok (.getfield 11, 3) := by decide +kernel
theorem dX10_isCandidate_48 : decode cX10_isCandidate 48 = .ok (.iload_n 3, 1) := by decide +kernel
theorem dX10_isCandidate_49 : decode cX10_isCandidate 49 = .ok (.aaload, 1) := by decide +kernel
theorem dX10_isCandidate_50 : decode cX10_isCandidate 50 = .ok (.getfield 142, 3) := by decide +kernel
theorem dX10_isCandidate_53 : decode cX10_isCandidate 53 = .ok (.aload_n 1, 1) := by decide +kernel
theorem dX10_isCandidate_54 : decode cX10_isCandidate 54 = .ok (.if_acmp .ne 5, 3) := by decide +kernel
theorem dX10_isCandidate_57 : decode cX10_isCandidate 57 = .ok (.iconst 1, 1) := by decide +kernel
theorem dX10_isCandidate_58 : decode cX10_isCandidate 58 = .ok (.ireturn, 1) := by decide +kernel
theorem dX10_isCandidate_59 : decode cX10_isCandidate 59 = .ok (.iinc 3 1, 3) := by decide +kernel
theorem dX10_isCandidate_62 : decode cX10_isCandidate 62 = .ok (.goto (-39), 3) := by decide +kernel
theorem dX10_isCandidate_65 : decode cX10_isCandidate 65 = .ok (.iconst 0, 1) := by decide +kernel
theorem dX10_isCandidate_66 : decode cX10_isCandidate 66 = .ok (.ireturn, 1) := by decide +kernel
theorem dX10_candidatesOf_0 : decode cX10_candidatesOf 0 = .ok (.iconst 0, 1) := by decide +kernel
theorem dX10_candidatesOf_1 : decode cX10_candidatesOf 1 = .ok (.istore_n 2, 1) := by decide +kernel
theorem dX10_candidatesOf_2 : decode cX10_candidatesOf 2 = .ok (.iconst 0, 1) := by decide +kernel
theorem dX10_candidatesOf_3 : decode cX10_candidatesOf 3 = .ok (.istore_n 3, 1) := by decide +kernel
theorem dX10_candidatesOf_4 : decode cX10_candidatesOf 4 = .ok (.iload_n 3, 1) := by decide +kernel
theorem dX10_candidatesOf_5 : decode cX10_candidatesOf 5 = .ok (.aload_n 0, 1) := by decide +kernel
theorem dX10_candidatesOf_6 : decode cX10_candidatesOf 6 = .ok (.getfield 450, 3) := by decide +kernel
theorem dX10_candidatesOf_9 : decode cX10_candidatesOf 9 = .ok (.if_icmp .ge 26, 3) := by decide +kernel
theorem dX10_candidatesOf_12 : decode cX10_candidatesOf 12 = .ok (.iload_n 2, 1) := by decide +kernel
theorem dX10_candidatesOf_13 : decode cX10_candidatesOf 13 = .ok (.aload_n 0, 1) := by decide +kernel
theorem dX10_candidatesOf_14 : decode cX10_candidatesOf 14 = .ok (.aload_n 0, 1) := by decide +kernel
theorem dX10_candidatesOf_15 : decode cX10_candidatesOf 15 = .ok (.getfield 41, 3) := by decide +kernel
theorem dX10_candidatesOf_18 : decode cX10_candidatesOf 18 = .ok (.iload_n 3, 1) := by decide +kernel
theorem dX10_candidatesOf_19 : decode cX10_candidatesOf 19 = .ok (.aaload, 1) := by decide +kernel
theorem dX10_candidatesOf_20 : decode cX10_candidatesOf 20 = .ok (.aload_n 1, 1) := by decide +kernel
theorem dX10_candidatesOf_21 : decode cX10_candidatesOf 21 = .ok (.invokevirtual 470, 3) := by decide +kernel
theorem dX10_candidatesOf_24 : decode cX10_candidatesOf 24 = .ok (.invokestatic 138, 3) := by decide +kernel
theorem dX10_candidatesOf_27 : decode cX10_candidatesOf 27 = .ok (.iadd, 1) := by decide +kernel
theorem dX10_candidatesOf_28 : decode cX10_candidatesOf 28 = .ok (.istore_n 2, 1) := by decide +kernel
theorem dX10_candidatesOf_29 : decode cX10_candidatesOf 29 = .ok (.iinc 3 1, 3) := by decide +kernel
theorem dX10_candidatesOf_32 : decode cX10_candidatesOf 32 = .ok (.goto (-28), 3) := by decide +kernel
theorem dX10_candidatesOf_35 : decode cX10_candidatesOf 35 = .ok (.iload_n 2, 1) := by decide +kernel
theorem dX10_candidatesOf_36 : decode cX10_candidatesOf 36 = .ok (.ireturn, 1) := by decide +kernel
theorem dX10_mostVoted_0 : decode cX10_mostVoted 0 = .ok (.aconst_null, 1) := by decide +kernel
theorem dX10_mostVoted_1 : decode cX10_mostVoted 1 = .ok (.astore 4, 2) := by decide +kernel
theorem dX10_mostVoted_3 : decode cX10_mostVoted 3 = .ok (.iconst 0, 1) := by decide +kernel
theorem dX10_mostVoted_4 : decode cX10_mostVoted 4 = .ok (.istore 5, 2) := by decide +kernel
theorem dX10_mostVoted_6 : decode cX10_mostVoted 6 = .ok (.iconst 0, 1) := by decide +kernel
theorem dX10_mostVoted_7 : decode cX10_mostVoted 7 = .ok (.istore 6, 2) := by decide +kernel
theorem dX10_mostVoted_9 : decode cX10_mostVoted 9 = .ok (.iload 6, 2) := by decide +kernel
theorem dX10_mostVoted_11 : decode cX10_mostVoted 11 = .ok (.aload_n 0, 1) := by decide +kernel
theorem dX10_mostVoted_12 : decode cX10_mostVoted 12 = .ok (.getfield 450, 3) := by decide +kernel
theorem dX10_mostVoted_15 : decode cX10_mostVoted 15 = .ok (.if_icmp .ge 94, 3) := by decide +kernel
theorem dX10_mostVoted_18 : decode cX10_mostVoted 18 = .ok (.aload_n 0, 1) := by decide +kernel
theorem dX10_mostVoted_19 : decode cX10_mostVoted 19 = .ok (.getfield 41, 3) := by decide +kernel
theorem dX10_mostVoted_22 : decode cX10_mostVoted 22 = .ok (.iload 6, 2) := by decide +kernel
theorem dX10_mostVoted_24 : decode cX10_mostVoted 24 = .ok (.aaload, 1) := by decide +kernel
theorem dX10_mostVoted_25 : decode cX10_mostVoted 25 = .ok (.astore 7, 2) := by decide +kernel
theorem dX10_mostVoted_27 : decode cX10_mostVoted 27 = .ok (.aload_n 0, 1) := by decide +kernel
theorem dX10_mostVoted_28 : decode cX10_mostVoted 28 = .ok (.aload 7, 2) := by decide +kernel
theorem dX10_mostVoted_30 : decode cX10_mostVoted 30 = .ok (.aload_n 1, 1) := by decide +kernel
theorem dX10_mostVoted_31 : decode cX10_mostVoted 31 = .ok (.invokevirtual 470, 3) := by decide +kernel
theorem dX10_mostVoted_34 : decode cX10_mostVoted 34 = .ok (.ifCond .eq 69, 3) := by decide +kernel
theorem dX10_mostVoted_37 : decode cX10_mostVoted 37 = .ok (.aload_n 2, 1) := by decide +kernel
theorem dX10_mostVoted_38 : decode cX10_mostVoted 38 = .ok (.iload 6, 2) := by decide +kernel
theorem dX10_mostVoted_40 : decode cX10_mostVoted 40 = .ok (.iload_n 3, 1) := by decide +kernel
theorem dX10_mostVoted_41 : decode cX10_mostVoted 41 = .ok (.invokevirtual 474, 3) := by decide +kernel
theorem dX10_mostVoted_44 : decode cX10_mostVoted 44 = .ok (.istore 8, 2) := by decide +kernel
theorem dX10_mostVoted_46 : decode cX10_mostVoted 46 = .ok (.aload 4, 2) := by decide +kernel
theorem dX10_mostVoted_48 : decode cX10_mostVoted 48 = .ok (.ifnull 27, 3) := by decide +kernel
theorem dX10_mostVoted_51 : decode cX10_mostVoted 51 = .ok (.iload 8, 2) := by decide +kernel
theorem dX10_mostVoted_53 : decode cX10_mostVoted 53 = .ok (.iload 5, 2) := by decide +kernel
theorem dX10_mostVoted_55 : decode cX10_mostVoted 55 = .ok (.if_icmp .ne 20, 3) := by decide +kernel
theorem dX10_mostVoted_58 : decode cX10_mostVoted 58 = .ok (.aload 7, 2) := by decide +kernel
theorem dX10_mostVoted_60 : decode cX10_mostVoted 60 = .ok (.getfield 477, 3) := by decide +kernel
theorem dX10_mostVoted_63 : decode cX10_mostVoted 63 = .ok (.aload 4, 2) := by decide +kernel
theorem dX10_mostVoted_65 : decode cX10_mostVoted 65 = .ok (.getfield 477, 3) := by decide +kernel
theorem dX10_mostVoted_68 : decode cX10_mostVoted 68 = .ok (.if_icmp .ge 7, 3) := by decide +kernel
theorem dX10_mostVoted_71 : decode cX10_mostVoted 71 = .ok (.iconst 1, 1) := by decide +kernel
theorem dX10_mostVoted_72 : decode cX10_mostVoted 72 = .ok (.goto 4, 3) := by decide +kernel
theorem dX10_mostVoted_75 : decode cX10_mostVoted 75 = .ok (.iconst 0, 1) := by decide +kernel
theorem dX10_mostVoted_76 : decode cX10_mostVoted 76 = .ok (.istore 9, 2) := by decide +kernel
theorem dX10_mostVoted_78 : decode cX10_mostVoted 78 = .ok (.aload 4, 2) := by decide +kernel
theorem dX10_mostVoted_80 : decode cX10_mostVoted 80 = .ok (.ifnull 15, 3) := by decide +kernel
theorem dX10_mostVoted_83 : decode cX10_mostVoted 83 = .ok (.iload 8, 2) := by decide +kernel
theorem dX10_mostVoted_85 : decode cX10_mostVoted 85 = .ok (.iload 5, 2) := by decide +kernel
theorem dX10_mostVoted_87 : decode cX10_mostVoted 87 = .ok (.if_icmp .gt 8, 3) := by decide +kernel
theorem dX10_mostVoted_90 : decode cX10_mostVoted 90 = .ok (.iload 9, 2) := by decide +kernel
theorem dX10_mostVoted_92 : decode cX10_mostVoted 92 = .ok (.ifCond .eq 11, 3) := by decide +kernel
theorem dX10_mostVoted_95 : decode cX10_mostVoted 95 = .ok (.aload 7, 2) := by decide +kernel
theorem dX10_mostVoted_97 : decode cX10_mostVoted 97 = .ok (.astore 4, 2) := by decide +kernel
theorem dX10_mostVoted_99 : decode cX10_mostVoted 99 = .ok (.iload 8, 2) := by decide +kernel
theorem dX10_mostVoted_101 : decode cX10_mostVoted 101 = .ok (.istore 5, 2) := by decide +kernel
theorem dX10_mostVoted_103 : decode cX10_mostVoted 103 = .ok (.iinc 6 1, 3) := by decide +kernel
theorem dX10_mostVoted_106 : decode cX10_mostVoted 106 = .ok (.goto (-97), 3) := by decide +kernel
theorem dX10_mostVoted_109 : decode cX10_mostVoted 109 = .ok (.aload 4, 2) := by decide +kernel
theorem dX10_mostVoted_111 : decode cX10_mostVoted 111 = .ok (.areturn, 1) := by decide +kernel
theorem dX10_clash_0 : decode cX10_clash 0 = .ok (.iload_n 1, 1) := by decide +kernel
theorem dX10_clash_1 : decode cX10_clash 1 = .ok (.iconst 0, 1) := by decide +kernel
theorem dX10_clash_2 : decode cX10_clash 2 = .ok (.bipush 15, 2) := by decide +kernel
theorem dX10_clash_4 : decode cX10_clash 4 = .ok (.invokestatic 99, 3) := by decide +kernel
theorem dX10_clash_7 : decode cX10_clash 7 = .ok (.ifCond .eq 13, 3) := by decide +kernel
theorem dX10_clash_10 : decode cX10_clash 10 = .ok (.iload_n 2, 1) := by decide +kernel
theorem dX10_clash_11 : decode cX10_clash 11 = .ok (.iconst 0, 1) := by decide +kernel
theorem dX10_clash_12 : decode cX10_clash 12 = .ok (.bipush 15, 2) := by decide +kernel
theorem dX10_clash_14 : decode cX10_clash 14 = .ok (.invokestatic 99, 3) := by decide +kernel
theorem dX10_clash_17 : decode cX10_clash 17 = .ok (.ifCond .ne 10, 3) := by decide +kernel
theorem dX10_clash_20 : decode cX10_clash 20 = .ok (.aload_n 0, 1) := by decide +kernel
theorem dX10_clash_21 : decode cX10_clash 21 = .ok (.bipush (-6), 2) := by decide +kernel
theorem dX10_clash_23 : decode cX10_clash 23 = .ok (.invokevirtual 95, 3) := by decide +kernel
theorem dX10_clash_26 : decode cX10_clash 26 = .ok (.ireturn, 1) := by decide +kernel
theorem dX10_clash_27 : decode cX10_clash 27 = .ok (.aload_n 0, 1) := by decide +kernel
theorem dX10_clash_28 : decode cX10_clash 28 = .ok (.getfield 69, 3) := by decide +kernel
theorem dX10_clash_31 : decode cX10_clash 31 = .ok (.iload_n 1, 1) := by decide +kernel
theorem dX10_clash_32 : decode cX10_clash 32 = .ok (.iload_n 2, 1) := by decide +kernel
theorem dX10_clash_33 : decode cX10_clash 33 = .ok (.iload_n 3, 1) := by decide +kernel
theorem dX10_clash_34 : decode cX10_clash 34 = .ok (.invokevirtual 480, 3) := by decide +kernel
theorem dX10_clash_37 : decode cX10_clash 37 = .ok (.invokestatic 138, 3) := by decide +kernel
theorem dX10_clash_40 : decode cX10_clash 40 = .ok (.ireturn, 1) := by decide +kernel
theorem dX10_leave_0 : decode cX10_leave 0 = .ok (.aload_n 0, 1) := by decide +kernel
theorem dX10_leave_1 : decode cX10_leave 1 = .ok (.iload_n 1, 1) := by decide +kernel
theorem dX10_leave_2 : decode cX10_leave 2 = .ok (.invokevirtual 91, 3) := by decide +kernel
theorem dX10_leave_5 : decode cX10_leave 5 = .ok (.astore_n 2, 1) := by decide +kernel
theorem dX10_leave_6 : decode cX10_leave 6 = .ok (.aload_n 2, 1) := by decide +kernel
theorem dX10_leave_7 : decode cX10_leave 7 = .ok (.ifnonnull 9, 3) := by decide +kernel
theorem dX10_leave_10 : decode cX10_leave 10 = .ok (.aload_n 0, 1) := by decide +kernel
theorem dX10_leave_11 : decode cX10_leave 11 = .ok (.iconst (-1), 1) := by decide +kernel
theorem dX10_leave_12 : decode cX10_leave 12 = .ok (.invokevirtual 95, 3) := by decide +kernel
theorem dX10_leave_15 : decode cX10_leave 15 = .ok (.ireturn, 1) := by decide +kernel
theorem dX10_leave_16 : decode cX10_leave 16 = .ok (.aload_n 0, 1) := by decide +kernel
theorem dX10_leave_17 : decode cX10_leave 17 = .ok (.aload_n 2, 1) := by decide +kernel
theorem dX10_leave_18 : decode cX10_leave 18 = .ok (.invokevirtual 484, 3) := by decide +kernel
theorem dX10_leave_21 : decode cX10_leave 21 = .ok (.bipush 12, 2) := by decide +kernel
theorem dX10_leave_23 : decode cX10_leave 23 = .ok (.if_icmp .le 10, 3) := by decide +kernel
theorem dX10_leave_26 : decode cX10_leave 26 = .ok (.aload_n 0, 1) := by decide +kernel
theorem dX10_leave_27 : decode cX10_leave 27 = .ok (.bipush (-7), 2) := by decide +kernel
theorem dX10_leave_29 : decode cX10_leave 29 = .ok (.invokevirtual 95, 3) := by decide +kernel
theorem dX10_leave_32 : decode cX10_leave 32 = .ok (.ireturn, 1) := by decide +kernel
theorem dX10_leave_33 : decode cX10_leave 33 = .ok (.aload_n 0, 1) := by decide +kernel
theorem dX10_leave_34 : decode cX10_leave 34 = .ok (.aload_n 2, 1) := by decide +kernel
theorem dX10_leave_35 : decode cX10_leave 35 = .ok (.invokevirtual 487, 3) := by decide +kernel
theorem dX10_leave_38 : decode cX10_leave 38 = .ok (.aload_n 0, 1) := by decide +kernel
theorem dX10_leave_39 : decode cX10_leave 39 = .ok (.getfield 69, 3) := by decide +kernel
theorem dX10_leave_42 : decode cX10_leave 42 = .ok (.invokevirtual 490, 3) := by decide +kernel
theorem dX10_leave_45 : decode cX10_leave 45 = .ok (.ireturn, 1) := by decide +kernel
theorem dX10_judge_0 : decode cX10_judge 0 = .ok (.aload_n 0, 1) := by decide +kernel
theorem dX10_judge_1 : decode cX10_judge 1 = .ok (.iload_n 1, 1) := by decide +kernel
theorem dX10_judge_2 : decode cX10_judge 2 = .ok (.invokevirtual 91, 3) := by decide +kernel
theorem dX10_judge_5 : decode cX10_judge 5 = .ok (.astore_n 3, 1) := by decide +kernel
theorem dX10_judge_6 : decode cX10_judge 6 = .ok (.aload_n 0, 1) := by decide +kernel
theorem dX10_judge_7 : decode cX10_judge 7 = .ok (.iload_n 2, 1) := by decide +kernel
theorem dX10_judge_8 : decode cX10_judge 8 = .ok (.invokevirtual 156, 3) := by decide +kernel
theorem dX10_judge_11 : decode cX10_judge 11 = .ok (.astore 4, 2) := by decide +kernel
theorem dX10_judge_13 : decode cX10_judge 13 = .ok (.aload_n 3, 1) := by decide +kernel
theorem dX10_judge_14 : decode cX10_judge 14 = .ok (.ifnull 8, 3) := by decide +kernel
theorem dX10_judge_17 : decode cX10_judge 17 = .ok (.aload 4, 2) := by decide +kernel
theorem dX10_judge_19 : decode cX10_judge 19 = .ok (.ifnonnull 9, 3) := by decide +kernel
theorem dX10_judge_22 : decode cX10_judge 22 = .ok (.aload_n 0, 1) := by decide +kernel
theorem dX10_judge_23 : decode cX10_judge 23 = .ok (.iconst (-1), 1) := by decide +kernel
theorem dX10_judge_24 : decode cX10_judge 24 = .ok (.invokevirtual 95, 3) := by decide +kernel
theorem dX10_judge_27 : decode cX10_judge 27 = .ok (.ireturn, 1) := by decide +kernel
theorem dX10_judge_28 : decode cX10_judge 28 = .ok (.aload 4, 2) := by decide +kernel
theorem dX10_judge_30 : decode cX10_judge 30 = .ok (.invokestatic 164, 3) := by decide +kernel
theorem dX10_judge_33 : decode cX10_judge 33 = .ok (.istore 5, 2) := by decide +kernel
theorem dX10_judge_35 : decode cX10_judge 35 = .ok (.iload 5, 2) := by decide +kernel
theorem dX10_judge_37 : decode cX10_judge 37 = .ok (.ifCond .eq 10, 3) := by decide +kernel
theorem dX10_judge_40 : decode cX10_judge 40 = .ok (.aload_n 0, 1) := by decide +kernel
theorem dX10_judge_41 : decode cX10_judge 41 = .ok (.iload 5, 2) := by decide +kernel
theorem dX10_judge_43 : decode cX10_judge 43 = .ok (.invokevirtual 95, 3) := by decide +kernel
theorem dX10_judge_46 : decode cX10_judge 46 = .ok (.ireturn, 1) := by decide +kernel
theorem dX10_judge_47 : decode cX10_judge 47 = .ok (.aload_n 0, 1) := by decide +kernel
theorem dX10_judge_48 : decode cX10_judge 48 = .ok (.aload_n 3, 1) := by decide +kernel
theorem dX10_judge_49 : decode cX10_judge 49 = .ok (.invokevirtual 484, 3) := by decide +kernel
theorem dX10_judge_52 : decode cX10_judge 52 = .ok (.istore 6, 2) := by decide +kernel
theorem dX10_judge_54 : decode cX10_judge 54 = .ok (.aload 4, 2) := by decide +kernel
theorem dX10_judge_56 : decode cX10_judge 56 = .ok (.iload 6, 2) := by decide +kernel
theorem dX10_judge_58 : decode cX10_judge 58 = .ok (.invokevirtual 493, 3) := by decide +kernel
theorem dX10_judge_61 : decode cX10_judge 61 = .ok (.ifCond .ne 10, 3) := by decide +kernel
theorem dX10_judge_64 : decode cX10_judge 64 = .ok (.aload_n 0, 1) := by decide +kernel
theorem dX10_judge_65 : decode cX10_judge 65 = .ok (.bipush (-6), 2) := by decide +kernel
theorem dX10_judge_67 : decode cX10_judge 67 = .ok (.invokevirtual 95, 3) := by decide +kernel
theorem dX10_judge_70 : decode cX10_judge 70 = .ok (.ireturn, 1) := by decide +kernel
theorem dX10_judge_71 : decode cX10_judge 71 = .ok (.iload 6, 2) := by decide +kernel
theorem dX10_judge_73 : decode cX10_judge 73 = .ok (.bipush 12, 2) := by decide +kernel
theorem dX10_judge_75 : decode cX10_judge 75 = .ok (.if_icmp .le 10, 3) := by decide +kernel
theorem dX10_judge_78 : decode cX10_judge 78 = .ok (.aload_n 0, 1) := by decide +kernel
theorem dX10_judge_79 : decode cX10_judge 79 = .ok (.bipush (-7), 2) := by decide +kernel
theorem dX10_judge_81 : decode cX10_judge 81 = .ok (.invokevirtual 95, 3) := by decide +kernel
theorem dX10_judge_84 : decode cX10_judge 84 = .ok (.ireturn, 1) := by decide +kernel
theorem dX10_judge_85 : decode cX10_judge 85 = .ok (.aload_n 0, 1) := by decide +kernel
theorem dX10_judge_86 : decode cX10_judge 86 = .ok (.aload_n 3, 1) := by decide +kernel
theorem dX10_judge_87 : decode cX10_judge 87 = .ok (.invokevirtual 487, 3) := by decide +kernel
theorem dX10_judge_90 : decode cX10_judge 90 = .ok (.aload_n 0, 1) := by decide +kernel
theorem dX10_judge_91 : decode cX10_judge 91 = .ok (.getfield 69, 3) := by decide +kernel
theorem dX10_judge_94 : decode cX10_judge 94 = .ok (.aload_n 0, 1) := by decide +kernel
theorem dX10_judge_95 : decode cX10_judge 95 = .ok (.getfield 69, 3) := by decide +kernel
theorem dX10_judge_98 : decode cX10_judge 98 = .ok (.invokevirtual 496, 3) := by decide +kernel
theorem dX10_judge_101 : decode cX10_judge 101 = .ok (.aload 4, 2) := by decide +kernel
theorem dX10_judge_103 : decode cX10_judge 103 = .ok (.invokevirtual 499, 3) := by decide +kernel
theorem dX10_judge_106 : decode cX10_judge 106 = .ok (.iconst (-1), 1) := by decide +kernel
theorem dX10_judge_107 : decode cX10_judge 107 = .ok (.ixor, 1) := by decide +kernel
theorem dX10_judge_108 : decode cX10_judge 108 = .ok (.iand, 1) := by decide +kernel
theorem dX10_judge_109 : decode cX10_judge 109 = .ok (.invokevirtual 502, 3) := by decide +kernel
theorem dX10_judge_112 : decode cX10_judge 112 = .ok (.invokestatic 138, 3) := by decide +kernel
theorem dX10_judge_115 : decode cX10_judge 115 = .ok (.ireturn, 1) := by decide +kernel
theorem dX10_best_0 : decode cX10_best 0 = .ok (.aload_n 0, 1) := by decide +kernel
theorem dX10_best_1 : decode cX10_best 1 = .ok (.iload_n 1, 1) := by decide +kernel
theorem dX10_best_2 : decode cX10_best 2 = .ok (.invokevirtual 91, 3) := by decide +kernel
theorem dX10_best_5 : decode cX10_best 5 = .ok (.astore_n 3, 1) := by decide +kernel
theorem dX10_best_6 : decode cX10_best 6 = .ok (.aload_n 3, 1) := by decide +kernel
theorem dX10_best_7 : decode cX10_best 7 = .ok (.ifnonnull 9, 3) := by decide +kernel
theorem dX10_best_10 : decode cX10_best 10 = .ok (.aload_n 0, 1) := by decide +kernel
theorem dX10_best_11 : decode cX10_best 11 = .ok (.iconst (-1), 1) := by decide +kernel
theorem dX10_best_12 : decode cX10_best 12 = .ok (.invokevirtual 95, 3) := by decide +kernel
theorem dX10_best_15 : decode cX10_best 15 = .ok (.ireturn, 1) := by decide +kernel
theorem dX10_best_16 : decode cX10_best 16 = .ok (.iload_n 2, 1) := by decide +kernel
theorem dX10_best_17 : decode cX10_best 17 = .ok (.iconst 0, 1) := by decide +kernel
theorem dX10_best_18 : decode cX10_best 18 = .ok (.bipush 12, 2) := by decide +kernel
theorem dX10_best_20 : decode cX10_best 20 = .ok (.invokestatic 99, 3) := by decide +kernel
theorem dX10_best_23 : decode cX10_best 23 = .ok (.ifCond .eq 10, 3) := by decide +kernel
theorem dX10_best_26 : decode cX10_best 26 = .ok (.aload_n 3, 1) := by decide +kernel
theorem dX10_best_27 : decode cX10_best 27 = .ok (.getfield 103, 3) := by decide +kernel
theorem dX10_best_30 : decode cX10_best 30 = .ok (.ifCond .ne 10, 3) := by decide +kernel
theorem dX10_best_33 : decode cX10_best 33 = .ok (.aload_n 0, 1) := by decide +kernel
theorem dX10_best_34 : decode cX10_best 34 = .ok (.bipush (-6), 2) := by decide +kernel
theorem dX10_best_36 : decode cX10_best 36 = .ok (.invokevirtual 95, 3) := by decide +kernel
theorem dX10_best_39 : decode cX10_best 39 = .ok (.ireturn, 1) := by decide +kernel
theorem dX10_best_40 : decode cX10_best 40 = .ok (.aload_n 0, 1) := by decide +kernel
theorem dX10_best_41 : decode cX10_best 41 = .ok (.aload_n 3, 1) := by decide +kernel
theorem dX10_best_42 : decode cX10_best 42 = .ok (.invokevirtual 363, 3) := by decide +kernel
theorem dX10_best_45 : decode cX10_best 45 = .ok (.aload_n 0, 1) := by decide +kernel
theorem dX10_best_46 : decode cX10_best 46 = .ok (.getfield 62, 3) := by decide +kernel
theorem dX10_best_49 : decode cX10_best 49 = .ok (.getfield 370, 3) := by decide +kernel
theorem dX10_best_52 : decode cX10_best 52 = .ok (.bipush 10, 2) := by decide +kernel
theorem dX10_best_54 : decode cX10_best 54 = .ok (.if_icmp .le 10, 3) := by decide +kernel
theorem dX10_best_57 : decode cX10_best 57 = .ok (.aload_n 0, 1) := by decide +kernel
theorem dX10_best_58 : decode cX10_best 58 = .ok (.bipush (-7), 2) := by decide +kernel
theorem dX10_best_60 : decode cX10_best 60 = .ok (.invokevirtual 95, 3) := by decide +kernel
theorem dX10_best_63 : decode cX10_best 63 = .ok (.ireturn, 1) := by decide +kernel
theorem dX10_best_64 : decode cX10_best 64 = .ok (.aload_n 0, 1) := by decide +kernel
theorem dX10_best_65 : decode cX10_best 65 = .ok (.getfield 69, 3) := by decide +kernel
theorem dX10_best_68 : decode cX10_best 68 = .ok (.invokevirtual 505, 3) := by decide +kernel
theorem dX10_best_71 : decode cX10_best 71 = .ok (.iconst 0, 1) := by decide +kernel
theorem dX10_best_72 : decode cX10_best 72 = .ok (.istore 4, 2) := by decide +kernel
theorem dX10_best_74 : decode cX10_best 74 = .ok (.iload 4, 2) := by decide +kernel
theorem dX10_best_76 : decode cX10_best 76 = .ok (.aload_n 0, 1) := by decide +kernel
theorem dX10_best_77 : decode cX10_best 77 = .ok (.getfield 62, 3) := by decide +kernel
theorem dX10_best_80 : decode cX10_best 80 = .ok (.getfield 370, 3) := by decide +kernel
theorem dX10_best_83 : decode cX10_best 83 = .ok (.if_icmp .ge 41, 3) := by decide +kernel
theorem dX10_best_86 : decode cX10_best 86 = .ok (.aload_n 0, 1) := by decide +kernel
theorem dX10_best_87 : decode cX10_best 87 = .ok (.getfield 69, 3) := by decide +kernel
theorem dX10_best_90 : decode cX10_best 90 = .ok (.aload_n 0, 1) := by decide +kernel
theorem dX10_best_91 : decode cX10_best 91 = .ok (.getfield 62, 3) := by decide +kernel
theorem dX10_best_94 : decode cX10_best 94 = .ok (.iload 4, 2) := by decide +kernel
theorem dX10_best_96 : decode cX10_best 96 = .ok (.invokevirtual 408, 3) := by decide +kernel
theorem dX10_best_99 : decode cX10_best 99 = .ok (.getfield 252, 3) := by decide +kernel
theorem dX10_best_102 : decode cX10_best 102 = .ok (.invokevirtual 506, 3) := by decide +kernel
theorem dX10_best_105 : decode cX10_best 105 = .ok (.aload_n 0, 1) := by decide +kernel
theorem dX10_best_106 : decode cX10_best 106 = .ok (.getfield 76, 3) := by decide +kernel
theorem dX10_best_109 : decode cX10_best 109 = .ok (.iload 4, 2) := by decide +kernel
theorem dX10_best_111 : decode cX10_best 111 = .ok (.aload_n 0, 1) := by decide +kernel
theorem dX10_best_112 : decode cX10_best 112 = .ok (.getfield 62, 3) := by decide +kernel
theorem dX10_best_115 : decode cX10_best 115 = .ok (.invokevirtual 509, 3) := by decide +kernel
theorem dX10_best_118 : decode cX10_best 118 = .ok (.iinc 4 1, 3) := by decide +kernel
theorem dX10_best_121 : decode cX10_best 121 = .ok (.goto (-47), 3) := by decide +kernel
theorem dX10_best_124 : decode cX10_best 124 = .ok (.aload_n 0, 1) := by decide +kernel
theorem dX10_best_125 : decode cX10_best 125 = .ok (.getfield 76, 3) := by decide +kernel
theorem dX10_best_128 : decode cX10_best 128 = .ok (.aload_n 0, 1) := by decide +kernel
theorem dX10_best_129 : decode cX10_best 129 = .ok (.getfield 62, 3) := by decide +kernel
theorem dX10_best_132 : decode cX10_best 132 = .ok (.getfield 370, 3) := by decide +kernel
theorem dX10_best_135 : decode cX10_best 135 = .ok (.iload_n 2, 1) := by decide +kernel
theorem dX10_best_136 : decode cX10_best 136 = .ok (.aload_n 0, 1) := by decide +kernel
theorem dX10_best_137 : decode cX10_best 137 = .ok (.getfield 69, 3) := by decide +kernel
theorem dX10_best_140 : decode cX10_best 140 = .ok (.invokevirtual 513, 3) := by decide +kernel
theorem dX10_best_143 : decode cX10_best 143 = .ok (.ireturn, 1) := by decide +kernel
theorem dX10_bestOf_0 : decode cX10_bestOf 0 = .ok (.aload_n 0, 1) := by decide +kernel
theorem dX10_bestOf_1 : decode cX10_bestOf 1 = .ok (.getfield 76, 3) := by decide +kernel
theorem dX10_bestOf_4 : decode cX10_bestOf 4 = .ok (.iload_n 1, 1) := by decide +kernel
theorem dX10_bestOf_5 : decode cX10_bestOf 5 = .ok (.invokevirtual 517, 3) := by decide +kernel
theorem dX10_bestOf_8 : decode cX10_bestOf 8 = .ok (.ireturn, 1) := by decide +kernel
theorem dX10_bringToQuarrel_0 : decode cX10_bringToQuarrel 0 = .ok (.aload_n 0, 1) := by decide +kernel
theorem dX10_bringToQuarrel_1 : decode cX10_bringToQuarrel 1 = .ok (.getfield 69, 3) := by decide +kernel
theorem dX10_bringToQuarrel_4 : decode cX10_bringToQuarrel 4 = .ok (.invokevirtual 505, 3) := by decide +kernel
theorem dX10_bringToQuarrel_7 : decode cX10_bringToQuarrel 7 = .ok (.iconst 0, 1) := by decide +kernel
theorem dX10_bringToQuarrel_8 : decode cX10_bringToQuarrel 8 = .ok (.istore_n 2, 1) := by decide +kernel
theorem dX10_bringToQuarrel_9 : decode cX10_bringToQuarrel 9 = .ok (.iload_n 2, 1) := by decide +kernel
theorem dX10_bringToQuarrel_10 : decode cX10_bringToQuarrel 10 = .ok (.aload_n 0, 1) := by decide +kernel
theorem dX10_bringToQuarrel_11 : decode cX10_bringToQuarrel 11 = .ok (.getfield 249, 3) := by decide +kernel
theorem dX10_bringToQuarrel_14 : decode cX10_bringToQuarrel 14 = .ok (.if_icmp .ge 50, 3) := by decide +kernel
theorem dX10_bringToQuarrel_17 : decode cX10_bringToQuarrel 17 = .ok (.aload_n 0, 1) := by decide +kernel
theorem dX10_bringToQuarrel_18 : decode cX10_bringToQuarrel 18 = .ok (.getfield 23, 3) := by decide +kernel
theorem dX10_bringToQuarrel_21 : decode cX10_bringToQuarrel 21 = .ok (.iload_n 2, 1) := by decide +kernel
theorem dX10_bringToQuarrel_22 : decode cX10_bringToQuarrel 22 = .ok (.aaload, 1) := by decide +kernel
theorem dX10_bringToQuarrel_23 : decode cX10_bringToQuarrel 23 = .ok (.getfield 255, 3) := by decide +kernel
theorem dX10_bringToQuarrel_26 : decode cX10_bringToQuarrel 26 = .ok (.aload_n 1, 1) := by decide +kernel
theorem dX10_bringToQuarrel_27 : decode cX10_bringToQuarrel 27 = .ok (.if_acmp .ne 31, 3) := by decide +kernel
theorem dX10_bringToQuarrel_30 : decode cX10_bringToQuarrel 30 = .ok (.aload_n 0, 1) := by decide +kernel
theorem dX10_bringToQuarrel_31 : decode cX10_bringToQuarrel 31 = .ok (.getfield 23, 3) := by decide +kernel
theorem dX10_bringToQuarrel_34 : decode cX10_bringToQuarrel 34 = .ok (.iload_n 2, 1) := by decide +kernel
theorem dX10_bringToQuarrel_35 : decode cX10_bringToQuarrel 35 = .ok (.aaload, 1) := by decide +kernel
theorem dX10_bringToQuarrel_36 : decode cX10_bringToQuarrel 36 = .ok (.invokevirtual 300, 3) := by decide +kernel
theorem dX10_bringToQuarrel_39 : decode cX10_bringToQuarrel 39 = .ok (.ifCond .eq 19, 3) := by decide +kernel
theorem dX10_bringToQuarrel_42 : decode cX10_bringToQuarrel 42 = .ok (.aload_n 0, 1) := by decide +kernel
theorem dX10_bringToQuarrel_43 : decode cX10_bringToQuarrel 43 = .ok (.getfield 69, 3) := by decide +kernel
theorem dX10_bringToQuarrel_46 : decode cX10_bringToQuarrel 46 = .ok (.aload_n 0, 1) := by decide +kernel
theorem dX10_bringToQuarrel_47 : decode cX10_bringToQuarrel 47 = .ok (.getfield 23, 3) := by decide +kernel
theorem dX10_bringToQuarrel_50 : decode cX10_bringToQuarrel 50 = .ok (.iload_n 2, 1) := by decide +kernel
theorem dX10_bringToQuarrel_51 : decode cX10_bringToQuarrel 51 = .ok (.aaload, 1) := by decide +kernel
theorem dX10_bringToQuarrel_52 : decode cX10_bringToQuarrel 52 = .ok (.getfield 252, 3) := by decide +kernel
theorem dX10_bringToQuarrel_55 : decode cX10_bringToQuarrel 55 = .ok (.invokevirtual 506, 3) := by decide +kernel
theorem dX10_bringToQuarrel_58 : decode cX10_bringToQuarrel 58 = .ok (.iinc 2 1, 3) := by decide +kernel
theorem dX10_bringToQuarrel_61 : decode cX10_bringToQuarrel 61 = .ok (.goto (-52), 3) := by decide +kernel
theorem dX10_bringToQuarrel_64 : decode cX10_bringToQuarrel 64 = .ok (.return_, 1) := by decide +kernel
theorem dX10_status_0 : decode cX10_status 0 = .ok (.iload_n 1, 1) := by decide +kernel
theorem dX10_status_1 : decode cX10_status 1 = .ok (.tableswitch 100 0 10 #[59, 64, 69, 74, 79, 84, 89, 94, 94, 94, 94], 59) := by decide +kernel
theorem dX10_status_60 : decode cX10_status 60 = .ok (.aload_n 0, 1) := by decide +kernel
theorem dX10_status_61 : decode cX10_status 61 = .ok (.getfield 88, 3) := by decide +kernel
theorem dX10_status_64 : decode cX10_status 64 = .ok (.ireturn, 1) := by decide +kernel
theorem dX10_status_65 : decode cX10_status 65 = .ok (.aload_n 0, 1) := by decide +kernel
theorem dX10_status_66 : decode cX10_status 66 = .ok (.getfield 249, 3) := by decide +kernel
theorem dX10_status_69 : decode cX10_status 69 = .ok (.ireturn, 1) := by decide +kernel
theorem dX10_status_70 : decode cX10_status 70 = .ok (.aload_n 0, 1) := by decide +kernel
theorem dX10_status_71 : decode cX10_status 71 = .ok (.getfield 219, 3) := by decide +kernel
theorem dX10_status_74 : decode cX10_status 74 = .ok (.ireturn, 1) := by decide +kernel
theorem dX10_status_75 : decode cX10_status 75 = .ok (.aload_n 0, 1) := by decide +kernel
theorem dX10_status_76 : decode cX10_status 76 = .ok (.getfield 346, 3) := by decide +kernel
theorem dX10_status_79 : decode cX10_status 79 = .ok (.ireturn, 1) := by decide +kernel
theorem dX10_status_80 : decode cX10_status 80 = .ok (.aload_n 0, 1) := by decide +kernel
theorem dX10_status_81 : decode cX10_status 81 = .ok (.getfield 450, 3) := by decide +kernel
theorem dX10_status_84 : decode cX10_status 84 = .ok (.ireturn, 1) := by decide +kernel
theorem dX10_status_85 : decode cX10_status 85 = .ok (.aload_n 0, 1) := by decide +kernel
theorem dX10_status_86 : decode cX10_status 86 = .ok (.getfield 114, 3) := by decide +kernel
theorem dX10_status_89 : decode cX10_status 89 = .ok (.ireturn, 1) := by decide +kernel
theorem dX10_status_90 : decode cX10_status 90 = .ok (.aload_n 0, 1) := by decide +kernel
theorem dX10_status_91 : decode cX10_status 91 = .ok (.invokevirtual 520, 3) := by decide +kernel
theorem dX10_status_94 : decode cX10_status 94 = .ok (.ireturn, 1) := by decide +kernel
theorem dX10_status_95 : decode cX10_status 95 = .ok (.aload_n 0, 1) := by decide +kernel
theorem dX10_status_96 : decode cX10_status 96 = .ok (.iload_n 1, 1) := by decide +kernel
theorem dX10_status_97 : decode cX10_status 97 = .ok (.invokevirtual 523, 3) := by decide +kernel
theorem dX10_status_100 : decode cX10_status 100 = .ok (.ireturn, 1) := by decide +kernel
theorem dX10_status_101 : decode cX10_status 101 = .ok (.iload_n 1, 1) := by decide +kernel
theorem dX10_status_102 : decode cX10_status 102 = .ok (.bipush 11, 2) := by decide +kernel
theorem dX10_status_104 : decode cX10_status 104 = .ok (.isub, 1) := by decide +kernel
theorem dX10_status_105 : decode cX10_status 105 = .ok (.istore_n 2, 1) := by decide +kernel
theorem dX10_status_106 : decode cX10_status 106 = .ok (.iload_n 2, 1) := by decide +kernel
theorem dX10_status_107 : decode cX10_status 107 = .ok (.iconst 0, 1) := by decide +kernel
theorem dX10_status_108 : decode cX10_status 108 = .ok (.bipush 6, 2) := by decide +kernel
theorem dX10_status_110 : decode cX10_status 110 = .ok (.invokestatic 99, 3) := by decide +kernel
theorem dX10_status_113 : decode cX10_status 113 = .ok (.ifCond .eq 12, 3) := by decide +kernel
theorem dX10_status_116 : decode cX10_status 116 = .ok (.aload_n 0, 1) := by decide +kernel
theorem dX10_status_117 : decode cX10_status 117 = .ok (.getfield 45, 3) := by decide +kernel
theorem dX10_status_120 : decode cX10_status 120 = .ok (.iload_n 2, 1) := by decide +kernel
theorem dX10_status_121 : decode cX10_status 121 = .ok (.iaload, 1) := by decide +kernel
theorem dX10_status_122 : decode cX10_status 122 = .ok (.goto 4, 3) := by decide +kernel
theorem dX10_status_125 : decode cX10_status 125 = .ok (.iconst (-1), 1) := by decide +kernel
theorem dX10_status_126 : decode cX10_status 126 = .ok (.ireturn, 1) := by decide +kernel
theorem dX10_booksMade_0 : decode cX10_booksMade 0 = .ok (.iconst 0, 1) := by decide +kernel
theorem dX10_booksMade_1 : decode cX10_booksMade 1 = .ok (.istore_n 1, 1) := by decide +kernel
theorem dX10_booksMade_2 : decode cX10_booksMade 2 = .ok (.iconst 0, 1) := by decide +kernel
theorem dX10_booksMade_3 : decode cX10_booksMade 3 = .ok (.istore_n 2, 1) := by decide +kernel
theorem dX10_booksMade_4 : decode cX10_booksMade 4 = .ok (.iload_n 2, 1) := by decide +kernel
theorem dX10_booksMade_5 : decode cX10_booksMade 5 = .ok (.aload_n 0, 1) := by decide +kernel
theorem dX10_booksMade_6 : decode cX10_booksMade 6 = .ok (.getfield 88, 3) := by decide +kernel
theorem dX10_booksMade_9 : decode cX10_booksMade 9 = .ok (.if_icmp .ge 24, 3) := by decide +kernel
theorem dX10_booksMade_12 : decode cX10_booksMade 12 = .ok (.iload_n 1, 1) := by decide +kernel
theorem dX10_booksMade_13 : decode cX10_booksMade 13 = .ok (.aload_n 0, 1) := by decide +kernel
theorem dX10_booksMade_14 : decode cX10_booksMade 14 = .ok (.getfield 11, 3) := by decide +kernel
theorem dX10_booksMade_17 : decode cX10_booksMade 17 = .ok (.iload_n 2, 1) := by decide +kernel
theorem dX10_booksMade_18 : decode cX10_booksMade 18 = .ok (.aaload, 1) := by decide +kernel
theorem dX10_booksMade_19 : decode cX10_booksMade 19 = .ok (.getfield 134, 3) := by decide +kernel
theorem dX10_booksMade_22 : decode cX10_booksMade 22 = .ok (.invokestatic 138, 3) := by decide +kernel
theorem dX10_booksMade_25 : decode cX10_booksMade 25 = .ok (.iadd, 1) := by decide +kernel
theorem dX10_booksMade_26 : decode cX10_booksMade 26 = .ok (.istore_n 1, 1) := by decide +kernel
theorem dX10_booksMade_27 : decode cX10_booksMade 27 = .ok (.iinc 2 1, 3) := by decide +kernel
theorem dX10_booksMade_30 : decode cX10_booksMade 30 = .ok (.goto (-26), 3) := by decide +kernel
theorem dX10_booksMade_33 : decode cX10_booksMade 33 = .ok (.iload_n 1, 1) := by decide +kernel
theorem dX10_booksMade_34 : decode cX10_booksMade 34 = .ok (.ireturn, 1) := by decide +kernel
theorem dX10_asksWith_0 : decode cX10_asksWith 0 = .ok (.iconst 0, 1) := by decide +kernel
theorem dX10_asksWith_1 : decode cX10_asksWith 1 = .ok (.istore_n 2, 1) := by decide +kernel
theorem dX10_asksWith_2 : decode cX10_asksWith 2 = .ok (.iconst 0, 1) := by decide +kernel
theorem dX10_asksWith_3 : decode cX10_asksWith 3 = .ok (.istore_n 3, 1) := by decide +kernel
theorem dX10_asksWith_4 : decode cX10_asksWith 4 = .ok (.iload_n 3, 1) := by decide +kernel
theorem dX10_asksWith_5 : decode cX10_asksWith 5 = .ok (.aload_n 0, 1) := by decide +kernel
theorem dX10_asksWith_6 : decode cX10_asksWith 6 = .ok (.getfield 249, 3) := by decide +kernel
theorem dX10_asksWith_9 : decode cX10_asksWith 9 = .ok (.if_icmp .ge 115, 3) := by decide +kernel
theorem dX10_asksWith_12 : decode cX10_asksWith 12 = .ok (.aload_n 0, 1) := by decide +kernel
theorem dX10_asksWith_13 : decode cX10_asksWith 13 = .ok (.getfield 23, 3) := by decide +kernel
theorem dX10_asksWith_16 : decode cX10_asksWith 16 = .ok (.iload_n 3, 1) := by decide +kernel
theorem dX10_asksWith_17 : decode cX10_asksWith 17 = .ok (.aaload, 1) := by decide +kernel
theorem dX10_asksWith_18 : decode cX10_asksWith 18 = .ok (.astore 4, 2) := by decide +kernel
theorem dX10_asksWith_20 : decode cX10_asksWith 20 = .ok (.iload_n 1, 1) := by decide +kernel
theorem dX10_asksWith_21 : decode cX10_asksWith 21 = .ok (.tableswitch 86 7 9 #[27, 50, 72], 27) := by decide +kernel
theorem dX10_asksWith_48 : decode cX10_asksWith 48 = .ok (.iload_n 2, 1) := by decide +kernel
theorem dX10_asksWith_49 : decode cX10_asksWith 49 = .ok (.aload 4, 2) := by decide +kernel
theorem dX10_asksWith_51 : decode cX10_asksWith 51 = .ok (.getfield 309, 3) := by decide +kernel
theorem dX10_asksWith_54 : decode cX10_asksWith 54 = .ok (.iconst 1, 1) := by decide +kernel
theorem dX10_asksWith_55 : decode cX10_asksWith 55 = .ok (.if_icmp .ne 7, 3) := by decide +kernel
theorem dX10_asksWith_58 : decode cX10_asksWith 58 = .ok (.iconst 1, 1) := by decide +kernel
theorem dX10_asksWith_59 : decode cX10_asksWith 59 = .ok (.goto 4, 3) := by decide +kernel
theorem dX10_asksWith_62 : decode cX10_asksWith 62 = .ok (.iconst 0, 1) := by decide +kernel
theorem dX10_asksWith_63 : decode cX10_asksWith 63 = .ok (.invokestatic 138, 3) := by decide +kernel
theorem dX10_asksWith_66 : decode cX10_asksWith 66 = .ok (.iadd, 1) := by decide +kernel
theorem dX10_asksWith_67 : decode cX10_asksWith 67 = .ok (.istore_n 2, 1) := by decide +kernel
theorem dX10_asksWith_68 : decode cX10_asksWith 68 = .ok (.goto 50, 3) := by decide +kernel
theorem dX10_asksWith_71 : decode cX10_asksWith 71 = .ok (.iload_n 2, 1) := by decide +kernel
theorem dX10_asksWith_72 : decode cX10_asksWith 72 = .ok (.aload 4, 2) := by decide +kernel
theorem dX10_asksWith_74 : decode cX10_asksWith 74 = .ok (.getfield 318, 3) := by decide +kernel
theorem dX10_asksWith_77 : decode cX10_asksWith 77 = .ok (.ifnull 7, 3) := by decide +kernel
theorem dX10_asksWith_80 : decode cX10_asksWith 80 = .ok (.iconst 1, 1) := by decide +kernel
theorem dX10_asksWith_81 : decode cX10_asksWith 81 = .ok (.goto 4, 3) := by decide +kernel
theorem dX10_asksWith_84 : decode cX10_asksWith 84 = .ok (.iconst 0, 1) := by decide +kernel
theorem dX10_asksWith_85 : decode cX10_asksWith 85 = .ok (.invokestatic 138, 3) := by decide +kernel
theorem dX10_asksWith_88 : decode cX10_asksWith 88 = .ok (.iadd, 1) := by decide +kernel
theorem dX10_asksWith_89 : decode cX10_asksWith 89 = .ok (.istore_n 2, 1) := by decide +kernel
theorem dX10_asksWith_90 : decode cX10_asksWith 90 = .ok (.goto 28, 3) := by decide +kernel
theorem dX10_asksWith_93 : decode cX10_asksWith 93 = .ok (.iload_n 2, 1) := by decide +kernel
theorem dX10_asksWith_94 : decode cX10_asksWith 94 = .ok (.aload 4, 2) := by decide +kernel
theorem dX10_asksWith_96 : decode cX10_asksWith 96 = .ok (.getfield 290, 3) := by decide +kernel
theorem dX10_asksWith_99 : decode cX10_asksWith 99 = .ok (.invokestatic 138, 3) := by decide +kernel
theorem dX10_asksWith_102 : decode cX10_asksWith 102 = .ok (.iadd, 1) := by decide +kernel
theorem dX10_asksWith_103 : decode cX10_asksWith 103 = .ok (.istore_n 2, 1) := by decide +kernel
theorem dX10_asksWith_104 : decode cX10_asksWith 104 = .ok (.goto 14, 3) := by decide +kernel
theorem dX10_asksWith_107 : decode cX10_asksWith 107 = .ok (.iload_n 2, 1) := by decide +kernel
theorem dX10_asksWith_108 : decode cX10_asksWith 108 = .ok (.aload 4, 2) := by decide +kernel
theorem dX10_asksWith_110 : decode cX10_asksWith 110 = .ok (.getfield 322, 3) := by decide +kernel
theorem dX10_asksWith_113 : decode cX10_asksWith 113 = .ok (.invokestatic 138, 3) := by decide +kernel
theorem dX10_asksWith_116 : decode cX10_asksWith 116 = .ok (.iadd, 1) := by decide +kernel
theorem dX10_asksWith_117 : decode cX10_asksWith 117 = .ok (.istore_n 2, 1) := by decide +kernel
theorem dX10_asksWith_118 : decode cX10_asksWith 118 = .ok (.iinc 3 1, 3) := by decide +kernel
theorem dX10_asksWith_121 : decode cX10_asksWith 121 = .ok (.goto (-117), 3) := by decide +kernel
theorem dX10_asksWith_124 : decode cX10_asksWith 124 = .ok (.iload_n 2, 1) := by decide +kernel
theorem dX10_asksWith_125 : decode cX10_asksWith 125 = .ok (.ireturn, 1) := by decide +kernel
theorem dX10_refuse_0 : decode cX10_refuse 0 = .ok (.iconst (-1), 1) := by decide +kernel
theorem dX10_refuse_1 : decode cX10_refuse 1 = .ok (.iload_n 1, 1) := by decide +kernel
theorem dX10_refuse_2 : decode cX10_refuse 2 = .ok (.isub, 1) := by decide +kernel
theorem dX10_refuse_3 : decode cX10_refuse 3 = .ok (.istore_n 2, 1) := by decide +kernel
theorem dX10_refuse_4 : decode cX10_refuse 4 = .ok (.iload_n 2, 1) := by decide +kernel
theorem dX10_refuse_5 : decode cX10_refuse 5 = .ok (.iconst 0, 1) := by decide +kernel
theorem dX10_refuse_6 : decode cX10_refuse 6 = .ok (.bipush 6, 2) := by decide +kernel
theorem dX10_refuse_8 : decode cX10_refuse 8 = .ok (.invokestatic 99, 3) := by decide +kernel
theorem dX10_refuse_11 : decode cX10_refuse 11 = .ok (.ifCond .eq 13, 3) := by decide +kernel
theorem dX10_refuse_14 : decode cX10_refuse 14 = .ok (.aload_n 0, 1) := by decide +kernel
theorem dX10_refuse_15 : decode cX10_refuse 15 = .ok (.getfield 45, 3) := by decide +kernel
theorem dX10_refuse_18 : decode cX10_refuse 18 = .ok (.iload_n 2, 1) := by decide +kernel
theorem dX10_refuse_19 : decode cX10_refuse 19 = .ok (.dup2, 1) := by decide +kernel
theorem dX10_refuse_20 : decode cX10_refuse 20 = .ok (.iaload, 1) := by decide +kernel
theorem dX10_refuse_21 : decode cX10_refuse 21 = .ok (.iconst 1, 1) := by decide +kernel
theorem dX10_refuse_22 : decode cX10_refuse 22 = .ok (.iadd, 1) := by decide +kernel
theorem dX10_refuse_23 : decode cX10_refuse 23 = .ok (.iastore, 1) := by decide +kernel
theorem dX10_refuse_24 : decode cX10_refuse 24 = .ok (.iload_n 1, 1) := by decide +kernel
theorem dX10_refuse_25 : decode cX10_refuse 25 = .ok (.ireturn, 1) := by decide +kernel
theorem dX10_placeAt_0 : decode cX10_placeAt 0 = .ok (.iload_n 1, 1) := by decide +kernel
theorem dX10_placeAt_1 : decode cX10_placeAt 1 = .ok (.iconst 0, 1) := by decide +kernel
theorem dX10_placeAt_2 : decode cX10_placeAt 2 = .ok (.aload_n 0, 1) := by decide +kernel
theorem dX10_placeAt_3 : decode cX10_placeAt 3 = .ok (.getfield 88, 3) := by decide +kernel
theorem dX10_placeAt_6 : decode cX10_placeAt 6 = .ok (.iconst 1, 1) := by decide +kernel
theorem dX10_placeAt_7 : decode cX10_placeAt 7 = .ok (.isub, 1) := by decide +kernel
theorem dX10_placeAt_8 : decode cX10_placeAt 8 = .ok (.invokestatic 99, 3) := by decide +kernel
theorem dX10_placeAt_11 : decode cX10_placeAt 11 = .ok (.ifCond .eq 12, 3) := by decide +kernel
theorem dX10_placeAt_14 : decode cX10_placeAt 14 = .ok (.aload_n 0, 1) := by decide +kernel
theorem dX10_placeAt_15 : decode cX10_placeAt 15 = .ok (.getfield 11, 3) := by decide +kernel
theorem dX10_placeAt_18 : decode cX10_placeAt 18 = .ok (.iload_n 1, 1) := by decide +kernel
theorem dX10_placeAt_19 : decode cX10_placeAt 19 = .ok (.aaload, 1) := by decide +kernel
theorem dX10_placeAt_20 : decode cX10_placeAt 20 = .ok (.goto 4, 3) := by decide +kernel
theorem dX10_placeAt_23 : decode cX10_placeAt 23 = .ok (.aconst_null, 1) := by decide +kernel
theorem dX10_placeAt_24 : decode cX10_placeAt 24 = .ok (.areturn, 1) := by decide +kernel
theorem dX10_shelfAt_0 : decode cX10_shelfAt 0 = .ok (.iload_n 1, 1) := by decide +kernel
theorem dX10_shelfAt_1 : decode cX10_shelfAt 1 = .ok (.iconst 0, 1) := by decide +kernel
theorem dX10_shelfAt_2 : decode cX10_shelfAt 2 = .ok (.bipush 7, 2) := by decide +kernel
theorem dX10_shelfAt_4 : decode cX10_shelfAt 4 = .ok (.invokestatic 99, 3) := by decide +kernel
theorem dX10_shelfAt_7 : decode cX10_shelfAt 7 = .ok (.ifCond .eq 12, 3) := by decide +kernel
theorem dX10_shelfAt_10 : decode cX10_shelfAt 10 = .ok (.aload_n 0, 1) := by decide +kernel
theorem dX10_shelfAt_11 : decode cX10_shelfAt 11 = .ok (.getfield 17, 3) := by decide +kernel
theorem dX10_shelfAt_14 : decode cX10_shelfAt 14 = .ok (.iload_n 1, 1) := by decide +kernel
theorem dX10_shelfAt_15 : decode cX10_shelfAt 15 = .ok (.aaload, 1) := by decide +kernel
theorem dX10_shelfAt_16 : decode cX10_shelfAt 16 = .ok (.goto 4, 3) := by decide +kernel
theorem dX10_shelfAt_19 : decode cX10_shelfAt 19 = .ok (.aconst_null, 1) := by decide +kernel
theorem dX10_shelfAt_20 : decode cX10_shelfAt 20 = .ok (.areturn, 1) := by decide +kernel
theorem dX10_askAt_0 : decode cX10_askAt 0 = .ok (.iload_n 1, 1) := by decide +kernel
theorem dX10_askAt_1 : decode cX10_askAt 1 = .ok (.iconst 0, 1) := by decide +kernel
theorem dX10_askAt_2 : decode cX10_askAt 2 = .ok (.aload_n 0, 1) := by decide +kernel
theorem dX10_askAt_3 : decode cX10_askAt 3 = .ok (.getfield 249, 3) := by decide +kernel
theorem dX10_askAt_6 : decode cX10_askAt 6 = .ok (.iconst 1, 1) := by decide +kernel
theorem dX10_askAt_7 : decode cX10_askAt 7 = .ok (.isub, 1) := by decide +kernel
theorem dX10_askAt_8 : decode cX10_askAt 8 = .ok (.invokestatic 99, 3) := by decide +kernel
theorem dX10_askAt_11 : decode cX10_askAt 11 = .ok (.ifCond .eq 12, 3) := by decide +kernel
theorem dX10_askAt_14 : decode cX10_askAt 14 = .ok (.aload_n 0, 1) := by decide +kernel
theorem dX10_askAt_15 : decode cX10_askAt 15 = .ok (.getfield 23, 3) := by decide +kernel
theorem dX10_askAt_18 : decode cX10_askAt 18 = .ok (.iload_n 1, 1) := by decide +kernel
theorem dX10_askAt_19 : decode cX10_askAt 19 = .ok (.aaload, 1) := by decide +kernel
theorem dX10_askAt_20 : decode cX10_askAt 20 = .ok (.goto 4, 3) := by decide +kernel
theorem dX10_askAt_23 : decode cX10_askAt 23 = .ok (.aconst_null, 1) := by decide +kernel
theorem dX10_askAt_24 : decode cX10_askAt 24 = .ok (.areturn, 1) := by decide +kernel
theorem dX10_modelAt_0 : decode cX10_modelAt 0 = .ok (.iload_n 1, 1) := by decide +kernel
theorem dX10_modelAt_1 : decode cX10_modelAt 1 = .ok (.iconst 0, 1) := by decide +kernel
theorem dX10_modelAt_2 : decode cX10_modelAt 2 = .ok (.aload_n 0, 1) := by decide +kernel
theorem dX10_modelAt_3 : decode cX10_modelAt 3 = .ok (.getfield 219, 3) := by decide +kernel
theorem dX10_modelAt_6 : decode cX10_modelAt 6 = .ok (.iconst 1, 1) := by decide +kernel
theorem dX10_modelAt_7 : decode cX10_modelAt 7 = .ok (.isub, 1) := by decide +kernel
theorem dX10_modelAt_8 : decode cX10_modelAt 8 = .ok (.invokestatic 99, 3) := by decide +kernel
theorem dX10_modelAt_11 : decode cX10_modelAt 11 = .ok (.ifCond .eq 12, 3) := by decide +kernel
theorem dX10_modelAt_14 : decode cX10_modelAt 14 = .ok (.aload_n 0, 1) := by decide +kernel
theorem dX10_modelAt_15 : decode cX10_modelAt 15 = .ok (.getfield 29, 3) := by decide +kernel
theorem dX10_modelAt_18 : decode cX10_modelAt 18 = .ok (.iload_n 1, 1) := by decide +kernel
theorem dX10_modelAt_19 : decode cX10_modelAt 19 = .ok (.aaload, 1) := by decide +kernel
theorem dX10_modelAt_20 : decode cX10_modelAt 20 = .ok (.goto 4, 3) := by decide +kernel
theorem dX10_modelAt_23 : decode cX10_modelAt 23 = .ok (.aconst_null, 1) := by decide +kernel
theorem dX10_modelAt_24 : decode cX10_modelAt 24 = .ok (.areturn, 1) := by decide +kernel
theorem dX10_isIn_0 : decode cX10_isIn 0 = .ok (.iload_n 0, 1) := by decide +kernel
theorem dX10_isIn_1 : decode cX10_isIn 1 = .ok (.iload_n 1, 1) := by decide +kernel
theorem dX10_isIn_2 : decode cX10_isIn 2 = .ok (.if_icmp .lt 12, 3) := by decide +kernel
theorem dX10_isIn_5 : decode cX10_isIn 5 = .ok (.iload_n 0, 1) := by decide +kernel
theorem dX10_isIn_6 : decode cX10_isIn 6 = .ok (.iload_n 2, 1) := by decide +kernel
theorem dX10_isIn_7 : decode cX10_isIn 7 = .ok (.if_icmp .gt 7, 3) := by decide +kernel
theorem dX10_isIn_10 : decode cX10_isIn 10 = .ok (.iconst 1, 1) := by decide +kernel
theorem dX10_isIn_11 : decode cX10_isIn 11 = .ok (.goto 4, 3) := by decide +kernel
theorem dX10_isIn_14 : decode cX10_isIn 14 = .ok (.iconst 0, 1) := by decide +kernel
theorem dX10_isIn_15 : decode cX10_isIn 15 = .ok (.ireturn, 1) := by decide +kernel
theorem dX10_isGroup_0 : decode cX10_isGroup 0 = .ok (.iload_n 0, 1) := by decide +kernel
theorem dX10_isGroup_1 : decode cX10_isGroup 1 = .ok (.iconst 0, 1) := by decide +kernel
theorem dX10_isGroup_2 : decode cX10_isGroup 2 = .ok (.bipush 15, 2) := by decide +kernel
theorem dX10_isGroup_4 : decode cX10_isGroup 4 = .ok (.invokestatic 99, 3) := by decide +kernel
theorem dX10_isGroup_7 : decode cX10_isGroup 7 = .ok (.ifCond .eq 17, 3) := by decide +kernel
theorem dX10_isGroup_10 : decode cX10_isGroup 10 = .ok (.iload_n 1, 1) := by decide +kernel
theorem dX10_isGroup_11 : decode cX10_isGroup 11 = .ok (.iconst 0, 1) := by decide +kernel
theorem dX10_isGroup_12 : decode cX10_isGroup 12 = .ok (.bipush 7, 2) := by decide +kernel
theorem dX10_isGroup_14 : decode cX10_isGroup 14 = .ok (.invokestatic 99, 3) := by decide +kernel
theorem dX10_isGroup_17 : decode cX10_isGroup 17 = .ok (.ifCond .eq 7, 3) := by decide +kernel
theorem dX10_isGroup_20 : decode cX10_isGroup 20 = .ok (.iconst 1, 1) := by decide +kernel
theorem dX10_isGroup_21 : decode cX10_isGroup 21 = .ok (.goto 4, 3) := by decide +kernel
theorem dX10_isGroup_24 : decode cX10_isGroup 24 = .ok (.iconst 0, 1) := by decide +kernel
theorem dX10_isGroup_25 : decode cX10_isGroup 25 = .ok (.ireturn, 1) := by decide +kernel
theorem dX10_hasBit_0 : decode cX10_hasBit 0 = .ok (.iload_n 0, 1) := by decide +kernel
theorem dX10_hasBit_1 : decode cX10_hasBit 1 = .ok (.iload_n 1, 1) := by decide +kernel
theorem dX10_hasBit_2 : decode cX10_hasBit 2 = .ok (.ishr, 1) := by decide +kernel
theorem dX10_hasBit_3 : decode cX10_hasBit 3 = .ok (.iconst 1, 1) := by decide +kernel
theorem dX10_hasBit_4 : decode cX10_hasBit 4 = .ok (.iand, 1) := by decide +kernel
theorem dX10_hasBit_5 : decode cX10_hasBit 5 = .ok (.ifCond .eq 7, 3) := by decide +kernel
theorem dX10_hasBit_8 : decode cX10_hasBit 8 = .ok (.iconst 1, 1) := by decide +kernel
theorem dX10_hasBit_9 : decode cX10_hasBit 9 = .ok (.goto 4, 3) := by decide +kernel
theorem dX10_hasBit_12 : decode cX10_hasBit 12 = .ok (.iconst 0, 1) := by decide +kernel
theorem dX10_hasBit_13 : decode cX10_hasBit 13 = .ok (.ireturn, 1) := by decide +kernel
theorem dX10_bit_0 : decode cX10_bit 0 = .ok (.iload_n 0, 1) := by decide +kernel
theorem dX10_bit_1 : decode cX10_bit 1 = .ok (.ifCond .eq 7, 3) := by decide +kernel
theorem dX10_bit_4 : decode cX10_bit 4 = .ok (.iconst 1, 1) := by decide +kernel
theorem dX10_bit_5 : decode cX10_bit 5 = .ok (.goto 4, 3) := by decide +kernel
theorem dX10_bit_8 : decode cX10_bit 8 = .ok (.iconst 0, 1) := by decide +kernel
theorem dX10_bit_9 : decode cX10_bit 9 = .ok (.ireturn, 1) := by decide +kernel
theorem dX11_init_0 : decode cX11_init 0 = .ok (.aload_n 0, 1) := by decide +kernel
theorem dX11_init_1 : decode cX11_init 1 = .ok (.invokespecial 1, 3) := by decide +kernel
theorem dX11_init_4 : decode cX11_init 4 = .ok (.aload_n 0, 1) := by decide +kernel
theorem dX11_init_5 : decode cX11_init 5 = .ok (.iconst 1, 1) := by decide +kernel
theorem dX11_init_6 : decode cX11_init 6 = .ok (.putfield 7, 3) := by decide +kernel
theorem dX11_init_9 : decode cX11_init 9 = .ok (.aload_n 0, 1) := by decide +kernel
theorem dX11_init_10 : decode cX11_init 10 = .ok (.iconst (-1), 1) := by decide +kernel
theorem dX11_init_11 : decode cX11_init 11 = .ok (.putfield 13, 3) := by decide +kernel
theorem dX11_init_14 : decode cX11_init 14 = .ok (.aload_n 0, 1) := by decide +kernel
theorem dX11_init_15 : decode cX11_init 15 = .ok (.bipush 24, 2) := by decide +kernel
theorem dX11_init_17 : decode cX11_init 17 = .ok (.newarray .int, 2) := by decide +kernel
theorem dX11_init_19 : decode cX11_init 19 = .ok (.putfield 16, 3) := by decide +kernel
theorem dX11_init_22 : decode cX11_init 22 = .ok (.aload_n 0, 1) := by decide +kernel
theorem dX11_init_23 : decode cX11_init 23 = .ok (.bipush 24, 2) := by decide +kernel
theorem dX11_init_25 : decode cX11_init 25 = .ok (.newarray .int, 2) := by decide +kernel
theorem dX11_init_27 : decode cX11_init 27 = .ok (.putfield 20, 3) := by decide +kernel
theorem dX11_init_30 : decode cX11_init 30 = .ok (.aload_n 0, 1) := by decide +kernel
theorem dX11_init_31 : decode cX11_init 31 = .ok (.bipush 24, 2) := by decide +kernel
theorem dX11_init_33 : decode cX11_init 33 = .ok (.newarray .int, 2) := by decide +kernel
theorem dX11_init_35 : decode cX11_init 35 = .ok (.putfield 23, 3) := by decide +kernel
theorem dX11_init_38 : decode cX11_init 38 = .ok (.aload_n 0, 1) := by decide +kernel
theorem dX11_init_39 : decode cX11_init 39 = .ok (.bipush 24, 2) := by decide +kernel
theorem dX11_init_41 : decode cX11_init 41 = .ok (.newarray .int, 2) := by decide +kernel
theorem dX11_init_43 : decode cX11_init 43 = .ok (.putfield 26, 3) := by decide +kernel
theorem dX11_init_46 : decode cX11_init 46 = .ok (.aload_n 0, 1) := by decide +kernel
theorem dX11_init_47 : decode cX11_init 47 = .ok (.bipush 24, 2) := by decide +kernel
theorem dX11_init_49 : decode cX11_init 49 = .ok (.newarray .int, 2) := by decide +kernel
theorem dX11_init_51 : decode cX11_init 51 = .ok (.putfield 29, 3) := by decide +kernel
theorem dX11_init_54 : decode cX11_init 54 = .ok (.aload_n 0, 1) := by decide +kernel
theorem dX11_init_55 : decode cX11_init 55 = .ok (.bipush 24, 2) := by decide +kernel
theorem dX11_init_57 : decode cX11_init 57 = .ok (.newarray .int, 2) := by decide +kernel
theorem dX11_init_59 : decode cX11_init 59 = .ok (.putfield 32, 3) := by decide +kernel
theorem dX11_init_62 : decode cX11_init 62 = .ok (.aload_n 0, 1) := by decide +kernel
theorem dX11_init_63 : decode cX11_init 63 = .ok (.bipush 24, 2) := by decide +kernel
theorem dX11_init_65 : decode cX11_init 65 = .ok (.newarray .int, 2) := by decide +kernel
theorem dX11_init_67 : decode cX11_init 67 = .ok (.putfield 35, 3) := by decide +kernel
theorem dX11_init_70 : decode cX11_init 70 = .ok (.aload_n 0, 1) := by decide +kernel
theorem dX11_init_71 : decode cX11_init 71 = .ok (.sipush 384, 3) := by decide +kernel
theorem dX11_init_74 : decode cX11_init 74 = .ok (.newarray .int, 2) := by decide +kernel
theorem dX11_init_76 : decode cX11_init 76 = .ok (.putfield 38, 3) := by decide +kernel
theorem dX11_init_79 : decode cX11_init 79 = .ok (.aload_n 0, 1) := by decide +kernel
theorem dX11_init_80 : decode cX11_init 80 = .ok (.bipush 24, 2) := by decide +kernel
theorem dX11_init_82 : decode cX11_init 82 = .ok (.newarray .boolean, 2) := by decide +kernel
theorem dX11_init_84 : decode cX11_init 84 = .ok (.putfield 41, 3) := by decide +kernel
theorem dX11_init_87 : decode cX11_init 87 = .ok (.aload_n 0, 1) := by decide +kernel
theorem dX11_init_88 : decode cX11_init 88 = .ok (.bipush 8, 2) := by decide +kernel
theorem dX11_init_90 : decode cX11_init 90 = .ok (.newarray .int, 2) := by decide +kernel
theorem dX11_init_92 : decode cX11_init 92 = .ok (.putfield 45, 3) := by decide +kernel
theorem dX11_init_95 : decode cX11_init 95 = .ok (.aload_n 0, 1) := by decide +kernel
theorem dX11_init_96 : decode cX11_init 96 = .ok (.bipush 8, 2) := by decide +kernel
theorem dX11_init_98 : decode cX11_init 98 = .ok (.newarray .int, 2) := by decide +kernel
theorem dX11_init_100 : decode cX11_init 100 = .ok (.putfield 48, 3) := by decide +kernel
theorem dX11_init_103 : decode cX11_init 103 = .ok (.aload_n 0, 1) := by decide +kernel
theorem dX11_init_104 : decode cX11_init 104 = .ok (.bipush 8, 2) := by decide +kernel
theorem dX11_init_106 : decode cX11_init 106 = .ok (.newarray .int, 2) := by decide +kernel
theorem dX11_init_108 : decode cX11_init 108 = .ok (.putfield 51, 3) := by decide +kernel
theorem dX11_init_111 : decode cX11_init 111 = .ok (.aload_n 0, 1) := by decide +kernel
theorem dX11_init_112 : decode cX11_init 112 = .ok (.bipush 8, 2) := by decide +kernel
theorem dX11_init_114 : decode cX11_init 114 = .ok (.newarray .int, 2) := by decide +kernel
theorem dX11_init_116 : decode cX11_init 116 = .ok (.putfield 54, 3) := by decide +kernel
theorem dX11_init_119 : decode cX11_init 119 = .ok (.aload_n 0, 1) := by decide +kernel
theorem dX11_init_120 : decode cX11_init 120 = .ok (.sipush 480, 3) := by decide +kernel
theorem dX11_init_123 : decode cX11_init 123 = .ok (.newarray .long, 2) := by decide +kernel
theorem dX11_init_125 : decode cX11_init 125 = .ok (.putfield 57, 3) := by decide +kernel
theorem dX11_init_128 : decode cX11_init 128 = .ok (.aload_n 0, 1) := by decide +kernel
theorem dX11_init_129 : decode cX11_init 129 = .ok (.bipush 60, 2) := by decide +kernel
theorem dX11_init_131 : decode cX11_init 131 = .ok (.newarray .long, 2) := by decide +kernel
theorem dX11_init_133 : decode cX11_init 133 = .ok (.putfield 61, 3) := by decide +kernel
theorem dX11_init_136 : decode cX11_init 136 = .ok (.aload_n 0, 1) := by decide +kernel
theorem dX11_init_137 : decode cX11_init 137 = .ok (.sipush 160, 3) := by decide +kernel
theorem dX11_init_140 : decode cX11_init 140 = .ok (.newarray .int, 2) := by decide +kernel
theorem dX11_init_142 : decode cX11_init 142 = .ok (.putfield 64, 3) := by decide +kernel
theorem dX11_init_145 : decode cX11_init 145 = .ok (.aload_n 0, 1) := by decide +kernel
theorem dX11_init_146 : decode cX11_init 146 = .ok (.sipush 160, 3) := by decide +kernel
theorem dX11_init_149 : decode cX11_init 149 = .ok (.newarray .int, 2) := by decide +kernel
theorem dX11_init_151 : decode cX11_init 151 = .ok (.putfield 67, 3) := by decide +kernel
theorem dX11_init_154 : decode cX11_init 154 = .ok (.aload_n 0, 1) := by decide +kernel
theorem dX11_init_155 : decode cX11_init 155 = .ok (.sipush 160, 3) := by decide +kernel
theorem dX11_init_158 : decode cX11_init 158 = .ok (.newarray .int, 2) := by decide +kernel
theorem dX11_init_160 : decode cX11_init 160 = .ok (.putfield 70, 3) := by decide +kernel
theorem dX11_init_163 : decode cX11_init 163 = .ok (.aload_n 0, 1) := by decide +kernel
theorem dX11_init_164 : decode cX11_init 164 = .ok (.sipush 160, 3) := by decide +kernel
theorem dX11_init_167 : decode cX11_init 167 = .ok (.newarray .int, 2) := by decide +kernel
theorem dX11_init_169 : decode cX11_init 169 = .ok (.putfield 73, 3) := by decide +kernel
theorem dX11_init_172 : decode cX11_init 172 = .ok (.aload_n 0, 1) := by decide +kernel
theorem dX11_init_173 : decode cX11_init 173 = .ok (.sipush 160, 3) := by decide +kernel
theorem dX11_init_176 : decode cX11_init 176 = .ok (.newarray .int, 2) := by decide +kernel
theorem dX11_init_178 : decode cX11_init 178 = .ok (.putfield 76, 3) := by decide +kernel
theorem dX11_init_181 : decode cX11_init 181 = .ok (.aload_n 0, 1) := by decide +kernel
theorem dX11_init_182 : decode cX11_init 182 = .ok (.sipush 160, 3) := by decide +kernel
theorem dX11_init_185 : decode cX11_init 185 = .ok (.newarray .int, 2) := by decide +kernel
theorem dX11_init_187 : decode cX11_init 187 = .ok (.putfield 79, 3) := by decide +kernel
theorem dX11_init_190 : decode cX11_init 190 = .ok (.aload_n 0, 1) := by decide +kernel
theorem dX11_init_191 : decode cX11_init 191 = .ok (.sipush 160, 3) := by decide +kernel
theorem dX11_init_194 : decode cX11_init 194 = .ok (.newarray .int, 2) := by decide +kernel
theorem dX11_init_196 : decode cX11_init 196 = .ok (.putfield 82, 3) := by decide +kernel
theorem dX11_init_199 : decode cX11_init 199 = .ok (.aload_n 0, 1) := by decide +kernel
theorem dX11_init_200 : decode cX11_init 200 = .ok (.sipush 160, 3) := by decide +kernel
theorem dX11_init_203 : decode cX11_init 203 = .ok (.newarray .int, 2) := by decide +kernel
theorem dX11_init_205 : decode cX11_init 205 = .ok (.putfield 85, 3) := by decide +kernel
theorem dX11_init_208 : decode cX11_init 208 = .ok (.aload_n 0, 1) := by decide +kernel
theorem dX11_init_209 : decode cX11_init 209 = .ok (.sipush 160, 3) := by decide +kernel
theorem dX11_init_212 : decode cX11_init 212 = .ok (.newarray .int, 2) := by decide +kernel
theorem dX11_init_214 : decode cX11_init 214 = .ok (.putfield 88, 3) := by decide +kernel
theorem dX11_init_217 : decode cX11_init 217 = .ok (.aload_n 0, 1) := by decide +kernel
theorem dX11_init_218 : decode cX11_init 218 = .ok (.sipush 160, 3) := by decide +kernel
theorem dX11_init_221 : decode cX11_init 221 = .ok (.newarray .int, 2) := by decide +kernel
theorem dX11_init_223 : decode cX11_init 223 = .ok (.putfield 91, 3) := by decide +kernel
theorem dX11_init_226 : decode cX11_init 226 = .ok (.aload_n 0, 1) := by decide +kernel
theorem dX11_init_227 : decode cX11_init 227 = .ok (.sipush 160, 3) := by decide +kernel
theorem dX11_init_230 : decode cX11_init 230 = .ok (.newarray .int, 2) := by decide +kernel
theorem dX11_init_232 : decode cX11_init 232 = .ok (.putfield 94, 3) := by decide +kernel
theorem dX11_init_235 : decode cX11_init 235 = .ok (.aload_n 0, 1) := by decide +kernel
theorem dX11_init_236 : decode cX11_init 236 = .ok (.sipush 160, 3) := by decide +kernel
theorem dX11_init_239 : decode cX11_init 239 = .ok (.newarray .int, 2) := by decide +kernel
theorem dX11_init_241 : decode cX11_init 241 = .ok (.putfield 97, 3) := by decide +kernel
theorem dX11_init_244 : decode cX11_init 244 = .ok (.aload_n 0, 1) := by decide +kernel
theorem dX11_init_245 : decode cX11_init 245 = .ok (.sipush 160, 3) := by decide +kernel
theorem dX11_init_248 : decode cX11_init 248 = .ok (.newarray .boolean, 2) := by decide +kernel
theorem dX11_init_250 : decode cX11_init 250 = .ok (.putfield 100, 3) := by decide +kernel
theorem dX11_init_253 : decode cX11_init 253 = .ok (.aload_n 0, 1) := by decide +kernel
theorem dX11_init_254 : decode cX11_init 254 = .ok (.sipush 160, 3) := by decide +kernel
theorem dX11_init_257 : decode cX11_init 257 = .ok (.newarray .boolean, 2) := by decide +kernel
theorem dX11_init_259 : decode cX11_init 259 = .ok (.putfield 103, 3) := by decide +kernel
theorem dX11_init_262 : decode cX11_init 262 = .ok (.aload_n 0, 1) := by decide +kernel
theorem dX11_init_263 : decode cX11_init 263 = .ok (.sipush 160, 3) := by decide +kernel
theorem dX11_init_266 : decode cX11_init 266 = .ok (.newarray .boolean, 2) := by decide +kernel
theorem dX11_init_268 : decode cX11_init 268 = .ok (.putfield 106, 3) := by decide +kernel
theorem dX11_init_271 : decode cX11_init 271 = .ok (.aload_n 0, 1) := by decide +kernel
theorem dX11_init_272 : decode cX11_init 272 = .ok (.sipush 3200, 3) := by decide +kernel
theorem dX11_init_275 : decode cX11_init 275 = .ok (.newarray .long, 2) := by decide +kernel
theorem dX11_init_277 : decode cX11_init 277 = .ok (.putfield 109, 3) := by decide +kernel
theorem dX11_init_280 : decode cX11_init 280 = .ok (.aload_n 0, 1) := by decide +kernel
theorem dX11_init_281 : decode cX11_init 281 = .ok (.bipush 8, 2) := by decide +kernel
theorem dX11_init_283 : decode cX11_init 283 = .ok (.newarray .int, 2) := by decide +kernel
theorem dX11_init_285 : decode cX11_init 285 = .ok (.putfield 112, 3) := by decide +kernel
theorem dX11_init_288 : decode cX11_init 288 = .ok (.aload_n 0, 1) := by decide +kernel
theorem dX11_init_289 : decode cX11_init 289 = .ok (.bipush 8, 2) := by decide +kernel
theorem dX11_init_291 : decode cX11_init 291 = .ok (.newarray .int, 2) := by decide +kernel
theorem dX11_init_293 : decode cX11_init 293 = .ok (.putfield 115, 3) := by decide +kernel
theorem dX11_init_296 : decode cX11_init 296 = .ok (.aload_n 0, 1) := by decide +kernel
theorem dX11_init_297 : decode cX11_init 297 = .ok (.bipush 8, 2) := by decide +kernel
theorem dX11_init_299 : decode cX11_init 299 = .ok (.newarray .int, 2) := by decide +kernel
theorem dX11_init_301 : decode cX11_init 301 = .ok (.putfield 118, 3) := by decide +kernel
theorem dX11_init_304 : decode cX11_init 304 = .ok (.aload_n 0, 1) := by decide +kernel
theorem dX11_init_305 : decode cX11_init 305 = .ok (.bipush 8, 2) := by decide +kernel
theorem dX11_init_307 : decode cX11_init 307 = .ok (.newarray .int, 2) := by decide +kernel
theorem dX11_init_309 : decode cX11_init 309 = .ok (.putfield 121, 3) := by decide +kernel
theorem dX11_init_312 : decode cX11_init 312 = .ok (.aload_n 0, 1) := by decide +kernel
theorem dX11_init_313 : decode cX11_init 313 = .ok (.sipush 480, 3) := by decide +kernel
theorem dX11_init_316 : decode cX11_init 316 = .ok (.newarray .long, 2) := by decide +kernel
theorem dX11_init_318 : decode cX11_init 318 = .ok (.putfield 124, 3) := by decide +kernel
theorem dX11_init_321 : decode cX11_init 321 = .ok (.aload_n 0, 1) := by decide +kernel
theorem dX11_init_322 : decode cX11_init 322 = .ok (.bipush 13, 2) := by decide +kernel
theorem dX11_init_324 : decode cX11_init 324 = .ok (.newarray .int, 2) := by decide +kernel
theorem dX11_init_326 : decode cX11_init 326 = .ok (.putfield 127, 3) := by decide +kernel
theorem dX11_init_329 : decode cX11_init 329 = .ok (.aload_n 0, 1) := by decide +kernel
theorem dX11_init_330 : decode cX11_init 330 = .ok (.bipush 13, 2) := by decide +kernel
theorem dX11_init_332 : decode cX11_init 332 = .ok (.newarray .int, 2) := by decide +kernel
theorem dX11_init_334 : decode cX11_init 334 = .ok (.putfield 130, 3) := by decide +kernel
theorem dX11_init_337 : decode cX11_init 337 = .ok (.aload_n 0, 1) := by decide +kernel
theorem dX11_init_338 : decode cX11_init 338 = .ok (.bipush 13, 2) := by decide +kernel
theorem dX11_init_340 : decode cX11_init 340 = .ok (.newarray .int, 2) := by decide +kernel
theorem dX11_init_342 : decode cX11_init 342 = .ok (.putfield 133, 3) := by decide +kernel
theorem dX11_init_345 : decode cX11_init 345 = .ok (.aload_n 0, 1) := by decide +kernel
theorem dX11_init_346 : decode cX11_init 346 = .ok (.bipush 13, 2) := by decide +kernel
theorem dX11_init_348 : decode cX11_init 348 = .ok (.newarray .int, 2) := by decide +kernel
theorem dX11_init_350 : decode cX11_init 350 = .ok (.putfield 136, 3) := by decide +kernel
theorem dX11_init_353 : decode cX11_init 353 = .ok (.aload_n 0, 1) := by decide +kernel
theorem dX11_init_354 : decode cX11_init 354 = .ok (.bipush 13, 2) := by decide +kernel
theorem dX11_init_356 : decode cX11_init 356 = .ok (.newarray .int, 2) := by decide +kernel
theorem dX11_init_358 : decode cX11_init 358 = .ok (.putfield 139, 3) := by decide +kernel
theorem dX11_init_361 : decode cX11_init 361 = .ok (.aload_n 0, 1) := by decide +kernel
theorem dX11_init_362 : decode cX11_init 362 = .ok (.sipush 1300, 3) := by decide +kernel
theorem dX11_init_365 : decode cX11_init 365 = .ok (.newarray .int, 2) := by decide +kernel
theorem dX11_init_367 : decode cX11_init 367 = .ok (.putfield 142, 3) := by decide +kernel
theorem dX11_init_370 : decode cX11_init 370 = .ok (.aload_n 0, 1) := by decide +kernel
theorem dX11_init_371 : decode cX11_init 371 = .ok (.sipush 520, 3) := by decide +kernel
theorem dX11_init_374 : decode cX11_init 374 = .ok (.newarray .int, 2) := by decide +kernel
theorem dX11_init_376 : decode cX11_init 376 = .ok (.putfield 145, 3) := by decide +kernel
theorem dX11_init_379 : decode cX11_init 379 = .ok (.aload_n 0, 1) := by decide +kernel
theorem dX11_init_380 : decode cX11_init 380 = .ok (.sipush 520, 3) := by decide +kernel
theorem dX11_init_383 : decode cX11_init 383 = .ok (.newarray .int, 2) := by decide +kernel
theorem dX11_init_385 : decode cX11_init 385 = .ok (.putfield 148, 3) := by decide +kernel
theorem dX11_init_388 : decode cX11_init 388 = .ok (.aload_n 0, 1) := by decide +kernel
theorem dX11_init_389 : decode cX11_init 389 = .ok (.sipush 520, 3) := by decide +kernel
theorem dX11_init_392 : decode cX11_init 392 = .ok (.newarray .int, 2) := by decide +kernel
theorem dX11_init_394 : decode cX11_init 394 = .ok (.putfield 151, 3) := by decide +kernel
theorem dX11_init_397 : decode cX11_init 397 = .ok (.aload_n 0, 1) := by decide +kernel
theorem dX11_init_398 : decode cX11_init 398 = .ok (.sipush 520, 3) := by decide +kernel
theorem dX11_init_401 : decode cX11_init 401 = .ok (.newarray .int, 2) := by decide +kernel
theorem dX11_init_403 : decode cX11_init 403 = .ok (.putfield 154, 3) := by decide +kernel
theorem dX11_init_406 : decode cX11_init 406 = .ok (.aload_n 0, 1) := by decide +kernel
theorem dX11_init_407 : decode cX11_init 407 = .ok (.sipush 520, 3) := by decide +kernel
theorem dX11_init_410 : decode cX11_init 410 = .ok (.newarray .int, 2) := by decide +kernel
theorem dX11_init_412 : decode cX11_init 412 = .ok (.putfield 157, 3) := by decide +kernel
theorem dX11_init_415 : decode cX11_init 415 = .ok (.aload_n 0, 1) := by decide +kernel
theorem dX11_init_416 : decode cX11_init 416 = .ok (.bipush 20, 2) := by decide +kernel
theorem dX11_init_418 : decode cX11_init 418 = .ok (.newarray .int, 2) := by decide +kernel
theorem dX11_init_420 : decode cX11_init 420 = .ok (.putfield 160, 3) := by decide +kernel
theorem dX11_init_423 : decode cX11_init 423 = .ok (.aload_n 0, 1) := by decide +kernel
theorem dX11_init_424 : decode cX11_init 424 = .ok (.bipush 20, 2) := by decide +kernel
theorem dX11_init_426 : decode cX11_init 426 = .ok (.newarray .int, 2) := by decide +kernel
theorem dX11_init_428 : decode cX11_init 428 = .ok (.putfield 163, 3) := by decide +kernel
theorem dX11_init_431 : decode cX11_init 431 = .ok (.aload_n 0, 1) := by decide +kernel
theorem dX11_init_432 : decode cX11_init 432 = .ok (.sipush 256, 3) := by decide +kernel
theorem dX11_init_435 : decode cX11_init 435 = .ok (.newarray .boolean, 2) := by decide +kernel
theorem dX11_init_437 : decode cX11_init 437 = .ok (.putfield 166, 3) := by decide +kernel
theorem dX11_init_440 : decode cX11_init 440 = .ok (.aload_n 0, 1) := by decide +kernel
theorem dX11_init_441 : decode cX11_init 441 = .ok (.bipush 8, 2) := by decide +kernel
theorem dX11_init_443 : decode cX11_init 443 = .ok (.newarray .int, 2) := by decide +kernel
theorem dX11_init_445 : decode cX11_init 445 = .ok (.putfield 169, 3) := by decide +kernel
theorem dX11_init_448 : decode cX11_init 448 = .ok (.aload_n 0, 1) := by decide +kernel
theorem dX11_init_449 : decode cX11_init 449 = .ok (.sipush 441, 3) := by decide +kernel
theorem dX11_init_452 : decode cX11_init 452 = .ok (.newarray .int, 2) := by decide +kernel
theorem dX11_init_454 : decode cX11_init 454 = .ok (.putfield 172, 3) := by decide +kernel
theorem dX11_init_457 : decode cX11_init 457 = .ok (.aload_n 0, 1) := by decide +kernel
theorem dX11_init_458 : decode cX11_init 458 = .ok (.bipush 120, 2) := by decide +kernel
theorem dX11_init_460 : decode cX11_init 460 = .ok (.newarray .int, 2) := by decide +kernel
theorem dX11_init_462 : decode cX11_init 462 = .ok (.putfield 175, 3) := by decide +kernel
theorem dX11_init_465 : decode cX11_init 465 = .ok (.aload_n 0, 1) := by decide +kernel
theorem dX11_init_466 : decode cX11_init 466 = .ok (.sipush 160, 3) := by decide +kernel
theorem dX11_init_469 : decode cX11_init 469 = .ok (.newarray .int, 2) := by decide +kernel
theorem dX11_init_471 : decode cX11_init 471 = .ok (.putfield 178, 3) := by decide +kernel
theorem dX11_init_474 : decode cX11_init 474 = .ok (.aload_n 0, 1) := by decide +kernel
theorem dX11_init_475 : decode cX11_init 475 = .ok (.bipush 24, 2) := by decide +kernel
theorem dX11_init_477 : decode cX11_init 477 = .ok (.newarray .int, 2) := by decide +kernel
theorem dX11_init_479 : decode cX11_init 479 = .ok (.putfield 181, 3) := by decide +kernel
theorem dX11_init_482 : decode cX11_init 482 = .ok (.aload_n 0, 1) := by decide +kernel
theorem dX11_init_483 : decode cX11_init 483 = .ok (.bipush 60, 2) := by decide +kernel
theorem dX11_init_485 : decode cX11_init 485 = .ok (.newarray .int, 2) := by decide +kernel
theorem dX11_init_487 : decode cX11_init 487 = .ok (.putfield 184, 3) := by decide +kernel
theorem dX11_init_490 : decode cX11_init 490 = .ok (.aload_n 0, 1) := by decide +kernel
theorem dX11_init_491 : decode cX11_init 491 = .ok (.sipush 160, 3) := by decide +kernel
theorem dX11_init_494 : decode cX11_init 494 = .ok (.newarray .int, 2) := by decide +kernel
theorem dX11_init_496 : decode cX11_init 496 = .ok (.putfield 187, 3) := by decide +kernel
theorem dX11_init_499 : decode cX11_init 499 = .ok (.aload_n 0, 1) := by decide +kernel
theorem dX11_init_500 : decode cX11_init 500 = .ok (.iconst (-1), 1) := by decide +kernel
theorem dX11_init_501 : decode cX11_init 501 = .ok (.putfield 190, 3) := by decide +kernel
theorem dX11_init_504 : decode cX11_init 504 = .ok (.aload_n 0, 1) := by decide +kernel
theorem dX11_init_505 : decode cX11_init 505 = .ok (.bipush 10, 2) := by decide +kernel
theorem dX11_init_507 : decode cX11_init 507 = .ok (.newarray .int, 2) := by decide +kernel
theorem dX11_init_509 : decode cX11_init 509 = .ok (.putfield 193, 3) := by decide +kernel
theorem dX11_init_512 : decode cX11_init 512 = .ok (.aload_n 0, 1) := by decide +kernel
theorem dX11_init_513 : decode cX11_init 513 = .ok (.bipush 10, 2) := by decide +kernel
theorem dX11_init_515 : decode cX11_init 515 = .ok (.newarray .int, 2) := by decide +kernel
theorem dX11_init_517 : decode cX11_init 517 = .ok (.putfield 196, 3) := by decide +kernel
theorem dX11_init_520 : decode cX11_init 520 = .ok (.aload_n 0, 1) := by decide +kernel
theorem dX11_init_521 : decode cX11_init 521 = .ok (.bipush 10, 2) := by decide +kernel
theorem dX11_init_523 : decode cX11_init 523 = .ok (.newarray .int, 2) := by decide +kernel
theorem dX11_init_525 : decode cX11_init 525 = .ok (.putfield 199, 3) := by decide +kernel
theorem dX11_init_528 : decode cX11_init 528 = .ok (.aload_n 0, 1) := by decide +kernel
theorem dX11_init_529 : decode cX11_init 529 = .ok (.bipush 10, 2) := by decide +kernel
theorem dX11_init_531 : decode cX11_init 531 = .ok (.newarray .int, 2) := by decide +kernel
theorem dX11_init_533 : decode cX11_init 533 = .ok (.putfield 202, 3) := by decide +kernel
theorem dX11_init_536 : decode cX11_init 536 = .ok (.aload_n 0, 1) := by decide +kernel
theorem dX11_init_537 : decode cX11_init 537 = .ok (.getfield 16, 3) := by decide +kernel
theorem dX11_init_540 : decode cX11_init 540 = .ok (.iconst 0, 1) := by decide +kernel
theorem dX11_init_541 : decode cX11_init 541 = .ok (.iconst 3, 1) := by decide +kernel
theorem dX11_init_542 : decode cX11_init 542 = .ok (.iastore, 1) := by decide +kernel
theorem dX11_init_543 : decode cX11_init 543 = .ok (.aload_n 0, 1) := by decide +kernel
theorem dX11_init_544 : decode cX11_init 544 = .ok (.getfield 20, 3) := by decide +kernel
theorem dX11_init_547 : decode cX11_init 547 = .ok (.iconst 0, 1) := by decide +kernel
theorem dX11_init_548 : decode cX11_init 548 = .ok (.iconst (-1), 1) := by decide +kernel
theorem dX11_init_549 : decode cX11_init 549 = .ok (.iastore, 1) := by decide +kernel
theorem dX11_init_550 : decode cX11_init 550 = .ok (.aload_n 0, 1) := by decide +kernel
theorem dX11_init_551 : decode cX11_init 551 = .ok (.getfield 32, 3) := by decide +kernel
theorem dX11_init_554 : decode cX11_init 554 = .ok (.iconst 0, 1) := by decide +kernel
theorem dX11_init_555 : decode cX11_init 555 = .ok (.iconst (-1), 1) := by decide +kernel
theorem dX11_init_556 : decode cX11_init 556 = .ok (.iastore, 1) := by decide +kernel
theorem dX11_init_557 : decode cX11_init 557 = .ok (.aload_n 0, 1) := by decide +kernel
theorem dX11_init_558 : decode cX11_init 558 = .ok (.getfield 35, 3) := by decide +kernel
theorem dX11_init_561 : decode cX11_init 561 = .ok (.iconst 0, 1) := by decide +kernel
theorem dX11_init_562 : decode cX11_init 562 = .ok (.iconst (-1), 1) := by decide +kernel
theorem dX11_init_563 : decode cX11_init 563 = .ok (.iastore, 1) := by decide +kernel
theorem dX11_init_564 : decode cX11_init 564 = .ok (.return_, 1) := by decide +kernel
theorem dX11_no_0 : decode cX11_no 0 = .ok (.aload_n 0, 1) := by decide +kernel
theorem dX11_no_1 : decode cX11_no 1 = .ok (.getfield 169, 3) := by decide +kernel
theorem dX11_no_4 : decode cX11_no 4 = .ok (.iload_n 1, 1) := by decide +kernel
theorem dX11_no_5 : decode cX11_no 5 = .ok (.ineg, 1) := by decide +kernel
theorem dX11_no_6 : decode cX11_no 6 = .ok (.dup2, 1) := by decide +kernel
theorem dX11_no_7 : decode cX11_no 7 = .ok (.iaload, 1) := by decide +kernel
theorem dX11_no_8 : decode cX11_no 8 = .ok (.iconst 1, 1) := by decide +kernel
theorem dX11_no_9 : decode cX11_no 9 = .ok (.iadd, 1) := by decide +kernel
theorem dX11_no_10 : decode cX11_no 10 = .ok (.iastore, 1) := by decide +kernel
theorem dX11_no_11 : decode cX11_no 11 = .ok (.iload_n 1, 1) := by decide +kernel
theorem dX11_no_12 : decode cX11_no 12 = .ok (.ireturn, 1) := by decide +kernel
theorem dX11_isPlace_0 : decode cX11_isPlace 0 = .ok (.iload_n 1, 1) := by decide +kernel
theorem dX11_isPlace_1 : decode cX11_isPlace 1 = .ok (.ifCond .lt 15, 3) := by decide +kernel
theorem dX11_isPlace_4 : decode cX11_isPlace 4 = .ok (.iload_n 1, 1) := by decide +kernel
theorem dX11_isPlace_5 : decode cX11_isPlace 5 = .ok (.aload_n 0, 1) := by decide +kernel
theorem dX11_isPlace_6 : decode cX11_isPlace 6 = .ok (.getfield 7, 3) := by decide +kernel
theorem dX11_isPlace_9 : decode cX11_isPlace 9 = .ok (.if_icmp .ge 7, 3) := by decide +kernel
theorem dX11_isPlace_12 : decode cX11_isPlace 12 = .ok (.iconst 1, 1) := by decide +kernel
theorem dX11_isPlace_13 : decode cX11_isPlace 13 = .ok (.goto 4, 3) := by decide +kernel
theorem dX11_isPlace_16 : decode cX11_isPlace 16 = .ok (.iconst 0, 1) := by decide +kernel
theorem dX11_isPlace_17 : decode cX11_isPlace 17 = .ok (.ireturn, 1) := by decide +kernel
theorem dX11_isAsk_0 : decode cX11_isAsk 0 = .ok (.iload_n 1, 1) := by decide +kernel
theorem dX11_isAsk_1 : decode cX11_isAsk 1 = .ok (.ifCond .lt 15, 3) := by decide +kernel
theorem dX11_isAsk_4 : decode cX11_isAsk 4 = .ok (.iload_n 1, 1) := by decide +kernel
theorem dX11_isAsk_5 : decode cX11_isAsk 5 = .ok (.aload_n 0, 1) := by decide +kernel
theorem dX11_isAsk_6 : decode cX11_isAsk 6 = .ok (.getfield 205, 3) := by decide +kernel
theorem dX11_isAsk_9 : decode cX11_isAsk 9 = .ok (.if_icmp .ge 7, 3) := by decide +kernel
theorem dX11_isAsk_12 : decode cX11_isAsk 12 = .ok (.iconst 1, 1) := by decide +kernel
theorem dX11_isAsk_13 : decode cX11_isAsk 13 = .ok (.goto 4, 3) := by decide +kernel
theorem dX11_isAsk_16 : decode cX11_isAsk 16 = .ok (.iconst 0, 1) := by decide +kernel
theorem dX11_isAsk_17 : decode cX11_isAsk 17 = .ok (.ireturn, 1) := by decide +kernel
theorem dX11_isShelf_0 : decode cX11_isShelf 0 = .ok (.iload_n 0, 1) := by decide +kernel
theorem dX11_isShelf_1 : decode cX11_isShelf 1 = .ok (.ifCond .lt 13, 3) := by decide +kernel
theorem dX11_isShelf_4 : decode cX11_isShelf 4 = .ok (.iload_n 0, 1) := by decide +kernel
theorem dX11_isShelf_5 : decode cX11_isShelf 5 = .ok (.bipush 8, 2) := by decide +kernel
theorem dX11_isShelf_7 : decode cX11_isShelf 7 = .ok (.if_icmp .ge 7, 3) := by decide +kernel
theorem dX11_isShelf_10 : decode cX11_isShelf 10 = .ok (.iconst 1, 1) := by decide +kernel
theorem dX11_isShelf_11 : decode cX11_isShelf 11 = .ok (.goto 4, 3) := by decide +kernel
theorem dX11_isShelf_14 : decode cX11_isShelf 14 = .ok (.iconst 0, 1) := by decide +kernel
theorem dX11_isShelf_15 : decode cX11_isShelf 15 = .ok (.ireturn, 1) := by decide +kernel
theorem dX11_isAsked_0 : decode cX11_isAsked 0 = .ok (.iload_n 0, 1) := by decide +kernel
theorem dX11_isAsked_1 : decode cX11_isAsked 1 = .ok (.ifCond .lt 23, 3) := by decide +kernel
theorem dX11_isAsked_4 : decode cX11_isAsked 4 = .ok (.iload_n 0, 1) := by decide +kernel
theorem dX11_isAsked_5 : decode cX11_isAsked 5 = .ok (.bipush 16, 2) := by decide +kernel
theorem dX11_isAsked_7 : decode cX11_isAsked 7 = .ok (.if_icmp .ge 17, 3) := by decide +kernel
theorem dX11_isAsked_10 : decode cX11_isAsked 10 = .ok (.iload_n 1, 1) := by decide +kernel
theorem dX11_isAsked_11 : decode cX11_isAsked 11 = .ok (.ifCond .lt 13, 3) := by decide +kernel
theorem dX11_isAsked_14 : decode cX11_isAsked 14 = .ok (.iload_n 1, 1) := by decide +kernel
theorem dX11_isAsked_15 : decode cX11_isAsked 15 = .ok (.bipush 8, 2) := by decide +kernel
theorem dX11_isAsked_17 : decode cX11_isAsked 17 = .ok (.if_icmp .ge 7, 3) := by decide +kernel
theorem dX11_isAsked_20 : decode cX11_isAsked 20 = .ok (.iconst 1, 1) := by decide +kernel
theorem dX11_isAsked_21 : decode cX11_isAsked 21 = .ok (.goto 4, 3) := by decide +kernel
theorem dX11_isAsked_24 : decode cX11_isAsked 24 = .ok (.iconst 0, 1) := by decide +kernel
theorem dX11_isAsked_25 : decode cX11_isAsked 25 = .ok (.ireturn, 1) := by decide +kernel
theorem dX11_puts_0 : decode cX11_puts 0 = .ok (.aload_n 0, 1) := by decide +kernel
theorem dX11_puts_1 : decode cX11_puts 1 = .ok (.getfield 16, 3) := by decide +kernel
theorem dX11_puts_4 : decode cX11_puts 4 = .ok (.aload_n 0, 1) := by decide +kernel
theorem dX11_puts_5 : decode cX11_puts 5 = .ok (.getfield 7, 3) := by decide +kernel
theorem dX11_puts_8 : decode cX11_puts 8 = .ok (.iload_n 2, 1) := by decide +kernel
theorem dX11_puts_9 : decode cX11_puts 9 = .ok (.iastore, 1) := by decide +kernel
theorem dX11_puts_10 : decode cX11_puts 10 = .ok (.aload_n 0, 1) := by decide +kernel
theorem dX11_puts_11 : decode cX11_puts 11 = .ok (.getfield 20, 3) := by decide +kernel
theorem dX11_puts_14 : decode cX11_puts 14 = .ok (.aload_n 0, 1) := by decide +kernel
theorem dX11_puts_15 : decode cX11_puts 15 = .ok (.getfield 7, 3) := by decide +kernel
theorem dX11_puts_18 : decode cX11_puts 18 = .ok (.iload_n 1, 1) := by decide +kernel
theorem dX11_puts_19 : decode cX11_puts 19 = .ok (.iastore, 1) := by decide +kernel
theorem dX11_puts_20 : decode cX11_puts 20 = .ok (.aload_n 0, 1) := by decide +kernel
theorem dX11_puts_21 : decode cX11_puts 21 = .ok (.getfield 23, 3) := by decide +kernel
theorem dX11_puts_24 : decode cX11_puts 24 = .ok (.aload_n 0, 1) := by decide +kernel
theorem dX11_puts_25 : decode cX11_puts 25 = .ok (.getfield 7, 3) := by decide +kernel
theorem dX11_puts_28 : decode cX11_puts 28 = .ok (.iload_n 3, 1) := by decide +kernel
theorem dX11_puts_29 : decode cX11_puts 29 = .ok (.iastore, 1) := by decide +kernel
theorem dX11_puts_30 : decode cX11_puts 30 = .ok (.aload_n 0, 1) := by decide +kernel
theorem dX11_puts_31 : decode cX11_puts 31 = .ok (.getfield 26, 3) := by decide +kernel
theorem dX11_puts_34 : decode cX11_puts 34 = .ok (.aload_n 0, 1) := by decide +kernel
theorem dX11_puts_35 : decode cX11_puts 35 = .ok (.getfield 7, 3) := by decide +kernel
theorem dX11_puts_38 : decode cX11_puts 38 = .ok (.iload 4, 2) := by decide +kernel
theorem dX11_puts_40 : decode cX11_puts 40 = .ok (.iastore, 1) := by decide +kernel
theorem dX11_puts_41 : decode cX11_puts 41 = .ok (.aload_n 0, 1) := by decide +kernel
theorem dX11_puts_42 : decode cX11_puts 42 = .ok (.getfield 29, 3) := by decide +kernel
theorem dX11_puts_45 : decode cX11_puts 45 = .ok (.aload_n 0, 1) := by decide +kernel
theorem dX11_puts_46 : decode cX11_puts 46 = .ok (.getfield 7, 3) := by decide +kernel
theorem dX11_puts_49 : decode cX11_puts 49 = .ok (.iload 5, 2) := by decide +kernel
theorem dX11_puts_51 : decode cX11_puts 51 = .ok (.iastore, 1) := by decide +kernel
theorem dX11_puts_52 : decode cX11_puts 52 = .ok (.aload_n 0, 1) := by decide +kernel
theorem dX11_puts_53 : decode cX11_puts 53 = .ok (.getfield 32, 3) := by decide +kernel
theorem dX11_puts_56 : decode cX11_puts 56 = .ok (.aload_n 0, 1) := by decide +kernel
theorem dX11_puts_57 : decode cX11_puts 57 = .ok (.getfield 7, 3) := by decide +kernel
theorem dX11_puts_60 : decode cX11_puts 60 = .ok (.iconst (-1), 1) := by decide +kernel
theorem dX11_puts_61 : decode cX11_puts 61 = .ok (.iastore, 1) := by decide +kernel
theorem dX11_puts_62 : decode cX11_puts 62 = .ok (.aload_n 0, 1) := by decide +kernel
theorem dX11_puts_63 : decode cX11_puts 63 = .ok (.getfield 35, 3) := by decide +kernel
theorem dX11_puts_66 : decode cX11_puts 66 = .ok (.aload_n 0, 1) := by decide +kernel
theorem dX11_puts_67 : decode cX11_puts 67 = .ok (.getfield 7, 3) := by decide +kernel
theorem dX11_puts_70 : decode cX11_puts 70 = .ok (.iconst (-1), 1) := by decide +kernel
theorem dX11_puts_71 : decode cX11_puts 71 = .ok (.iastore, 1) := by decide +kernel
theorem dX11_puts_72 : decode cX11_puts 72 = .ok (.aload_n 0, 1) := by decide +kernel
theorem dX11_puts_73 : decode cX11_puts 73 = .ok (.dup, 1) := by decide +kernel
theorem dX11_puts_74 : decode cX11_puts 74 = .ok (.getfield 7, 3) := by decide +kernel
theorem dX11_puts_77 : decode cX11_puts 77 = .ok (.dup_x1, 1) := by decide +kernel
theorem dX11_puts_78 : decode cX11_puts 78 = .ok (.iconst 1, 1) := by decide +kernel
theorem dX11_puts_79 : decode cX11_puts 79 = .ok (.iadd, 1) := by decide +kernel
theorem dX11_puts_80 : decode cX11_puts 80 = .ok (.putfield 7, 3) := by decide +kernel
theorem dX11_puts_83 : decode cX11_puts 83 = .ok (.ireturn, 1) := by decide +kernel
theorem dX11_place_0 : decode cX11_place 0 = .ok (.aload_n 0, 1) := by decide +kernel
theorem dX11_place_1 : decode cX11_place 1 = .ok (.iload_n 1, 1) := by decide +kernel
theorem dX11_place_2 : decode cX11_place 2 = .ok (.invokevirtual 208, 3) := by decide +kernel
theorem dX11_place_5 : decode cX11_place 5 = .ok (.ifCond .ne 9, 3) := by decide +kernel
theorem dX11_place_8 : decode cX11_place 8 = .ok (.aload_n 0, 1) := by decide +kernel
theorem dX11_place_9 : decode cX11_place 9 = .ok (.iconst (-1), 1) := by decide +kernel
theorem dX11_place_10 : decode cX11_place 10 = .ok (.invokevirtual 212, 3) := by decide +kernel
theorem dX11_place_13 : decode cX11_place 13 = .ok (.ireturn, 1) := by decide +kernel
theorem dX11_place_14 : decode cX11_place 14 = .ok (.iload_n 2, 1) := by decide +kernel
theorem dX11_place_15 : decode cX11_place 15 = .ok (.ifCond .lt 19, 3) := by decide +kernel
theorem dX11_place_18 : decode cX11_place 18 = .ok (.iload_n 2, 1) := by decide +kernel
theorem dX11_place_19 : decode cX11_place 19 = .ok (.bipush 99, 2) := by decide +kernel
theorem dX11_place_21 : decode cX11_place 21 = .ok (.if_icmp .gt 13, 3) := by decide +kernel
theorem dX11_place_24 : decode cX11_place 24 = .ok (.aload_n 0, 1) := by decide +kernel
theorem dX11_place_25 : decode cX11_place 25 = .ok (.getfield 16, 3) := by decide +kernel
theorem dX11_place_28 : decode cX11_place 28 = .ok (.iload_n 1, 1) := by decide +kernel
theorem dX11_place_29 : decode cX11_place 29 = .ok (.iaload, 1) := by decide +kernel
theorem dX11_place_30 : decode cX11_place 30 = .ok (.iconst 2, 1) := by decide +kernel
theorem dX11_place_31 : decode cX11_place 31 = .ok (.if_icmp .ge 10, 3) := by decide +kernel
theorem dX11_place_34 : decode cX11_place 34 = .ok (.aload_n 0, 1) := by decide +kernel
theorem dX11_place_35 : decode cX11_place 35 = .ok (.bipush (-6), 2) := by decide +kernel
theorem dX11_place_37 : decode cX11_place 37 = .ok (.invokevirtual 212, 3) := by decide +kernel
theorem dX11_place_40 : decode cX11_place 40 = .ok (.ireturn, 1) := by decide +kernel
theorem dX11_place_41 : decode cX11_place 41 = .ok (.aload_n 0, 1) := by decide +kernel
theorem dX11_place_42 : decode cX11_place 42 = .ok (.getfield 7, 3) := by decide +kernel
theorem dX11_place_45 : decode cX11_place 45 = .ok (.bipush 24, 2) := by decide +kernel
theorem dX11_place_47 : decode cX11_place 47 = .ok (.if_icmp .ne 12, 3) := by decide +kernel
theorem dX11_place_50 : decode cX11_place 50 = .ok (.aload_n 0, 1) := by decide +kernel
theorem dX11_place_51 : decode cX11_place 51 = .ok (.bipush (-7), 2) := by decide +kernel
theorem dX11_place_53 : decode cX11_place 53 = .ok (.invokevirtual 212, 3) := by decide +kernel
theorem dX11_place_56 : decode cX11_place 56 = .ok (.goto 19, 3) := by decide +kernel
theorem dX11_place_59 : decode cX11_place 59 = .ok (.aload_n 0, 1) := by decide +kernel
theorem dX11_place_60 : decode cX11_place 60 = .ok (.iload_n 1, 1) := by decide +kernel
theorem dX11_place_61 : decode cX11_place 61 = .ok (.aload_n 0, 1) := by decide +kernel
theorem dX11_place_62 : decode cX11_place 62 = .ok (.getfield 16, 3) := by decide +kernel
theorem dX11_place_65 : decode cX11_place 65 = .ok (.iload_n 1, 1) := by decide +kernel
theorem dX11_place_66 : decode cX11_place 66 = .ok (.iaload, 1) := by decide +kernel
theorem dX11_place_67 : decode cX11_place 67 = .ok (.iconst 1, 1) := by decide +kernel
theorem dX11_place_68 : decode cX11_place 68 = .ok (.isub, 1) := by decide +kernel
theorem dX11_place_69 : decode cX11_place 69 = .ok (.iload_n 2, 1) := by decide +kernel
theorem dX11_place_70 : decode cX11_place 70 = .ok (.iconst (-1), 1) := by decide +kernel
theorem dX11_place_71 : decode cX11_place 71 = .ok (.iconst 0, 1) := by decide +kernel
theorem dX11_place_72 : decode cX11_place 72 = .ok (.invokevirtual 216, 3) := by decide +kernel
theorem dX11_place_75 : decode cX11_place 75 = .ok (.ireturn, 1) := by decide +kernel
theorem dX11_parish_0 : decode cX11_parish 0 = .ok (.aload_n 0, 1) := by decide +kernel
theorem dX11_parish_1 : decode cX11_parish 1 = .ok (.iload_n 1, 1) := by decide +kernel
theorem dX11_parish_2 : decode cX11_parish 2 = .ok (.invokevirtual 208, 3) := by decide +kernel
theorem dX11_parish_5 : decode cX11_parish 5 = .ok (.ifCond .ne 9, 3) := by decide +kernel
theorem dX11_parish_8 : decode cX11_parish 8 = .ok (.aload_n 0, 1) := by decide +kernel
theorem dX11_parish_9 : decode cX11_parish 9 = .ok (.iconst (-1), 1) := by decide +kernel
theorem dX11_parish_10 : decode cX11_parish 10 = .ok (.invokevirtual 212, 3) := by decide +kernel
theorem dX11_parish_13 : decode cX11_parish 13 = .ok (.ireturn, 1) := by decide +kernel
theorem dX11_parish_14 : decode cX11_parish 14 = .ok (.iload_n 2, 1) := by decide +kernel
theorem dX11_parish_15 : decode cX11_parish 15 = .ok (.ifCond .lt 42, 3) := by decide +kernel
theorem dX11_parish_18 : decode cX11_parish 18 = .ok (.iload_n 2, 1) := by decide +kernel
theorem dX11_parish_19 : decode cX11_parish 19 = .ok (.bipush 99, 2) := by decide +kernel
theorem dX11_parish_21 : decode cX11_parish 21 = .ok (.if_icmp .gt 36, 3) := by decide +kernel
theorem dX11_parish_24 : decode cX11_parish 24 = .ok (.iload_n 3, 1) := by decide +kernel
theorem dX11_parish_25 : decode cX11_parish 25 = .ok (.ifCond .lt 32, 3) := by decide +kernel
theorem dX11_parish_28 : decode cX11_parish 28 = .ok (.iload_n 3, 1) := by decide +kernel
theorem dX11_parish_29 : decode cX11_parish 29 = .ok (.iconst 2, 1) := by decide +kernel
theorem dX11_parish_30 : decode cX11_parish 30 = .ok (.if_icmp .gt 27, 3) := by decide +kernel
theorem dX11_parish_33 : decode cX11_parish 33 = .ok (.iload 4, 2) := by decide +kernel
theorem dX11_parish_35 : decode cX11_parish 35 = .ok (.iconst 1, 1) := by decide +kernel
theorem dX11_parish_36 : decode cX11_parish 36 = .ok (.if_icmp .lt 21, 3) := by decide +kernel
theorem dX11_parish_39 : decode cX11_parish 39 = .ok (.iload 4, 2) := by decide +kernel
theorem dX11_parish_41 : decode cX11_parish 41 = .ok (.sipush 999, 3) := by decide +kernel
theorem dX11_parish_44 : decode cX11_parish 44 = .ok (.if_icmp .gt 13, 3) := by decide +kernel
theorem dX11_parish_47 : decode cX11_parish 47 = .ok (.aload_n 0, 1) := by decide +kernel
theorem dX11_parish_48 : decode cX11_parish 48 = .ok (.getfield 16, 3) := by decide +kernel
theorem dX11_parish_51 : decode cX11_parish 51 = .ok (.iload_n 1, 1) := by decide +kernel
theorem dX11_parish_52 : decode cX11_parish 52 = .ok (.iaload, 1) := by decide +kernel
theorem dX11_parish_53 : decode cX11_parish 53 = .ok (.iconst 1, 1) := by decide +kernel
theorem dX11_parish_54 : decode cX11_parish 54 = .ok (.if_icmp .eq 10, 3) := by decide +kernel
theorem dX11_parish_57 : decode cX11_parish 57 = .ok (.aload_n 0, 1) := by decide +kernel
theorem dX11_parish_58 : decode cX11_parish 58 = .ok (.bipush (-6), 2) := by decide +kernel
theorem dX11_parish_60 : decode cX11_parish 60 = .ok (.invokevirtual 212, 3) := by decide +kernel
theorem dX11_parish_63 : decode cX11_parish 63 = .ok (.ireturn, 1) := by decide +kernel
theorem dX11_parish_64 : decode cX11_parish 64 = .ok (.aload_n 0, 1) := by decide +kernel
theorem dX11_parish_65 : decode cX11_parish 65 = .ok (.getfield 7, 3) := by decide +kernel
theorem dX11_parish_68 : decode cX11_parish 68 = .ok (.bipush 24, 2) := by decide +kernel
theorem dX11_parish_70 : decode cX11_parish 70 = .ok (.if_icmp .ne 12, 3) := by decide +kernel
theorem dX11_parish_73 : decode cX11_parish 73 = .ok (.aload_n 0, 1) := by decide +kernel
theorem dX11_parish_74 : decode cX11_parish 74 = .ok (.bipush (-7), 2) := by decide +kernel
theorem dX11_parish_76 : decode cX11_parish 76 = .ok (.invokevirtual 212, 3) := by decide +kernel
theorem dX11_parish_79 : decode cX11_parish 79 = .ok (.goto 13, 3) := by decide +kernel
theorem dX11_parish_82 : decode cX11_parish 82 = .ok (.aload_n 0, 1) := by decide +kernel
theorem dX11_parish_83 : decode cX11_parish 83 = .ok (.iload_n 1, 1) := by decide +kernel
theorem dX11_parish_84 : decode cX11_parish 84 = .ok (.iconst 0, 1) := by decide +kernel
theorem dX11_parish_85 : decode cX11_parish 85 = .ok (.iload_n 2, 1) := by decide +kernel
theorem dX11_parish_86 : decode cX11_parish 86 = .ok (.iload_n 3, 1) := by decide +kernel
theorem dX11_parish_87 : decode cX11_parish 87 = .ok (.iload 4, 2) := by decide +kernel
theorem dX11_parish_89 : decode cX11_parish 89 = .ok (.invokevirtual 216, 3) := by decide +kernel
theorem dX11_parish_92 : decode cX11_parish 92 = .ok (.ireturn, 1) := by decide +kernel
theorem dX11_pathOf_0 : decode cX11_pathOf 0 = .ok (.iload_n 1, 1) := by decide +kernel
theorem dX11_pathOf_1 : decode cX11_pathOf 1 = .ok (.istore_n 3, 1) := by decide +kernel
theorem dX11_pathOf_2 : decode cX11_pathOf 2 = .ok (.iload_n 2, 1) := by decide +kernel
theorem dX11_pathOf_3 : decode cX11_pathOf 3 = .ok (.istore 4, 2) := by decide +kernel
theorem dX11_pathOf_5 : decode cX11_pathOf 5 = .ok (.iconst 0, 1) := by decide +kernel
theorem dX11_pathOf_6 : decode cX11_pathOf 6 = .ok (.istore 5, 2) := by decide +kernel
theorem dX11_pathOf_8 : decode cX11_pathOf 8 = .ok (.iload_n 3, 1) := by decide +kernel
theorem dX11_pathOf_9 : decode cX11_pathOf 9 = .ok (.iload 4, 2) := by decide +kernel
theorem dX11_pathOf_11 : decode cX11_pathOf 11 = .ok (.if_icmp .eq 86, 3) := by decide +kernel
theorem dX11_pathOf_14 : decode cX11_pathOf 14 = .ok (.aload_n 0, 1) := by decide +kernel
theorem dX11_pathOf_15 : decode cX11_pathOf 15 = .ok (.getfield 16, 3) := by decide +kernel
theorem dX11_pathOf_18 : decode cX11_pathOf 18 = .ok (.iload_n 3, 1) := by decide +kernel
theorem dX11_pathOf_19 : decode cX11_pathOf 19 = .ok (.iaload, 1) := by decide +kernel
theorem dX11_pathOf_20 : decode cX11_pathOf 20 = .ok (.aload_n 0, 1) := by decide +kernel
theorem dX11_pathOf_21 : decode cX11_pathOf 21 = .ok (.getfield 16, 3) := by decide +kernel
theorem dX11_pathOf_24 : decode cX11_pathOf 24 = .ok (.iload 4, 2) := by decide +kernel
theorem dX11_pathOf_26 : decode cX11_pathOf 26 = .ok (.iaload, 1) := by decide +kernel
theorem dX11_pathOf_27 : decode cX11_pathOf 27 = .ok (.if_icmp .lt 25, 3) := by decide +kernel
theorem dX11_pathOf_30 : decode cX11_pathOf 30 = .ok (.aload_n 0, 1) := by decide +kernel
theorem dX11_pathOf_31 : decode cX11_pathOf 31 = .ok (.getfield 16, 3) := by decide +kernel
theorem dX11_pathOf_34 : decode cX11_pathOf 34 = .ok (.iload_n 3, 1) := by decide +kernel
theorem dX11_pathOf_35 : decode cX11_pathOf 35 = .ok (.iaload, 1) := by decide +kernel
theorem dX11_pathOf_36 : decode cX11_pathOf 36 = .ok (.aload_n 0, 1) := by decide +kernel
theorem dX11_pathOf_37 : decode cX11_pathOf 37 = .ok (.getfield 16, 3) := by decide +kernel
theorem dX11_pathOf_40 : decode cX11_pathOf 40 = .ok (.iload 4, 2) := by decide +kernel
theorem dX11_pathOf_42 : decode cX11_pathOf 42 = .ok (.iaload, 1) := by decide +kernel
theorem dX11_pathOf_43 : decode cX11_pathOf 43 = .ok (.if_icmp .ne 30, 3) := by decide +kernel
theorem dX11_pathOf_46 : decode cX11_pathOf 46 = .ok (.iload_n 3, 1) := by decide +kernel
theorem dX11_pathOf_47 : decode cX11_pathOf 47 = .ok (.iload 4, 2) := by decide +kernel
theorem dX11_pathOf_49 : decode cX11_pathOf 49 = .ok (.if_icmp .le 24, 3) := by decide +kernel
theorem dX11_pathOf_52 : decode cX11_pathOf 52 = .ok (.iload 5, 2) := by decide +kernel
theorem dX11_pathOf_54 : decode cX11_pathOf 54 = .ok (.aload_n 0, 1) := by decide +kernel
theorem dX11_pathOf_55 : decode cX11_pathOf 55 = .ok (.getfield 23, 3) := by decide +kernel
theorem dX11_pathOf_58 : decode cX11_pathOf 58 = .ok (.iload_n 3, 1) := by decide +kernel
theorem dX11_pathOf_59 : decode cX11_pathOf 59 = .ok (.iaload, 1) := by decide +kernel
theorem dX11_pathOf_60 : decode cX11_pathOf 60 = .ok (.iadd, 1) := by decide +kernel
theorem dX11_pathOf_61 : decode cX11_pathOf 61 = .ok (.istore 5, 2) := by decide +kernel
theorem dX11_pathOf_63 : decode cX11_pathOf 63 = .ok (.aload_n 0, 1) := by decide +kernel
theorem dX11_pathOf_64 : decode cX11_pathOf 64 = .ok (.getfield 20, 3) := by decide +kernel
theorem dX11_pathOf_67 : decode cX11_pathOf 67 = .ok (.iload_n 3, 1) := by decide +kernel
theorem dX11_pathOf_68 : decode cX11_pathOf 68 = .ok (.iaload, 1) := by decide +kernel
theorem dX11_pathOf_69 : decode cX11_pathOf 69 = .ok (.istore_n 3, 1) := by decide +kernel
theorem dX11_pathOf_70 : decode cX11_pathOf 70 = .ok (.goto (-62), 3) := by decide +kernel
theorem dX11_pathOf_73 : decode cX11_pathOf 73 = .ok (.iload 5, 2) := by decide +kernel
theorem dX11_pathOf_75 : decode cX11_pathOf 75 = .ok (.aload_n 0, 1) := by decide +kernel
theorem dX11_pathOf_76 : decode cX11_pathOf 76 = .ok (.getfield 23, 3) := by decide +kernel
theorem dX11_pathOf_79 : decode cX11_pathOf 79 = .ok (.iload 4, 2) := by decide +kernel
theorem dX11_pathOf_81 : decode cX11_pathOf 81 = .ok (.iaload, 1) := by decide +kernel
theorem dX11_pathOf_82 : decode cX11_pathOf 82 = .ok (.iadd, 1) := by decide +kernel
theorem dX11_pathOf_83 : decode cX11_pathOf 83 = .ok (.istore 5, 2) := by decide +kernel
theorem dX11_pathOf_85 : decode cX11_pathOf 85 = .ok (.aload_n 0, 1) := by decide +kernel
theorem dX11_pathOf_86 : decode cX11_pathOf 86 = .ok (.getfield 20, 3) := by decide +kernel
theorem dX11_pathOf_89 : decode cX11_pathOf 89 = .ok (.iload 4, 2) := by decide +kernel
theorem dX11_pathOf_91 : decode cX11_pathOf 91 = .ok (.iaload, 1) := by decide +kernel
theorem dX11_pathOf_92 : decode cX11_pathOf 92 = .ok (.istore 4, 2) := by decide +kernel
theorem dX11_pathOf_94 : decode cX11_pathOf 94 = .ok (.goto (-86), 3) := by decide +kernel
theorem dX11_pathOf_97 : decode cX11_pathOf 97 = .ok (.iload 5, 2) := by decide +kernel
theorem dX11_pathOf_99 : decode cX11_pathOf 99 = .ok (.ireturn, 1) := by decide +kernel
theorem dX11_path_0 : decode cX11_path 0 = .ok (.aload_n 0, 1) := by decide +kernel
theorem dX11_path_1 : decode cX11_path 1 = .ok (.iload_n 1, 1) := by decide +kernel
theorem dX11_path_2 : decode cX11_path 2 = .ok (.invokevirtual 208, 3) := by decide +kernel
theorem dX11_path_5 : decode cX11_path 5 = .ok (.ifCond .eq 20, 3) := by decide +kernel
theorem dX11_path_8 : decode cX11_path 8 = .ok (.aload_n 0, 1) := by decide +kernel
theorem dX11_path_9 : decode cX11_path 9 = .ok (.iload_n 2, 1) := by decide +kernel
theorem dX11_path_10 : decode cX11_path 10 = .ok (.invokevirtual 208, 3) := by decide +kernel
theorem dX11_path_13 : decode cX11_path 13 = .ok (.ifCond .eq 12, 3) := by decide +kernel
theorem dX11_path_16 : decode cX11_path 16 = .ok (.aload_n 0, 1) := by decide +kernel
theorem dX11_path_17 : decode cX11_path 17 = .ok (.iload_n 1, 1) := by decide +kernel
theorem dX11_path_18 : decode cX11_path 18 = .ok (.iload_n 2, 1) := by decide +kernel
theorem dX11_path_19 : decode cX11_path 19 = .ok (.invokevirtual 220, 3) := by decide +kernel
theorem dX11_path_22 : decode cX11_path 22 = .ok (.goto 4, 3) := by decide +kernel
theorem dX11_path_25 : decode cX11_path 25 = .ok (.iconst (-1), 1) := by decide +kernel
theorem dX11_path_26 : decode cX11_path 26 = .ok (.ireturn, 1) := by decide +kernel
theorem dX11_days_0 : decode cX11_days 0 = .ok (.iload_n 1, 1) := by decide +kernel
theorem dX11_days_1 : decode cX11_days 1 = .ok (.iconst 1, 1) := by decide +kernel
theorem dX11_days_2 : decode cX11_days 2 = .ok (.if_icmp .lt 22, 3) := by decide +kernel
theorem dX11_days_5 : decode cX11_days 5 = .ok (.iload_n 1, 1) := by decide +kernel
theorem dX11_days_6 : decode cX11_days 6 = .ok (.sipush 400, 3) := by decide +kernel
theorem dX11_days_9 : decode cX11_days 9 = .ok (.if_icmp .gt 15, 3) := by decide +kernel
theorem dX11_days_12 : decode cX11_days 12 = .ok (.aload_n 0, 1) := by decide +kernel
theorem dX11_days_13 : decode cX11_days 13 = .ok (.getfield 224, 3) := by decide +kernel
theorem dX11_days_16 : decode cX11_days 16 = .ok (.iload_n 1, 1) := by decide +kernel
theorem dX11_days_17 : decode cX11_days 17 = .ok (.iadd, 1) := by decide +kernel
theorem dX11_days_18 : decode cX11_days 18 = .ok (.sipush 4000, 3) := by decide +kernel
theorem dX11_days_21 : decode cX11_days 21 = .ok (.if_icmp .le 10, 3) := by decide +kernel
theorem dX11_days_24 : decode cX11_days 24 = .ok (.aload_n 0, 1) := by decide +kernel
theorem dX11_days_25 : decode cX11_days 25 = .ok (.bipush (-6), 2) := by decide +kernel
theorem dX11_days_27 : decode cX11_days 27 = .ok (.invokevirtual 212, 3) := by decide +kernel
theorem dX11_days_30 : decode cX11_days 30 = .ok (.ireturn, 1) := by decide +kernel
theorem dX11_days_31 : decode cX11_days 31 = .ok (.aload_n 0, 1) := by decide +kernel
theorem dX11_days_32 : decode cX11_days 32 = .ok (.dup, 1) := by decide +kernel
theorem dX11_days_33 : decode cX11_days 33 = .ok (.getfield 224, 3) := by decide +kernel
theorem dX11_days_36 : decode cX11_days 36 = .ok (.iload_n 1, 1) := by decide +kernel
theorem dX11_days_37 : decode cX11_days 37 = .ok (.iadd, 1) := by decide +kernel
theorem dX11_days_38 : decode cX11_days 38 = .ok (.putfield 224, 3) := by decide +kernel
theorem dX11_days_41 : decode cX11_days 41 = .ok (.aload_n 0, 1) := by decide +kernel
theorem dX11_days_42 : decode cX11_days 42 = .ok (.getfield 224, 3) := by decide +kernel
theorem dX11_days_45 : decode cX11_days 45 = .ok (.ireturn, 1) := by decide +kernel
theorem dX11_isBelow_0 : decode cX11_isBelow 0 = .ok (.iload_n 1, 1) := by decide +kernel
theorem dX11_isBelow_1 : decode cX11_isBelow 1 = .ok (.istore_n 3, 1) := by decide +kernel
theorem dX11_isBelow_2 : decode cX11_isBelow 2 = .ok (.iload_n 3, 1) := by decide +kernel
theorem dX11_isBelow_3 : decode cX11_isBelow 3 = .ok (.iconst (-1), 1) := by decide +kernel
theorem dX11_isBelow_4 : decode cX11_isBelow 4 = .ok (.if_icmp .eq 18, 3) := by decide +kernel
theorem dX11_isBelow_7 : decode cX11_isBelow 7 = .ok (.iload_n 3, 1) := by decide +kernel
theorem dX11_isBelow_8 : decode cX11_isBelow 8 = .ok (.iload_n 2, 1) := by decide +kernel
theorem dX11_isBelow_9 : decode cX11_isBelow 9 = .ok (.if_icmp .eq 13, 3) := by decide +kernel
theorem dX11_isBelow_12 : decode cX11_isBelow 12 = .ok (.aload_n 0, 1) := by decide +kernel
theorem dX11_isBelow_13 : decode cX11_isBelow 13 = .ok (.getfield 20, 3) := by decide +kernel
theorem dX11_isBelow_16 : decode cX11_isBelow 16 = .ok (.iload_n 3, 1) := by decide +kernel
theorem dX11_isBelow_17 : decode cX11_isBelow 17 = .ok (.iaload, 1) := by decide +kernel
theorem dX11_isBelow_18 : decode cX11_isBelow 18 = .ok (.istore_n 3, 1) := by decide +kernel
theorem dX11_isBelow_19 : decode cX11_isBelow 19 = .ok (.goto (-17), 3) := by decide +kernel
theorem dX11_isBelow_22 : decode cX11_isBelow 22 = .ok (.iload_n 3, 1) := by decide +kernel
theorem dX11_isBelow_23 : decode cX11_isBelow 23 = .ok (.iload_n 2, 1) := by decide +kernel
theorem dX11_isBelow_24 : decode cX11_isBelow 24 = .ok (.if_icmp .ne 7, 3) := by decide +kernel
theorem dX11_isBelow_27 : decode cX11_isBelow 27 = .ok (.iconst 1, 1) := by decide +kernel
theorem dX11_isBelow_28 : decode cX11_isBelow 28 = .ok (.goto 4, 3) := by decide +kernel
theorem dX11_isBelow_31 : decode cX11_isBelow 31 = .ok (.iconst 0, 1) := by decide +kernel
theorem dX11_isBelow_32 : decode cX11_isBelow 32 = .ok (.ireturn, 1) := by decide +kernel
theorem dX11_hearthsOf_0 : decode cX11_hearthsOf 0 = .ok (.iconst 0, 1) := by decide +kernel
theorem dX11_hearthsOf_1 : decode cX11_hearthsOf 1 = .ok (.istore_n 2, 1) := by decide +kernel
theorem dX11_hearthsOf_2 : decode cX11_hearthsOf 2 = .ok (.iconst 0, 1) := by decide +kernel
theorem dX11_hearthsOf_3 : decode cX11_hearthsOf 3 = .ok (.istore_n 3, 1) := by decide +kernel
theorem dX11_hearthsOf_4 : decode cX11_hearthsOf 4 = .ok (.iload_n 3, 1) := by decide +kernel
theorem dX11_hearthsOf_5 : decode cX11_hearthsOf 5 = .ok (.aload_n 0, 1) := by decide +kernel
theorem dX11_hearthsOf_6 : decode cX11_hearthsOf 6 = .ok (.getfield 7, 3) := by decide +kernel
theorem dX11_hearthsOf_9 : decode cX11_hearthsOf 9 = .ok (.if_icmp .ge 36, 3) := by decide +kernel
theorem dX11_hearthsOf_12 : decode cX11_hearthsOf 12 = .ok (.aload_n 0, 1) := by decide +kernel
theorem dX11_hearthsOf_13 : decode cX11_hearthsOf 13 = .ok (.getfield 16, 3) := by decide +kernel
theorem dX11_hearthsOf_16 : decode cX11_hearthsOf 16 = .ok (.iload_n 3, 1) := by decide +kernel
theorem dX11_hearthsOf_17 : decode cX11_hearthsOf 17 = .ok (.iaload, 1) := by decide +kernel
theorem dX11_hearthsOf_18 : decode cX11_hearthsOf 18 = .ok (.ifCond .ne 21, 3) := by decide +kernel
theorem dX11_hearthsOf_21 : decode cX11_hearthsOf 21 = .ok (.aload_n 0, 1) := by decide +kernel
theorem dX11_hearthsOf_22 : decode cX11_hearthsOf 22 = .ok (.iload_n 3, 1) := by decide +kernel
theorem dX11_hearthsOf_23 : decode cX11_hearthsOf 23 = .ok (.iload_n 1, 1) := by decide +kernel
theorem dX11_hearthsOf_24 : decode cX11_hearthsOf 24 = .ok (.invokevirtual 227, 3) := by decide +kernel
theorem dX11_hearthsOf_27 : decode cX11_hearthsOf 27 = .ok (.ifCond .eq 12, 3) := by decide +kernel
theorem dX11_hearthsOf_30 : decode cX11_hearthsOf 30 = .ok (.iload_n 2, 1) := by decide +kernel
theorem dX11_hearthsOf_31 : decode cX11_hearthsOf 31 = .ok (.aload_n 0, 1) := by decide +kernel
theorem dX11_hearthsOf_32 : decode cX11_hearthsOf 32 = .ok (.getfield 29, 3) := by decide +kernel
theorem dX11_hearthsOf_35 : decode cX11_hearthsOf 35 = .ok (.iload_n 3, 1) := by decide +kernel
theorem dX11_hearthsOf_36 : decode cX11_hearthsOf 36 = .ok (.iaload, 1) := by decide +kernel
theorem dX11_hearthsOf_37 : decode cX11_hearthsOf 37 = .ok (.iadd, 1) := by decide +kernel
theorem dX11_hearthsOf_38 : decode cX11_hearthsOf 38 = .ok (.istore_n 2, 1) := by decide +kernel
theorem dX11_hearthsOf_39 : decode cX11_hearthsOf 39 = .ok (.iinc 3 1, 3) := by decide +kernel
theorem dX11_hearthsOf_42 : decode cX11_hearthsOf 42 = .ok (.goto (-38), 3) := by decide +kernel
theorem dX11_hearthsOf_45 : decode cX11_hearthsOf 45 = .ok (.iload_n 2, 1) := by decide +kernel
theorem dX11_hearthsOf_46 : decode cX11_hearthsOf 46 = .ok (.ireturn, 1) := by decide +kernel
theorem dX11_bookSize_0 : decode cX11_bookSize 0 = .ok (.iconst 0, 1) := by decide +kernel
theorem dX11_bookSize_1 : decode cX11_bookSize 1 = .ok (.istore_n 2, 1) := by decide +kernel
theorem dX11_bookSize_2 : decode cX11_bookSize 2 = .ok (.iconst 0, 1) := by decide +kernel
theorem dX11_bookSize_3 : decode cX11_bookSize 3 = .ok (.istore_n 3, 1) := by decide +kernel
theorem dX11_bookSize_4 : decode cX11_bookSize 4 = .ok (.iload_n 3, 1) := by decide +kernel
theorem dX11_bookSize_5 : decode cX11_bookSize 5 = .ok (.aload_n 0, 1) := by decide +kernel
theorem dX11_bookSize_6 : decode cX11_bookSize 6 = .ok (.getfield 205, 3) := by decide +kernel
theorem dX11_bookSize_9 : decode cX11_bookSize 9 = .ok (.if_icmp .ge 22, 3) := by decide +kernel
theorem dX11_bookSize_12 : decode cX11_bookSize 12 = .ok (.aload_n 0, 1) := by decide +kernel
theorem dX11_bookSize_13 : decode cX11_bookSize 13 = .ok (.getfield 64, 3) := by decide +kernel
theorem dX11_bookSize_16 : decode cX11_bookSize 16 = .ok (.iload_n 3, 1) := by decide +kernel
theorem dX11_bookSize_17 : decode cX11_bookSize 17 = .ok (.iaload, 1) := by decide +kernel
theorem dX11_bookSize_18 : decode cX11_bookSize 18 = .ok (.iload_n 1, 1) := by decide +kernel
theorem dX11_bookSize_19 : decode cX11_bookSize 19 = .ok (.if_icmp .ne 6, 3) := by decide +kernel
theorem dX11_bookSize_22 : decode cX11_bookSize 22 = .ok (.iinc 2 1, 3) := by decide +kernel
theorem dX11_bookSize_25 : decode cX11_bookSize 25 = .ok (.iinc 3 1, 3) := by decide +kernel
theorem dX11_bookSize_28 : decode cX11_bookSize 28 = .ok (.goto (-24), 3) := by decide +kernel
theorem dX11_bookSize_31 : decode cX11_bookSize 31 = .ok (.iload_n 2, 1) := by decide +kernel
theorem dX11_bookSize_32 : decode cX11_bookSize 32 = .ok (.ireturn, 1) := by decide +kernel
theorem dX11_about_0 : decode cX11_about 0 = .ok (.aload_n 0, 1) := by decide +kernel
theorem dX11_about_1 : decode cX11_about 1 = .ok (.iload_n 1, 1) := by decide +kernel
theorem dX11_about_2 : decode cX11_about 2 = .ok (.invokevirtual 208, 3) := by decide +kernel
theorem dX11_about_5 : decode cX11_about 5 = .ok (.ifCond .ne 5, 3) := by decide +kernel
theorem dX11_about_8 : decode cX11_about 8 = .ok (.iconst (-1), 1) := by decide +kernel
theorem dX11_about_9 : decode cX11_about 9 = .ok (.ireturn, 1) := by decide +kernel
theorem dX11_about_10 : decode cX11_about 10 = .ok (.iload_n 2, 1) := by decide +kernel
theorem dX11_about_11 : decode cX11_about 11 = .ok (.tableswitch 120 0 7 #[45, 52, 59, 79, 85, 91, 106, 113], 45) := by decide +kernel
theorem dX11_about_56 : decode cX11_about 56 = .ok (.aload_n 0, 1) := by decide +kernel
theorem dX11_about_57 : decode cX11_about 57 = .ok (.getfield 16, 3) := by decide +kernel
theorem dX11_about_60 : decode cX11_about 60 = .ok (.iload_n 1, 1) := by decide +kernel
theorem dX11_about_61 : decode cX11_about 61 = .ok (.iaload, 1) := by decide +kernel
theorem dX11_about_62 : decode cX11_about 62 = .ok (.ireturn, 1) := by decide +kernel
theorem dX11_about_63 : decode cX11_about 63 = .ok (.aload_n 0, 1) := by decide +kernel
theorem dX11_about_64 : decode cX11_about 64 = .ok (.getfield 20, 3) := by decide +kernel
theorem dX11_about_67 : decode cX11_about 67 = .ok (.iload_n 1, 1) := by decide +kernel
theorem dX11_about_68 : decode cX11_about 68 = .ok (.iaload, 1) := by decide +kernel
theorem dX11_about_69 : decode cX11_about 69 = .ok (.ireturn, 1) := by decide +kernel
theorem dX11_about_70 : decode cX11_about 70 = .ok (.aload_n 0, 1) := by decide +kernel
theorem dX11_about_71 : decode cX11_about 71 = .ok (.getfield 16, 3) := by decide +kernel
theorem dX11_about_74 : decode cX11_about 74 = .ok (.iload_n 1, 1) := by decide +kernel
theorem dX11_about_75 : decode cX11_about 75 = .ok (.iaload, 1) := by decide +kernel
theorem dX11_about_76 : decode cX11_about 76 = .ok (.ifCond .ne 12, 3) := by decide +kernel
theorem dX11_about_79 : decode cX11_about 79 = .ok (.aload_n 0, 1) := by decide +kernel
theorem dX11_about_80 : decode cX11_about 80 = .ok (.getfield 26, 3) := by decide +kernel
theorem dX11_about_83 : decode cX11_about 83 = .ok (.iload_n 1, 1) := by decide +kernel
theorem dX11_about_84 : decode cX11_about 84 = .ok (.iaload, 1) := by decide +kernel
theorem dX11_about_85 : decode cX11_about 85 = .ok (.goto 4, 3) := by decide +kernel
theorem dX11_about_88 : decode cX11_about 88 = .ok (.iconst (-1), 1) := by decide +kernel
theorem dX11_about_89 : decode cX11_about 89 = .ok (.ireturn, 1) := by decide +kernel
theorem dX11_about_90 : decode cX11_about 90 = .ok (.aload_n 0, 1) := by decide +kernel
theorem dX11_about_91 : decode cX11_about 91 = .ok (.iload_n 1, 1) := by decide +kernel
theorem dX11_about_92 : decode cX11_about 92 = .ok (.invokevirtual 231, 3) := by decide +kernel
theorem dX11_about_95 : decode cX11_about 95 = .ok (.ireturn, 1) := by decide +kernel
theorem dX11_about_96 : decode cX11_about 96 = .ok (.aload_n 0, 1) := by decide +kernel
theorem dX11_about_97 : decode cX11_about 97 = .ok (.iload_n 1, 1) := by decide +kernel
theorem dX11_about_98 : decode cX11_about 98 = .ok (.invokevirtual 234, 3) := by decide +kernel
theorem dX11_about_101 : decode cX11_about 101 = .ok (.ireturn, 1) := by decide +kernel
theorem dX11_about_102 : decode cX11_about 102 = .ok (.aload_n 0, 1) := by decide +kernel
theorem dX11_about_103 : decode cX11_about 103 = .ok (.getfield 41, 3) := by decide +kernel
theorem dX11_about_106 : decode cX11_about 106 = .ok (.iload_n 1, 1) := by decide +kernel
theorem dX11_about_107 : decode cX11_about 107 = .ok (.baload, 1) := by decide +kernel
theorem dX11_about_108 : decode cX11_about 108 = .ok (.ifCond .eq 7, 3) := by decide +kernel
theorem dX11_about_111 : decode cX11_about 111 = .ok (.iconst 1, 1) := by decide +kernel
theorem dX11_about_112 : decode cX11_about 112 = .ok (.goto 4, 3) := by decide +kernel
theorem dX11_about_115 : decode cX11_about 115 = .ok (.iconst 0, 1) := by decide +kernel
theorem dX11_about_116 : decode cX11_about 116 = .ok (.ireturn, 1) := by decide +kernel
theorem dX11_about_117 : decode cX11_about 117 = .ok (.aload_n 0, 1) := by decide +kernel
theorem dX11_about_118 : decode cX11_about 118 = .ok (.getfield 35, 3) := by decide +kernel
theorem dX11_about_121 : decode cX11_about 121 = .ok (.iload_n 1, 1) := by decide +kernel
theorem dX11_about_122 : decode cX11_about 122 = .ok (.iaload, 1) := by decide +kernel
theorem dX11_about_123 : decode cX11_about 123 = .ok (.ireturn, 1) := by decide +kernel
theorem dX11_about_124 : decode cX11_about 124 = .ok (.aload_n 0, 1) := by decide +kernel
theorem dX11_about_125 : decode cX11_about 125 = .ok (.getfield 32, 3) := by decide +kernel
theorem dX11_about_128 : decode cX11_about 128 = .ok (.iload_n 1, 1) := by decide +kernel
theorem dX11_about_129 : decode cX11_about 129 = .ok (.iaload, 1) := by decide +kernel
theorem dX11_about_130 : decode cX11_about 130 = .ok (.ireturn, 1) := by decide +kernel
theorem dX11_about_131 : decode cX11_about 131 = .ok (.iconst (-1), 1) := by decide +kernel
theorem dX11_about_132 : decode cX11_about 132 = .ok (.ireturn, 1) := by decide +kernel
theorem dX11_row_0 : decode cX11_row 0 = .ok (.iload_n 1, 1) := by decide +kernel
theorem dX11_row_1 : decode cX11_row 1 = .ok (.invokestatic 237, 3) := by decide +kernel
theorem dX11_row_4 : decode cX11_row 4 = .ok (.ifCond .ne 9, 3) := by decide +kernel
theorem dX11_row_7 : decode cX11_row 7 = .ok (.aload_n 0, 1) := by decide +kernel
theorem dX11_row_8 : decode cX11_row 8 = .ok (.iconst (-1), 1) := by decide +kernel
theorem dX11_row_9 : decode cX11_row 9 = .ok (.invokevirtual 212, 3) := by decide +kernel
theorem dX11_row_12 : decode cX11_row 12 = .ok (.ireturn, 1) := by decide +kernel
theorem dX11_row_13 : decode cX11_row 13 = .ok (.iload_n 3, 1) := by decide +kernel
theorem dX11_row_14 : decode cX11_row 14 = .ok (.ifCond .ge 10, 3) := by decide +kernel
theorem dX11_row_17 : decode cX11_row 17 = .ok (.aload_n 0, 1) := by decide +kernel
theorem dX11_row_18 : decode cX11_row 18 = .ok (.bipush (-4), 2) := by decide +kernel
theorem dX11_row_20 : decode cX11_row 20 = .ok (.invokevirtual 212, 3) := by decide +kernel
theorem dX11_row_23 : decode cX11_row 23 = .ok (.ireturn, 1) := by decide +kernel
theorem dX11_row_24 : decode cX11_row 24 = .ok (.iload_n 2, 1) := by decide +kernel
theorem dX11_row_25 : decode cX11_row 25 = .ok (.ifCond .lt 8, 3) := by decide +kernel
theorem dX11_row_28 : decode cX11_row 28 = .ok (.iload_n 2, 1) := by decide +kernel
theorem dX11_row_29 : decode cX11_row 29 = .ok (.iconst 3, 1) := by decide +kernel
theorem dX11_row_30 : decode cX11_row 30 = .ok (.if_icmp .le 10, 3) := by decide +kernel
theorem dX11_row_33 : decode cX11_row 33 = .ok (.aload_n 0, 1) := by decide +kernel
theorem dX11_row_34 : decode cX11_row 34 = .ok (.bipush (-6), 2) := by decide +kernel
theorem dX11_row_36 : decode cX11_row 36 = .ok (.invokevirtual 212, 3) := by decide +kernel
theorem dX11_row_39 : decode cX11_row 39 = .ok (.ireturn, 1) := by decide +kernel
theorem dX11_row_40 : decode cX11_row 40 = .ok (.iload_n 3, 1) := by decide +kernel
theorem dX11_row_41 : decode cX11_row 41 = .ok (.bipush 60, 2) := by decide +kernel
theorem dX11_row_43 : decode cX11_row 43 = .ok (.if_icmp .le 10, 3) := by decide +kernel
theorem dX11_row_46 : decode cX11_row 46 = .ok (.aload_n 0, 1) := by decide +kernel
theorem dX11_row_47 : decode cX11_row 47 = .ok (.bipush (-7), 2) := by decide +kernel
theorem dX11_row_49 : decode cX11_row 49 = .ok (.invokevirtual 212, 3) := by decide +kernel
theorem dX11_row_52 : decode cX11_row 52 = .ok (.ireturn, 1) := by decide +kernel
theorem dX11_row_53 : decode cX11_row 53 = .ok (.aload_n 0, 1) := by decide +kernel
theorem dX11_row_54 : decode cX11_row 54 = .ok (.getfield 45, 3) := by decide +kernel
theorem dX11_row_57 : decode cX11_row 57 = .ok (.iload_n 1, 1) := by decide +kernel
theorem dX11_row_58 : decode cX11_row 58 = .ok (.iconst 1, 1) := by decide +kernel
theorem dX11_row_59 : decode cX11_row 59 = .ok (.iastore, 1) := by decide +kernel
theorem dX11_row_60 : decode cX11_row 60 = .ok (.aload_n 0, 1) := by decide +kernel
theorem dX11_row_61 : decode cX11_row 61 = .ok (.getfield 48, 3) := by decide +kernel
theorem dX11_row_64 : decode cX11_row 64 = .ok (.iload_n 1, 1) := by decide +kernel
theorem dX11_row_65 : decode cX11_row 65 = .ok (.iload_n 2, 1) := by decide +kernel
theorem dX11_row_66 : decode cX11_row 66 = .ok (.iastore, 1) := by decide +kernel
theorem dX11_row_67 : decode cX11_row 67 = .ok (.aload_n 0, 1) := by decide +kernel
theorem dX11_row_68 : decode cX11_row 68 = .ok (.getfield 51, 3) := by decide +kernel
theorem dX11_row_71 : decode cX11_row 71 = .ok (.iload_n 1, 1) := by decide +kernel
theorem dX11_row_72 : decode cX11_row 72 = .ok (.iload_n 3, 1) := by decide +kernel
theorem dX11_row_73 : decode cX11_row 73 = .ok (.iastore, 1) := by decide +kernel
theorem dX11_row_74 : decode cX11_row 74 = .ok (.iconst 0, 1) := by decide +kernel
theorem dX11_row_75 : decode cX11_row 75 = .ok (.istore 4, 2) := by decide +kernel
theorem dX11_row_77 : decode cX11_row 77 = .ok (.iload 4, 2) := by decide +kernel
theorem dX11_row_79 : decode cX11_row 79 = .ok (.bipush 60, 2) := by decide +kernel
theorem dX11_row_81 : decode cX11_row 81 = .ok (.if_icmp .ge 22, 3) := by decide +kernel
theorem dX11_row_84 : decode cX11_row 84 = .ok (.aload_n 0, 1) := by decide +kernel
theorem dX11_row_85 : decode cX11_row 85 = .ok (.getfield 57, 3) := by decide +kernel
theorem dX11_row_88 : decode cX11_row 88 = .ok (.bipush 60, 2) := by decide +kernel
theorem dX11_row_90 : decode cX11_row 90 = .ok (.iload_n 1, 1) := by decide +kernel
theorem dX11_row_91 : decode cX11_row 91 = .ok (.imul, 1) := by decide +kernel
theorem dX11_row_92 : decode cX11_row 92 = .ok (.iload 4, 2) := by decide +kernel
theorem dX11_row_94 : decode cX11_row 94 = .ok (.iadd, 1) := by decide +kernel
theorem dX11_row_95 : decode cX11_row 95 = .ok (.lconst 0, 1) := by decide +kernel
theorem dX11_row_96 : decode cX11_row 96 = .ok (.lastore, 1) := by decide +kernel
theorem dX11_row_97 : decode cX11_row 97 = .ok (.iinc 4 1, 3) := by decide +kernel
theorem dX11_row_100 : decode cX11_row 100 = .ok (.goto (-23), 3) := by decide +kernel
theorem dX11_row_103 : decode cX11_row 103 = .ok (.iconst 1, 1) := by decide +kernel
theorem dX11_row_104 : decode cX11_row 104 = .ok (.ireturn, 1) := by decide +kernel
theorem dX11_set_0 : decode cX11_set 0 = .ok (.iload_n 1, 1) := by decide +kernel
theorem dX11_set_1 : decode cX11_set 1 = .ok (.invokestatic 237, 3) := by decide +kernel
theorem dX11_set_4 : decode cX11_set 4 = .ok (.ifCond .ne 9, 3) := by decide +kernel
theorem dX11_set_7 : decode cX11_set 7 = .ok (.aload_n 0, 1) := by decide +kernel
theorem dX11_set_8 : decode cX11_set 8 = .ok (.iconst (-1), 1) := by decide +kernel
theorem dX11_set_9 : decode cX11_set 9 = .ok (.invokevirtual 212, 3) := by decide +kernel
theorem dX11_set_12 : decode cX11_set 12 = .ok (.ireturn, 1) := by decide +kernel
theorem dX11_set_13 : decode cX11_set 13 = .ok (.aload_n 0, 1) := by decide +kernel
theorem dX11_set_14 : decode cX11_set 14 = .ok (.getfield 45, 3) := by decide +kernel
theorem dX11_set_17 : decode cX11_set 17 = .ok (.iload_n 1, 1) := by decide +kernel
theorem dX11_set_18 : decode cX11_set 18 = .ok (.iaload, 1) := by decide +kernel
theorem dX11_set_19 : decode cX11_set 19 = .ok (.iconst 2, 1) := by decide +kernel
theorem dX11_set_20 : decode cX11_set 20 = .ok (.if_icmp .ne 10, 3) := by decide +kernel
theorem dX11_set_23 : decode cX11_set 23 = .ok (.aload_n 0, 1) := by decide +kernel
theorem dX11_set_24 : decode cX11_set 24 = .ok (.bipush (-2), 2) := by decide +kernel
theorem dX11_set_26 : decode cX11_set 26 = .ok (.invokevirtual 212, 3) := by decide +kernel
theorem dX11_set_29 : decode cX11_set 29 = .ok (.ireturn, 1) := by decide +kernel
theorem dX11_set_30 : decode cX11_set 30 = .ok (.aload_n 0, 1) := by decide +kernel
theorem dX11_set_31 : decode cX11_set 31 = .ok (.getfield 45, 3) := by decide +kernel
theorem dX11_set_34 : decode cX11_set 34 = .ok (.iload_n 1, 1) := by decide +kernel
theorem dX11_set_35 : decode cX11_set 35 = .ok (.iaload, 1) := by decide +kernel
theorem dX11_set_36 : decode cX11_set 36 = .ok (.ifCond .ne 10, 3) := by decide +kernel
theorem dX11_set_39 : decode cX11_set 39 = .ok (.aload_n 0, 1) := by decide +kernel
theorem dX11_set_40 : decode cX11_set 40 = .ok (.bipush (-3), 2) := by decide +kernel
theorem dX11_set_42 : decode cX11_set 42 = .ok (.invokevirtual 212, 3) := by decide +kernel
theorem dX11_set_45 : decode cX11_set 45 = .ok (.ireturn, 1) := by decide +kernel
theorem dX11_set_46 : decode cX11_set 46 = .ok (.iload_n 2, 1) := by decide +kernel
theorem dX11_set_47 : decode cX11_set 47 = .ok (.ifCond .lt 13, 3) := by decide +kernel
theorem dX11_set_50 : decode cX11_set 50 = .ok (.iload_n 2, 1) := by decide +kernel
theorem dX11_set_51 : decode cX11_set 51 = .ok (.aload_n 0, 1) := by decide +kernel
theorem dX11_set_52 : decode cX11_set 52 = .ok (.getfield 51, 3) := by decide +kernel
theorem dX11_set_55 : decode cX11_set 55 = .ok (.iload_n 1, 1) := by decide +kernel
theorem dX11_set_56 : decode cX11_set 56 = .ok (.iaload, 1) := by decide +kernel
theorem dX11_set_57 : decode cX11_set 57 = .ok (.if_icmp .lt 10, 3) := by decide +kernel
theorem dX11_set_60 : decode cX11_set 60 = .ok (.aload_n 0, 1) := by decide +kernel
theorem dX11_set_61 : decode cX11_set 61 = .ok (.bipush (-5), 2) := by decide +kernel
theorem dX11_set_63 : decode cX11_set 63 = .ok (.invokevirtual 212, 3) := by decide +kernel
theorem dX11_set_66 : decode cX11_set 66 = .ok (.ireturn, 1) := by decide +kernel
theorem dX11_set_67 : decode cX11_set 67 = .ok (.aload_n 0, 1) := by decide +kernel
theorem dX11_set_68 : decode cX11_set 68 = .ok (.getfield 57, 3) := by decide +kernel
theorem dX11_set_71 : decode cX11_set 71 = .ok (.bipush 60, 2) := by decide +kernel
theorem dX11_set_73 : decode cX11_set 73 = .ok (.iload_n 1, 1) := by decide +kernel
theorem dX11_set_74 : decode cX11_set 74 = .ok (.imul, 1) := by decide +kernel
theorem dX11_set_75 : decode cX11_set 75 = .ok (.iload_n 2, 1) := by decide +kernel
theorem dX11_set_76 : decode cX11_set 76 = .ok (.iadd, 1) := by decide +kernel
theorem dX11_set_77 : decode cX11_set 77 = .ok (.aload_n 0, 1) := by decide +kernel
theorem dX11_set_78 : decode cX11_set 78 = .ok (.getfield 48, 3) := by decide +kernel
theorem dX11_set_81 : decode cX11_set 81 = .ok (.iload_n 1, 1) := by decide +kernel
theorem dX11_set_82 : decode cX11_set 82 = .ok (.iaload, 1) := by decide +kernel
theorem dX11_set_83 : decode cX11_set 83 = .ok (.ifCond .ne 10, 3) := by decide +kernel
theorem dX11_set_86 : decode cX11_set 86 = .ok (.lload_n 3, 1) := by decide +kernel
theorem dX11_set_87 : decode cX11_set 87 = .ok (.l2i, 1) := by decide +kernel
theorem dX11_set_88 : decode cX11_set 88 = .ok (.i2b, 1) := by decide +kernel
theorem dX11_set_89 : decode cX11_set 89 = .ok (.i2l, 1) := by decide +kernel
theorem dX11_set_90 : decode cX11_set 90 = .ok (.goto 37, 3) := by decide +kernel
theorem dX11_set_93 : decode cX11_set 93 = .ok (.aload_n 0, 1) := by decide +kernel
theorem dX11_set_94 : decode cX11_set 94 = .ok (.getfield 48, 3) := by decide +kernel
theorem dX11_set_97 : decode cX11_set 97 = .ok (.iload_n 1, 1) := by decide +kernel
theorem dX11_set_98 : decode cX11_set 98 = .ok (.iaload, 1) := by decide +kernel
theorem dX11_set_99 : decode cX11_set 99 = .ok (.iconst 1, 1) := by decide +kernel
theorem dX11_set_100 : decode cX11_set 100 = .ok (.if_icmp .ne 10, 3) := by decide +kernel
theorem dX11_set_103 : decode cX11_set 103 = .ok (.lload_n 3, 1) := by decide +kernel
theorem dX11_set_104 : decode cX11_set 104 = .ok (.l2i, 1) := by decide +kernel
theorem dX11_set_105 : decode cX11_set 105 = .ok (.i2s, 1) := by decide +kernel
theorem dX11_set_106 : decode cX11_set 106 = .ok (.i2l, 1) := by decide +kernel
theorem dX11_set_107 : decode cX11_set 107 = .ok (.goto 20, 3) := by decide +kernel
theorem dX11_set_110 : decode cX11_set 110 = .ok (.aload_n 0, 1) := by decide +kernel
theorem dX11_set_111 : decode cX11_set 111 = .ok (.getfield 48, 3) := by decide +kernel
theorem dX11_set_114 : decode cX11_set 114 = .ok (.iload_n 1, 1) := by decide +kernel
theorem dX11_set_115 : decode cX11_set 115 = .ok (.iaload, 1) := by decide +kernel
theorem dX11_set_116 : decode cX11_set 116 = .ok (.iconst 2, 1) := by decide +kernel
theorem dX11_set_117 : decode cX11_set 117 = .ok (.if_icmp .ne 9, 3) := by decide +kernel
theorem dX11_set_120 : decode cX11_set 120 = .ok (.lload_n 3, 1) := by decide +kernel
theorem dX11_set_121 : decode cX11_set 121 = .ok (.l2i, 1) := by decide +kernel
theorem dX11_set_122 : decode cX11_set 122 = .ok (.i2l, 1) := by decide +kernel
theorem dX11_set_123 : decode cX11_set 123 = .ok (.goto 4, 3) := by decide +kernel
theorem dX11_set_126 : decode cX11_set 126 = .ok (.lload_n 3, 1) := by decide +kernel
theorem dX11_set_127 : decode cX11_set 127 = .ok (.lastore, 1) := by decide +kernel
theorem dX11_set_128 : decode cX11_set 128 = .ok (.iconst 1, 1) := by decide +kernel
theorem dX11_set_129 : decode cX11_set 129 = .ok (.ireturn, 1) := by decide +kernel
theorem dX11_copy_0 : decode cX11_copy 0 = .ok (.iload_n 1, 1) := by decide +kernel
theorem dX11_copy_1 : decode cX11_copy 1 = .ok (.invokestatic 237, 3) := by decide +kernel
theorem dX11_copy_4 : decode cX11_copy 4 = .ok (.ifCond .eq 10, 3) := by decide +kernel
theorem dX11_copy_7 : decode cX11_copy 7 = .ok (.iload_n 2, 1) := by decide +kernel
theorem dX11_copy_8 : decode cX11_copy 8 = .ok (.invokestatic 237, 3) := by decide +kernel
theorem dX11_copy_11 : decode cX11_copy 11 = .ok (.ifCond .ne 9, 3) := by decide +kernel
theorem dX11_copy_14 : decode cX11_copy 14 = .ok (.aload_n 0, 1) := by decide +kernel
theorem dX11_copy_15 : decode cX11_copy 15 = .ok (.iconst (-1), 1) := by decide +kernel
theorem dX11_copy_16 : decode cX11_copy 16 = .ok (.invokevirtual 212, 3) := by decide +kernel
theorem dX11_copy_19 : decode cX11_copy 19 = .ok (.ireturn, 1) := by decide +kernel
theorem dX11_copy_20 : decode cX11_copy 20 = .ok (.aload_n 0, 1) := by decide +kernel
theorem dX11_copy_21 : decode cX11_copy 21 = .ok (.getfield 45, 3) := by decide +kernel
theorem dX11_copy_24 : decode cX11_copy 24 = .ok (.iload_n 1, 1) := by decide +kernel
theorem dX11_copy_25 : decode cX11_copy 25 = .ok (.iaload, 1) := by decide +kernel
theorem dX11_copy_26 : decode cX11_copy 26 = .ok (.iconst 2, 1) := by decide +kernel
theorem dX11_copy_27 : decode cX11_copy 27 = .ok (.if_icmp .eq 48, 3) := by decide +kernel
theorem dX11_copy_30 : decode cX11_copy 30 = .ok (.aload_n 0, 1) := by decide +kernel
theorem dX11_copy_31 : decode cX11_copy 31 = .ok (.getfield 45, 3) := by decide +kernel
theorem dX11_copy_34 : decode cX11_copy 34 = .ok (.iload_n 2, 1) := by decide +kernel
theorem dX11_copy_35 : decode cX11_copy 35 = .ok (.iaload, 1) := by decide +kernel
theorem dX11_copy_36 : decode cX11_copy 36 = .ok (.iconst 2, 1) := by decide +kernel
theorem dX11_copy_37 : decode cX11_copy 37 = .ok (.if_icmp .eq 38, 3) := by decide +kernel
theorem dX11_copy_40 : decode cX11_copy 40 = .ok (.aload_n 0, 1) := by decide +kernel
theorem dX11_copy_41 : decode cX11_copy 41 = .ok (.getfield 45, 3) := by decide +kernel
theorem dX11_copy_44 : decode cX11_copy 44 = .ok (.iload_n 1, 1) := by decide +kernel
theorem dX11_copy_45 : decode cX11_copy 45 = .ok (.iaload, 1) := by decide +kernel
theorem dX11_copy_46 : decode cX11_copy 46 = .ok (.iconst 1, 1) := by decide +kernel
theorem dX11_copy_47 : decode cX11_copy 47 = .ok (.if_icmp .ne 35, 3) := by decide +kernel
theorem dX11_copy_50 : decode cX11_copy 50 = .ok (.aload_n 0, 1) := by decide +kernel
theorem dX11_copy_51 : decode cX11_copy 51 = .ok (.getfield 45, 3) := by decide +kernel
theorem dX11_copy_54 : decode cX11_copy 54 = .ok (.iload_n 2, 1) := by decide +kernel
theorem dX11_copy_55 : decode cX11_copy 55 = .ok (.iaload, 1) := by decide +kernel
theorem dX11_copy_56 : decode cX11_copy 56 = .ok (.iconst 1, 1) := by decide +kernel
theorem dX11_copy_57 : decode cX11_copy 57 = .ok (.if_icmp .ne 25, 3) := by decide +kernel
theorem dX11_copy_60 : decode cX11_copy 60 = .ok (.aload_n 0, 1) := by decide +kernel
theorem dX11_copy_61 : decode cX11_copy 61 = .ok (.getfield 48, 3) := by decide +kernel
theorem dX11_copy_64 : decode cX11_copy 64 = .ok (.iload_n 1, 1) := by decide +kernel
theorem dX11_copy_65 : decode cX11_copy 65 = .ok (.iaload, 1) := by decide +kernel
theorem dX11_copy_66 : decode cX11_copy 66 = .ok (.aload_n 0, 1) := by decide +kernel
theorem dX11_copy_67 : decode cX11_copy 67 = .ok (.getfield 48, 3) := by decide +kernel
theorem dX11_copy_70 : decode cX11_copy 70 = .ok (.iload_n 2, 1) := by decide +kernel
theorem dX11_copy_71 : decode cX11_copy 71 = .ok (.iaload, 1) := by decide +kernel
theorem dX11_copy_72 : decode cX11_copy 72 = .ok (.if_icmp .eq 10, 3) := by decide +kernel
theorem dX11_copy_75 : decode cX11_copy 75 = .ok (.aload_n 0, 1) := by decide +kernel
theorem dX11_copy_76 : decode cX11_copy 76 = .ok (.bipush (-2), 2) := by decide +kernel
theorem dX11_copy_78 : decode cX11_copy 78 = .ok (.invokevirtual 212, 3) := by decide +kernel
theorem dX11_copy_81 : decode cX11_copy 81 = .ok (.ireturn, 1) := by decide +kernel
theorem dX11_copy_82 : decode cX11_copy 82 = .ok (.aload_n 0, 1) := by decide +kernel
theorem dX11_copy_83 : decode cX11_copy 83 = .ok (.getfield 45, 3) := by decide +kernel
theorem dX11_copy_86 : decode cX11_copy 86 = .ok (.iload_n 1, 1) := by decide +kernel
theorem dX11_copy_87 : decode cX11_copy 87 = .ok (.iaload, 1) := by decide +kernel
theorem dX11_copy_88 : decode cX11_copy 88 = .ok (.ifCond .eq 12, 3) := by decide +kernel
theorem dX11_copy_91 : decode cX11_copy 91 = .ok (.aload_n 0, 1) := by decide +kernel
theorem dX11_copy_92 : decode cX11_copy 92 = .ok (.getfield 45, 3) := by decide +kernel
theorem dX11_copy_95 : decode cX11_copy 95 = .ok (.iload_n 2, 1) := by decide +kernel
theorem dX11_copy_96 : decode cX11_copy 96 = .ok (.iaload, 1) := by decide +kernel
theorem dX11_copy_97 : decode cX11_copy 97 = .ok (.ifCond .ne 10, 3) := by decide +kernel
theorem dX11_copy_100 : decode cX11_copy 100 = .ok (.aload_n 0, 1) := by decide +kernel
theorem dX11_copy_101 : decode cX11_copy 101 = .ok (.bipush (-3), 2) := by decide +kernel
theorem dX11_copy_103 : decode cX11_copy 103 = .ok (.invokevirtual 212, 3) := by decide +kernel
theorem dX11_copy_106 : decode cX11_copy 106 = .ok (.ireturn, 1) := by decide +kernel
theorem dX11_copy_107 : decode cX11_copy 107 = .ok (.iload 5, 2) := by decide +kernel
theorem dX11_copy_109 : decode cX11_copy 109 = .ok (.ifCond .ge 10, 3) := by decide +kernel
theorem dX11_copy_112 : decode cX11_copy 112 = .ok (.aload_n 0, 1) := by decide +kernel
theorem dX11_copy_113 : decode cX11_copy 113 = .ok (.bipush (-4), 2) := by decide +kernel
theorem dX11_copy_115 : decode cX11_copy 115 = .ok (.invokevirtual 212, 3) := by decide +kernel
theorem dX11_copy_118 : decode cX11_copy 118 = .ok (.ireturn, 1) := by decide +kernel
theorem dX11_copy_119 : decode cX11_copy 119 = .ok (.iload_n 3, 1) := by decide +kernel
theorem dX11_copy_120 : decode cX11_copy 120 = .ok (.ifCond .lt 35, 3) := by decide +kernel
theorem dX11_copy_123 : decode cX11_copy 123 = .ok (.iload 4, 2) := by decide +kernel
theorem dX11_copy_125 : decode cX11_copy 125 = .ok (.ifCond .lt 30, 3) := by decide +kernel
theorem dX11_copy_128 : decode cX11_copy 128 = .ok (.iload_n 3, 1) := by decide +kernel
theorem dX11_copy_129 : decode cX11_copy 129 = .ok (.aload_n 0, 1) := by decide +kernel
theorem dX11_copy_130 : decode cX11_copy 130 = .ok (.getfield 51, 3) := by decide +kernel
theorem dX11_copy_133 : decode cX11_copy 133 = .ok (.iload_n 1, 1) := by decide +kernel
theorem dX11_copy_134 : decode cX11_copy 134 = .ok (.iaload, 1) := by decide +kernel
theorem dX11_copy_135 : decode cX11_copy 135 = .ok (.iload 5, 2) := by decide +kernel
theorem dX11_copy_137 : decode cX11_copy 137 = .ok (.isub, 1) := by decide +kernel
theorem dX11_copy_138 : decode cX11_copy 138 = .ok (.if_icmp .gt 17, 3) := by decide +kernel
theorem dX11_copy_141 : decode cX11_copy 141 = .ok (.iload 4, 2) := by decide +kernel
theorem dX11_copy_143 : decode cX11_copy 143 = .ok (.aload_n 0, 1) := by decide +kernel
theorem dX11_copy_144 : decode cX11_copy 144 = .ok (.getfield 51, 3) := by decide +kernel
theorem dX11_copy_147 : decode cX11_copy 147 = .ok (.iload_n 2, 1) := by decide +kernel
theorem dX11_copy_148 : decode cX11_copy 148 = .ok (.iaload, 1) := by decide +kernel
theorem dX11_copy_149 : decode cX11_copy 149 = .ok (.iload 5, 2) := by decide +kernel
theorem dX11_copy_151 : decode cX11_copy 151 = .ok (.isub, 1) := by decide +kernel
theorem dX11_copy_152 : decode cX11_copy 152 = .ok (.if_icmp .le 10, 3) := by decide +kernel
theorem dX11_copy_155 : decode cX11_copy 155 = .ok (.aload_n 0, 1) := by decide +kernel
theorem dX11_copy_156 : decode cX11_copy 156 = .ok (.bipush (-5), 2) := by decide +kernel
theorem dX11_copy_158 : decode cX11_copy 158 = .ok (.invokevirtual 212, 3) := by decide +kernel
theorem dX11_copy_161 : decode cX11_copy 161 = .ok (.ireturn, 1) := by decide +kernel
theorem dX11_copy_162 : decode cX11_copy 162 = .ok (.iconst 0, 1) := by decide +kernel
theorem dX11_copy_163 : decode cX11_copy 163 = .ok (.istore 6, 2) := by decide +kernel
theorem dX11_copy_165 : decode cX11_copy 165 = .ok (.iload 6, 2) := by decide +kernel
theorem dX11_copy_167 : decode cX11_copy 167 = .ok (.iload 5, 2) := by decide +kernel
theorem dX11_copy_169 : decode cX11_copy 169 = .ok (.if_icmp .ge 30, 3) := by decide +kernel
theorem dX11_copy_172 : decode cX11_copy 172 = .ok (.aload_n 0, 1) := by decide +kernel
theorem dX11_copy_173 : decode cX11_copy 173 = .ok (.getfield 61, 3) := by decide +kernel
theorem dX11_copy_176 : decode cX11_copy 176 = .ok (.iload 6, 2) := by decide +kernel
theorem dX11_copy_178 : decode cX11_copy 178 = .ok (.aload_n 0, 1) := by decide +kernel
theorem dX11_copy_179 : decode cX11_copy 179 = .ok (.getfield 57, 3) := by decide +kernel
theorem dX11_copy_182 : decode cX11_copy 182 = .ok (.bipush 60, 2) := by decide +kernel
theorem dX11_copy_184 : decode cX11_copy 184 = .ok (.iload_n 1, 1) := by decide +kernel
theorem dX11_copy_185 : decode cX11_copy 185 = .ok (.imul, 1) := by decide +kernel
theorem dX11_copy_186 : decode cX11_copy 186 = .ok (.iload_n 3, 1) := by decide +kernel
theorem dX11_copy_187 : decode cX11_copy 187 = .ok (.iadd, 1) := by decide +kernel
theorem dX11_copy_188 : decode cX11_copy 188 = .ok (.iload 6, 2) := by decide +kernel
theorem dX11_copy_190 : decode cX11_copy 190 = .ok (.iadd, 1) := by decide +kernel
theorem dX11_copy_191 : decode cX11_copy 191 = .ok (.laload, 1) := by decide +kernel
theorem dX11_copy_192 : decode cX11_copy 192 = .ok (.lastore, 1) := by decide +kernel
theorem dX11_copy_193 : decode cX11_copy 193 = .ok (.iinc 6 1, 3) := by decide +kernel
theorem dX11_copy_196 : decode cX11_copy 196 = .ok (.goto (-31), 3) := by decide +kernel
theorem dX11_copy_199 : decode cX11_copy 199 = .ok (.iconst 0, 1) := by decide +kernel
theorem dX11_copy_200 : decode cX11_copy 200 = .ok (.istore 6, 2) := by decide +kernel
theorem dX11_copy_202 : decode cX11_copy 202 = .ok (.iload 6, 2) := by decide +kernel
theorem dX11_copy_204 : decode cX11_copy 204 = .ok (.iload 5, 2) := by decide +kernel
theorem dX11_copy_206 : decode cX11_copy 206 = .ok (.if_icmp .ge 31, 3) := by decide +kernel
theorem dX11_copy_209 : decode cX11_copy 209 = .ok (.aload_n 0, 1) := by decide +kernel
theorem dX11_copy_210 : decode cX11_copy 210 = .ok (.getfield 57, 3) := by decide +kernel
theorem dX11_copy_213 : decode cX11_copy 213 = .ok (.bipush 60, 2) := by decide +kernel
theorem dX11_copy_215 : decode cX11_copy 215 = .ok (.iload_n 2, 1) := by decide +kernel
theorem dX11_copy_216 : decode cX11_copy 216 = .ok (.imul, 1) := by decide +kernel
theorem dX11_copy_217 : decode cX11_copy 217 = .ok (.iload 4, 2) := by decide +kernel
theorem dX11_copy_219 : decode cX11_copy 219 = .ok (.iadd, 1) := by decide +kernel
theorem dX11_copy_220 : decode cX11_copy 220 = .ok (.iload 6, 2) := by decide +kernel
theorem dX11_copy_222 : decode cX11_copy 222 = .ok (.iadd, 1) := by decide +kernel
theorem dX11_copy_223 : decode cX11_copy 223 = .ok (.aload_n 0, 1) := by decide +kernel
theorem dX11_copy_224 : decode cX11_copy 224 = .ok (.getfield 61, 3) := by decide +kernel
theorem dX11_copy_227 : decode cX11_copy 227 = .ok (.iload 6, 2) := by decide +kernel
theorem dX11_copy_229 : decode cX11_copy 229 = .ok (.laload, 1) := by decide +kernel
theorem dX11_copy_230 : decode cX11_copy 230 = .ok (.lastore, 1) := by decide +kernel
theorem dX11_copy_231 : decode cX11_copy 231 = .ok (.iinc 6 1, 3) := by decide +kernel
theorem dX11_copy_234 : decode cX11_copy 234 = .ok (.goto (-32), 3) := by decide +kernel
theorem dX11_copy_237 : decode cX11_copy 237 = .ok (.iconst 1, 1) := by decide +kernel
theorem dX11_copy_238 : decode cX11_copy 238 = .ok (.ireturn, 1) := by decide +kernel
theorem dX11_element_0 : decode cX11_element 0 = .ok (.iload_n 1, 1) := by decide +kernel
theorem dX11_element_1 : decode cX11_element 1 = .ok (.invokestatic 237, 3) := by decide +kernel
theorem dX11_element_4 : decode cX11_element 4 = .ok (.ifCond .eq 41, 3) := by decide +kernel
theorem dX11_element_7 : decode cX11_element 7 = .ok (.aload_n 0, 1) := by decide +kernel
theorem dX11_element_8 : decode cX11_element 8 = .ok (.getfield 45, 3) := by decide +kernel
theorem dX11_element_11 : decode cX11_element 11 = .ok (.iload_n 1, 1) := by decide +kernel
theorem dX11_element_12 : decode cX11_element 12 = .ok (.iaload, 1) := by decide +kernel
theorem dX11_element_13 : decode cX11_element 13 = .ok (.iconst 1, 1) := by decide +kernel
theorem dX11_element_14 : decode cX11_element 14 = .ok (.if_icmp .ne 31, 3) := by decide +kernel
theorem dX11_element_17 : decode cX11_element 17 = .ok (.iload_n 2, 1) := by decide +kernel
theorem dX11_element_18 : decode cX11_element 18 = .ok (.ifCond .lt 27, 3) := by decide +kernel
theorem dX11_element_21 : decode cX11_element 21 = .ok (.iload_n 2, 1) := by decide +kernel
theorem dX11_element_22 : decode cX11_element 22 = .ok (.aload_n 0, 1) := by decide +kernel
theorem dX11_element_23 : decode cX11_element 23 = .ok (.getfield 51, 3) := by decide +kernel
theorem dX11_element_26 : decode cX11_element 26 = .ok (.iload_n 1, 1) := by decide +kernel
theorem dX11_element_27 : decode cX11_element 27 = .ok (.iaload, 1) := by decide +kernel
theorem dX11_element_28 : decode cX11_element 28 = .ok (.if_icmp .ge 17, 3) := by decide +kernel
theorem dX11_element_31 : decode cX11_element 31 = .ok (.aload_n 0, 1) := by decide +kernel
theorem dX11_element_32 : decode cX11_element 32 = .ok (.getfield 57, 3) := by decide +kernel
theorem dX11_element_35 : decode cX11_element 35 = .ok (.bipush 60, 2) := by decide +kernel
theorem dX11_element_37 : decode cX11_element 37 = .ok (.iload_n 1, 1) := by decide +kernel
theorem dX11_element_38 : decode cX11_element 38 = .ok (.imul, 1) := by decide +kernel
theorem dX11_element_39 : decode cX11_element 39 = .ok (.iload_n 2, 1) := by decide +kernel
theorem dX11_element_40 : decode cX11_element 40 = .ok (.iadd, 1) := by decide +kernel
theorem dX11_element_41 : decode cX11_element 41 = .ok (.laload, 1) := by decide +kernel
theorem dX11_element_42 : decode cX11_element 42 = .ok (.goto 4, 3) := by decide +kernel
theorem dX11_element_45 : decode cX11_element 45 = .ok (.lconst 0, 1) := by decide +kernel
theorem dX11_element_46 : decode cX11_element 46 = .ok (.lreturn, 1) := by decide +kernel
theorem dX11_show_0 : decode cX11_show 0 = .ok (.iload_n 1, 1) := by decide +kernel
theorem dX11_show_1 : decode cX11_show 1 = .ok (.invokestatic 237, 3) := by decide +kernel
theorem dX11_show_4 : decode cX11_show 4 = .ok (.ifCond .eq 16, 3) := by decide +kernel
theorem dX11_show_7 : decode cX11_show 7 = .ok (.iload_n 2, 1) := by decide +kernel
theorem dX11_show_8 : decode cX11_show 8 = .ok (.iconst (-1), 1) := by decide +kernel
theorem dX11_show_9 : decode cX11_show 9 = .ok (.if_icmp .eq 17, 3) := by decide +kernel
theorem dX11_show_12 : decode cX11_show 12 = .ok (.aload_n 0, 1) := by decide +kernel
theorem dX11_show_13 : decode cX11_show 13 = .ok (.iload_n 2, 1) := by decide +kernel
theorem dX11_show_14 : decode cX11_show 14 = .ok (.invokevirtual 240, 3) := by decide +kernel
theorem dX11_show_17 : decode cX11_show 17 = .ok (.ifCond .ne 9, 3) := by decide +kernel
theorem dX11_show_20 : decode cX11_show 20 = .ok (.aload_n 0, 1) := by decide +kernel
theorem dX11_show_21 : decode cX11_show 21 = .ok (.iconst (-1), 1) := by decide +kernel
theorem dX11_show_22 : decode cX11_show 22 = .ok (.invokevirtual 212, 3) := by decide +kernel
theorem dX11_show_25 : decode cX11_show 25 = .ok (.ireturn, 1) := by decide +kernel
theorem dX11_show_26 : decode cX11_show 26 = .ok (.aload_n 0, 1) := by decide +kernel
theorem dX11_show_27 : decode cX11_show 27 = .ok (.getfield 45, 3) := by decide +kernel
