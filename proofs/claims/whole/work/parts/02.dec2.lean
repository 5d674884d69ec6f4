theorem dX11_show_30 : decode cX11_show 30 = .ok (.iload_n 1, 1) := by decide +kernel
theorem dX11_show_31 : decode cX11_show 31 = .ok (.iload_n 2, 1) := by decide +kernel
theorem dX11_show_32 : decode cX11_show 32 = .ok (.iconst (-1), 1) := by decide +kernel
theorem dX11_show_33 : decode cX11_show 33 = .ok (.if_icmp .ne 7, 3) := by decide +kernel
theorem dX11_show_36 : decode cX11_show 36 = .ok (.iconst 0, 1) := by decide +kernel
theorem dX11_show_37 : decode cX11_show 37 = .ok (.goto 4, 3) := by decide +kernel
theorem dX11_show_40 : decode cX11_show 40 = .ok (.iconst 2, 1) := by decide +kernel
theorem dX11_show_41 : decode cX11_show 41 = .ok (.iastore, 1) := by decide +kernel
theorem dX11_show_42 : decode cX11_show 42 = .ok (.aload_n 0, 1) := by decide +kernel
theorem dX11_show_43 : decode cX11_show 43 = .ok (.getfield 54, 3) := by decide +kernel
theorem dX11_show_46 : decode cX11_show 46 = .ok (.iload_n 1, 1) := by decide +kernel
theorem dX11_show_47 : decode cX11_show 47 = .ok (.iload_n 2, 1) := by decide +kernel
theorem dX11_show_48 : decode cX11_show 48 = .ok (.iastore, 1) := by decide +kernel
theorem dX11_show_49 : decode cX11_show 49 = .ok (.iload_n 2, 1) := by decide +kernel
theorem dX11_show_50 : decode cX11_show 50 = .ok (.iconst (-1), 1) := by decide +kernel
theorem dX11_show_51 : decode cX11_show 51 = .ok (.if_icmp .ne 7, 3) := by decide +kernel
theorem dX11_show_54 : decode cX11_show 54 = .ok (.iconst 0, 1) := by decide +kernel
theorem dX11_show_55 : decode cX11_show 55 = .ok (.goto 4, 3) := by decide +kernel
theorem dX11_show_58 : decode cX11_show 58 = .ok (.iconst 1, 1) := by decide +kernel
theorem dX11_show_59 : decode cX11_show 59 = .ok (.ireturn, 1) := by decide +kernel
theorem dX11_holds_0 : decode cX11_holds 0 = .ok (.iload_n 1, 1) := by decide +kernel
theorem dX11_holds_1 : decode cX11_holds 1 = .ok (.invokestatic 237, 3) := by decide +kernel
theorem dX11_holds_4 : decode cX11_holds 4 = .ok (.ifCond .eq 12, 3) := by decide +kernel
theorem dX11_holds_7 : decode cX11_holds 7 = .ok (.aload_n 0, 1) := by decide +kernel
theorem dX11_holds_8 : decode cX11_holds 8 = .ok (.getfield 45, 3) := by decide +kernel
theorem dX11_holds_11 : decode cX11_holds 11 = .ok (.iload_n 1, 1) := by decide +kernel
theorem dX11_holds_12 : decode cX11_holds 12 = .ok (.iaload, 1) := by decide +kernel
theorem dX11_holds_13 : decode cX11_holds 13 = .ok (.ifCond .ne 5, 3) := by decide +kernel
theorem dX11_holds_16 : decode cX11_holds 16 = .ok (.iconst (-1), 1) := by decide +kernel
theorem dX11_holds_17 : decode cX11_holds 17 = .ok (.ireturn, 1) := by decide +kernel
theorem dX11_holds_18 : decode cX11_holds 18 = .ok (.aload_n 0, 1) := by decide +kernel
theorem dX11_holds_19 : decode cX11_holds 19 = .ok (.getfield 45, 3) := by decide +kernel
theorem dX11_holds_22 : decode cX11_holds 22 = .ok (.iload_n 1, 1) := by decide +kernel
theorem dX11_holds_23 : decode cX11_holds 23 = .ok (.iaload, 1) := by decide +kernel
theorem dX11_holds_24 : decode cX11_holds 24 = .ok (.iconst 1, 1) := by decide +kernel
theorem dX11_holds_25 : decode cX11_holds 25 = .ok (.if_icmp .ne 16, 3) := by decide +kernel
theorem dX11_holds_28 : decode cX11_holds 28 = .ok (.sipush 1000, 3) := by decide +kernel
theorem dX11_holds_31 : decode cX11_holds 31 = .ok (.aload_n 0, 1) := by decide +kernel
theorem dX11_holds_32 : decode cX11_holds 32 = .ok (.getfield 48, 3) := by decide +kernel
theorem dX11_holds_35 : decode cX11_holds 35 = .ok (.iload_n 1, 1) := by decide +kernel
theorem dX11_holds_36 : decode cX11_holds 36 = .ok (.iaload, 1) := by decide +kernel
theorem dX11_holds_37 : decode cX11_holds 37 = .ok (.iadd, 1) := by decide +kernel
theorem dX11_holds_38 : decode cX11_holds 38 = .ok (.goto 9, 3) := by decide +kernel
theorem dX11_holds_41 : decode cX11_holds 41 = .ok (.aload_n 0, 1) := by decide +kernel
theorem dX11_holds_42 : decode cX11_holds 42 = .ok (.getfield 54, 3) := by decide +kernel
theorem dX11_holds_45 : decode cX11_holds 45 = .ok (.iload_n 1, 1) := by decide +kernel
theorem dX11_holds_46 : decode cX11_holds 46 = .ok (.iaload, 1) := by decide +kernel
theorem dX11_holds_47 : decode cX11_holds 47 = .ok (.ireturn, 1) := by decide +kernel
theorem dX11_wants_0 : decode cX11_wants 0 = .ok (.iload_n 1, 1) := by decide +kernel
theorem dX11_wants_1 : decode cX11_wants 1 = .ok (.invokestatic 237, 3) := by decide +kernel
theorem dX11_wants_4 : decode cX11_wants 4 = .ok (.ifCond .ne 7, 3) := by decide +kernel
theorem dX11_wants_7 : decode cX11_wants 7 = .ok (.iconst (-1), 1) := by decide +kernel
theorem dX11_wants_8 : decode cX11_wants 8 = .ok (.goto 33, 3) := by decide +kernel
theorem dX11_wants_11 : decode cX11_wants 11 = .ok (.aload_n 0, 1) := by decide +kernel
theorem dX11_wants_12 : decode cX11_wants 12 = .ok (.getfield 45, 3) := by decide +kernel
theorem dX11_wants_15 : decode cX11_wants 15 = .ok (.iload_n 1, 1) := by decide +kernel
theorem dX11_wants_16 : decode cX11_wants 16 = .ok (.iaload, 1) := by decide +kernel
theorem dX11_wants_17 : decode cX11_wants 17 = .ok (.iconst 2, 1) := by decide +kernel
theorem dX11_wants_18 : decode cX11_wants 18 = .ok (.if_icmp .ne 8, 3) := by decide +kernel
theorem dX11_wants_21 : decode cX11_wants 21 = .ok (.bipush (-2), 2) := by decide +kernel
theorem dX11_wants_23 : decode cX11_wants 23 = .ok (.goto 18, 3) := by decide +kernel
theorem dX11_wants_26 : decode cX11_wants 26 = .ok (.aload_n 0, 1) := by decide +kernel
theorem dX11_wants_27 : decode cX11_wants 27 = .ok (.getfield 45, 3) := by decide +kernel
theorem dX11_wants_30 : decode cX11_wants 30 = .ok (.iload_n 1, 1) := by decide +kernel
theorem dX11_wants_31 : decode cX11_wants 31 = .ok (.iaload, 1) := by decide +kernel
theorem dX11_wants_32 : decode cX11_wants 32 = .ok (.ifCond .ne 8, 3) := by decide +kernel
theorem dX11_wants_35 : decode cX11_wants 35 = .ok (.bipush (-3), 2) := by decide +kernel
theorem dX11_wants_37 : decode cX11_wants 37 = .ok (.goto 4, 3) := by decide +kernel
theorem dX11_wants_40 : decode cX11_wants 40 = .ok (.iconst 0, 1) := by decide +kernel
theorem dX11_wants_41 : decode cX11_wants 41 = .ok (.ireturn, 1) := by decide +kernel
theorem dX11_partsOf_0 : decode cX11_partsOf 0 = .ok (.iconst 0, 1) := by decide +kernel
theorem dX11_partsOf_1 : decode cX11_partsOf 1 = .ok (.istore_n 2, 1) := by decide +kernel
theorem dX11_partsOf_2 : decode cX11_partsOf 2 = .ok (.iconst 0, 1) := by decide +kernel
theorem dX11_partsOf_3 : decode cX11_partsOf 3 = .ok (.istore_n 3, 1) := by decide +kernel
theorem dX11_partsOf_4 : decode cX11_partsOf 4 = .ok (.iload_n 3, 1) := by decide +kernel
theorem dX11_partsOf_5 : decode cX11_partsOf 5 = .ok (.aload_n 0, 1) := by decide +kernel
theorem dX11_partsOf_6 : decode cX11_partsOf 6 = .ok (.getfield 205, 3) := by decide +kernel
theorem dX11_partsOf_9 : decode cX11_partsOf 9 = .ok (.if_icmp .ge 22, 3) := by decide +kernel
theorem dX11_partsOf_12 : decode cX11_partsOf 12 = .ok (.aload_n 0, 1) := by decide +kernel
theorem dX11_partsOf_13 : decode cX11_partsOf 13 = .ok (.getfield 85, 3) := by decide +kernel
theorem dX11_partsOf_16 : decode cX11_partsOf 16 = .ok (.iload_n 3, 1) := by decide +kernel
theorem dX11_partsOf_17 : decode cX11_partsOf 17 = .ok (.iaload, 1) := by decide +kernel
theorem dX11_partsOf_18 : decode cX11_partsOf 18 = .ok (.iload_n 1, 1) := by decide +kernel
theorem dX11_partsOf_19 : decode cX11_partsOf 19 = .ok (.if_icmp .ne 6, 3) := by decide +kernel
theorem dX11_partsOf_22 : decode cX11_partsOf 22 = .ok (.iinc 2 1, 3) := by decide +kernel
theorem dX11_partsOf_25 : decode cX11_partsOf 25 = .ok (.iinc 3 1, 3) := by decide +kernel
theorem dX11_partsOf_28 : decode cX11_partsOf 28 = .ok (.goto (-24), 3) := by decide +kernel
theorem dX11_partsOf_31 : decode cX11_partsOf 31 = .ok (.iload_n 2, 1) := by decide +kernel
theorem dX11_partsOf_32 : decode cX11_partsOf 32 = .ok (.ireturn, 1) := by decide +kernel
theorem dX11_says_0 : decode cX11_says 0 = .ok (.iload_n 1, 1) := by decide +kernel
theorem dX11_says_1 : decode cX11_says 1 = .ok (.invokestatic 237, 3) := by decide +kernel
theorem dX11_says_4 : decode cX11_says 4 = .ok (.ifCond .eq 12, 3) := by decide +kernel
theorem dX11_says_7 : decode cX11_says 7 = .ok (.iload_n 2, 1) := by decide +kernel
theorem dX11_says_8 : decode cX11_says 8 = .ok (.ifCond .lt 8, 3) := by decide +kernel
theorem dX11_says_11 : decode cX11_says 11 = .ok (.iload_n 2, 1) := by decide +kernel
theorem dX11_says_12 : decode cX11_says 12 = .ok (.iconst 3, 1) := by decide +kernel
theorem dX11_says_13 : decode cX11_says 13 = .ok (.if_icmp .le 9, 3) := by decide +kernel
theorem dX11_says_16 : decode cX11_says 16 = .ok (.aload_n 0, 1) := by decide +kernel
theorem dX11_says_17 : decode cX11_says 17 = .ok (.iconst (-1), 1) := by decide +kernel
theorem dX11_says_18 : decode cX11_says 18 = .ok (.invokevirtual 212, 3) := by decide +kernel
theorem dX11_says_21 : decode cX11_says 21 = .ok (.ireturn, 1) := by decide +kernel
theorem dX11_says_22 : decode cX11_says 22 = .ok (.aload_n 0, 1) := by decide +kernel
theorem dX11_says_23 : decode cX11_says 23 = .ok (.getfield 45, 3) := by decide +kernel
theorem dX11_says_26 : decode cX11_says 26 = .ok (.iload_n 1, 1) := by decide +kernel
theorem dX11_says_27 : decode cX11_says 27 = .ok (.iaload, 1) := by decide +kernel
theorem dX11_says_28 : decode cX11_says 28 = .ok (.iconst 1, 1) := by decide +kernel
theorem dX11_says_29 : decode cX11_says 29 = .ok (.if_icmp .ne 10, 3) := by decide +kernel
theorem dX11_says_32 : decode cX11_says 32 = .ok (.aload_n 0, 1) := by decide +kernel
theorem dX11_says_33 : decode cX11_says 33 = .ok (.bipush (-2), 2) := by decide +kernel
theorem dX11_says_35 : decode cX11_says 35 = .ok (.invokevirtual 212, 3) := by decide +kernel
theorem dX11_says_38 : decode cX11_says 38 = .ok (.ireturn, 1) := by decide +kernel
theorem dX11_says_39 : decode cX11_says 39 = .ok (.aload_n 0, 1) := by decide +kernel
theorem dX11_says_40 : decode cX11_says 40 = .ok (.getfield 45, 3) := by decide +kernel
theorem dX11_says_43 : decode cX11_says 43 = .ok (.iload_n 1, 1) := by decide +kernel
theorem dX11_says_44 : decode cX11_says 44 = .ok (.iaload, 1) := by decide +kernel
theorem dX11_says_45 : decode cX11_says 45 = .ok (.ifCond .ne 10, 3) := by decide +kernel
theorem dX11_says_48 : decode cX11_says 48 = .ok (.aload_n 0, 1) := by decide +kernel
theorem dX11_says_49 : decode cX11_says 49 = .ok (.bipush (-3), 2) := by decide +kernel
theorem dX11_says_51 : decode cX11_says 51 = .ok (.invokevirtual 212, 3) := by decide +kernel
theorem dX11_says_54 : decode cX11_says 54 = .ok (.ireturn, 1) := by decide +kernel
theorem dX11_says_55 : decode cX11_says 55 = .ok (.aload_n 0, 1) := by decide +kernel
theorem dX11_says_56 : decode cX11_says 56 = .ok (.getfield 54, 3) := by decide +kernel
theorem dX11_says_59 : decode cX11_says 59 = .ok (.iload_n 1, 1) := by decide +kernel
theorem dX11_says_60 : decode cX11_says 60 = .ok (.iaload, 1) := by decide +kernel
theorem dX11_says_61 : decode cX11_says 61 = .ok (.istore_n 3, 1) := by decide +kernel
theorem dX11_says_62 : decode cX11_says 62 = .ok (.iload_n 2, 1) := by decide +kernel
theorem dX11_says_63 : decode cX11_says 63 = .ok (.ifCond .eq 35, 3) := by decide +kernel
theorem dX11_says_66 : decode cX11_says 66 = .ok (.aload_n 0, 1) := by decide +kernel
theorem dX11_says_67 : decode cX11_says 67 = .ok (.getfield 79, 3) := by decide +kernel
theorem dX11_says_70 : decode cX11_says 70 = .ok (.iload_n 3, 1) := by decide +kernel
theorem dX11_says_71 : decode cX11_says 71 = .ok (.iaload, 1) := by decide +kernel
theorem dX11_says_72 : decode cX11_says 72 = .ok (.iload_n 2, 1) := by decide +kernel
theorem dX11_says_73 : decode cX11_says 73 = .ok (.if_icmp .eq 25, 3) := by decide +kernel
theorem dX11_says_76 : decode cX11_says 76 = .ok (.iload_n 2, 1) := by decide +kernel
theorem dX11_says_77 : decode cX11_says 77 = .ok (.iconst 2, 1) := by decide +kernel
theorem dX11_says_78 : decode cX11_says 78 = .ok (.if_icmp .ne 13, 3) := by decide +kernel
theorem dX11_says_81 : decode cX11_says 81 = .ok (.aload_n 0, 1) := by decide +kernel
theorem dX11_says_82 : decode cX11_says 82 = .ok (.getfield 79, 3) := by decide +kernel
theorem dX11_says_85 : decode cX11_says 85 = .ok (.iload_n 3, 1) := by decide +kernel
theorem dX11_says_86 : decode cX11_says 86 = .ok (.iaload, 1) := by decide +kernel
theorem dX11_says_87 : decode cX11_says 87 = .ok (.iconst 3, 1) := by decide +kernel
theorem dX11_says_88 : decode cX11_says 88 = .ok (.if_icmp .eq 10, 3) := by decide +kernel
theorem dX11_says_91 : decode cX11_says 91 = .ok (.aload_n 0, 1) := by decide +kernel
theorem dX11_says_92 : decode cX11_says 92 = .ok (.bipush (-2), 2) := by decide +kernel
theorem dX11_says_94 : decode cX11_says 94 = .ok (.invokevirtual 212, 3) := by decide +kernel
theorem dX11_says_97 : decode cX11_says 97 = .ok (.ireturn, 1) := by decide +kernel
theorem dX11_says_98 : decode cX11_says 98 = .ok (.iload_n 2, 1) := by decide +kernel
theorem dX11_says_99 : decode cX11_says 99 = .ok (.ifCond .ne 12, 3) := by decide +kernel
theorem dX11_says_102 : decode cX11_says 102 = .ok (.aload_n 0, 1) := by decide +kernel
theorem dX11_says_103 : decode cX11_says 103 = .ok (.getfield 73, 3) := by decide +kernel
theorem dX11_says_106 : decode cX11_says 106 = .ok (.iload_n 3, 1) := by decide +kernel
theorem dX11_says_107 : decode cX11_says 107 = .ok (.iaload, 1) := by decide +kernel
theorem dX11_says_108 : decode cX11_says 108 = .ok (.goto 43, 3) := by decide +kernel
theorem dX11_says_111 : decode cX11_says 111 = .ok (.iload_n 2, 1) := by decide +kernel
theorem dX11_says_112 : decode cX11_says 112 = .ok (.iconst 1, 1) := by decide +kernel
theorem dX11_says_113 : decode cX11_says 113 = .ok (.if_icmp .ne 17, 3) := by decide +kernel
theorem dX11_says_116 : decode cX11_says 116 = .ok (.aload_n 0, 1) := by decide +kernel
theorem dX11_says_117 : decode cX11_says 117 = .ok (.iload_n 3, 1) := by decide +kernel
theorem dX11_says_118 : decode cX11_says 118 = .ok (.aload_n 0, 1) := by decide +kernel
theorem dX11_says_119 : decode cX11_says 119 = .ok (.getfield 82, 3) := by decide +kernel
theorem dX11_says_122 : decode cX11_says 122 = .ok (.iload_n 3, 1) := by decide +kernel
theorem dX11_says_123 : decode cX11_says 123 = .ok (.iaload, 1) := by decide +kernel
theorem dX11_says_124 : decode cX11_says 124 = .ok (.invokevirtual 243, 3) := by decide +kernel
theorem dX11_says_127 : decode cX11_says 127 = .ok (.goto 24, 3) := by decide +kernel
theorem dX11_says_130 : decode cX11_says 130 = .ok (.iload_n 2, 1) := by decide +kernel
theorem dX11_says_131 : decode cX11_says 131 = .ok (.iconst 2, 1) := by decide +kernel
theorem dX11_says_132 : decode cX11_says 132 = .ok (.if_icmp .ne 11, 3) := by decide +kernel
theorem dX11_says_135 : decode cX11_says 135 = .ok (.aload_n 0, 1) := by decide +kernel
theorem dX11_says_136 : decode cX11_says 136 = .ok (.iload_n 3, 1) := by decide +kernel
theorem dX11_says_137 : decode cX11_says 137 = .ok (.invokevirtual 246, 3) := by decide +kernel
theorem dX11_says_140 : decode cX11_says 140 = .ok (.goto 11, 3) := by decide +kernel
theorem dX11_says_143 : decode cX11_says 143 = .ok (.bipush 100, 2) := by decide +kernel
theorem dX11_says_145 : decode cX11_says 145 = .ok (.aload_n 0, 1) := by decide +kernel
theorem dX11_says_146 : decode cX11_says 146 = .ok (.iload_n 3, 1) := by decide +kernel
theorem dX11_says_147 : decode cX11_says 147 = .ok (.invokevirtual 246, 3) := by decide +kernel
theorem dX11_says_150 : decode cX11_says 150 = .ok (.iadd, 1) := by decide +kernel
theorem dX11_says_151 : decode cX11_says 151 = .ok (.ireturn, 1) := by decide +kernel
theorem dX11_model_0 : decode cX11_model 0 = .ok (.iload_n 2, 1) := by decide +kernel
theorem dX11_model_1 : decode cX11_model 1 = .ok (.invokestatic 237, 3) := by decide +kernel
theorem dX11_model_4 : decode cX11_model 4 = .ok (.ifCond .eq 11, 3) := by decide +kernel
theorem dX11_model_7 : decode cX11_model 7 = .ok (.aload_n 0, 1) := by decide +kernel
theorem dX11_model_8 : decode cX11_model 8 = .ok (.iload_n 3, 1) := by decide +kernel
theorem dX11_model_9 : decode cX11_model 9 = .ok (.invokevirtual 208, 3) := by decide +kernel
theorem dX11_model_12 : decode cX11_model 12 = .ok (.ifCond .ne 9, 3) := by decide +kernel
theorem dX11_model_15 : decode cX11_model 15 = .ok (.aload_n 0, 1) := by decide +kernel
theorem dX11_model_16 : decode cX11_model 16 = .ok (.iconst (-1), 1) := by decide +kernel
theorem dX11_model_17 : decode cX11_model 17 = .ok (.invokevirtual 212, 3) := by decide +kernel
theorem dX11_model_20 : decode cX11_model 20 = .ok (.ireturn, 1) := by decide +kernel
theorem dX11_model_21 : decode cX11_model 21 = .ok (.aload_n 0, 1) := by decide +kernel
theorem dX11_model_22 : decode cX11_model 22 = .ok (.iload_n 2, 1) := by decide +kernel
theorem dX11_model_23 : decode cX11_model 23 = .ok (.invokevirtual 249, 3) := by decide +kernel
theorem dX11_model_26 : decode cX11_model 26 = .ok (.istore 4, 2) := by decide +kernel
theorem dX11_model_28 : decode cX11_model 28 = .ok (.iload 4, 2) := by decide +kernel
theorem dX11_model_30 : decode cX11_model 30 = .ok (.ifCond .eq 10, 3) := by decide +kernel
theorem dX11_model_33 : decode cX11_model 33 = .ok (.aload_n 0, 1) := by decide +kernel
theorem dX11_model_34 : decode cX11_model 34 = .ok (.iload 4, 2) := by decide +kernel
theorem dX11_model_36 : decode cX11_model 36 = .ok (.invokevirtual 212, 3) := by decide +kernel
theorem dX11_model_39 : decode cX11_model 39 = .ok (.ireturn, 1) := by decide +kernel
theorem dX11_model_40 : decode cX11_model 40 = .ok (.iload_n 1, 1) := by decide +kernel
theorem dX11_model_41 : decode cX11_model 41 = .ok (.ifCond .lt 20, 3) := by decide +kernel
theorem dX11_model_44 : decode cX11_model 44 = .ok (.iload_n 1, 1) := by decide +kernel
theorem dX11_model_45 : decode cX11_model 45 = .ok (.bipush 15, 2) := by decide +kernel
theorem dX11_model_47 : decode cX11_model 47 = .ok (.if_icmp .gt 14, 3) := by decide +kernel
theorem dX11_model_50 : decode cX11_model 50 = .ok (.aload_n 0, 1) := by decide +kernel
theorem dX11_model_51 : decode cX11_model 51 = .ok (.getfield 51, 3) := by decide +kernel
theorem dX11_model_54 : decode cX11_model 54 = .ok (.iload_n 2, 1) := by decide +kernel
theorem dX11_model_55 : decode cX11_model 55 = .ok (.iaload, 1) := by decide +kernel
theorem dX11_model_56 : decode cX11_model 56 = .ok (.bipush 20, 2) := by decide +kernel
theorem dX11_model_58 : decode cX11_model 58 = .ok (.if_icmp .le 10, 3) := by decide +kernel
theorem dX11_model_61 : decode cX11_model 61 = .ok (.aload_n 0, 1) := by decide +kernel
theorem dX11_model_62 : decode cX11_model 62 = .ok (.bipush (-6), 2) := by decide +kernel
theorem dX11_model_64 : decode cX11_model 64 = .ok (.invokevirtual 212, 3) := by decide +kernel
theorem dX11_model_67 : decode cX11_model 67 = .ok (.ireturn, 1) := by decide +kernel
theorem dX11_model_68 : decode cX11_model 68 = .ok (.aload_n 0, 1) := by decide +kernel
theorem dX11_model_69 : decode cX11_model 69 = .ok (.getfield 252, 3) := by decide +kernel
theorem dX11_model_72 : decode cX11_model 72 = .ok (.bipush 8, 2) := by decide +kernel
theorem dX11_model_74 : decode cX11_model 74 = .ok (.if_icmp .ne 10, 3) := by decide +kernel
theorem dX11_model_77 : decode cX11_model 77 = .ok (.aload_n 0, 1) := by decide +kernel
theorem dX11_model_78 : decode cX11_model 78 = .ok (.bipush (-7), 2) := by decide +kernel
theorem dX11_model_80 : decode cX11_model 80 = .ok (.invokevirtual 212, 3) := by decide +kernel
theorem dX11_model_83 : decode cX11_model 83 = .ok (.ireturn, 1) := by decide +kernel
theorem dX11_model_84 : decode cX11_model 84 = .ok (.aload_n 0, 1) := by decide +kernel
theorem dX11_model_85 : decode cX11_model 85 = .ok (.getfield 112, 3) := by decide +kernel
theorem dX11_model_88 : decode cX11_model 88 = .ok (.aload_n 0, 1) := by decide +kernel
theorem dX11_model_89 : decode cX11_model 89 = .ok (.getfield 252, 3) := by decide +kernel
theorem dX11_model_92 : decode cX11_model 92 = .ok (.iload_n 1, 1) := by decide +kernel
theorem dX11_model_93 : decode cX11_model 93 = .ok (.iastore, 1) := by decide +kernel
theorem dX11_model_94 : decode cX11_model 94 = .ok (.aload_n 0, 1) := by decide +kernel
theorem dX11_model_95 : decode cX11_model 95 = .ok (.getfield 115, 3) := by decide +kernel
theorem dX11_model_98 : decode cX11_model 98 = .ok (.aload_n 0, 1) := by decide +kernel
theorem dX11_model_99 : decode cX11_model 99 = .ok (.getfield 252, 3) := by decide +kernel
theorem dX11_model_102 : decode cX11_model 102 = .ok (.iload_n 3, 1) := by decide +kernel
theorem dX11_model_103 : decode cX11_model 103 = .ok (.iastore, 1) := by decide +kernel
theorem dX11_model_104 : decode cX11_model 104 = .ok (.aload_n 0, 1) := by decide +kernel
theorem dX11_model_105 : decode cX11_model 105 = .ok (.getfield 118, 3) := by decide +kernel
theorem dX11_model_108 : decode cX11_model 108 = .ok (.aload_n 0, 1) := by decide +kernel
theorem dX11_model_109 : decode cX11_model 109 = .ok (.getfield 252, 3) := by decide +kernel
theorem dX11_model_112 : decode cX11_model 112 = .ok (.aload_n 0, 1) := by decide +kernel
theorem dX11_model_113 : decode cX11_model 113 = .ok (.getfield 224, 3) := by decide +kernel
theorem dX11_model_116 : decode cX11_model 116 = .ok (.iastore, 1) := by decide +kernel
theorem dX11_model_117 : decode cX11_model 117 = .ok (.aload_n 0, 1) := by decide +kernel
theorem dX11_model_118 : decode cX11_model 118 = .ok (.getfield 121, 3) := by decide +kernel
theorem dX11_model_121 : decode cX11_model 121 = .ok (.aload_n 0, 1) := by decide +kernel
theorem dX11_model_122 : decode cX11_model 122 = .ok (.getfield 252, 3) := by decide +kernel
theorem dX11_model_125 : decode cX11_model 125 = .ok (.aload_n 0, 1) := by decide +kernel
theorem dX11_model_126 : decode cX11_model 126 = .ok (.getfield 51, 3) := by decide +kernel
theorem dX11_model_129 : decode cX11_model 129 = .ok (.iload_n 2, 1) := by decide +kernel
theorem dX11_model_130 : decode cX11_model 130 = .ok (.iaload, 1) := by decide +kernel
theorem dX11_model_131 : decode cX11_model 131 = .ok (.iastore, 1) := by decide +kernel
theorem dX11_model_132 : decode cX11_model 132 = .ok (.iconst 0, 1) := by decide +kernel
theorem dX11_model_133 : decode cX11_model 133 = .ok (.istore 5, 2) := by decide +kernel
theorem dX11_model_135 : decode cX11_model 135 = .ok (.iload 5, 2) := by decide +kernel
theorem dX11_model_137 : decode cX11_model 137 = .ok (.aload_n 0, 1) := by decide +kernel
theorem dX11_model_138 : decode cX11_model 138 = .ok (.getfield 51, 3) := by decide +kernel
theorem dX11_model_141 : decode cX11_model 141 = .ok (.iload_n 2, 1) := by decide +kernel
theorem dX11_model_142 : decode cX11_model 142 = .ok (.iaload, 1) := by decide +kernel
theorem dX11_model_143 : decode cX11_model 143 = .ok (.if_icmp .ge 36, 3) := by decide +kernel
theorem dX11_model_146 : decode cX11_model 146 = .ok (.aload_n 0, 1) := by decide +kernel
theorem dX11_model_147 : decode cX11_model 147 = .ok (.getfield 124, 3) := by decide +kernel
theorem dX11_model_150 : decode cX11_model 150 = .ok (.bipush 60, 2) := by decide +kernel
theorem dX11_model_152 : decode cX11_model 152 = .ok (.aload_n 0, 1) := by decide +kernel
theorem dX11_model_153 : decode cX11_model 153 = .ok (.getfield 252, 3) := by decide +kernel
theorem dX11_model_156 : decode cX11_model 156 = .ok (.imul, 1) := by decide +kernel
theorem dX11_model_157 : decode cX11_model 157 = .ok (.iload 5, 2) := by decide +kernel
theorem dX11_model_159 : decode cX11_model 159 = .ok (.iadd, 1) := by decide +kernel
theorem dX11_model_160 : decode cX11_model 160 = .ok (.aload_n 0, 1) := by decide +kernel
theorem dX11_model_161 : decode cX11_model 161 = .ok (.getfield 57, 3) := by decide +kernel
theorem dX11_model_164 : decode cX11_model 164 = .ok (.bipush 60, 2) := by decide +kernel
theorem dX11_model_166 : decode cX11_model 166 = .ok (.iload_n 2, 1) := by decide +kernel
theorem dX11_model_167 : decode cX11_model 167 = .ok (.imul, 1) := by decide +kernel
theorem dX11_model_168 : decode cX11_model 168 = .ok (.iload 5, 2) := by decide +kernel
theorem dX11_model_170 : decode cX11_model 170 = .ok (.iadd, 1) := by decide +kernel
theorem dX11_model_171 : decode cX11_model 171 = .ok (.laload, 1) := by decide +kernel
theorem dX11_model_172 : decode cX11_model 172 = .ok (.lastore, 1) := by decide +kernel
theorem dX11_model_173 : decode cX11_model 173 = .ok (.iinc 5 1, 3) := by decide +kernel
theorem dX11_model_176 : decode cX11_model 176 = .ok (.goto (-41), 3) := by decide +kernel
theorem dX11_model_179 : decode cX11_model 179 = .ok (.aload_n 0, 1) := by decide +kernel
theorem dX11_model_180 : decode cX11_model 180 = .ok (.dup, 1) := by decide +kernel
theorem dX11_model_181 : decode cX11_model 181 = .ok (.getfield 252, 3) := by decide +kernel
theorem dX11_model_184 : decode cX11_model 184 = .ok (.dup_x1, 1) := by decide +kernel
theorem dX11_model_185 : decode cX11_model 185 = .ok (.iconst 1, 1) := by decide +kernel
theorem dX11_model_186 : decode cX11_model 186 = .ok (.iadd, 1) := by decide +kernel
theorem dX11_model_187 : decode cX11_model 187 = .ok (.putfield 252, 3) := by decide +kernel
theorem dX11_model_190 : decode cX11_model 190 = .ok (.ireturn, 1) := by decide +kernel
theorem dX11_reached_0 : decode cX11_reached 0 = .ok (.aload_n 0, 1) := by decide +kernel
theorem dX11_reached_1 : decode cX11_reached 1 = .ok (.getfield 118, 3) := by decide +kernel
theorem dX11_reached_4 : decode cX11_reached 4 = .ok (.iload_n 1, 1) := by decide +kernel
theorem dX11_reached_5 : decode cX11_reached 5 = .ok (.iaload, 1) := by decide +kernel
theorem dX11_reached_6 : decode cX11_reached 6 = .ok (.aload_n 0, 1) := by decide +kernel
theorem dX11_reached_7 : decode cX11_reached 7 = .ok (.aload_n 0, 1) := by decide +kernel
theorem dX11_reached_8 : decode cX11_reached 8 = .ok (.getfield 115, 3) := by decide +kernel
theorem dX11_reached_11 : decode cX11_reached 11 = .ok (.iload_n 1, 1) := by decide +kernel
theorem dX11_reached_12 : decode cX11_reached 12 = .ok (.iaload, 1) := by decide +kernel
theorem dX11_reached_13 : decode cX11_reached 13 = .ok (.iload_n 2, 1) := by decide +kernel
theorem dX11_reached_14 : decode cX11_reached 14 = .ok (.invokevirtual 220, 3) := by decide +kernel
theorem dX11_reached_17 : decode cX11_reached 17 = .ok (.iadd, 1) := by decide +kernel
theorem dX11_reached_18 : decode cX11_reached 18 = .ok (.ireturn, 1) := by decide +kernel
theorem dX11_reaches_0 : decode cX11_reaches 0 = .ok (.iload_n 1, 1) := by decide +kernel
theorem dX11_reaches_1 : decode cX11_reaches 1 = .ok (.ifCond .lt 28, 3) := by decide +kernel
theorem dX11_reaches_4 : decode cX11_reaches 4 = .ok (.iload_n 1, 1) := by decide +kernel
theorem dX11_reaches_5 : decode cX11_reaches 5 = .ok (.aload_n 0, 1) := by decide +kernel
theorem dX11_reaches_6 : decode cX11_reaches 6 = .ok (.getfield 252, 3) := by decide +kernel
theorem dX11_reaches_9 : decode cX11_reaches 9 = .ok (.if_icmp .ge 20, 3) := by decide +kernel
theorem dX11_reaches_12 : decode cX11_reaches 12 = .ok (.aload_n 0, 1) := by decide +kernel
theorem dX11_reaches_13 : decode cX11_reaches 13 = .ok (.iload_n 2, 1) := by decide +kernel
theorem dX11_reaches_14 : decode cX11_reaches 14 = .ok (.invokevirtual 208, 3) := by decide +kernel
theorem dX11_reaches_17 : decode cX11_reaches 17 = .ok (.ifCond .eq 12, 3) := by decide +kernel
theorem dX11_reaches_20 : decode cX11_reaches 20 = .ok (.aload_n 0, 1) := by decide +kernel
theorem dX11_reaches_21 : decode cX11_reaches 21 = .ok (.iload_n 1, 1) := by decide +kernel
theorem dX11_reaches_22 : decode cX11_reaches 22 = .ok (.iload_n 2, 1) := by decide +kernel
theorem dX11_reaches_23 : decode cX11_reaches 23 = .ok (.invokevirtual 255, 3) := by decide +kernel
theorem dX11_reaches_26 : decode cX11_reaches 26 = .ok (.goto 4, 3) := by decide +kernel
theorem dX11_reaches_29 : decode cX11_reaches 29 = .ok (.iconst (-1), 1) := by decide +kernel
theorem dX11_reaches_30 : decode cX11_reaches 30 = .ok (.ireturn, 1) := by decide +kernel
theorem dX11_likenessOf_0 : decode cX11_likenessOf 0 = .ok (.aload_n 0, 1) := by decide +kernel
theorem dX11_likenessOf_1 : decode cX11_likenessOf 1 = .ok (.getfield 97, 3) := by decide +kernel
theorem dX11_likenessOf_4 : decode cX11_likenessOf 4 = .ok (.iload_n 1, 1) := by decide +kernel
theorem dX11_likenessOf_5 : decode cX11_likenessOf 5 = .ok (.iaload, 1) := by decide +kernel
theorem dX11_likenessOf_6 : decode cX11_likenessOf 6 = .ok (.istore_n 3, 1) := by decide +kernel
theorem dX11_likenessOf_7 : decode cX11_likenessOf 7 = .ok (.iload_n 3, 1) := by decide +kernel
theorem dX11_likenessOf_8 : decode cX11_likenessOf 8 = .ok (.ifCond .lt 200, 3) := by decide +kernel
theorem dX11_likenessOf_11 : decode cX11_likenessOf 11 = .ok (.aload_n 0, 1) := by decide +kernel
theorem dX11_likenessOf_12 : decode cX11_likenessOf 12 = .ok (.getfield 121, 3) := by decide +kernel
theorem dX11_likenessOf_15 : decode cX11_likenessOf 15 = .ok (.iload_n 2, 1) := by decide +kernel
theorem dX11_likenessOf_16 : decode cX11_likenessOf 16 = .ok (.iaload, 1) := by decide +kernel
theorem dX11_likenessOf_17 : decode cX11_likenessOf 17 = .ok (.istore 4, 2) := by decide +kernel
theorem dX11_likenessOf_19 : decode cX11_likenessOf 19 = .ok (.iload 4, 2) := by decide +kernel
theorem dX11_likenessOf_21 : decode cX11_likenessOf 21 = .ok (.ifCond .lt 181, 3) := by decide +kernel
theorem dX11_likenessOf_24 : decode cX11_likenessOf 24 = .ok (.iconst 0, 1) := by decide +kernel
theorem dX11_likenessOf_25 : decode cX11_likenessOf 25 = .ok (.istore 5, 2) := by decide +kernel
theorem dX11_likenessOf_27 : decode cX11_likenessOf 27 = .ok (.iload_n 3, 1) := by decide +kernel
theorem dX11_likenessOf_28 : decode cX11_likenessOf 28 = .ok (.aload_n 0, 1) := by decide +kernel
theorem dX11_likenessOf_29 : decode cX11_likenessOf 29 = .ok (.getfield 97, 3) := by decide +kernel
theorem dX11_likenessOf_32 : decode cX11_likenessOf 32 = .ok (.iload_n 1, 1) := by decide +kernel
theorem dX11_likenessOf_33 : decode cX11_likenessOf 33 = .ok (.iaload, 1) := by decide +kernel
theorem dX11_likenessOf_34 : decode cX11_likenessOf 34 = .ok (.if_icmp .ge 148, 3) := by decide +kernel
theorem dX11_likenessOf_37 : decode cX11_likenessOf 37 = .ok (.iload 4, 2) := by decide +kernel
theorem dX11_likenessOf_39 : decode cX11_likenessOf 39 = .ok (.aload_n 0, 1) := by decide +kernel
theorem dX11_likenessOf_40 : decode cX11_likenessOf 40 = .ok (.getfield 121, 3) := by decide +kernel
theorem dX11_likenessOf_43 : decode cX11_likenessOf 43 = .ok (.iload_n 2, 1) := by decide +kernel
theorem dX11_likenessOf_44 : decode cX11_likenessOf 44 = .ok (.iaload, 1) := by decide +kernel
theorem dX11_likenessOf_45 : decode cX11_likenessOf 45 = .ok (.if_icmp .ge 137, 3) := by decide +kernel
theorem dX11_likenessOf_48 : decode cX11_likenessOf 48 = .ok (.aload_n 0, 1) := by decide +kernel
theorem dX11_likenessOf_49 : decode cX11_likenessOf 49 = .ok (.getfield 172, 3) := by decide +kernel
theorem dX11_likenessOf_52 : decode cX11_likenessOf 52 = .ok (.bipush 21, 2) := by decide +kernel
theorem dX11_likenessOf_54 : decode cX11_likenessOf 54 = .ok (.iload_n 3, 1) := by decide +kernel
theorem dX11_likenessOf_55 : decode cX11_likenessOf 55 = .ok (.iconst 1, 1) := by decide +kernel
theorem dX11_likenessOf_56 : decode cX11_likenessOf 56 = .ok (.iadd, 1) := by decide +kernel
theorem dX11_likenessOf_57 : decode cX11_likenessOf 57 = .ok (.imul, 1) := by decide +kernel
theorem dX11_likenessOf_58 : decode cX11_likenessOf 58 = .ok (.iload 4, 2) := by decide +kernel
theorem dX11_likenessOf_60 : decode cX11_likenessOf 60 = .ok (.iadd, 1) := by decide +kernel
theorem dX11_likenessOf_61 : decode cX11_likenessOf 61 = .ok (.iaload, 1) := by decide +kernel
theorem dX11_likenessOf_62 : decode cX11_likenessOf 62 = .ok (.aload_n 0, 1) := by decide +kernel
theorem dX11_likenessOf_63 : decode cX11_likenessOf 63 = .ok (.getfield 172, 3) := by decide +kernel
theorem dX11_likenessOf_66 : decode cX11_likenessOf 66 = .ok (.bipush 21, 2) := by decide +kernel
theorem dX11_likenessOf_68 : decode cX11_likenessOf 68 = .ok (.iload_n 3, 1) := by decide +kernel
theorem dX11_likenessOf_69 : decode cX11_likenessOf 69 = .ok (.imul, 1) := by decide +kernel
theorem dX11_likenessOf_70 : decode cX11_likenessOf 70 = .ok (.iload 4, 2) := by decide +kernel
theorem dX11_likenessOf_72 : decode cX11_likenessOf 72 = .ok (.iadd, 1) := by decide +kernel
theorem dX11_likenessOf_73 : decode cX11_likenessOf 73 = .ok (.iconst 1, 1) := by decide +kernel
theorem dX11_likenessOf_74 : decode cX11_likenessOf 74 = .ok (.iadd, 1) := by decide +kernel
theorem dX11_likenessOf_75 : decode cX11_likenessOf 75 = .ok (.iaload, 1) := by decide +kernel
theorem dX11_likenessOf_76 : decode cX11_likenessOf 76 = .ok (.if_icmp .le 20, 3) := by decide +kernel
theorem dX11_likenessOf_79 : decode cX11_likenessOf 79 = .ok (.aload_n 0, 1) := by decide +kernel
theorem dX11_likenessOf_80 : decode cX11_likenessOf 80 = .ok (.getfield 172, 3) := by decide +kernel
theorem dX11_likenessOf_83 : decode cX11_likenessOf 83 = .ok (.bipush 21, 2) := by decide +kernel
theorem dX11_likenessOf_85 : decode cX11_likenessOf 85 = .ok (.iload_n 3, 1) := by decide +kernel
theorem dX11_likenessOf_86 : decode cX11_likenessOf 86 = .ok (.iconst 1, 1) := by decide +kernel
theorem dX11_likenessOf_87 : decode cX11_likenessOf 87 = .ok (.iadd, 1) := by decide +kernel
theorem dX11_likenessOf_88 : decode cX11_likenessOf 88 = .ok (.imul, 1) := by decide +kernel
theorem dX11_likenessOf_89 : decode cX11_likenessOf 89 = .ok (.iload 4, 2) := by decide +kernel
theorem dX11_likenessOf_91 : decode cX11_likenessOf 91 = .ok (.iadd, 1) := by decide +kernel
theorem dX11_likenessOf_92 : decode cX11_likenessOf 92 = .ok (.iaload, 1) := by decide +kernel
theorem dX11_likenessOf_93 : decode cX11_likenessOf 93 = .ok (.goto 17, 3) := by decide +kernel
theorem dX11_likenessOf_96 : decode cX11_likenessOf 96 = .ok (.aload_n 0, 1) := by decide +kernel
theorem dX11_likenessOf_97 : decode cX11_likenessOf 97 = .ok (.getfield 172, 3) := by decide +kernel
theorem dX11_likenessOf_100 : decode cX11_likenessOf 100 = .ok (.bipush 21, 2) := by decide +kernel
theorem dX11_likenessOf_102 : decode cX11_likenessOf 102 = .ok (.iload_n 3, 1) := by decide +kernel
theorem dX11_likenessOf_103 : decode cX11_likenessOf 103 = .ok (.imul, 1) := by decide +kernel
theorem dX11_likenessOf_104 : decode cX11_likenessOf 104 = .ok (.iload 4, 2) := by decide +kernel
theorem dX11_likenessOf_106 : decode cX11_likenessOf 106 = .ok (.iadd, 1) := by decide +kernel
theorem dX11_likenessOf_107 : decode cX11_likenessOf 107 = .ok (.iconst 1, 1) := by decide +kernel
theorem dX11_likenessOf_108 : decode cX11_likenessOf 108 = .ok (.iadd, 1) := by decide +kernel
theorem dX11_likenessOf_109 : decode cX11_likenessOf 109 = .ok (.iaload, 1) := by decide +kernel
theorem dX11_likenessOf_110 : decode cX11_likenessOf 110 = .ok (.istore 5, 2) := by decide +kernel
theorem dX11_likenessOf_112 : decode cX11_likenessOf 112 = .ok (.aload_n 0, 1) := by decide +kernel
theorem dX11_likenessOf_113 : decode cX11_likenessOf 113 = .ok (.getfield 109, 3) := by decide +kernel
theorem dX11_likenessOf_116 : decode cX11_likenessOf 116 = .ok (.bipush 20, 2) := by decide +kernel
theorem dX11_likenessOf_118 : decode cX11_likenessOf 118 = .ok (.iload_n 1, 1) := by decide +kernel
theorem dX11_likenessOf_119 : decode cX11_likenessOf 119 = .ok (.imul, 1) := by decide +kernel
theorem dX11_likenessOf_120 : decode cX11_likenessOf 120 = .ok (.iload_n 3, 1) := by decide +kernel
theorem dX11_likenessOf_121 : decode cX11_likenessOf 121 = .ok (.iadd, 1) := by decide +kernel
theorem dX11_likenessOf_122 : decode cX11_likenessOf 122 = .ok (.laload, 1) := by decide +kernel
theorem dX11_likenessOf_123 : decode cX11_likenessOf 123 = .ok (.aload_n 0, 1) := by decide +kernel
theorem dX11_likenessOf_124 : decode cX11_likenessOf 124 = .ok (.getfield 124, 3) := by decide +kernel
theorem dX11_likenessOf_127 : decode cX11_likenessOf 127 = .ok (.bipush 60, 2) := by decide +kernel
theorem dX11_likenessOf_129 : decode cX11_likenessOf 129 = .ok (.iload_n 2, 1) := by decide +kernel
theorem dX11_likenessOf_130 : decode cX11_likenessOf 130 = .ok (.imul, 1) := by decide +kernel
theorem dX11_likenessOf_131 : decode cX11_likenessOf 131 = .ok (.iload 4, 2) := by decide +kernel
theorem dX11_likenessOf_133 : decode cX11_likenessOf 133 = .ok (.iadd, 1) := by decide +kernel
theorem dX11_likenessOf_134 : decode cX11_likenessOf 134 = .ok (.laload, 1) := by decide +kernel
theorem dX11_likenessOf_135 : decode cX11_likenessOf 135 = .ok (.lcmp, 1) := by decide +kernel
theorem dX11_likenessOf_136 : decode cX11_likenessOf 136 = .ok (.ifCond .ne 46, 3) := by decide +kernel
theorem dX11_likenessOf_139 : decode cX11_likenessOf 139 = .ok (.aload_n 0, 1) := by decide +kernel
theorem dX11_likenessOf_140 : decode cX11_likenessOf 140 = .ok (.getfield 172, 3) := by decide +kernel
theorem dX11_likenessOf_143 : decode cX11_likenessOf 143 = .ok (.bipush 21, 2) := by decide +kernel
theorem dX11_likenessOf_145 : decode cX11_likenessOf 145 = .ok (.iload_n 3, 1) := by decide +kernel
theorem dX11_likenessOf_146 : decode cX11_likenessOf 146 = .ok (.iconst 1, 1) := by decide +kernel
theorem dX11_likenessOf_147 : decode cX11_likenessOf 147 = .ok (.iadd, 1) := by decide +kernel
theorem dX11_likenessOf_148 : decode cX11_likenessOf 148 = .ok (.imul, 1) := by decide +kernel
theorem dX11_likenessOf_149 : decode cX11_likenessOf 149 = .ok (.iload 4, 2) := by decide +kernel
theorem dX11_likenessOf_151 : decode cX11_likenessOf 151 = .ok (.iadd, 1) := by decide +kernel
theorem dX11_likenessOf_152 : decode cX11_likenessOf 152 = .ok (.iconst 1, 1) := by decide +kernel
theorem dX11_likenessOf_153 : decode cX11_likenessOf 153 = .ok (.iadd, 1) := by decide +kernel
theorem dX11_likenessOf_154 : decode cX11_likenessOf 154 = .ok (.iaload, 1) := by decide +kernel
theorem dX11_likenessOf_155 : decode cX11_likenessOf 155 = .ok (.iconst 1, 1) := by decide +kernel
theorem dX11_likenessOf_156 : decode cX11_likenessOf 156 = .ok (.iadd, 1) := by decide +kernel
theorem dX11_likenessOf_157 : decode cX11_likenessOf 157 = .ok (.iload 5, 2) := by decide +kernel
theorem dX11_likenessOf_159 : decode cX11_likenessOf 159 = .ok (.if_icmp .le 23, 3) := by decide +kernel
theorem dX11_likenessOf_162 : decode cX11_likenessOf 162 = .ok (.aload_n 0, 1) := by decide +kernel
theorem dX11_likenessOf_163 : decode cX11_likenessOf 163 = .ok (.getfield 172, 3) := by decide +kernel
theorem dX11_likenessOf_166 : decode cX11_likenessOf 166 = .ok (.bipush 21, 2) := by decide +kernel
theorem dX11_likenessOf_168 : decode cX11_likenessOf 168 = .ok (.iload_n 3, 1) := by decide +kernel
theorem dX11_likenessOf_169 : decode cX11_likenessOf 169 = .ok (.iconst 1, 1) := by decide +kernel
theorem dX11_likenessOf_170 : decode cX11_likenessOf 170 = .ok (.iadd, 1) := by decide +kernel
theorem dX11_likenessOf_171 : decode cX11_likenessOf 171 = .ok (.imul, 1) := by decide +kernel
theorem dX11_likenessOf_172 : decode cX11_likenessOf 172 = .ok (.iload 4, 2) := by decide +kernel
theorem dX11_likenessOf_174 : decode cX11_likenessOf 174 = .ok (.iadd, 1) := by decide +kernel
theorem dX11_likenessOf_175 : decode cX11_likenessOf 175 = .ok (.iconst 1, 1) := by decide +kernel
theorem dX11_likenessOf_176 : decode cX11_likenessOf 176 = .ok (.iadd, 1) := by decide +kernel
theorem dX11_likenessOf_177 : decode cX11_likenessOf 177 = .ok (.iaload, 1) := by decide +kernel
theorem dX11_likenessOf_178 : decode cX11_likenessOf 178 = .ok (.iconst 1, 1) := by decide +kernel
theorem dX11_likenessOf_179 : decode cX11_likenessOf 179 = .ok (.iadd, 1) := by decide +kernel
theorem dX11_likenessOf_180 : decode cX11_likenessOf 180 = .ok (.istore 5, 2) := by decide +kernel
theorem dX11_likenessOf_182 : decode cX11_likenessOf 182 = .ok (.aload_n 0, 1) := by decide +kernel
theorem dX11_likenessOf_183 : decode cX11_likenessOf 183 = .ok (.getfield 172, 3) := by decide +kernel
theorem dX11_likenessOf_186 : decode cX11_likenessOf 186 = .ok (.bipush 21, 2) := by decide +kernel
theorem dX11_likenessOf_188 : decode cX11_likenessOf 188 = .ok (.iload_n 3, 1) := by decide +kernel
theorem dX11_likenessOf_189 : decode cX11_likenessOf 189 = .ok (.imul, 1) := by decide +kernel
theorem dX11_likenessOf_190 : decode cX11_likenessOf 190 = .ok (.iload 4, 2) := by decide +kernel
theorem dX11_likenessOf_192 : decode cX11_likenessOf 192 = .ok (.iadd, 1) := by decide +kernel
theorem dX11_likenessOf_193 : decode cX11_likenessOf 193 = .ok (.iload 5, 2) := by decide +kernel
theorem dX11_likenessOf_195 : decode cX11_likenessOf 195 = .ok (.iastore, 1) := by decide +kernel
theorem dX11_likenessOf_196 : decode cX11_likenessOf 196 = .ok (.iinc 4 (-1), 3) := by decide +kernel
theorem dX11_likenessOf_199 : decode cX11_likenessOf 199 = .ok (.goto (-180), 3) := by decide +kernel
theorem dX11_likenessOf_202 : decode cX11_likenessOf 202 = .ok (.iinc 3 (-1), 3) := by decide +kernel
theorem dX11_likenessOf_205 : decode cX11_likenessOf 205 = .ok (.goto (-198), 3) := by decide +kernel
theorem dX11_likenessOf_208 : decode cX11_likenessOf 208 = .ok (.aload_n 0, 1) := by decide +kernel
theorem dX11_likenessOf_209 : decode cX11_likenessOf 209 = .ok (.getfield 172, 3) := by decide +kernel
theorem dX11_likenessOf_212 : decode cX11_likenessOf 212 = .ok (.iconst 0, 1) := by decide +kernel
theorem dX11_likenessOf_213 : decode cX11_likenessOf 213 = .ok (.iaload, 1) := by decide +kernel
theorem dX11_likenessOf_214 : decode cX11_likenessOf 214 = .ok (.ireturn, 1) := by decide +kernel
theorem dX11_write_0 : decode cX11_write 0 = .ok (.aload_n 0, 1) := by decide +kernel
theorem dX11_write_1 : decode cX11_write 1 = .ok (.iload_n 1, 1) := by decide +kernel
theorem dX11_write_2 : decode cX11_write 2 = .ok (.invokevirtual 208, 3) := by decide +kernel
theorem dX11_write_5 : decode cX11_write 5 = .ok (.ifCond .eq 11, 3) := by decide +kernel
theorem dX11_write_8 : decode cX11_write 8 = .ok (.iload 5, 2) := by decide +kernel
theorem dX11_write_10 : decode cX11_write 10 = .ok (.invokestatic 237, 3) := by decide +kernel
theorem dX11_write_13 : decode cX11_write 13 = .ok (.ifCond .ne 9, 3) := by decide +kernel
theorem dX11_write_16 : decode cX11_write 16 = .ok (.aload_n 0, 1) := by decide +kernel
theorem dX11_write_17 : decode cX11_write 17 = .ok (.iconst (-1), 1) := by decide +kernel
theorem dX11_write_18 : decode cX11_write 18 = .ok (.invokevirtual 212, 3) := by decide +kernel
theorem dX11_write_21 : decode cX11_write 21 = .ok (.ireturn, 1) := by decide +kernel
theorem dX11_write_22 : decode cX11_write 22 = .ok (.aload_n 0, 1) := by decide +kernel
theorem dX11_write_23 : decode cX11_write 23 = .ok (.iload 5, 2) := by decide +kernel
theorem dX11_write_25 : decode cX11_write 25 = .ok (.invokevirtual 249, 3) := by decide +kernel
theorem dX11_write_28 : decode cX11_write 28 = .ok (.istore 6, 2) := by decide +kernel
theorem dX11_write_30 : decode cX11_write 30 = .ok (.iload 6, 2) := by decide +kernel
theorem dX11_write_32 : decode cX11_write 32 = .ok (.ifCond .eq 10, 3) := by decide +kernel
theorem dX11_write_35 : decode cX11_write 35 = .ok (.aload_n 0, 1) := by decide +kernel
theorem dX11_write_36 : decode cX11_write 36 = .ok (.iload 6, 2) := by decide +kernel
theorem dX11_write_38 : decode cX11_write 38 = .ok (.invokevirtual 212, 3) := by decide +kernel
theorem dX11_write_41 : decode cX11_write 41 = .ok (.ireturn, 1) := by decide +kernel
theorem dX11_write_42 : decode cX11_write 42 = .ok (.aload_n 0, 1) := by decide +kernel
theorem dX11_write_43 : decode cX11_write 43 = .ok (.getfield 16, 3) := by decide +kernel
theorem dX11_write_46 : decode cX11_write 46 = .ok (.iload_n 1, 1) := by decide +kernel
theorem dX11_write_47 : decode cX11_write 47 = .ok (.iaload, 1) := by decide +kernel
theorem dX11_write_48 : decode cX11_write 48 = .ok (.ifCond .ne 45, 3) := by decide +kernel
theorem dX11_write_51 : decode cX11_write 51 = .ok (.iload_n 2, 1) := by decide +kernel
theorem dX11_write_52 : decode cX11_write 52 = .ok (.iload_n 3, 1) := by decide +kernel
theorem dX11_write_53 : decode cX11_write 53 = .ok (.invokestatic 258, 3) := by decide +kernel
theorem dX11_write_56 : decode cX11_write 56 = .ok (.ifCond .eq 37, 3) := by decide +kernel
theorem dX11_write_59 : decode cX11_write 59 = .ok (.iload 4, 2) := by decide +kernel
theorem dX11_write_61 : decode cX11_write 61 = .ok (.ifCond .lt 32, 3) := by decide +kernel
theorem dX11_write_64 : decode cX11_write 64 = .ok (.iload 4, 2) := by decide +kernel
theorem dX11_write_66 : decode cX11_write 66 = .ok (.bipush 99, 2) := by decide +kernel
theorem dX11_write_68 : decode cX11_write 68 = .ok (.if_icmp .gt 25, 3) := by decide +kernel
theorem dX11_write_71 : decode cX11_write 71 = .ok (.aload_n 0, 1) := by decide +kernel
theorem dX11_write_72 : decode cX11_write 72 = .ok (.getfield 32, 3) := by decide +kernel
theorem dX11_write_75 : decode cX11_write 75 = .ok (.iload_n 1, 1) := by decide +kernel
theorem dX11_write_76 : decode cX11_write 76 = .ok (.iaload, 1) := by decide +kernel
theorem dX11_write_77 : decode cX11_write 77 = .ok (.iconst (-1), 1) := by decide +kernel
theorem dX11_write_78 : decode cX11_write 78 = .ok (.if_icmp .ne 15, 3) := by decide +kernel
theorem dX11_write_81 : decode cX11_write 81 = .ok (.aload_n 0, 1) := by decide +kernel
theorem dX11_write_82 : decode cX11_write 82 = .ok (.getfield 51, 3) := by decide +kernel
theorem dX11_write_85 : decode cX11_write 85 = .ok (.iload 5, 2) := by decide +kernel
theorem dX11_write_87 : decode cX11_write 87 = .ok (.iaload, 1) := by decide +kernel
theorem dX11_write_88 : decode cX11_write 88 = .ok (.bipush 20, 2) := by decide +kernel
theorem dX11_write_90 : decode cX11_write 90 = .ok (.if_icmp .le 10, 3) := by decide +kernel
theorem dX11_write_93 : decode cX11_write 93 = .ok (.aload_n 0, 1) := by decide +kernel
theorem dX11_write_94 : decode cX11_write 94 = .ok (.bipush (-6), 2) := by decide +kernel
theorem dX11_write_96 : decode cX11_write 96 = .ok (.invokevirtual 212, 3) := by decide +kernel
theorem dX11_write_99 : decode cX11_write 99 = .ok (.ireturn, 1) := by decide +kernel
theorem dX11_write_100 : decode cX11_write 100 = .ok (.iconst 0, 1) := by decide +kernel
theorem dX11_write_101 : decode cX11_write 101 = .ok (.istore 7, 2) := by decide +kernel
theorem dX11_write_103 : decode cX11_write 103 = .ok (.iload 7, 2) := by decide +kernel
theorem dX11_write_105 : decode cX11_write 105 = .ok (.aload_n 0, 1) := by decide +kernel
theorem dX11_write_106 : decode cX11_write 106 = .ok (.getfield 205, 3) := by decide +kernel
theorem dX11_write_109 : decode cX11_write 109 = .ok (.if_icmp .ge 60, 3) := by decide +kernel
theorem dX11_write_112 : decode cX11_write 112 = .ok (.aload_n 0, 1) := by decide +kernel
theorem dX11_write_113 : decode cX11_write 113 = .ok (.getfield 64, 3) := by decide +kernel
theorem dX11_write_116 : decode cX11_write 116 = .ok (.iload 7, 2) := by decide +kernel
theorem dX11_write_118 : decode cX11_write 118 = .ok (.iaload, 1) := by decide +kernel
theorem dX11_write_119 : decode cX11_write 119 = .ok (.iload_n 1, 1) := by decide +kernel
theorem dX11_write_120 : decode cX11_write 120 = .ok (.if_icmp .ne 43, 3) := by decide +kernel
theorem dX11_write_123 : decode cX11_write 123 = .ok (.aload_n 0, 1) := by decide +kernel
theorem dX11_write_124 : decode cX11_write 124 = .ok (.getfield 67, 3) := by decide +kernel
theorem dX11_write_127 : decode cX11_write 127 = .ok (.iload 7, 2) := by decide +kernel
theorem dX11_write_129 : decode cX11_write 129 = .ok (.iaload, 1) := by decide +kernel
theorem dX11_write_130 : decode cX11_write 130 = .ok (.iload_n 2, 1) := by decide +kernel
theorem dX11_write_131 : decode cX11_write 131 = .ok (.if_icmp .ne 32, 3) := by decide +kernel
theorem dX11_write_134 : decode cX11_write 134 = .ok (.aload_n 0, 1) := by decide +kernel
theorem dX11_write_135 : decode cX11_write 135 = .ok (.getfield 70, 3) := by decide +kernel
theorem dX11_write_138 : decode cX11_write 138 = .ok (.iload 7, 2) := by decide +kernel
theorem dX11_write_140 : decode cX11_write 140 = .ok (.iaload, 1) := by decide +kernel
theorem dX11_write_141 : decode cX11_write 141 = .ok (.iload_n 3, 1) := by decide +kernel
theorem dX11_write_142 : decode cX11_write 142 = .ok (.if_icmp .ne 21, 3) := by decide +kernel
theorem dX11_write_145 : decode cX11_write 145 = .ok (.aload_n 0, 1) := by decide +kernel
theorem dX11_write_146 : decode cX11_write 146 = .ok (.getfield 91, 3) := by decide +kernel
theorem dX11_write_149 : decode cX11_write 149 = .ok (.iload 7, 2) := by decide +kernel
theorem dX11_write_151 : decode cX11_write 151 = .ok (.iaload, 1) := by decide +kernel
theorem dX11_write_152 : decode cX11_write 152 = .ok (.iconst (-1), 1) := by decide +kernel
theorem dX11_write_153 : decode cX11_write 153 = .ok (.if_icmp .ne 10, 3) := by decide +kernel
theorem dX11_write_156 : decode cX11_write 156 = .ok (.aload_n 0, 1) := by decide +kernel
theorem dX11_write_157 : decode cX11_write 157 = .ok (.bipush (-6), 2) := by decide +kernel
theorem dX11_write_159 : decode cX11_write 159 = .ok (.invokevirtual 212, 3) := by decide +kernel
theorem dX11_write_162 : decode cX11_write 162 = .ok (.ireturn, 1) := by decide +kernel
theorem dX11_write_163 : decode cX11_write 163 = .ok (.iinc 7 1, 3) := by decide +kernel
theorem dX11_write_166 : decode cX11_write 166 = .ok (.goto (-63), 3) := by decide +kernel
theorem dX11_write_169 : decode cX11_write 169 = .ok (.aload_n 0, 1) := by decide +kernel
theorem dX11_write_170 : decode cX11_write 170 = .ok (.getfield 205, 3) := by decide +kernel
theorem dX11_write_173 : decode cX11_write 173 = .ok (.sipush 160, 3) := by decide +kernel
theorem dX11_write_176 : decode cX11_write 176 = .ok (.if_icmp .ne 10, 3) := by decide +kernel
theorem dX11_write_179 : decode cX11_write 179 = .ok (.aload_n 0, 1) := by decide +kernel
theorem dX11_write_180 : decode cX11_write 180 = .ok (.bipush (-7), 2) := by decide +kernel
theorem dX11_write_182 : decode cX11_write 182 = .ok (.invokevirtual 212, 3) := by decide +kernel
theorem dX11_write_185 : decode cX11_write 185 = .ok (.ireturn, 1) := by decide +kernel
theorem dX11_write_186 : decode cX11_write 186 = .ok (.aload_n 0, 1) := by decide +kernel
theorem dX11_write_187 : decode cX11_write 187 = .ok (.iload_n 1, 1) := by decide +kernel
theorem dX11_write_188 : decode cX11_write 188 = .ok (.iload_n 2, 1) := by decide +kernel
theorem dX11_write_189 : decode cX11_write 189 = .ok (.iload_n 3, 1) := by decide +kernel
theorem dX11_write_190 : decode cX11_write 190 = .ok (.iload 4, 2) := by decide +kernel
theorem dX11_write_192 : decode cX11_write 192 = .ok (.iconst 0, 1) := by decide +kernel
theorem dX11_write_193 : decode cX11_write 193 = .ok (.aload_n 0, 1) := by decide +kernel
theorem dX11_write_194 : decode cX11_write 194 = .ok (.getfield 41, 3) := by decide +kernel
theorem dX11_write_197 : decode cX11_write 197 = .ok (.aload_n 0, 1) := by decide +kernel
theorem dX11_write_198 : decode cX11_write 198 = .ok (.getfield 20, 3) := by decide +kernel
theorem dX11_write_201 : decode cX11_write 201 = .ok (.iload_n 1, 1) := by decide +kernel
theorem dX11_write_202 : decode cX11_write 202 = .ok (.iaload, 1) := by decide +kernel
theorem dX11_write_203 : decode cX11_write 203 = .ok (.baload, 1) := by decide +kernel
theorem dX11_write_204 : decode cX11_write 204 = .ok (.invokevirtual 261, 3) := by decide +kernel
theorem dX11_write_207 : decode cX11_write 207 = .ok (.istore 7, 2) := by decide +kernel
theorem dX11_write_209 : decode cX11_write 209 = .ok (.aload_n 0, 1) := by decide +kernel
theorem dX11_write_210 : decode cX11_write 210 = .ok (.getfield 97, 3) := by decide +kernel
theorem dX11_write_213 : decode cX11_write 213 = .ok (.iload 7, 2) := by decide +kernel
theorem dX11_write_215 : decode cX11_write 215 = .ok (.aload_n 0, 1) := by decide +kernel
theorem dX11_write_216 : decode cX11_write 216 = .ok (.getfield 51, 3) := by decide +kernel
theorem dX11_write_219 : decode cX11_write 219 = .ok (.iload 5, 2) := by decide +kernel
theorem dX11_write_221 : decode cX11_write 221 = .ok (.iaload, 1) := by decide +kernel
theorem dX11_write_222 : decode cX11_write 222 = .ok (.iastore, 1) := by decide +kernel
theorem dX11_write_223 : decode cX11_write 223 = .ok (.iconst 0, 1) := by decide +kernel
theorem dX11_write_224 : decode cX11_write 224 = .ok (.istore 8, 2) := by decide +kernel
theorem dX11_write_226 : decode cX11_write 226 = .ok (.iload 8, 2) := by decide +kernel
theorem dX11_write_228 : decode cX11_write 228 = .ok (.aload_n 0, 1) := by decide +kernel
theorem dX11_write_229 : decode cX11_write 229 = .ok (.getfield 51, 3) := by decide +kernel
theorem dX11_write_232 : decode cX11_write 232 = .ok (.iload 5, 2) := by decide +kernel
theorem dX11_write_234 : decode cX11_write 234 = .ok (.iaload, 1) := by decide +kernel
theorem dX11_write_235 : decode cX11_write 235 = .ok (.if_icmp .ge 35, 3) := by decide +kernel
theorem dX11_write_238 : decode cX11_write 238 = .ok (.aload_n 0, 1) := by decide +kernel
theorem dX11_write_239 : decode cX11_write 239 = .ok (.getfield 109, 3) := by decide +kernel
theorem dX11_write_242 : decode cX11_write 242 = .ok (.bipush 20, 2) := by decide +kernel
theorem dX11_write_244 : decode cX11_write 244 = .ok (.iload 7, 2) := by decide +kernel
theorem dX11_write_246 : decode cX11_write 246 = .ok (.imul, 1) := by decide +kernel
theorem dX11_write_247 : decode cX11_write 247 = .ok (.iload 8, 2) := by decide +kernel
theorem dX11_write_249 : decode cX11_write 249 = .ok (.iadd, 1) := by decide +kernel
theorem dX11_write_250 : decode cX11_write 250 = .ok (.aload_n 0, 1) := by decide +kernel
theorem dX11_write_251 : decode cX11_write 251 = .ok (.getfield 57, 3) := by decide +kernel
theorem dX11_write_254 : decode cX11_write 254 = .ok (.bipush 60, 2) := by decide +kernel
theorem dX11_write_256 : decode cX11_write 256 = .ok (.iload 5, 2) := by decide +kernel
theorem dX11_write_258 : decode cX11_write 258 = .ok (.imul, 1) := by decide +kernel
theorem dX11_write_259 : decode cX11_write 259 = .ok (.iload 8, 2) := by decide +kernel
theorem dX11_write_261 : decode cX11_write 261 = .ok (.iadd, 1) := by decide +kernel
theorem dX11_write_262 : decode cX11_write 262 = .ok (.laload, 1) := by decide +kernel
theorem dX11_write_263 : decode cX11_write 263 = .ok (.lastore, 1) := by decide +kernel
theorem dX11_write_264 : decode cX11_write 264 = .ok (.iinc 8 1, 3) := by decide +kernel
theorem dX11_write_267 : decode cX11_write 267 = .ok (.goto (-41), 3) := by decide +kernel
theorem dX11_write_270 : decode cX11_write 270 = .ok (.iconst 2, 1) := by decide +kernel
theorem dX11_write_271 : decode cX11_write 271 = .ok (.istore 8, 2) := by decide +kernel
theorem dX11_write_273 : decode cX11_write 273 = .ok (.iconst 0, 1) := by decide +kernel
theorem dX11_write_274 : decode cX11_write 274 = .ok (.istore 9, 2) := by decide +kernel
theorem dX11_write_276 : decode cX11_write 276 = .ok (.iload 9, 2) := by decide +kernel
theorem dX11_write_278 : decode cX11_write 278 = .ok (.aload_n 0, 1) := by decide +kernel
theorem dX11_write_279 : decode cX11_write 279 = .ok (.getfield 252, 3) := by decide +kernel
theorem dX11_write_282 : decode cX11_write 282 = .ok (.if_icmp .ge 92, 3) := by decide +kernel
theorem dX11_write_285 : decode cX11_write 285 = .ok (.aload_n 0, 1) := by decide +kernel
theorem dX11_write_286 : decode cX11_write 286 = .ok (.getfield 112, 3) := by decide +kernel
theorem dX11_write_289 : decode cX11_write 289 = .ok (.iload 9, 2) := by decide +kernel
theorem dX11_write_291 : decode cX11_write 291 = .ok (.iaload, 1) := by decide +kernel
theorem dX11_write_292 : decode cX11_write 292 = .ok (.iload_n 2, 1) := by decide +kernel
theorem dX11_write_293 : decode cX11_write 293 = .ok (.if_icmp .ne 75, 3) := by decide +kernel
theorem dX11_write_296 : decode cX11_write 296 = .ok (.aload_n 0, 1) := by decide +kernel
theorem dX11_write_297 : decode cX11_write 297 = .ok (.iload 9, 2) := by decide +kernel
theorem dX11_write_299 : decode cX11_write 299 = .ok (.iload_n 1, 1) := by decide +kernel
theorem dX11_write_300 : decode cX11_write 300 = .ok (.invokevirtual 255, 3) := by decide +kernel
theorem dX11_write_303 : decode cX11_write 303 = .ok (.aload_n 0, 1) := by decide +kernel
theorem dX11_write_304 : decode cX11_write 304 = .ok (.getfield 224, 3) := by decide +kernel
theorem dX11_write_307 : decode cX11_write 307 = .ok (.if_icmp .le 6, 3) := by decide +kernel
theorem dX11_write_310 : decode cX11_write 310 = .ok (.goto 58, 3) := by decide +kernel
theorem dX11_write_313 : decode cX11_write 313 = .ok (.aload_n 0, 1) := by decide +kernel
theorem dX11_write_314 : decode cX11_write 314 = .ok (.iload 7, 2) := by decide +kernel
theorem dX11_write_316 : decode cX11_write 316 = .ok (.iload 9, 2) := by decide +kernel
theorem dX11_write_318 : decode cX11_write 318 = .ok (.invokevirtual 243, 3) := by decide +kernel
theorem dX11_write_321 : decode cX11_write 321 = .ok (.istore 10, 2) := by decide +kernel
theorem dX11_write_323 : decode cX11_write 323 = .ok (.iload 10, 2) := by decide +kernel
theorem dX11_write_325 : decode cX11_write 325 = .ok (.iload 8, 2) := by decide +kernel
theorem dX11_write_327 : decode cX11_write 327 = .ok (.if_icmp .le 41, 3) := by decide +kernel
theorem dX11_write_330 : decode cX11_write 330 = .ok (.iconst 2, 1) := by decide +kernel
theorem dX11_write_331 : decode cX11_write 331 = .ok (.iload 10, 2) := by decide +kernel
theorem dX11_write_333 : decode cX11_write 333 = .ok (.imul, 1) := by decide +kernel
theorem dX11_write_334 : decode cX11_write 334 = .ok (.aload_n 0, 1) := by decide +kernel
theorem dX11_write_335 : decode cX11_write 335 = .ok (.getfield 97, 3) := by decide +kernel
theorem dX11_write_338 : decode cX11_write 338 = .ok (.iload 7, 2) := by decide +kernel
theorem dX11_write_340 : decode cX11_write 340 = .ok (.iaload, 1) := by decide +kernel
theorem dX11_write_341 : decode cX11_write 341 = .ok (.if_icmp .ge 6, 3) := by decide +kernel
theorem dX11_write_344 : decode cX11_write 344 = .ok (.goto 24, 3) := by decide +kernel
theorem dX11_write_347 : decode cX11_write 347 = .ok (.iload 10, 2) := by decide +kernel
theorem dX11_write_349 : decode cX11_write 349 = .ok (.istore 8, 2) := by decide +kernel
theorem dX11_write_351 : decode cX11_write 351 = .ok (.aload_n 0, 1) := by decide +kernel
theorem dX11_write_352 : decode cX11_write 352 = .ok (.getfield 79, 3) := by decide +kernel
theorem dX11_write_355 : decode cX11_write 355 = .ok (.iload 7, 2) := by decide +kernel
theorem dX11_write_357 : decode cX11_write 357 = .ok (.iconst 1, 1) := by decide +kernel
theorem dX11_write_358 : decode cX11_write 358 = .ok (.iastore, 1) := by decide +kernel
theorem dX11_write_359 : decode cX11_write 359 = .ok (.aload_n 0, 1) := by decide +kernel
theorem dX11_write_360 : decode cX11_write 360 = .ok (.getfield 82, 3) := by decide +kernel
theorem dX11_write_363 : decode cX11_write 363 = .ok (.iload 7, 2) := by decide +kernel
theorem dX11_write_365 : decode cX11_write 365 = .ok (.iload 9, 2) := by decide +kernel
theorem dX11_write_367 : decode cX11_write 367 = .ok (.iastore, 1) := by decide +kernel
theorem dX11_write_368 : decode cX11_write 368 = .ok (.iinc 9 1, 3) := by decide +kernel
theorem dX11_write_371 : decode cX11_write 371 = .ok (.goto (-95), 3) := by decide +kernel
theorem dX11_write_374 : decode cX11_write 374 = .ok (.iload 7, 2) := by decide +kernel
theorem dX11_write_376 : decode cX11_write 376 = .ok (.ireturn, 1) := by decide +kernel
theorem dX11_puts__0 : decode cX11_puts_ 0 = .ok (.aload_n 0, 1) := by decide +kernel
theorem dX11_puts__1 : decode cX11_puts_ 1 = .ok (.getfield 64, 3) := by decide +kernel
theorem dX11_puts__4 : decode cX11_puts_ 4 = .ok (.aload_n 0, 1) := by decide +kernel
theorem dX11_puts__5 : decode cX11_puts_ 5 = .ok (.getfield 205, 3) := by decide +kernel
theorem dX11_puts__8 : decode cX11_puts_ 8 = .ok (.iload_n 1, 1) := by decide +kernel
theorem dX11_puts__9 : decode cX11_puts_ 9 = .ok (.iastore, 1) := by decide +kernel
theorem dX11_puts__10 : decode cX11_puts_ 10 = .ok (.aload_n 0, 1) := by decide +kernel
theorem dX11_puts__11 : decode cX11_puts_ 11 = .ok (.getfield 67, 3) := by decide +kernel
theorem dX11_puts__14 : decode cX11_puts_ 14 = .ok (.aload_n 0, 1) := by decide +kernel
theorem dX11_puts__15 : decode cX11_puts_ 15 = .ok (.getfield 205, 3) := by decide +kernel
theorem dX11_puts__18 : decode cX11_puts_ 18 = .ok (.iload_n 2, 1) := by decide +kernel
theorem dX11_puts__19 : decode cX11_puts_ 19 = .ok (.iastore, 1) := by decide +kernel
theorem dX11_puts__20 : decode cX11_puts_ 20 = .ok (.aload_n 0, 1) := by decide +kernel
theorem dX11_puts__21 : decode cX11_puts_ 21 = .ok (.getfield 70, 3) := by decide +kernel
theorem dX11_puts__24 : decode cX11_puts_ 24 = .ok (.aload_n 0, 1) := by decide +kernel
theorem dX11_puts__25 : decode cX11_puts_ 25 = .ok (.getfield 205, 3) := by decide +kernel
theorem dX11_puts__28 : decode cX11_puts_ 28 = .ok (.iload_n 3, 1) := by decide +kernel
theorem dX11_puts__29 : decode cX11_puts_ 29 = .ok (.iastore, 1) := by decide +kernel
theorem dX11_puts__30 : decode cX11_puts_ 30 = .ok (.aload_n 0, 1) := by decide +kernel
theorem dX11_puts__31 : decode cX11_puts_ 31 = .ok (.getfield 73, 3) := by decide +kernel
theorem dX11_puts__34 : decode cX11_puts_ 34 = .ok (.aload_n 0, 1) := by decide +kernel
theorem dX11_puts__35 : decode cX11_puts_ 35 = .ok (.getfield 205, 3) := by decide +kernel
theorem dX11_puts__38 : decode cX11_puts_ 38 = .ok (.iload 4, 2) := by decide +kernel
theorem dX11_puts__40 : decode cX11_puts_ 40 = .ok (.iastore, 1) := by decide +kernel
theorem dX11_puts__41 : decode cX11_puts_ 41 = .ok (.aload_n 0, 1) := by decide +kernel
theorem dX11_puts__42 : decode cX11_puts_ 42 = .ok (.getfield 76, 3) := by decide +kernel
theorem dX11_puts__45 : decode cX11_puts_ 45 = .ok (.aload_n 0, 1) := by decide +kernel
theorem dX11_puts__46 : decode cX11_puts_ 46 = .ok (.getfield 205, 3) := by decide +kernel
theorem dX11_puts__49 : decode cX11_puts_ 49 = .ok (.aload_n 0, 1) := by decide +kernel
theorem dX11_puts__50 : decode cX11_puts_ 50 = .ok (.getfield 224, 3) := by decide +kernel
theorem dX11_puts__53 : decode cX11_puts_ 53 = .ok (.iastore, 1) := by decide +kernel
theorem dX11_puts__54 : decode cX11_puts_ 54 = .ok (.aload_n 0, 1) := by decide +kernel
theorem dX11_puts__55 : decode cX11_puts_ 55 = .ok (.getfield 79, 3) := by decide +kernel
theorem dX11_puts__58 : decode cX11_puts_ 58 = .ok (.aload_n 0, 1) := by decide +kernel
theorem dX11_puts__59 : decode cX11_puts_ 59 = .ok (.getfield 205, 3) := by decide +kernel
theorem dX11_puts__62 : decode cX11_puts_ 62 = .ok (.iload 5, 2) := by decide +kernel
theorem dX11_puts__64 : decode cX11_puts_ 64 = .ok (.iastore, 1) := by decide +kernel
theorem dX11_puts__65 : decode cX11_puts_ 65 = .ok (.aload_n 0, 1) := by decide +kernel
theorem dX11_puts__66 : decode cX11_puts_ 66 = .ok (.getfield 82, 3) := by decide +kernel
theorem dX11_puts__69 : decode cX11_puts_ 69 = .ok (.aload_n 0, 1) := by decide +kernel
theorem dX11_puts__70 : decode cX11_puts_ 70 = .ok (.getfield 205, 3) := by decide +kernel
theorem dX11_puts__73 : decode cX11_puts_ 73 = .ok (.iconst (-1), 1) := by decide +kernel
theorem dX11_puts__74 : decode cX11_puts_ 74 = .ok (.iastore, 1) := by decide +kernel
theorem dX11_puts__75 : decode cX11_puts_ 75 = .ok (.aload_n 0, 1) := by decide +kernel
theorem dX11_puts__76 : decode cX11_puts_ 76 = .ok (.getfield 85, 3) := by decide +kernel
theorem dX11_puts__79 : decode cX11_puts_ 79 = .ok (.aload_n 0, 1) := by decide +kernel
theorem dX11_puts__80 : decode cX11_puts_ 80 = .ok (.getfield 205, 3) := by decide +kernel
theorem dX11_puts__83 : decode cX11_puts_ 83 = .ok (.iconst (-1), 1) := by decide +kernel
theorem dX11_puts__84 : decode cX11_puts_ 84 = .ok (.iastore, 1) := by decide +kernel
theorem dX11_puts__85 : decode cX11_puts_ 85 = .ok (.aload_n 0, 1) := by decide +kernel
theorem dX11_puts__86 : decode cX11_puts_ 86 = .ok (.getfield 88, 3) := by decide +kernel
theorem dX11_puts__89 : decode cX11_puts_ 89 = .ok (.aload_n 0, 1) := by decide +kernel
theorem dX11_puts__90 : decode cX11_puts_ 90 = .ok (.getfield 205, 3) := by decide +kernel
theorem dX11_puts__93 : decode cX11_puts_ 93 = .ok (.iconst (-1), 1) := by decide +kernel
theorem dX11_puts__94 : decode cX11_puts_ 94 = .ok (.iastore, 1) := by decide +kernel
theorem dX11_puts__95 : decode cX11_puts_ 95 = .ok (.aload_n 0, 1) := by decide +kernel
theorem dX11_puts__96 : decode cX11_puts_ 96 = .ok (.getfield 91, 3) := by decide +kernel
theorem dX11_puts__99 : decode cX11_puts_ 99 = .ok (.aload_n 0, 1) := by decide +kernel
theorem dX11_puts__100 : decode cX11_puts_ 100 = .ok (.getfield 205, 3) := by decide +kernel
theorem dX11_puts__103 : decode cX11_puts_ 103 = .ok (.iconst (-1), 1) := by decide +kernel
theorem dX11_puts__104 : decode cX11_puts_ 104 = .ok (.iastore, 1) := by decide +kernel
theorem dX11_puts__105 : decode cX11_puts_ 105 = .ok (.aload_n 0, 1) := by decide +kernel
theorem dX11_puts__106 : decode cX11_puts_ 106 = .ok (.getfield 94, 3) := by decide +kernel
theorem dX11_puts__109 : decode cX11_puts_ 109 = .ok (.aload_n 0, 1) := by decide +kernel
theorem dX11_puts__110 : decode cX11_puts_ 110 = .ok (.getfield 205, 3) := by decide +kernel
theorem dX11_puts__113 : decode cX11_puts_ 113 = .ok (.iconst (-1), 1) := by decide +kernel
theorem dX11_puts__114 : decode cX11_puts_ 114 = .ok (.iastore, 1) := by decide +kernel
theorem dX11_puts__115 : decode cX11_puts_ 115 = .ok (.aload_n 0, 1) := by decide +kernel
theorem dX11_puts__116 : decode cX11_puts_ 116 = .ok (.getfield 100, 3) := by decide +kernel
theorem dX11_puts__119 : decode cX11_puts_ 119 = .ok (.aload_n 0, 1) := by decide +kernel
theorem dX11_puts__120 : decode cX11_puts_ 120 = .ok (.getfield 205, 3) := by decide +kernel
theorem dX11_puts__123 : decode cX11_puts_ 123 = .ok (.iload 6, 2) := by decide +kernel
theorem dX11_puts__125 : decode cX11_puts_ 125 = .ok (.bastore, 1) := by decide +kernel
theorem dX11_puts__126 : decode cX11_puts_ 126 = .ok (.aload_n 0, 1) := by decide +kernel
theorem dX11_puts__127 : decode cX11_puts_ 127 = .ok (.dup, 1) := by decide +kernel
theorem dX11_puts__128 : decode cX11_puts_ 128 = .ok (.getfield 205, 3) := by decide +kernel
theorem dX11_puts__131 : decode cX11_puts_ 131 = .ok (.dup_x1, 1) := by decide +kernel
theorem dX11_puts__132 : decode cX11_puts_ 132 = .ok (.iconst 1, 1) := by decide +kernel
theorem dX11_puts__133 : decode cX11_puts_ 133 = .ok (.iadd, 1) := by decide +kernel
theorem dX11_puts__134 : decode cX11_puts_ 134 = .ok (.putfield 205, 3) := by decide +kernel
theorem dX11_puts__137 : decode cX11_puts_ 137 = .ok (.ireturn, 1) := by decide +kernel
theorem dX11_withdraw_0 : decode cX11_withdraw 0 = .ok (.aload_n 0, 1) := by decide +kernel
theorem dX11_withdraw_1 : decode cX11_withdraw 1 = .ok (.iload_n 1, 1) := by decide +kernel
theorem dX11_withdraw_2 : decode cX11_withdraw 2 = .ok (.invokevirtual 240, 3) := by decide +kernel
theorem dX11_withdraw_5 : decode cX11_withdraw 5 = .ok (.ifCond .ne 9, 3) := by decide +kernel
theorem dX11_withdraw_8 : decode cX11_withdraw 8 = .ok (.aload_n 0, 1) := by decide +kernel
theorem dX11_withdraw_9 : decode cX11_withdraw 9 = .ok (.iconst (-1), 1) := by decide +kernel
theorem dX11_withdraw_10 : decode cX11_withdraw 10 = .ok (.invokevirtual 212, 3) := by decide +kernel
theorem dX11_withdraw_13 : decode cX11_withdraw 13 = .ok (.ireturn, 1) := by decide +kernel
theorem dX11_withdraw_14 : decode cX11_withdraw 14 = .ok (.aload_n 0, 1) := by decide +kernel
theorem dX11_withdraw_15 : decode cX11_withdraw 15 = .ok (.getfield 16, 3) := by decide +kernel
theorem dX11_withdraw_18 : decode cX11_withdraw 18 = .ok (.aload_n 0, 1) := by decide +kernel
theorem dX11_withdraw_19 : decode cX11_withdraw 19 = .ok (.getfield 64, 3) := by decide +kernel
theorem dX11_withdraw_22 : decode cX11_withdraw 22 = .ok (.iload_n 1, 1) := by decide +kernel
theorem dX11_withdraw_23 : decode cX11_withdraw 23 = .ok (.iaload, 1) := by decide +kernel
theorem dX11_withdraw_24 : decode cX11_withdraw 24 = .ok (.iaload, 1) := by decide +kernel
theorem dX11_withdraw_25 : decode cX11_withdraw 25 = .ok (.ifCond .ne 22, 3) := by decide +kernel
theorem dX11_withdraw_28 : decode cX11_withdraw 28 = .ok (.aload_n 0, 1) := by decide +kernel
theorem dX11_withdraw_29 : decode cX11_withdraw 29 = .ok (.getfield 91, 3) := by decide +kernel
theorem dX11_withdraw_32 : decode cX11_withdraw 32 = .ok (.iload_n 1, 1) := by decide +kernel
theorem dX11_withdraw_33 : decode cX11_withdraw 33 = .ok (.iaload, 1) := by decide +kernel
theorem dX11_withdraw_34 : decode cX11_withdraw 34 = .ok (.iconst (-1), 1) := by decide +kernel
theorem dX11_withdraw_35 : decode cX11_withdraw 35 = .ok (.if_icmp .ne 12, 3) := by decide +kernel
theorem dX11_withdraw_38 : decode cX11_withdraw 38 = .ok (.aload_n 0, 1) := by decide +kernel
theorem dX11_withdraw_39 : decode cX11_withdraw 39 = .ok (.getfield 103, 3) := by decide +kernel
theorem dX11_withdraw_42 : decode cX11_withdraw 42 = .ok (.iload_n 1, 1) := by decide +kernel
theorem dX11_withdraw_43 : decode cX11_withdraw 43 = .ok (.baload, 1) := by decide +kernel
theorem dX11_withdraw_44 : decode cX11_withdraw 44 = .ok (.ifCond .eq 10, 3) := by decide +kernel
theorem dX11_withdraw_47 : decode cX11_withdraw 47 = .ok (.aload_n 0, 1) := by decide +kernel
theorem dX11_withdraw_48 : decode cX11_withdraw 48 = .ok (.bipush (-6), 2) := by decide +kernel
theorem dX11_withdraw_50 : decode cX11_withdraw 50 = .ok (.invokevirtual 212, 3) := by decide +kernel
theorem dX11_withdraw_53 : decode cX11_withdraw 53 = .ok (.ireturn, 1) := by decide +kernel
theorem dX11_withdraw_54 : decode cX11_withdraw 54 = .ok (.aload_n 0, 1) := by decide +kernel
theorem dX11_withdraw_55 : decode cX11_withdraw 55 = .ok (.getfield 91, 3) := by decide +kernel
theorem dX11_withdraw_58 : decode cX11_withdraw 58 = .ok (.iload_n 1, 1) := by decide +kernel
theorem dX11_withdraw_59 : decode cX11_withdraw 59 = .ok (.aload_n 0, 1) := by decide +kernel
theorem dX11_withdraw_60 : decode cX11_withdraw 60 = .ok (.getfield 224, 3) := by decide +kernel
theorem dX11_withdraw_63 : decode cX11_withdraw 63 = .ok (.iastore, 1) := by decide +kernel
theorem dX11_withdraw_64 : decode cX11_withdraw 64 = .ok (.iconst 1, 1) := by decide +kernel
theorem dX11_withdraw_65 : decode cX11_withdraw 65 = .ok (.ireturn, 1) := by decide +kernel
theorem dX11_tear_0 : decode cX11_tear 0 = .ok (.aload_n 0, 1) := by decide +kernel
theorem dX11_tear_1 : decode cX11_tear 1 = .ok (.iload_n 1, 1) := by decide +kernel
theorem dX11_tear_2 : decode cX11_tear 2 = .ok (.invokevirtual 208, 3) := by decide +kernel
theorem dX11_tear_5 : decode cX11_tear 5 = .ok (.ifCond .ne 9, 3) := by decide +kernel
theorem dX11_tear_8 : decode cX11_tear 8 = .ok (.aload_n 0, 1) := by decide +kernel
theorem dX11_tear_9 : decode cX11_tear 9 = .ok (.iconst (-1), 1) := by decide +kernel
theorem dX11_tear_10 : decode cX11_tear 10 = .ok (.invokevirtual 212, 3) := by decide +kernel
theorem dX11_tear_13 : decode cX11_tear 13 = .ok (.ireturn, 1) := by decide +kernel
theorem dX11_tear_14 : decode cX11_tear 14 = .ok (.aload_n 0, 1) := by decide +kernel
theorem dX11_tear_15 : decode cX11_tear 15 = .ok (.getfield 16, 3) := by decide +kernel
theorem dX11_tear_18 : decode cX11_tear 18 = .ok (.iload_n 1, 1) := by decide +kernel
theorem dX11_tear_19 : decode cX11_tear 19 = .ok (.iaload, 1) := by decide +kernel
theorem dX11_tear_20 : decode cX11_tear 20 = .ok (.ifCond .ne 40, 3) := by decide +kernel
theorem dX11_tear_23 : decode cX11_tear 23 = .ok (.iload_n 2, 1) := by decide +kernel
theorem dX11_tear_24 : decode cX11_tear 24 = .ok (.ifCond .lt 36, 3) := by decide +kernel
theorem dX11_tear_27 : decode cX11_tear 27 = .ok (.iload_n 2, 1) := by decide +kernel
theorem dX11_tear_28 : decode cX11_tear 28 = .ok (.aload_n 0, 1) := by decide +kernel
theorem dX11_tear_29 : decode cX11_tear 29 = .ok (.iload_n 1, 1) := by decide +kernel
theorem dX11_tear_30 : decode cX11_tear 30 = .ok (.invokevirtual 234, 3) := by decide +kernel
theorem dX11_tear_33 : decode cX11_tear 33 = .ok (.if_icmp .gt 27, 3) := by decide +kernel
theorem dX11_tear_36 : decode cX11_tear 36 = .ok (.aload_n 0, 1) := by decide +kernel
theorem dX11_tear_37 : decode cX11_tear 37 = .ok (.getfield 32, 3) := by decide +kernel
theorem dX11_tear_40 : decode cX11_tear 40 = .ok (.iload_n 1, 1) := by decide +kernel
theorem dX11_tear_41 : decode cX11_tear 41 = .ok (.iaload, 1) := by decide +kernel
theorem dX11_tear_42 : decode cX11_tear 42 = .ok (.iconst (-1), 1) := by decide +kernel
theorem dX11_tear_43 : decode cX11_tear 43 = .ok (.if_icmp .ne 17, 3) := by decide +kernel
theorem dX11_tear_46 : decode cX11_tear 46 = .ok (.aload_n 0, 1) := by decide +kernel
theorem dX11_tear_47 : decode cX11_tear 47 = .ok (.getfield 41, 3) := by decide +kernel
theorem dX11_tear_50 : decode cX11_tear 50 = .ok (.aload_n 0, 1) := by decide +kernel
theorem dX11_tear_51 : decode cX11_tear 51 = .ok (.getfield 20, 3) := by decide +kernel
theorem dX11_tear_54 : decode cX11_tear 54 = .ok (.iload_n 1, 1) := by decide +kernel
theorem dX11_tear_55 : decode cX11_tear 55 = .ok (.iaload, 1) := by decide +kernel
theorem dX11_tear_56 : decode cX11_tear 56 = .ok (.baload, 1) := by decide +kernel
theorem dX11_tear_57 : decode cX11_tear 57 = .ok (.ifCond .eq 10, 3) := by decide +kernel
theorem dX11_tear_60 : decode cX11_tear 60 = .ok (.aload_n 0, 1) := by decide +kernel
theorem dX11_tear_61 : decode cX11_tear 61 = .ok (.bipush (-6), 2) := by decide +kernel
theorem dX11_tear_63 : decode cX11_tear 63 = .ok (.invokevirtual 212, 3) := by decide +kernel
theorem dX11_tear_66 : decode cX11_tear 66 = .ok (.ireturn, 1) := by decide +kernel
theorem dX11_tear_67 : decode cX11_tear 67 = .ok (.aload_n 0, 1) := by decide +kernel
theorem dX11_tear_68 : decode cX11_tear 68 = .ok (.getfield 32, 3) := by decide +kernel
theorem dX11_tear_71 : decode cX11_tear 71 = .ok (.iload_n 1, 1) := by decide +kernel
theorem dX11_tear_72 : decode cX11_tear 72 = .ok (.iload_n 2, 1) := by decide +kernel
theorem dX11_tear_73 : decode cX11_tear 73 = .ok (.iastore, 1) := by decide +kernel
theorem dX11_tear_74 : decode cX11_tear 74 = .ok (.iconst 0, 1) := by decide +kernel
theorem dX11_tear_75 : decode cX11_tear 75 = .ok (.istore_n 3, 1) := by decide +kernel
theorem dX11_tear_76 : decode cX11_tear 76 = .ok (.iconst 0, 1) := by decide +kernel
theorem dX11_tear_77 : decode cX11_tear 77 = .ok (.istore 4, 2) := by decide +kernel
theorem dX11_tear_79 : decode cX11_tear 79 = .ok (.iconst 0, 1) := by decide +kernel
theorem dX11_tear_80 : decode cX11_tear 80 = .ok (.istore 5, 2) := by decide +kernel
theorem dX11_tear_82 : decode cX11_tear 82 = .ok (.iload 5, 2) := by decide +kernel
theorem dX11_tear_84 : decode cX11_tear 84 = .ok (.aload_n 0, 1) := by decide +kernel
theorem dX11_tear_85 : decode cX11_tear 85 = .ok (.getfield 205, 3) := by decide +kernel
theorem dX11_tear_88 : decode cX11_tear 88 = .ok (.if_icmp .ge 42, 3) := by decide +kernel
theorem dX11_tear_91 : decode cX11_tear 91 = .ok (.aload_n 0, 1) := by decide +kernel
theorem dX11_tear_92 : decode cX11_tear 92 = .ok (.getfield 64, 3) := by decide +kernel
theorem dX11_tear_95 : decode cX11_tear 95 = .ok (.iload 5, 2) := by decide +kernel
theorem dX11_tear_97 : decode cX11_tear 97 = .ok (.iaload, 1) := by decide +kernel
theorem dX11_tear_98 : decode cX11_tear 98 = .ok (.iload_n 1, 1) := by decide +kernel
theorem dX11_tear_99 : decode cX11_tear 99 = .ok (.if_icmp .ne 25, 3) := by decide +kernel
theorem dX11_tear_102 : decode cX11_tear 102 = .ok (.iload_n 3, 1) := by decide +kernel
theorem dX11_tear_103 : decode cX11_tear 103 = .ok (.iinc 3 1, 3) := by decide +kernel
theorem dX11_tear_106 : decode cX11_tear 106 = .ok (.iload_n 2, 1) := by decide +kernel
theorem dX11_tear_107 : decode cX11_tear 107 = .ok (.if_icmp .ge 6, 3) := by decide +kernel
theorem dX11_tear_110 : decode cX11_tear 110 = .ok (.goto 14, 3) := by decide +kernel
theorem dX11_tear_113 : decode cX11_tear 113 = .ok (.aload_n 0, 1) := by decide +kernel
theorem dX11_tear_114 : decode cX11_tear 114 = .ok (.getfield 103, 3) := by decide +kernel
theorem dX11_tear_117 : decode cX11_tear 117 = .ok (.iload 5, 2) := by decide +kernel
theorem dX11_tear_119 : decode cX11_tear 119 = .ok (.iconst 1, 1) := by decide +kernel
theorem dX11_tear_120 : decode cX11_tear 120 = .ok (.bastore, 1) := by decide +kernel
theorem dX11_tear_121 : decode cX11_tear 121 = .ok (.iinc 4 1, 3) := by decide +kernel
theorem dX11_tear_124 : decode cX11_tear 124 = .ok (.iinc 5 1, 3) := by decide +kernel
theorem dX11_tear_127 : decode cX11_tear 127 = .ok (.goto (-45), 3) := by decide +kernel
theorem dX11_tear_130 : decode cX11_tear 130 = .ok (.iload 4, 2) := by decide +kernel
theorem dX11_tear_132 : decode cX11_tear 132 = .ok (.ireturn, 1) := by decide +kernel
theorem dX11_hearthsBehind_0 : decode cX11_hearthsBehind 0 = .ok (.iconst 0, 1) := by decide +kernel
theorem dX11_hearthsBehind_1 : decode cX11_hearthsBehind 1 = .ok (.istore_n 2, 1) := by decide +kernel
theorem dX11_hearthsBehind_2 : decode cX11_hearthsBehind 2 = .ok (.iconst 0, 1) := by decide +kernel
theorem dX11_hearthsBehind_3 : decode cX11_hearthsBehind 3 = .ok (.istore_n 3, 1) := by decide +kernel
theorem dX11_hearthsBehind_4 : decode cX11_hearthsBehind 4 = .ok (.iload_n 3, 1) := by decide +kernel
theorem dX11_hearthsBehind_5 : decode cX11_hearthsBehind 5 = .ok (.aload_n 0, 1) := by decide +kernel
theorem dX11_hearthsBehind_6 : decode cX11_hearthsBehind 6 = .ok (.getfield 205, 3) := by decide +kernel
theorem dX11_hearthsBehind_9 : decode cX11_hearthsBehind 9 = .ok (.if_icmp .ge 73, 3) := by decide +kernel
theorem dX11_hearthsBehind_12 : decode cX11_hearthsBehind 12 = .ok (.aload_n 0, 1) := by decide +kernel
theorem dX11_hearthsBehind_13 : decode cX11_hearthsBehind 13 = .ok (.getfield 16, 3) := by decide +kernel
theorem dX11_hearthsBehind_16 : decode cX11_hearthsBehind 16 = .ok (.aload_n 0, 1) := by decide +kernel
theorem dX11_hearthsBehind_17 : decode cX11_hearthsBehind 17 = .ok (.getfield 64, 3) := by decide +kernel
theorem dX11_hearthsBehind_20 : decode cX11_hearthsBehind 20 = .ok (.iload_n 3, 1) := by decide +kernel
theorem dX11_hearthsBehind_21 : decode cX11_hearthsBehind 21 = .ok (.iaload, 1) := by decide +kernel
theorem dX11_hearthsBehind_22 : decode cX11_hearthsBehind 22 = .ok (.iaload, 1) := by decide +kernel
theorem dX11_hearthsBehind_23 : decode cX11_hearthsBehind 23 = .ok (.ifCond .eq 6, 3) := by decide +kernel
theorem dX11_hearthsBehind_26 : decode cX11_hearthsBehind 26 = .ok (.goto 50, 3) := by decide +kernel
theorem dX11_hearthsBehind_29 : decode cX11_hearthsBehind 29 = .ok (.iload_n 3, 1) := by decide +kernel
theorem dX11_hearthsBehind_30 : decode cX11_hearthsBehind 30 = .ok (.istore 4, 2) := by decide +kernel
theorem dX11_hearthsBehind_32 : decode cX11_hearthsBehind 32 = .ok (.iload 4, 2) := by decide +kernel
theorem dX11_hearthsBehind_34 : decode cX11_hearthsBehind 34 = .ok (.iconst (-1), 1) := by decide +kernel
theorem dX11_hearthsBehind_35 : decode cX11_hearthsBehind 35 = .ok (.if_icmp .eq 21, 3) := by decide +kernel
theorem dX11_hearthsBehind_38 : decode cX11_hearthsBehind 38 = .ok (.iload 4, 2) := by decide +kernel
theorem dX11_hearthsBehind_40 : decode cX11_hearthsBehind 40 = .ok (.iload_n 1, 1) := by decide +kernel
theorem dX11_hearthsBehind_41 : decode cX11_hearthsBehind 41 = .ok (.if_icmp .eq 15, 3) := by decide +kernel
theorem dX11_hearthsBehind_44 : decode cX11_hearthsBehind 44 = .ok (.aload_n 0, 1) := by decide +kernel
theorem dX11_hearthsBehind_45 : decode cX11_hearthsBehind 45 = .ok (.getfield 85, 3) := by decide +kernel
theorem dX11_hearthsBehind_48 : decode cX11_hearthsBehind 48 = .ok (.iload 4, 2) := by decide +kernel
theorem dX11_hearthsBehind_50 : decode cX11_hearthsBehind 50 = .ok (.iaload, 1) := by decide +kernel
theorem dX11_hearthsBehind_51 : decode cX11_hearthsBehind 51 = .ok (.istore 4, 2) := by decide +kernel
theorem dX11_hearthsBehind_53 : decode cX11_hearthsBehind 53 = .ok (.goto (-21), 3) := by decide +kernel
theorem dX11_hearthsBehind_56 : decode cX11_hearthsBehind 56 = .ok (.iload 4, 2) := by decide +kernel
theorem dX11_hearthsBehind_58 : decode cX11_hearthsBehind 58 = .ok (.iload_n 1, 1) := by decide +kernel
theorem dX11_hearthsBehind_59 : decode cX11_hearthsBehind 59 = .ok (.if_icmp .ne 17, 3) := by decide +kernel
theorem dX11_hearthsBehind_62 : decode cX11_hearthsBehind 62 = .ok (.iload_n 2, 1) := by decide +kernel
theorem dX11_hearthsBehind_63 : decode cX11_hearthsBehind 63 = .ok (.aload_n 0, 1) := by decide +kernel
theorem dX11_hearthsBehind_64 : decode cX11_hearthsBehind 64 = .ok (.getfield 29, 3) := by decide +kernel
theorem dX11_hearthsBehind_67 : decode cX11_hearthsBehind 67 = .ok (.aload_n 0, 1) := by decide +kernel
theorem dX11_hearthsBehind_68 : decode cX11_hearthsBehind 68 = .ok (.getfield 64, 3) := by decide +kernel
theorem dX11_hearthsBehind_71 : decode cX11_hearthsBehind 71 = .ok (.iload_n 3, 1) := by decide +kernel
theorem dX11_hearthsBehind_72 : decode cX11_hearthsBehind 72 = .ok (.iaload, 1) := by decide +kernel
theorem dX11_hearthsBehind_73 : decode cX11_hearthsBehind 73 = .ok (.iaload, 1) := by decide +kernel
theorem dX11_hearthsBehind_74 : decode cX11_hearthsBehind 74 = .ok (.iadd, 1) := by decide +kernel
theorem dX11_hearthsBehind_75 : decode cX11_hearthsBehind 75 = .ok (.istore_n 2, 1) := by decide +kernel
theorem dX11_hearthsBehind_76 : decode cX11_hearthsBehind 76 = .ok (.iinc 3 1, 3) := by decide +kernel
theorem dX11_hearthsBehind_79 : decode cX11_hearthsBehind 79 = .ok (.goto (-75), 3) := by decide +kernel
theorem dX11_hearthsBehind_82 : decode cX11_hearthsBehind 82 = .ok (.iload_n 2, 1) := by decide +kernel
theorem dX11_hearthsBehind_83 : decode cX11_hearthsBehind 83 = .ok (.ireturn, 1) := by decide +kernel
theorem dX11_ask_0 : decode cX11_ask 0 = .ok (.aload_n 0, 1) := by decide +kernel
theorem dX11_ask_1 : decode cX11_ask 1 = .ok (.iload_n 1, 1) := by decide +kernel
theorem dX11_ask_2 : decode cX11_ask 2 = .ok (.invokevirtual 240, 3) := by decide +kernel
theorem dX11_ask_5 : decode cX11_ask 5 = .ok (.ifCond .ne 5, 3) := by decide +kernel
theorem dX11_ask_8 : decode cX11_ask 8 = .ok (.iconst (-1), 1) := by decide +kernel
theorem dX11_ask_9 : decode cX11_ask 9 = .ok (.ireturn, 1) := by decide +kernel
theorem dX11_ask_10 : decode cX11_ask 10 = .ok (.iload_n 2, 1) := by decide +kernel
theorem dX11_ask_11 : decode cX11_ask 11 = .ok (.tableswitch 199 0 13 #[69, 76, 83, 90, 97, 104, 111, 126, 142, 157, 164, 171, 177, 184], 69) := by decide +kernel
theorem dX11_ask_80 : decode cX11_ask 80 = .ok (.aload_n 0, 1) := by decide +kernel
theorem dX11_ask_81 : decode cX11_ask 81 = .ok (.getfield 79, 3) := by decide +kernel
theorem dX11_ask_84 : decode cX11_ask 84 = .ok (.iload_n 1, 1) := by decide +kernel
theorem dX11_ask_85 : decode cX11_ask 85 = .ok (.iaload, 1) := by decide +kernel
theorem dX11_ask_86 : decode cX11_ask 86 = .ok (.ireturn, 1) := by decide +kernel
theorem dX11_ask_87 : decode cX11_ask 87 = .ok (.aload_n 0, 1) := by decide +kernel
theorem dX11_ask_88 : decode cX11_ask 88 = .ok (.getfield 64, 3) := by decide +kernel
theorem dX11_ask_91 : decode cX11_ask 91 = .ok (.iload_n 1, 1) := by decide +kernel
theorem dX11_ask_92 : decode cX11_ask 92 = .ok (.iaload, 1) := by decide +kernel
theorem dX11_ask_93 : decode cX11_ask 93 = .ok (.ireturn, 1) := by decide +kernel
theorem dX11_ask_94 : decode cX11_ask 94 = .ok (.aload_n 0, 1) := by decide +kernel
theorem dX11_ask_95 : decode cX11_ask 95 = .ok (.getfield 67, 3) := by decide +kernel
theorem dX11_ask_98 : decode cX11_ask 98 = .ok (.iload_n 1, 1) := by decide +kernel
theorem dX11_ask_99 : decode cX11_ask 99 = .ok (.iaload, 1) := by decide +kernel
theorem dX11_ask_100 : decode cX11_ask 100 = .ok (.ireturn, 1) := by decide +kernel
theorem dX11_ask_101 : decode cX11_ask 101 = .ok (.aload_n 0, 1) := by decide +kernel
theorem dX11_ask_102 : decode cX11_ask 102 = .ok (.getfield 70, 3) := by decide +kernel
theorem dX11_ask_105 : decode cX11_ask 105 = .ok (.iload_n 1, 1) := by decide +kernel
theorem dX11_ask_106 : decode cX11_ask 106 = .ok (.iaload, 1) := by decide +kernel
theorem dX11_ask_107 : decode cX11_ask 107 = .ok (.ireturn, 1) := by decide +kernel
theorem dX11_ask_108 : decode cX11_ask 108 = .ok (.aload_n 0, 1) := by decide +kernel
theorem dX11_ask_109 : decode cX11_ask 109 = .ok (.getfield 73, 3) := by decide +kernel
theorem dX11_ask_112 : decode cX11_ask 112 = .ok (.iload_n 1, 1) := by decide +kernel
theorem dX11_ask_113 : decode cX11_ask 113 = .ok (.iaload, 1) := by decide +kernel
theorem dX11_ask_114 : decode cX11_ask 114 = .ok (.ireturn, 1) := by decide +kernel
theorem dX11_ask_115 : decode cX11_ask 115 = .ok (.aload_n 0, 1) := by decide +kernel
theorem dX11_ask_116 : decode cX11_ask 116 = .ok (.getfield 76, 3) := by decide +kernel
theorem dX11_ask_119 : decode cX11_ask 119 = .ok (.iload_n 1, 1) := by decide +kernel
theorem dX11_ask_120 : decode cX11_ask 120 = .ok (.iaload, 1) := by decide +kernel
theorem dX11_ask_121 : decode cX11_ask 121 = .ok (.ireturn, 1) := by decide +kernel
theorem dX11_ask_122 : decode cX11_ask 122 = .ok (.aload_n 0, 1) := by decide +kernel
theorem dX11_ask_123 : decode cX11_ask 123 = .ok (.getfield 100, 3) := by decide +kernel
theorem dX11_ask_126 : decode cX11_ask 126 = .ok (.iload_n 1, 1) := by decide +kernel
theorem dX11_ask_127 : decode cX11_ask 127 = .ok (.baload, 1) := by decide +kernel
theorem dX11_ask_128 : decode cX11_ask 128 = .ok (.ifCond .eq 7, 3) := by decide +kernel
theorem dX11_ask_131 : decode cX11_ask 131 = .ok (.iconst 1, 1) := by decide +kernel
theorem dX11_ask_132 : decode cX11_ask 132 = .ok (.goto 4, 3) := by decide +kernel
theorem dX11_ask_135 : decode cX11_ask 135 = .ok (.iconst 0, 1) := by decide +kernel
theorem dX11_ask_136 : decode cX11_ask 136 = .ok (.ireturn, 1) := by decide +kernel
theorem dX11_ask_137 : decode cX11_ask 137 = .ok (.aload_n 0, 1) := by decide +kernel
theorem dX11_ask_138 : decode cX11_ask 138 = .ok (.getfield 91, 3) := by decide +kernel
theorem dX11_ask_141 : decode cX11_ask 141 = .ok (.iload_n 1, 1) := by decide +kernel
theorem dX11_ask_142 : decode cX11_ask 142 = .ok (.iaload, 1) := by decide +kernel
theorem dX11_ask_143 : decode cX11_ask 143 = .ok (.iconst (-1), 1) := by decide +kernel
theorem dX11_ask_144 : decode cX11_ask 144 = .ok (.if_icmp .eq 7, 3) := by decide +kernel
theorem dX11_ask_147 : decode cX11_ask 147 = .ok (.iconst 1, 1) := by decide +kernel
theorem dX11_ask_148 : decode cX11_ask 148 = .ok (.goto 4, 3) := by decide +kernel
theorem dX11_ask_151 : decode cX11_ask 151 = .ok (.iconst 0, 1) := by decide +kernel
theorem dX11_ask_152 : decode cX11_ask 152 = .ok (.ireturn, 1) := by decide +kernel
theorem dX11_ask_153 : decode cX11_ask 153 = .ok (.aload_n 0, 1) := by decide +kernel
theorem dX11_ask_154 : decode cX11_ask 154 = .ok (.getfield 103, 3) := by decide +kernel
theorem dX11_ask_157 : decode cX11_ask 157 = .ok (.iload_n 1, 1) := by decide +kernel
theorem dX11_ask_158 : decode cX11_ask 158 = .ok (.baload, 1) := by decide +kernel
theorem dX11_ask_159 : decode cX11_ask 159 = .ok (.ifCond .eq 7, 3) := by decide +kernel
theorem dX11_ask_162 : decode cX11_ask 162 = .ok (.iconst 1, 1) := by decide +kernel
theorem dX11_ask_163 : decode cX11_ask 163 = .ok (.goto 4, 3) := by decide +kernel
theorem dX11_ask_166 : decode cX11_ask 166 = .ok (.iconst 0, 1) := by decide +kernel
theorem dX11_ask_167 : decode cX11_ask 167 = .ok (.ireturn, 1) := by decide +kernel
theorem dX11_ask_168 : decode cX11_ask 168 = .ok (.aload_n 0, 1) := by decide +kernel
theorem dX11_ask_169 : decode cX11_ask 169 = .ok (.getfield 85, 3) := by decide +kernel
theorem dX11_ask_172 : decode cX11_ask 172 = .ok (.iload_n 1, 1) := by decide +kernel
theorem dX11_ask_173 : decode cX11_ask 173 = .ok (.iaload, 1) := by decide +kernel
theorem dX11_ask_174 : decode cX11_ask 174 = .ok (.ireturn, 1) := by decide +kernel
theorem dX11_ask_175 : decode cX11_ask 175 = .ok (.aload_n 0, 1) := by decide +kernel
theorem dX11_ask_176 : decode cX11_ask 176 = .ok (.getfield 88, 3) := by decide +kernel
theorem dX11_ask_179 : decode cX11_ask 179 = .ok (.iload_n 1, 1) := by decide +kernel
theorem dX11_ask_180 : decode cX11_ask 180 = .ok (.iaload, 1) := by decide +kernel
theorem dX11_ask_181 : decode cX11_ask 181 = .ok (.ireturn, 1) := by decide +kernel
theorem dX11_ask_182 : decode cX11_ask 182 = .ok (.aload_n 0, 1) := by decide +kernel
theorem dX11_ask_183 : decode cX11_ask 183 = .ok (.iload_n 1, 1) := by decide +kernel
theorem dX11_ask_184 : decode cX11_ask 184 = .ok (.invokevirtual 264, 3) := by decide +kernel
theorem dX11_ask_187 : decode cX11_ask 187 = .ok (.ireturn, 1) := by decide +kernel
theorem dX11_ask_188 : decode cX11_ask 188 = .ok (.aload_n 0, 1) := by decide +kernel
theorem dX11_ask_189 : decode cX11_ask 189 = .ok (.getfield 82, 3) := by decide +kernel
theorem dX11_ask_192 : decode cX11_ask 192 = .ok (.iload_n 1, 1) := by decide +kernel
theorem dX11_ask_193 : decode cX11_ask 193 = .ok (.iaload, 1) := by decide +kernel
theorem dX11_ask_194 : decode cX11_ask 194 = .ok (.ireturn, 1) := by decide +kernel
theorem dX11_ask_195 : decode cX11_ask 195 = .ok (.aload_n 0, 1) := by decide +kernel
theorem dX11_ask_196 : decode cX11_ask 196 = .ok (.getfield 106, 3) := by decide +kernel
theorem dX11_ask_199 : decode cX11_ask 199 = .ok (.iload_n 1, 1) := by decide +kernel
theorem dX11_ask_200 : decode cX11_ask 200 = .ok (.baload, 1) := by decide +kernel
theorem dX11_ask_201 : decode cX11_ask 201 = .ok (.ifCond .eq 7, 3) := by decide +kernel
theorem dX11_ask_204 : decode cX11_ask 204 = .ok (.iconst 1, 1) := by decide +kernel
theorem dX11_ask_205 : decode cX11_ask 205 = .ok (.goto 4, 3) := by decide +kernel
theorem dX11_ask_208 : decode cX11_ask 208 = .ok (.iconst 0, 1) := by decide +kernel
theorem dX11_ask_209 : decode cX11_ask 209 = .ok (.ireturn, 1) := by decide +kernel
theorem dX11_ask_210 : decode cX11_ask 210 = .ok (.iconst (-1), 1) := by decide +kernel
theorem dX11_ask_211 : decode cX11_ask 211 = .ok (.ireturn, 1) := by decide +kernel
theorem dX11_likeness_0 : decode cX11_likeness 0 = .ok (.aload_n 0, 1) := by decide +kernel
theorem dX11_likeness_1 : decode cX11_likeness 1 = .ok (.iload_n 1, 1) := by decide +kernel
theorem dX11_likeness_2 : decode cX11_likeness 2 = .ok (.invokevirtual 240, 3) := by decide +kernel
theorem dX11_likeness_5 : decode cX11_likeness 5 = .ok (.ifCond .eq 38, 3) := by decide +kernel
theorem dX11_likeness_8 : decode cX11_likeness 8 = .ok (.aload_n 0, 1) := by decide +kernel
theorem dX11_likeness_9 : decode cX11_likeness 9 = .ok (.getfield 16, 3) := by decide +kernel
theorem dX11_likeness_12 : decode cX11_likeness 12 = .ok (.aload_n 0, 1) := by decide +kernel
theorem dX11_likeness_13 : decode cX11_likeness 13 = .ok (.getfield 64, 3) := by decide +kernel
theorem dX11_likeness_16 : decode cX11_likeness 16 = .ok (.iload_n 1, 1) := by decide +kernel
theorem dX11_likeness_17 : decode cX11_likeness 17 = .ok (.iaload, 1) := by decide +kernel
theorem dX11_likeness_18 : decode cX11_likeness 18 = .ok (.iaload, 1) := by decide +kernel
theorem dX11_likeness_19 : decode cX11_likeness 19 = .ok (.ifCond .ne 24, 3) := by decide +kernel
theorem dX11_likeness_22 : decode cX11_likeness 22 = .ok (.iload_n 2, 1) := by decide +kernel
theorem dX11_likeness_23 : decode cX11_likeness 23 = .ok (.ifCond .lt 20, 3) := by decide +kernel
theorem dX11_likeness_26 : decode cX11_likeness 26 = .ok (.iload_n 2, 1) := by decide +kernel
theorem dX11_likeness_27 : decode cX11_likeness 27 = .ok (.aload_n 0, 1) := by decide +kernel
theorem dX11_likeness_28 : decode cX11_likeness 28 = .ok (.getfield 252, 3) := by decide +kernel
theorem dX11_likeness_31 : decode cX11_likeness 31 = .ok (.if_icmp .ge 12, 3) := by decide +kernel
theorem dX11_likeness_34 : decode cX11_likeness 34 = .ok (.aload_n 0, 1) := by decide +kernel
theorem dX11_likeness_35 : decode cX11_likeness 35 = .ok (.iload_n 1, 1) := by decide +kernel
theorem dX11_likeness_36 : decode cX11_likeness 36 = .ok (.iload_n 2, 1) := by decide +kernel
theorem dX11_likeness_37 : decode cX11_likeness 37 = .ok (.invokevirtual 243, 3) := by decide +kernel
theorem dX11_likeness_40 : decode cX11_likeness 40 = .ok (.goto 4, 3) := by decide +kernel
theorem dX11_likeness_43 : decode cX11_likeness 43 = .ok (.iconst (-1), 1) := by decide +kernel
theorem dX11_likeness_44 : decode cX11_likeness 44 = .ok (.ireturn, 1) := by decide +kernel
theorem dX11_chance_0 : decode cX11_chance 0 = .ok (.aload_n 0, 1) := by decide +kernel
theorem dX11_chance_1 : decode cX11_chance 1 = .ok (.iload_n 1, 1) := by decide +kernel
theorem dX11_chance_2 : decode cX11_chance 2 = .ok (.invokevirtual 240, 3) := by decide +kernel
theorem dX11_chance_5 : decode cX11_chance 5 = .ok (.ifCond .eq 13, 3) := by decide +kernel
theorem dX11_chance_8 : decode cX11_chance 8 = .ok (.aload_n 0, 1) := by decide +kernel
theorem dX11_chance_9 : decode cX11_chance 9 = .ok (.getfield 79, 3) := by decide +kernel
theorem dX11_chance_12 : decode cX11_chance 12 = .ok (.iload_n 1, 1) := by decide +kernel
theorem dX11_chance_13 : decode cX11_chance 13 = .ok (.iaload, 1) := by decide +kernel
theorem dX11_chance_14 : decode cX11_chance 14 = .ok (.iconst 1, 1) := by decide +kernel
theorem dX11_chance_15 : decode cX11_chance 15 = .ok (.if_icmp .eq 5, 3) := by decide +kernel
theorem dX11_chance_18 : decode cX11_chance 18 = .ok (.iconst (-1), 1) := by decide +kernel
theorem dX11_chance_19 : decode cX11_chance 19 = .ok (.ireturn, 1) := by decide +kernel
theorem dX11_chance_20 : decode cX11_chance 20 = .ok (.aload_n 0, 1) := by decide +kernel
theorem dX11_chance_21 : decode cX11_chance 21 = .ok (.getfield 82, 3) := by decide +kernel
theorem dX11_chance_24 : decode cX11_chance 24 = .ok (.iload_n 1, 1) := by decide +kernel
theorem dX11_chance_25 : decode cX11_chance 25 = .ok (.iaload, 1) := by decide +kernel
theorem dX11_chance_26 : decode cX11_chance 26 = .ok (.istore_n 3, 1) := by decide +kernel
theorem dX11_chance_27 : decode cX11_chance 27 = .ok (.aload_n 0, 1) := by decide +kernel
theorem dX11_chance_28 : decode cX11_chance 28 = .ok (.iload_n 1, 1) := by decide +kernel
theorem dX11_chance_29 : decode cX11_chance 29 = .ok (.iload_n 3, 1) := by decide +kernel
theorem dX11_chance_30 : decode cX11_chance 30 = .ok (.invokevirtual 243, 3) := by decide +kernel
theorem dX11_chance_33 : decode cX11_chance 33 = .ok (.istore 4, 2) := by decide +kernel
theorem dX11_chance_35 : decode cX11_chance 35 = .ok (.iconst 0, 1) := by decide +kernel
theorem dX11_chance_36 : decode cX11_chance 36 = .ok (.istore 5, 2) := by decide +kernel
theorem dX11_chance_38 : decode cX11_chance 38 = .ok (.iconst 0, 1) := by decide +kernel
theorem dX11_chance_39 : decode cX11_chance 39 = .ok (.istore 6, 2) := by decide +kernel
theorem dX11_chance_41 : decode cX11_chance 41 = .ok (.iconst 0, 1) := by decide +kernel
theorem dX11_chance_42 : decode cX11_chance 42 = .ok (.istore 7, 2) := by decide +kernel
theorem dX11_chance_44 : decode cX11_chance 44 = .ok (.iload 7, 2) := by decide +kernel
theorem dX11_chance_46 : decode cX11_chance 46 = .ok (.aload_n 0, 1) := by decide +kernel
theorem dX11_chance_47 : decode cX11_chance 47 = .ok (.getfield 205, 3) := by decide +kernel
theorem dX11_chance_50 : decode cX11_chance 50 = .ok (.if_icmp .ge 89, 3) := by decide +kernel
theorem dX11_chance_53 : decode cX11_chance 53 = .ok (.iload 7, 2) := by decide +kernel
theorem dX11_chance_55 : decode cX11_chance 55 = .ok (.iload_n 1, 1) := by decide +kernel
theorem dX11_chance_56 : decode cX11_chance 56 = .ok (.if_icmp .eq 77, 3) := by decide +kernel
theorem dX11_chance_59 : decode cX11_chance 59 = .ok (.aload_n 0, 1) := by decide +kernel
theorem dX11_chance_60 : decode cX11_chance 60 = .ok (.getfield 16, 3) := by decide +kernel
theorem dX11_chance_63 : decode cX11_chance 63 = .ok (.aload_n 0, 1) := by decide +kernel
theorem dX11_chance_64 : decode cX11_chance 64 = .ok (.getfield 64, 3) := by decide +kernel
theorem dX11_chance_67 : decode cX11_chance 67 = .ok (.iload 7, 2) := by decide +kernel
theorem dX11_chance_69 : decode cX11_chance 69 = .ok (.iaload, 1) := by decide +kernel
theorem dX11_chance_70 : decode cX11_chance 70 = .ok (.iaload, 1) := by decide +kernel
theorem dX11_chance_71 : decode cX11_chance 71 = .ok (.ifCond .ne 62, 3) := by decide +kernel
theorem dX11_chance_74 : decode cX11_chance 74 = .ok (.aload_n 0, 1) := by decide +kernel
theorem dX11_chance_75 : decode cX11_chance 75 = .ok (.getfield 67, 3) := by decide +kernel
theorem dX11_chance_78 : decode cX11_chance 78 = .ok (.iload 7, 2) := by decide +kernel
theorem dX11_chance_80 : decode cX11_chance 80 = .ok (.iaload, 1) := by decide +kernel
theorem dX11_chance_81 : decode cX11_chance 81 = .ok (.aload_n 0, 1) := by decide +kernel
theorem dX11_chance_82 : decode cX11_chance 82 = .ok (.getfield 67, 3) := by decide +kernel
theorem dX11_chance_85 : decode cX11_chance 85 = .ok (.iload_n 1, 1) := by decide +kernel
theorem dX11_chance_86 : decode cX11_chance 86 = .ok (.iaload, 1) := by decide +kernel
theorem dX11_chance_87 : decode cX11_chance 87 = .ok (.if_icmp .ne 46, 3) := by decide +kernel
theorem dX11_chance_90 : decode cX11_chance 90 = .ok (.aload_n 0, 1) := by decide +kernel
theorem dX11_chance_91 : decode cX11_chance 91 = .ok (.iload_n 3, 1) := by decide +kernel
theorem dX11_chance_92 : decode cX11_chance 92 = .ok (.aload_n 0, 1) := by decide +kernel
theorem dX11_chance_93 : decode cX11_chance 93 = .ok (.getfield 64, 3) := by decide +kernel
theorem dX11_chance_96 : decode cX11_chance 96 = .ok (.iload 7, 2) := by decide +kernel
theorem dX11_chance_98 : decode cX11_chance 98 = .ok (.iaload, 1) := by decide +kernel
theorem dX11_chance_99 : decode cX11_chance 99 = .ok (.invokevirtual 255, 3) := by decide +kernel
theorem dX11_chance_102 : decode cX11_chance 102 = .ok (.aload_n 0, 1) := by decide +kernel
theorem dX11_chance_103 : decode cX11_chance 103 = .ok (.getfield 76, 3) := by decide +kernel
theorem dX11_chance_106 : decode cX11_chance 106 = .ok (.iload 7, 2) := by decide +kernel
theorem dX11_chance_108 : decode cX11_chance 108 = .ok (.iaload, 1) := by decide +kernel
theorem dX11_chance_109 : decode cX11_chance 109 = .ok (.if_icmp .gt 6, 3) := by decide +kernel
theorem dX11_chance_112 : decode cX11_chance 112 = .ok (.goto 21, 3) := by decide +kernel
theorem dX11_chance_115 : decode cX11_chance 115 = .ok (.iinc 6 1, 3) := by decide +kernel
theorem dX11_chance_118 : decode cX11_chance 118 = .ok (.aload_n 0, 1) := by decide +kernel
theorem dX11_chance_119 : decode cX11_chance 119 = .ok (.iload 7, 2) := by decide +kernel
theorem dX11_chance_121 : decode cX11_chance 121 = .ok (.iload_n 3, 1) := by decide +kernel
theorem dX11_chance_122 : decode cX11_chance 122 = .ok (.invokevirtual 243, 3) := by decide +kernel
theorem dX11_chance_125 : decode cX11_chance 125 = .ok (.iload 4, 2) := by decide +kernel
theorem dX11_chance_127 : decode cX11_chance 127 = .ok (.if_icmp .lt 6, 3) := by decide +kernel
theorem dX11_chance_130 : decode cX11_chance 130 = .ok (.iinc 5 1, 3) := by decide +kernel
theorem dX11_chance_133 : decode cX11_chance 133 = .ok (.iinc 7 1, 3) := by decide +kernel
theorem dX11_chance_136 : decode cX11_chance 136 = .ok (.goto (-92), 3) := by decide +kernel
theorem dX11_chance_139 : decode cX11_chance 139 = .ok (.iload_n 2, 1) := by decide +kernel
theorem dX11_chance_140 : decode cX11_chance 140 = .ok (.ifCond .eq 8, 3) := by decide +kernel
theorem dX11_chance_143 : decode cX11_chance 143 = .ok (.iload 6, 2) := by decide +kernel
theorem dX11_chance_145 : decode cX11_chance 145 = .ok (.goto 5, 3) := by decide +kernel
theorem dX11_chance_148 : decode cX11_chance 148 = .ok (.iload 5, 2) := by decide +kernel
theorem dX11_chance_150 : decode cX11_chance 150 = .ok (.ireturn, 1) := by decide +kernel
theorem dX11_less_0 : decode cX11_less 0 = .ok (.aload_n 0, 1) := by decide +kernel
theorem dX11_less_1 : decode cX11_less 1 = .ok (.iload_n 1, 1) := by decide +kernel
theorem dX11_less_2 : decode cX11_less 2 = .ok (.invokevirtual 240, 3) := by decide +kernel
theorem dX11_less_5 : decode cX11_less 5 = .ok (.ifCond .eq 34, 3) := by decide +kernel
theorem dX11_less_8 : decode cX11_less 8 = .ok (.aload_n 0, 1) := by decide +kernel
theorem dX11_less_9 : decode cX11_less 9 = .ok (.getfield 85, 3) := by decide +kernel
theorem dX11_less_12 : decode cX11_less 12 = .ok (.iload_n 1, 1) := by decide +kernel
theorem dX11_less_13 : decode cX11_less 13 = .ok (.iaload, 1) := by decide +kernel
theorem dX11_less_14 : decode cX11_less 14 = .ok (.iconst (-1), 1) := by decide +kernel
theorem dX11_less_15 : decode cX11_less 15 = .ok (.if_icmp .eq 24, 3) := by decide +kernel
theorem dX11_less_18 : decode cX11_less 18 = .ok (.aload_n 0, 1) := by decide +kernel
theorem dX11_less_19 : decode cX11_less 19 = .ok (.getfield 73, 3) := by decide +kernel
theorem dX11_less_22 : decode cX11_less 22 = .ok (.iload_n 1, 1) := by decide +kernel
theorem dX11_less_23 : decode cX11_less 23 = .ok (.iaload, 1) := by decide +kernel
theorem dX11_less_24 : decode cX11_less 24 = .ok (.aload_n 0, 1) := by decide +kernel
theorem dX11_less_25 : decode cX11_less 25 = .ok (.getfield 73, 3) := by decide +kernel
theorem dX11_less_28 : decode cX11_less 28 = .ok (.aload_n 0, 1) := by decide +kernel
theorem dX11_less_29 : decode cX11_less 29 = .ok (.getfield 85, 3) := by decide +kernel
theorem dX11_less_32 : decode cX11_less 32 = .ok (.iload_n 1, 1) := by decide +kernel
theorem dX11_less_33 : decode cX11_less 33 = .ok (.iaload, 1) := by decide +kernel
theorem dX11_less_34 : decode cX11_less 34 = .ok (.iaload, 1) := by decide +kernel
theorem dX11_less_35 : decode cX11_less 35 = .ok (.isub, 1) := by decide +kernel
theorem dX11_less_36 : decode cX11_less 36 = .ok (.goto 6, 3) := by decide +kernel
theorem dX11_less_39 : decode cX11_less 39 = .ok (.sipush 1000, 3) := by decide +kernel
theorem dX11_less_42 : decode cX11_less 42 = .ok (.ireturn, 1) := by decide +kernel
theorem dX11_part_0 : decode cX11_part 0 = .ok (.aload_n 0, 1) := by decide +kernel
theorem dX11_part_1 : decode cX11_part 1 = .ok (.iload_n 1, 1) := by decide +kernel
theorem dX11_part_2 : decode cX11_part 2 = .ok (.invokevirtual 240, 3) := by decide +kernel
theorem dX11_part_5 : decode cX11_part 5 = .ok (.ifCond .ne 5, 3) := by decide +kernel
theorem dX11_part_8 : decode cX11_part 8 = .ok (.iconst (-1), 1) := by decide +kernel
theorem dX11_part_9 : decode cX11_part 9 = .ok (.ireturn, 1) := by decide +kernel
theorem dX11_part_10 : decode cX11_part 10 = .ok (.iload_n 2, 1) := by decide +kernel
theorem dX11_part_11 : decode cX11_part 11 = .ok (.istore_n 3, 1) := by decide +kernel
theorem dX11_part_12 : decode cX11_part 12 = .ok (.iconst 0, 1) := by decide +kernel
theorem dX11_part_13 : decode cX11_part 13 = .ok (.istore 4, 2) := by decide +kernel
theorem dX11_part_15 : decode cX11_part 15 = .ok (.iload 4, 2) := by decide +kernel
theorem dX11_part_17 : decode cX11_part 17 = .ok (.aload_n 0, 1) := by decide +kernel
theorem dX11_part_18 : decode cX11_part 18 = .ok (.getfield 7, 3) := by decide +kernel
theorem dX11_part_21 : decode cX11_part 21 = .ok (.if_icmp .ge 60, 3) := by decide +kernel
theorem dX11_part_24 : decode cX11_part 24 = .ok (.iconst 0, 1) := by decide +kernel
theorem dX11_part_25 : decode cX11_part 25 = .ok (.istore 5, 2) := by decide +kernel
theorem dX11_part_27 : decode cX11_part 27 = .ok (.iload 5, 2) := by decide +kernel
theorem dX11_part_29 : decode cX11_part 29 = .ok (.aload_n 0, 1) := by decide +kernel
theorem dX11_part_30 : decode cX11_part 30 = .ok (.getfield 205, 3) := by decide +kernel
theorem dX11_part_33 : decode cX11_part 33 = .ok (.if_icmp .ge 42, 3) := by decide +kernel
theorem dX11_part_36 : decode cX11_part 36 = .ok (.aload_n 0, 1) := by decide +kernel
theorem dX11_part_37 : decode cX11_part 37 = .ok (.getfield 64, 3) := by decide +kernel
theorem dX11_part_40 : decode cX11_part 40 = .ok (.iload 5, 2) := by decide +kernel
theorem dX11_part_42 : decode cX11_part 42 = .ok (.iaload, 1) := by decide +kernel
theorem dX11_part_43 : decode cX11_part 43 = .ok (.iload 4, 2) := by decide +kernel
theorem dX11_part_45 : decode cX11_part 45 = .ok (.if_icmp .ne 24, 3) := by decide +kernel
theorem dX11_part_48 : decode cX11_part 48 = .ok (.aload_n 0, 1) := by decide +kernel
theorem dX11_part_49 : decode cX11_part 49 = .ok (.getfield 85, 3) := by decide +kernel
theorem dX11_part_52 : decode cX11_part 52 = .ok (.iload 5, 2) := by decide +kernel
theorem dX11_part_54 : decode cX11_part 54 = .ok (.iaload, 1) := by decide +kernel
theorem dX11_part_55 : decode cX11_part 55 = .ok (.iload_n 1, 1) := by decide +kernel
theorem dX11_part_56 : decode cX11_part 56 = .ok (.if_icmp .ne 13, 3) := by decide +kernel
theorem dX11_part_59 : decode cX11_part 59 = .ok (.iload_n 3, 1) := by decide +kernel
theorem dX11_part_60 : decode cX11_part 60 = .ok (.iinc 3 (-1), 3) := by decide +kernel
theorem dX11_part_63 : decode cX11_part 63 = .ok (.ifCond .ne 6, 3) := by decide +kernel
theorem dX11_part_66 : decode cX11_part 66 = .ok (.iload 5, 2) := by decide +kernel
theorem dX11_part_68 : decode cX11_part 68 = .ok (.ireturn, 1) := by decide +kernel
theorem dX11_part_69 : decode cX11_part 69 = .ok (.iinc 5 1, 3) := by decide +kernel
theorem dX11_part_72 : decode cX11_part 72 = .ok (.goto (-45), 3) := by decide +kernel
theorem dX11_part_75 : decode cX11_part 75 = .ok (.iinc 4 1, 3) := by decide +kernel
theorem dX11_part_78 : decode cX11_part 78 = .ok (.goto (-63), 3) := by decide +kernel
theorem dX11_part_81 : decode cX11_part 81 = .ok (.iconst (-1), 1) := by decide +kernel
theorem dX11_part_82 : decode cX11_part 82 = .ok (.ireturn, 1) := by decide +kernel
theorem dX11_endOf_0 : decode cX11_endOf 0 = .ok (.iload_n 1, 1) := by decide +kernel
theorem dX11_endOf_1 : decode cX11_endOf 1 = .ok (.istore_n 2, 1) := by decide +kernel
theorem dX11_endOf_2 : decode cX11_endOf 2 = .ok (.aload_n 0, 1) := by decide +kernel
theorem dX11_endOf_3 : decode cX11_endOf 3 = .ok (.getfield 85, 3) := by decide +kernel
theorem dX11_endOf_6 : decode cX11_endOf 6 = .ok (.iload_n 2, 1) := by decide +kernel
theorem dX11_endOf_7 : decode cX11_endOf 7 = .ok (.iaload, 1) := by decide +kernel
theorem dX11_endOf_8 : decode cX11_endOf 8 = .ok (.iconst (-1), 1) := by decide +kernel
theorem dX11_endOf_9 : decode cX11_endOf 9 = .ok (.if_icmp .eq 13, 3) := by decide +kernel
theorem dX11_endOf_12 : decode cX11_endOf 12 = .ok (.aload_n 0, 1) := by decide +kernel
theorem dX11_endOf_13 : decode cX11_endOf 13 = .ok (.getfield 85, 3) := by decide +kernel
theorem dX11_endOf_16 : decode cX11_endOf 16 = .ok (.iload_n 2, 1) := by decide +kernel
theorem dX11_endOf_17 : decode cX11_endOf 17 = .ok (.iaload, 1) := by decide +kernel
theorem dX11_endOf_18 : decode cX11_endOf 18 = .ok (.istore_n 2, 1) := by decide +kernel
theorem dX11_endOf_19 : decode cX11_endOf 19 = .ok (.goto (-17), 3) := by decide +kernel
theorem dX11_endOf_22 : decode cX11_endOf 22 = .ok (.iload_n 2, 1) := by decide +kernel
theorem dX11_endOf_23 : decode cX11_endOf 23 = .ok (.ireturn, 1) := by decide +kernel
theorem dX11_end_0 : decode cX11_end 0 = .ok (.aload_n 0, 1) := by decide +kernel
theorem dX11_end_1 : decode cX11_end 1 = .ok (.iload_n 1, 1) := by decide +kernel
theorem dX11_end_2 : decode cX11_end 2 = .ok (.invokevirtual 240, 3) := by decide +kernel
theorem dX11_end_5 : decode cX11_end 5 = .ok (.ifCond .eq 11, 3) := by decide +kernel
theorem dX11_end_8 : decode cX11_end 8 = .ok (.aload_n 0, 1) := by decide +kernel
theorem dX11_end_9 : decode cX11_end 9 = .ok (.iload_n 1, 1) := by decide +kernel
theorem dX11_end_10 : decode cX11_end 10 = .ok (.invokevirtual 267, 3) := by decide +kernel
theorem dX11_end_13 : decode cX11_end 13 = .ok (.goto 4, 3) := by decide +kernel
theorem dX11_end_16 : decode cX11_end 16 = .ok (.iconst (-1), 1) := by decide +kernel
theorem dX11_end_17 : decode cX11_end 17 = .ok (.ireturn, 1) := by decide +kernel
theorem dX11_lost_0 : decode cX11_lost 0 = .ok (.aload_n 0, 1) := by decide +kernel
theorem dX11_lost_1 : decode cX11_lost 1 = .ok (.iload_n 1, 1) := by decide +kernel
theorem dX11_lost_2 : decode cX11_lost 2 = .ok (.invokevirtual 240, 3) := by decide +kernel
theorem dX11_lost_5 : decode cX11_lost 5 = .ok (.ifCond .eq 16, 3) := by decide +kernel
theorem dX11_lost_8 : decode cX11_lost 8 = .ok (.aload_n 0, 1) := by decide +kernel
theorem dX11_lost_9 : decode cX11_lost 9 = .ok (.getfield 88, 3) := by decide +kernel
theorem dX11_lost_12 : decode cX11_lost 12 = .ok (.aload_n 0, 1) := by decide +kernel
theorem dX11_lost_13 : decode cX11_lost 13 = .ok (.iload_n 1, 1) := by decide +kernel
theorem dX11_lost_14 : decode cX11_lost 14 = .ok (.invokevirtual 267, 3) := by decide +kernel
theorem dX11_lost_17 : decode cX11_lost 17 = .ok (.iaload, 1) := by decide +kernel
theorem dX11_lost_18 : decode cX11_lost 18 = .ok (.goto 4, 3) := by decide +kernel
theorem dX11_lost_21 : decode cX11_lost 21 = .ok (.iconst (-1), 1) := by decide +kernel
theorem dX11_lost_22 : decode cX11_lost 22 = .ok (.ireturn, 1) := by decide +kernel
theorem dX11_book_0 : decode cX11_book 0 = .ok (.aload_n 0, 1) := by decide +kernel
theorem dX11_book_1 : decode cX11_book 1 = .ok (.iload_n 1, 1) := by decide +kernel
theorem dX11_book_2 : decode cX11_book 2 = .ok (.invokevirtual 208, 3) := by decide +kernel
theorem dX11_book_5 : decode cX11_book 5 = .ok (.ifCond .ne 5, 3) := by decide +kernel
theorem dX11_book_8 : decode cX11_book 8 = .ok (.iconst (-1), 1) := by decide +kernel
theorem dX11_book_9 : decode cX11_book 9 = .ok (.ireturn, 1) := by decide +kernel
theorem dX11_book_10 : decode cX11_book 10 = .ok (.iload_n 2, 1) := by decide +kernel
theorem dX11_book_11 : decode cX11_book 11 = .ok (.istore_n 3, 1) := by decide +kernel
theorem dX11_book_12 : decode cX11_book 12 = .ok (.iconst 0, 1) := by decide +kernel
theorem dX11_book_13 : decode cX11_book 13 = .ok (.istore 4, 2) := by decide +kernel
theorem dX11_book_15 : decode cX11_book 15 = .ok (.iload 4, 2) := by decide +kernel
theorem dX11_book_17 : decode cX11_book 17 = .ok (.aload_n 0, 1) := by decide +kernel
theorem dX11_book_18 : decode cX11_book 18 = .ok (.getfield 205, 3) := by decide +kernel
theorem dX11_book_21 : decode cX11_book 21 = .ok (.if_icmp .ge 34, 3) := by decide +kernel
theorem dX11_book_24 : decode cX11_book 24 = .ok (.iload_n 3, 1) := by decide +kernel
theorem dX11_book_25 : decode cX11_book 25 = .ok (.ifCond .lt 30, 3) := by decide +kernel
theorem dX11_book_28 : decode cX11_book 28 = .ok (.aload_n 0, 1) := by decide +kernel
theorem dX11_book_29 : decode cX11_book 29 = .ok (.getfield 64, 3) := by decide +kernel
theorem dX11_book_32 : decode cX11_book 32 = .ok (.iload 4, 2) := by decide +kernel
theorem dX11_book_34 : decode cX11_book 34 = .ok (.iaload, 1) := by decide +kernel
theorem dX11_book_35 : decode cX11_book 35 = .ok (.iload_n 1, 1) := by decide +kernel
theorem dX11_book_36 : decode cX11_book 36 = .ok (.if_icmp .ne 13, 3) := by decide +kernel
theorem dX11_book_39 : decode cX11_book 39 = .ok (.iload_n 3, 1) := by decide +kernel
theorem dX11_book_40 : decode cX11_book 40 = .ok (.iinc 3 (-1), 3) := by decide +kernel
theorem dX11_book_43 : decode cX11_book 43 = .ok (.ifCond .ne 6, 3) := by decide +kernel
theorem dX11_book_46 : decode cX11_book 46 = .ok (.iload 4, 2) := by decide +kernel
theorem dX11_book_48 : decode cX11_book 48 = .ok (.ireturn, 1) := by decide +kernel
theorem dX11_book_49 : decode cX11_book 49 = .ok (.iinc 4 1, 3) := by decide +kernel
theorem dX11_book_52 : decode cX11_book 52 = .ok (.goto (-37), 3) := by decide +kernel
theorem dX11_book_55 : decode cX11_book 55 = .ok (.iconst (-1), 1) := by decide +kernel
theorem dX11_book_56 : decode cX11_book 56 = .ok (.ireturn, 1) := by decide +kernel
theorem dX11_letter_0 : decode cX11_letter 0 = .ok (.aload_n 0, 1) := by decide +kernel
theorem dX11_letter_1 : decode cX11_letter 1 = .ok (.getfield 270, 3) := by decide +kernel
theorem dX11_letter_4 : decode cX11_letter 4 = .ok (.aload_n 0, 1) := by decide +kernel
theorem dX11_letter_5 : decode cX11_letter 5 = .ok (.getfield 273, 3) := by decide +kernel
theorem dX11_letter_8 : decode cX11_letter 8 = .ok (.if_icmp .ge 21, 3) := by decide +kernel
theorem dX11_letter_11 : decode cX11_letter 11 = .ok (.aload_n 0, 1) := by decide +kernel
theorem dX11_letter_12 : decode cX11_letter 12 = .ok (.getfield 57, 3) := by decide +kernel
theorem dX11_letter_15 : decode cX11_letter 15 = .ok (.aload_n 0, 1) := by decide +kernel
theorem dX11_letter_16 : decode cX11_letter 16 = .ok (.getfield 276, 3) := by decide +kernel
theorem dX11_letter_19 : decode cX11_letter 19 = .ok (.aload_n 0, 1) := by decide +kernel
theorem dX11_letter_20 : decode cX11_letter 20 = .ok (.getfield 270, 3) := by decide +kernel
theorem dX11_letter_23 : decode cX11_letter 23 = .ok (.iadd, 1) := by decide +kernel
theorem dX11_letter_24 : decode cX11_letter 24 = .ok (.laload, 1) := by decide +kernel
theorem dX11_letter_25 : decode cX11_letter 25 = .ok (.l2i, 1) := by decide +kernel
theorem dX11_letter_26 : decode cX11_letter 26 = .ok (.goto 4, 3) := by decide +kernel
theorem dX11_letter_29 : decode cX11_letter 29 = .ok (.iconst (-1), 1) := by decide +kernel
theorem dX11_letter_30 : decode cX11_letter 30 = .ok (.ireturn, 1) := by decide +kernel
theorem dX11_is_0 : decode cX11_is 0 = .ok (.aload_n 0, 1) := by decide +kernel
theorem dX11_is_1 : decode cX11_is 1 = .ok (.getfield 270, 3) := by decide +kernel
theorem dX11_is_4 : decode cX11_is 4 = .ok (.aload_n 0, 1) := by decide +kernel
theorem dX11_is_5 : decode cX11_is 5 = .ok (.getfield 273, 3) := by decide +kernel
theorem dX11_is_8 : decode cX11_is 8 = .ok (.if_icmp .ge 15, 3) := by decide +kernel
theorem dX11_is_11 : decode cX11_is 11 = .ok (.aload_n 0, 1) := by decide +kernel
theorem dX11_is_12 : decode cX11_is 12 = .ok (.invokevirtual 279, 3) := by decide +kernel
theorem dX11_is_15 : decode cX11_is 15 = .ok (.iload_n 1, 1) := by decide +kernel
theorem dX11_is_16 : decode cX11_is 16 = .ok (.if_icmp .ne 7, 3) := by decide +kernel
theorem dX11_is_19 : decode cX11_is 19 = .ok (.iconst 1, 1) := by decide +kernel
theorem dX11_is_20 : decode cX11_is 20 = .ok (.goto 4, 3) := by decide +kernel
theorem dX11_is_23 : decode cX11_is 23 = .ok (.iconst 0, 1) := by decide +kernel
theorem dX11_is_24 : decode cX11_is 24 = .ok (.ireturn, 1) := by decide +kernel
theorem dX11_isDigit_0 : decode cX11_isDigit 0 = .ok (.aload_n 0, 1) := by decide +kernel
theorem dX11_isDigit_1 : decode cX11_isDigit 1 = .ok (.getfield 270, 3) := by decide +kernel
theorem dX11_isDigit_4 : decode cX11_isDigit 4 = .ok (.aload_n 0, 1) := by decide +kernel
theorem dX11_isDigit_5 : decode cX11_isDigit 5 = .ok (.getfield 273, 3) := by decide +kernel
theorem dX11_isDigit_8 : decode cX11_isDigit 8 = .ok (.if_icmp .ge 25, 3) := by decide +kernel
theorem dX11_isDigit_11 : decode cX11_isDigit 11 = .ok (.aload_n 0, 1) := by decide +kernel
theorem dX11_isDigit_12 : decode cX11_isDigit 12 = .ok (.invokevirtual 279, 3) := by decide +kernel
theorem dX11_isDigit_15 : decode cX11_isDigit 15 = .ok (.bipush 48, 2) := by decide +kernel
theorem dX11_isDigit_17 : decode cX11_isDigit 17 = .ok (.if_icmp .lt 16, 3) := by decide +kernel
theorem dX11_isDigit_20 : decode cX11_isDigit 20 = .ok (.aload_n 0, 1) := by decide +kernel
theorem dX11_isDigit_21 : decode cX11_isDigit 21 = .ok (.invokevirtual 279, 3) := by decide +kernel
theorem dX11_isDigit_24 : decode cX11_isDigit 24 = .ok (.bipush 57, 2) := by decide +kernel
theorem dX11_isDigit_26 : decode cX11_isDigit 26 = .ok (.if_icmp .gt 7, 3) := by decide +kernel
theorem dX11_isDigit_29 : decode cX11_isDigit 29 = .ok (.iconst 1, 1) := by decide +kernel
theorem dX11_isDigit_30 : decode cX11_isDigit 30 = .ok (.goto 4, 3) := by decide +kernel
theorem dX11_isDigit_33 : decode cX11_isDigit 33 = .ok (.iconst 0, 1) := by decide +kernel
theorem dX11_isDigit_34 : decode cX11_isDigit 34 = .ok (.ireturn, 1) := by decide +kernel
theorem dX11_isField_0 : decode cX11_isField 0 = .ok (.aload_n 0, 1) := by decide +kernel
theorem dX11_isField_1 : decode cX11_isField 1 = .ok (.bipush 110, 2) := by decide +kernel
theorem dX11_isField_3 : decode cX11_isField 3 = .ok (.invokevirtual 283, 3) := by decide +kernel
theorem dX11_isField_6 : decode cX11_isField 6 = .ok (.ifCond .ne 66, 3) := by decide +kernel
theorem dX11_isField_9 : decode cX11_isField 9 = .ok (.aload_n 0, 1) := by decide +kernel
theorem dX11_isField_10 : decode cX11_isField 10 = .ok (.bipush 98, 2) := by decide +kernel
theorem dX11_isField_12 : decode cX11_isField 12 = .ok (.invokevirtual 283, 3) := by decide +kernel
theorem dX11_isField_15 : decode cX11_isField 15 = .ok (.ifCond .ne 57, 3) := by decide +kernel
theorem dX11_isField_18 : decode cX11_isField 18 = .ok (.aload_n 0, 1) := by decide +kernel
theorem dX11_isField_19 : decode cX11_isField 19 = .ok (.bipush 104, 2) := by decide +kernel
theorem dX11_isField_21 : decode cX11_isField 21 = .ok (.invokevirtual 283, 3) := by decide +kernel
theorem dX11_isField_24 : decode cX11_isField 24 = .ok (.ifCond .ne 48, 3) := by decide +kernel
theorem dX11_isField_27 : decode cX11_isField 27 = .ok (.aload_n 0, 1) := by decide +kernel
theorem dX11_isField_28 : decode cX11_isField 28 = .ok (.bipush 116, 2) := by decide +kernel
theorem dX11_isField_30 : decode cX11_isField 30 = .ok (.invokevirtual 283, 3) := by decide +kernel
theorem dX11_isField_33 : decode cX11_isField 33 = .ok (.ifCond .ne 39, 3) := by decide +kernel
theorem dX11_isField_36 : decode cX11_isField 36 = .ok (.aload_n 0, 1) := by decide +kernel
theorem dX11_isField_37 : decode cX11_isField 37 = .ok (.bipush 109, 2) := by decide +kernel
theorem dX11_isField_39 : decode cX11_isField 39 = .ok (.invokevirtual 283, 3) := by decide +kernel
theorem dX11_isField_42 : decode cX11_isField 42 = .ok (.ifCond .ne 30, 3) := by decide +kernel
theorem dX11_isField_45 : decode cX11_isField 45 = .ok (.aload_n 0, 1) := by decide +kernel
theorem dX11_isField_46 : decode cX11_isField 46 = .ok (.bipush 119, 2) := by decide +kernel
theorem dX11_isField_48 : decode cX11_isField 48 = .ok (.invokevirtual 283, 3) := by decide +kernel
theorem dX11_isField_51 : decode cX11_isField 51 = .ok (.ifCond .ne 21, 3) := by decide +kernel
theorem dX11_isField_54 : decode cX11_isField 54 = .ok (.aload_n 0, 1) := by decide +kernel
theorem dX11_isField_55 : decode cX11_isField 55 = .ok (.bipush 100, 2) := by decide +kernel
theorem dX11_isField_57 : decode cX11_isField 57 = .ok (.invokevirtual 283, 3) := by decide +kernel
theorem dX11_isField_60 : decode cX11_isField 60 = .ok (.ifCond .ne 12, 3) := by decide +kernel
theorem dX11_isField_63 : decode cX11_isField 63 = .ok (.aload_n 0, 1) := by decide +kernel
theorem dX11_isField_64 : decode cX11_isField 64 = .ok (.bipush 121, 2) := by decide +kernel
theorem dX11_isField_66 : decode cX11_isField 66 = .ok (.invokevirtual 283, 3) := by decide +kernel
theorem dX11_isField_69 : decode cX11_isField 69 = .ok (.ifCond .eq 7, 3) := by decide +kernel
theorem dX11_isField_72 : decode cX11_isField 72 = .ok (.iconst 1, 1) := by decide +kernel
theorem dX11_isField_73 : decode cX11_isField 73 = .ok (.goto 4, 3) := by decide +kernel
theorem dX11_isField_76 : decode cX11_isField 76 = .ok (.iconst 0, 1) := by decide +kernel
theorem dX11_isField_77 : decode cX11_isField 77 = .ok (.ireturn, 1) := by decide +kernel
theorem dX11_isSide_0 : decode cX11_isSide 0 = .ok (.aload_n 0, 1) := by decide +kernel
theorem dX11_isSide_1 : decode cX11_isSide 1 = .ok (.iconst 1, 1) := by decide +kernel
theorem dX11_isSide_2 : decode cX11_isSide 2 = .ok (.putfield 286, 3) := by decide +kernel
theorem dX11_isSide_5 : decode cX11_isSide 5 = .ok (.aload_n 0, 1) := by decide +kernel
theorem dX11_isSide_6 : decode cX11_isSide 6 = .ok (.iconst (-1), 1) := by decide +kernel
theorem dX11_isSide_7 : decode cX11_isSide 7 = .ok (.putfield 289, 3) := by decide +kernel
theorem dX11_isSide_10 : decode cX11_isSide 10 = .ok (.aload_n 0, 1) := by decide +kernel
theorem dX11_isSide_11 : decode cX11_isSide 11 = .ok (.invokevirtual 292, 3) := by decide +kernel
theorem dX11_isSide_14 : decode cX11_isSide 14 = .ok (.ifCond .eq 23, 3) := by decide +kernel
theorem dX11_isSide_17 : decode cX11_isSide 17 = .ok (.aload_n 0, 1) := by decide +kernel
theorem dX11_isSide_18 : decode cX11_isSide 18 = .ok (.aload_n 0, 1) := by decide +kernel
theorem dX11_isSide_19 : decode cX11_isSide 19 = .ok (.invokevirtual 279, 3) := by decide +kernel
theorem dX11_isSide_22 : decode cX11_isSide 22 = .ok (.putfield 289, 3) := by decide +kernel
theorem dX11_isSide_25 : decode cX11_isSide 25 = .ok (.aload_n 0, 1) := by decide +kernel
theorem dX11_isSide_26 : decode cX11_isSide 26 = .ok (.dup, 1) := by decide +kernel
theorem dX11_isSide_27 : decode cX11_isSide 27 = .ok (.getfield 270, 3) := by decide +kernel
theorem dX11_isSide_30 : decode cX11_isSide 30 = .ok (.iconst 1, 1) := by decide +kernel
theorem dX11_isSide_31 : decode cX11_isSide 31 = .ok (.iadd, 1) := by decide +kernel
theorem dX11_isSide_32 : decode cX11_isSide 32 = .ok (.putfield 270, 3) := by decide +kernel
theorem dX11_isSide_35 : decode cX11_isSide 35 = .ok (.iconst 1, 1) := by decide +kernel
theorem dX11_isSide_36 : decode cX11_isSide 36 = .ok (.ireturn, 1) := by decide +kernel
theorem dX11_isSide_37 : decode cX11_isSide 37 = .ok (.aload_n 0, 1) := by decide +kernel
theorem dX11_isSide_38 : decode cX11_isSide 38 = .ok (.invokevirtual 296, 3) := by decide +kernel
theorem dX11_isSide_41 : decode cX11_isSide 41 = .ok (.ifCond .ne 5, 3) := by decide +kernel
theorem dX11_isSide_44 : decode cX11_isSide 44 = .ok (.iconst 0, 1) := by decide +kernel
theorem dX11_isSide_45 : decode cX11_isSide 45 = .ok (.ireturn, 1) := by decide +kernel
theorem dX11_isSide_46 : decode cX11_isSide 46 = .ok (.iconst 0, 1) := by decide +kernel
theorem dX11_isSide_47 : decode cX11_isSide 47 = .ok (.istore_n 1, 1) := by decide +kernel
theorem dX11_isSide_48 : decode cX11_isSide 48 = .ok (.iconst 0, 1) := by decide +kernel
theorem dX11_isSide_49 : decode cX11_isSide 49 = .ok (.istore_n 2, 1) := by decide +kernel
theorem dX11_isSide_50 : decode cX11_isSide 50 = .ok (.aload_n 0, 1) := by decide +kernel
theorem dX11_isSide_51 : decode cX11_isSide 51 = .ok (.invokevirtual 296, 3) := by decide +kernel
theorem dX11_isSide_54 : decode cX11_isSide 54 = .ok (.ifCond .eq 45, 3) := by decide +kernel
theorem dX11_isSide_57 : decode cX11_isSide 57 = .ok (.iload_n 2, 1) := by decide +kernel
theorem dX11_isSide_58 : decode cX11_isSide 58 = .ok (.iconst 4, 1) := by decide +kernel
theorem dX11_isSide_59 : decode cX11_isSide 59 = .ok (.if_icmp .ge 40, 3) := by decide +kernel
theorem dX11_isSide_62 : decode cX11_isSide 62 = .ok (.iload_n 2, 1) := by decide +kernel
theorem dX11_isSide_63 : decode cX11_isSide 63 = .ok (.ifCond .le 7, 3) := by decide +kernel
theorem dX11_isSide_66 : decode cX11_isSide 66 = .ok (.iload_n 1, 1) := by decide +kernel
theorem dX11_isSide_67 : decode cX11_isSide 67 = .ok (.ifCond .eq 32, 3) := by decide +kernel
theorem dX11_isSide_70 : decode cX11_isSide 70 = .ok (.bipush 10, 2) := by decide +kernel
theorem dX11_isSide_72 : decode cX11_isSide 72 = .ok (.iload_n 1, 1) := by decide +kernel
theorem dX11_isSide_73 : decode cX11_isSide 73 = .ok (.imul, 1) := by decide +kernel
theorem dX11_isSide_74 : decode cX11_isSide 74 = .ok (.aload_n 0, 1) := by decide +kernel
theorem dX11_isSide_75 : decode cX11_isSide 75 = .ok (.invokevirtual 279, 3) := by decide +kernel
theorem dX11_isSide_78 : decode cX11_isSide 78 = .ok (.iadd, 1) := by decide +kernel
theorem dX11_isSide_79 : decode cX11_isSide 79 = .ok (.bipush 48, 2) := by decide +kernel
theorem dX11_isSide_81 : decode cX11_isSide 81 = .ok (.isub, 1) := by decide +kernel
theorem dX11_isSide_82 : decode cX11_isSide 82 = .ok (.istore_n 1, 1) := by decide +kernel
theorem dX11_isSide_83 : decode cX11_isSide 83 = .ok (.iinc 2 1, 3) := by decide +kernel
theorem dX11_isSide_86 : decode cX11_isSide 86 = .ok (.aload_n 0, 1) := by decide +kernel
theorem dX11_isSide_87 : decode cX11_isSide 87 = .ok (.dup, 1) := by decide +kernel
theorem dX11_isSide_88 : decode cX11_isSide 88 = .ok (.getfield 270, 3) := by decide +kernel
theorem dX11_isSide_91 : decode cX11_isSide 91 = .ok (.iconst 1, 1) := by decide +kernel
theorem dX11_isSide_92 : decode cX11_isSide 92 = .ok (.iadd, 1) := by decide +kernel
theorem dX11_isSide_93 : decode cX11_isSide 93 = .ok (.putfield 270, 3) := by decide +kernel
theorem dX11_isSide_96 : decode cX11_isSide 96 = .ok (.goto (-46), 3) := by decide +kernel
theorem dX11_isSide_99 : decode cX11_isSide 99 = .ok (.aload_n 0, 1) := by decide +kernel
theorem dX11_isSide_100 : decode cX11_isSide 100 = .ok (.iload_n 1, 1) := by decide +kernel
theorem dX11_isSide_101 : decode cX11_isSide 101 = .ok (.putfield 286, 3) := by decide +kernel
theorem dX11_isSide_104 : decode cX11_isSide 104 = .ok (.aload_n 0, 1) := by decide +kernel
theorem dX11_isSide_105 : decode cX11_isSide 105 = .ok (.bipush 42, 2) := by decide +kernel
theorem dX11_isSide_107 : decode cX11_isSide 107 = .ok (.invokevirtual 283, 3) := by decide +kernel
theorem dX11_isSide_110 : decode cX11_isSide 110 = .ok (.ifCond .ne 5, 3) := by decide +kernel
theorem dX11_isSide_113 : decode cX11_isSide 113 = .ok (.iconst 1, 1) := by decide +kernel
theorem dX11_isSide_114 : decode cX11_isSide 114 = .ok (.ireturn, 1) := by decide +kernel
theorem dX11_isSide_115 : decode cX11_isSide 115 = .ok (.aload_n 0, 1) := by decide +kernel
theorem dX11_isSide_116 : decode cX11_isSide 116 = .ok (.dup, 1) := by decide +kernel
theorem dX11_isSide_117 : decode cX11_isSide 117 = .ok (.getfield 270, 3) := by decide +kernel
theorem dX11_isSide_120 : decode cX11_isSide 120 = .ok (.iconst 1, 1) := by decide +kernel
theorem dX11_isSide_121 : decode cX11_isSide 121 = .ok (.iadd, 1) := by decide +kernel
theorem dX11_isSide_122 : decode cX11_isSide 122 = .ok (.putfield 270, 3) := by decide +kernel
theorem dX11_isSide_125 : decode cX11_isSide 125 = .ok (.aload_n 0, 1) := by decide +kernel
theorem dX11_isSide_126 : decode cX11_isSide 126 = .ok (.invokevirtual 292, 3) := by decide +kernel
theorem dX11_isSide_129 : decode cX11_isSide 129 = .ok (.ifCond .ne 5, 3) := by decide +kernel
theorem dX11_isSide_132 : decode cX11_isSide 132 = .ok (.iconst 0, 1) := by decide +kernel
theorem dX11_isSide_133 : decode cX11_isSide 133 = .ok (.ireturn, 1) := by decide +kernel
theorem dX11_isSide_134 : decode cX11_isSide 134 = .ok (.aload_n 0, 1) := by decide +kernel
theorem dX11_isSide_135 : decode cX11_isSide 135 = .ok (.aload_n 0, 1) := by decide +kernel
theorem dX11_isSide_136 : decode cX11_isSide 136 = .ok (.invokevirtual 279, 3) := by decide +kernel
theorem dX11_isSide_139 : decode cX11_isSide 139 = .ok (.putfield 289, 3) := by decide +kernel
theorem dX11_isSide_142 : decode cX11_isSide 142 = .ok (.aload_n 0, 1) := by decide +kernel
theorem dX11_isSide_143 : decode cX11_isSide 143 = .ok (.dup, 1) := by decide +kernel
theorem dX11_isSide_144 : decode cX11_isSide 144 = .ok (.getfield 270, 3) := by decide +kernel
theorem dX11_isSide_147 : decode cX11_isSide 147 = .ok (.iconst 1, 1) := by decide +kernel
theorem dX11_isSide_148 : decode cX11_isSide 148 = .ok (.iadd, 1) := by decide +kernel
theorem dX11_isSide_149 : decode cX11_isSide 149 = .ok (.putfield 270, 3) := by decide +kernel
theorem dX11_isSide_152 : decode cX11_isSide 152 = .ok (.iconst 1, 1) := by decide +kernel
theorem dX11_isSide_153 : decode cX11_isSide 153 = .ok (.ireturn, 1) := by decide +kernel
theorem dX11_reads_0 : decode cX11_reads 0 = .ok (.bipush 40, 2) := by decide +kernel
theorem dX11_reads_2 : decode cX11_reads 2 = .ok (.iload_n 1, 1) := by decide +kernel
theorem dX11_reads_3 : decode cX11_reads 3 = .ok (.imul, 1) := by decide +kernel
theorem dX11_reads_4 : decode cX11_reads 4 = .ok (.aload_n 0, 1) := by decide +kernel
theorem dX11_reads_5 : decode cX11_reads 5 = .ok (.getfield 299, 3) := by decide +kernel
theorem dX11_reads_8 : decode cX11_reads 8 = .ok (.iadd, 1) := by decide +kernel
theorem dX11_reads_9 : decode cX11_reads 9 = .ok (.istore_n 2, 1) := by decide +kernel
theorem dX11_reads_10 : decode cX11_reads 10 = .ok (.aload_n 0, 1) := by decide +kernel
theorem dX11_reads_11 : decode cX11_reads 11 = .ok (.invokevirtual 302, 3) := by decide +kernel
theorem dX11_reads_14 : decode cX11_reads 14 = .ok (.ifCond .ne 5, 3) := by decide +kernel
theorem dX11_reads_17 : decode cX11_reads 17 = .ok (.iconst 0, 1) := by decide +kernel
theorem dX11_reads_18 : decode cX11_reads 18 = .ok (.ireturn, 1) := by decide +kernel
theorem dX11_reads_19 : decode cX11_reads 19 = .ok (.aload_n 0, 1) := by decide +kernel
theorem dX11_reads_20 : decode cX11_reads 20 = .ok (.getfield 145, 3) := by decide +kernel
theorem dX11_reads_23 : decode cX11_reads 23 = .ok (.iload_n 2, 1) := by decide +kernel
theorem dX11_reads_24 : decode cX11_reads 24 = .ok (.aload_n 0, 1) := by decide +kernel
theorem dX11_reads_25 : decode cX11_reads 25 = .ok (.getfield 286, 3) := by decide +kernel
theorem dX11_reads_28 : decode cX11_reads 28 = .ok (.iastore, 1) := by decide +kernel
theorem dX11_reads_29 : decode cX11_reads 29 = .ok (.aload_n 0, 1) := by decide +kernel
theorem dX11_reads_30 : decode cX11_reads 30 = .ok (.getfield 148, 3) := by decide +kernel
theorem dX11_reads_33 : decode cX11_reads 33 = .ok (.iload_n 2, 1) := by decide +kernel
theorem dX11_reads_34 : decode cX11_reads 34 = .ok (.aload_n 0, 1) := by decide +kernel
theorem dX11_reads_35 : decode cX11_reads 35 = .ok (.getfield 289, 3) := by decide +kernel
theorem dX11_reads_38 : decode cX11_reads 38 = .ok (.iastore, 1) := by decide +kernel
theorem dX11_reads_39 : decode cX11_reads 39 = .ok (.aload_n 0, 1) := by decide +kernel
theorem dX11_reads_40 : decode cX11_reads 40 = .ok (.bipush 60, 2) := by decide +kernel
theorem dX11_reads_42 : decode cX11_reads 42 = .ok (.invokevirtual 283, 3) := by decide +kernel
theorem dX11_reads_45 : decode cX11_reads 45 = .ok (.ifCond .ne 23, 3) := by decide +kernel
theorem dX11_reads_48 : decode cX11_reads 48 = .ok (.aload_n 0, 1) := by decide +kernel
theorem dX11_reads_49 : decode cX11_reads 49 = .ok (.bipush 62, 2) := by decide +kernel
theorem dX11_reads_51 : decode cX11_reads 51 = .ok (.invokevirtual 283, 3) := by decide +kernel
theorem dX11_reads_54 : decode cX11_reads 54 = .ok (.ifCond .ne 14, 3) := by decide +kernel
theorem dX11_reads_57 : decode cX11_reads 57 = .ok (.aload_n 0, 1) := by decide +kernel
theorem dX11_reads_58 : decode cX11_reads 58 = .ok (.bipush 61, 2) := by decide +kernel
theorem dX11_reads_60 : decode cX11_reads 60 = .ok (.invokevirtual 283, 3) := by decide +kernel
theorem dX11_reads_63 : decode cX11_reads 63 = .ok (.ifCond .ne 5, 3) := by decide +kernel
theorem dX11_reads_66 : decode cX11_reads 66 = .ok (.iconst 0, 1) := by decide +kernel
theorem dX11_reads_67 : decode cX11_reads 67 = .ok (.ireturn, 1) := by decide +kernel
theorem dX11_reads_68 : decode cX11_reads 68 = .ok (.aload_n 0, 1) := by decide +kernel
theorem dX11_reads_69 : decode cX11_reads 69 = .ok (.getfield 151, 3) := by decide +kernel
theorem dX11_reads_72 : decode cX11_reads 72 = .ok (.iload_n 2, 1) := by decide +kernel
theorem dX11_reads_73 : decode cX11_reads 73 = .ok (.aload_n 0, 1) := by decide +kernel
theorem dX11_reads_74 : decode cX11_reads 74 = .ok (.invokevirtual 279, 3) := by decide +kernel
theorem dX11_reads_77 : decode cX11_reads 77 = .ok (.iastore, 1) := by decide +kernel
theorem dX11_reads_78 : decode cX11_reads 78 = .ok (.aload_n 0, 1) := by decide +kernel
theorem dX11_reads_79 : decode cX11_reads 79 = .ok (.dup, 1) := by decide +kernel
theorem dX11_reads_80 : decode cX11_reads 80 = .ok (.getfield 270, 3) := by decide +kernel
theorem dX11_reads_83 : decode cX11_reads 83 = .ok (.iconst 1, 1) := by decide +kernel
theorem dX11_reads_84 : decode cX11_reads 84 = .ok (.iadd, 1) := by decide +kernel
theorem dX11_reads_85 : decode cX11_reads 85 = .ok (.putfield 270, 3) := by decide +kernel
theorem dX11_reads_88 : decode cX11_reads 88 = .ok (.aload_n 0, 1) := by decide +kernel
theorem dX11_reads_89 : decode cX11_reads 89 = .ok (.invokevirtual 302, 3) := by decide +kernel
theorem dX11_reads_92 : decode cX11_reads 92 = .ok (.ifCond .ne 5, 3) := by decide +kernel
theorem dX11_reads_95 : decode cX11_reads 95 = .ok (.iconst 0, 1) := by decide +kernel
theorem dX11_reads_96 : decode cX11_reads 96 = .ok (.ireturn, 1) := by decide +kernel
theorem dX11_reads_97 : decode cX11_reads 97 = .ok (.aload_n 0, 1) := by decide +kernel
theorem dX11_reads_98 : decode cX11_reads 98 = .ok (.getfield 154, 3) := by decide +kernel
theorem dX11_reads_101 : decode cX11_reads 101 = .ok (.iload_n 2, 1) := by decide +kernel
theorem dX11_reads_102 : decode cX11_reads 102 = .ok (.aload_n 0, 1) := by decide +kernel
theorem dX11_reads_103 : decode cX11_reads 103 = .ok (.getfield 286, 3) := by decide +kernel
theorem dX11_reads_106 : decode cX11_reads 106 = .ok (.iastore, 1) := by decide +kernel
theorem dX11_reads_107 : decode cX11_reads 107 = .ok (.aload_n 0, 1) := by decide +kernel
theorem dX11_reads_108 : decode cX11_reads 108 = .ok (.getfield 157, 3) := by decide +kernel
theorem dX11_reads_111 : decode cX11_reads 111 = .ok (.iload_n 2, 1) := by decide +kernel
theorem dX11_reads_112 : decode cX11_reads 112 = .ok (.aload_n 0, 1) := by decide +kernel
theorem dX11_reads_113 : decode cX11_reads 113 = .ok (.getfield 289, 3) := by decide +kernel
theorem dX11_reads_116 : decode cX11_reads 116 = .ok (.iastore, 1) := by decide +kernel
theorem dX11_reads_117 : decode cX11_reads 117 = .ok (.aload_n 0, 1) := by decide +kernel
theorem dX11_reads_118 : decode cX11_reads 118 = .ok (.dup, 1) := by decide +kernel
theorem dX11_reads_119 : decode cX11_reads 119 = .ok (.getfield 299, 3) := by decide +kernel
theorem dX11_reads_122 : decode cX11_reads 122 = .ok (.iconst 1, 1) := by decide +kernel
theorem dX11_reads_123 : decode cX11_reads 123 = .ok (.iadd, 1) := by decide +kernel
theorem dX11_reads_124 : decode cX11_reads 124 = .ok (.putfield 299, 3) := by decide +kernel
theorem dX11_reads_127 : decode cX11_reads 127 = .ok (.iconst 1, 1) := by decide +kernel
theorem dX11_reads_128 : decode cX11_reads 128 = .ok (.ireturn, 1) := by decide +kernel
theorem dX11_emits_0 : decode cX11_emits 0 = .ok (.aload_n 0, 1) := by decide +kernel
theorem dX11_emits_1 : decode cX11_emits 1 = .ok (.getfield 142, 3) := by decide +kernel
theorem dX11_emits_4 : decode cX11_emits 4 = .ok (.bipush 100, 2) := by decide +kernel
theorem dX11_emits_6 : decode cX11_emits 6 = .ok (.iload_n 1, 1) := by decide +kernel
theorem dX11_emits_7 : decode cX11_emits 7 = .ok (.imul, 1) := by decide +kernel
theorem dX11_emits_8 : decode cX11_emits 8 = .ok (.aload_n 0, 1) := by decide +kernel
theorem dX11_emits_9 : decode cX11_emits 9 = .ok (.dup, 1) := by decide +kernel
theorem dX11_emits_10 : decode cX11_emits 10 = .ok (.getfield 305, 3) := by decide +kernel
theorem dX11_emits_13 : decode cX11_emits 13 = .ok (.dup_x1, 1) := by decide +kernel
theorem dX11_emits_14 : decode cX11_emits 14 = .ok (.iconst 1, 1) := by decide +kernel
theorem dX11_emits_15 : decode cX11_emits 15 = .ok (.iadd, 1) := by decide +kernel
theorem dX11_emits_16 : decode cX11_emits 16 = .ok (.putfield 305, 3) := by decide +kernel
theorem dX11_emits_19 : decode cX11_emits 19 = .ok (.iadd, 1) := by decide +kernel
theorem dX11_emits_20 : decode cX11_emits 20 = .ok (.iload_n 2, 1) := by decide +kernel
theorem dX11_emits_21 : decode cX11_emits 21 = .ok (.iastore, 1) := by decide +kernel
theorem dX11_emits_22 : decode cX11_emits 22 = .ok (.return_, 1) := by decide +kernel
theorem dX11_closes_0 : decode cX11_closes 0 = .ok (.aload_n 0, 1) := by decide +kernel
theorem dX11_closes_1 : decode cX11_closes 1 = .ok (.getfield 308, 3) := by decide +kernel
theorem dX11_closes_4 : decode cX11_closes 4 = .ok (.ifCond .le 48, 3) := by decide +kernel
theorem dX11_closes_7 : decode cX11_closes 7 = .ok (.aload_n 0, 1) := by decide +kernel
theorem dX11_closes_8 : decode cX11_closes 8 = .ok (.getfield 175, 3) := by decide +kernel
theorem dX11_closes_11 : decode cX11_closes 11 = .ok (.aload_n 0, 1) := by decide +kernel
theorem dX11_closes_12 : decode cX11_closes 12 = .ok (.getfield 308, 3) := by decide +kernel
theorem dX11_closes_15 : decode cX11_closes 15 = .ok (.iconst 1, 1) := by decide +kernel
theorem dX11_closes_16 : decode cX11_closes 16 = .ok (.isub, 1) := by decide +kernel
theorem dX11_closes_17 : decode cX11_closes 17 = .ok (.iaload, 1) := by decide +kernel
theorem dX11_closes_18 : decode cX11_closes 18 = .ok (.bipush 33, 2) := by decide +kernel
theorem dX11_closes_20 : decode cX11_closes 20 = .ok (.if_icmp .ne 32, 3) := by decide +kernel
theorem dX11_closes_23 : decode cX11_closes 23 = .ok (.aload_n 0, 1) := by decide +kernel
theorem dX11_closes_24 : decode cX11_closes 24 = .ok (.dup, 1) := by decide +kernel
theorem dX11_closes_25 : decode cX11_closes 25 = .ok (.getfield 308, 3) := by decide +kernel
theorem dX11_closes_28 : decode cX11_closes 28 = .ok (.iconst 1, 1) := by decide +kernel
theorem dX11_closes_29 : decode cX11_closes 29 = .ok (.isub, 1) := by decide +kernel
theorem dX11_closes_30 : decode cX11_closes 30 = .ok (.putfield 308, 3) := by decide +kernel
theorem dX11_closes_33 : decode cX11_closes 33 = .ok (.aload_n 0, 1) := by decide +kernel
theorem dX11_closes_34 : decode cX11_closes 34 = .ok (.dup, 1) := by decide +kernel
theorem dX11_closes_35 : decode cX11_closes 35 = .ok (.getfield 311, 3) := by decide +kernel
theorem dX11_closes_38 : decode cX11_closes 38 = .ok (.iconst 1, 1) := by decide +kernel
theorem dX11_closes_39 : decode cX11_closes 39 = .ok (.isub, 1) := by decide +kernel
theorem dX11_closes_40 : decode cX11_closes 40 = .ok (.putfield 311, 3) := by decide +kernel
theorem dX11_closes_43 : decode cX11_closes 43 = .ok (.aload_n 0, 1) := by decide +kernel
theorem dX11_closes_44 : decode cX11_closes 44 = .ok (.iload_n 1, 1) := by decide +kernel
theorem dX11_closes_45 : decode cX11_closes 45 = .ok (.iconst (-1), 1) := by decide +kernel
theorem dX11_closes_46 : decode cX11_closes 46 = .ok (.invokevirtual 314, 3) := by decide +kernel
theorem dX11_closes_49 : decode cX11_closes 49 = .ok (.goto (-49), 3) := by decide +kernel
theorem dX11_closes_52 : decode cX11_closes 52 = .ok (.return_, 1) := by decide +kernel
theorem dX11_pops_0 : decode cX11_pops 0 = .ok (.aload_n 0, 1) := by decide +kernel
theorem dX11_pops_1 : decode cX11_pops 1 = .ok (.getfield 308, 3) := by decide +kernel
theorem dX11_pops_4 : decode cX11_pops 4 = .ok (.ifCond .le 78, 3) := by decide +kernel
theorem dX11_pops_7 : decode cX11_pops 7 = .ok (.aload_n 0, 1) := by decide +kernel
theorem dX11_pops_8 : decode cX11_pops 8 = .ok (.getfield 175, 3) := by decide +kernel
theorem dX11_pops_11 : decode cX11_pops 11 = .ok (.aload_n 0, 1) := by decide +kernel
theorem dX11_pops_12 : decode cX11_pops 12 = .ok (.getfield 308, 3) := by decide +kernel
theorem dX11_pops_15 : decode cX11_pops 15 = .ok (.iconst 1, 1) := by decide +kernel
theorem dX11_pops_16 : decode cX11_pops 16 = .ok (.isub, 1) := by decide +kernel
theorem dX11_pops_17 : decode cX11_pops 17 = .ok (.iaload, 1) := by decide +kernel
theorem dX11_pops_18 : decode cX11_pops 18 = .ok (.bipush 38, 2) := by decide +kernel
theorem dX11_pops_20 : decode cX11_pops 20 = .ok (.if_icmp .eq 23, 3) := by decide +kernel
theorem dX11_pops_23 : decode cX11_pops 23 = .ok (.aload_n 0, 1) := by decide +kernel
theorem dX11_pops_24 : decode cX11_pops 24 = .ok (.getfield 175, 3) := by decide +kernel
theorem dX11_pops_27 : decode cX11_pops 27 = .ok (.aload_n 0, 1) := by decide +kernel
theorem dX11_pops_28 : decode cX11_pops 28 = .ok (.getfield 308, 3) := by decide +kernel
theorem dX11_pops_31 : decode cX11_pops 31 = .ok (.iconst 1, 1) := by decide +kernel
theorem dX11_pops_32 : decode cX11_pops 32 = .ok (.isub, 1) := by decide +kernel
theorem dX11_pops_33 : decode cX11_pops 33 = .ok (.iaload, 1) := by decide +kernel
theorem dX11_pops_34 : decode cX11_pops 34 = .ok (.bipush 124, 2) := by decide +kernel
theorem dX11_pops_36 : decode cX11_pops 36 = .ok (.if_icmp .ne 46, 3) := by decide +kernel
theorem dX11_pops_39 : decode cX11_pops 39 = .ok (.iload_n 2, 1) := by decide +kernel
theorem dX11_pops_40 : decode cX11_pops 40 = .ok (.ifCond .ne 42, 3) := by decide +kernel
theorem dX11_pops_43 : decode cX11_pops 43 = .ok (.aload_n 0, 1) := by decide +kernel
theorem dX11_pops_44 : decode cX11_pops 44 = .ok (.dup, 1) := by decide +kernel
theorem dX11_pops_45 : decode cX11_pops 45 = .ok (.getfield 308, 3) := by decide +kernel
theorem dX11_pops_48 : decode cX11_pops 48 = .ok (.iconst 1, 1) := by decide +kernel
theorem dX11_pops_49 : decode cX11_pops 49 = .ok (.isub, 1) := by decide +kernel
theorem dX11_pops_50 : decode cX11_pops 50 = .ok (.putfield 308, 3) := by decide +kernel
theorem dX11_pops_53 : decode cX11_pops 53 = .ok (.aload_n 0, 1) := by decide +kernel
theorem dX11_pops_54 : decode cX11_pops 54 = .ok (.iload_n 1, 1) := by decide +kernel
theorem dX11_pops_55 : decode cX11_pops 55 = .ok (.aload_n 0, 1) := by decide +kernel
theorem dX11_pops_56 : decode cX11_pops 56 = .ok (.getfield 175, 3) := by decide +kernel
theorem dX11_pops_59 : decode cX11_pops 59 = .ok (.aload_n 0, 1) := by decide +kernel
theorem dX11_pops_60 : decode cX11_pops 60 = .ok (.getfield 308, 3) := by decide +kernel
theorem dX11_pops_63 : decode cX11_pops 63 = .ok (.iaload, 1) := by decide +kernel
theorem dX11_pops_64 : decode cX11_pops 64 = .ok (.bipush 38, 2) := by decide +kernel
theorem dX11_pops_66 : decode cX11_pops 66 = .ok (.if_icmp .ne 8, 3) := by decide +kernel
theorem dX11_pops_69 : decode cX11_pops 69 = .ok (.bipush (-2), 2) := by decide +kernel
theorem dX11_pops_71 : decode cX11_pops 71 = .ok (.goto 5, 3) := by decide +kernel
theorem dX11_pops_74 : decode cX11_pops 74 = .ok (.bipush (-3), 2) := by decide +kernel
theorem dX11_pops_76 : decode cX11_pops 76 = .ok (.invokevirtual 314, 3) := by decide +kernel
theorem dX11_pops_79 : decode cX11_pops 79 = .ok (.goto (-79), 3) := by decide +kernel
theorem dX11_pops_82 : decode cX11_pops 82 = .ok (.return_, 1) := by decide +kernel
theorem dX11_compiles_0 : decode cX11_compiles 0 = .ok (.aload_n 0, 1) := by decide +kernel
theorem dX11_compiles_1 : decode cX11_compiles 1 = .ok (.bipush 60, 2) := by decide +kernel
theorem dX11_compiles_3 : decode cX11_compiles 3 = .ok (.iload_n 1, 1) := by decide +kernel
theorem dX11_compiles_4 : decode cX11_compiles 4 = .ok (.imul, 1) := by decide +kernel
theorem dX11_compiles_5 : decode cX11_compiles 5 = .ok (.putfield 276, 3) := by decide +kernel
theorem dX11_compiles_8 : decode cX11_compiles 8 = .ok (.aload_n 0, 1) := by decide +kernel
theorem dX11_compiles_9 : decode cX11_compiles 9 = .ok (.aload_n 0, 1) := by decide +kernel
theorem dX11_compiles_10 : decode cX11_compiles 10 = .ok (.getfield 51, 3) := by decide +kernel
theorem dX11_compiles_13 : decode cX11_compiles 13 = .ok (.iload_n 1, 1) := by decide +kernel
theorem dX11_compiles_14 : decode cX11_compiles 14 = .ok (.iaload, 1) := by decide +kernel
theorem dX11_compiles_15 : decode cX11_compiles 15 = .ok (.putfield 273, 3) := by decide +kernel
theorem dX11_compiles_18 : decode cX11_compiles 18 = .ok (.aload_n 0, 1) := by decide +kernel
theorem dX11_compiles_19 : decode cX11_compiles 19 = .ok (.iconst 0, 1) := by decide +kernel
theorem dX11_compiles_20 : decode cX11_compiles 20 = .ok (.putfield 270, 3) := by decide +kernel
theorem dX11_compiles_23 : decode cX11_compiles 23 = .ok (.aload_n 0, 1) := by decide +kernel
theorem dX11_compiles_24 : decode cX11_compiles 24 = .ok (.iconst 0, 1) := by decide +kernel
theorem dX11_compiles_25 : decode cX11_compiles 25 = .ok (.putfield 305, 3) := by decide +kernel
theorem dX11_compiles_28 : decode cX11_compiles 28 = .ok (.aload_n 0, 1) := by decide +kernel
theorem dX11_compiles_29 : decode cX11_compiles 29 = .ok (.iconst 0, 1) := by decide +kernel
theorem dX11_compiles_30 : decode cX11_compiles 30 = .ok (.putfield 299, 3) := by decide +kernel
theorem dX11_compiles_33 : decode cX11_compiles 33 = .ok (.aload_n 0, 1) := by decide +kernel
theorem dX11_compiles_34 : decode cX11_compiles 34 = .ok (.iconst 0, 1) := by decide +kernel
theorem dX11_compiles_35 : decode cX11_compiles 35 = .ok (.putfield 308, 3) := by decide +kernel
theorem dX11_compiles_38 : decode cX11_compiles 38 = .ok (.aload_n 0, 1) := by decide +kernel
theorem dX11_compiles_39 : decode cX11_compiles 39 = .ok (.iconst 0, 1) := by decide +kernel
theorem dX11_compiles_40 : decode cX11_compiles 40 = .ok (.putfield 311, 3) := by decide +kernel
theorem dX11_compiles_43 : decode cX11_compiles 43 = .ok (.aload_n 0, 1) := by decide +kernel
theorem dX11_compiles_44 : decode cX11_compiles 44 = .ok (.bipush 107, 2) := by decide +kernel
theorem dX11_compiles_46 : decode cX11_compiles 46 = .ok (.invokevirtual 283, 3) := by decide +kernel
theorem dX11_compiles_49 : decode cX11_compiles 49 = .ok (.ifCond .ne 8, 3) := by decide +kernel
theorem dX11_compiles_52 : decode cX11_compiles 52 = .ok (.aload_n 0, 1) := by decide +kernel
theorem dX11_compiles_53 : decode cX11_compiles 53 = .ok (.getfield 270, 3) := by decide +kernel
theorem dX11_compiles_56 : decode cX11_compiles 56 = .ok (.ireturn, 1) := by decide +kernel
theorem dX11_compiles_57 : decode cX11_compiles 57 = .ok (.aload_n 0, 1) := by decide +kernel
theorem dX11_compiles_58 : decode cX11_compiles 58 = .ok (.dup, 1) := by decide +kernel
theorem dX11_compiles_59 : decode cX11_compiles 59 = .ok (.getfield 270, 3) := by decide +kernel
theorem dX11_compiles_62 : decode cX11_compiles 62 = .ok (.iconst 1, 1) := by decide +kernel
theorem dX11_compiles_63 : decode cX11_compiles 63 = .ok (.iadd, 1) := by decide +kernel
theorem dX11_compiles_64 : decode cX11_compiles 64 = .ok (.putfield 270, 3) := by decide +kernel
theorem dX11_compiles_67 : decode cX11_compiles 67 = .ok (.aload_n 0, 1) := by decide +kernel
theorem dX11_compiles_68 : decode cX11_compiles 68 = .ok (.bipush 58, 2) := by decide +kernel
theorem dX11_compiles_70 : decode cX11_compiles 70 = .ok (.invokevirtual 283, 3) := by decide +kernel
theorem dX11_compiles_73 : decode cX11_compiles 73 = .ok (.ifCond .ne 8, 3) := by decide +kernel
theorem dX11_compiles_76 : decode cX11_compiles 76 = .ok (.aload_n 0, 1) := by decide +kernel
theorem dX11_compiles_77 : decode cX11_compiles 77 = .ok (.getfield 270, 3) := by decide +kernel
theorem dX11_compiles_80 : decode cX11_compiles 80 = .ok (.ireturn, 1) := by decide +kernel
theorem dX11_compiles_81 : decode cX11_compiles 81 = .ok (.aload_n 0, 1) := by decide +kernel
theorem dX11_compiles_82 : decode cX11_compiles 82 = .ok (.dup, 1) := by decide +kernel
theorem dX11_compiles_83 : decode cX11_compiles 83 = .ok (.getfield 270, 3) := by decide +kernel
theorem dX11_compiles_86 : decode cX11_compiles 86 = .ok (.iconst 1, 1) := by decide +kernel
theorem dX11_compiles_87 : decode cX11_compiles 87 = .ok (.iadd, 1) := by decide +kernel
theorem dX11_compiles_88 : decode cX11_compiles 88 = .ok (.putfield 270, 3) := by decide +kernel
theorem dX11_compiles_91 : decode cX11_compiles 91 = .ok (.iconst 0, 1) := by decide +kernel
theorem dX11_compiles_92 : decode cX11_compiles 92 = .ok (.istore_n 3, 1) := by decide +kernel
theorem dX11_compiles_93 : decode cX11_compiles 93 = .ok (.iconst 1, 1) := by decide +kernel
theorem dX11_compiles_94 : decode cX11_compiles 94 = .ok (.istore 4, 2) := by decide +kernel
theorem dX11_compiles_96 : decode cX11_compiles 96 = .ok (.aload_n 0, 1) := by decide +kernel
theorem dX11_compiles_97 : decode cX11_compiles 97 = .ok (.getfield 270, 3) := by decide +kernel
theorem dX11_compiles_100 : decode cX11_compiles 100 = .ok (.aload_n 0, 1) := by decide +kernel
theorem dX11_compiles_101 : decode cX11_compiles 101 = .ok (.getfield 273, 3) := by decide +kernel
theorem dX11_compiles_104 : decode cX11_compiles 104 = .ok (.if_icmp .ne 8, 3) := by decide +kernel
theorem dX11_compiles_107 : decode cX11_compiles 107 = .ok (.aload_n 0, 1) := by decide +kernel
theorem dX11_compiles_108 : decode cX11_compiles 108 = .ok (.getfield 273, 3) := by decide +kernel
theorem dX11_compiles_111 : decode cX11_compiles 111 = .ok (.ireturn, 1) := by decide +kernel
theorem dX11_compiles_112 : decode cX11_compiles 112 = .ok (.aload_n 0, 1) := by decide +kernel
theorem dX11_compiles_113 : decode cX11_compiles 113 = .ok (.invokevirtual 279, 3) := by decide +kernel
theorem dX11_compiles_116 : decode cX11_compiles 116 = .ok (.istore 5, 2) := by decide +kernel
theorem dX11_compiles_118 : decode cX11_compiles 118 = .ok (.iload 4, 2) := by decide +kernel
theorem dX11_compiles_120 : decode cX11_compiles 120 = .ok (.ifCond .eq 82, 3) := by decide +kernel
theorem dX11_compiles_123 : decode cX11_compiles 123 = .ok (.iload 5, 2) := by decide +kernel
theorem dX11_compiles_125 : decode cX11_compiles 125 = .ok (.bipush 33, 2) := by decide +kernel
theorem dX11_compiles_127 : decode cX11_compiles 127 = .ok (.if_icmp .eq 10, 3) := by decide +kernel
theorem dX11_compiles_130 : decode cX11_compiles 130 = .ok (.iload 5, 2) := by decide +kernel
theorem dX11_compiles_132 : decode cX11_compiles 132 = .ok (.bipush 40, 2) := by decide +kernel
theorem dX11_compiles_134 : decode cX11_compiles 134 = .ok (.if_icmp .ne 68, 3) := by decide +kernel
theorem dX11_compiles_137 : decode cX11_compiles 137 = .ok (.aload_n 0, 1) := by decide +kernel
theorem dX11_compiles_138 : decode cX11_compiles 138 = .ok (.getfield 311, 3) := by decide +kernel
theorem dX11_compiles_141 : decode cX11_compiles 141 = .ok (.bipush 20, 2) := by decide +kernel
theorem dX11_compiles_143 : decode cX11_compiles 143 = .ok (.if_icmp .ne 8, 3) := by decide +kernel
theorem dX11_compiles_146 : decode cX11_compiles 146 = .ok (.aload_n 0, 1) := by decide +kernel
theorem dX11_compiles_147 : decode cX11_compiles 147 = .ok (.getfield 270, 3) := by decide +kernel
theorem dX11_compiles_150 : decode cX11_compiles 150 = .ok (.ireturn, 1) := by decide +kernel
theorem dX11_compiles_151 : decode cX11_compiles 151 = .ok (.aload_n 0, 1) := by decide +kernel
theorem dX11_compiles_152 : decode cX11_compiles 152 = .ok (.dup, 1) := by decide +kernel
theorem dX11_compiles_153 : decode cX11_compiles 153 = .ok (.getfield 311, 3) := by decide +kernel
theorem dX11_compiles_156 : decode cX11_compiles 156 = .ok (.iconst 1, 1) := by decide +kernel
theorem dX11_compiles_157 : decode cX11_compiles 157 = .ok (.iadd, 1) := by decide +kernel
theorem dX11_compiles_158 : decode cX11_compiles 158 = .ok (.putfield 311, 3) := by decide +kernel
theorem dX11_compiles_161 : decode cX11_compiles 161 = .ok (.aload_n 0, 1) := by decide +kernel
theorem dX11_compiles_162 : decode cX11_compiles 162 = .ok (.getfield 175, 3) := by decide +kernel
theorem dX11_compiles_165 : decode cX11_compiles 165 = .ok (.aload_n 0, 1) := by decide +kernel
theorem dX11_compiles_166 : decode cX11_compiles 166 = .ok (.dup, 1) := by decide +kernel
theorem dX11_compiles_167 : decode cX11_compiles 167 = .ok (.getfield 308, 3) := by decide +kernel
theorem dX11_compiles_170 : decode cX11_compiles 170 = .ok (.dup_x1, 1) := by decide +kernel
theorem dX11_compiles_171 : decode cX11_compiles 171 = .ok (.iconst 1, 1) := by decide +kernel
theorem dX11_compiles_172 : decode cX11_compiles 172 = .ok (.iadd, 1) := by decide +kernel
theorem dX11_compiles_173 : decode cX11_compiles 173 = .ok (.putfield 308, 3) := by decide +kernel
theorem dX11_compiles_176 : decode cX11_compiles 176 = .ok (.iload 5, 2) := by decide +kernel
theorem dX11_compiles_178 : decode cX11_compiles 178 = .ok (.iastore, 1) := by decide +kernel
theorem dX11_compiles_179 : decode cX11_compiles 179 = .ok (.iload 5, 2) := by decide +kernel
theorem dX11_compiles_181 : decode cX11_compiles 181 = .ok (.bipush 40, 2) := by decide +kernel
theorem dX11_compiles_183 : decode cX11_compiles 183 = .ok (.if_icmp .ne 6, 3) := by decide +kernel
theorem dX11_compiles_186 : decode cX11_compiles 186 = .ok (.iinc 3 1, 3) := by decide +kernel
theorem dX11_compiles_189 : decode cX11_compiles 189 = .ok (.aload_n 0, 1) := by decide +kernel
theorem dX11_compiles_190 : decode cX11_compiles 190 = .ok (.dup, 1) := by decide +kernel
theorem dX11_compiles_191 : decode cX11_compiles 191 = .ok (.getfield 270, 3) := by decide +kernel
theorem dX11_compiles_194 : decode cX11_compiles 194 = .ok (.iconst 1, 1) := by decide +kernel
theorem dX11_compiles_195 : decode cX11_compiles 195 = .ok (.iadd, 1) := by decide +kernel
theorem dX11_compiles_196 : decode cX11_compiles 196 = .ok (.putfield 270, 3) := by decide +kernel
theorem dX11_compiles_199 : decode cX11_compiles 199 = .ok (.goto 185, 3) := by decide +kernel
theorem dX11_compiles_202 : decode cX11_compiles 202 = .ok (.iload 4, 2) := by decide +kernel
theorem dX11_compiles_204 : decode cX11_compiles 204 = .ok (.ifCond .eq 38, 3) := by decide +kernel
theorem dX11_compiles_207 : decode cX11_compiles 207 = .ok (.aload_n 0, 1) := by decide +kernel
theorem dX11_compiles_208 : decode cX11_compiles 208 = .ok (.iload_n 2, 1) := by decide +kernel
theorem dX11_compiles_209 : decode cX11_compiles 209 = .ok (.invokevirtual 318, 3) := by decide +kernel
theorem dX11_compiles_212 : decode cX11_compiles 212 = .ok (.ifCond .ne 8, 3) := by decide +kernel
theorem dX11_compiles_215 : decode cX11_compiles 215 = .ok (.aload_n 0, 1) := by decide +kernel
theorem dX11_compiles_216 : decode cX11_compiles 216 = .ok (.getfield 270, 3) := by decide +kernel
theorem dX11_compiles_219 : decode cX11_compiles 219 = .ok (.ireturn, 1) := by decide +kernel
theorem dX11_compiles_220 : decode cX11_compiles 220 = .ok (.aload_n 0, 1) := by decide +kernel
theorem dX11_compiles_221 : decode cX11_compiles 221 = .ok (.iload_n 2, 1) := by decide +kernel
theorem dX11_compiles_222 : decode cX11_compiles 222 = .ok (.aload_n 0, 1) := by decide +kernel
theorem dX11_compiles_223 : decode cX11_compiles 223 = .ok (.getfield 299, 3) := by decide +kernel
theorem dX11_compiles_226 : decode cX11_compiles 226 = .ok (.iconst 1, 1) := by decide +kernel
theorem dX11_compiles_227 : decode cX11_compiles 227 = .ok (.isub, 1) := by decide +kernel
theorem dX11_compiles_228 : decode cX11_compiles 228 = .ok (.invokevirtual 314, 3) := by decide +kernel
theorem dX11_compiles_231 : decode cX11_compiles 231 = .ok (.aload_n 0, 1) := by decide +kernel
theorem dX11_compiles_232 : decode cX11_compiles 232 = .ok (.iload_n 2, 1) := by decide +kernel
theorem dX11_compiles_233 : decode cX11_compiles 233 = .ok (.invokevirtual 321, 3) := by decide +kernel
theorem dX11_compiles_236 : decode cX11_compiles 236 = .ok (.iconst 0, 1) := by decide +kernel
theorem dX11_compiles_237 : decode cX11_compiles 237 = .ok (.istore 4, 2) := by decide +kernel
theorem dX11_compiles_239 : decode cX11_compiles 239 = .ok (.goto 145, 3) := by decide +kernel
theorem dX11_compiles_242 : decode cX11_compiles 242 = .ok (.iload 5, 2) := by decide +kernel
theorem dX11_compiles_244 : decode cX11_compiles 244 = .ok (.bipush 38, 2) := by decide +kernel
theorem dX11_compiles_246 : decode cX11_compiles 246 = .ok (.if_icmp .eq 10, 3) := by decide +kernel
theorem dX11_compiles_249 : decode cX11_compiles 249 = .ok (.iload 5, 2) := by decide +kernel
theorem dX11_compiles_251 : decode cX11_compiles 251 = .ok (.bipush 124, 2) := by decide +kernel
theorem dX11_compiles_253 : decode cX11_compiles 253 = .ok (.if_icmp .ne 54, 3) := by decide +kernel
theorem dX11_compiles_256 : decode cX11_compiles 256 = .ok (.aload_n 0, 1) := by decide +kernel
theorem dX11_compiles_257 : decode cX11_compiles 257 = .ok (.iload_n 2, 1) := by decide +kernel
theorem dX11_compiles_258 : decode cX11_compiles 258 = .ok (.iload 5, 2) := by decide +kernel
theorem dX11_compiles_260 : decode cX11_compiles 260 = .ok (.bipush 38, 2) := by decide +kernel
theorem dX11_compiles_262 : decode cX11_compiles 262 = .ok (.if_icmp .ne 7, 3) := by decide +kernel
theorem dX11_compiles_265 : decode cX11_compiles 265 = .ok (.iconst 1, 1) := by decide +kernel
theorem dX11_compiles_266 : decode cX11_compiles 266 = .ok (.goto 4, 3) := by decide +kernel
theorem dX11_compiles_269 : decode cX11_compiles 269 = .ok (.iconst 0, 1) := by decide +kernel
theorem dX11_compiles_270 : decode cX11_compiles 270 = .ok (.invokevirtual 325, 3) := by decide +kernel
theorem dX11_compiles_273 : decode cX11_compiles 273 = .ok (.aload_n 0, 1) := by decide +kernel
theorem dX11_compiles_274 : decode cX11_compiles 274 = .ok (.getfield 175, 3) := by decide +kernel
theorem dX11_compiles_277 : decode cX11_compiles 277 = .ok (.aload_n 0, 1) := by decide +kernel
theorem dX11_compiles_278 : decode cX11_compiles 278 = .ok (.dup, 1) := by decide +kernel
theorem dX11_compiles_279 : decode cX11_compiles 279 = .ok (.getfield 308, 3) := by decide +kernel
theorem dX11_compiles_282 : decode cX11_compiles 282 = .ok (.dup_x1, 1) := by decide +kernel
theorem dX11_compiles_283 : decode cX11_compiles 283 = .ok (.iconst 1, 1) := by decide +kernel
theorem dX11_compiles_284 : decode cX11_compiles 284 = .ok (.iadd, 1) := by decide +kernel
theorem dX11_compiles_285 : decode cX11_compiles 285 = .ok (.putfield 308, 3) := by decide +kernel
theorem dX11_compiles_288 : decode cX11_compiles 288 = .ok (.iload 5, 2) := by decide +kernel
theorem dX11_compiles_290 : decode cX11_compiles 290 = .ok (.iastore, 1) := by decide +kernel
theorem dX11_compiles_291 : decode cX11_compiles 291 = .ok (.iconst 1, 1) := by decide +kernel
theorem dX11_compiles_292 : decode cX11_compiles 292 = .ok (.istore 4, 2) := by decide +kernel
theorem dX11_compiles_294 : decode cX11_compiles 294 = .ok (.aload_n 0, 1) := by decide +kernel
theorem dX11_compiles_295 : decode cX11_compiles 295 = .ok (.dup, 1) := by decide +kernel
theorem dX11_compiles_296 : decode cX11_compiles 296 = .ok (.getfield 270, 3) := by decide +kernel
theorem dX11_compiles_299 : decode cX11_compiles 299 = .ok (.iconst 1, 1) := by decide +kernel
theorem dX11_compiles_300 : decode cX11_compiles 300 = .ok (.iadd, 1) := by decide +kernel
theorem dX11_compiles_301 : decode cX11_compiles 301 = .ok (.putfield 270, 3) := by decide +kernel
theorem dX11_compiles_304 : decode cX11_compiles 304 = .ok (.goto 80, 3) := by decide +kernel
theorem dX11_compiles_307 : decode cX11_compiles 307 = .ok (.iload 5, 2) := by decide +kernel
theorem dX11_compiles_309 : decode cX11_compiles 309 = .ok (.bipush 41, 2) := by decide +kernel
theorem dX11_compiles_311 : decode cX11_compiles 311 = .ok (.if_icmp .ne 54, 3) := by decide +kernel
theorem dX11_compiles_314 : decode cX11_compiles 314 = .ok (.iload_n 3, 1) := by decide +kernel
theorem dX11_compiles_315 : decode cX11_compiles 315 = .ok (.ifCond .le 50, 3) := by decide +kernel
theorem dX11_compiles_318 : decode cX11_compiles 318 = .ok (.aload_n 0, 1) := by decide +kernel
theorem dX11_compiles_319 : decode cX11_compiles 319 = .ok (.iload_n 2, 1) := by decide +kernel
theorem dX11_compiles_320 : decode cX11_compiles 320 = .ok (.iconst 0, 1) := by decide +kernel
theorem dX11_compiles_321 : decode cX11_compiles 321 = .ok (.invokevirtual 325, 3) := by decide +kernel
theorem dX11_compiles_324 : decode cX11_compiles 324 = .ok (.aload_n 0, 1) := by decide +kernel
theorem dX11_compiles_325 : decode cX11_compiles 325 = .ok (.dup, 1) := by decide +kernel
theorem dX11_compiles_326 : decode cX11_compiles 326 = .ok (.getfield 308, 3) := by decide +kernel
theorem dX11_compiles_329 : decode cX11_compiles 329 = .ok (.iconst 1, 1) := by decide +kernel
theorem dX11_compiles_330 : decode cX11_compiles 330 = .ok (.isub, 1) := by decide +kernel
theorem dX11_compiles_331 : decode cX11_compiles 331 = .ok (.putfield 308, 3) := by decide +kernel
theorem dX11_compiles_334 : decode cX11_compiles 334 = .ok (.aload_n 0, 1) := by decide +kernel
theorem dX11_compiles_335 : decode cX11_compiles 335 = .ok (.dup, 1) := by decide +kernel
theorem dX11_compiles_336 : decode cX11_compiles 336 = .ok (.getfield 311, 3) := by decide +kernel
theorem dX11_compiles_339 : decode cX11_compiles 339 = .ok (.iconst 1, 1) := by decide +kernel
theorem dX11_compiles_340 : decode cX11_compiles 340 = .ok (.isub, 1) := by decide +kernel
theorem dX11_compiles_341 : decode cX11_compiles 341 = .ok (.putfield 311, 3) := by decide +kernel
theorem dX11_compiles_344 : decode cX11_compiles 344 = .ok (.iinc 3 (-1), 3) := by decide +kernel
theorem dX11_compiles_347 : decode cX11_compiles 347 = .ok (.aload_n 0, 1) := by decide +kernel
theorem dX11_compiles_348 : decode cX11_compiles 348 = .ok (.iload_n 2, 1) := by decide +kernel
theorem dX11_compiles_349 : decode cX11_compiles 349 = .ok (.invokevirtual 321, 3) := by decide +kernel
theorem dX11_compiles_352 : decode cX11_compiles 352 = .ok (.aload_n 0, 1) := by decide +kernel
theorem dX11_compiles_353 : decode cX11_compiles 353 = .ok (.dup, 1) := by decide +kernel
theorem dX11_compiles_354 : decode cX11_compiles 354 = .ok (.getfield 270, 3) := by decide +kernel
theorem dX11_compiles_357 : decode cX11_compiles 357 = .ok (.iconst 1, 1) := by decide +kernel
theorem dX11_compiles_358 : decode cX11_compiles 358 = .ok (.iadd, 1) := by decide +kernel
theorem dX11_compiles_359 : decode cX11_compiles 359 = .ok (.putfield 270, 3) := by decide +kernel
theorem dX11_compiles_362 : decode cX11_compiles 362 = .ok (.goto 22, 3) := by decide +kernel
theorem dX11_compiles_365 : decode cX11_compiles 365 = .ok (.iload 5, 2) := by decide +kernel
theorem dX11_compiles_367 : decode cX11_compiles 367 = .ok (.bipush 59, 2) := by decide +kernel
theorem dX11_compiles_369 : decode cX11_compiles 369 = .ok (.if_icmp .ne 10, 3) := by decide +kernel
theorem dX11_compiles_372 : decode cX11_compiles 372 = .ok (.iload_n 3, 1) := by decide +kernel
theorem dX11_compiles_373 : decode cX11_compiles 373 = .ok (.ifCond .ne 6, 3) := by decide +kernel
theorem dX11_compiles_376 : decode cX11_compiles 376 = .ok (.goto 11, 3) := by decide +kernel
theorem dX11_compiles_379 : decode cX11_compiles 379 = .ok (.aload_n 0, 1) := by decide +kernel
theorem dX11_compiles_380 : decode cX11_compiles 380 = .ok (.getfield 270, 3) := by decide +kernel
theorem dX11_compiles_383 : decode cX11_compiles 383 = .ok (.ireturn, 1) := by decide +kernel
theorem dX11_compiles_384 : decode cX11_compiles 384 = .ok (.goto (-288), 3) := by decide +kernel
theorem dX11_compiles_387 : decode cX11_compiles 387 = .ok (.aload_n 0, 1) := by decide +kernel
theorem dX11_compiles_388 : decode cX11_compiles 388 = .ok (.iload_n 2, 1) := by decide +kernel
theorem dX11_compiles_389 : decode cX11_compiles 389 = .ok (.iconst 0, 1) := by decide +kernel
theorem dX11_compiles_390 : decode cX11_compiles 390 = .ok (.invokevirtual 325, 3) := by decide +kernel
theorem dX11_compiles_393 : decode cX11_compiles 393 = .ok (.aload_n 0, 1) := by decide +kernel
theorem dX11_compiles_394 : decode cX11_compiles 394 = .ok (.dup, 1) := by decide +kernel
theorem dX11_compiles_395 : decode cX11_compiles 395 = .ok (.getfield 270, 3) := by decide +kernel
theorem dX11_compiles_398 : decode cX11_compiles 398 = .ok (.iconst 1, 1) := by decide +kernel
theorem dX11_compiles_399 : decode cX11_compiles 399 = .ok (.iadd, 1) := by decide +kernel
theorem dX11_compiles_400 : decode cX11_compiles 400 = .ok (.putfield 270, 3) := by decide +kernel
theorem dX11_compiles_403 : decode cX11_compiles 403 = .ok (.aload_n 0, 1) := by decide +kernel
theorem dX11_compiles_404 : decode cX11_compiles 404 = .ok (.bipush 106, 2) := by decide +kernel
theorem dX11_compiles_406 : decode cX11_compiles 406 = .ok (.invokevirtual 283, 3) := by decide +kernel
theorem dX11_compiles_409 : decode cX11_compiles 409 = .ok (.ifCond .ne 8, 3) := by decide +kernel
theorem dX11_compiles_412 : decode cX11_compiles 412 = .ok (.aload_n 0, 1) := by decide +kernel
theorem dX11_compiles_413 : decode cX11_compiles 413 = .ok (.getfield 270, 3) := by decide +kernel
theorem dX11_compiles_416 : decode cX11_compiles 416 = .ok (.ireturn, 1) := by decide +kernel
theorem dX11_compiles_417 : decode cX11_compiles 417 = .ok (.aload_n 0, 1) := by decide +kernel
theorem dX11_compiles_418 : decode cX11_compiles 418 = .ok (.dup, 1) := by decide +kernel
theorem dX11_compiles_419 : decode cX11_compiles 419 = .ok (.getfield 270, 3) := by decide +kernel
theorem dX11_compiles_422 : decode cX11_compiles 422 = .ok (.iconst 1, 1) := by decide +kernel
theorem dX11_compiles_423 : decode cX11_compiles 423 = .ok (.iadd, 1) := by decide +kernel
theorem dX11_compiles_424 : decode cX11_compiles 424 = .ok (.putfield 270, 3) := by decide +kernel
theorem dX11_compiles_427 : decode cX11_compiles 427 = .ok (.aload_n 0, 1) := by decide +kernel
theorem dX11_compiles_428 : decode cX11_compiles 428 = .ok (.bipush 58, 2) := by decide +kernel
theorem dX11_compiles_430 : decode cX11_compiles 430 = .ok (.invokevirtual 283, 3) := by decide +kernel
theorem dX11_compiles_433 : decode cX11_compiles 433 = .ok (.ifCond .ne 8, 3) := by decide +kernel
theorem dX11_compiles_436 : decode cX11_compiles 436 = .ok (.aload_n 0, 1) := by decide +kernel
theorem dX11_compiles_437 : decode cX11_compiles 437 = .ok (.getfield 270, 3) := by decide +kernel
theorem dX11_compiles_440 : decode cX11_compiles 440 = .ok (.ireturn, 1) := by decide +kernel
theorem dX11_compiles_441 : decode cX11_compiles 441 = .ok (.aload_n 0, 1) := by decide +kernel
theorem dX11_compiles_442 : decode cX11_compiles 442 = .ok (.dup, 1) := by decide +kernel
theorem dX11_compiles_443 : decode cX11_compiles 443 = .ok (.getfield 270, 3) := by decide +kernel
theorem dX11_compiles_446 : decode cX11_compiles 446 = .ok (.iconst 1, 1) := by decide +kernel
theorem dX11_compiles_447 : decode cX11_compiles 447 = .ok (.iadd, 1) := by decide +kernel
theorem dX11_compiles_448 : decode cX11_compiles 448 = .ok (.putfield 270, 3) := by decide +kernel
theorem dX11_compiles_451 : decode cX11_compiles 451 = .ok (.aload_n 0, 1) := by decide +kernel
theorem dX11_compiles_452 : decode cX11_compiles 452 = .ok (.bipush 120, 2) := by decide +kernel
theorem dX11_compiles_454 : decode cX11_compiles 454 = .ok (.invokevirtual 283, 3) := by decide +kernel
theorem dX11_compiles_457 : decode cX11_compiles 457 = .ok (.ifCond .ne 26, 3) := by decide +kernel
theorem dX11_compiles_460 : decode cX11_compiles 460 = .ok (.aload_n 0, 1) := by decide +kernel
theorem dX11_compiles_461 : decode cX11_compiles 461 = .ok (.bipush 108, 2) := by decide +kernel
theorem dX11_compiles_463 : decode cX11_compiles 463 = .ok (.invokevirtual 283, 3) := by decide +kernel
theorem dX11_compiles_466 : decode cX11_compiles 466 = .ok (.ifCond .ne 17, 3) := by decide +kernel
theorem dX11_compiles_469 : decode cX11_compiles 469 = .ok (.aload_n 0, 1) := by decide +kernel
theorem dX11_compiles_470 : decode cX11_compiles 470 = .ok (.bipush 99, 2) := by decide +kernel
theorem dX11_compiles_472 : decode cX11_compiles 472 = .ok (.invokevirtual 283, 3) := by decide +kernel
theorem dX11_compiles_475 : decode cX11_compiles 475 = .ok (.ifCond .ne 8, 3) := by decide +kernel
theorem dX11_compiles_478 : decode cX11_compiles 478 = .ok (.aload_n 0, 1) := by decide +kernel
theorem dX11_compiles_479 : decode cX11_compiles 479 = .ok (.getfield 270, 3) := by decide +kernel
theorem dX11_compiles_482 : decode cX11_compiles 482 = .ok (.ireturn, 1) := by decide +kernel
theorem dX11_compiles_483 : decode cX11_compiles 483 = .ok (.aload_n 0, 1) := by decide +kernel
theorem dX11_compiles_484 : decode cX11_compiles 484 = .ok (.getfield 139, 3) := by decide +kernel
theorem dX11_compiles_487 : decode cX11_compiles 487 = .ok (.iload_n 2, 1) := by decide +kernel
theorem dX11_compiles_488 : decode cX11_compiles 488 = .ok (.aload_n 0, 1) := by decide +kernel
theorem dX11_compiles_489 : decode cX11_compiles 489 = .ok (.bipush 120, 2) := by decide +kernel
theorem dX11_compiles_491 : decode cX11_compiles 491 = .ok (.invokevirtual 283, 3) := by decide +kernel
theorem dX11_compiles_494 : decode cX11_compiles 494 = .ok (.ifCond .eq 7, 3) := by decide +kernel
theorem dX11_compiles_497 : decode cX11_compiles 497 = .ok (.iconst 1, 1) := by decide +kernel
theorem dX11_compiles_498 : decode cX11_compiles 498 = .ok (.goto 17, 3) := by decide +kernel
theorem dX11_compiles_501 : decode cX11_compiles 501 = .ok (.aload_n 0, 1) := by decide +kernel
theorem dX11_compiles_502 : decode cX11_compiles 502 = .ok (.bipush 108, 2) := by decide +kernel
theorem dX11_compiles_504 : decode cX11_compiles 504 = .ok (.invokevirtual 283, 3) := by decide +kernel
theorem dX11_compiles_507 : decode cX11_compiles 507 = .ok (.ifCond .eq 7, 3) := by decide +kernel
theorem dX11_compiles_510 : decode cX11_compiles 510 = .ok (.iconst 2, 1) := by decide +kernel
theorem dX11_compiles_511 : decode cX11_compiles 511 = .ok (.goto 4, 3) := by decide +kernel
theorem dX11_compiles_514 : decode cX11_compiles 514 = .ok (.iconst 3, 1) := by decide +kernel
theorem dX11_compiles_515 : decode cX11_compiles 515 = .ok (.iastore, 1) := by decide +kernel
theorem dX11_compiles_516 : decode cX11_compiles 516 = .ok (.aload_n 0, 1) := by decide +kernel
theorem dX11_compiles_517 : decode cX11_compiles 517 = .ok (.dup, 1) := by decide +kernel
theorem dX11_compiles_518 : decode cX11_compiles 518 = .ok (.getfield 270, 3) := by decide +kernel
theorem dX11_compiles_521 : decode cX11_compiles 521 = .ok (.iconst 1, 1) := by decide +kernel
theorem dX11_compiles_522 : decode cX11_compiles 522 = .ok (.iadd, 1) := by decide +kernel
theorem dX11_compiles_523 : decode cX11_compiles 523 = .ok (.putfield 270, 3) := by decide +kernel
theorem dX11_compiles_526 : decode cX11_compiles 526 = .ok (.aload_n 0, 1) := by decide +kernel
theorem dX11_compiles_527 : decode cX11_compiles 527 = .ok (.getfield 136, 3) := by decide +kernel
theorem dX11_compiles_530 : decode cX11_compiles 530 = .ok (.iload_n 2, 1) := by decide +kernel
theorem dX11_compiles_531 : decode cX11_compiles 531 = .ok (.aload_n 0, 1) := by decide +kernel
theorem dX11_compiles_532 : decode cX11_compiles 532 = .ok (.getfield 305, 3) := by decide +kernel
theorem dX11_compiles_535 : decode cX11_compiles 535 = .ok (.iastore, 1) := by decide +kernel
theorem dX11_compiles_536 : decode cX11_compiles 536 = .ok (.aload_n 0, 1) := by decide +kernel
theorem dX11_compiles_537 : decode cX11_compiles 537 = .ok (.getfield 270, 3) := by decide +kernel
theorem dX11_compiles_540 : decode cX11_compiles 540 = .ok (.aload_n 0, 1) := by decide +kernel
theorem dX11_compiles_541 : decode cX11_compiles 541 = .ok (.getfield 273, 3) := by decide +kernel
theorem dX11_compiles_544 : decode cX11_compiles 544 = .ok (.if_icmp .ge 10, 3) := by decide +kernel
theorem dX11_compiles_547 : decode cX11_compiles 547 = .ok (.aload_n 0, 1) := by decide +kernel
theorem dX11_compiles_548 : decode cX11_compiles 548 = .ok (.getfield 270, 3) := by decide +kernel
theorem dX11_compiles_551 : decode cX11_compiles 551 = .ok (.goto 4, 3) := by decide +kernel
theorem dX11_compiles_554 : decode cX11_compiles 554 = .ok (.iconst (-1), 1) := by decide +kernel
theorem dX11_compiles_555 : decode cX11_compiles 555 = .ok (.ireturn, 1) := by decide +kernel
theorem dX11_rule_0 : decode cX11_rule 0 = .ok (.iload_n 1, 1) := by decide +kernel
theorem dX11_rule_1 : decode cX11_rule 1 = .ok (.iconst 1, 1) := by decide +kernel
theorem dX11_rule_2 : decode cX11_rule 2 = .ok (.if_icmp .lt 15, 3) := by decide +kernel
theorem dX11_rule_5 : decode cX11_rule 5 = .ok (.iload_n 1, 1) := by decide +kernel
theorem dX11_rule_6 : decode cX11_rule 6 = .ok (.iconst 3, 1) := by decide +kernel
theorem dX11_rule_7 : decode cX11_rule 7 = .ok (.if_icmp .gt 10, 3) := by decide +kernel
theorem dX11_rule_10 : decode cX11_rule 10 = .ok (.iload_n 3, 1) := by decide +kernel
theorem dX11_rule_11 : decode cX11_rule 11 = .ok (.invokestatic 237, 3) := by decide +kernel
theorem dX11_rule_14 : decode cX11_rule 14 = .ok (.ifCond .ne 9, 3) := by decide +kernel
theorem dX11_rule_17 : decode cX11_rule 17 = .ok (.aload_n 0, 1) := by decide +kernel
theorem dX11_rule_18 : decode cX11_rule 18 = .ok (.iconst (-1), 1) := by decide +kernel
theorem dX11_rule_19 : decode cX11_rule 19 = .ok (.invokevirtual 212, 3) := by decide +kernel
theorem dX11_rule_22 : decode cX11_rule 22 = .ok (.ireturn, 1) := by decide +kernel
theorem dX11_rule_23 : decode cX11_rule 23 = .ok (.aload_n 0, 1) := by decide +kernel
theorem dX11_rule_24 : decode cX11_rule 24 = .ok (.iload_n 3, 1) := by decide +kernel
theorem dX11_rule_25 : decode cX11_rule 25 = .ok (.invokevirtual 249, 3) := by decide +kernel
theorem dX11_rule_28 : decode cX11_rule 28 = .ok (.istore 4, 2) := by decide +kernel
theorem dX11_rule_30 : decode cX11_rule 30 = .ok (.iload 4, 2) := by decide +kernel
theorem dX11_rule_32 : decode cX11_rule 32 = .ok (.ifCond .eq 10, 3) := by decide +kernel
theorem dX11_rule_35 : decode cX11_rule 35 = .ok (.aload_n 0, 1) := by decide +kernel
theorem dX11_rule_36 : decode cX11_rule 36 = .ok (.iload 4, 2) := by decide +kernel
theorem dX11_rule_38 : decode cX11_rule 38 = .ok (.invokevirtual 212, 3) := by decide +kernel
theorem dX11_rule_41 : decode cX11_rule 41 = .ok (.ireturn, 1) := by decide +kernel
theorem dX11_rule_42 : decode cX11_rule 42 = .ok (.iload_n 2, 1) := by decide +kernel
theorem dX11_rule_43 : decode cX11_rule 43 = .ok (.ifCond .lt 10, 3) := by decide +kernel
theorem dX11_rule_46 : decode cX11_rule 46 = .ok (.iload_n 2, 1) := by decide +kernel
theorem dX11_rule_47 : decode cX11_rule 47 = .ok (.sipush 4000, 3) := by decide +kernel
theorem dX11_rule_50 : decode cX11_rule 50 = .ok (.if_icmp .le 10, 3) := by decide +kernel
theorem dX11_rule_53 : decode cX11_rule 53 = .ok (.aload_n 0, 1) := by decide +kernel
theorem dX11_rule_54 : decode cX11_rule 54 = .ok (.bipush (-6), 2) := by decide +kernel
theorem dX11_rule_56 : decode cX11_rule 56 = .ok (.invokevirtual 212, 3) := by decide +kernel
theorem dX11_rule_59 : decode cX11_rule 59 = .ok (.ireturn, 1) := by decide +kernel
theorem dX11_rule_60 : decode cX11_rule 60 = .ok (.aload_n 0, 1) := by decide +kernel
theorem dX11_rule_61 : decode cX11_rule 61 = .ok (.aload_n 0, 1) := by decide +kernel
theorem dX11_rule_62 : decode cX11_rule 62 = .ok (.iload_n 3, 1) := by decide +kernel
theorem dX11_rule_63 : decode cX11_rule 63 = .ok (.aload_n 0, 1) := by decide +kernel
theorem dX11_rule_64 : decode cX11_rule 64 = .ok (.getfield 329, 3) := by decide +kernel
theorem dX11_rule_67 : decode cX11_rule 67 = .ok (.invokevirtual 332, 3) := by decide +kernel
theorem dX11_rule_70 : decode cX11_rule 70 = .ok (.putfield 13, 3) := by decide +kernel
theorem dX11_rule_73 : decode cX11_rule 73 = .ok (.aload_n 0, 1) := by decide +kernel
theorem dX11_rule_74 : decode cX11_rule 74 = .ok (.getfield 13, 3) := by decide +kernel
theorem dX11_rule_77 : decode cX11_rule 77 = .ok (.iconst (-1), 1) := by decide +kernel
theorem dX11_rule_78 : decode cX11_rule 78 = .ok (.if_icmp .eq 10, 3) := by decide +kernel
theorem dX11_rule_81 : decode cX11_rule 81 = .ok (.aload_n 0, 1) := by decide +kernel
theorem dX11_rule_82 : decode cX11_rule 82 = .ok (.bipush (-6), 2) := by decide +kernel
theorem dX11_rule_84 : decode cX11_rule 84 = .ok (.invokevirtual 212, 3) := by decide +kernel
theorem dX11_rule_87 : decode cX11_rule 87 = .ok (.ireturn, 1) := by decide +kernel
theorem dX11_rule_88 : decode cX11_rule 88 = .ok (.aload_n 0, 1) := by decide +kernel
theorem dX11_rule_89 : decode cX11_rule 89 = .ok (.getfield 329, 3) := by decide +kernel
theorem dX11_rule_92 : decode cX11_rule 92 = .ok (.bipush 12, 2) := by decide +kernel
theorem dX11_rule_94 : decode cX11_rule 94 = .ok (.if_icmp .ne 10, 3) := by decide +kernel
theorem dX11_rule_97 : decode cX11_rule 97 = .ok (.aload_n 0, 1) := by decide +kernel
theorem dX11_rule_98 : decode cX11_rule 98 = .ok (.bipush (-7), 2) := by decide +kernel
theorem dX11_rule_100 : decode cX11_rule 100 = .ok (.invokevirtual 212, 3) := by decide +kernel
theorem dX11_rule_103 : decode cX11_rule 103 = .ok (.ireturn, 1) := by decide +kernel
theorem dX11_rule_104 : decode cX11_rule 104 = .ok (.aload_n 0, 1) := by decide +kernel
theorem dX11_rule_105 : decode cX11_rule 105 = .ok (.getfield 127, 3) := by decide +kernel
theorem dX11_rule_108 : decode cX11_rule 108 = .ok (.aload_n 0, 1) := by decide +kernel
theorem dX11_rule_109 : decode cX11_rule 109 = .ok (.getfield 329, 3) := by decide +kernel
theorem dX11_rule_112 : decode cX11_rule 112 = .ok (.iload_n 1, 1) := by decide +kernel
theorem dX11_rule_113 : decode cX11_rule 113 = .ok (.iastore, 1) := by decide +kernel
theorem dX11_rule_114 : decode cX11_rule 114 = .ok (.aload_n 0, 1) := by decide +kernel
theorem dX11_rule_115 : decode cX11_rule 115 = .ok (.getfield 130, 3) := by decide +kernel
theorem dX11_rule_118 : decode cX11_rule 118 = .ok (.aload_n 0, 1) := by decide +kernel
theorem dX11_rule_119 : decode cX11_rule 119 = .ok (.getfield 329, 3) := by decide +kernel
theorem dX11_rule_122 : decode cX11_rule 122 = .ok (.iload_n 2, 1) := by decide +kernel
theorem dX11_rule_123 : decode cX11_rule 123 = .ok (.iastore, 1) := by decide +kernel
theorem dX11_rule_124 : decode cX11_rule 124 = .ok (.aload_n 0, 1) := by decide +kernel
theorem dX11_rule_125 : decode cX11_rule 125 = .ok (.getfield 133, 3) := by decide +kernel
theorem dX11_rule_128 : decode cX11_rule 128 = .ok (.aload_n 0, 1) := by decide +kernel
theorem dX11_rule_129 : decode cX11_rule 129 = .ok (.getfield 329, 3) := by decide +kernel
theorem dX11_rule_132 : decode cX11_rule 132 = .ok (.iconst (-1), 1) := by decide +kernel
theorem dX11_rule_133 : decode cX11_rule 133 = .ok (.iastore, 1) := by decide +kernel
theorem dX11_rule_134 : decode cX11_rule 134 = .ok (.aload_n 0, 1) := by decide +kernel
theorem dX11_rule_135 : decode cX11_rule 135 = .ok (.dup, 1) := by decide +kernel
theorem dX11_rule_136 : decode cX11_rule 136 = .ok (.getfield 329, 3) := by decide +kernel
theorem dX11_rule_139 : decode cX11_rule 139 = .ok (.dup_x1, 1) := by decide +kernel
theorem dX11_rule_140 : decode cX11_rule 140 = .ok (.iconst 1, 1) := by decide +kernel
theorem dX11_rule_141 : decode cX11_rule 141 = .ok (.iadd, 1) := by decide +kernel
theorem dX11_rule_142 : decode cX11_rule 142 = .ok (.putfield 329, 3) := by decide +kernel
theorem dX11_rule_145 : decode cX11_rule 145 = .ok (.ireturn, 1) := by decide +kernel
theorem dX11_fault_0 : decode cX11_fault 0 = .ok (.aload_n 0, 1) := by decide +kernel
theorem dX11_fault_1 : decode cX11_fault 1 = .ok (.getfield 13, 3) := by decide +kernel
theorem dX11_fault_4 : decode cX11_fault 4 = .ok (.ireturn, 1) := by decide +kernel
theorem dX11_strike_0 : decode cX11_strike 0 = .ok (.iload_n 1, 1) := by decide +kernel
theorem dX11_strike_1 : decode cX11_strike 1 = .ok (.ifCond .lt 11, 3) := by decide +kernel
theorem dX11_strike_4 : decode cX11_strike 4 = .ok (.iload_n 1, 1) := by decide +kernel
theorem dX11_strike_5 : decode cX11_strike 5 = .ok (.aload_n 0, 1) := by decide +kernel
theorem dX11_strike_6 : decode cX11_strike 6 = .ok (.getfield 329, 3) := by decide +kernel
theorem dX11_strike_9 : decode cX11_strike 9 = .ok (.if_icmp .lt 9, 3) := by decide +kernel
theorem dX11_strike_12 : decode cX11_strike 12 = .ok (.aload_n 0, 1) := by decide +kernel
theorem dX11_strike_13 : decode cX11_strike 13 = .ok (.iconst (-1), 1) := by decide +kernel
theorem dX11_strike_14 : decode cX11_strike 14 = .ok (.invokevirtual 212, 3) := by decide +kernel
theorem dX11_strike_17 : decode cX11_strike 17 = .ok (.ireturn, 1) := by decide +kernel
theorem dX11_strike_18 : decode cX11_strike 18 = .ok (.aload_n 0, 1) := by decide +kernel
theorem dX11_strike_19 : decode cX11_strike 19 = .ok (.getfield 133, 3) := by decide +kernel
theorem dX11_strike_22 : decode cX11_strike 22 = .ok (.iload_n 1, 1) := by decide +kernel
theorem dX11_strike_23 : decode cX11_strike 23 = .ok (.iaload, 1) := by decide +kernel
theorem dX11_strike_24 : decode cX11_strike 24 = .ok (.iconst (-1), 1) := by decide +kernel
theorem dX11_strike_25 : decode cX11_strike 25 = .ok (.if_icmp .eq 10, 3) := by decide +kernel
theorem dX11_strike_28 : decode cX11_strike 28 = .ok (.aload_n 0, 1) := by decide +kernel
theorem dX11_strike_29 : decode cX11_strike 29 = .ok (.bipush (-6), 2) := by decide +kernel
theorem dX11_strike_31 : decode cX11_strike 31 = .ok (.invokevirtual 212, 3) := by decide +kernel
theorem dX11_strike_34 : decode cX11_strike 34 = .ok (.ireturn, 1) := by decide +kernel
theorem dX11_strike_35 : decode cX11_strike 35 = .ok (.aload_n 0, 1) := by decide +kernel
theorem dX11_strike_36 : decode cX11_strike 36 = .ok (.getfield 133, 3) := by decide +kernel
theorem dX11_strike_39 : decode cX11_strike 39 = .ok (.iload_n 1, 1) := by decide +kernel
theorem dX11_strike_40 : decode cX11_strike 40 = .ok (.aload_n 0, 1) := by decide +kernel
theorem dX11_strike_41 : decode cX11_strike 41 = .ok (.getfield 224, 3) := by decide +kernel
theorem dX11_strike_44 : decode cX11_strike 44 = .ok (.iastore, 1) := by decide +kernel
theorem dX11_strike_45 : decode cX11_strike 45 = .ok (.iconst 1, 1) := by decide +kernel
theorem dX11_strike_46 : decode cX11_strike 46 = .ok (.ireturn, 1) := by decide +kernel
theorem dX11_force_0 : decode cX11_force 0 = .ok (.iconst (-1), 1) := by decide +kernel
theorem dX11_force_1 : decode cX11_force 1 = .ok (.istore_n 3, 1) := by decide +kernel
theorem dX11_force_2 : decode cX11_force 2 = .ok (.iconst 0, 1) := by decide +kernel
theorem dX11_force_3 : decode cX11_force 3 = .ok (.istore 4, 2) := by decide +kernel
theorem dX11_force_5 : decode cX11_force 5 = .ok (.iload 4, 2) := by decide +kernel
theorem dX11_force_7 : decode cX11_force 7 = .ok (.aload_n 0, 1) := by decide +kernel
theorem dX11_force_8 : decode cX11_force 8 = .ok (.getfield 329, 3) := by decide +kernel
theorem dX11_force_11 : decode cX11_force 11 = .ok (.if_icmp .ge 80, 3) := by decide +kernel
theorem dX11_force_14 : decode cX11_force 14 = .ok (.aload_n 0, 1) := by decide +kernel
theorem dX11_force_15 : decode cX11_force 15 = .ok (.getfield 127, 3) := by decide +kernel
theorem dX11_force_18 : decode cX11_force 18 = .ok (.iload 4, 2) := by decide +kernel
theorem dX11_force_20 : decode cX11_force 20 = .ok (.iaload, 1) := by decide +kernel
theorem dX11_force_21 : decode cX11_force 21 = .ok (.iload_n 1, 1) := by decide +kernel
theorem dX11_force_22 : decode cX11_force 22 = .ok (.if_icmp .ne 63, 3) := by decide +kernel
theorem dX11_force_25 : decode cX11_force 25 = .ok (.aload_n 0, 1) := by decide +kernel
theorem dX11_force_26 : decode cX11_force 26 = .ok (.getfield 130, 3) := by decide +kernel
theorem dX11_force_29 : decode cX11_force 29 = .ok (.iload 4, 2) := by decide +kernel
theorem dX11_force_31 : decode cX11_force 31 = .ok (.iaload, 1) := by decide +kernel
theorem dX11_force_32 : decode cX11_force 32 = .ok (.iload_n 2, 1) := by decide +kernel
theorem dX11_force_33 : decode cX11_force 33 = .ok (.if_icmp .gt 52, 3) := by decide +kernel
theorem dX11_force_36 : decode cX11_force 36 = .ok (.aload_n 0, 1) := by decide +kernel
theorem dX11_force_37 : decode cX11_force 37 = .ok (.getfield 133, 3) := by decide +kernel
theorem dX11_force_40 : decode cX11_force 40 = .ok (.iload 4, 2) := by decide +kernel
theorem dX11_force_42 : decode cX11_force 42 = .ok (.iaload, 1) := by decide +kernel
theorem dX11_force_43 : decode cX11_force 43 = .ok (.iconst (-1), 1) := by decide +kernel
theorem dX11_force_44 : decode cX11_force 44 = .ok (.if_icmp .eq 17, 3) := by decide +kernel
theorem dX11_force_47 : decode cX11_force 47 = .ok (.aload_n 0, 1) := by decide +kernel
theorem dX11_force_48 : decode cX11_force 48 = .ok (.getfield 133, 3) := by decide +kernel
theorem dX11_force_51 : decode cX11_force 51 = .ok (.iload 4, 2) := by decide +kernel
theorem dX11_force_53 : decode cX11_force 53 = .ok (.iaload, 1) := by decide +kernel
theorem dX11_force_54 : decode cX11_force 54 = .ok (.iload_n 2, 1) := by decide +kernel
theorem dX11_force_55 : decode cX11_force 55 = .ok (.if_icmp .gt 6, 3) := by decide +kernel
theorem dX11_force_58 : decode cX11_force 58 = .ok (.goto 27, 3) := by decide +kernel
theorem dX11_force_61 : decode cX11_force 61 = .ok (.iload_n 3, 1) := by decide +kernel
theorem dX11_force_62 : decode cX11_force 62 = .ok (.iconst (-1), 1) := by decide +kernel
theorem dX11_force_63 : decode cX11_force 63 = .ok (.if_icmp .eq 19, 3) := by decide +kernel
theorem dX11_force_66 : decode cX11_force 66 = .ok (.aload_n 0, 1) := by decide +kernel
theorem dX11_force_67 : decode cX11_force 67 = .ok (.getfield 130, 3) := by decide +kernel
theorem dX11_force_70 : decode cX11_force 70 = .ok (.iload 4, 2) := by decide +kernel
theorem dX11_force_72 : decode cX11_force 72 = .ok (.iaload, 1) := by decide +kernel
theorem dX11_force_73 : decode cX11_force 73 = .ok (.aload_n 0, 1) := by decide +kernel
theorem dX11_force_74 : decode cX11_force 74 = .ok (.getfield 130, 3) := by decide +kernel
theorem dX11_force_77 : decode cX11_force 77 = .ok (.iload_n 3, 1) := by decide +kernel
theorem dX11_force_78 : decode cX11_force 78 = .ok (.iaload, 1) := by decide +kernel
theorem dX11_force_79 : decode cX11_force 79 = .ok (.if_icmp .lt 6, 3) := by decide +kernel
theorem dX11_force_82 : decode cX11_force 82 = .ok (.iload 4, 2) := by decide +kernel
theorem dX11_force_84 : decode cX11_force 84 = .ok (.istore_n 3, 1) := by decide +kernel
theorem dX11_force_85 : decode cX11_force 85 = .ok (.iinc 4 1, 3) := by decide +kernel
theorem dX11_force_88 : decode cX11_force 88 = .ok (.goto (-83), 3) := by decide +kernel
theorem dX11_force_91 : decode cX11_force 91 = .ok (.iload_n 3, 1) := by decide +kernel
theorem dX11_force_92 : decode cX11_force 92 = .ok (.ireturn, 1) := by decide +kernel
theorem dX11_vote_0 : decode cX11_vote 0 = .ok (.aload_n 0, 1) := by decide +kernel
theorem dX11_vote_1 : decode cX11_vote 1 = .ok (.iload_n 1, 1) := by decide +kernel
theorem dX11_vote_2 : decode cX11_vote 2 = .ok (.invokevirtual 208, 3) := by decide +kernel
theorem dX11_vote_5 : decode cX11_vote 5 = .ok (.ifCond .ne 9, 3) := by decide +kernel
theorem dX11_vote_8 : decode cX11_vote 8 = .ok (.aload_n 0, 1) := by decide +kernel
theorem dX11_vote_9 : decode cX11_vote 9 = .ok (.iconst (-1), 1) := by decide +kernel
theorem dX11_vote_10 : decode cX11_vote 10 = .ok (.invokevirtual 212, 3) := by decide +kernel
theorem dX11_vote_13 : decode cX11_vote 13 = .ok (.ireturn, 1) := by decide +kernel
theorem dX11_vote_14 : decode cX11_vote 14 = .ok (.iload_n 2, 1) := by decide +kernel
theorem dX11_vote_15 : decode cX11_vote 15 = .ok (.ifCond .lt 19, 3) := by decide +kernel
theorem dX11_vote_18 : decode cX11_vote 18 = .ok (.iload_n 2, 1) := by decide +kernel
theorem dX11_vote_19 : decode cX11_vote 19 = .ok (.bipush 15, 2) := by decide +kernel
theorem dX11_vote_21 : decode cX11_vote 21 = .ok (.if_icmp .gt 13, 3) := by decide +kernel
theorem dX11_vote_24 : decode cX11_vote 24 = .ok (.iload_n 3, 1) := by decide +kernel
theorem dX11_vote_25 : decode cX11_vote 25 = .ok (.ifCond .lt 9, 3) := by decide +kernel
theorem dX11_vote_28 : decode cX11_vote 28 = .ok (.iload_n 3, 1) := by decide +kernel
theorem dX11_vote_29 : decode cX11_vote 29 = .ok (.bipush 99, 2) := by decide +kernel
theorem dX11_vote_31 : decode cX11_vote 31 = .ok (.if_icmp .le 10, 3) := by decide +kernel
theorem dX11_vote_34 : decode cX11_vote 34 = .ok (.aload_n 0, 1) := by decide +kernel
theorem dX11_vote_35 : decode cX11_vote 35 = .ok (.bipush (-6), 2) := by decide +kernel
theorem dX11_vote_37 : decode cX11_vote 37 = .ok (.invokevirtual 212, 3) := by decide +kernel
theorem dX11_vote_40 : decode cX11_vote 40 = .ok (.ireturn, 1) := by decide +kernel
theorem dX11_vote_41 : decode cX11_vote 41 = .ok (.aload_n 0, 1) := by decide +kernel
theorem dX11_vote_42 : decode cX11_vote 42 = .ok (.getfield 38, 3) := by decide +kernel
theorem dX11_vote_45 : decode cX11_vote 45 = .ok (.bipush 16, 2) := by decide +kernel
theorem dX11_vote_47 : decode cX11_vote 47 = .ok (.iload_n 1, 1) := by decide +kernel
theorem dX11_vote_48 : decode cX11_vote 48 = .ok (.imul, 1) := by decide +kernel
theorem dX11_vote_49 : decode cX11_vote 49 = .ok (.iload_n 2, 1) := by decide +kernel
theorem dX11_vote_50 : decode cX11_vote 50 = .ok (.iadd, 1) := by decide +kernel
theorem dX11_vote_51 : decode cX11_vote 51 = .ok (.iaload, 1) := by decide +kernel
theorem dX11_vote_52 : decode cX11_vote 52 = .ok (.istore 4, 2) := by decide +kernel
theorem dX11_vote_54 : decode cX11_vote 54 = .ok (.aload_n 0, 1) := by decide +kernel
theorem dX11_vote_55 : decode cX11_vote 55 = .ok (.getfield 38, 3) := by decide +kernel
theorem dX11_vote_58 : decode cX11_vote 58 = .ok (.bipush 16, 2) := by decide +kernel
theorem dX11_vote_60 : decode cX11_vote 60 = .ok (.iload_n 1, 1) := by decide +kernel
theorem dX11_vote_61 : decode cX11_vote 61 = .ok (.imul, 1) := by decide +kernel
theorem dX11_vote_62 : decode cX11_vote 62 = .ok (.iload_n 2, 1) := by decide +kernel
theorem dX11_vote_63 : decode cX11_vote 63 = .ok (.iadd, 1) := by decide +kernel
theorem dX11_vote_64 : decode cX11_vote 64 = .ok (.iload_n 3, 1) := by decide +kernel
theorem dX11_vote_65 : decode cX11_vote 65 = .ok (.iastore, 1) := by decide +kernel
theorem dX11_vote_66 : decode cX11_vote 66 = .ok (.iload 4, 2) := by decide +kernel
theorem dX11_vote_68 : decode cX11_vote 68 = .ok (.ireturn, 1) := by decide +kernel
theorem dX11_stands_0 : decode cX11_stands 0 = .ok (.aload_n 0, 1) := by decide +kernel
theorem dX11_stands_1 : decode cX11_stands 1 = .ok (.getfield 91, 3) := by decide +kernel
theorem dX11_stands_4 : decode cX11_stands 4 = .ok (.iload_n 1, 1) := by decide +kernel
theorem dX11_stands_5 : decode cX11_stands 5 = .ok (.iaload, 1) := by decide +kernel
theorem dX11_stands_6 : decode cX11_stands 6 = .ok (.iconst (-1), 1) := by decide +kernel
theorem dX11_stands_7 : decode cX11_stands 7 = .ok (.if_icmp .ne 16, 3) := by decide +kernel
theorem dX11_stands_10 : decode cX11_stands 10 = .ok (.aload_n 0, 1) := by decide +kernel
theorem dX11_stands_11 : decode cX11_stands 11 = .ok (.getfield 103, 3) := by decide +kernel
theorem dX11_stands_14 : decode cX11_stands 14 = .ok (.iload_n 1, 1) := by decide +kernel
theorem dX11_stands_15 : decode cX11_stands 15 = .ok (.baload, 1) := by decide +kernel
theorem dX11_stands_16 : decode cX11_stands 16 = .ok (.ifCond .ne 7, 3) := by decide +kernel
theorem dX11_stands_19 : decode cX11_stands 19 = .ok (.iconst 1, 1) := by decide +kernel
theorem dX11_stands_20 : decode cX11_stands 20 = .ok (.goto 4, 3) := by decide +kernel
theorem dX11_stands_23 : decode cX11_stands 23 = .ok (.iconst 0, 1) := by decide +kernel
theorem dX11_stands_24 : decode cX11_stands 24 = .ok (.ireturn, 1) := by decide +kernel
theorem dX11_gathers_0 : decode cX11_gathers 0 = .ok (.aload_n 0, 1) := by decide +kernel
theorem dX11_gathers_1 : decode cX11_gathers 1 = .ok (.iconst 0, 1) := by decide +kernel
theorem dX11_gathers_2 : decode cX11_gathers 2 = .ok (.putfield 335, 3) := by decide +kernel
theorem dX11_gathers_5 : decode cX11_gathers 5 = .ok (.iconst 0, 1) := by decide +kernel
theorem dX11_gathers_6 : decode cX11_gathers 6 = .ok (.istore_n 3, 1) := by decide +kernel
theorem dX11_gathers_7 : decode cX11_gathers 7 = .ok (.iload_n 3, 1) := by decide +kernel
theorem dX11_gathers_8 : decode cX11_gathers 8 = .ok (.aload_n 0, 1) := by decide +kernel
theorem dX11_gathers_9 : decode cX11_gathers 9 = .ok (.getfield 7, 3) := by decide +kernel
theorem dX11_gathers_12 : decode cX11_gathers 12 = .ok (.if_icmp .ge 118, 3) := by decide +kernel
theorem dX11_gathers_15 : decode cX11_gathers 15 = .ok (.aload_n 0, 1) := by decide +kernel
theorem dX11_gathers_16 : decode cX11_gathers 16 = .ok (.getfield 20, 3) := by decide +kernel
theorem dX11_gathers_19 : decode cX11_gathers 19 = .ok (.iload_n 3, 1) := by decide +kernel
theorem dX11_gathers_20 : decode cX11_gathers 20 = .ok (.iaload, 1) := by decide +kernel
theorem dX11_gathers_21 : decode cX11_gathers 21 = .ok (.iload_n 1, 1) := by decide +kernel
theorem dX11_gathers_22 : decode cX11_gathers 22 = .ok (.if_icmp .ne 102, 3) := by decide +kernel
theorem dX11_gathers_25 : decode cX11_gathers 25 = .ok (.aload_n 0, 1) := by decide +kernel
theorem dX11_gathers_26 : decode cX11_gathers 26 = .ok (.getfield 16, 3) := by decide +kernel
theorem dX11_gathers_29 : decode cX11_gathers 29 = .ok (.iload_n 3, 1) := by decide +kernel
theorem dX11_gathers_30 : decode cX11_gathers 30 = .ok (.iaload, 1) := by decide +kernel
theorem dX11_gathers_31 : decode cX11_gathers 31 = .ok (.ifCond .le 15, 3) := by decide +kernel
theorem dX11_gathers_34 : decode cX11_gathers 34 = .ok (.aload_n 0, 1) := by decide +kernel
theorem dX11_gathers_35 : decode cX11_gathers 35 = .ok (.getfield 41, 3) := by decide +kernel
theorem dX11_gathers_38 : decode cX11_gathers 38 = .ok (.iload_n 3, 1) := by decide +kernel
theorem dX11_gathers_39 : decode cX11_gathers 39 = .ok (.baload, 1) := by decide +kernel
theorem dX11_gathers_40 : decode cX11_gathers 40 = .ok (.ifCond .ne 6, 3) := by decide +kernel
theorem dX11_gathers_43 : decode cX11_gathers 43 = .ok (.goto 81, 3) := by decide +kernel
theorem dX11_gathers_46 : decode cX11_gathers 46 = .ok (.iconst 0, 1) := by decide +kernel
theorem dX11_gathers_47 : decode cX11_gathers 47 = .ok (.istore 4, 2) := by decide +kernel
theorem dX11_gathers_49 : decode cX11_gathers 49 = .ok (.iload 4, 2) := by decide +kernel
theorem dX11_gathers_51 : decode cX11_gathers 51 = .ok (.aload_n 0, 1) := by decide +kernel
theorem dX11_gathers_52 : decode cX11_gathers 52 = .ok (.getfield 205, 3) := by decide +kernel
theorem dX11_gathers_55 : decode cX11_gathers 55 = .ok (.if_icmp .ge 69, 3) := by decide +kernel
theorem dX11_gathers_58 : decode cX11_gathers 58 = .ok (.aload_n 0, 1) := by decide +kernel
theorem dX11_gathers_59 : decode cX11_gathers 59 = .ok (.getfield 64, 3) := by decide +kernel
theorem dX11_gathers_62 : decode cX11_gathers 62 = .ok (.iload 4, 2) := by decide +kernel
theorem dX11_gathers_64 : decode cX11_gathers 64 = .ok (.iaload, 1) := by decide +kernel
theorem dX11_gathers_65 : decode cX11_gathers 65 = .ok (.iload_n 3, 1) := by decide +kernel
theorem dX11_gathers_66 : decode cX11_gathers 66 = .ok (.if_icmp .ne 52, 3) := by decide +kernel
theorem dX11_gathers_69 : decode cX11_gathers 69 = .ok (.bipush 8, 2) := by decide +kernel
theorem dX11_gathers_71 : decode cX11_gathers 71 = .ok (.aload_n 0, 1) := by decide +kernel
theorem dX11_gathers_72 : decode cX11_gathers 72 = .ok (.getfield 67, 3) := by decide +kernel
theorem dX11_gathers_75 : decode cX11_gathers 75 = .ok (.iload 4, 2) := by decide +kernel
theorem dX11_gathers_77 : decode cX11_gathers 77 = .ok (.iaload, 1) := by decide +kernel
theorem dX11_gathers_78 : decode cX11_gathers 78 = .ok (.imul, 1) := by decide +kernel
theorem dX11_gathers_79 : decode cX11_gathers 79 = .ok (.aload_n 0, 1) := by decide +kernel
theorem dX11_gathers_80 : decode cX11_gathers 80 = .ok (.getfield 70, 3) := by decide +kernel
theorem dX11_gathers_83 : decode cX11_gathers 83 = .ok (.iload 4, 2) := by decide +kernel
theorem dX11_gathers_85 : decode cX11_gathers 85 = .ok (.iaload, 1) := by decide +kernel
theorem dX11_gathers_86 : decode cX11_gathers 86 = .ok (.iadd, 1) := by decide +kernel
theorem dX11_gathers_87 : decode cX11_gathers 87 = .ok (.iload_n 2, 1) := by decide +kernel
theorem dX11_gathers_88 : decode cX11_gathers 88 = .ok (.if_icmp .ne 30, 3) := by decide +kernel
theorem dX11_gathers_91 : decode cX11_gathers 91 = .ok (.aload_n 0, 1) := by decide +kernel
theorem dX11_gathers_92 : decode cX11_gathers 92 = .ok (.iload 4, 2) := by decide +kernel
theorem dX11_gathers_94 : decode cX11_gathers 94 = .ok (.invokevirtual 338, 3) := by decide +kernel
theorem dX11_gathers_97 : decode cX11_gathers 97 = .ok (.ifCond .eq 21, 3) := by decide +kernel
theorem dX11_gathers_100 : decode cX11_gathers 100 = .ok (.aload_n 0, 1) := by decide +kernel
theorem dX11_gathers_101 : decode cX11_gathers 101 = .ok (.getfield 178, 3) := by decide +kernel
theorem dX11_gathers_104 : decode cX11_gathers 104 = .ok (.aload_n 0, 1) := by decide +kernel
theorem dX11_gathers_105 : decode cX11_gathers 105 = .ok (.dup, 1) := by decide +kernel
theorem dX11_gathers_106 : decode cX11_gathers 106 = .ok (.getfield 335, 3) := by decide +kernel
theorem dX11_gathers_109 : decode cX11_gathers 109 = .ok (.dup_x1, 1) := by decide +kernel
theorem dX11_gathers_110 : decode cX11_gathers 110 = .ok (.iconst 1, 1) := by decide +kernel
theorem dX11_gathers_111 : decode cX11_gathers 111 = .ok (.iadd, 1) := by decide +kernel
theorem dX11_gathers_112 : decode cX11_gathers 112 = .ok (.putfield 335, 3) := by decide +kernel
theorem dX11_gathers_115 : decode cX11_gathers 115 = .ok (.iload 4, 2) := by decide +kernel
theorem dX11_gathers_117 : decode cX11_gathers 117 = .ok (.iastore, 1) := by decide +kernel
theorem dX11_gathers_118 : decode cX11_gathers 118 = .ok (.iinc 4 1, 3) := by decide +kernel
theorem dX11_gathers_121 : decode cX11_gathers 121 = .ok (.goto (-72), 3) := by decide +kernel
theorem dX11_gathers_124 : decode cX11_gathers 124 = .ok (.iinc 3 1, 3) := by decide +kernel
theorem dX11_gathers_127 : decode cX11_gathers 127 = .ok (.goto (-120), 3) := by decide +kernel
theorem dX11_gathers_130 : decode cX11_gathers 130 = .ok (.aload_n 0, 1) := by decide +kernel
theorem dX11_gathers_131 : decode cX11_gathers 131 = .ok (.getfield 335, 3) := by decide +kernel
theorem dX11_gathers_134 : decode cX11_gathers 134 = .ok (.ireturn, 1) := by decide +kernel
theorem dX11_joined_0 : decode cX11_joined 0 = .ok (.iconst 0, 1) := by decide +kernel
theorem dX11_joined_1 : decode cX11_joined 1 = .ok (.istore_n 2, 1) := by decide +kernel
theorem dX11_joined_2 : decode cX11_joined 2 = .ok (.iconst 0, 1) := by decide +kernel
theorem dX11_joined_3 : decode cX11_joined 3 = .ok (.istore_n 3, 1) := by decide +kernel
theorem dX11_joined_4 : decode cX11_joined 4 = .ok (.iload_n 3, 1) := by decide +kernel
theorem dX11_joined_5 : decode cX11_joined 5 = .ok (.aload_n 0, 1) := by decide +kernel
theorem dX11_joined_6 : decode cX11_joined 6 = .ok (.getfield 335, 3) := by decide +kernel
theorem dX11_joined_9 : decode cX11_joined 9 = .ok (.if_icmp .ge 83, 3) := by decide +kernel
theorem dX11_joined_12 : decode cX11_joined 12 = .ok (.iload_n 2, 1) := by decide +kernel
theorem dX11_joined_13 : decode cX11_joined 13 = .ok (.iinc 2 1, 3) := by decide +kernel
theorem dX11_joined_16 : decode cX11_joined 16 = .ok (.istore 4, 2) := by decide +kernel
theorem dX11_joined_18 : decode cX11_joined 18 = .ok (.iload 4, 2) := by decide +kernel
theorem dX11_joined_20 : decode cX11_joined 20 = .ok (.ifCond .le 48, 3) := by decide +kernel
theorem dX11_joined_23 : decode cX11_joined 23 = .ok (.aload_n 0, 1) := by decide +kernel
theorem dX11_joined_24 : decode cX11_joined 24 = .ok (.getfield 181, 3) := by decide +kernel
theorem dX11_joined_27 : decode cX11_joined 27 = .ok (.iload 4, 2) := by decide +kernel
theorem dX11_joined_29 : decode cX11_joined 29 = .ok (.iconst 1, 1) := by decide +kernel
theorem dX11_joined_30 : decode cX11_joined 30 = .ok (.isub, 1) := by decide +kernel
theorem dX11_joined_31 : decode cX11_joined 31 = .ok (.iaload, 1) := by decide +kernel
theorem dX11_joined_32 : decode cX11_joined 32 = .ok (.aload_n 0, 1) := by decide +kernel
theorem dX11_joined_33 : decode cX11_joined 33 = .ok (.getfield 73, 3) := by decide +kernel
theorem dX11_joined_36 : decode cX11_joined 36 = .ok (.aload_n 0, 1) := by decide +kernel
theorem dX11_joined_37 : decode cX11_joined 37 = .ok (.getfield 178, 3) := by decide +kernel
theorem dX11_joined_40 : decode cX11_joined 40 = .ok (.iload_n 3, 1) := by decide +kernel
theorem dX11_joined_41 : decode cX11_joined 41 = .ok (.iaload, 1) := by decide +kernel
theorem dX11_joined_42 : decode cX11_joined 42 = .ok (.iaload, 1) := by decide +kernel
theorem dX11_joined_43 : decode cX11_joined 43 = .ok (.if_icmp .le 25, 3) := by decide +kernel
theorem dX11_joined_46 : decode cX11_joined 46 = .ok (.aload_n 0, 1) := by decide +kernel
theorem dX11_joined_47 : decode cX11_joined 47 = .ok (.getfield 181, 3) := by decide +kernel
theorem dX11_joined_50 : decode cX11_joined 50 = .ok (.iload 4, 2) := by decide +kernel
theorem dX11_joined_52 : decode cX11_joined 52 = .ok (.aload_n 0, 1) := by decide +kernel
theorem dX11_joined_53 : decode cX11_joined 53 = .ok (.getfield 181, 3) := by decide +kernel
theorem dX11_joined_56 : decode cX11_joined 56 = .ok (.iload 4, 2) := by decide +kernel
theorem dX11_joined_58 : decode cX11_joined 58 = .ok (.iconst 1, 1) := by decide +kernel
theorem dX11_joined_59 : decode cX11_joined 59 = .ok (.isub, 1) := by decide +kernel
theorem dX11_joined_60 : decode cX11_joined 60 = .ok (.iaload, 1) := by decide +kernel
theorem dX11_joined_61 : decode cX11_joined 61 = .ok (.iastore, 1) := by decide +kernel
theorem dX11_joined_62 : decode cX11_joined 62 = .ok (.iinc 4 (-1), 3) := by decide +kernel
theorem dX11_joined_65 : decode cX11_joined 65 = .ok (.goto (-47), 3) := by decide +kernel
theorem dX11_joined_68 : decode cX11_joined 68 = .ok (.aload_n 0, 1) := by decide +kernel
theorem dX11_joined_69 : decode cX11_joined 69 = .ok (.getfield 181, 3) := by decide +kernel
theorem dX11_joined_72 : decode cX11_joined 72 = .ok (.iload 4, 2) := by decide +kernel
theorem dX11_joined_74 : decode cX11_joined 74 = .ok (.aload_n 0, 1) := by decide +kernel
theorem dX11_joined_75 : decode cX11_joined 75 = .ok (.getfield 73, 3) := by decide +kernel
theorem dX11_joined_78 : decode cX11_joined 78 = .ok (.aload_n 0, 1) := by decide +kernel
theorem dX11_joined_79 : decode cX11_joined 79 = .ok (.getfield 178, 3) := by decide +kernel
theorem dX11_joined_82 : decode cX11_joined 82 = .ok (.iload_n 3, 1) := by decide +kernel
theorem dX11_joined_83 : decode cX11_joined 83 = .ok (.iaload, 1) := by decide +kernel
theorem dX11_joined_84 : decode cX11_joined 84 = .ok (.iaload, 1) := by decide +kernel
theorem dX11_joined_85 : decode cX11_joined 85 = .ok (.iastore, 1) := by decide +kernel
theorem dX11_joined_86 : decode cX11_joined 86 = .ok (.iinc 3 1, 3) := by decide +kernel
theorem dX11_joined_89 : decode cX11_joined 89 = .ok (.goto (-85), 3) := by decide +kernel
theorem dX11_joined_92 : decode cX11_joined 92 = .ok (.iload_n 1, 1) := by decide +kernel
theorem dX11_joined_93 : decode cX11_joined 93 = .ok (.iconst 1, 1) := by decide +kernel
theorem dX11_joined_94 : decode cX11_joined 94 = .ok (.if_icmp .ne 14, 3) := by decide +kernel
theorem dX11_joined_97 : decode cX11_joined 97 = .ok (.aload_n 0, 1) := by decide +kernel
theorem dX11_joined_98 : decode cX11_joined 98 = .ok (.getfield 181, 3) := by decide +kernel
theorem dX11_joined_101 : decode cX11_joined 101 = .ok (.iload_n 2, 1) := by decide +kernel
theorem dX11_joined_102 : decode cX11_joined 102 = .ok (.iconst 1, 1) := by decide +kernel
theorem dX11_joined_103 : decode cX11_joined 103 = .ok (.isub, 1) := by decide +kernel
theorem dX11_joined_104 : decode cX11_joined 104 = .ok (.iaload, 1) := by decide +kernel
theorem dX11_joined_105 : decode cX11_joined 105 = .ok (.goto 27, 3) := by decide +kernel
theorem dX11_joined_108 : decode cX11_joined 108 = .ok (.iload_n 1, 1) := by decide +kernel
theorem dX11_joined_109 : decode cX11_joined 109 = .ok (.iconst 2, 1) := by decide +kernel
theorem dX11_joined_110 : decode cX11_joined 110 = .ok (.if_icmp .ne 12, 3) := by decide +kernel
theorem dX11_joined_113 : decode cX11_joined 113 = .ok (.aload_n 0, 1) := by decide +kernel
theorem dX11_joined_114 : decode cX11_joined 114 = .ok (.getfield 181, 3) := by decide +kernel
theorem dX11_joined_117 : decode cX11_joined 117 = .ok (.iconst 0, 1) := by decide +kernel
theorem dX11_joined_118 : decode cX11_joined 118 = .ok (.iaload, 1) := by decide +kernel
theorem dX11_joined_119 : decode cX11_joined 119 = .ok (.goto 13, 3) := by decide +kernel
theorem dX11_joined_122 : decode cX11_joined 122 = .ok (.aload_n 0, 1) := by decide +kernel
theorem dX11_joined_123 : decode cX11_joined 123 = .ok (.getfield 181, 3) := by decide +kernel
theorem dX11_joined_126 : decode cX11_joined 126 = .ok (.iload_n 2, 1) := by decide +kernel
theorem dX11_joined_127 : decode cX11_joined 127 = .ok (.iconst 1, 1) := by decide +kernel
theorem dX11_joined_128 : decode cX11_joined 128 = .ok (.isub, 1) := by decide +kernel
theorem dX11_joined_129 : decode cX11_joined 129 = .ok (.iconst 2, 1) := by decide +kernel
theorem dX11_joined_130 : decode cX11_joined 130 = .ok (.idiv, 1) := by decide +kernel
theorem dX11_joined_131 : decode cX11_joined 131 = .ok (.iaload, 1) := by decide +kernel
theorem dX11_joined_132 : decode cX11_joined 132 = .ok (.ireturn, 1) := by decide +kernel
theorem dX11_placesUnder_0 : decode cX11_placesUnder 0 = .ok (.iconst 0, 1) := by decide +kernel
theorem dX11_placesUnder_1 : decode cX11_placesUnder 1 = .ok (.istore_n 2, 1) := by decide +kernel
theorem dX11_placesUnder_2 : decode cX11_placesUnder 2 = .ok (.iconst 0, 1) := by decide +kernel
theorem dX11_placesUnder_3 : decode cX11_placesUnder 3 = .ok (.istore_n 3, 1) := by decide +kernel
theorem dX11_placesUnder_4 : decode cX11_placesUnder 4 = .ok (.iload_n 3, 1) := by decide +kernel
theorem dX11_placesUnder_5 : decode cX11_placesUnder 5 = .ok (.aload_n 0, 1) := by decide +kernel
theorem dX11_placesUnder_6 : decode cX11_placesUnder 6 = .ok (.getfield 7, 3) := by decide +kernel
theorem dX11_placesUnder_9 : decode cX11_placesUnder 9 = .ok (.if_icmp .ge 22, 3) := by decide +kernel
theorem dX11_placesUnder_12 : decode cX11_placesUnder 12 = .ok (.aload_n 0, 1) := by decide +kernel
theorem dX11_placesUnder_13 : decode cX11_placesUnder 13 = .ok (.getfield 20, 3) := by decide +kernel
theorem dX11_placesUnder_16 : decode cX11_placesUnder 16 = .ok (.iload_n 3, 1) := by decide +kernel
theorem dX11_placesUnder_17 : decode cX11_placesUnder 17 = .ok (.iaload, 1) := by decide +kernel
theorem dX11_placesUnder_18 : decode cX11_placesUnder 18 = .ok (.iload_n 1, 1) := by decide +kernel
theorem dX11_placesUnder_19 : decode cX11_placesUnder 19 = .ok (.if_icmp .ne 6, 3) := by decide +kernel
theorem dX11_placesUnder_22 : decode cX11_placesUnder 22 = .ok (.iinc 2 1, 3) := by decide +kernel
theorem dX11_placesUnder_25 : decode cX11_placesUnder 25 = .ok (.iinc 3 1, 3) := by decide +kernel
theorem dX11_placesUnder_28 : decode cX11_placesUnder 28 = .ok (.goto (-24), 3) := by decide +kernel
theorem dX11_placesUnder_31 : decode cX11_placesUnder 31 = .ok (.iload_n 2, 1) := by decide +kernel
theorem dX11_placesUnder_32 : decode cX11_placesUnder 32 = .ok (.ireturn, 1) := by decide +kernel
theorem dX11_valueOf_0 : decode cX11_valueOf 0 = .ok (.iload_n 2, 1) := by decide +kernel
theorem dX11_valueOf_1 : decode cX11_valueOf 1 = .ok (.iconst (-1), 1) := by decide +kernel
theorem dX11_valueOf_2 : decode cX11_valueOf 2 = .ok (.if_icmp .ne 6, 3) := by decide +kernel
theorem dX11_valueOf_5 : decode cX11_valueOf 5 = .ok (.iload_n 1, 1) := by decide +kernel
theorem dX11_valueOf_6 : decode cX11_valueOf 6 = .ok (.i2l, 1) := by decide +kernel
theorem dX11_valueOf_7 : decode cX11_valueOf 7 = .ok (.lreturn, 1) := by decide +kernel
theorem dX11_valueOf_8 : decode cX11_valueOf 8 = .ok (.lconst 0, 1) := by decide +kernel
theorem dX11_valueOf_9 : decode cX11_valueOf 9 = .ok (.lstore 5, 2) := by decide +kernel
theorem dX11_valueOf_11 : decode cX11_valueOf 11 = .ok (.iload_n 2, 1) := by decide +kernel
theorem dX11_valueOf_12 : decode cX11_valueOf 12 = .ok (.tableswitch 206 98 119 #[114, 206, 196, 206, 206, 206, 125, 206, 206, 206, 206, 174, 104, 206, 206, 206, 206, 206, 163, 206, 206, 185], 104) := by decide +kernel
theorem dX11_valueOf_116 : decode cX11_valueOf 116 = .ok (.aload_n 0, 1) := by decide +kernel
theorem dX11_valueOf_117 : decode cX11_valueOf 117 = .ok (.getfield 335, 3) := by decide +kernel
theorem dX11_valueOf_120 : decode cX11_valueOf 120 = .ok (.i2l, 1) := by decide +kernel
theorem dX11_valueOf_121 : decode cX11_valueOf 121 = .ok (.lstore 5, 2) := by decide +kernel
theorem dX11_valueOf_123 : decode cX11_valueOf 123 = .ok (.goto 113, 3) := by decide +kernel
theorem dX11_valueOf_126 : decode cX11_valueOf 126 = .ok (.aload_n 0, 1) := by decide +kernel
theorem dX11_valueOf_127 : decode cX11_valueOf 127 = .ok (.iload_n 3, 1) := by decide +kernel
theorem dX11_valueOf_128 : decode cX11_valueOf 128 = .ok (.invokevirtual 341, 3) := by decide +kernel
theorem dX11_valueOf_131 : decode cX11_valueOf 131 = .ok (.i2l, 1) := by decide +kernel
theorem dX11_valueOf_132 : decode cX11_valueOf 132 = .ok (.lstore 5, 2) := by decide +kernel
theorem dX11_valueOf_134 : decode cX11_valueOf 134 = .ok (.goto 102, 3) := by decide +kernel
theorem dX11_valueOf_137 : decode cX11_valueOf 137 = .ok (.iconst 0, 1) := by decide +kernel
theorem dX11_valueOf_138 : decode cX11_valueOf 138 = .ok (.istore 7, 2) := by decide +kernel
theorem dX11_valueOf_140 : decode cX11_valueOf 140 = .ok (.iload 7, 2) := by decide +kernel
theorem dX11_valueOf_142 : decode cX11_valueOf 142 = .ok (.aload_n 0, 1) := by decide +kernel
theorem dX11_valueOf_143 : decode cX11_valueOf 143 = .ok (.getfield 335, 3) := by decide +kernel
theorem dX11_valueOf_146 : decode cX11_valueOf 146 = .ok (.if_icmp .ge 26, 3) := by decide +kernel
theorem dX11_valueOf_149 : decode cX11_valueOf 149 = .ok (.lload 5, 2) := by decide +kernel
theorem dX11_valueOf_151 : decode cX11_valueOf 151 = .ok (.aload_n 0, 1) := by decide +kernel
theorem dX11_valueOf_152 : decode cX11_valueOf 152 = .ok (.aload_n 0, 1) := by decide +kernel
theorem dX11_valueOf_153 : decode cX11_valueOf 153 = .ok (.getfield 178, 3) := by decide +kernel
theorem dX11_valueOf_156 : decode cX11_valueOf 156 = .ok (.iload 7, 2) := by decide +kernel
theorem dX11_valueOf_158 : decode cX11_valueOf 158 = .ok (.iaload, 1) := by decide +kernel
theorem dX11_valueOf_159 : decode cX11_valueOf 159 = .ok (.invokevirtual 264, 3) := by decide +kernel
theorem dX11_valueOf_162 : decode cX11_valueOf 162 = .ok (.i2l, 1) := by decide +kernel
theorem dX11_valueOf_163 : decode cX11_valueOf 163 = .ok (.ladd, 1) := by decide +kernel
theorem dX11_valueOf_164 : decode cX11_valueOf 164 = .ok (.lstore 5, 2) := by decide +kernel
theorem dX11_valueOf_166 : decode cX11_valueOf 166 = .ok (.iinc 7 1, 3) := by decide +kernel
theorem dX11_valueOf_169 : decode cX11_valueOf 169 = .ok (.goto (-29), 3) := by decide +kernel
theorem dX11_valueOf_172 : decode cX11_valueOf 172 = .ok (.goto 64, 3) := by decide +kernel
theorem dX11_valueOf_175 : decode cX11_valueOf 175 = .ok (.aload_n 0, 1) := by decide +kernel
theorem dX11_valueOf_176 : decode cX11_valueOf 176 = .ok (.iload_n 3, 1) := by decide +kernel
theorem dX11_valueOf_177 : decode cX11_valueOf 177 = .ok (.invokevirtual 231, 3) := by decide +kernel
theorem dX11_valueOf_180 : decode cX11_valueOf 180 = .ok (.i2l, 1) := by decide +kernel
theorem dX11_valueOf_181 : decode cX11_valueOf 181 = .ok (.lstore 5, 2) := by decide +kernel
theorem dX11_valueOf_183 : decode cX11_valueOf 183 = .ok (.goto 53, 3) := by decide +kernel
theorem dX11_valueOf_186 : decode cX11_valueOf 186 = .ok (.aload_n 0, 1) := by decide +kernel
theorem dX11_valueOf_187 : decode cX11_valueOf 187 = .ok (.iconst 1, 1) := by decide +kernel
theorem dX11_valueOf_188 : decode cX11_valueOf 188 = .ok (.invokevirtual 344, 3) := by decide +kernel
theorem dX11_valueOf_191 : decode cX11_valueOf 191 = .ok (.i2l, 1) := by decide +kernel
theorem dX11_valueOf_192 : decode cX11_valueOf 192 = .ok (.lstore 5, 2) := by decide +kernel
theorem dX11_valueOf_194 : decode cX11_valueOf 194 = .ok (.goto 42, 3) := by decide +kernel
theorem dX11_valueOf_197 : decode cX11_valueOf 197 = .ok (.iload 4, 2) := by decide +kernel
theorem dX11_valueOf_199 : decode cX11_valueOf 199 = .ok (.bipush 8, 2) := by decide +kernel
theorem dX11_valueOf_201 : decode cX11_valueOf 201 = .ok (.idiv, 1) := by decide +kernel
theorem dX11_valueOf_202 : decode cX11_valueOf 202 = .ok (.i2l, 1) := by decide +kernel
theorem dX11_valueOf_203 : decode cX11_valueOf 203 = .ok (.lstore 5, 2) := by decide +kernel
theorem dX11_valueOf_205 : decode cX11_valueOf 205 = .ok (.goto 31, 3) := by decide +kernel
theorem dX11_valueOf_208 : decode cX11_valueOf 208 = .ok (.aload_n 0, 1) := by decide +kernel
theorem dX11_valueOf_209 : decode cX11_valueOf 209 = .ok (.getfield 224, 3) := by decide +kernel
theorem dX11_valueOf_212 : decode cX11_valueOf 212 = .ok (.i2l, 1) := by decide +kernel
theorem dX11_valueOf_213 : decode cX11_valueOf 213 = .ok (.lstore 5, 2) := by decide +kernel
theorem dX11_valueOf_215 : decode cX11_valueOf 215 = .ok (.goto 21, 3) := by decide +kernel
theorem dX11_valueOf_218 : decode cX11_valueOf 218 = .ok (.aload_n 0, 1) := by decide +kernel
theorem dX11_valueOf_219 : decode cX11_valueOf 219 = .ok (.getfield 38, 3) := by decide +kernel
theorem dX11_valueOf_222 : decode cX11_valueOf 222 = .ok (.bipush 16, 2) := by decide +kernel
theorem dX11_valueOf_224 : decode cX11_valueOf 224 = .ok (.iload_n 3, 1) := by decide +kernel
theorem dX11_valueOf_225 : decode cX11_valueOf 225 = .ok (.imul, 1) := by decide +kernel
theorem dX11_valueOf_226 : decode cX11_valueOf 226 = .ok (.iload 4, 2) := by decide +kernel
theorem dX11_valueOf_228 : decode cX11_valueOf 228 = .ok (.bipush 8, 2) := by decide +kernel
theorem dX11_valueOf_230 : decode cX11_valueOf 230 = .ok (.idiv, 1) := by decide +kernel
theorem dX11_valueOf_231 : decode cX11_valueOf 231 = .ok (.iadd, 1) := by decide +kernel
theorem dX11_valueOf_232 : decode cX11_valueOf 232 = .ok (.iaload, 1) := by decide +kernel
theorem dX11_valueOf_233 : decode cX11_valueOf 233 = .ok (.i2l, 1) := by decide +kernel
theorem dX11_valueOf_234 : decode cX11_valueOf 234 = .ok (.lstore 5, 2) := by decide +kernel
theorem dX11_valueOf_236 : decode cX11_valueOf 236 = .ok (.iload_n 1, 1) := by decide +kernel
theorem dX11_valueOf_237 : decode cX11_valueOf 237 = .ok (.i2l, 1) := by decide +kernel
theorem dX11_valueOf_238 : decode cX11_valueOf 238 = .ok (.lload 5, 2) := by decide +kernel
theorem dX11_valueOf_240 : decode cX11_valueOf 240 = .ok (.lmul, 1) := by decide +kernel
theorem dX11_valueOf_241 : decode cX11_valueOf 241 = .ok (.lreturn, 1) := by decide +kernel
theorem dX11_keeps_0 : decode cX11_keeps 0 = .ok (.iconst 0, 1) := by decide +kernel
theorem dX11_keeps_1 : decode cX11_keeps 1 = .ok (.istore 4, 2) := by decide +kernel
theorem dX11_keeps_3 : decode cX11_keeps 3 = .ok (.iconst 0, 1) := by decide +kernel
theorem dX11_keeps_4 : decode cX11_keeps 4 = .ok (.istore 5, 2) := by decide +kernel
theorem dX11_keeps_6 : decode cX11_keeps 6 = .ok (.iload 5, 2) := by decide +kernel
theorem dX11_keeps_8 : decode cX11_keeps 8 = .ok (.aload_n 0, 1) := by decide +kernel
theorem dX11_keeps_9 : decode cX11_keeps 9 = .ok (.getfield 136, 3) := by decide +kernel
theorem dX11_keeps_12 : decode cX11_keeps 12 = .ok (.iload_n 1, 1) := by decide +kernel
theorem dX11_keeps_13 : decode cX11_keeps 13 = .ok (.iaload, 1) := by decide +kernel
theorem dX11_keeps_14 : decode cX11_keeps 14 = .ok (.if_icmp .ge 238, 3) := by decide +kernel
theorem dX11_keeps_17 : decode cX11_keeps 17 = .ok (.aload_n 0, 1) := by decide +kernel
theorem dX11_keeps_18 : decode cX11_keeps 18 = .ok (.getfield 142, 3) := by decide +kernel
theorem dX11_keeps_21 : decode cX11_keeps 21 = .ok (.bipush 100, 2) := by decide +kernel
theorem dX11_keeps_23 : decode cX11_keeps 23 = .ok (.iload_n 1, 1) := by decide +kernel
theorem dX11_keeps_24 : decode cX11_keeps 24 = .ok (.imul, 1) := by decide +kernel
theorem dX11_keeps_25 : decode cX11_keeps 25 = .ok (.iload 5, 2) := by decide +kernel
theorem dX11_keeps_27 : decode cX11_keeps 27 = .ok (.iadd, 1) := by decide +kernel
theorem dX11_keeps_28 : decode cX11_keeps 28 = .ok (.iaload, 1) := by decide +kernel
theorem dX11_keeps_29 : decode cX11_keeps 29 = .ok (.istore 6, 2) := by decide +kernel
theorem dX11_keeps_31 : decode cX11_keeps 31 = .ok (.iload 6, 2) := by decide +kernel
theorem dX11_keeps_33 : decode cX11_keeps 33 = .ok (.ifCond .lt 128, 3) := by decide +kernel
theorem dX11_keeps_36 : decode cX11_keeps 36 = .ok (.bipush 40, 2) := by decide +kernel
theorem dX11_keeps_38 : decode cX11_keeps 38 = .ok (.iload_n 1, 1) := by decide +kernel
theorem dX11_keeps_39 : decode cX11_keeps 39 = .ok (.imul, 1) := by decide +kernel
theorem dX11_keeps_40 : decode cX11_keeps 40 = .ok (.iload 6, 2) := by decide +kernel
theorem dX11_keeps_42 : decode cX11_keeps 42 = .ok (.iadd, 1) := by decide +kernel
theorem dX11_keeps_43 : decode cX11_keeps 43 = .ok (.istore 7, 2) := by decide +kernel
theorem dX11_keeps_45 : decode cX11_keeps 45 = .ok (.aload_n 0, 1) := by decide +kernel
theorem dX11_keeps_46 : decode cX11_keeps 46 = .ok (.aload_n 0, 1) := by decide +kernel
theorem dX11_keeps_47 : decode cX11_keeps 47 = .ok (.getfield 145, 3) := by decide +kernel
theorem dX11_keeps_50 : decode cX11_keeps 50 = .ok (.iload 7, 2) := by decide +kernel
theorem dX11_keeps_52 : decode cX11_keeps 52 = .ok (.iaload, 1) := by decide +kernel
theorem dX11_keeps_53 : decode cX11_keeps 53 = .ok (.aload_n 0, 1) := by decide +kernel
theorem dX11_keeps_54 : decode cX11_keeps 54 = .ok (.getfield 148, 3) := by decide +kernel
theorem dX11_keeps_57 : decode cX11_keeps 57 = .ok (.iload 7, 2) := by decide +kernel
theorem dX11_keeps_59 : decode cX11_keeps 59 = .ok (.iaload, 1) := by decide +kernel
theorem dX11_keeps_60 : decode cX11_keeps 60 = .ok (.iload_n 2, 1) := by decide +kernel
theorem dX11_keeps_61 : decode cX11_keeps 61 = .ok (.iload_n 3, 1) := by decide +kernel
theorem dX11_keeps_62 : decode cX11_keeps 62 = .ok (.invokevirtual 347, 3) := by decide +kernel
theorem dX11_keeps_65 : decode cX11_keeps 65 = .ok (.lstore 8, 2) := by decide +kernel
theorem dX11_keeps_67 : decode cX11_keeps 67 = .ok (.aload_n 0, 1) := by decide +kernel
theorem dX11_keeps_68 : decode cX11_keeps 68 = .ok (.aload_n 0, 1) := by decide +kernel
theorem dX11_keeps_69 : decode cX11_keeps 69 = .ok (.getfield 154, 3) := by decide +kernel
theorem dX11_keeps_72 : decode cX11_keeps 72 = .ok (.iload 7, 2) := by decide +kernel
theorem dX11_keeps_74 : decode cX11_keeps 74 = .ok (.iaload, 1) := by decide +kernel
theorem dX11_keeps_75 : decode cX11_keeps 75 = .ok (.aload_n 0, 1) := by decide +kernel
theorem dX11_keeps_76 : decode cX11_keeps 76 = .ok (.getfield 157, 3) := by decide +kernel
theorem dX11_keeps_79 : decode cX11_keeps 79 = .ok (.iload 7, 2) := by decide +kernel
theorem dX11_keeps_81 : decode cX11_keeps 81 = .ok (.iaload, 1) := by decide +kernel
theorem dX11_keeps_82 : decode cX11_keeps 82 = .ok (.iload_n 2, 1) := by decide +kernel
theorem dX11_keeps_83 : decode cX11_keeps 83 = .ok (.iload_n 3, 1) := by decide +kernel
theorem dX11_keeps_84 : decode cX11_keeps 84 = .ok (.invokevirtual 347, 3) := by decide +kernel
theorem dX11_keeps_87 : decode cX11_keeps 87 = .ok (.lstore 10, 2) := by decide +kernel
theorem dX11_keeps_89 : decode cX11_keeps 89 = .ok (.aload_n 0, 1) := by decide +kernel
theorem dX11_keeps_90 : decode cX11_keeps 90 = .ok (.getfield 184, 3) := by decide +kernel
theorem dX11_keeps_93 : decode cX11_keeps 93 = .ok (.iload 4, 2) := by decide +kernel
theorem dX11_keeps_95 : decode cX11_keeps 95 = .ok (.iinc 4 1, 3) := by decide +kernel
theorem dX11_keeps_98 : decode cX11_keeps 98 = .ok (.aload_n 0, 1) := by decide +kernel
theorem dX11_keeps_99 : decode cX11_keeps 99 = .ok (.getfield 151, 3) := by decide +kernel
theorem dX11_keeps_102 : decode cX11_keeps 102 = .ok (.iload 7, 2) := by decide +kernel
theorem dX11_keeps_104 : decode cX11_keeps 104 = .ok (.iaload, 1) := by decide +kernel
theorem dX11_keeps_105 : decode cX11_keeps 105 = .ok (.bipush 60, 2) := by decide +kernel
theorem dX11_keeps_107 : decode cX11_keeps 107 = .ok (.if_icmp .ne 14, 3) := by decide +kernel
theorem dX11_keeps_110 : decode cX11_keeps 110 = .ok (.lload 8, 2) := by decide +kernel
theorem dX11_keeps_112 : decode cX11_keeps 112 = .ok (.lload 10, 2) := by decide +kernel
theorem dX11_keeps_114 : decode cX11_keeps 114 = .ok (.lcmp, 1) := by decide +kernel
theorem dX11_keeps_115 : decode cX11_keeps 115 = .ok (.ifCond .ge 41, 3) := by decide +kernel
theorem dX11_keeps_118 : decode cX11_keeps 118 = .ok (.goto 34, 3) := by decide +kernel
theorem dX11_keeps_121 : decode cX11_keeps 121 = .ok (.aload_n 0, 1) := by decide +kernel
theorem dX11_keeps_122 : decode cX11_keeps 122 = .ok (.getfield 151, 3) := by decide +kernel
theorem dX11_keeps_125 : decode cX11_keeps 125 = .ok (.iload 7, 2) := by decide +kernel
theorem dX11_keeps_127 : decode cX11_keeps 127 = .ok (.iaload, 1) := by decide +kernel
theorem dX11_keeps_128 : decode cX11_keeps 128 = .ok (.bipush 62, 2) := by decide +kernel
theorem dX11_keeps_130 : decode cX11_keeps 130 = .ok (.if_icmp .ne 14, 3) := by decide +kernel
theorem dX11_keeps_133 : decode cX11_keeps 133 = .ok (.lload 8, 2) := by decide +kernel
theorem dX11_keeps_135 : decode cX11_keeps 135 = .ok (.lload 10, 2) := by decide +kernel
theorem dX11_keeps_137 : decode cX11_keeps 137 = .ok (.lcmp, 1) := by decide +kernel
theorem dX11_keeps_138 : decode cX11_keeps 138 = .ok (.ifCond .le 18, 3) := by decide +kernel
theorem dX11_keeps_141 : decode cX11_keeps 141 = .ok (.goto 11, 3) := by decide +kernel
theorem dX11_keeps_144 : decode cX11_keeps 144 = .ok (.lload 8, 2) := by decide +kernel
theorem dX11_keeps_146 : decode cX11_keeps 146 = .ok (.lload 10, 2) := by decide +kernel
theorem dX11_keeps_148 : decode cX11_keeps 148 = .ok (.lcmp, 1) := by decide +kernel
theorem dX11_keeps_149 : decode cX11_keeps 149 = .ok (.ifCond .ne 7, 3) := by decide +kernel
theorem dX11_keeps_152 : decode cX11_keeps 152 = .ok (.iconst 1, 1) := by decide +kernel
theorem dX11_keeps_153 : decode cX11_keeps 153 = .ok (.goto 4, 3) := by decide +kernel
theorem dX11_keeps_156 : decode cX11_keeps 156 = .ok (.iconst 0, 1) := by decide +kernel
theorem dX11_keeps_157 : decode cX11_keeps 157 = .ok (.iastore, 1) := by decide +kernel
theorem dX11_keeps_158 : decode cX11_keeps 158 = .ok (.goto 88, 3) := by decide +kernel
theorem dX11_keeps_161 : decode cX11_keeps 161 = .ok (.iload 6, 2) := by decide +kernel
theorem dX11_keeps_163 : decode cX11_keeps 163 = .ok (.iconst (-1), 1) := by decide +kernel
theorem dX11_keeps_164 : decode cX11_keeps 164 = .ok (.if_icmp .ne 26, 3) := by decide +kernel
theorem dX11_keeps_167 : decode cX11_keeps 167 = .ok (.aload_n 0, 1) := by decide +kernel
theorem dX11_keeps_168 : decode cX11_keeps 168 = .ok (.getfield 184, 3) := by decide +kernel
theorem dX11_keeps_171 : decode cX11_keeps 171 = .ok (.iload 4, 2) := by decide +kernel
theorem dX11_keeps_173 : decode cX11_keeps 173 = .ok (.iconst 1, 1) := by decide +kernel
theorem dX11_keeps_174 : decode cX11_keeps 174 = .ok (.isub, 1) := by decide +kernel
theorem dX11_keeps_175 : decode cX11_keeps 175 = .ok (.iconst 1, 1) := by decide +kernel
theorem dX11_keeps_176 : decode cX11_keeps 176 = .ok (.aload_n 0, 1) := by decide +kernel
theorem dX11_keeps_177 : decode cX11_keeps 177 = .ok (.getfield 184, 3) := by decide +kernel
theorem dX11_keeps_180 : decode cX11_keeps 180 = .ok (.iload 4, 2) := by decide +kernel
theorem dX11_keeps_182 : decode cX11_keeps 182 = .ok (.iconst 1, 1) := by decide +kernel
theorem dX11_keeps_183 : decode cX11_keeps 183 = .ok (.isub, 1) := by decide +kernel
theorem dX11_keeps_184 : decode cX11_keeps 184 = .ok (.iaload, 1) := by decide +kernel
theorem dX11_keeps_185 : decode cX11_keeps 185 = .ok (.isub, 1) := by decide +kernel
theorem dX11_keeps_186 : decode cX11_keeps 186 = .ok (.iastore, 1) := by decide +kernel
theorem dX11_keeps_187 : decode cX11_keeps 187 = .ok (.goto 59, 3) := by decide +kernel
theorem dX11_keeps_190 : decode cX11_keeps 190 = .ok (.iinc 4 (-1), 3) := by decide +kernel
theorem dX11_keeps_193 : decode cX11_keeps 193 = .ok (.aload_n 0, 1) := by decide +kernel
theorem dX11_keeps_194 : decode cX11_keeps 194 = .ok (.getfield 184, 3) := by decide +kernel
theorem dX11_keeps_197 : decode cX11_keeps 197 = .ok (.iload 4, 2) := by decide +kernel
theorem dX11_keeps_199 : decode cX11_keeps 199 = .ok (.iconst 1, 1) := by decide +kernel
theorem dX11_keeps_200 : decode cX11_keeps 200 = .ok (.isub, 1) := by decide +kernel
theorem dX11_keeps_201 : decode cX11_keeps 201 = .ok (.iload 6, 2) := by decide +kernel
theorem dX11_keeps_203 : decode cX11_keeps 203 = .ok (.bipush (-2), 2) := by decide +kernel
theorem dX11_keeps_205 : decode cX11_keeps 205 = .ok (.if_icmp .ne 23, 3) := by decide +kernel
theorem dX11_keeps_208 : decode cX11_keeps 208 = .ok (.aload_n 0, 1) := by decide +kernel
theorem dX11_keeps_209 : decode cX11_keeps 209 = .ok (.getfield 184, 3) := by decide +kernel
theorem dX11_keeps_212 : decode cX11_keeps 212 = .ok (.iload 4, 2) := by decide +kernel
theorem dX11_keeps_214 : decode cX11_keeps 214 = .ok (.iconst 1, 1) := by decide +kernel
theorem dX11_keeps_215 : decode cX11_keeps 215 = .ok (.isub, 1) := by decide +kernel
theorem dX11_keeps_216 : decode cX11_keeps 216 = .ok (.iaload, 1) := by decide +kernel
theorem dX11_keeps_217 : decode cX11_keeps 217 = .ok (.aload_n 0, 1) := by decide +kernel
theorem dX11_keeps_218 : decode cX11_keeps 218 = .ok (.getfield 184, 3) := by decide +kernel
theorem dX11_keeps_221 : decode cX11_keeps 221 = .ok (.iload 4, 2) := by decide +kernel
theorem dX11_keeps_223 : decode cX11_keeps 223 = .ok (.iaload, 1) := by decide +kernel
theorem dX11_keeps_224 : decode cX11_keeps 224 = .ok (.iand, 1) := by decide +kernel
theorem dX11_keeps_225 : decode cX11_keeps 225 = .ok (.goto 20, 3) := by decide +kernel
theorem dX11_keeps_228 : decode cX11_keeps 228 = .ok (.aload_n 0, 1) := by decide +kernel
theorem dX11_keeps_229 : decode cX11_keeps 229 = .ok (.getfield 184, 3) := by decide +kernel
theorem dX11_keeps_232 : decode cX11_keeps 232 = .ok (.iload 4, 2) := by decide +kernel
theorem dX11_keeps_234 : decode cX11_keeps 234 = .ok (.iconst 1, 1) := by decide +kernel
theorem dX11_keeps_235 : decode cX11_keeps 235 = .ok (.isub, 1) := by decide +kernel
theorem dX11_keeps_236 : decode cX11_keeps 236 = .ok (.iaload, 1) := by decide +kernel
theorem dX11_keeps_237 : decode cX11_keeps 237 = .ok (.aload_n 0, 1) := by decide +kernel
theorem dX11_keeps_238 : decode cX11_keeps 238 = .ok (.getfield 184, 3) := by decide +kernel
theorem dX11_keeps_241 : decode cX11_keeps 241 = .ok (.iload 4, 2) := by decide +kernel
theorem dX11_keeps_243 : decode cX11_keeps 243 = .ok (.iaload, 1) := by decide +kernel
theorem dX11_keeps_244 : decode cX11_keeps 244 = .ok (.ior, 1) := by decide +kernel
theorem dX11_keeps_245 : decode cX11_keeps 245 = .ok (.iastore, 1) := by decide +kernel
theorem dX11_keeps_246 : decode cX11_keeps 246 = .ok (.iinc 5 1, 3) := by decide +kernel
theorem dX11_keeps_249 : decode cX11_keeps 249 = .ok (.goto (-243), 3) := by decide +kernel
theorem dX11_keeps_252 : decode cX11_keeps 252 = .ok (.aload_n 0, 1) := by decide +kernel
theorem dX11_keeps_253 : decode cX11_keeps 253 = .ok (.getfield 184, 3) := by decide +kernel
theorem dX11_keeps_256 : decode cX11_keeps 256 = .ok (.iconst 0, 1) := by decide +kernel
theorem dX11_keeps_257 : decode cX11_keeps 257 = .ok (.iaload, 1) := by decide +kernel
theorem dX11_keeps_258 : decode cX11_keeps 258 = .ok (.iconst 1, 1) := by decide +kernel
theorem dX11_keeps_259 : decode cX11_keeps 259 = .ok (.if_icmp .ne 7, 3) := by decide +kernel
theorem dX11_keeps_262 : decode cX11_keeps 262 = .ok (.iconst 1, 1) := by decide +kernel
theorem dX11_keeps_263 : decode cX11_keeps 263 = .ok (.goto 4, 3) := by decide +kernel
theorem dX11_keeps_266 : decode cX11_keeps 266 = .ok (.iconst 0, 1) := by decide +kernel
theorem dX11_keeps_267 : decode cX11_keeps 267 = .ok (.ireturn, 1) := by decide +kernel
theorem dX11_make_0 : decode cX11_make 0 = .ok (.aload_n 0, 1) := by decide +kernel
theorem dX11_make_1 : decode cX11_make 1 = .ok (.iload_n 1, 1) := by decide +kernel
theorem dX11_make_2 : decode cX11_make 2 = .ok (.invokevirtual 208, 3) := by decide +kernel
theorem dX11_make_5 : decode cX11_make 5 = .ok (.ifCond .ne 9, 3) := by decide +kernel
theorem dX11_make_8 : decode cX11_make 8 = .ok (.aload_n 0, 1) := by decide +kernel
theorem dX11_make_9 : decode cX11_make 9 = .ok (.iconst (-1), 1) := by decide +kernel
theorem dX11_make_10 : decode cX11_make 10 = .ok (.invokevirtual 212, 3) := by decide +kernel
theorem dX11_make_13 : decode cX11_make 13 = .ok (.ireturn, 1) := by decide +kernel
theorem dX11_make_14 : decode cX11_make 14 = .ok (.aload_n 0, 1) := by decide +kernel
theorem dX11_make_15 : decode cX11_make 15 = .ok (.getfield 16, 3) := by decide +kernel
theorem dX11_make_18 : decode cX11_make 18 = .ok (.iload_n 1, 1) := by decide +kernel
theorem dX11_make_19 : decode cX11_make 19 = .ok (.iaload, 1) := by decide +kernel
theorem dX11_make_20 : decode cX11_make 20 = .ok (.ifCond .eq 12, 3) := by decide +kernel
theorem dX11_make_23 : decode cX11_make 23 = .ok (.aload_n 0, 1) := by decide +kernel
theorem dX11_make_24 : decode cX11_make 24 = .ok (.getfield 41, 3) := by decide +kernel
theorem dX11_make_27 : decode cX11_make 27 = .ok (.iload_n 1, 1) := by decide +kernel
theorem dX11_make_28 : decode cX11_make 28 = .ok (.baload, 1) := by decide +kernel
theorem dX11_make_29 : decode cX11_make 29 = .ok (.ifCond .eq 10, 3) := by decide +kernel
theorem dX11_make_32 : decode cX11_make 32 = .ok (.aload_n 0, 1) := by decide +kernel
theorem dX11_make_33 : decode cX11_make 33 = .ok (.bipush (-6), 2) := by decide +kernel
theorem dX11_make_35 : decode cX11_make 35 = .ok (.invokevirtual 212, 3) := by decide +kernel
theorem dX11_make_38 : decode cX11_make 38 = .ok (.ireturn, 1) := by decide +kernel
theorem dX11_make_39 : decode cX11_make 39 = .ok (.aload_n 0, 1) := by decide +kernel
theorem dX11_make_40 : decode cX11_make 40 = .ok (.aload_n 0, 1) := by decide +kernel
theorem dX11_make_41 : decode cX11_make 41 = .ok (.getfield 16, 3) := by decide +kernel
theorem dX11_make_44 : decode cX11_make 44 = .ok (.iload_n 1, 1) := by decide +kernel
theorem dX11_make_45 : decode cX11_make 45 = .ok (.iaload, 1) := by decide +kernel
theorem dX11_make_46 : decode cX11_make 46 = .ok (.aload_n 0, 1) := by decide +kernel
theorem dX11_make_47 : decode cX11_make 47 = .ok (.getfield 224, 3) := by decide +kernel
theorem dX11_make_50 : decode cX11_make 50 = .ok (.invokevirtual 351, 3) := by decide +kernel
theorem dX11_make_53 : decode cX11_make 53 = .ok (.istore_n 2, 1) := by decide +kernel
theorem dX11_make_54 : decode cX11_make 54 = .ok (.iconst 0, 1) := by decide +kernel
theorem dX11_make_55 : decode cX11_make 55 = .ok (.istore_n 3, 1) := by decide +kernel
theorem dX11_make_56 : decode cX11_make 56 = .ok (.iconst 0, 1) := by decide +kernel
theorem dX11_make_57 : decode cX11_make 57 = .ok (.istore 4, 2) := by decide +kernel
theorem dX11_make_59 : decode cX11_make 59 = .ok (.iload 4, 2) := by decide +kernel
theorem dX11_make_61 : decode cX11_make 61 = .ok (.sipush 128, 3) := by decide +kernel
theorem dX11_make_64 : decode cX11_make 64 = .ok (.if_icmp .ge 38, 3) := by decide +kernel
theorem dX11_make_67 : decode cX11_make 67 = .ok (.aload_n 0, 1) := by decide +kernel
theorem dX11_make_68 : decode cX11_make 68 = .ok (.iload_n 1, 1) := by decide +kernel
theorem dX11_make_69 : decode cX11_make 69 = .ok (.iload 4, 2) := by decide +kernel
theorem dX11_make_71 : decode cX11_make 71 = .ok (.invokevirtual 354, 3) := by decide +kernel
theorem dX11_make_74 : decode cX11_make 74 = .ok (.ifCond .le 22, 3) := by decide +kernel
theorem dX11_make_77 : decode cX11_make 77 = .ok (.iload_n 2, 1) := by decide +kernel
theorem dX11_make_78 : decode cX11_make 78 = .ok (.iconst (-1), 1) := by decide +kernel
theorem dX11_make_79 : decode cX11_make 79 = .ok (.if_icmp .eq 14, 3) := by decide +kernel
theorem dX11_make_82 : decode cX11_make 82 = .ok (.aload_n 0, 1) := by decide +kernel
theorem dX11_make_83 : decode cX11_make 83 = .ok (.iload_n 2, 1) := by decide +kernel
theorem dX11_make_84 : decode cX11_make 84 = .ok (.iload_n 1, 1) := by decide +kernel
theorem dX11_make_85 : decode cX11_make 85 = .ok (.iload 4, 2) := by decide +kernel
theorem dX11_make_87 : decode cX11_make 87 = .ok (.invokevirtual 357, 3) := by decide +kernel
theorem dX11_make_90 : decode cX11_make 90 = .ok (.ifCond .eq 6, 3) := by decide +kernel
theorem dX11_make_93 : decode cX11_make 93 = .ok (.iinc 3 1, 3) := by decide +kernel
theorem dX11_make_96 : decode cX11_make 96 = .ok (.iinc 4 1, 3) := by decide +kernel
theorem dX11_make_99 : decode cX11_make 99 = .ok (.goto (-40), 3) := by decide +kernel
theorem dX11_make_102 : decode cX11_make 102 = .ok (.aload_n 0, 1) := by decide +kernel
theorem dX11_make_103 : decode cX11_make 103 = .ok (.getfield 205, 3) := by decide +kernel
theorem dX11_make_106 : decode cX11_make 106 = .ok (.iload_n 3, 1) := by decide +kernel
theorem dX11_make_107 : decode cX11_make 107 = .ok (.iadd, 1) := by decide +kernel
theorem dX11_make_108 : decode cX11_make 108 = .ok (.sipush 160, 3) := by decide +kernel
theorem dX11_make_111 : decode cX11_make 111 = .ok (.if_icmp .le 10, 3) := by decide +kernel
theorem dX11_make_114 : decode cX11_make 114 = .ok (.aload_n 0, 1) := by decide +kernel
theorem dX11_make_115 : decode cX11_make 115 = .ok (.bipush (-7), 2) := by decide +kernel
theorem dX11_make_117 : decode cX11_make 117 = .ok (.invokevirtual 212, 3) := by decide +kernel
theorem dX11_make_120 : decode cX11_make 120 = .ok (.ireturn, 1) := by decide +kernel
theorem dX11_make_121 : decode cX11_make 121 = .ok (.iconst 0, 1) := by decide +kernel
theorem dX11_make_122 : decode cX11_make 122 = .ok (.istore 4, 2) := by decide +kernel
theorem dX11_make_124 : decode cX11_make 124 = .ok (.iload 4, 2) := by decide +kernel
theorem dX11_make_126 : decode cX11_make 126 = .ok (.sipush 128, 3) := by decide +kernel
theorem dX11_make_129 : decode cX11_make 129 = .ok (.if_icmp .ge 145, 3) := by decide +kernel
theorem dX11_make_132 : decode cX11_make 132 = .ok (.aload_n 0, 1) := by decide +kernel
theorem dX11_make_133 : decode cX11_make 133 = .ok (.iload_n 1, 1) := by decide +kernel
theorem dX11_make_134 : decode cX11_make 134 = .ok (.iload 4, 2) := by decide +kernel
theorem dX11_make_136 : decode cX11_make 136 = .ok (.invokevirtual 354, 3) := by decide +kernel
theorem dX11_make_139 : decode cX11_make 139 = .ok (.ifCond .ne 6, 3) := by decide +kernel
theorem dX11_make_142 : decode cX11_make 142 = .ok (.goto 126, 3) := by decide +kernel
theorem dX11_make_145 : decode cX11_make 145 = .ok (.iload_n 2, 1) := by decide +kernel
theorem dX11_make_146 : decode cX11_make 146 = .ok (.iconst (-1), 1) := by decide +kernel
theorem dX11_make_147 : decode cX11_make 147 = .ok (.if_icmp .eq 14, 3) := by decide +kernel
theorem dX11_make_150 : decode cX11_make 150 = .ok (.aload_n 0, 1) := by decide +kernel
theorem dX11_make_151 : decode cX11_make 151 = .ok (.iload_n 2, 1) := by decide +kernel
theorem dX11_make_152 : decode cX11_make 152 = .ok (.iload_n 1, 1) := by decide +kernel
theorem dX11_make_153 : decode cX11_make 153 = .ok (.iload 4, 2) := by decide +kernel
theorem dX11_make_155 : decode cX11_make 155 = .ok (.invokevirtual 357, 3) := by decide +kernel
theorem dX11_make_158 : decode cX11_make 158 = .ok (.ifCond .eq 7, 3) := by decide +kernel
theorem dX11_make_161 : decode cX11_make 161 = .ok (.iconst 1, 1) := by decide +kernel
theorem dX11_make_162 : decode cX11_make 162 = .ok (.goto 4, 3) := by decide +kernel
theorem dX11_make_165 : decode cX11_make 165 = .ok (.iconst 0, 1) := by decide +kernel
theorem dX11_make_166 : decode cX11_make 166 = .ok (.istore 5, 2) := by decide +kernel
theorem dX11_make_168 : decode cX11_make 168 = .ok (.iload 5, 2) := by decide +kernel
theorem dX11_make_170 : decode cX11_make 170 = .ok (.ifCond .eq 42, 3) := by decide +kernel
theorem dX11_make_173 : decode cX11_make 173 = .ok (.aload_n 0, 1) := by decide +kernel
theorem dX11_make_174 : decode cX11_make 174 = .ok (.iload_n 1, 1) := by decide +kernel
theorem dX11_make_175 : decode cX11_make 175 = .ok (.iload 4, 2) := by decide +kernel
theorem dX11_make_177 : decode cX11_make 177 = .ok (.bipush 8, 2) := by decide +kernel
theorem dX11_make_179 : decode cX11_make 179 = .ok (.idiv, 1) := by decide +kernel
theorem dX11_make_180 : decode cX11_make 180 = .ok (.iload 4, 2) := by decide +kernel
theorem dX11_make_182 : decode cX11_make 182 = .ok (.bipush 8, 2) := by decide +kernel
theorem dX11_make_184 : decode cX11_make 184 = .ok (.irem, 1) := by decide +kernel
theorem dX11_make_185 : decode cX11_make 185 = .ok (.aload_n 0, 1) := by decide +kernel
theorem dX11_make_186 : decode cX11_make 186 = .ok (.iload_n 2, 1) := by decide +kernel
theorem dX11_make_187 : decode cX11_make 187 = .ok (.iconst (-1), 1) := by decide +kernel
theorem dX11_make_188 : decode cX11_make 188 = .ok (.if_icmp .ne 7, 3) := by decide +kernel
theorem dX11_make_191 : decode cX11_make 191 = .ok (.iconst 1, 1) := by decide +kernel
theorem dX11_make_192 : decode cX11_make 192 = .ok (.goto 9, 3) := by decide +kernel
theorem dX11_make_195 : decode cX11_make 195 = .ok (.aload_n 0, 1) := by decide +kernel
theorem dX11_make_196 : decode cX11_make 196 = .ok (.getfield 139, 3) := by decide +kernel
theorem dX11_make_199 : decode cX11_make 199 = .ok (.iload_n 2, 1) := by decide +kernel
theorem dX11_make_200 : decode cX11_make 200 = .ok (.iaload, 1) := by decide +kernel
theorem dX11_make_201 : decode cX11_make 201 = .ok (.invokevirtual 344, 3) := by decide +kernel
theorem dX11_make_204 : decode cX11_make 204 = .ok (.iconst 2, 1) := by decide +kernel
theorem dX11_make_205 : decode cX11_make 205 = .ok (.iconst 0, 1) := by decide +kernel
theorem dX11_make_206 : decode cX11_make 206 = .ok (.invokevirtual 261, 3) := by decide +kernel
theorem dX11_make_209 : decode cX11_make 209 = .ok (.goto 4, 3) := by decide +kernel
theorem dX11_make_212 : decode cX11_make 212 = .ok (.iconst (-1), 1) := by decide +kernel
theorem dX11_make_213 : decode cX11_make 213 = .ok (.istore 6, 2) := by decide +kernel
theorem dX11_make_215 : decode cX11_make 215 = .ok (.iconst 0, 1) := by decide +kernel
theorem dX11_make_216 : decode cX11_make 216 = .ok (.istore 7, 2) := by decide +kernel
theorem dX11_make_218 : decode cX11_make 218 = .ok (.iload 7, 2) := by decide +kernel
theorem dX11_make_220 : decode cX11_make 220 = .ok (.aload_n 0, 1) := by decide +kernel
theorem dX11_make_221 : decode cX11_make 221 = .ok (.getfield 335, 3) := by decide +kernel
theorem dX11_make_224 : decode cX11_make 224 = .ok (.if_icmp .ge 44, 3) := by decide +kernel
theorem dX11_make_227 : decode cX11_make 227 = .ok (.iload 5, 2) := by decide +kernel
theorem dX11_make_229 : decode cX11_make 229 = .ok (.ifCond .eq 20, 3) := by decide +kernel
theorem dX11_make_232 : decode cX11_make 232 = .ok (.aload_n 0, 1) := by decide +kernel
theorem dX11_make_233 : decode cX11_make 233 = .ok (.getfield 85, 3) := by decide +kernel
theorem dX11_make_236 : decode cX11_make 236 = .ok (.aload_n 0, 1) := by decide +kernel
theorem dX11_make_237 : decode cX11_make 237 = .ok (.getfield 178, 3) := by decide +kernel
theorem dX11_make_240 : decode cX11_make 240 = .ok (.iload 7, 2) := by decide +kernel
theorem dX11_make_242 : decode cX11_make 242 = .ok (.iaload, 1) := by decide +kernel
theorem dX11_make_243 : decode cX11_make 243 = .ok (.iload 6, 2) := by decide +kernel
theorem dX11_make_245 : decode cX11_make 245 = .ok (.iastore, 1) := by decide +kernel
theorem dX11_make_246 : decode cX11_make 246 = .ok (.goto 16, 3) := by decide +kernel
theorem dX11_make_249 : decode cX11_make 249 = .ok (.aload_n 0, 1) := by decide +kernel
theorem dX11_make_250 : decode cX11_make 250 = .ok (.getfield 88, 3) := by decide +kernel
theorem dX11_make_253 : decode cX11_make 253 = .ok (.aload_n 0, 1) := by decide +kernel
theorem dX11_make_254 : decode cX11_make 254 = .ok (.getfield 178, 3) := by decide +kernel
theorem dX11_make_257 : decode cX11_make 257 = .ok (.iload 7, 2) := by decide +kernel
theorem dX11_make_259 : decode cX11_make 259 = .ok (.iaload, 1) := by decide +kernel
theorem dX11_make_260 : decode cX11_make 260 = .ok (.iload_n 1, 1) := by decide +kernel
theorem dX11_make_261 : decode cX11_make 261 = .ok (.iastore, 1) := by decide +kernel
theorem dX11_make_262 : decode cX11_make 262 = .ok (.iinc 7 1, 3) := by decide +kernel
theorem dX11_make_265 : decode cX11_make 265 = .ok (.goto (-47), 3) := by decide +kernel
theorem dX11_make_268 : decode cX11_make 268 = .ok (.iinc 4 1, 3) := by decide +kernel
theorem dX11_make_271 : decode cX11_make 271 = .ok (.goto (-147), 3) := by decide +kernel
theorem dX11_make_274 : decode cX11_make 274 = .ok (.aload_n 0, 1) := by decide +kernel
theorem dX11_make_275 : decode cX11_make 275 = .ok (.getfield 41, 3) := by decide +kernel
theorem dX11_make_278 : decode cX11_make 278 = .ok (.iload_n 1, 1) := by decide +kernel
theorem dX11_make_279 : decode cX11_make 279 = .ok (.iconst 1, 1) := by decide +kernel
theorem dX11_make_280 : decode cX11_make 280 = .ok (.bastore, 1) := by decide +kernel
theorem dX11_make_281 : decode cX11_make 281 = .ok (.iload_n 3, 1) := by decide +kernel
theorem dX11_make_282 : decode cX11_make 282 = .ok (.ireturn, 1) := by decide +kernel
theorem dX11_asksNow_0 : decode cX11_asksNow 0 = .ok (.iconst 0, 1) := by decide +kernel
theorem dX11_asksNow_1 : decode cX11_asksNow 1 = .ok (.istore_n 3, 1) := by decide +kernel
theorem dX11_asksNow_2 : decode cX11_asksNow 2 = .ok (.iload_n 3, 1) := by decide +kernel
theorem dX11_asksNow_3 : decode cX11_asksNow 3 = .ok (.aload_n 0, 1) := by decide +kernel
theorem dX11_asksNow_4 : decode cX11_asksNow 4 = .ok (.getfield 205, 3) := by decide +kernel
theorem dX11_asksNow_7 : decode cX11_asksNow 7 = .ok (.if_icmp .ge 49, 3) := by decide +kernel
theorem dX11_asksNow_10 : decode cX11_asksNow 10 = .ok (.aload_n 0, 1) := by decide +kernel
theorem dX11_asksNow_11 : decode cX11_asksNow 11 = .ok (.getfield 64, 3) := by decide +kernel
theorem dX11_asksNow_14 : decode cX11_asksNow 14 = .ok (.iload_n 3, 1) := by decide +kernel
theorem dX11_asksNow_15 : decode cX11_asksNow 15 = .ok (.iaload, 1) := by decide +kernel
theorem dX11_asksNow_16 : decode cX11_asksNow 16 = .ok (.iload_n 1, 1) := by decide +kernel
theorem dX11_asksNow_17 : decode cX11_asksNow 17 = .ok (.if_icmp .ne 33, 3) := by decide +kernel
theorem dX11_asksNow_20 : decode cX11_asksNow 20 = .ok (.bipush 8, 2) := by decide +kernel
theorem dX11_asksNow_22 : decode cX11_asksNow 22 = .ok (.aload_n 0, 1) := by decide +kernel
theorem dX11_asksNow_23 : decode cX11_asksNow 23 = .ok (.getfield 67, 3) := by decide +kernel
theorem dX11_asksNow_26 : decode cX11_asksNow 26 = .ok (.iload_n 3, 1) := by decide +kernel
theorem dX11_asksNow_27 : decode cX11_asksNow 27 = .ok (.iaload, 1) := by decide +kernel
theorem dX11_asksNow_28 : decode cX11_asksNow 28 = .ok (.imul, 1) := by decide +kernel
theorem dX11_asksNow_29 : decode cX11_asksNow 29 = .ok (.aload_n 0, 1) := by decide +kernel
theorem dX11_asksNow_30 : decode cX11_asksNow 30 = .ok (.getfield 70, 3) := by decide +kernel
theorem dX11_asksNow_33 : decode cX11_asksNow 33 = .ok (.iload_n 3, 1) := by decide +kernel
theorem dX11_asksNow_34 : decode cX11_asksNow 34 = .ok (.iaload, 1) := by decide +kernel
theorem dX11_asksNow_35 : decode cX11_asksNow 35 = .ok (.iadd, 1) := by decide +kernel
theorem dX11_asksNow_36 : decode cX11_asksNow 36 = .ok (.iload_n 2, 1) := by decide +kernel
theorem dX11_asksNow_37 : decode cX11_asksNow 37 = .ok (.if_icmp .ne 13, 3) := by decide +kernel
theorem dX11_asksNow_40 : decode cX11_asksNow 40 = .ok (.aload_n 0, 1) := by decide +kernel
theorem dX11_asksNow_41 : decode cX11_asksNow 41 = .ok (.iload_n 3, 1) := by decide +kernel
theorem dX11_asksNow_42 : decode cX11_asksNow 42 = .ok (.invokevirtual 338, 3) := by decide +kernel
theorem dX11_asksNow_45 : decode cX11_asksNow 45 = .ok (.ifCond .eq 5, 3) := by decide +kernel
theorem dX11_asksNow_48 : decode cX11_asksNow 48 = .ok (.iconst 1, 1) := by decide +kernel
theorem dX11_asksNow_49 : decode cX11_asksNow 49 = .ok (.ireturn, 1) := by decide +kernel
theorem dX11_asksNow_50 : decode cX11_asksNow 50 = .ok (.iinc 3 1, 3) := by decide +kernel
theorem dX11_asksNow_53 : decode cX11_asksNow 53 = .ok (.goto (-51), 3) := by decide +kernel
theorem dX11_asksNow_56 : decode cX11_asksNow 56 = .ok (.iconst 0, 1) := by decide +kernel
theorem dX11_asksNow_57 : decode cX11_asksNow 57 = .ok (.ireturn, 1) := by decide +kernel
theorem dX11_count_0 : decode cX11_count 0 = .ok (.iload_n 1, 1) := by decide +kernel
theorem dX11_count_1 : decode cX11_count 1 = .ok (.iload_n 2, 1) := by decide +kernel
theorem dX11_count_2 : decode cX11_count 2 = .ok (.invokestatic 258, 3) := by decide +kernel
theorem dX11_count_5 : decode cX11_count 5 = .ok (.ifCond .eq 12, 3) := by decide +kernel
theorem dX11_count_8 : decode cX11_count 8 = .ok (.iload_n 3, 1) := by decide +kernel
theorem dX11_count_9 : decode cX11_count 9 = .ok (.ifCond .lt 8, 3) := by decide +kernel
theorem dX11_count_12 : decode cX11_count 12 = .ok (.iload_n 3, 1) := by decide +kernel
theorem dX11_count_13 : decode cX11_count 13 = .ok (.iconst 3, 1) := by decide +kernel
theorem dX11_count_14 : decode cX11_count 14 = .ok (.if_icmp .le 5, 3) := by decide +kernel
theorem dX11_count_17 : decode cX11_count 17 = .ok (.iconst (-1), 1) := by decide +kernel
theorem dX11_count_18 : decode cX11_count 18 = .ok (.ireturn, 1) := by decide +kernel
theorem dX11_count_19 : decode cX11_count 19 = .ok (.iconst 0, 1) := by decide +kernel
theorem dX11_count_20 : decode cX11_count 20 = .ok (.istore 5, 2) := by decide +kernel
theorem dX11_count_22 : decode cX11_count 22 = .ok (.iconst 0, 1) := by decide +kernel
theorem dX11_count_23 : decode cX11_count 23 = .ok (.istore 6, 2) := by decide +kernel
theorem dX11_count_25 : decode cX11_count 25 = .ok (.iload 6, 2) := by decide +kernel
theorem dX11_count_27 : decode cX11_count 27 = .ok (.aload_n 0, 1) := by decide +kernel
theorem dX11_count_28 : decode cX11_count 28 = .ok (.getfield 7, 3) := by decide +kernel
theorem dX11_count_31 : decode cX11_count 31 = .ok (.if_icmp .ge 69, 3) := by decide +kernel
theorem dX11_count_34 : decode cX11_count 34 = .ok (.aload_n 0, 1) := by decide +kernel
theorem dX11_count_35 : decode cX11_count 35 = .ok (.getfield 16, 3) := by decide +kernel
theorem dX11_count_38 : decode cX11_count 38 = .ok (.iload 6, 2) := by decide +kernel
theorem dX11_count_40 : decode cX11_count 40 = .ok (.iaload, 1) := by decide +kernel
theorem dX11_count_41 : decode cX11_count 41 = .ok (.ifCond .ne 53, 3) := by decide +kernel
theorem dX11_count_44 : decode cX11_count 44 = .ok (.iload_n 3, 1) := by decide +kernel
theorem dX11_count_45 : decode cX11_count 45 = .ok (.iconst 3, 1) := by decide +kernel
theorem dX11_count_46 : decode cX11_count 46 = .ok (.if_icmp .eq 14, 3) := by decide +kernel
theorem dX11_count_49 : decode cX11_count 49 = .ok (.aload_n 0, 1) := by decide +kernel
theorem dX11_count_50 : decode cX11_count 50 = .ok (.getfield 26, 3) := by decide +kernel
theorem dX11_count_53 : decode cX11_count 53 = .ok (.iload 6, 2) := by decide +kernel
theorem dX11_count_55 : decode cX11_count 55 = .ok (.iaload, 1) := by decide +kernel
theorem dX11_count_56 : decode cX11_count 56 = .ok (.iload_n 3, 1) := by decide +kernel
theorem dX11_count_57 : decode cX11_count 57 = .ok (.if_icmp .ne 37, 3) := by decide +kernel
theorem dX11_count_60 : decode cX11_count 60 = .ok (.aload_n 0, 1) := by decide +kernel
theorem dX11_count_61 : decode cX11_count 61 = .ok (.iload 6, 2) := by decide +kernel
theorem dX11_count_63 : decode cX11_count 63 = .ok (.bipush 8, 2) := by decide +kernel
theorem dX11_count_65 : decode cX11_count 65 = .ok (.iload_n 1, 1) := by decide +kernel
theorem dX11_count_66 : decode cX11_count 66 = .ok (.imul, 1) := by decide +kernel
theorem dX11_count_67 : decode cX11_count 67 = .ok (.iload_n 2, 1) := by decide +kernel
theorem dX11_count_68 : decode cX11_count 68 = .ok (.iadd, 1) := by decide +kernel
theorem dX11_count_69 : decode cX11_count 69 = .ok (.invokevirtual 361, 3) := by decide +kernel
theorem dX11_count_72 : decode cX11_count 72 = .ok (.ifCond .ne 19, 3) := by decide +kernel
theorem dX11_count_75 : decode cX11_count 75 = .ok (.iload 4, 2) := by decide +kernel
theorem dX11_count_77 : decode cX11_count 77 = .ok (.ifCond .eq 17, 3) := by decide +kernel
theorem dX11_count_80 : decode cX11_count 80 = .ok (.aload_n 0, 1) := by decide +kernel
theorem dX11_count_81 : decode cX11_count 81 = .ok (.getfield 32, 3) := by decide +kernel
theorem dX11_count_84 : decode cX11_count 84 = .ok (.iload 6, 2) := by decide +kernel
theorem dX11_count_86 : decode cX11_count 86 = .ok (.iaload, 1) := by decide +kernel
theorem dX11_count_87 : decode cX11_count 87 = .ok (.iconst (-1), 1) := by decide +kernel
theorem dX11_count_88 : decode cX11_count 88 = .ok (.if_icmp .eq 6, 3) := by decide +kernel
theorem dX11_count_91 : decode cX11_count 91 = .ok (.iinc 5 1, 3) := by decide +kernel
theorem dX11_count_94 : decode cX11_count 94 = .ok (.iinc 6 1, 3) := by decide +kernel
theorem dX11_count_97 : decode cX11_count 97 = .ok (.goto (-72), 3) := by decide +kernel
theorem dX11_count_100 : decode cX11_count 100 = .ok (.iload 5, 2) := by decide +kernel
theorem dX11_count_102 : decode cX11_count 102 = .ok (.ireturn, 1) := by decide +kernel
theorem dX11_asked_0 : decode cX11_asked 0 = .ok (.iload_n 1, 1) := by decide +kernel
theorem dX11_asked_1 : decode cX11_asked 1 = .ok (.iload_n 2, 1) := by decide +kernel
theorem dX11_asked_2 : decode cX11_asked 2 = .ok (.invokestatic 258, 3) := by decide +kernel
theorem dX11_asked_5 : decode cX11_asked 5 = .ok (.ifCond .eq 12, 3) := by decide +kernel
theorem dX11_asked_8 : decode cX11_asked 8 = .ok (.aload_n 0, 1) := by decide +kernel
theorem dX11_asked_9 : decode cX11_asked 9 = .ok (.iload 4, 2) := by decide +kernel
theorem dX11_asked_11 : decode cX11_asked 11 = .ok (.invokevirtual 208, 3) := by decide +kernel
theorem dX11_asked_14 : decode cX11_asked 14 = .ok (.ifCond .ne 5, 3) := by decide +kernel
theorem dX11_asked_17 : decode cX11_asked 17 = .ok (.iconst (-1), 1) := by decide +kernel
theorem dX11_asked_18 : decode cX11_asked 18 = .ok (.ireturn, 1) := by decide +kernel
theorem dX11_asked_19 : decode cX11_asked 19 = .ok (.iconst 0, 1) := by decide +kernel
theorem dX11_asked_20 : decode cX11_asked 20 = .ok (.istore 6, 2) := by decide +kernel
theorem dX11_asked_22 : decode cX11_asked 22 = .ok (.iconst 0, 1) := by decide +kernel
theorem dX11_asked_23 : decode cX11_asked 23 = .ok (.istore 7, 2) := by decide +kernel
theorem dX11_asked_25 : decode cX11_asked 25 = .ok (.iload 7, 2) := by decide +kernel
theorem dX11_asked_27 : decode cX11_asked 27 = .ok (.aload_n 0, 1) := by decide +kernel
theorem dX11_asked_28 : decode cX11_asked 28 = .ok (.getfield 7, 3) := by decide +kernel
theorem dX11_asked_31 : decode cX11_asked 31 = .ok (.if_icmp .ge 173, 3) := by decide +kernel
theorem dX11_asked_34 : decode cX11_asked 34 = .ok (.iconst 0, 1) := by decide +kernel
theorem dX11_asked_35 : decode cX11_asked 35 = .ok (.istore 8, 2) := by decide +kernel
theorem dX11_asked_37 : decode cX11_asked 37 = .ok (.iconst 0, 1) := by decide +kernel
theorem dX11_asked_38 : decode cX11_asked 38 = .ok (.istore 9, 2) := by decide +kernel
theorem dX11_asked_40 : decode cX11_asked 40 = .ok (.iload 9, 2) := by decide +kernel
theorem dX11_asked_42 : decode cX11_asked 42 = .ok (.aload_n 0, 1) := by decide +kernel
theorem dX11_asked_43 : decode cX11_asked 43 = .ok (.getfield 205, 3) := by decide +kernel
theorem dX11_asked_46 : decode cX11_asked 46 = .ok (.if_icmp .ge 144, 3) := by decide +kernel
theorem dX11_asked_49 : decode cX11_asked 49 = .ok (.aload_n 0, 1) := by decide +kernel
theorem dX11_asked_50 : decode cX11_asked 50 = .ok (.getfield 16, 3) := by decide +kernel
theorem dX11_asked_53 : decode cX11_asked 53 = .ok (.iload 7, 2) := by decide +kernel
theorem dX11_asked_55 : decode cX11_asked 55 = .ok (.iaload, 1) := by decide +kernel
theorem dX11_asked_56 : decode cX11_asked 56 = .ok (.ifCond .ne 128, 3) := by decide +kernel
theorem dX11_asked_59 : decode cX11_asked 59 = .ok (.aload_n 0, 1) := by decide +kernel
theorem dX11_asked_60 : decode cX11_asked 60 = .ok (.getfield 64, 3) := by decide +kernel
theorem dX11_asked_63 : decode cX11_asked 63 = .ok (.iload 9, 2) := by decide +kernel
theorem dX11_asked_65 : decode cX11_asked 65 = .ok (.iaload, 1) := by decide +kernel
theorem dX11_asked_66 : decode cX11_asked 66 = .ok (.iload 7, 2) := by decide +kernel
theorem dX11_asked_68 : decode cX11_asked 68 = .ok (.if_icmp .ne 116, 3) := by decide +kernel
theorem dX11_asked_71 : decode cX11_asked 71 = .ok (.aload_n 0, 1) := by decide +kernel
theorem dX11_asked_72 : decode cX11_asked 72 = .ok (.getfield 67, 3) := by decide +kernel
theorem dX11_asked_75 : decode cX11_asked 75 = .ok (.iload 9, 2) := by decide +kernel
theorem dX11_asked_77 : decode cX11_asked 77 = .ok (.iaload, 1) := by decide +kernel
theorem dX11_asked_78 : decode cX11_asked 78 = .ok (.iload_n 1, 1) := by decide +kernel
theorem dX11_asked_79 : decode cX11_asked 79 = .ok (.if_icmp .ne 105, 3) := by decide +kernel
theorem dX11_asked_82 : decode cX11_asked 82 = .ok (.aload_n 0, 1) := by decide +kernel
theorem dX11_asked_83 : decode cX11_asked 83 = .ok (.getfield 70, 3) := by decide +kernel
theorem dX11_asked_86 : decode cX11_asked 86 = .ok (.iload 9, 2) := by decide +kernel
theorem dX11_asked_88 : decode cX11_asked 88 = .ok (.iaload, 1) := by decide +kernel
theorem dX11_asked_89 : decode cX11_asked 89 = .ok (.iload_n 2, 1) := by decide +kernel
theorem dX11_asked_90 : decode cX11_asked 90 = .ok (.if_icmp .eq 6, 3) := by decide +kernel
theorem dX11_asked_93 : decode cX11_asked 93 = .ok (.goto 91, 3) := by decide +kernel
theorem dX11_asked_96 : decode cX11_asked 96 = .ok (.aload_n 0, 1) := by decide +kernel
theorem dX11_asked_97 : decode cX11_asked 97 = .ok (.iload 7, 2) := by decide +kernel
theorem dX11_asked_99 : decode cX11_asked 99 = .ok (.iload 4, 2) := by decide +kernel
theorem dX11_asked_101 : decode cX11_asked 101 = .ok (.invokevirtual 220, 3) := by decide +kernel
theorem dX11_asked_104 : decode cX11_asked 104 = .ok (.istore 10, 2) := by decide +kernel
theorem dX11_asked_106 : decode cX11_asked 106 = .ok (.aload_n 0, 1) := by decide +kernel
theorem dX11_asked_107 : decode cX11_asked 107 = .ok (.getfield 91, 3) := by decide +kernel
theorem dX11_asked_110 : decode cX11_asked 110 = .ok (.iload 9, 2) := by decide +kernel
theorem dX11_asked_112 : decode cX11_asked 112 = .ok (.iaload, 1) := by decide +kernel
theorem dX11_asked_113 : decode cX11_asked 113 = .ok (.iconst (-1), 1) := by decide +kernel
theorem dX11_asked_114 : decode cX11_asked 114 = .ok (.if_icmp .eq 33, 3) := by decide +kernel
theorem dX11_asked_117 : decode cX11_asked 117 = .ok (.aload_n 0, 1) := by decide +kernel
theorem dX11_asked_118 : decode cX11_asked 118 = .ok (.getfield 91, 3) := by decide +kernel
theorem dX11_asked_121 : decode cX11_asked 121 = .ok (.iload 9, 2) := by decide +kernel
theorem dX11_asked_123 : decode cX11_asked 123 = .ok (.iaload, 1) := by decide +kernel
theorem dX11_asked_124 : decode cX11_asked 124 = .ok (.iload_n 3, 1) := by decide +kernel
theorem dX11_asked_125 : decode cX11_asked 125 = .ok (.if_icmp .gt 22, 3) := by decide +kernel
theorem dX11_asked_128 : decode cX11_asked 128 = .ok (.aload_n 0, 1) := by decide +kernel
theorem dX11_asked_129 : decode cX11_asked 129 = .ok (.getfield 91, 3) := by decide +kernel
theorem dX11_asked_132 : decode cX11_asked 132 = .ok (.iload 9, 2) := by decide +kernel
theorem dX11_asked_134 : decode cX11_asked 134 = .ok (.iaload, 1) := by decide +kernel
theorem dX11_asked_135 : decode cX11_asked 135 = .ok (.iload 10, 2) := by decide +kernel
theorem dX11_asked_137 : decode cX11_asked 137 = .ok (.iadd, 1) := by decide +kernel
theorem dX11_asked_138 : decode cX11_asked 138 = .ok (.iload 5, 2) := by decide +kernel
theorem dX11_asked_140 : decode cX11_asked 140 = .ok (.if_icmp .gt 7, 3) := by decide +kernel
theorem dX11_asked_143 : decode cX11_asked 143 = .ok (.iconst 1, 1) := by decide +kernel
theorem dX11_asked_144 : decode cX11_asked 144 = .ok (.goto 4, 3) := by decide +kernel
theorem dX11_asked_147 : decode cX11_asked 147 = .ok (.iconst 0, 1) := by decide +kernel
theorem dX11_asked_148 : decode cX11_asked 148 = .ok (.istore 11, 2) := by decide +kernel
theorem dX11_asked_150 : decode cX11_asked 150 = .ok (.aload_n 0, 1) := by decide +kernel
theorem dX11_asked_151 : decode cX11_asked 151 = .ok (.getfield 76, 3) := by decide +kernel
theorem dX11_asked_154 : decode cX11_asked 154 = .ok (.iload 9, 2) := by decide +kernel
theorem dX11_asked_156 : decode cX11_asked 156 = .ok (.iaload, 1) := by decide +kernel
theorem dX11_asked_157 : decode cX11_asked 157 = .ok (.iload_n 3, 1) := by decide +kernel
theorem dX11_asked_158 : decode cX11_asked 158 = .ok (.if_icmp .gt 26, 3) := by decide +kernel
theorem dX11_asked_161 : decode cX11_asked 161 = .ok (.aload_n 0, 1) := by decide +kernel
theorem dX11_asked_162 : decode cX11_asked 162 = .ok (.getfield 76, 3) := by decide +kernel
theorem dX11_asked_165 : decode cX11_asked 165 = .ok (.iload 9, 2) := by decide +kernel
theorem dX11_asked_167 : decode cX11_asked 167 = .ok (.iaload, 1) := by decide +kernel
theorem dX11_asked_168 : decode cX11_asked 168 = .ok (.iload 10, 2) := by decide +kernel
theorem dX11_asked_170 : decode cX11_asked 170 = .ok (.iadd, 1) := by decide +kernel
theorem dX11_asked_171 : decode cX11_asked 171 = .ok (.iload 5, 2) := by decide +kernel
theorem dX11_asked_173 : decode cX11_asked 173 = .ok (.if_icmp .gt 11, 3) := by decide +kernel
theorem dX11_asked_176 : decode cX11_asked 176 = .ok (.iload 11, 2) := by decide +kernel
theorem dX11_asked_178 : decode cX11_asked 178 = .ok (.ifCond .ne 6, 3) := by decide +kernel
theorem dX11_asked_181 : decode cX11_asked 181 = .ok (.iconst 1, 1) := by decide +kernel
theorem dX11_asked_182 : decode cX11_asked 182 = .ok (.istore 8, 2) := by decide +kernel
theorem dX11_asked_184 : decode cX11_asked 184 = .ok (.iinc 9 1, 3) := by decide +kernel
theorem dX11_asked_187 : decode cX11_asked 187 = .ok (.goto (-147), 3) := by decide +kernel
theorem dX11_asked_190 : decode cX11_asked 190 = .ok (.iload 8, 2) := by decide +kernel
theorem dX11_asked_192 : decode cX11_asked 192 = .ok (.ifCond .eq 6, 3) := by decide +kernel
theorem dX11_asked_195 : decode cX11_asked 195 = .ok (.iinc 6 1, 3) := by decide +kernel
theorem dX11_asked_198 : decode cX11_asked 198 = .ok (.iinc 7 1, 3) := by decide +kernel
theorem dX11_asked_201 : decode cX11_asked 201 = .ok (.goto (-176), 3) := by decide +kernel
theorem dX11_asked_204 : decode cX11_asked 204 = .ok (.iload 6, 2) := by decide +kernel
theorem dX11_asked_206 : decode cX11_asked 206 = .ok (.ireturn, 1) := by decide +kernel
theorem dX11_person_0 : decode cX11_person 0 = .ok (.aload_n 0, 1) := by decide +kernel
theorem dX11_person_1 : decode cX11_person 1 = .ok (.iload_n 1, 1) := by decide +kernel
theorem dX11_person_2 : decode cX11_person 2 = .ok (.invokevirtual 208, 3) := by decide +kernel
theorem dX11_person_5 : decode cX11_person 5 = .ok (.ifCond .ne 9, 3) := by decide +kernel
theorem dX11_person_8 : decode cX11_person 8 = .ok (.aload_n 0, 1) := by decide +kernel
theorem dX11_person_9 : decode cX11_person 9 = .ok (.iconst (-1), 1) := by decide +kernel
theorem dX11_person_10 : decode cX11_person 10 = .ok (.invokevirtual 212, 3) := by decide +kernel
theorem dX11_person_13 : decode cX11_person 13 = .ok (.ireturn, 1) := by decide +kernel
theorem dX11_person_14 : decode cX11_person 14 = .ok (.aload_n 0, 1) := by decide +kernel
theorem dX11_person_15 : decode cX11_person 15 = .ok (.getfield 16, 3) := by decide +kernel
theorem dX11_person_18 : decode cX11_person 18 = .ok (.iload_n 1, 1) := by decide +kernel
theorem dX11_person_19 : decode cX11_person 19 = .ok (.iaload, 1) := by decide +kernel
theorem dX11_person_20 : decode cX11_person 20 = .ok (.ifCond .ne 14, 3) := by decide +kernel
theorem dX11_person_23 : decode cX11_person 23 = .ok (.iload_n 2, 1) := by decide +kernel
theorem dX11_person_24 : decode cX11_person 24 = .ok (.ifCond .lt 10, 3) := by decide +kernel
theorem dX11_person_27 : decode cX11_person 27 = .ok (.iload_n 2, 1) := by decide +kernel
theorem dX11_person_28 : decode cX11_person 28 = .ok (.sipush 9999, 3) := by decide +kernel
theorem dX11_person_31 : decode cX11_person 31 = .ok (.if_icmp .le 10, 3) := by decide +kernel
theorem dX11_person_34 : decode cX11_person 34 = .ok (.aload_n 0, 1) := by decide +kernel
theorem dX11_person_35 : decode cX11_person 35 = .ok (.bipush (-6), 2) := by decide +kernel
theorem dX11_person_37 : decode cX11_person 37 = .ok (.invokevirtual 212, 3) := by decide +kernel
theorem dX11_person_40 : decode cX11_person 40 = .ok (.ireturn, 1) := by decide +kernel
theorem dX11_person_41 : decode cX11_person 41 = .ok (.aload_n 0, 1) := by decide +kernel
theorem dX11_person_42 : decode cX11_person 42 = .ok (.getfield 364, 3) := by decide +kernel
theorem dX11_person_45 : decode cX11_person 45 = .ok (.bipush 20, 2) := by decide +kernel
theorem dX11_person_47 : decode cX11_person 47 = .ok (.if_icmp .ne 10, 3) := by decide +kernel
theorem dX11_person_50 : decode cX11_person 50 = .ok (.aload_n 0, 1) := by decide +kernel
theorem dX11_person_51 : decode cX11_person 51 = .ok (.bipush (-7), 2) := by decide +kernel
theorem dX11_person_53 : decode cX11_person 53 = .ok (.invokevirtual 212, 3) := by decide +kernel
theorem dX11_person_56 : decode cX11_person 56 = .ok (.ireturn, 1) := by decide +kernel
theorem dX11_person_57 : decode cX11_person 57 = .ok (.aload_n 0, 1) := by decide +kernel
theorem dX11_person_58 : decode cX11_person 58 = .ok (.getfield 160, 3) := by decide +kernel
theorem dX11_person_61 : decode cX11_person 61 = .ok (.aload_n 0, 1) := by decide +kernel
theorem dX11_person_62 : decode cX11_person 62 = .ok (.getfield 364, 3) := by decide +kernel
theorem dX11_person_65 : decode cX11_person 65 = .ok (.iload_n 1, 1) := by decide +kernel
theorem dX11_person_66 : decode cX11_person 66 = .ok (.iastore, 1) := by decide +kernel
theorem dX11_person_67 : decode cX11_person 67 = .ok (.aload_n 0, 1) := by decide +kernel
theorem dX11_person_68 : decode cX11_person 68 = .ok (.getfield 163, 3) := by decide +kernel
theorem dX11_person_71 : decode cX11_person 71 = .ok (.aload_n 0, 1) := by decide +kernel
theorem dX11_person_72 : decode cX11_person 72 = .ok (.getfield 364, 3) := by decide +kernel
