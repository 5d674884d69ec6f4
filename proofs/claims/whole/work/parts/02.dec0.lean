theorem dX0_init_0 : decode cX0_init 0 = .ok (.aload_n 0, 1) := by decide +kernel
theorem dX0_init_1 : decode cX0_init 1 = .ok (.invokespecial 3, 3) := by decide +kernel
theorem dX0_init_4 : decode cX0_init 4 = .ok (.aload_n 0, 1) := by decide +kernel
theorem dX0_init_5 : decode cX0_init 5 = .ok (.iconst (-1), 1) := by decide +kernel
theorem dX0_init_6 : decode cX0_init 6 = .ok (.putfield 9, 3) := by decide +kernel
theorem dX0_init_9 : decode cX0_init 9 = .ok (.aload_n 0, 1) := by decide +kernel
theorem dX0_init_10 : decode cX0_init 10 = .ok (.iconst (-1), 1) := by decide +kernel
theorem dX0_init_11 : decode cX0_init 11 = .ok (.putfield 15, 3) := by decide +kernel
theorem dX0_init_14 : decode cX0_init 14 = .ok (.aload_n 0, 1) := by decide +kernel
theorem dX0_init_15 : decode cX0_init 15 = .ok (.iload_n 1, 1) := by decide +kernel
theorem dX0_init_16 : decode cX0_init 16 = .ok (.putfield 18, 3) := by decide +kernel
theorem dX0_init_19 : decode cX0_init 19 = .ok (.aload_n 0, 1) := by decide +kernel
theorem dX0_init_20 : decode cX0_init 20 = .ok (.iload_n 2, 1) := by decide +kernel
theorem dX0_init_21 : decode cX0_init 21 = .ok (.putfield 21, 3) := by decide +kernel
theorem dX0_init_24 : decode cX0_init 24 = .ok (.aload_n 0, 1) := by decide +kernel
theorem dX0_init_25 : decode cX0_init 25 = .ok (.aload_n 3, 1) := by decide +kernel
theorem dX0_init_26 : decode cX0_init 26 = .ok (.putfield 24, 3) := by decide +kernel
theorem dX0_init_29 : decode cX0_init 29 = .ok (.aload_n 0, 1) := by decide +kernel
theorem dX0_init_30 : decode cX0_init 30 = .ok (.iload 4, 2) := by decide +kernel
theorem dX0_init_32 : decode cX0_init 32 = .ok (.putfield 28, 3) := by decide +kernel
theorem dX0_init_35 : decode cX0_init 35 = .ok (.aload_n 0, 1) := by decide +kernel
theorem dX0_init_36 : decode cX0_init 36 = .ok (.iload 5, 2) := by decide +kernel
theorem dX0_init_38 : decode cX0_init 38 = .ok (.putfield 31, 3) := by decide +kernel
theorem dX0_init_41 : decode cX0_init 41 = .ok (.aload_n 0, 1) := by decide +kernel
theorem dX0_init_42 : decode cX0_init 42 = .ok (.iload 6, 2) := by decide +kernel
theorem dX0_init_44 : decode cX0_init 44 = .ok (.putfield 34, 3) := by decide +kernel
theorem dX0_init_47 : decode cX0_init 47 = .ok (.aload_n 0, 1) := by decide +kernel
theorem dX0_init_48 : decode cX0_init 48 = .ok (.iload 7, 2) := by decide +kernel
theorem dX0_init_50 : decode cX0_init 50 = .ok (.putfield 37, 3) := by decide +kernel
theorem dX0_init_53 : decode cX0_init 53 = .ok (.return_, 1) := by decide +kernel
theorem dX0_isOf_0 : decode cX0_isOf 0 = .ok (.iload_n 1, 1) := by decide +kernel
theorem dX0_isOf_1 : decode cX0_isOf 1 = .ok (.ifCond .eq 24, 3) := by decide +kernel
theorem dX0_isOf_4 : decode cX0_isOf 4 = .ok (.iload_n 1, 1) := by decide +kernel
theorem dX0_isOf_5 : decode cX0_isOf 5 = .ok (.aload_n 0, 1) := by decide +kernel
theorem dX0_isOf_6 : decode cX0_isOf 6 = .ok (.getfield 21, 3) := by decide +kernel
theorem dX0_isOf_9 : decode cX0_isOf 9 = .ok (.if_icmp .eq 16, 3) := by decide +kernel
theorem dX0_isOf_12 : decode cX0_isOf 12 = .ok (.iload_n 1, 1) := by decide +kernel
theorem dX0_isOf_13 : decode cX0_isOf 13 = .ok (.iconst 2, 1) := by decide +kernel
theorem dX0_isOf_14 : decode cX0_isOf 14 = .ok (.if_icmp .ne 15, 3) := by decide +kernel
theorem dX0_isOf_17 : decode cX0_isOf 17 = .ok (.aload_n 0, 1) := by decide +kernel
theorem dX0_isOf_18 : decode cX0_isOf 18 = .ok (.getfield 21, 3) := by decide +kernel
theorem dX0_isOf_21 : decode cX0_isOf 21 = .ok (.iconst 3, 1) := by decide +kernel
theorem dX0_isOf_22 : decode cX0_isOf 22 = .ok (.if_icmp .ne 7, 3) := by decide +kernel
theorem dX0_isOf_25 : decode cX0_isOf 25 = .ok (.iconst 1, 1) := by decide +kernel
theorem dX0_isOf_26 : decode cX0_isOf 26 = .ok (.goto 4, 3) := by decide +kernel
theorem dX0_isOf_29 : decode cX0_isOf 29 = .ok (.iconst 0, 1) := by decide +kernel
theorem dX0_isOf_30 : decode cX0_isOf 30 = .ok (.ireturn, 1) := by decide +kernel
theorem dX0_isFor_0 : decode cX0_isFor 0 = .ok (.aload_n 0, 1) := by decide +kernel
theorem dX0_isFor_1 : decode cX0_isFor 1 = .ok (.getfield 28, 3) := by decide +kernel
theorem dX0_isFor_4 : decode cX0_isFor 4 = .ok (.iload_n 1, 1) := by decide +kernel
theorem dX0_isFor_5 : decode cX0_isFor 5 = .ok (.if_icmp .ne 15, 3) := by decide +kernel
theorem dX0_isFor_8 : decode cX0_isFor 8 = .ok (.aload_n 0, 1) := by decide +kernel
theorem dX0_isFor_9 : decode cX0_isFor 9 = .ok (.getfield 31, 3) := by decide +kernel
theorem dX0_isFor_12 : decode cX0_isFor 12 = .ok (.iload_n 2, 1) := by decide +kernel
theorem dX0_isFor_13 : decode cX0_isFor 13 = .ok (.if_icmp .ne 7, 3) := by decide +kernel
theorem dX0_isFor_16 : decode cX0_isFor 16 = .ok (.iconst 1, 1) := by decide +kernel
theorem dX0_isFor_17 : decode cX0_isFor 17 = .ok (.goto 4, 3) := by decide +kernel
theorem dX0_isFor_20 : decode cX0_isFor 20 = .ok (.iconst 0, 1) := by decide +kernel
theorem dX0_isFor_21 : decode cX0_isFor 21 = .ok (.ireturn, 1) := by decide +kernel
theorem dX0_stands_0 : decode cX0_stands 0 = .ok (.aload_n 0, 1) := by decide +kernel
theorem dX0_stands_1 : decode cX0_stands 1 = .ok (.getfield 9, 3) := by decide +kernel
theorem dX0_stands_4 : decode cX0_stands 4 = .ok (.iconst (-1), 1) := by decide +kernel
theorem dX0_stands_5 : decode cX0_stands 5 = .ok (.if_icmp .ne 14, 3) := by decide +kernel
theorem dX0_stands_8 : decode cX0_stands 8 = .ok (.aload_n 0, 1) := by decide +kernel
theorem dX0_stands_9 : decode cX0_stands 9 = .ok (.getfield 40, 3) := by decide +kernel
theorem dX0_stands_12 : decode cX0_stands 12 = .ok (.ifCond .ne 7, 3) := by decide +kernel
theorem dX0_stands_15 : decode cX0_stands 15 = .ok (.iconst 1, 1) := by decide +kernel
theorem dX0_stands_16 : decode cX0_stands 16 = .ok (.goto 4, 3) := by decide +kernel
theorem dX0_stands_19 : decode cX0_stands 19 = .ok (.iconst 0, 1) := by decide +kernel
theorem dX0_stands_20 : decode cX0_stands 20 = .ok (.ireturn, 1) := by decide +kernel
theorem dX0_isBoundStill_0 : decode cX0_isBoundStill 0 = .ok (.aload_n 0, 1) := by decide +kernel
theorem dX0_isBoundStill_1 : decode cX0_isBoundStill 1 = .ok (.getfield 21, 3) := by decide +kernel
theorem dX0_isBoundStill_4 : decode cX0_isBoundStill 4 = .ok (.iconst 3, 1) := by decide +kernel
theorem dX0_isBoundStill_5 : decode cX0_isBoundStill 5 = .ok (.if_icmp .ne 23, 3) := by decide +kernel
theorem dX0_isBoundStill_8 : decode cX0_isBoundStill 8 = .ok (.aload_n 0, 1) := by decide +kernel
theorem dX0_isBoundStill_9 : decode cX0_isBoundStill 9 = .ok (.getfield 15, 3) := by decide +kernel
theorem dX0_isBoundStill_12 : decode cX0_isBoundStill 12 = .ok (.iconst (-1), 1) := by decide +kernel
theorem dX0_isBoundStill_13 : decode cX0_isBoundStill 13 = .ok (.if_icmp .eq 11, 3) := by decide +kernel
theorem dX0_isBoundStill_16 : decode cX0_isBoundStill 16 = .ok (.aload_n 0, 1) := by decide +kernel
theorem dX0_isBoundStill_17 : decode cX0_isBoundStill 17 = .ok (.getfield 15, 3) := by decide +kernel
theorem dX0_isBoundStill_20 : decode cX0_isBoundStill 20 = .ok (.iload_n 1, 1) := by decide +kernel
theorem dX0_isBoundStill_21 : decode cX0_isBoundStill 21 = .ok (.if_icmp .le 7, 3) := by decide +kernel
theorem dX0_isBoundStill_24 : decode cX0_isBoundStill 24 = .ok (.iconst 1, 1) := by decide +kernel
theorem dX0_isBoundStill_25 : decode cX0_isBoundStill 25 = .ok (.goto 4, 3) := by decide +kernel
theorem dX0_isBoundStill_28 : decode cX0_isBoundStill 28 = .ok (.iconst 0, 1) := by decide +kernel
theorem dX0_isBoundStill_29 : decode cX0_isBoundStill 29 = .ok (.ireturn, 1) := by decide +kernel
theorem dX0_partCount_0 : decode cX0_partCount 0 = .ok (.aload_n 0, 1) := by decide +kernel
theorem dX0_partCount_1 : decode cX0_partCount 1 = .ok (.getfield 44, 3) := by decide +kernel
theorem dX0_partCount_4 : decode cX0_partCount 4 = .ok (.ifnonnull 7, 3) := by decide +kernel
theorem dX0_partCount_7 : decode cX0_partCount 7 = .ok (.iconst 0, 1) := by decide +kernel
theorem dX0_partCount_8 : decode cX0_partCount 8 = .ok (.goto 8, 3) := by decide +kernel
theorem dX0_partCount_11 : decode cX0_partCount 11 = .ok (.aload_n 0, 1) := by decide +kernel
theorem dX0_partCount_12 : decode cX0_partCount 12 = .ok (.getfield 44, 3) := by decide +kernel
theorem dX0_partCount_15 : decode cX0_partCount 15 = .ok (.arraylength, 1) := by decide +kernel
theorem dX0_partCount_16 : decode cX0_partCount 16 = .ok (.ireturn, 1) := by decide +kernel
theorem dX0_saysAt_0 : decode cX0_saysAt 0 = .ok (.aload_n 0, 1) := by decide +kernel
theorem dX0_saysAt_1 : decode cX0_saysAt 1 = .ok (.getfield 48, 3) := by decide +kernel
theorem dX0_saysAt_4 : decode cX0_saysAt 4 = .ok (.bipush 100, 2) := by decide +kernel
theorem dX0_saysAt_6 : decode cX0_saysAt 6 = .ok (.aload_n 0, 1) := by decide +kernel
theorem dX0_saysAt_7 : decode cX0_saysAt 7 = .ok (.getfield 34, 3) := by decide +kernel
theorem dX0_saysAt_10 : decode cX0_saysAt 10 = .ok (.iload_n 1, 1) := by decide +kernel
theorem dX0_saysAt_11 : decode cX0_saysAt 11 = .ok (.isub, 1) := by decide +kernel
theorem dX0_saysAt_12 : decode cX0_saysAt 12 = .ok (.invokestatic 51, 3) := by decide +kernel
theorem dX0_saysAt_15 : decode cX0_saysAt 15 = .ok (.isub, 1) := by decide +kernel
theorem dX0_saysAt_16 : decode cX0_saysAt 16 = .ok (.imul, 1) := by decide +kernel
theorem dX0_saysAt_17 : decode cX0_saysAt 17 = .ok (.ireturn, 1) := by decide +kernel
theorem dX0_comesAfter_0 : decode cX0_comesAfter 0 = .ok (.aload_n 0, 1) := by decide +kernel
theorem dX0_comesAfter_1 : decode cX0_comesAfter 1 = .ok (.getfield 28, 3) := by decide +kernel
theorem dX0_comesAfter_4 : decode cX0_comesAfter 4 = .ok (.aload_n 1, 1) := by decide +kernel
theorem dX0_comesAfter_5 : decode cX0_comesAfter 5 = .ok (.getfield 28, 3) := by decide +kernel
theorem dX0_comesAfter_8 : decode cX0_comesAfter 8 = .ok (.if_icmp .eq 20, 3) := by decide +kernel
theorem dX0_comesAfter_11 : decode cX0_comesAfter 11 = .ok (.aload_n 0, 1) := by decide +kernel
theorem dX0_comesAfter_12 : decode cX0_comesAfter 12 = .ok (.getfield 28, 3) := by decide +kernel
theorem dX0_comesAfter_15 : decode cX0_comesAfter 15 = .ok (.aload_n 1, 1) := by decide +kernel
theorem dX0_comesAfter_16 : decode cX0_comesAfter 16 = .ok (.getfield 28, 3) := by decide +kernel
theorem dX0_comesAfter_19 : decode cX0_comesAfter 19 = .ok (.if_icmp .le 7, 3) := by decide +kernel
theorem dX0_comesAfter_22 : decode cX0_comesAfter 22 = .ok (.iconst 1, 1) := by decide +kernel
theorem dX0_comesAfter_23 : decode cX0_comesAfter 23 = .ok (.goto 4, 3) := by decide +kernel
theorem dX0_comesAfter_26 : decode cX0_comesAfter 26 = .ok (.iconst 0, 1) := by decide +kernel
theorem dX0_comesAfter_27 : decode cX0_comesAfter 27 = .ok (.ireturn, 1) := by decide +kernel
theorem dX0_comesAfter_28 : decode cX0_comesAfter 28 = .ok (.aload_n 0, 1) := by decide +kernel
theorem dX0_comesAfter_29 : decode cX0_comesAfter 29 = .ok (.getfield 31, 3) := by decide +kernel
theorem dX0_comesAfter_32 : decode cX0_comesAfter 32 = .ok (.aload_n 1, 1) := by decide +kernel
theorem dX0_comesAfter_33 : decode cX0_comesAfter 33 = .ok (.getfield 31, 3) := by decide +kernel
theorem dX0_comesAfter_36 : decode cX0_comesAfter 36 = .ok (.if_icmp .eq 22, 3) := by decide +kernel
theorem dX0_comesAfter_39 : decode cX0_comesAfter 39 = .ok (.aload_n 0, 1) := by decide +kernel
theorem dX0_comesAfter_40 : decode cX0_comesAfter 40 = .ok (.getfield 31, 3) := by decide +kernel
theorem dX0_comesAfter_43 : decode cX0_comesAfter 43 = .ok (.aload_n 1, 1) := by decide +kernel
theorem dX0_comesAfter_44 : decode cX0_comesAfter 44 = .ok (.getfield 31, 3) := by decide +kernel
theorem dX0_comesAfter_47 : decode cX0_comesAfter 47 = .ok (.if_icmp .le 7, 3) := by decide +kernel
theorem dX0_comesAfter_50 : decode cX0_comesAfter 50 = .ok (.iconst 1, 1) := by decide +kernel
theorem dX0_comesAfter_51 : decode cX0_comesAfter 51 = .ok (.goto 29, 3) := by decide +kernel
theorem dX0_comesAfter_54 : decode cX0_comesAfter 54 = .ok (.iconst 0, 1) := by decide +kernel
theorem dX0_comesAfter_55 : decode cX0_comesAfter 55 = .ok (.goto 25, 3) := by decide +kernel
theorem dX0_comesAfter_58 : decode cX0_comesAfter 58 = .ok (.aload_n 0, 1) := by decide +kernel
theorem dX0_comesAfter_59 : decode cX0_comesAfter 59 = .ok (.getfield 24, 3) := by decide +kernel
theorem dX0_comesAfter_62 : decode cX0_comesAfter 62 = .ok (.getfield 57, 3) := by decide +kernel
theorem dX0_comesAfter_65 : decode cX0_comesAfter 65 = .ok (.aload_n 1, 1) := by decide +kernel
theorem dX0_comesAfter_66 : decode cX0_comesAfter 66 = .ok (.getfield 24, 3) := by decide +kernel
theorem dX0_comesAfter_69 : decode cX0_comesAfter 69 = .ok (.getfield 57, 3) := by decide +kernel
theorem dX0_comesAfter_72 : decode cX0_comesAfter 72 = .ok (.if_icmp .le 7, 3) := by decide +kernel
theorem dX0_comesAfter_75 : decode cX0_comesAfter 75 = .ok (.iconst 1, 1) := by decide +kernel
theorem dX0_comesAfter_76 : decode cX0_comesAfter 76 = .ok (.goto 4, 3) := by decide +kernel
theorem dX0_comesAfter_79 : decode cX0_comesAfter 79 = .ok (.iconst 0, 1) := by decide +kernel
theorem dX0_comesAfter_80 : decode cX0_comesAfter 80 = .ok (.ireturn, 1) := by decide +kernel
theorem dX1_init_0 : decode cX1_init 0 = .ok (.aload_n 0, 1) := by decide +kernel
theorem dX1_init_1 : decode cX1_init 1 = .ok (.invokespecial 3, 3) := by decide +kernel
theorem dX1_init_4 : decode cX1_init 4 = .ok (.aload_n 0, 1) := by decide +kernel
theorem dX1_init_5 : decode cX1_init 5 = .ok (.bipush 10, 2) := by decide +kernel
theorem dX1_init_7 : decode cX1_init 7 = .ok (.newarray .int, 2) := by decide +kernel
theorem dX1_init_9 : decode cX1_init 9 = .ok (.putfield 9, 3) := by decide +kernel
theorem dX1_init_12 : decode cX1_init 12 = .ok (.aload_n 0, 1) := by decide +kernel
theorem dX1_init_13 : decode cX1_init 13 = .ok (.bipush 10, 2) := by decide +kernel
theorem dX1_init_15 : decode cX1_init 15 = .ok (.newarray .int, 2) := by decide +kernel
theorem dX1_init_17 : decode cX1_init 17 = .ok (.putfield 15, 3) := by decide +kernel
theorem dX1_init_20 : decode cX1_init 20 = .ok (.return_, 1) := by decide +kernel
theorem dX1_takeGroup_0 : decode cX1_takeGroup 0 = .ok (.aload_n 0, 1) := by decide +kernel
theorem dX1_takeGroup_1 : decode cX1_takeGroup 1 = .ok (.getfield 9, 3) := by decide +kernel
theorem dX1_takeGroup_4 : decode cX1_takeGroup 4 = .ok (.iload_n 1, 1) := by decide +kernel
theorem dX1_takeGroup_5 : decode cX1_takeGroup 5 = .ok (.iconst 0, 1) := by decide +kernel
theorem dX1_takeGroup_6 : decode cX1_takeGroup 6 = .ok (.iastore, 1) := by decide +kernel
theorem dX1_takeGroup_7 : decode cX1_takeGroup 7 = .ok (.aload_n 0, 1) := by decide +kernel
theorem dX1_takeGroup_8 : decode cX1_takeGroup 8 = .ok (.getfield 15, 3) := by decide +kernel
theorem dX1_takeGroup_11 : decode cX1_takeGroup 11 = .ok (.iload_n 1, 1) := by decide +kernel
theorem dX1_takeGroup_12 : decode cX1_takeGroup 12 = .ok (.iconst 0, 1) := by decide +kernel
theorem dX1_takeGroup_13 : decode cX1_takeGroup 13 = .ok (.iastore, 1) := by decide +kernel
theorem dX1_takeGroup_14 : decode cX1_takeGroup 14 = .ok (.iconst 0, 1) := by decide +kernel
theorem dX1_takeGroup_15 : decode cX1_takeGroup 15 = .ok (.istore_n 3, 1) := by decide +kernel
theorem dX1_takeGroup_16 : decode cX1_takeGroup 16 = .ok (.iload_n 3, 1) := by decide +kernel
theorem dX1_takeGroup_17 : decode cX1_takeGroup 17 = .ok (.getstatic 18, 3) := by decide +kernel
theorem dX1_takeGroup_20 : decode cX1_takeGroup 20 = .ok (.arraylength, 1) := by decide +kernel
theorem dX1_takeGroup_21 : decode cX1_takeGroup 21 = .ok (.if_icmp .ge 49, 3) := by decide +kernel
theorem dX1_takeGroup_24 : decode cX1_takeGroup 24 = .ok (.aload_n 2, 1) := by decide +kernel
theorem dX1_takeGroup_25 : decode cX1_takeGroup 25 = .ok (.iload_n 1, 1) := by decide +kernel
theorem dX1_takeGroup_26 : decode cX1_takeGroup 26 = .ok (.getstatic 18, 3) := by decide +kernel
theorem dX1_takeGroup_29 : decode cX1_takeGroup 29 = .ok (.iload_n 3, 1) := by decide +kernel
theorem dX1_takeGroup_30 : decode cX1_takeGroup 30 = .ok (.iaload, 1) := by decide +kernel
theorem dX1_takeGroup_31 : decode cX1_takeGroup 31 = .ok (.invokevirtual 21, 3) := by decide +kernel
theorem dX1_takeGroup_34 : decode cX1_takeGroup 34 = .ok (.istore 4, 2) := by decide +kernel
theorem dX1_takeGroup_36 : decode cX1_takeGroup 36 = .ok (.iload 4, 2) := by decide +kernel
theorem dX1_takeGroup_38 : decode cX1_takeGroup 38 = .ok (.aload_n 0, 1) := by decide +kernel
theorem dX1_takeGroup_39 : decode cX1_takeGroup 39 = .ok (.getfield 9, 3) := by decide +kernel
theorem dX1_takeGroup_42 : decode cX1_takeGroup 42 = .ok (.iload_n 1, 1) := by decide +kernel
theorem dX1_takeGroup_43 : decode cX1_takeGroup 43 = .ok (.iaload, 1) := by decide +kernel
theorem dX1_takeGroup_44 : decode cX1_takeGroup 44 = .ok (.if_icmp .le 20, 3) := by decide +kernel
theorem dX1_takeGroup_47 : decode cX1_takeGroup 47 = .ok (.aload_n 0, 1) := by decide +kernel
theorem dX1_takeGroup_48 : decode cX1_takeGroup 48 = .ok (.getfield 9, 3) := by decide +kernel
theorem dX1_takeGroup_51 : decode cX1_takeGroup 51 = .ok (.iload_n 1, 1) := by decide +kernel
theorem dX1_takeGroup_52 : decode cX1_takeGroup 52 = .ok (.iload 4, 2) := by decide +kernel
theorem dX1_takeGroup_54 : decode cX1_takeGroup 54 = .ok (.iastore, 1) := by decide +kernel
theorem dX1_takeGroup_55 : decode cX1_takeGroup 55 = .ok (.aload_n 0, 1) := by decide +kernel
theorem dX1_takeGroup_56 : decode cX1_takeGroup 56 = .ok (.getfield 15, 3) := by decide +kernel
theorem dX1_takeGroup_59 : decode cX1_takeGroup 59 = .ok (.iload_n 1, 1) := by decide +kernel
theorem dX1_takeGroup_60 : decode cX1_takeGroup 60 = .ok (.iload_n 3, 1) := by decide +kernel
theorem dX1_takeGroup_61 : decode cX1_takeGroup 61 = .ok (.iconst 1, 1) := by decide +kernel
theorem dX1_takeGroup_62 : decode cX1_takeGroup 62 = .ok (.iadd, 1) := by decide +kernel
theorem dX1_takeGroup_63 : decode cX1_takeGroup 63 = .ok (.iastore, 1) := by decide +kernel
theorem dX1_takeGroup_64 : decode cX1_takeGroup 64 = .ok (.iinc 3 1, 3) := by decide +kernel
theorem dX1_takeGroup_67 : decode cX1_takeGroup 67 = .ok (.goto (-51), 3) := by decide +kernel
theorem dX1_takeGroup_70 : decode cX1_takeGroup 70 = .ok (.return_, 1) := by decide +kernel
theorem dX1_find_0 : decode cX1_find 0 = .ok (.aload_n 0, 1) := by decide +kernel
theorem dX1_find_1 : decode cX1_find 1 = .ok (.iload_n 1, 1) := by decide +kernel
theorem dX1_find_2 : decode cX1_find 2 = .ok (.putfield 27, 3) := by decide +kernel
theorem dX1_find_5 : decode cX1_find 5 = .ok (.aload_n 0, 1) := by decide +kernel
theorem dX1_find_6 : decode cX1_find 6 = .ok (.iconst 0, 1) := by decide +kernel
theorem dX1_find_7 : decode cX1_find 7 = .ok (.putfield 31, 3) := by decide +kernel
theorem dX1_find_10 : decode cX1_find 10 = .ok (.iconst 0, 1) := by decide +kernel
theorem dX1_find_11 : decode cX1_find 11 = .ok (.istore 4, 2) := by decide +kernel
theorem dX1_find_13 : decode cX1_find 13 = .ok (.iconst 0, 1) := by decide +kernel
theorem dX1_find_14 : decode cX1_find 14 = .ok (.istore 5, 2) := by decide +kernel
theorem dX1_find_16 : decode cX1_find 16 = .ok (.iload 5, 2) := by decide +kernel
theorem dX1_find_18 : decode cX1_find 18 = .ok (.iconst 1, 1) := by decide +kernel
theorem dX1_find_19 : decode cX1_find 19 = .ok (.aload_n 0, 1) := by decide +kernel
theorem dX1_find_20 : decode cX1_find 20 = .ok (.getfield 27, 3) := by decide +kernel
theorem dX1_find_23 : decode cX1_find 23 = .ok (.ishl, 1) := by decide +kernel
theorem dX1_find_24 : decode cX1_find 24 = .ok (.if_icmp .ge 52, 3) := by decide +kernel
theorem dX1_find_27 : decode cX1_find 27 = .ok (.iload 5, 2) := by decide +kernel
theorem dX1_find_29 : decode cX1_find 29 = .ok (.invokestatic 34, 3) := by decide +kernel
theorem dX1_find_32 : decode cX1_find 32 = .ok (.iload_n 2, 1) := by decide +kernel
theorem dX1_find_33 : decode cX1_find 33 = .ok (.if_icmp .gt 37, 3) := by decide +kernel
theorem dX1_find_36 : decode cX1_find 36 = .ok (.aload_n 3, 1) := by decide +kernel
theorem dX1_find_37 : decode cX1_find 37 = .ok (.iload 5, 2) := by decide +kernel
theorem dX1_find_39 : decode cX1_find 39 = .ok (.invokevirtual 40, 3) := by decide +kernel
theorem dX1_find_42 : decode cX1_find 42 = .ok (.ifCond .eq 28, 3) := by decide +kernel
theorem dX1_find_45 : decode cX1_find 45 = .ok (.aload_n 0, 1) := by decide +kernel
theorem dX1_find_46 : decode cX1_find 46 = .ok (.iload 5, 2) := by decide +kernel
theorem dX1_find_48 : decode cX1_find 48 = .ok (.invokevirtual 46, 3) := by decide +kernel
theorem dX1_find_51 : decode cX1_find 51 = .ok (.istore 6, 2) := by decide +kernel
theorem dX1_find_53 : decode cX1_find 53 = .ok (.iload 6, 2) := by decide +kernel
theorem dX1_find_55 : decode cX1_find 55 = .ok (.iload 4, 2) := by decide +kernel
theorem dX1_find_57 : decode cX1_find 57 = .ok (.if_icmp .le 13, 3) := by decide +kernel
theorem dX1_find_60 : decode cX1_find 60 = .ok (.iload 6, 2) := by decide +kernel
theorem dX1_find_62 : decode cX1_find 62 = .ok (.istore 4, 2) := by decide +kernel
theorem dX1_find_64 : decode cX1_find 64 = .ok (.aload_n 0, 1) := by decide +kernel
theorem dX1_find_65 : decode cX1_find 65 = .ok (.iload 5, 2) := by decide +kernel
theorem dX1_find_67 : decode cX1_find 67 = .ok (.putfield 31, 3) := by decide +kernel
theorem dX1_find_70 : decode cX1_find 70 = .ok (.iinc 5 1, 3) := by decide +kernel
theorem dX1_find_73 : decode cX1_find 73 = .ok (.goto (-57), 3) := by decide +kernel
theorem dX1_find_76 : decode cX1_find 76 = .ok (.iload 4, 2) := by decide +kernel
theorem dX1_find_78 : decode cX1_find 78 = .ok (.ireturn, 1) := by decide +kernel
theorem dX1_saidTogether_0 : decode cX1_saidTogether 0 = .ok (.iconst 0, 1) := by decide +kernel
theorem dX1_saidTogether_1 : decode cX1_saidTogether 1 = .ok (.istore_n 2, 1) := by decide +kernel
theorem dX1_saidTogether_2 : decode cX1_saidTogether 2 = .ok (.iconst 0, 1) := by decide +kernel
theorem dX1_saidTogether_3 : decode cX1_saidTogether 3 = .ok (.istore_n 3, 1) := by decide +kernel
theorem dX1_saidTogether_4 : decode cX1_saidTogether 4 = .ok (.iload_n 3, 1) := by decide +kernel
theorem dX1_saidTogether_5 : decode cX1_saidTogether 5 = .ok (.aload_n 0, 1) := by decide +kernel
theorem dX1_saidTogether_6 : decode cX1_saidTogether 6 = .ok (.getfield 27, 3) := by decide +kernel
theorem dX1_saidTogether_9 : decode cX1_saidTogether 9 = .ok (.if_icmp .ge 30, 3) := by decide +kernel
theorem dX1_saidTogether_12 : decode cX1_saidTogether 12 = .ok (.iload_n 2, 1) := by decide +kernel
theorem dX1_saidTogether_13 : decode cX1_saidTogether 13 = .ok (.iload_n 1, 1) := by decide +kernel
theorem dX1_saidTogether_14 : decode cX1_saidTogether 14 = .ok (.iload_n 3, 1) := by decide +kernel
theorem dX1_saidTogether_15 : decode cX1_saidTogether 15 = .ok (.invokestatic 49, 3) := by decide +kernel
theorem dX1_saidTogether_18 : decode cX1_saidTogether 18 = .ok (.ifCond .eq 12, 3) := by decide +kernel
theorem dX1_saidTogether_21 : decode cX1_saidTogether 21 = .ok (.aload_n 0, 1) := by decide +kernel
theorem dX1_saidTogether_22 : decode cX1_saidTogether 22 = .ok (.getfield 9, 3) := by decide +kernel
theorem dX1_saidTogether_25 : decode cX1_saidTogether 25 = .ok (.iload_n 3, 1) := by decide +kernel
theorem dX1_saidTogether_26 : decode cX1_saidTogether 26 = .ok (.iaload, 1) := by decide +kernel
theorem dX1_saidTogether_27 : decode cX1_saidTogether 27 = .ok (.goto 4, 3) := by decide +kernel
theorem dX1_saidTogether_30 : decode cX1_saidTogether 30 = .ok (.iconst 0, 1) := by decide +kernel
theorem dX1_saidTogether_31 : decode cX1_saidTogether 31 = .ok (.iadd, 1) := by decide +kernel
theorem dX1_saidTogether_32 : decode cX1_saidTogether 32 = .ok (.istore_n 2, 1) := by decide +kernel
theorem dX1_saidTogether_33 : decode cX1_saidTogether 33 = .ok (.iinc 3 1, 3) := by decide +kernel
theorem dX1_saidTogether_36 : decode cX1_saidTogether 36 = .ok (.goto (-32), 3) := by decide +kernel
theorem dX1_saidTogether_39 : decode cX1_saidTogether 39 = .ok (.iload_n 2, 1) := by decide +kernel
theorem dX1_saidTogether_40 : decode cX1_saidTogether 40 = .ok (.ireturn, 1) := by decide +kernel
theorem dX1_joinOf_0 : decode cX1_joinOf 0 = .ok (.iload_n 1, 1) := by decide +kernel
theorem dX1_joinOf_1 : decode cX1_joinOf 1 = .ok (.iconst 0, 1) := by decide +kernel
theorem dX1_joinOf_2 : decode cX1_joinOf 2 = .ok (.aload_n 0, 1) := by decide +kernel
theorem dX1_joinOf_3 : decode cX1_joinOf 3 = .ok (.getfield 27, 3) := by decide +kernel
theorem dX1_joinOf_6 : decode cX1_joinOf 6 = .ok (.iconst 1, 1) := by decide +kernel
theorem dX1_joinOf_7 : decode cX1_joinOf 7 = .ok (.isub, 1) := by decide +kernel
theorem dX1_joinOf_8 : decode cX1_joinOf 8 = .ok (.invokestatic 53, 3) := by decide +kernel
theorem dX1_joinOf_11 : decode cX1_joinOf 11 = .ok (.ifCond .ne 5, 3) := by decide +kernel
theorem dX1_joinOf_14 : decode cX1_joinOf 14 = .ok (.iconst (-1), 1) := by decide +kernel
theorem dX1_joinOf_15 : decode cX1_joinOf 15 = .ok (.ireturn, 1) := by decide +kernel
theorem dX1_joinOf_16 : decode cX1_joinOf 16 = .ok (.aload_n 0, 1) := by decide +kernel
theorem dX1_joinOf_17 : decode cX1_joinOf 17 = .ok (.getfield 31, 3) := by decide +kernel
theorem dX1_joinOf_20 : decode cX1_joinOf 20 = .ok (.iload_n 1, 1) := by decide +kernel
theorem dX1_joinOf_21 : decode cX1_joinOf 21 = .ok (.invokestatic 49, 3) := by decide +kernel
theorem dX1_joinOf_24 : decode cX1_joinOf 24 = .ok (.ifCond .eq 12, 3) := by decide +kernel
theorem dX1_joinOf_27 : decode cX1_joinOf 27 = .ok (.aload_n 0, 1) := by decide +kernel
theorem dX1_joinOf_28 : decode cX1_joinOf 28 = .ok (.getfield 15, 3) := by decide +kernel
theorem dX1_joinOf_31 : decode cX1_joinOf 31 = .ok (.iload_n 1, 1) := by decide +kernel
theorem dX1_joinOf_32 : decode cX1_joinOf 32 = .ok (.iaload, 1) := by decide +kernel
theorem dX1_joinOf_33 : decode cX1_joinOf 33 = .ok (.goto 4, 3) := by decide +kernel
theorem dX1_joinOf_36 : decode cX1_joinOf 36 = .ok (.iconst 0, 1) := by decide +kernel
theorem dX1_joinOf_37 : decode cX1_joinOf 37 = .ok (.ireturn, 1) := by decide +kernel
theorem dX2_init_0 : decode cX2_init 0 = .ok (.aload_n 0, 1) := by decide +kernel
theorem dX2_init_1 : decode cX2_init 1 = .ok (.invokespecial 3, 3) := by decide +kernel
theorem dX2_init_4 : decode cX2_init 4 = .ok (.aload_n 0, 1) := by decide +kernel
theorem dX2_init_5 : decode cX2_init 5 = .ok (.sipush 160, 3) := by decide +kernel
theorem dX2_init_8 : decode cX2_init 8 = .ok (.anewarray 9, 3) := by decide +kernel
theorem dX2_init_11 : decode cX2_init 11 = .ok (.putfield 11, 3) := by decide +kernel
theorem dX2_init_14 : decode cX2_init 14 = .ok (.aload_n 0, 1) := by decide +kernel
theorem dX2_init_15 : decode cX2_init 15 = .ok (.sipush 161, 3) := by decide +kernel
theorem dX2_init_18 : decode cX2_init 18 = .ok (.newarray .int, 2) := by decide +kernel
theorem dX2_init_20 : decode cX2_init 20 = .ok (.putfield 17, 3) := by decide +kernel
theorem dX2_init_23 : decode cX2_init 23 = .ok (.aload_n 0, 1) := by decide +kernel
theorem dX2_init_24 : decode cX2_init 24 = .ok (.sipush 160, 3) := by decide +kernel
theorem dX2_init_27 : decode cX2_init 27 = .ok (.newarray .int, 2) := by decide +kernel
theorem dX2_init_29 : decode cX2_init 29 = .ok (.putfield 21, 3) := by decide +kernel
theorem dX2_init_32 : decode cX2_init 32 = .ok (.return_, 1) := by decide +kernel
theorem dX2_clear_0 : decode cX2_clear 0 = .ok (.aload_n 0, 1) := by decide +kernel
theorem dX2_clear_1 : decode cX2_clear 1 = .ok (.iconst 0, 1) := by decide +kernel
theorem dX2_clear_2 : decode cX2_clear 2 = .ok (.putfield 24, 3) := by decide +kernel
theorem dX2_clear_5 : decode cX2_clear 5 = .ok (.aload_n 0, 1) := by decide +kernel
theorem dX2_clear_6 : decode cX2_clear 6 = .ok (.iconst 0, 1) := by decide +kernel
theorem dX2_clear_7 : decode cX2_clear 7 = .ok (.putfield 28, 3) := by decide +kernel
theorem dX2_clear_10 : decode cX2_clear 10 = .ok (.return_, 1) := by decide +kernel
theorem dX2_add_0 : decode cX2_add 0 = .ok (.aload_n 0, 1) := by decide +kernel
theorem dX2_add_1 : decode cX2_add 1 = .ok (.getfield 24, 3) := by decide +kernel
theorem dX2_add_4 : decode cX2_add 4 = .ok (.sipush 160, 3) := by decide +kernel
theorem dX2_add_7 : decode cX2_add 7 = .ok (.if_icmp .lt 4, 3) := by decide +kernel
theorem dX2_add_10 : decode cX2_add 10 = .ok (.return_, 1) := by decide +kernel
theorem dX2_add_11 : decode cX2_add 11 = .ok (.aload_n 0, 1) := by decide +kernel
theorem dX2_add_12 : decode cX2_add 12 = .ok (.getfield 24, 3) := by decide +kernel
theorem dX2_add_15 : decode cX2_add 15 = .ok (.istore_n 2, 1) := by decide +kernel
theorem dX2_add_16 : decode cX2_add 16 = .ok (.iload_n 2, 1) := by decide +kernel
theorem dX2_add_17 : decode cX2_add 17 = .ok (.ifCond .le 38, 3) := by decide +kernel
theorem dX2_add_20 : decode cX2_add 20 = .ok (.aload_n 0, 1) := by decide +kernel
theorem dX2_add_21 : decode cX2_add 21 = .ok (.getfield 11, 3) := by decide +kernel
theorem dX2_add_24 : decode cX2_add 24 = .ok (.iload_n 2, 1) := by decide +kernel
theorem dX2_add_25 : decode cX2_add 25 = .ok (.iconst 1, 1) := by decide +kernel
theorem dX2_add_26 : decode cX2_add 26 = .ok (.isub, 1) := by decide +kernel
theorem dX2_add_27 : decode cX2_add 27 = .ok (.aaload, 1) := by decide +kernel
theorem dX2_add_28 : decode cX2_add 28 = .ok (.aload_n 1, 1) := by decide +kernel
theorem dX2_add_29 : decode cX2_add 29 = .ok (.invokevirtual 31, 3) := by decide +kernel
theorem dX2_add_32 : decode cX2_add 32 = .ok (.ifCond .eq 23, 3) := by decide +kernel
theorem dX2_add_35 : decode cX2_add 35 = .ok (.aload_n 0, 1) := by decide +kernel
theorem dX2_add_36 : decode cX2_add 36 = .ok (.getfield 11, 3) := by decide +kernel
theorem dX2_add_39 : decode cX2_add 39 = .ok (.iload_n 2, 1) := by decide +kernel
theorem dX2_add_40 : decode cX2_add 40 = .ok (.aload_n 0, 1) := by decide +kernel
theorem dX2_add_41 : decode cX2_add 41 = .ok (.getfield 11, 3) := by decide +kernel
theorem dX2_add_44 : decode cX2_add 44 = .ok (.iload_n 2, 1) := by decide +kernel
theorem dX2_add_45 : decode cX2_add 45 = .ok (.iconst 1, 1) := by decide +kernel
theorem dX2_add_46 : decode cX2_add 46 = .ok (.isub, 1) := by decide +kernel
theorem dX2_add_47 : decode cX2_add 47 = .ok (.aaload, 1) := by decide +kernel
theorem dX2_add_48 : decode cX2_add 48 = .ok (.aastore, 1) := by decide +kernel
theorem dX2_add_49 : decode cX2_add 49 = .ok (.iinc 2 (-1), 3) := by decide +kernel
theorem dX2_add_52 : decode cX2_add 52 = .ok (.goto (-36), 3) := by decide +kernel
theorem dX2_add_55 : decode cX2_add 55 = .ok (.aload_n 0, 1) := by decide +kernel
theorem dX2_add_56 : decode cX2_add 56 = .ok (.getfield 11, 3) := by decide +kernel
theorem dX2_add_59 : decode cX2_add 59 = .ok (.iload_n 2, 1) := by decide +kernel
theorem dX2_add_60 : decode cX2_add 60 = .ok (.aload_n 1, 1) := by decide +kernel
theorem dX2_add_61 : decode cX2_add 61 = .ok (.aastore, 1) := by decide +kernel
theorem dX2_add_62 : decode cX2_add 62 = .ok (.aload_n 0, 1) := by decide +kernel
theorem dX2_add_63 : decode cX2_add 63 = .ok (.dup, 1) := by decide +kernel
theorem dX2_add_64 : decode cX2_add 64 = .ok (.getfield 24, 3) := by decide +kernel
theorem dX2_add_67 : decode cX2_add 67 = .ok (.iconst 1, 1) := by decide +kernel
theorem dX2_add_68 : decode cX2_add 68 = .ok (.iadd, 1) := by decide +kernel
theorem dX2_add_69 : decode cX2_add 69 = .ok (.putfield 24, 3) := by decide +kernel
theorem dX2_add_72 : decode cX2_add 72 = .ok (.return_, 1) := by decide +kernel
theorem dX2_findStarts_0 : decode cX2_findStarts 0 = .ok (.aload_n 0, 1) := by decide +kernel
theorem dX2_findStarts_1 : decode cX2_findStarts 1 = .ok (.iconst 0, 1) := by decide +kernel
theorem dX2_findStarts_2 : decode cX2_findStarts 2 = .ok (.putfield 28, 3) := by decide +kernel
theorem dX2_findStarts_5 : decode cX2_findStarts 5 = .ok (.iconst 0, 1) := by decide +kernel
theorem dX2_findStarts_6 : decode cX2_findStarts 6 = .ok (.istore_n 1, 1) := by decide +kernel
theorem dX2_findStarts_7 : decode cX2_findStarts 7 = .ok (.iload_n 1, 1) := by decide +kernel
theorem dX2_findStarts_8 : decode cX2_findStarts 8 = .ok (.aload_n 0, 1) := by decide +kernel
theorem dX2_findStarts_9 : decode cX2_findStarts 9 = .ok (.getfield 24, 3) := by decide +kernel
theorem dX2_findStarts_12 : decode cX2_findStarts 12 = .ok (.if_icmp .ge 67, 3) := by decide +kernel
theorem dX2_findStarts_15 : decode cX2_findStarts 15 = .ok (.iload_n 1, 1) := by decide +kernel
theorem dX2_findStarts_16 : decode cX2_findStarts 16 = .ok (.ifCond .eq 37, 3) := by decide +kernel
theorem dX2_findStarts_19 : decode cX2_findStarts 19 = .ok (.aload_n 0, 1) := by decide +kernel
theorem dX2_findStarts_20 : decode cX2_findStarts 20 = .ok (.getfield 11, 3) := by decide +kernel
theorem dX2_findStarts_23 : decode cX2_findStarts 23 = .ok (.iload_n 1, 1) := by decide +kernel
theorem dX2_findStarts_24 : decode cX2_findStarts 24 = .ok (.aaload, 1) := by decide +kernel
theorem dX2_findStarts_25 : decode cX2_findStarts 25 = .ok (.aload_n 0, 1) := by decide +kernel
theorem dX2_findStarts_26 : decode cX2_findStarts 26 = .ok (.getfield 11, 3) := by decide +kernel
theorem dX2_findStarts_29 : decode cX2_findStarts 29 = .ok (.iload_n 1, 1) := by decide +kernel
theorem dX2_findStarts_30 : decode cX2_findStarts 30 = .ok (.iconst 1, 1) := by decide +kernel
theorem dX2_findStarts_31 : decode cX2_findStarts 31 = .ok (.isub, 1) := by decide +kernel
theorem dX2_findStarts_32 : decode cX2_findStarts 32 = .ok (.aaload, 1) := by decide +kernel
theorem dX2_findStarts_33 : decode cX2_findStarts 33 = .ok (.getfield 35, 3) := by decide +kernel
theorem dX2_findStarts_36 : decode cX2_findStarts 36 = .ok (.aload_n 0, 1) := by decide +kernel
theorem dX2_findStarts_37 : decode cX2_findStarts 37 = .ok (.getfield 11, 3) := by decide +kernel
theorem dX2_findStarts_40 : decode cX2_findStarts 40 = .ok (.iload_n 1, 1) := by decide +kernel
theorem dX2_findStarts_41 : decode cX2_findStarts 41 = .ok (.iconst 1, 1) := by decide +kernel
theorem dX2_findStarts_42 : decode cX2_findStarts 42 = .ok (.isub, 1) := by decide +kernel
theorem dX2_findStarts_43 : decode cX2_findStarts 43 = .ok (.aaload, 1) := by decide +kernel
theorem dX2_findStarts_44 : decode cX2_findStarts 44 = .ok (.getfield 38, 3) := by decide +kernel
theorem dX2_findStarts_47 : decode cX2_findStarts 47 = .ok (.invokevirtual 41, 3) := by decide +kernel
theorem dX2_findStarts_50 : decode cX2_findStarts 50 = .ok (.ifCond .ne 23, 3) := by decide +kernel
theorem dX2_findStarts_53 : decode cX2_findStarts 53 = .ok (.aload_n 0, 1) := by decide +kernel
theorem dX2_findStarts_54 : decode cX2_findStarts 54 = .ok (.getfield 17, 3) := by decide +kernel
theorem dX2_findStarts_57 : decode cX2_findStarts 57 = .ok (.aload_n 0, 1) := by decide +kernel
theorem dX2_findStarts_58 : decode cX2_findStarts 58 = .ok (.getfield 28, 3) := by decide +kernel
theorem dX2_findStarts_61 : decode cX2_findStarts 61 = .ok (.iload_n 1, 1) := by decide +kernel
theorem dX2_findStarts_62 : decode cX2_findStarts 62 = .ok (.iastore, 1) := by decide +kernel
theorem dX2_findStarts_63 : decode cX2_findStarts 63 = .ok (.aload_n 0, 1) := by decide +kernel
theorem dX2_findStarts_64 : decode cX2_findStarts 64 = .ok (.dup, 1) := by decide +kernel
theorem dX2_findStarts_65 : decode cX2_findStarts 65 = .ok (.getfield 28, 3) := by decide +kernel
theorem dX2_findStarts_68 : decode cX2_findStarts 68 = .ok (.iconst 1, 1) := by decide +kernel
theorem dX2_findStarts_69 : decode cX2_findStarts 69 = .ok (.iadd, 1) := by decide +kernel
theorem dX2_findStarts_70 : decode cX2_findStarts 70 = .ok (.putfield 28, 3) := by decide +kernel
theorem dX2_findStarts_73 : decode cX2_findStarts 73 = .ok (.iinc 1 1, 3) := by decide +kernel
theorem dX2_findStarts_76 : decode cX2_findStarts 76 = .ok (.goto (-69), 3) := by decide +kernel
theorem dX2_findStarts_79 : decode cX2_findStarts 79 = .ok (.aload_n 0, 1) := by decide +kernel
theorem dX2_findStarts_80 : decode cX2_findStarts 80 = .ok (.getfield 17, 3) := by decide +kernel
theorem dX2_findStarts_83 : decode cX2_findStarts 83 = .ok (.aload_n 0, 1) := by decide +kernel
theorem dX2_findStarts_84 : decode cX2_findStarts 84 = .ok (.getfield 28, 3) := by decide +kernel
theorem dX2_findStarts_87 : decode cX2_findStarts 87 = .ok (.aload_n 0, 1) := by decide +kernel
theorem dX2_findStarts_88 : decode cX2_findStarts 88 = .ok (.getfield 24, 3) := by decide +kernel
theorem dX2_findStarts_91 : decode cX2_findStarts 91 = .ok (.iastore, 1) := by decide +kernel
theorem dX2_findStarts_92 : decode cX2_findStarts 92 = .ok (.return_, 1) := by decide +kernel
theorem dX2_firstOf_0 : decode cX2_firstOf 0 = .ok (.aload_n 0, 1) := by decide +kernel
theorem dX2_firstOf_1 : decode cX2_firstOf 1 = .ok (.getfield 11, 3) := by decide +kernel
theorem dX2_firstOf_4 : decode cX2_firstOf 4 = .ok (.aload_n 0, 1) := by decide +kernel
theorem dX2_firstOf_5 : decode cX2_firstOf 5 = .ok (.getfield 17, 3) := by decide +kernel
theorem dX2_firstOf_8 : decode cX2_firstOf 8 = .ok (.iload_n 1, 1) := by decide +kernel
theorem dX2_firstOf_9 : decode cX2_firstOf 9 = .ok (.iaload, 1) := by decide +kernel
theorem dX2_firstOf_10 : decode cX2_firstOf 10 = .ok (.aaload, 1) := by decide +kernel
theorem dX2_firstOf_11 : decode cX2_firstOf 11 = .ok (.areturn, 1) := by decide +kernel
theorem dX2_sizeOf_0 : decode cX2_sizeOf 0 = .ok (.aload_n 0, 1) := by decide +kernel
theorem dX2_sizeOf_1 : decode cX2_sizeOf 1 = .ok (.getfield 17, 3) := by decide +kernel
theorem dX2_sizeOf_4 : decode cX2_sizeOf 4 = .ok (.iload_n 1, 1) := by decide +kernel
theorem dX2_sizeOf_5 : decode cX2_sizeOf 5 = .ok (.iconst 1, 1) := by decide +kernel
theorem dX2_sizeOf_6 : decode cX2_sizeOf 6 = .ok (.iadd, 1) := by decide +kernel
theorem dX2_sizeOf_7 : decode cX2_sizeOf 7 = .ok (.iaload, 1) := by decide +kernel
theorem dX2_sizeOf_8 : decode cX2_sizeOf 8 = .ok (.aload_n 0, 1) := by decide +kernel
theorem dX2_sizeOf_9 : decode cX2_sizeOf 9 = .ok (.getfield 17, 3) := by decide +kernel
theorem dX2_sizeOf_12 : decode cX2_sizeOf 12 = .ok (.iload_n 1, 1) := by decide +kernel
theorem dX2_sizeOf_13 : decode cX2_sizeOf 13 = .ok (.iaload, 1) := by decide +kernel
theorem dX2_sizeOf_14 : decode cX2_sizeOf 14 = .ok (.isub, 1) := by decide +kernel
theorem dX2_sizeOf_15 : decode cX2_sizeOf 15 = .ok (.ireturn, 1) := by decide +kernel
theorem dX2_hearthsOf_0 : decode cX2_hearthsOf 0 = .ok (.iconst 0, 1) := by decide +kernel
theorem dX2_hearthsOf_1 : decode cX2_hearthsOf 1 = .ok (.istore_n 2, 1) := by decide +kernel
theorem dX2_hearthsOf_2 : decode cX2_hearthsOf 2 = .ok (.aload_n 0, 1) := by decide +kernel
theorem dX2_hearthsOf_3 : decode cX2_hearthsOf 3 = .ok (.getfield 17, 3) := by decide +kernel
theorem dX2_hearthsOf_6 : decode cX2_hearthsOf 6 = .ok (.iload_n 1, 1) := by decide +kernel
theorem dX2_hearthsOf_7 : decode cX2_hearthsOf 7 = .ok (.iaload, 1) := by decide +kernel
theorem dX2_hearthsOf_8 : decode cX2_hearthsOf 8 = .ok (.istore_n 3, 1) := by decide +kernel
theorem dX2_hearthsOf_9 : decode cX2_hearthsOf 9 = .ok (.iload_n 3, 1) := by decide +kernel
theorem dX2_hearthsOf_10 : decode cX2_hearthsOf 10 = .ok (.aload_n 0, 1) := by decide +kernel
theorem dX2_hearthsOf_11 : decode cX2_hearthsOf 11 = .ok (.getfield 17, 3) := by decide +kernel
theorem dX2_hearthsOf_14 : decode cX2_hearthsOf 14 = .ok (.iload_n 1, 1) := by decide +kernel
theorem dX2_hearthsOf_15 : decode cX2_hearthsOf 15 = .ok (.iconst 1, 1) := by decide +kernel
theorem dX2_hearthsOf_16 : decode cX2_hearthsOf 16 = .ok (.iadd, 1) := by decide +kernel
theorem dX2_hearthsOf_17 : decode cX2_hearthsOf 17 = .ok (.iaload, 1) := by decide +kernel
theorem dX2_hearthsOf_18 : decode cX2_hearthsOf 18 = .ok (.if_icmp .ge 21, 3) := by decide +kernel
theorem dX2_hearthsOf_21 : decode cX2_hearthsOf 21 = .ok (.iload_n 2, 1) := by decide +kernel
theorem dX2_hearthsOf_22 : decode cX2_hearthsOf 22 = .ok (.aload_n 0, 1) := by decide +kernel
theorem dX2_hearthsOf_23 : decode cX2_hearthsOf 23 = .ok (.getfield 11, 3) := by decide +kernel
theorem dX2_hearthsOf_26 : decode cX2_hearthsOf 26 = .ok (.iload_n 3, 1) := by decide +kernel
theorem dX2_hearthsOf_27 : decode cX2_hearthsOf 27 = .ok (.aaload, 1) := by decide +kernel
theorem dX2_hearthsOf_28 : decode cX2_hearthsOf 28 = .ok (.getfield 45, 3) := by decide +kernel
theorem dX2_hearthsOf_31 : decode cX2_hearthsOf 31 = .ok (.iadd, 1) := by decide +kernel
theorem dX2_hearthsOf_32 : decode cX2_hearthsOf 32 = .ok (.istore_n 2, 1) := by decide +kernel
theorem dX2_hearthsOf_33 : decode cX2_hearthsOf 33 = .ok (.iinc 3 1, 3) := by decide +kernel
theorem dX2_hearthsOf_36 : decode cX2_hearthsOf 36 = .ok (.goto (-27), 3) := by decide +kernel
theorem dX2_hearthsOf_39 : decode cX2_hearthsOf 39 = .ok (.iload_n 2, 1) := by decide +kernel
theorem dX2_hearthsOf_40 : decode cX2_hearthsOf 40 = .ok (.ireturn, 1) := by decide +kernel
theorem dX2_joined_0 : decode cX2_joined 0 = .ok (.iload_n 2, 1) := by decide +kernel
theorem dX2_joined_1 : decode cX2_joined 1 = .ok (.lookupswitch 47 #[(108, 40), (120, 27)], 27) := by decide +kernel
theorem dX2_joined_28 : decode cX2_joined 28 = .ok (.aload_n 0, 1) := by decide +kernel
theorem dX2_joined_29 : decode cX2_joined 29 = .ok (.iload_n 1, 1) := by decide +kernel
theorem dX2_joined_30 : decode cX2_joined 30 = .ok (.aload_n 0, 1) := by decide +kernel
theorem dX2_joined_31 : decode cX2_joined 31 = .ok (.iload_n 1, 1) := by decide +kernel
theorem dX2_joined_32 : decode cX2_joined 32 = .ok (.invokevirtual 48, 3) := by decide +kernel
theorem dX2_joined_35 : decode cX2_joined 35 = .ok (.iconst 1, 1) := by decide +kernel
theorem dX2_joined_36 : decode cX2_joined 36 = .ok (.isub, 1) := by decide +kernel
theorem dX2_joined_37 : decode cX2_joined 37 = .ok (.invokevirtual 52, 3) := by decide +kernel
theorem dX2_joined_40 : decode cX2_joined 40 = .ok (.ireturn, 1) := by decide +kernel
theorem dX2_joined_41 : decode cX2_joined 41 = .ok (.aload_n 0, 1) := by decide +kernel
theorem dX2_joined_42 : decode cX2_joined 42 = .ok (.iload_n 1, 1) := by decide +kernel
theorem dX2_joined_43 : decode cX2_joined 43 = .ok (.iconst 0, 1) := by decide +kernel
theorem dX2_joined_44 : decode cX2_joined 44 = .ok (.invokevirtual 52, 3) := by decide +kernel
theorem dX2_joined_47 : decode cX2_joined 47 = .ok (.ireturn, 1) := by decide +kernel
theorem dX2_joined_48 : decode cX2_joined 48 = .ok (.aload_n 0, 1) := by decide +kernel
theorem dX2_joined_49 : decode cX2_joined 49 = .ok (.iload_n 1, 1) := by decide +kernel
theorem dX2_joined_50 : decode cX2_joined 50 = .ok (.aload_n 0, 1) := by decide +kernel
theorem dX2_joined_51 : decode cX2_joined 51 = .ok (.iload_n 1, 1) := by decide +kernel
theorem dX2_joined_52 : decode cX2_joined 52 = .ok (.invokevirtual 48, 3) := by decide +kernel
theorem dX2_joined_55 : decode cX2_joined 55 = .ok (.iconst 1, 1) := by decide +kernel
theorem dX2_joined_56 : decode cX2_joined 56 = .ok (.isub, 1) := by decide +kernel
theorem dX2_joined_57 : decode cX2_joined 57 = .ok (.iconst 2, 1) := by decide +kernel
theorem dX2_joined_58 : decode cX2_joined 58 = .ok (.idiv, 1) := by decide +kernel
theorem dX2_joined_59 : decode cX2_joined 59 = .ok (.invokevirtual 52, 3) := by decide +kernel
theorem dX2_joined_62 : decode cX2_joined 62 = .ok (.ireturn, 1) := by decide +kernel
theorem dX2_muchAt_0 : decode cX2_muchAt 0 = .ok (.aload_n 0, 1) := by decide +kernel
theorem dX2_muchAt_1 : decode cX2_muchAt 1 = .ok (.getfield 17, 3) := by decide +kernel
theorem dX2_muchAt_4 : decode cX2_muchAt 4 = .ok (.iload_n 1, 1) := by decide +kernel
theorem dX2_muchAt_5 : decode cX2_muchAt 5 = .ok (.iaload, 1) := by decide +kernel
theorem dX2_muchAt_6 : decode cX2_muchAt 6 = .ok (.istore_n 3, 1) := by decide +kernel
theorem dX2_muchAt_7 : decode cX2_muchAt 7 = .ok (.iload_n 3, 1) := by decide +kernel
theorem dX2_muchAt_8 : decode cX2_muchAt 8 = .ok (.aload_n 0, 1) := by decide +kernel
theorem dX2_muchAt_9 : decode cX2_muchAt 9 = .ok (.getfield 17, 3) := by decide +kernel
theorem dX2_muchAt_12 : decode cX2_muchAt 12 = .ok (.iload_n 1, 1) := by decide +kernel
theorem dX2_muchAt_13 : decode cX2_muchAt 13 = .ok (.iconst 1, 1) := by decide +kernel
theorem dX2_muchAt_14 : decode cX2_muchAt 14 = .ok (.iadd, 1) := by decide +kernel
theorem dX2_muchAt_15 : decode cX2_muchAt 15 = .ok (.iaload, 1) := by decide +kernel
theorem dX2_muchAt_16 : decode cX2_muchAt 16 = .ok (.if_icmp .ge 134, 3) := by decide +kernel
theorem dX2_muchAt_19 : decode cX2_muchAt 19 = .ok (.iconst 0, 1) := by decide +kernel
theorem dX2_muchAt_20 : decode cX2_muchAt 20 = .ok (.istore 4, 2) := by decide +kernel
theorem dX2_muchAt_22 : decode cX2_muchAt 22 = .ok (.iconst 0, 1) := by decide +kernel
theorem dX2_muchAt_23 : decode cX2_muchAt 23 = .ok (.istore 5, 2) := by decide +kernel
theorem dX2_muchAt_25 : decode cX2_muchAt 25 = .ok (.aload_n 0, 1) := by decide +kernel
theorem dX2_muchAt_26 : decode cX2_muchAt 26 = .ok (.getfield 17, 3) := by decide +kernel
theorem dX2_muchAt_29 : decode cX2_muchAt 29 = .ok (.iload_n 1, 1) := by decide +kernel
theorem dX2_muchAt_30 : decode cX2_muchAt 30 = .ok (.iaload, 1) := by decide +kernel
theorem dX2_muchAt_31 : decode cX2_muchAt 31 = .ok (.istore 6, 2) := by decide +kernel
theorem dX2_muchAt_33 : decode cX2_muchAt 33 = .ok (.iload 6, 2) := by decide +kernel
theorem dX2_muchAt_35 : decode cX2_muchAt 35 = .ok (.aload_n 0, 1) := by decide +kernel
theorem dX2_muchAt_36 : decode cX2_muchAt 36 = .ok (.getfield 17, 3) := by decide +kernel
theorem dX2_muchAt_39 : decode cX2_muchAt 39 = .ok (.iload_n 1, 1) := by decide +kernel
theorem dX2_muchAt_40 : decode cX2_muchAt 40 = .ok (.iconst 1, 1) := by decide +kernel
theorem dX2_muchAt_41 : decode cX2_muchAt 41 = .ok (.iadd, 1) := by decide +kernel
theorem dX2_muchAt_42 : decode cX2_muchAt 42 = .ok (.iaload, 1) := by decide +kernel
theorem dX2_muchAt_43 : decode cX2_muchAt 43 = .ok (.if_icmp .ge 79, 3) := by decide +kernel
theorem dX2_muchAt_46 : decode cX2_muchAt 46 = .ok (.iload 4, 2) := by decide +kernel
theorem dX2_muchAt_48 : decode cX2_muchAt 48 = .ok (.aload_n 0, 1) := by decide +kernel
theorem dX2_muchAt_49 : decode cX2_muchAt 49 = .ok (.getfield 11, 3) := by decide +kernel
theorem dX2_muchAt_52 : decode cX2_muchAt 52 = .ok (.iload 6, 2) := by decide +kernel
theorem dX2_muchAt_54 : decode cX2_muchAt 54 = .ok (.aaload, 1) := by decide +kernel
theorem dX2_muchAt_55 : decode cX2_muchAt 55 = .ok (.getfield 56, 3) := by decide +kernel
theorem dX2_muchAt_58 : decode cX2_muchAt 58 = .ok (.aload_n 0, 1) := by decide +kernel
theorem dX2_muchAt_59 : decode cX2_muchAt 59 = .ok (.getfield 11, 3) := by decide +kernel
theorem dX2_muchAt_62 : decode cX2_muchAt 62 = .ok (.iload_n 3, 1) := by decide +kernel
theorem dX2_muchAt_63 : decode cX2_muchAt 63 = .ok (.aaload, 1) := by decide +kernel
theorem dX2_muchAt_64 : decode cX2_muchAt 64 = .ok (.getfield 56, 3) := by decide +kernel
theorem dX2_muchAt_67 : decode cX2_muchAt 67 = .ok (.if_icmp .ge 7, 3) := by decide +kernel
theorem dX2_muchAt_70 : decode cX2_muchAt 70 = .ok (.iconst 1, 1) := by decide +kernel
theorem dX2_muchAt_71 : decode cX2_muchAt 71 = .ok (.goto 4, 3) := by decide +kernel
theorem dX2_muchAt_74 : decode cX2_muchAt 74 = .ok (.iconst 0, 1) := by decide +kernel
theorem dX2_muchAt_75 : decode cX2_muchAt 75 = .ok (.invokestatic 59, 3) := by decide +kernel
theorem dX2_muchAt_78 : decode cX2_muchAt 78 = .ok (.iadd, 1) := by decide +kernel
theorem dX2_muchAt_79 : decode cX2_muchAt 79 = .ok (.istore 4, 2) := by decide +kernel
theorem dX2_muchAt_81 : decode cX2_muchAt 81 = .ok (.iload 5, 2) := by decide +kernel
theorem dX2_muchAt_83 : decode cX2_muchAt 83 = .ok (.aload_n 0, 1) := by decide +kernel
theorem dX2_muchAt_84 : decode cX2_muchAt 84 = .ok (.getfield 11, 3) := by decide +kernel
theorem dX2_muchAt_87 : decode cX2_muchAt 87 = .ok (.iload 6, 2) := by decide +kernel
theorem dX2_muchAt_89 : decode cX2_muchAt 89 = .ok (.aaload, 1) := by decide +kernel
theorem dX2_muchAt_90 : decode cX2_muchAt 90 = .ok (.getfield 56, 3) := by decide +kernel
theorem dX2_muchAt_93 : decode cX2_muchAt 93 = .ok (.aload_n 0, 1) := by decide +kernel
theorem dX2_muchAt_94 : decode cX2_muchAt 94 = .ok (.getfield 11, 3) := by decide +kernel
theorem dX2_muchAt_97 : decode cX2_muchAt 97 = .ok (.iload_n 3, 1) := by decide +kernel
theorem dX2_muchAt_98 : decode cX2_muchAt 98 = .ok (.aaload, 1) := by decide +kernel
theorem dX2_muchAt_99 : decode cX2_muchAt 99 = .ok (.getfield 56, 3) := by decide +kernel
theorem dX2_muchAt_102 : decode cX2_muchAt 102 = .ok (.if_icmp .gt 7, 3) := by decide +kernel
theorem dX2_muchAt_105 : decode cX2_muchAt 105 = .ok (.iconst 1, 1) := by decide +kernel
theorem dX2_muchAt_106 : decode cX2_muchAt 106 = .ok (.goto 4, 3) := by decide +kernel
theorem dX2_muchAt_109 : decode cX2_muchAt 109 = .ok (.iconst 0, 1) := by decide +kernel
theorem dX2_muchAt_110 : decode cX2_muchAt 110 = .ok (.invokestatic 59, 3) := by decide +kernel
theorem dX2_muchAt_113 : decode cX2_muchAt 113 = .ok (.iadd, 1) := by decide +kernel
theorem dX2_muchAt_114 : decode cX2_muchAt 114 = .ok (.istore 5, 2) := by decide +kernel
theorem dX2_muchAt_116 : decode cX2_muchAt 116 = .ok (.iinc 6 1, 3) := by decide +kernel
theorem dX2_muchAt_119 : decode cX2_muchAt 119 = .ok (.goto (-86), 3) := by decide +kernel
theorem dX2_muchAt_122 : decode cX2_muchAt 122 = .ok (.iload 4, 2) := by decide +kernel
theorem dX2_muchAt_124 : decode cX2_muchAt 124 = .ok (.iload_n 2, 1) := by decide +kernel
theorem dX2_muchAt_125 : decode cX2_muchAt 125 = .ok (.if_icmp .gt 19, 3) := by decide +kernel
theorem dX2_muchAt_128 : decode cX2_muchAt 128 = .ok (.iload_n 2, 1) := by decide +kernel
theorem dX2_muchAt_129 : decode cX2_muchAt 129 = .ok (.iload 5, 2) := by decide +kernel
theorem dX2_muchAt_131 : decode cX2_muchAt 131 = .ok (.if_icmp .ge 13, 3) := by decide +kernel
theorem dX2_muchAt_134 : decode cX2_muchAt 134 = .ok (.aload_n 0, 1) := by decide +kernel
theorem dX2_muchAt_135 : decode cX2_muchAt 135 = .ok (.getfield 11, 3) := by decide +kernel
theorem dX2_muchAt_138 : decode cX2_muchAt 138 = .ok (.iload_n 3, 1) := by decide +kernel
theorem dX2_muchAt_139 : decode cX2_muchAt 139 = .ok (.aaload, 1) := by decide +kernel
theorem dX2_muchAt_140 : decode cX2_muchAt 140 = .ok (.getfield 56, 3) := by decide +kernel
theorem dX2_muchAt_143 : decode cX2_muchAt 143 = .ok (.ireturn, 1) := by decide +kernel
theorem dX2_muchAt_144 : decode cX2_muchAt 144 = .ok (.iinc 3 1, 3) := by decide +kernel
theorem dX2_muchAt_147 : decode cX2_muchAt 147 = .ok (.goto (-140), 3) := by decide +kernel
theorem dX2_muchAt_150 : decode cX2_muchAt 150 = .ok (.iconst 0, 1) := by decide +kernel
theorem dX2_muchAt_151 : decode cX2_muchAt 151 = .ok (.ireturn, 1) := by decide +kernel
theorem dX2_saidBy_0 : decode cX2_saidBy 0 = .ok (.aload_n 0, 1) := by decide +kernel
theorem dX2_saidBy_1 : decode cX2_saidBy 1 = .ok (.iload_n 1, 1) := by decide +kernel
theorem dX2_saidBy_2 : decode cX2_saidBy 2 = .ok (.iload_n 2, 1) := by decide +kernel
theorem dX2_saidBy_3 : decode cX2_saidBy 3 = .ok (.invokevirtual 63, 3) := by decide +kernel
theorem dX2_saidBy_6 : decode cX2_saidBy 6 = .ok (.istore_n 3, 1) := by decide +kernel
theorem dX2_saidBy_7 : decode cX2_saidBy 7 = .ok (.iconst 0, 1) := by decide +kernel
theorem dX2_saidBy_8 : decode cX2_saidBy 8 = .ok (.istore 4, 2) := by decide +kernel
theorem dX2_saidBy_10 : decode cX2_saidBy 10 = .ok (.aload_n 0, 1) := by decide +kernel
theorem dX2_saidBy_11 : decode cX2_saidBy 11 = .ok (.getfield 17, 3) := by decide +kernel
theorem dX2_saidBy_14 : decode cX2_saidBy 14 = .ok (.iload_n 1, 1) := by decide +kernel
theorem dX2_saidBy_15 : decode cX2_saidBy 15 = .ok (.iaload, 1) := by decide +kernel
theorem dX2_saidBy_16 : decode cX2_saidBy 16 = .ok (.istore 5, 2) := by decide +kernel
theorem dX2_saidBy_18 : decode cX2_saidBy 18 = .ok (.iload 5, 2) := by decide +kernel
theorem dX2_saidBy_20 : decode cX2_saidBy 20 = .ok (.aload_n 0, 1) := by decide +kernel
theorem dX2_saidBy_21 : decode cX2_saidBy 21 = .ok (.getfield 17, 3) := by decide +kernel
theorem dX2_saidBy_24 : decode cX2_saidBy 24 = .ok (.iload_n 1, 1) := by decide +kernel
theorem dX2_saidBy_25 : decode cX2_saidBy 25 = .ok (.iconst 1, 1) := by decide +kernel
theorem dX2_saidBy_26 : decode cX2_saidBy 26 = .ok (.iadd, 1) := by decide +kernel
theorem dX2_saidBy_27 : decode cX2_saidBy 27 = .ok (.iaload, 1) := by decide +kernel
theorem dX2_saidBy_28 : decode cX2_saidBy 28 = .ok (.if_icmp .ge 25, 3) := by decide +kernel
theorem dX2_saidBy_31 : decode cX2_saidBy 31 = .ok (.iload 4, 2) := by decide +kernel
theorem dX2_saidBy_33 : decode cX2_saidBy 33 = .ok (.aload_n 0, 1) := by decide +kernel
theorem dX2_saidBy_34 : decode cX2_saidBy 34 = .ok (.getfield 11, 3) := by decide +kernel
theorem dX2_saidBy_37 : decode cX2_saidBy 37 = .ok (.iload 5, 2) := by decide +kernel
theorem dX2_saidBy_39 : decode cX2_saidBy 39 = .ok (.aaload, 1) := by decide +kernel
theorem dX2_saidBy_40 : decode cX2_saidBy 40 = .ok (.iload_n 3, 1) := by decide +kernel
theorem dX2_saidBy_41 : decode cX2_saidBy 41 = .ok (.invokevirtual 66, 3) := by decide +kernel
theorem dX2_saidBy_44 : decode cX2_saidBy 44 = .ok (.iadd, 1) := by decide +kernel
theorem dX2_saidBy_45 : decode cX2_saidBy 45 = .ok (.istore 4, 2) := by decide +kernel
theorem dX2_saidBy_47 : decode cX2_saidBy 47 = .ok (.iinc 5 1, 3) := by decide +kernel
theorem dX2_saidBy_50 : decode cX2_saidBy 50 = .ok (.goto (-32), 3) := by decide +kernel
theorem dX2_saidBy_53 : decode cX2_saidBy 53 = .ok (.iload 4, 2) := by decide +kernel
theorem dX2_saidBy_55 : decode cX2_saidBy 55 = .ok (.ireturn, 1) := by decide +kernel
theorem dX2_dropAt_0 : decode cX2_dropAt 0 = .ok (.aload_n 0, 1) := by decide +kernel
theorem dX2_dropAt_1 : decode cX2_dropAt 1 = .ok (.getfield 17, 3) := by decide +kernel
theorem dX2_dropAt_4 : decode cX2_dropAt 4 = .ok (.iload_n 1, 1) := by decide +kernel
theorem dX2_dropAt_5 : decode cX2_dropAt 5 = .ok (.iaload, 1) := by decide +kernel
theorem dX2_dropAt_6 : decode cX2_dropAt 6 = .ok (.istore_n 3, 1) := by decide +kernel
theorem dX2_dropAt_7 : decode cX2_dropAt 7 = .ok (.iload_n 3, 1) := by decide +kernel
theorem dX2_dropAt_8 : decode cX2_dropAt 8 = .ok (.aload_n 0, 1) := by decide +kernel
theorem dX2_dropAt_9 : decode cX2_dropAt 9 = .ok (.getfield 17, 3) := by decide +kernel
theorem dX2_dropAt_12 : decode cX2_dropAt 12 = .ok (.iload_n 1, 1) := by decide +kernel
theorem dX2_dropAt_13 : decode cX2_dropAt 13 = .ok (.iconst 1, 1) := by decide +kernel
theorem dX2_dropAt_14 : decode cX2_dropAt 14 = .ok (.iadd, 1) := by decide +kernel
theorem dX2_dropAt_15 : decode cX2_dropAt 15 = .ok (.iaload, 1) := by decide +kernel
theorem dX2_dropAt_16 : decode cX2_dropAt 16 = .ok (.if_icmp .ge 19, 3) := by decide +kernel
theorem dX2_dropAt_19 : decode cX2_dropAt 19 = .ok (.aload_n 0, 1) := by decide +kernel
theorem dX2_dropAt_20 : decode cX2_dropAt 20 = .ok (.getfield 11, 3) := by decide +kernel
theorem dX2_dropAt_23 : decode cX2_dropAt 23 = .ok (.iload_n 3, 1) := by decide +kernel
theorem dX2_dropAt_24 : decode cX2_dropAt 24 = .ok (.aaload, 1) := by decide +kernel
theorem dX2_dropAt_25 : decode cX2_dropAt 25 = .ok (.aload_n 2, 1) := by decide +kernel
theorem dX2_dropAt_26 : decode cX2_dropAt 26 = .ok (.putfield 69, 3) := by decide +kernel
theorem dX2_dropAt_29 : decode cX2_dropAt 29 = .ok (.iinc 3 1, 3) := by decide +kernel
theorem dX2_dropAt_32 : decode cX2_dropAt 32 = .ok (.goto (-25), 3) := by decide +kernel
theorem dX2_dropAt_35 : decode cX2_dropAt 35 = .ok (.return_, 1) := by decide +kernel
theorem dX2_partsInto_0 : decode cX2_partsInto 0 = .ok (.aload_n 0, 1) := by decide +kernel
theorem dX2_partsInto_1 : decode cX2_partsInto 1 = .ok (.iload_n 1, 1) := by decide +kernel
theorem dX2_partsInto_2 : decode cX2_partsInto 2 = .ok (.invokevirtual 48, 3) := by decide +kernel
theorem dX2_partsInto_5 : decode cX2_partsInto 5 = .ok (.iconst 0, 1) := by decide +kernel
theorem dX2_partsInto_6 : decode cX2_partsInto 6 = .ok (.invokestatic 73, 3) := by decide +kernel
theorem dX2_partsInto_9 : decode cX2_partsInto 9 = .ok (.anewarray 9, 3) := by decide +kernel
theorem dX2_partsInto_12 : decode cX2_partsInto 12 = .ok (.astore_n 3, 1) := by decide +kernel
theorem dX2_partsInto_13 : decode cX2_partsInto 13 = .ok (.iconst 0, 1) := by decide +kernel
theorem dX2_partsInto_14 : decode cX2_partsInto 14 = .ok (.istore 4, 2) := by decide +kernel
theorem dX2_partsInto_16 : decode cX2_partsInto 16 = .ok (.iload 4, 2) := by decide +kernel
theorem dX2_partsInto_18 : decode cX2_partsInto 18 = .ok (.aload_n 3, 1) := by decide +kernel
theorem dX2_partsInto_19 : decode cX2_partsInto 19 = .ok (.arraylength, 1) := by decide +kernel
theorem dX2_partsInto_20 : decode cX2_partsInto 20 = .ok (.if_icmp .ge 35, 3) := by decide +kernel
theorem dX2_partsInto_23 : decode cX2_partsInto 23 = .ok (.aload_n 3, 1) := by decide +kernel
theorem dX2_partsInto_24 : decode cX2_partsInto 24 = .ok (.iload 4, 2) := by decide +kernel
theorem dX2_partsInto_26 : decode cX2_partsInto 26 = .ok (.aload_n 0, 1) := by decide +kernel
theorem dX2_partsInto_27 : decode cX2_partsInto 27 = .ok (.getfield 11, 3) := by decide +kernel
theorem dX2_partsInto_30 : decode cX2_partsInto 30 = .ok (.aload_n 0, 1) := by decide +kernel
theorem dX2_partsInto_31 : decode cX2_partsInto 31 = .ok (.getfield 17, 3) := by decide +kernel
theorem dX2_partsInto_34 : decode cX2_partsInto 34 = .ok (.iload_n 1, 1) := by decide +kernel
theorem dX2_partsInto_35 : decode cX2_partsInto 35 = .ok (.iaload, 1) := by decide +kernel
theorem dX2_partsInto_36 : decode cX2_partsInto 36 = .ok (.iload 4, 2) := by decide +kernel
theorem dX2_partsInto_38 : decode cX2_partsInto 38 = .ok (.iadd, 1) := by decide +kernel
theorem dX2_partsInto_39 : decode cX2_partsInto 39 = .ok (.aaload, 1) := by decide +kernel
theorem dX2_partsInto_40 : decode cX2_partsInto 40 = .ok (.aastore, 1) := by decide +kernel
theorem dX2_partsInto_41 : decode cX2_partsInto 41 = .ok (.aload_n 3, 1) := by decide +kernel
theorem dX2_partsInto_42 : decode cX2_partsInto 42 = .ok (.iload 4, 2) := by decide +kernel
theorem dX2_partsInto_44 : decode cX2_partsInto 44 = .ok (.aaload, 1) := by decide +kernel
theorem dX2_partsInto_45 : decode cX2_partsInto 45 = .ok (.aload_n 2, 1) := by decide +kernel
theorem dX2_partsInto_46 : decode cX2_partsInto 46 = .ok (.putfield 78, 3) := by decide +kernel
theorem dX2_partsInto_49 : decode cX2_partsInto 49 = .ok (.iinc 4 1, 3) := by decide +kernel
theorem dX2_partsInto_52 : decode cX2_partsInto 52 = .ok (.goto (-36), 3) := by decide +kernel
theorem dX2_partsInto_55 : decode cX2_partsInto 55 = .ok (.aload_n 3, 1) := by decide +kernel
theorem dX2_partsInto_56 : decode cX2_partsInto 56 = .ok (.areturn, 1) := by decide +kernel
theorem dX3_init_0 : decode cX3_init 0 = .ok (.aload_n 0, 1) := by decide +kernel
theorem dX3_init_1 : decode cX3_init 1 = .ok (.invokespecial 1, 3) := by decide +kernel
theorem dX3_init_4 : decode cX3_init 4 = .ok (.aload_n 0, 1) := by decide +kernel
theorem dX3_init_5 : decode cX3_init 5 = .ok (.iload_n 1, 1) := by decide +kernel
theorem dX3_init_6 : decode cX3_init 6 = .ok (.putfield 7, 3) := by decide +kernel
theorem dX3_init_9 : decode cX3_init 9 = .ok (.aload_n 0, 1) := by decide +kernel
theorem dX3_init_10 : decode cX3_init 10 = .ok (.iload_n 2, 1) := by decide +kernel
theorem dX3_init_11 : decode cX3_init 11 = .ok (.putfield 13, 3) := by decide +kernel
theorem dX3_init_14 : decode cX3_init 14 = .ok (.aload_n 0, 1) := by decide +kernel
theorem dX3_init_15 : decode cX3_init 15 = .ok (.aload_n 3, 1) := by decide +kernel
theorem dX3_init_16 : decode cX3_init 16 = .ok (.putfield 16, 3) := by decide +kernel
theorem dX3_init_19 : decode cX3_init 19 = .ok (.aload_n 0, 1) := by decide +kernel
theorem dX3_init_20 : decode cX3_init 20 = .ok (.iload 4, 2) := by decide +kernel
theorem dX3_init_22 : decode cX3_init 22 = .ok (.putfield 20, 3) := by decide +kernel
theorem dX3_init_25 : decode cX3_init 25 = .ok (.aload_n 0, 1) := by decide +kernel
theorem dX3_init_26 : decode cX3_init 26 = .ok (.aload 5, 2) := by decide +kernel
theorem dX3_init_28 : decode cX3_init 28 = .ok (.putfield 23, 3) := by decide +kernel
theorem dX3_init_31 : decode cX3_init 31 = .ok (.return_, 1) := by decide +kernel
theorem dX4_init_0 : decode cX4_init 0 = .ok (.aload_n 0, 1) := by decide +kernel
theorem dX4_init_1 : decode cX4_init 1 = .ok (.invokespecial 1, 3) := by decide +kernel
theorem dX4_init_4 : decode cX4_init 4 = .ok (.aload_n 0, 1) := by decide +kernel
theorem dX4_init_5 : decode cX4_init 5 = .ok (.iload_n 1, 1) := by decide +kernel
theorem dX4_init_6 : decode cX4_init 6 = .ok (.putfield 7, 3) := by decide +kernel
theorem dX4_init_9 : decode cX4_init 9 = .ok (.aload_n 0, 1) := by decide +kernel
theorem dX4_init_10 : decode cX4_init 10 = .ok (.aload_n 2, 1) := by decide +kernel
theorem dX4_init_11 : decode cX4_init 11 = .ok (.putfield 13, 3) := by decide +kernel
theorem dX4_init_14 : decode cX4_init 14 = .ok (.aload_n 0, 1) := by decide +kernel
theorem dX4_init_15 : decode cX4_init 15 = .ok (.iload_n 3, 1) := by decide +kernel
theorem dX4_init_16 : decode cX4_init 16 = .ok (.putfield 17, 3) := by decide +kernel
theorem dX4_init_19 : decode cX4_init 19 = .ok (.return_, 1) := by decide +kernel
theorem dX5_init_0 : decode cX5_init 0 = .ok (.aload_n 0, 1) := by decide +kernel
theorem dX5_init_1 : decode cX5_init 1 = .ok (.invokespecial 3, 3) := by decide +kernel
theorem dX5_init_4 : decode cX5_init 4 = .ok (.aload_n 0, 1) := by decide +kernel
theorem dX5_init_5 : decode cX5_init 5 = .ok (.bipush 16, 2) := by decide +kernel
theorem dX5_init_7 : decode cX5_init 7 = .ok (.newarray .int, 2) := by decide +kernel
theorem dX5_init_9 : decode cX5_init 9 = .ok (.putfield 9, 3) := by decide +kernel
theorem dX5_init_12 : decode cX5_init 12 = .ok (.aload_n 0, 1) := by decide +kernel
theorem dX5_init_13 : decode cX5_init 13 = .ok (.iconst (-1), 1) := by decide +kernel
theorem dX5_init_14 : decode cX5_init 14 = .ok (.putfield 15, 3) := by decide +kernel
theorem dX5_init_17 : decode cX5_init 17 = .ok (.aload_n 0, 1) := by decide +kernel
theorem dX5_init_18 : decode cX5_init 18 = .ok (.iload_n 1, 1) := by decide +kernel
theorem dX5_init_19 : decode cX5_init 19 = .ok (.putfield 19, 3) := by decide +kernel
theorem dX5_init_22 : decode cX5_init 22 = .ok (.aload_n 0, 1) := by decide +kernel
theorem dX5_init_23 : decode cX5_init 23 = .ok (.aload_n 2, 1) := by decide +kernel
theorem dX5_init_24 : decode cX5_init 24 = .ok (.ifnonnull 7, 3) := by decide +kernel
theorem dX5_init_27 : decode cX5_init 27 = .ok (.iconst 3, 1) := by decide +kernel
theorem dX5_init_28 : decode cX5_init 28 = .ok (.goto 9, 3) := by decide +kernel
theorem dX5_init_31 : decode cX5_init 31 = .ok (.aload_n 2, 1) := by decide +kernel
theorem dX5_init_32 : decode cX5_init 32 = .ok (.getfield 22, 3) := by decide +kernel
theorem dX5_init_35 : decode cX5_init 35 = .ok (.iconst 1, 1) := by decide +kernel
theorem dX5_init_36 : decode cX5_init 36 = .ok (.isub, 1) := by decide +kernel
theorem dX5_init_37 : decode cX5_init 37 = .ok (.putfield 22, 3) := by decide +kernel
theorem dX5_init_40 : decode cX5_init 40 = .ok (.aload_n 0, 1) := by decide +kernel
theorem dX5_init_41 : decode cX5_init 41 = .ok (.aload_n 2, 1) := by decide +kernel
theorem dX5_init_42 : decode cX5_init 42 = .ok (.putfield 25, 3) := by decide +kernel
theorem dX5_init_45 : decode cX5_init 45 = .ok (.aload_n 0, 1) := by decide +kernel
theorem dX5_init_46 : decode cX5_init 46 = .ok (.iload_n 3, 1) := by decide +kernel
theorem dX5_init_47 : decode cX5_init 47 = .ok (.putfield 29, 3) := by decide +kernel
theorem dX5_init_50 : decode cX5_init 50 = .ok (.aload_n 0, 1) := by decide +kernel
theorem dX5_init_51 : decode cX5_init 51 = .ok (.iload 4, 2) := by decide +kernel
theorem dX5_init_53 : decode cX5_init 53 = .ok (.putfield 32, 3) := by decide +kernel
theorem dX5_init_56 : decode cX5_init 56 = .ok (.aload_n 0, 1) := by decide +kernel
theorem dX5_init_57 : decode cX5_init 57 = .ok (.iload 5, 2) := by decide +kernel
theorem dX5_init_59 : decode cX5_init 59 = .ok (.putfield 35, 3) := by decide +kernel
theorem dX5_init_62 : decode cX5_init 62 = .ok (.return_, 1) := by decide +kernel
theorem dX6_init_0 : decode cX6_init 0 = .ok (.aload_n 0, 1) := by decide +kernel
theorem dX6_init_1 : decode cX6_init 1 = .ok (.invokespecial 3, 3) := by decide +kernel
theorem dX6_init_4 : decode cX6_init 4 = .ok (.aload_n 0, 1) := by decide +kernel
theorem dX6_init_5 : decode cX6_init 5 = .ok (.bipush 16, 2) := by decide +kernel
theorem dX6_init_7 : decode cX6_init 7 = .ok (.newarray .int, 2) := by decide +kernel
theorem dX6_init_9 : decode cX6_init 9 = .ok (.putfield 9, 3) := by decide +kernel
theorem dX6_init_12 : decode cX6_init 12 = .ok (.aload_n 0, 1) := by decide +kernel
theorem dX6_init_13 : decode cX6_init 13 = .ok (.bipush 12, 2) := by decide +kernel
theorem dX6_init_15 : decode cX6_init 15 = .ok (.newarray .int, 2) := by decide +kernel
theorem dX6_init_17 : decode cX6_init 17 = .ok (.putfield 15, 3) := by decide +kernel
theorem dX6_init_20 : decode cX6_init 20 = .ok (.aload_n 0, 1) := by decide +kernel
theorem dX6_init_21 : decode cX6_init 21 = .ok (.bipush 12, 2) := by decide +kernel
theorem dX6_init_23 : decode cX6_init 23 = .ok (.newarray .int, 2) := by decide +kernel
theorem dX6_init_25 : decode cX6_init 25 = .ok (.putfield 18, 3) := by decide +kernel
theorem dX6_init_28 : decode cX6_init 28 = .ok (.return_, 1) := by decide +kernel
theorem dX6_tell_0 : decode cX6_tell 0 = .ok (.aload_n 0, 1) := by decide +kernel
theorem dX6_tell_1 : decode cX6_tell 1 = .ok (.getfield 9, 3) := by decide +kernel
theorem dX6_tell_4 : decode cX6_tell 4 = .ok (.iload_n 1, 1) := by decide +kernel
theorem dX6_tell_5 : decode cX6_tell 5 = .ok (.iaload, 1) := by decide +kernel
theorem dX6_tell_6 : decode cX6_tell 6 = .ok (.iload_n 2, 1) := by decide +kernel
theorem dX6_tell_7 : decode cX6_tell 7 = .ok (.invokestatic 21, 3) := by decide +kernel
theorem dX6_tell_10 : decode cX6_tell 10 = .ok (.iload_n 3, 1) := by decide +kernel
theorem dX6_tell_11 : decode cX6_tell 11 = .ok (.if_icmp .eq 7, 3) := by decide +kernel
theorem dX6_tell_14 : decode cX6_tell 14 = .ok (.iconst 1, 1) := by decide +kernel
theorem dX6_tell_15 : decode cX6_tell 15 = .ok (.goto 4, 3) := by decide +kernel
theorem dX6_tell_18 : decode cX6_tell 18 = .ok (.iconst 0, 1) := by decide +kernel
theorem dX6_tell_19 : decode cX6_tell 19 = .ok (.istore 4, 2) := by decide +kernel
theorem dX6_tell_21 : decode cX6_tell 21 = .ok (.iload 4, 2) := by decide +kernel
theorem dX6_tell_23 : decode cX6_tell 23 = .ok (.ifCond .eq 36, 3) := by decide +kernel
theorem dX6_tell_26 : decode cX6_tell 26 = .ok (.aload_n 0, 1) := by decide +kernel
theorem dX6_tell_27 : decode cX6_tell 27 = .ok (.getfield 9, 3) := by decide +kernel
theorem dX6_tell_30 : decode cX6_tell 30 = .ok (.iload_n 1, 1) := by decide +kernel
theorem dX6_tell_31 : decode cX6_tell 31 = .ok (.dup2, 1) := by decide +kernel
theorem dX6_tell_32 : decode cX6_tell 32 = .ok (.iaload, 1) := by decide +kernel
theorem dX6_tell_33 : decode cX6_tell 33 = .ok (.iconst 1, 1) := by decide +kernel
theorem dX6_tell_34 : decode cX6_tell 34 = .ok (.iload_n 2, 1) := by decide +kernel
theorem dX6_tell_35 : decode cX6_tell 35 = .ok (.ishl, 1) := by decide +kernel
theorem dX6_tell_36 : decode cX6_tell 36 = .ok (.ixor, 1) := by decide +kernel
theorem dX6_tell_37 : decode cX6_tell 37 = .ok (.iastore, 1) := by decide +kernel
theorem dX6_tell_38 : decode cX6_tell 38 = .ok (.aload_n 0, 1) := by decide +kernel
theorem dX6_tell_39 : decode cX6_tell 39 = .ok (.getfield 9, 3) := by decide +kernel
theorem dX6_tell_42 : decode cX6_tell 42 = .ok (.iload_n 2, 1) := by decide +kernel
theorem dX6_tell_43 : decode cX6_tell 43 = .ok (.dup2, 1) := by decide +kernel
theorem dX6_tell_44 : decode cX6_tell 44 = .ok (.iaload, 1) := by decide +kernel
theorem dX6_tell_45 : decode cX6_tell 45 = .ok (.iload_n 1, 1) := by decide +kernel
theorem dX6_tell_46 : decode cX6_tell 46 = .ok (.iload_n 2, 1) := by decide +kernel
theorem dX6_tell_47 : decode cX6_tell 47 = .ok (.if_icmp .ne 7, 3) := by decide +kernel
theorem dX6_tell_50 : decode cX6_tell 50 = .ok (.iconst 0, 1) := by decide +kernel
theorem dX6_tell_51 : decode cX6_tell 51 = .ok (.goto 6, 3) := by decide +kernel
theorem dX6_tell_54 : decode cX6_tell 54 = .ok (.iconst 1, 1) := by decide +kernel
theorem dX6_tell_55 : decode cX6_tell 55 = .ok (.iload_n 1, 1) := by decide +kernel
theorem dX6_tell_56 : decode cX6_tell 56 = .ok (.ishl, 1) := by decide +kernel
theorem dX6_tell_57 : decode cX6_tell 57 = .ok (.ixor, 1) := by decide +kernel
theorem dX6_tell_58 : decode cX6_tell 58 = .ok (.iastore, 1) := by decide +kernel
theorem dX6_tell_59 : decode cX6_tell 59 = .ok (.iload 4, 2) := by decide +kernel
theorem dX6_tell_61 : decode cX6_tell 61 = .ok (.ireturn, 1) := by decide +kernel
theorem dX6_clear_0 : decode cX6_clear 0 = .ok (.aload_n 0, 1) := by decide +kernel
theorem dX6_clear_1 : decode cX6_clear 1 = .ok (.iconst 0, 1) := by decide +kernel
theorem dX6_clear_2 : decode cX6_clear 2 = .ok (.putfield 25, 3) := by decide +kernel
theorem dX6_clear_5 : decode cX6_clear 5 = .ok (.return_, 1) := by decide +kernel
theorem dX6_add_0 : decode cX6_add 0 = .ok (.aload_n 0, 1) := by decide +kernel
theorem dX6_add_1 : decode cX6_add 1 = .ok (.getfield 25, 3) := by decide +kernel
theorem dX6_add_4 : decode cX6_add 4 = .ok (.bipush 12, 2) := by decide +kernel
theorem dX6_add_6 : decode cX6_add 6 = .ok (.if_icmp .lt 4, 3) := by decide +kernel
theorem dX6_add_9 : decode cX6_add 9 = .ok (.return_, 1) := by decide +kernel
theorem dX6_add_10 : decode cX6_add 10 = .ok (.aload_n 0, 1) := by decide +kernel
theorem dX6_add_11 : decode cX6_add 11 = .ok (.getfield 15, 3) := by decide +kernel
theorem dX6_add_14 : decode cX6_add 14 = .ok (.aload_n 0, 1) := by decide +kernel
theorem dX6_add_15 : decode cX6_add 15 = .ok (.getfield 25, 3) := by decide +kernel
theorem dX6_add_18 : decode cX6_add 18 = .ok (.iload_n 1, 1) := by decide +kernel
theorem dX6_add_19 : decode cX6_add 19 = .ok (.iastore, 1) := by decide +kernel
theorem dX6_add_20 : decode cX6_add 20 = .ok (.aload_n 0, 1) := by decide +kernel
theorem dX6_add_21 : decode cX6_add 21 = .ok (.getfield 18, 3) := by decide +kernel
theorem dX6_add_24 : decode cX6_add 24 = .ok (.aload_n 0, 1) := by decide +kernel
theorem dX6_add_25 : decode cX6_add 25 = .ok (.getfield 25, 3) := by decide +kernel
theorem dX6_add_28 : decode cX6_add 28 = .ok (.iconst 0, 1) := by decide +kernel
theorem dX6_add_29 : decode cX6_add 29 = .ok (.iastore, 1) := by decide +kernel
theorem dX6_add_30 : decode cX6_add 30 = .ok (.iconst 0, 1) := by decide +kernel
theorem dX6_add_31 : decode cX6_add 31 = .ok (.istore_n 2, 1) := by decide +kernel
theorem dX6_add_32 : decode cX6_add 32 = .ok (.iload_n 2, 1) := by decide +kernel
theorem dX6_add_33 : decode cX6_add 33 = .ok (.aload_n 0, 1) := by decide +kernel
theorem dX6_add_34 : decode cX6_add 34 = .ok (.getfield 25, 3) := by decide +kernel
theorem dX6_add_37 : decode cX6_add 37 = .ok (.if_icmp .ge 57, 3) := by decide +kernel
theorem dX6_add_40 : decode cX6_add 40 = .ok (.aload_n 0, 1) := by decide +kernel
theorem dX6_add_41 : decode cX6_add 41 = .ok (.getfield 9, 3) := by decide +kernel
theorem dX6_add_44 : decode cX6_add 44 = .ok (.iload_n 1, 1) := by decide +kernel
theorem dX6_add_45 : decode cX6_add 45 = .ok (.iaload, 1) := by decide +kernel
theorem dX6_add_46 : decode cX6_add 46 = .ok (.aload_n 0, 1) := by decide +kernel
theorem dX6_add_47 : decode cX6_add 47 = .ok (.getfield 15, 3) := by decide +kernel
theorem dX6_add_50 : decode cX6_add 50 = .ok (.iload_n 2, 1) := by decide +kernel
theorem dX6_add_51 : decode cX6_add 51 = .ok (.iaload, 1) := by decide +kernel
theorem dX6_add_52 : decode cX6_add 52 = .ok (.invokestatic 21, 3) := by decide +kernel
theorem dX6_add_55 : decode cX6_add 55 = .ok (.ifCond .eq 33, 3) := by decide +kernel
theorem dX6_add_58 : decode cX6_add 58 = .ok (.aload_n 0, 1) := by decide +kernel
theorem dX6_add_59 : decode cX6_add 59 = .ok (.getfield 18, 3) := by decide +kernel
theorem dX6_add_62 : decode cX6_add 62 = .ok (.iload_n 2, 1) := by decide +kernel
theorem dX6_add_63 : decode cX6_add 63 = .ok (.dup2, 1) := by decide +kernel
theorem dX6_add_64 : decode cX6_add 64 = .ok (.iaload, 1) := by decide +kernel
theorem dX6_add_65 : decode cX6_add 65 = .ok (.iconst 1, 1) := by decide +kernel
theorem dX6_add_66 : decode cX6_add 66 = .ok (.aload_n 0, 1) := by decide +kernel
theorem dX6_add_67 : decode cX6_add 67 = .ok (.getfield 25, 3) := by decide +kernel
theorem dX6_add_70 : decode cX6_add 70 = .ok (.ishl, 1) := by decide +kernel
theorem dX6_add_71 : decode cX6_add 71 = .ok (.ior, 1) := by decide +kernel
theorem dX6_add_72 : decode cX6_add 72 = .ok (.iastore, 1) := by decide +kernel
theorem dX6_add_73 : decode cX6_add 73 = .ok (.aload_n 0, 1) := by decide +kernel
theorem dX6_add_74 : decode cX6_add 74 = .ok (.getfield 18, 3) := by decide +kernel
theorem dX6_add_77 : decode cX6_add 77 = .ok (.aload_n 0, 1) := by decide +kernel
theorem dX6_add_78 : decode cX6_add 78 = .ok (.getfield 25, 3) := by decide +kernel
theorem dX6_add_81 : decode cX6_add 81 = .ok (.dup2, 1) := by decide +kernel
theorem dX6_add_82 : decode cX6_add 82 = .ok (.iaload, 1) := by decide +kernel
theorem dX6_add_83 : decode cX6_add 83 = .ok (.iconst 1, 1) := by decide +kernel
theorem dX6_add_84 : decode cX6_add 84 = .ok (.iload_n 2, 1) := by decide +kernel
theorem dX6_add_85 : decode cX6_add 85 = .ok (.ishl, 1) := by decide +kernel
theorem dX6_add_86 : decode cX6_add 86 = .ok (.ior, 1) := by decide +kernel
theorem dX6_add_87 : decode cX6_add 87 = .ok (.iastore, 1) := by decide +kernel
theorem dX6_add_88 : decode cX6_add 88 = .ok (.iinc 2 1, 3) := by decide +kernel
theorem dX6_add_91 : decode cX6_add 91 = .ok (.goto (-59), 3) := by decide +kernel
theorem dX6_add_94 : decode cX6_add 94 = .ok (.aload_n 0, 1) := by decide +kernel
theorem dX6_add_95 : decode cX6_add 95 = .ok (.dup, 1) := by decide +kernel
theorem dX6_add_96 : decode cX6_add 96 = .ok (.getfield 25, 3) := by decide +kernel
theorem dX6_add_99 : decode cX6_add 99 = .ok (.iconst 1, 1) := by decide +kernel
theorem dX6_add_100 : decode cX6_add 100 = .ok (.iadd, 1) := by decide +kernel
theorem dX6_add_101 : decode cX6_add 101 = .ok (.putfield 25, 3) := by decide +kernel
theorem dX6_add_104 : decode cX6_add 104 = .ok (.return_, 1) := by decide +kernel
theorem dX6_all_0 : decode cX6_all 0 = .ok (.iconst 1, 1) := by decide +kernel
theorem dX6_all_1 : decode cX6_all 1 = .ok (.aload_n 0, 1) := by decide +kernel
theorem dX6_all_2 : decode cX6_all 2 = .ok (.getfield 25, 3) := by decide +kernel
theorem dX6_all_5 : decode cX6_all 5 = .ok (.ishl, 1) := by decide +kernel
theorem dX6_all_6 : decode cX6_all 6 = .ok (.iconst 1, 1) := by decide +kernel
theorem dX6_all_7 : decode cX6_all 7 = .ok (.isub, 1) := by decide +kernel
theorem dX6_all_8 : decode cX6_all 8 = .ok (.ireturn, 1) := by decide +kernel
theorem dX6_isPeaceful_0 : decode cX6_isPeaceful 0 = .ok (.iconst 0, 1) := by decide +kernel
theorem dX6_isPeaceful_1 : decode cX6_isPeaceful 1 = .ok (.istore_n 2, 1) := by decide +kernel
theorem dX6_isPeaceful_2 : decode cX6_isPeaceful 2 = .ok (.iload_n 2, 1) := by decide +kernel
theorem dX6_isPeaceful_3 : decode cX6_isPeaceful 3 = .ok (.aload_n 0, 1) := by decide +kernel
theorem dX6_isPeaceful_4 : decode cX6_isPeaceful 4 = .ok (.getfield 25, 3) := by decide +kernel
theorem dX6_isPeaceful_7 : decode cX6_isPeaceful 7 = .ok (.if_icmp .ge 30, 3) := by decide +kernel
theorem dX6_isPeaceful_10 : decode cX6_isPeaceful 10 = .ok (.iload_n 1, 1) := by decide +kernel
theorem dX6_isPeaceful_11 : decode cX6_isPeaceful 11 = .ok (.iload_n 2, 1) := by decide +kernel
theorem dX6_isPeaceful_12 : decode cX6_isPeaceful 12 = .ok (.invokestatic 21, 3) := by decide +kernel
theorem dX6_isPeaceful_15 : decode cX6_isPeaceful 15 = .ok (.ifCond .eq 16, 3) := by decide +kernel
theorem dX6_isPeaceful_18 : decode cX6_isPeaceful 18 = .ok (.aload_n 0, 1) := by decide +kernel
theorem dX6_isPeaceful_19 : decode cX6_isPeaceful 19 = .ok (.getfield 18, 3) := by decide +kernel
theorem dX6_isPeaceful_22 : decode cX6_isPeaceful 22 = .ok (.iload_n 2, 1) := by decide +kernel
theorem dX6_isPeaceful_23 : decode cX6_isPeaceful 23 = .ok (.iaload, 1) := by decide +kernel
theorem dX6_isPeaceful_24 : decode cX6_isPeaceful 24 = .ok (.iload_n 1, 1) := by decide +kernel
theorem dX6_isPeaceful_25 : decode cX6_isPeaceful 25 = .ok (.iand, 1) := by decide +kernel
theorem dX6_isPeaceful_26 : decode cX6_isPeaceful 26 = .ok (.ifCond .eq 5, 3) := by decide +kernel
theorem dX6_isPeaceful_29 : decode cX6_isPeaceful 29 = .ok (.iconst 0, 1) := by decide +kernel
theorem dX6_isPeaceful_30 : decode cX6_isPeaceful 30 = .ok (.ireturn, 1) := by decide +kernel
theorem dX6_isPeaceful_31 : decode cX6_isPeaceful 31 = .ok (.iinc 2 1, 3) := by decide +kernel
theorem dX6_isPeaceful_34 : decode cX6_isPeaceful 34 = .ok (.goto (-32), 3) := by decide +kernel
theorem dX6_isPeaceful_37 : decode cX6_isPeaceful 37 = .ok (.iconst 1, 1) := by decide +kernel
theorem dX6_isPeaceful_38 : decode cX6_isPeaceful 38 = .ok (.ireturn, 1) := by decide +kernel
theorem dX6_fewestToLeave_0 : decode cX6_fewestToLeave 0 = .ok (.aload_n 0, 1) := by decide +kernel
theorem dX6_fewestToLeave_1 : decode cX6_fewestToLeave 1 = .ok (.invokevirtual 29, 3) := by decide +kernel
theorem dX6_fewestToLeave_4 : decode cX6_fewestToLeave 4 = .ok (.istore_n 1, 1) := by decide +kernel
theorem dX6_fewestToLeave_5 : decode cX6_fewestToLeave 5 = .ok (.iconst 0, 1) := by decide +kernel
theorem dX6_fewestToLeave_6 : decode cX6_fewestToLeave 6 = .ok (.istore_n 2, 1) := by decide +kernel
theorem dX6_fewestToLeave_7 : decode cX6_fewestToLeave 7 = .ok (.iload_n 2, 1) := by decide +kernel
theorem dX6_fewestToLeave_8 : decode cX6_fewestToLeave 8 = .ok (.iconst 1, 1) := by decide +kernel
theorem dX6_fewestToLeave_9 : decode cX6_fewestToLeave 9 = .ok (.aload_n 0, 1) := by decide +kernel
theorem dX6_fewestToLeave_10 : decode cX6_fewestToLeave 10 = .ok (.getfield 25, 3) := by decide +kernel
theorem dX6_fewestToLeave_13 : decode cX6_fewestToLeave 13 = .ok (.ishl, 1) := by decide +kernel
theorem dX6_fewestToLeave_14 : decode cX6_fewestToLeave 14 = .ok (.if_icmp .ge 37, 3) := by decide +kernel
theorem dX6_fewestToLeave_17 : decode cX6_fewestToLeave 17 = .ok (.iload_n 2, 1) := by decide +kernel
theorem dX6_fewestToLeave_18 : decode cX6_fewestToLeave 18 = .ok (.invokestatic 33, 3) := by decide +kernel
theorem dX6_fewestToLeave_21 : decode cX6_fewestToLeave 21 = .ok (.iload_n 1, 1) := by decide +kernel
theorem dX6_fewestToLeave_22 : decode cX6_fewestToLeave 22 = .ok (.invokestatic 33, 3) := by decide +kernel
theorem dX6_fewestToLeave_25 : decode cX6_fewestToLeave 25 = .ok (.if_icmp .ge 20, 3) := by decide +kernel
theorem dX6_fewestToLeave_28 : decode cX6_fewestToLeave 28 = .ok (.aload_n 0, 1) := by decide +kernel
theorem dX6_fewestToLeave_29 : decode cX6_fewestToLeave 29 = .ok (.aload_n 0, 1) := by decide +kernel
theorem dX6_fewestToLeave_30 : decode cX6_fewestToLeave 30 = .ok (.invokevirtual 29, 3) := by decide +kernel
theorem dX6_fewestToLeave_33 : decode cX6_fewestToLeave 33 = .ok (.iload_n 2, 1) := by decide +kernel
theorem dX6_fewestToLeave_34 : decode cX6_fewestToLeave 34 = .ok (.iconst (-1), 1) := by decide +kernel
theorem dX6_fewestToLeave_35 : decode cX6_fewestToLeave 35 = .ok (.ixor, 1) := by decide +kernel
theorem dX6_fewestToLeave_36 : decode cX6_fewestToLeave 36 = .ok (.iand, 1) := by decide +kernel
theorem dX6_fewestToLeave_37 : decode cX6_fewestToLeave 37 = .ok (.invokevirtual 39, 3) := by decide +kernel
theorem dX6_fewestToLeave_40 : decode cX6_fewestToLeave 40 = .ok (.ifCond .eq 5, 3) := by decide +kernel
theorem dX6_fewestToLeave_43 : decode cX6_fewestToLeave 43 = .ok (.iload_n 2, 1) := by decide +kernel
theorem dX6_fewestToLeave_44 : decode cX6_fewestToLeave 44 = .ok (.istore_n 1, 1) := by decide +kernel
theorem dX6_fewestToLeave_45 : decode cX6_fewestToLeave 45 = .ok (.iinc 2 1, 3) := by decide +kernel
theorem dX6_fewestToLeave_48 : decode cX6_fewestToLeave 48 = .ok (.goto (-41), 3) := by decide +kernel
theorem dX6_fewestToLeave_51 : decode cX6_fewestToLeave 51 = .ok (.iload_n 1, 1) := by decide +kernel
theorem dX6_fewestToLeave_52 : decode cX6_fewestToLeave 52 = .ok (.ireturn, 1) := by decide +kernel
theorem dX7_init_0 : decode cX7_init 0 = .ok (.aload_n 0, 1) := by decide +kernel
theorem dX7_init_1 : decode cX7_init 1 = .ok (.invokespecial 3, 3) := by decide +kernel
theorem dX7_init_4 : decode cX7_init 4 = .ok (.aload_n 0, 1) := by decide +kernel
theorem dX7_init_5 : decode cX7_init 5 = .ok (.iconst (-1), 1) := by decide +kernel
theorem dX7_init_6 : decode cX7_init 6 = .ok (.putfield 9, 3) := by decide +kernel
theorem dX7_init_9 : decode cX7_init 9 = .ok (.aload_n 0, 1) := by decide +kernel
theorem dX7_init_10 : decode cX7_init 10 = .ok (.iload_n 1, 1) := by decide +kernel
theorem dX7_init_11 : decode cX7_init 11 = .ok (.putfield 15, 3) := by decide +kernel
theorem dX7_init_14 : decode cX7_init 14 = .ok (.aload_n 0, 1) := by decide +kernel
theorem dX7_init_15 : decode cX7_init 15 = .ok (.iload_n 2, 1) := by decide +kernel
theorem dX7_init_16 : decode cX7_init 16 = .ok (.putfield 18, 3) := by decide +kernel
theorem dX7_init_19 : decode cX7_init 19 = .ok (.aload_n 0, 1) := by decide +kernel
theorem dX7_init_20 : decode cX7_init 20 = .ok (.iload_n 3, 1) := by decide +kernel
theorem dX7_init_21 : decode cX7_init 21 = .ok (.putfield 21, 3) := by decide +kernel
theorem dX7_init_24 : decode cX7_init 24 = .ok (.aload_n 0, 1) := by decide +kernel
theorem dX7_init_25 : decode cX7_init 25 = .ok (.aload 4, 2) := by decide +kernel
theorem dX7_init_27 : decode cX7_init 27 = .ok (.putfield 24, 3) := by decide +kernel
theorem dX7_init_30 : decode cX7_init 30 = .ok (.return_, 1) := by decide +kernel
theorem dX8_init_0 : decode cX8_init 0 = .ok (.aload_n 0, 1) := by decide +kernel
theorem dX8_init_1 : decode cX8_init 1 = .ok (.invokespecial 3, 3) := by decide +kernel
theorem dX8_init_4 : decode cX8_init 4 = .ok (.aload_n 0, 1) := by decide +kernel
theorem dX8_init_5 : decode cX8_init 5 = .ok (.bipush 60, 2) := by decide +kernel
theorem dX8_init_7 : decode cX8_init 7 = .ok (.newarray .int, 2) := by decide +kernel
theorem dX8_init_9 : decode cX8_init 9 = .ok (.putfield 9, 3) := by decide +kernel
theorem dX8_init_12 : decode cX8_init 12 = .ok (.aload_n 0, 1) := by decide +kernel
theorem dX8_init_13 : decode cX8_init 13 = .ok (.ldc 15, 2) := by decide +kernel
theorem dX8_init_15 : decode cX8_init 15 = .ok (.invokevirtual 17, 3) := by decide +kernel
theorem dX8_init_18 : decode cX8_init 18 = .ok (.newarray .int, 2) := by decide +kernel
theorem dX8_init_20 : decode cX8_init 20 = .ok (.putfield 23, 3) := by decide +kernel
theorem dX8_init_23 : decode cX8_init 23 = .ok (.aload_n 0, 1) := by decide +kernel
theorem dX8_init_24 : decode cX8_init 24 = .ok (.iconst (-1), 1) := by decide +kernel
theorem dX8_init_25 : decode cX8_init 25 = .ok (.putfield 26, 3) := by decide +kernel
theorem dX8_init_28 : decode cX8_init 28 = .ok (.return_, 1) := by decide +kernel
theorem dX8_takeLetters_0 : decode cX8_takeLetters 0 = .ok (.aload_n 0, 1) := by decide +kernel
theorem dX8_takeLetters_1 : decode cX8_takeLetters 1 = .ok (.iload_n 2, 1) := by decide +kernel
theorem dX8_takeLetters_2 : decode cX8_takeLetters 2 = .ok (.aload_n 1, 1) := by decide +kernel
theorem dX8_takeLetters_3 : decode cX8_takeLetters 3 = .ok (.arraylength, 1) := by decide +kernel
theorem dX8_takeLetters_4 : decode cX8_takeLetters 4 = .ok (.bipush 60, 2) := by decide +kernel
theorem dX8_takeLetters_6 : decode cX8_takeLetters 6 = .ok (.invokestatic 30, 3) := by decide +kernel
theorem dX8_takeLetters_9 : decode cX8_takeLetters 9 = .ok (.invokestatic 30, 3) := by decide +kernel
theorem dX8_takeLetters_12 : decode cX8_takeLetters 12 = .ok (.putfield 36, 3) := by decide +kernel
theorem dX8_takeLetters_15 : decode cX8_takeLetters 15 = .ok (.iconst 0, 1) := by decide +kernel
theorem dX8_takeLetters_16 : decode cX8_takeLetters 16 = .ok (.istore_n 3, 1) := by decide +kernel
theorem dX8_takeLetters_17 : decode cX8_takeLetters 17 = .ok (.iload_n 3, 1) := by decide +kernel
theorem dX8_takeLetters_18 : decode cX8_takeLetters 18 = .ok (.aload_n 0, 1) := by decide +kernel
theorem dX8_takeLetters_19 : decode cX8_takeLetters 19 = .ok (.getfield 36, 3) := by decide +kernel
theorem dX8_takeLetters_22 : decode cX8_takeLetters 22 = .ok (.if_icmp .ge 19, 3) := by decide +kernel
theorem dX8_takeLetters_25 : decode cX8_takeLetters 25 = .ok (.aload_n 0, 1) := by decide +kernel
theorem dX8_takeLetters_26 : decode cX8_takeLetters 26 = .ok (.getfield 9, 3) := by decide +kernel
theorem dX8_takeLetters_29 : decode cX8_takeLetters 29 = .ok (.iload_n 3, 1) := by decide +kernel
theorem dX8_takeLetters_30 : decode cX8_takeLetters 30 = .ok (.aload_n 1, 1) := by decide +kernel
theorem dX8_takeLetters_31 : decode cX8_takeLetters 31 = .ok (.iload_n 3, 1) := by decide +kernel
theorem dX8_takeLetters_32 : decode cX8_takeLetters 32 = .ok (.laload, 1) := by decide +kernel
theorem dX8_takeLetters_33 : decode cX8_takeLetters 33 = .ok (.l2i, 1) := by decide +kernel
theorem dX8_takeLetters_34 : decode cX8_takeLetters 34 = .ok (.iastore, 1) := by decide +kernel
theorem dX8_takeLetters_35 : decode cX8_takeLetters 35 = .ok (.iinc 3 1, 3) := by decide +kernel
theorem dX8_takeLetters_38 : decode cX8_takeLetters 38 = .ok (.goto (-21), 3) := by decide +kernel
theorem dX8_takeLetters_41 : decode cX8_takeLetters 41 = .ok (.return_, 1) := by decide +kernel
theorem dX8_readRule_0 : decode cX8_readRule 0 = .ok (.aload_n 0, 1) := by decide +kernel
theorem dX8_readRule_1 : decode cX8_readRule 1 = .ok (.iconst 0, 1) := by decide +kernel
theorem dX8_readRule_2 : decode cX8_readRule 2 = .ok (.putfield 39, 3) := by decide +kernel
theorem dX8_readRule_5 : decode cX8_readRule 5 = .ok (.aload_n 0, 1) := by decide +kernel
theorem dX8_readRule_6 : decode cX8_readRule 6 = .ok (.iconst (-1), 1) := by decide +kernel
theorem dX8_readRule_7 : decode cX8_readRule 7 = .ok (.putfield 26, 3) := by decide +kernel
theorem dX8_readRule_10 : decode cX8_readRule 10 = .ok (.aload_n 0, 1) := by decide +kernel
theorem dX8_readRule_11 : decode cX8_readRule 11 = .ok (.bipush 107, 2) := by decide +kernel
theorem dX8_readRule_13 : decode cX8_readRule 13 = .ok (.invokevirtual 42, 3) := by decide +kernel
theorem dX8_readRule_16 : decode cX8_readRule 16 = .ok (.aload_n 0, 1) := by decide +kernel
theorem dX8_readRule_17 : decode cX8_readRule 17 = .ok (.bipush 58, 2) := by decide +kernel
theorem dX8_readRule_19 : decode cX8_readRule 19 = .ok (.invokevirtual 42, 3) := by decide +kernel
theorem dX8_readRule_22 : decode cX8_readRule 22 = .ok (.aload_n 0, 1) := by decide +kernel
theorem dX8_readRule_23 : decode cX8_readRule 23 = .ok (.aload_n 0, 1) := by decide +kernel
theorem dX8_readRule_24 : decode cX8_readRule 24 = .ok (.iconst 0, 1) := by decide +kernel
theorem dX8_readRule_25 : decode cX8_readRule 25 = .ok (.invokevirtual 46, 3) := by decide +kernel
theorem dX8_readRule_28 : decode cX8_readRule 28 = .ok (.putfield 50, 3) := by decide +kernel
theorem dX8_readRule_31 : decode cX8_readRule 31 = .ok (.aload_n 0, 1) := by decide +kernel
theorem dX8_readRule_32 : decode cX8_readRule 32 = .ok (.bipush 59, 2) := by decide +kernel
theorem dX8_readRule_34 : decode cX8_readRule 34 = .ok (.invokevirtual 42, 3) := by decide +kernel
theorem dX8_readRule_37 : decode cX8_readRule 37 = .ok (.aload_n 0, 1) := by decide +kernel
theorem dX8_readRule_38 : decode cX8_readRule 38 = .ok (.bipush 106, 2) := by decide +kernel
theorem dX8_readRule_40 : decode cX8_readRule 40 = .ok (.invokevirtual 42, 3) := by decide +kernel
theorem dX8_readRule_43 : decode cX8_readRule 43 = .ok (.aload_n 0, 1) := by decide +kernel
theorem dX8_readRule_44 : decode cX8_readRule 44 = .ok (.bipush 58, 2) := by decide +kernel
theorem dX8_readRule_46 : decode cX8_readRule 46 = .ok (.invokevirtual 42, 3) := by decide +kernel
theorem dX8_readRule_49 : decode cX8_readRule 49 = .ok (.aload_n 0, 1) := by decide +kernel
theorem dX8_readRule_50 : decode cX8_readRule 50 = .ok (.aload_n 0, 1) := by decide +kernel
theorem dX8_readRule_51 : decode cX8_readRule 51 = .ok (.invokevirtual 54, 3) := by decide +kernel
theorem dX8_readRule_54 : decode cX8_readRule 54 = .ok (.putfield 57, 3) := by decide +kernel
theorem dX8_readRule_57 : decode cX8_readRule 57 = .ok (.aload_n 0, 1) := by decide +kernel
theorem dX8_readRule_58 : decode cX8_readRule 58 = .ok (.aload_n 0, 1) := by decide +kernel
theorem dX8_readRule_59 : decode cX8_readRule 59 = .ok (.getfield 57, 3) := by decide +kernel
theorem dX8_readRule_62 : decode cX8_readRule 62 = .ok (.bipush 120, 2) := by decide +kernel
theorem dX8_readRule_64 : decode cX8_readRule 64 = .ok (.if_icmp .eq 21, 3) := by decide +kernel
theorem dX8_readRule_67 : decode cX8_readRule 67 = .ok (.aload_n 0, 1) := by decide +kernel
theorem dX8_readRule_68 : decode cX8_readRule 68 = .ok (.getfield 57, 3) := by decide +kernel
theorem dX8_readRule_71 : decode cX8_readRule 71 = .ok (.bipush 108, 2) := by decide +kernel
theorem dX8_readRule_73 : decode cX8_readRule 73 = .ok (.if_icmp .eq 12, 3) := by decide +kernel
theorem dX8_readRule_76 : decode cX8_readRule 76 = .ok (.aload_n 0, 1) := by decide +kernel
theorem dX8_readRule_77 : decode cX8_readRule 77 = .ok (.getfield 57, 3) := by decide +kernel
theorem dX8_readRule_80 : decode cX8_readRule 80 = .ok (.bipush 99, 2) := by decide +kernel
theorem dX8_readRule_82 : decode cX8_readRule 82 = .ok (.if_icmp .ne 7, 3) := by decide +kernel
theorem dX8_readRule_85 : decode cX8_readRule 85 = .ok (.iconst 1, 1) := by decide +kernel
theorem dX8_readRule_86 : decode cX8_readRule 86 = .ok (.goto 4, 3) := by decide +kernel
theorem dX8_readRule_89 : decode cX8_readRule 89 = .ok (.iconst 0, 1) := by decide +kernel
theorem dX8_readRule_90 : decode cX8_readRule 90 = .ok (.invokevirtual 60, 3) := by decide +kernel
theorem dX8_readRule_93 : decode cX8_readRule 93 = .ok (.aload_n 0, 1) := by decide +kernel
theorem dX8_readRule_94 : decode cX8_readRule 94 = .ok (.getfield 39, 3) := by decide +kernel
theorem dX8_readRule_97 : decode cX8_readRule 97 = .ok (.aload_n 0, 1) := by decide +kernel
theorem dX8_readRule_98 : decode cX8_readRule 98 = .ok (.getfield 36, 3) := by decide +kernel
theorem dX8_readRule_101 : decode cX8_readRule 101 = .ok (.if_icmp .ge 7, 3) := by decide +kernel
theorem dX8_readRule_104 : decode cX8_readRule 104 = .ok (.aload_n 0, 1) := by decide +kernel
theorem dX8_readRule_105 : decode cX8_readRule 105 = .ok (.invokevirtual 64, 3) := by decide +kernel
theorem dX8_readRule_108 : decode cX8_readRule 108 = .ok (.return_, 1) := by decide +kernel
theorem dX8_readAny_0 : decode cX8_readAny 0 = .ok (.aload_n 0, 1) := by decide +kernel
theorem dX8_readAny_1 : decode cX8_readAny 1 = .ok (.iload_n 1, 1) := by decide +kernel
theorem dX8_readAny_2 : decode cX8_readAny 2 = .ok (.invokevirtual 67, 3) := by decide +kernel
theorem dX8_readAny_5 : decode cX8_readAny 5 = .ok (.istore_n 2, 1) := by decide +kernel
theorem dX8_readAny_6 : decode cX8_readAny 6 = .ok (.iconst 0, 1) := by decide +kernel
theorem dX8_readAny_7 : decode cX8_readAny 7 = .ok (.istore_n 3, 1) := by decide +kernel
theorem dX8_readAny_8 : decode cX8_readAny 8 = .ok (.iload_n 3, 1) := by decide +kernel
theorem dX8_readAny_9 : decode cX8_readAny 9 = .ok (.bipush 60, 2) := by decide +kernel
theorem dX8_readAny_11 : decode cX8_readAny 11 = .ok (.if_icmp .ge 50, 3) := by decide +kernel
theorem dX8_readAny_14 : decode cX8_readAny 14 = .ok (.aload_n 0, 1) := by decide +kernel
theorem dX8_readAny_15 : decode cX8_readAny 15 = .ok (.invokevirtual 54, 3) := by decide +kernel
theorem dX8_readAny_18 : decode cX8_readAny 18 = .ok (.bipush 124, 2) := by decide +kernel
theorem dX8_readAny_20 : decode cX8_readAny 20 = .ok (.if_icmp .ne 41, 3) := by decide +kernel
theorem dX8_readAny_23 : decode cX8_readAny 23 = .ok (.aload_n 0, 1) := by decide +kernel
theorem dX8_readAny_24 : decode cX8_readAny 24 = .ok (.dup, 1) := by decide +kernel
theorem dX8_readAny_25 : decode cX8_readAny 25 = .ok (.getfield 39, 3) := by decide +kernel
theorem dX8_readAny_28 : decode cX8_readAny 28 = .ok (.iconst 1, 1) := by decide +kernel
theorem dX8_readAny_29 : decode cX8_readAny 29 = .ok (.iadd, 1) := by decide +kernel
theorem dX8_readAny_30 : decode cX8_readAny 30 = .ok (.putfield 39, 3) := by decide +kernel
theorem dX8_readAny_33 : decode cX8_readAny 33 = .ok (.aload_n 0, 1) := by decide +kernel
theorem dX8_readAny_34 : decode cX8_readAny 34 = .ok (.iload_n 1, 1) := by decide +kernel
theorem dX8_readAny_35 : decode cX8_readAny 35 = .ok (.invokevirtual 67, 3) := by decide +kernel
theorem dX8_readAny_38 : decode cX8_readAny 38 = .ok (.istore 4, 2) := by decide +kernel
theorem dX8_readAny_40 : decode cX8_readAny 40 = .ok (.iload_n 2, 1) := by decide +kernel
theorem dX8_readAny_41 : decode cX8_readAny 41 = .ok (.ifCond .ne 8, 3) := by decide +kernel
theorem dX8_readAny_44 : decode cX8_readAny 44 = .ok (.iload 4, 2) := by decide +kernel
theorem dX8_readAny_46 : decode cX8_readAny 46 = .ok (.ifCond .eq 7, 3) := by decide +kernel
theorem dX8_readAny_49 : decode cX8_readAny 49 = .ok (.iconst 1, 1) := by decide +kernel
theorem dX8_readAny_50 : decode cX8_readAny 50 = .ok (.goto 4, 3) := by decide +kernel
theorem dX8_readAny_53 : decode cX8_readAny 53 = .ok (.iconst 0, 1) := by decide +kernel
theorem dX8_readAny_54 : decode cX8_readAny 54 = .ok (.istore_n 2, 1) := by decide +kernel
theorem dX8_readAny_55 : decode cX8_readAny 55 = .ok (.iinc 3 1, 3) := by decide +kernel
theorem dX8_readAny_58 : decode cX8_readAny 58 = .ok (.goto (-50), 3) := by decide +kernel
theorem dX8_readAny_61 : decode cX8_readAny 61 = .ok (.iload_n 2, 1) := by decide +kernel
theorem dX8_readAny_62 : decode cX8_readAny 62 = .ok (.ireturn, 1) := by decide +kernel
theorem dX8_readAll_0 : decode cX8_readAll 0 = .ok (.aload_n 0, 1) := by decide +kernel
theorem dX8_readAll_1 : decode cX8_readAll 1 = .ok (.iload_n 1, 1) := by decide +kernel
theorem dX8_readAll_2 : decode cX8_readAll 2 = .ok (.invokevirtual 70, 3) := by decide +kernel
theorem dX8_readAll_5 : decode cX8_readAll 5 = .ok (.istore_n 2, 1) := by decide +kernel
theorem dX8_readAll_6 : decode cX8_readAll 6 = .ok (.iconst 0, 1) := by decide +kernel
theorem dX8_readAll_7 : decode cX8_readAll 7 = .ok (.istore_n 3, 1) := by decide +kernel
theorem dX8_readAll_8 : decode cX8_readAll 8 = .ok (.iload_n 3, 1) := by decide +kernel
theorem dX8_readAll_9 : decode cX8_readAll 9 = .ok (.bipush 60, 2) := by decide +kernel
theorem dX8_readAll_11 : decode cX8_readAll 11 = .ok (.if_icmp .ge 50, 3) := by decide +kernel
theorem dX8_readAll_14 : decode cX8_readAll 14 = .ok (.aload_n 0, 1) := by decide +kernel
theorem dX8_readAll_15 : decode cX8_readAll 15 = .ok (.invokevirtual 54, 3) := by decide +kernel
theorem dX8_readAll_18 : decode cX8_readAll 18 = .ok (.bipush 38, 2) := by decide +kernel
theorem dX8_readAll_20 : decode cX8_readAll 20 = .ok (.if_icmp .ne 41, 3) := by decide +kernel
theorem dX8_readAll_23 : decode cX8_readAll 23 = .ok (.aload_n 0, 1) := by decide +kernel
theorem dX8_readAll_24 : decode cX8_readAll 24 = .ok (.dup, 1) := by decide +kernel
theorem dX8_readAll_25 : decode cX8_readAll 25 = .ok (.getfield 39, 3) := by decide +kernel
theorem dX8_readAll_28 : decode cX8_readAll 28 = .ok (.iconst 1, 1) := by decide +kernel
theorem dX8_readAll_29 : decode cX8_readAll 29 = .ok (.iadd, 1) := by decide +kernel
theorem dX8_readAll_30 : decode cX8_readAll 30 = .ok (.putfield 39, 3) := by decide +kernel
theorem dX8_readAll_33 : decode cX8_readAll 33 = .ok (.aload_n 0, 1) := by decide +kernel
theorem dX8_readAll_34 : decode cX8_readAll 34 = .ok (.iload_n 1, 1) := by decide +kernel
theorem dX8_readAll_35 : decode cX8_readAll 35 = .ok (.invokevirtual 70, 3) := by decide +kernel
theorem dX8_readAll_38 : decode cX8_readAll 38 = .ok (.istore 4, 2) := by decide +kernel
theorem dX8_readAll_40 : decode cX8_readAll 40 = .ok (.iload_n 2, 1) := by decide +kernel
theorem dX8_readAll_41 : decode cX8_readAll 41 = .ok (.ifCond .eq 12, 3) := by decide +kernel
theorem dX8_readAll_44 : decode cX8_readAll 44 = .ok (.iload 4, 2) := by decide +kernel
theorem dX8_readAll_46 : decode cX8_readAll 46 = .ok (.ifCond .eq 7, 3) := by decide +kernel
theorem dX8_readAll_49 : decode cX8_readAll 49 = .ok (.iconst 1, 1) := by decide +kernel
theorem dX8_readAll_50 : decode cX8_readAll 50 = .ok (.goto 4, 3) := by decide +kernel
theorem dX8_readAll_53 : decode cX8_readAll 53 = .ok (.iconst 0, 1) := by decide +kernel
theorem dX8_readAll_54 : decode cX8_readAll 54 = .ok (.istore_n 2, 1) := by decide +kernel
theorem dX8_readAll_55 : decode cX8_readAll 55 = .ok (.iinc 3 1, 3) := by decide +kernel
theorem dX8_readAll_58 : decode cX8_readAll 58 = .ok (.goto (-50), 3) := by decide +kernel
theorem dX8_readAll_61 : decode cX8_readAll 61 = .ok (.iload_n 2, 1) := by decide +kernel
theorem dX8_readAll_62 : decode cX8_readAll 62 = .ok (.ireturn, 1) := by decide +kernel
theorem dX8_readOne_0 : decode cX8_readOne 0 = .ok (.aload_n 0, 1) := by decide +kernel
theorem dX8_readOne_1 : decode cX8_readOne 1 = .ok (.invokevirtual 54, 3) := by decide +kernel
theorem dX8_readOne_4 : decode cX8_readOne 4 = .ok (.istore_n 2, 1) := by decide +kernel
theorem dX8_readOne_5 : decode cX8_readOne 5 = .ok (.iload_n 2, 1) := by decide +kernel
theorem dX8_readOne_6 : decode cX8_readOne 6 = .ok (.bipush 33, 2) := by decide +kernel
theorem dX8_readOne_8 : decode cX8_readOne 8 = .ok (.if_icmp .eq 14, 3) := by decide +kernel
theorem dX8_readOne_11 : decode cX8_readOne 11 = .ok (.iload_n 2, 1) := by decide +kernel
theorem dX8_readOne_12 : decode cX8_readOne 12 = .ok (.bipush 40, 2) := by decide +kernel
theorem dX8_readOne_14 : decode cX8_readOne 14 = .ok (.if_icmp .eq 8, 3) := by decide +kernel
theorem dX8_readOne_17 : decode cX8_readOne 17 = .ok (.aload_n 0, 1) := by decide +kernel
theorem dX8_readOne_18 : decode cX8_readOne 18 = .ok (.invokevirtual 73, 3) := by decide +kernel
theorem dX8_readOne_21 : decode cX8_readOne 21 = .ok (.ireturn, 1) := by decide +kernel
theorem dX8_readOne_22 : decode cX8_readOne 22 = .ok (.iload_n 1, 1) := by decide +kernel
theorem dX8_readOne_23 : decode cX8_readOne 23 = .ok (.bipush 20, 2) := by decide +kernel
theorem dX8_readOne_25 : decode cX8_readOne 25 = .ok (.if_icmp .lt 9, 3) := by decide +kernel
theorem dX8_readOne_28 : decode cX8_readOne 28 = .ok (.aload_n 0, 1) := by decide +kernel
theorem dX8_readOne_29 : decode cX8_readOne 29 = .ok (.invokevirtual 64, 3) := by decide +kernel
theorem dX8_readOne_32 : decode cX8_readOne 32 = .ok (.iconst 0, 1) := by decide +kernel
theorem dX8_readOne_33 : decode cX8_readOne 33 = .ok (.ireturn, 1) := by decide +kernel
theorem dX8_readOne_34 : decode cX8_readOne 34 = .ok (.aload_n 0, 1) := by decide +kernel
theorem dX8_readOne_35 : decode cX8_readOne 35 = .ok (.dup, 1) := by decide +kernel
theorem dX8_readOne_36 : decode cX8_readOne 36 = .ok (.getfield 39, 3) := by decide +kernel
theorem dX8_readOne_39 : decode cX8_readOne 39 = .ok (.iconst 1, 1) := by decide +kernel
theorem dX8_readOne_40 : decode cX8_readOne 40 = .ok (.iadd, 1) := by decide +kernel
theorem dX8_readOne_41 : decode cX8_readOne 41 = .ok (.putfield 39, 3) := by decide +kernel
theorem dX8_readOne_44 : decode cX8_readOne 44 = .ok (.iload_n 2, 1) := by decide +kernel
theorem dX8_readOne_45 : decode cX8_readOne 45 = .ok (.bipush 33, 2) := by decide +kernel
theorem dX8_readOne_47 : decode cX8_readOne 47 = .ok (.if_icmp .ne 19, 3) := by decide +kernel
theorem dX8_readOne_50 : decode cX8_readOne 50 = .ok (.aload_n 0, 1) := by decide +kernel
theorem dX8_readOne_51 : decode cX8_readOne 51 = .ok (.iload_n 1, 1) := by decide +kernel
theorem dX8_readOne_52 : decode cX8_readOne 52 = .ok (.iconst 1, 1) := by decide +kernel
theorem dX8_readOne_53 : decode cX8_readOne 53 = .ok (.iadd, 1) := by decide +kernel
theorem dX8_readOne_54 : decode cX8_readOne 54 = .ok (.invokevirtual 70, 3) := by decide +kernel
theorem dX8_readOne_57 : decode cX8_readOne 57 = .ok (.ifCond .ne 7, 3) := by decide +kernel
theorem dX8_readOne_60 : decode cX8_readOne 60 = .ok (.iconst 1, 1) := by decide +kernel
theorem dX8_readOne_61 : decode cX8_readOne 61 = .ok (.goto 4, 3) := by decide +kernel
theorem dX8_readOne_64 : decode cX8_readOne 64 = .ok (.iconst 0, 1) := by decide +kernel
theorem dX8_readOne_65 : decode cX8_readOne 65 = .ok (.ireturn, 1) := by decide +kernel
theorem dX8_readOne_66 : decode cX8_readOne 66 = .ok (.aload_n 0, 1) := by decide +kernel
theorem dX8_readOne_67 : decode cX8_readOne 67 = .ok (.iload_n 1, 1) := by decide +kernel
theorem dX8_readOne_68 : decode cX8_readOne 68 = .ok (.iconst 1, 1) := by decide +kernel
theorem dX8_readOne_69 : decode cX8_readOne 69 = .ok (.iadd, 1) := by decide +kernel
theorem dX8_readOne_70 : decode cX8_readOne 70 = .ok (.invokevirtual 46, 3) := by decide +kernel
theorem dX8_readOne_73 : decode cX8_readOne 73 = .ok (.istore_n 3, 1) := by decide +kernel
theorem dX8_readOne_74 : decode cX8_readOne 74 = .ok (.aload_n 0, 1) := by decide +kernel
theorem dX8_readOne_75 : decode cX8_readOne 75 = .ok (.bipush 41, 2) := by decide +kernel
theorem dX8_readOne_77 : decode cX8_readOne 77 = .ok (.invokevirtual 42, 3) := by decide +kernel
theorem dX8_readOne_80 : decode cX8_readOne 80 = .ok (.iload_n 3, 1) := by decide +kernel
theorem dX8_readOne_81 : decode cX8_readOne 81 = .ok (.ireturn, 1) := by decide +kernel
theorem dX8_readTest_0 : decode cX8_readTest 0 = .ok (.aload_n 0, 1) := by decide +kernel
theorem dX8_readTest_1 : decode cX8_readTest 1 = .ok (.invokevirtual 77, 3) := by decide +kernel
theorem dX8_readTest_4 : decode cX8_readTest 4 = .ok (.lstore_n 1, 1) := by decide +kernel
theorem dX8_readTest_5 : decode cX8_readTest 5 = .ok (.aload_n 0, 1) := by decide +kernel
theorem dX8_readTest_6 : decode cX8_readTest 6 = .ok (.invokevirtual 54, 3) := by decide +kernel
theorem dX8_readTest_9 : decode cX8_readTest 9 = .ok (.istore_n 3, 1) := by decide +kernel
theorem dX8_readTest_10 : decode cX8_readTest 10 = .ok (.aload_n 0, 1) := by decide +kernel
theorem dX8_readTest_11 : decode cX8_readTest 11 = .ok (.iload_n 3, 1) := by decide +kernel
theorem dX8_readTest_12 : decode cX8_readTest 12 = .ok (.bipush 60, 2) := by decide +kernel
theorem dX8_readTest_14 : decode cX8_readTest 14 = .ok (.if_icmp .eq 15, 3) := by decide +kernel
theorem dX8_readTest_17 : decode cX8_readTest 17 = .ok (.iload_n 3, 1) := by decide +kernel
theorem dX8_readTest_18 : decode cX8_readTest 18 = .ok (.bipush 62, 2) := by decide +kernel
theorem dX8_readTest_20 : decode cX8_readTest 20 = .ok (.if_icmp .eq 9, 3) := by decide +kernel
theorem dX8_readTest_23 : decode cX8_readTest 23 = .ok (.iload_n 3, 1) := by decide +kernel
theorem dX8_readTest_24 : decode cX8_readTest 24 = .ok (.bipush 61, 2) := by decide +kernel
theorem dX8_readTest_26 : decode cX8_readTest 26 = .ok (.if_icmp .ne 7, 3) := by decide +kernel
theorem dX8_readTest_29 : decode cX8_readTest 29 = .ok (.iconst 1, 1) := by decide +kernel
theorem dX8_readTest_30 : decode cX8_readTest 30 = .ok (.goto 4, 3) := by decide +kernel
theorem dX8_readTest_33 : decode cX8_readTest 33 = .ok (.iconst 0, 1) := by decide +kernel
theorem dX8_readTest_34 : decode cX8_readTest 34 = .ok (.invokevirtual 60, 3) := by decide +kernel
theorem dX8_readTest_37 : decode cX8_readTest 37 = .ok (.aload_n 0, 1) := by decide +kernel
theorem dX8_readTest_38 : decode cX8_readTest 38 = .ok (.invokevirtual 77, 3) := by decide +kernel
theorem dX8_readTest_41 : decode cX8_readTest 41 = .ok (.lstore 4, 2) := by decide +kernel
theorem dX8_readTest_43 : decode cX8_readTest 43 = .ok (.iload_n 3, 1) := by decide +kernel
theorem dX8_readTest_44 : decode cX8_readTest 44 = .ok (.bipush 60, 2) := by decide +kernel
theorem dX8_readTest_46 : decode cX8_readTest 46 = .ok (.if_icmp .ne 16, 3) := by decide +kernel
theorem dX8_readTest_49 : decode cX8_readTest 49 = .ok (.lload_n 1, 1) := by decide +kernel
theorem dX8_readTest_50 : decode cX8_readTest 50 = .ok (.lload 4, 2) := by decide +kernel
theorem dX8_readTest_52 : decode cX8_readTest 52 = .ok (.lcmp, 1) := by decide +kernel
theorem dX8_readTest_53 : decode cX8_readTest 53 = .ok (.ifCond .ge 7, 3) := by decide +kernel
theorem dX8_readTest_56 : decode cX8_readTest 56 = .ok (.iconst 1, 1) := by decide +kernel
theorem dX8_readTest_57 : decode cX8_readTest 57 = .ok (.goto 4, 3) := by decide +kernel
theorem dX8_readTest_60 : decode cX8_readTest 60 = .ok (.iconst 0, 1) := by decide +kernel
theorem dX8_readTest_61 : decode cX8_readTest 61 = .ok (.ireturn, 1) := by decide +kernel
theorem dX8_readTest_62 : decode cX8_readTest 62 = .ok (.iload_n 3, 1) := by decide +kernel
theorem dX8_readTest_63 : decode cX8_readTest 63 = .ok (.bipush 62, 2) := by decide +kernel
theorem dX8_readTest_65 : decode cX8_readTest 65 = .ok (.if_icmp .ne 18, 3) := by decide +kernel
theorem dX8_readTest_68 : decode cX8_readTest 68 = .ok (.lload_n 1, 1) := by decide +kernel
theorem dX8_readTest_69 : decode cX8_readTest 69 = .ok (.lload 4, 2) := by decide +kernel
theorem dX8_readTest_71 : decode cX8_readTest 71 = .ok (.lcmp, 1) := by decide +kernel
theorem dX8_readTest_72 : decode cX8_readTest 72 = .ok (.ifCond .le 7, 3) := by decide +kernel
theorem dX8_readTest_75 : decode cX8_readTest 75 = .ok (.iconst 1, 1) := by decide +kernel
theorem dX8_readTest_76 : decode cX8_readTest 76 = .ok (.goto 19, 3) := by decide +kernel
theorem dX8_readTest_79 : decode cX8_readTest 79 = .ok (.iconst 0, 1) := by decide +kernel
theorem dX8_readTest_80 : decode cX8_readTest 80 = .ok (.goto 15, 3) := by decide +kernel
theorem dX8_readTest_83 : decode cX8_readTest 83 = .ok (.lload_n 1, 1) := by decide +kernel
theorem dX8_readTest_84 : decode cX8_readTest 84 = .ok (.lload 4, 2) := by decide +kernel
theorem dX8_readTest_86 : decode cX8_readTest 86 = .ok (.lcmp, 1) := by decide +kernel
theorem dX8_readTest_87 : decode cX8_readTest 87 = .ok (.ifCond .ne 7, 3) := by decide +kernel
theorem dX8_readTest_90 : decode cX8_readTest 90 = .ok (.iconst 1, 1) := by decide +kernel
theorem dX8_readTest_91 : decode cX8_readTest 91 = .ok (.goto 4, 3) := by decide +kernel
theorem dX8_readTest_94 : decode cX8_readTest 94 = .ok (.iconst 0, 1) := by decide +kernel
theorem dX8_readTest_95 : decode cX8_readTest 95 = .ok (.ireturn, 1) := by decide +kernel
theorem dX8_readSide_0 : decode cX8_readSide 0 = .ok (.aload_n 0, 1) := by decide +kernel
theorem dX8_readSide_1 : decode cX8_readSide 1 = .ok (.invokevirtual 54, 3) := by decide +kernel
theorem dX8_readSide_4 : decode cX8_readSide 4 = .ok (.invokestatic 81, 3) := by decide +kernel
theorem dX8_readSide_7 : decode cX8_readSide 7 = .ok (.ifCond .ne 9, 3) := by decide +kernel
theorem dX8_readSide_10 : decode cX8_readSide 10 = .ok (.aload_n 0, 1) := by decide +kernel
theorem dX8_readSide_11 : decode cX8_readSide 11 = .ok (.invokevirtual 84, 3) := by decide +kernel
theorem dX8_readSide_14 : decode cX8_readSide 14 = .ok (.i2l, 1) := by decide +kernel
theorem dX8_readSide_15 : decode cX8_readSide 15 = .ok (.lreturn, 1) := by decide +kernel
theorem dX8_readSide_16 : decode cX8_readSide 16 = .ok (.lconst 0, 1) := by decide +kernel
theorem dX8_readSide_17 : decode cX8_readSide 17 = .ok (.lstore_n 1, 1) := by decide +kernel
theorem dX8_readSide_18 : decode cX8_readSide 18 = .ok (.iconst 0, 1) := by decide +kernel
theorem dX8_readSide_19 : decode cX8_readSide 19 = .ok (.istore_n 3, 1) := by decide +kernel
theorem dX8_readSide_20 : decode cX8_readSide 20 = .ok (.iload_n 3, 1) := by decide +kernel
theorem dX8_readSide_21 : decode cX8_readSide 21 = .ok (.iconst 4, 1) := by decide +kernel
theorem dX8_readSide_22 : decode cX8_readSide 22 = .ok (.if_icmp .ge 55, 3) := by decide +kernel
theorem dX8_readSide_25 : decode cX8_readSide 25 = .ok (.aload_n 0, 1) := by decide +kernel
theorem dX8_readSide_26 : decode cX8_readSide 26 = .ok (.invokevirtual 54, 3) := by decide +kernel
theorem dX8_readSide_29 : decode cX8_readSide 29 = .ok (.invokestatic 81, 3) := by decide +kernel
theorem dX8_readSide_32 : decode cX8_readSide 32 = .ok (.ifCond .eq 45, 3) := by decide +kernel
theorem dX8_readSide_35 : decode cX8_readSide 35 = .ok (.iload_n 3, 1) := by decide +kernel
theorem dX8_readSide_36 : decode cX8_readSide 36 = .ok (.ifCond .eq 9, 3) := by decide +kernel
theorem dX8_readSide_39 : decode cX8_readSide 39 = .ok (.lload_n 1, 1) := by decide +kernel
theorem dX8_readSide_40 : decode cX8_readSide 40 = .ok (.lconst 0, 1) := by decide +kernel
theorem dX8_readSide_41 : decode cX8_readSide 41 = .ok (.lcmp, 1) := by decide +kernel
theorem dX8_readSide_42 : decode cX8_readSide 42 = .ok (.ifCond .eq 35, 3) := by decide +kernel
theorem dX8_readSide_45 : decode cX8_readSide 45 = .ok (.ldc2_w 87, 3) := by decide +kernel
theorem dX8_readSide_48 : decode cX8_readSide 48 = .ok (.lload_n 1, 1) := by decide +kernel
theorem dX8_readSide_49 : decode cX8_readSide 49 = .ok (.lmul, 1) := by decide +kernel
theorem dX8_readSide_50 : decode cX8_readSide 50 = .ok (.aload_n 0, 1) := by decide +kernel
theorem dX8_readSide_51 : decode cX8_readSide 51 = .ok (.invokevirtual 54, 3) := by decide +kernel
theorem dX8_readSide_54 : decode cX8_readSide 54 = .ok (.i2l, 1) := by decide +kernel
theorem dX8_readSide_55 : decode cX8_readSide 55 = .ok (.ladd, 1) := by decide +kernel
theorem dX8_readSide_56 : decode cX8_readSide 56 = .ok (.ldc2_w 89, 3) := by decide +kernel
theorem dX8_readSide_59 : decode cX8_readSide 59 = .ok (.lsub, 1) := by decide +kernel
theorem dX8_readSide_60 : decode cX8_readSide 60 = .ok (.lstore_n 1, 1) := by decide +kernel
theorem dX8_readSide_61 : decode cX8_readSide 61 = .ok (.aload_n 0, 1) := by decide +kernel
theorem dX8_readSide_62 : decode cX8_readSide 62 = .ok (.dup, 1) := by decide +kernel
theorem dX8_readSide_63 : decode cX8_readSide 63 = .ok (.getfield 39, 3) := by decide +kernel
theorem dX8_readSide_66 : decode cX8_readSide 66 = .ok (.iconst 1, 1) := by decide +kernel
theorem dX8_readSide_67 : decode cX8_readSide 67 = .ok (.iadd, 1) := by decide +kernel
theorem dX8_readSide_68 : decode cX8_readSide 68 = .ok (.putfield 39, 3) := by decide +kernel
theorem dX8_readSide_71 : decode cX8_readSide 71 = .ok (.iinc 3 1, 3) := by decide +kernel
theorem dX8_readSide_74 : decode cX8_readSide 74 = .ok (.goto (-54), 3) := by decide +kernel
theorem dX8_readSide_77 : decode cX8_readSide 77 = .ok (.aload_n 0, 1) := by decide +kernel
theorem dX8_readSide_78 : decode cX8_readSide 78 = .ok (.invokevirtual 54, 3) := by decide +kernel
theorem dX8_readSide_81 : decode cX8_readSide 81 = .ok (.bipush 42, 2) := by decide +kernel
theorem dX8_readSide_83 : decode cX8_readSide 83 = .ok (.if_icmp .eq 5, 3) := by decide +kernel
theorem dX8_readSide_86 : decode cX8_readSide 86 = .ok (.lload_n 1, 1) := by decide +kernel
theorem dX8_readSide_87 : decode cX8_readSide 87 = .ok (.lreturn, 1) := by decide +kernel
theorem dX8_readSide_88 : decode cX8_readSide 88 = .ok (.aload_n 0, 1) := by decide +kernel
theorem dX8_readSide_89 : decode cX8_readSide 89 = .ok (.dup, 1) := by decide +kernel
theorem dX8_readSide_90 : decode cX8_readSide 90 = .ok (.getfield 39, 3) := by decide +kernel
theorem dX8_readSide_93 : decode cX8_readSide 93 = .ok (.iconst 1, 1) := by decide +kernel
theorem dX8_readSide_94 : decode cX8_readSide 94 = .ok (.iadd, 1) := by decide +kernel
theorem dX8_readSide_95 : decode cX8_readSide 95 = .ok (.putfield 39, 3) := by decide +kernel
theorem dX8_readSide_98 : decode cX8_readSide 98 = .ok (.lload_n 1, 1) := by decide +kernel
theorem dX8_readSide_99 : decode cX8_readSide 99 = .ok (.aload_n 0, 1) := by decide +kernel
theorem dX8_readSide_100 : decode cX8_readSide 100 = .ok (.invokevirtual 84, 3) := by decide +kernel
theorem dX8_readSide_103 : decode cX8_readSide 103 = .ok (.i2l, 1) := by decide +kernel
theorem dX8_readSide_104 : decode cX8_readSide 104 = .ok (.lmul, 1) := by decide +kernel
theorem dX8_readSide_105 : decode cX8_readSide 105 = .ok (.lreturn, 1) := by decide +kernel
theorem dX8_readField_0 : decode cX8_readField 0 = .ok (.aload_n 0, 1) := by decide +kernel
theorem dX8_readField_1 : decode cX8_readField 1 = .ok (.invokevirtual 54, 3) := by decide +kernel
theorem dX8_readField_4 : decode cX8_readField 4 = .ok (.istore_n 1, 1) := by decide +kernel
theorem dX8_readField_5 : decode cX8_readField 5 = .ok (.iconst 0, 1) := by decide +kernel
theorem dX8_readField_6 : decode cX8_readField 6 = .ok (.istore_n 2, 1) := by decide +kernel
theorem dX8_readField_7 : decode cX8_readField 7 = .ok (.iload_n 2, 1) := by decide +kernel
theorem dX8_readField_8 : decode cX8_readField 8 = .ok (.aload_n 0, 1) := by decide +kernel
theorem dX8_readField_9 : decode cX8_readField 9 = .ok (.getfield 23, 3) := by decide +kernel
theorem dX8_readField_12 : decode cX8_readField 12 = .ok (.arraylength, 1) := by decide +kernel
theorem dX8_readField_13 : decode cX8_readField 13 = .ok (.if_icmp .ge 36, 3) := by decide +kernel
theorem dX8_readField_16 : decode cX8_readField 16 = .ok (.ldc 15, 2) := by decide +kernel
theorem dX8_readField_18 : decode cX8_readField 18 = .ok (.iload_n 2, 1) := by decide +kernel
theorem dX8_readField_19 : decode cX8_readField 19 = .ok (.invokevirtual 91, 3) := by decide +kernel
theorem dX8_readField_22 : decode cX8_readField 22 = .ok (.iload_n 1, 1) := by decide +kernel
theorem dX8_readField_23 : decode cX8_readField 23 = .ok (.if_icmp .ne 20, 3) := by decide +kernel
theorem dX8_readField_26 : decode cX8_readField 26 = .ok (.aload_n 0, 1) := by decide +kernel
theorem dX8_readField_27 : decode cX8_readField 27 = .ok (.dup, 1) := by decide +kernel
theorem dX8_readField_28 : decode cX8_readField 28 = .ok (.getfield 39, 3) := by decide +kernel
theorem dX8_readField_31 : decode cX8_readField 31 = .ok (.iconst 1, 1) := by decide +kernel
theorem dX8_readField_32 : decode cX8_readField 32 = .ok (.iadd, 1) := by decide +kernel
theorem dX8_readField_33 : decode cX8_readField 33 = .ok (.putfield 39, 3) := by decide +kernel
theorem dX8_readField_36 : decode cX8_readField 36 = .ok (.aload_n 0, 1) := by decide +kernel
theorem dX8_readField_37 : decode cX8_readField 37 = .ok (.getfield 23, 3) := by decide +kernel
theorem dX8_readField_40 : decode cX8_readField 40 = .ok (.iload_n 2, 1) := by decide +kernel
theorem dX8_readField_41 : decode cX8_readField 41 = .ok (.iaload, 1) := by decide +kernel
theorem dX8_readField_42 : decode cX8_readField 42 = .ok (.ireturn, 1) := by decide +kernel
theorem dX8_readField_43 : decode cX8_readField 43 = .ok (.iinc 2 1, 3) := by decide +kernel
theorem dX8_readField_46 : decode cX8_readField 46 = .ok (.goto (-39), 3) := by decide +kernel
theorem dX8_readField_49 : decode cX8_readField 49 = .ok (.aload_n 0, 1) := by decide +kernel
theorem dX8_readField_50 : decode cX8_readField 50 = .ok (.invokevirtual 64, 3) := by decide +kernel
theorem dX8_readField_53 : decode cX8_readField 53 = .ok (.iconst 0, 1) := by decide +kernel
theorem dX8_readField_54 : decode cX8_readField 54 = .ok (.ireturn, 1) := by decide +kernel
theorem dX8_want_0 : decode cX8_want 0 = .ok (.aload_n 0, 1) := by decide +kernel
theorem dX8_want_1 : decode cX8_want 1 = .ok (.aload_n 0, 1) := by decide +kernel
theorem dX8_want_2 : decode cX8_want 2 = .ok (.invokevirtual 54, 3) := by decide +kernel
theorem dX8_want_5 : decode cX8_want 5 = .ok (.iload_n 1, 1) := by decide +kernel
theorem dX8_want_6 : decode cX8_want 6 = .ok (.if_icmp .ne 7, 3) := by decide +kernel
theorem dX8_want_9 : decode cX8_want 9 = .ok (.iconst 1, 1) := by decide +kernel
theorem dX8_want_10 : decode cX8_want 10 = .ok (.goto 4, 3) := by decide +kernel
theorem dX8_want_13 : decode cX8_want 13 = .ok (.iconst 0, 1) := by decide +kernel
theorem dX8_want_14 : decode cX8_want 14 = .ok (.invokevirtual 60, 3) := by decide +kernel
theorem dX8_want_17 : decode cX8_want 17 = .ok (.return_, 1) := by decide +kernel
theorem dX8_pass_0 : decode cX8_pass 0 = .ok (.iload_n 1, 1) := by decide +kernel
theorem dX8_pass_1 : decode cX8_pass 1 = .ok (.ifCond .eq 16, 3) := by decide +kernel
theorem dX8_pass_4 : decode cX8_pass 4 = .ok (.aload_n 0, 1) := by decide +kernel
theorem dX8_pass_5 : decode cX8_pass 5 = .ok (.dup, 1) := by decide +kernel
theorem dX8_pass_6 : decode cX8_pass 6 = .ok (.getfield 39, 3) := by decide +kernel
theorem dX8_pass_9 : decode cX8_pass 9 = .ok (.iconst 1, 1) := by decide +kernel
theorem dX8_pass_10 : decode cX8_pass 10 = .ok (.iadd, 1) := by decide +kernel
theorem dX8_pass_11 : decode cX8_pass 11 = .ok (.putfield 39, 3) := by decide +kernel
theorem dX8_pass_14 : decode cX8_pass 14 = .ok (.goto 7, 3) := by decide +kernel
theorem dX8_pass_17 : decode cX8_pass 17 = .ok (.aload_n 0, 1) := by decide +kernel
theorem dX8_pass_18 : decode cX8_pass 18 = .ok (.invokevirtual 64, 3) := by decide +kernel
theorem dX8_pass_21 : decode cX8_pass 21 = .ok (.return_, 1) := by decide +kernel
theorem dX8_fail_0 : decode cX8_fail 0 = .ok (.aload_n 0, 1) := by decide +kernel
theorem dX8_fail_1 : decode cX8_fail 1 = .ok (.getfield 26, 3) := by decide +kernel
theorem dX8_fail_4 : decode cX8_fail 4 = .ok (.iconst (-1), 1) := by decide +kernel
theorem dX8_fail_5 : decode cX8_fail 5 = .ok (.if_icmp .ne 11, 3) := by decide +kernel
theorem dX8_fail_8 : decode cX8_fail 8 = .ok (.aload_n 0, 1) := by decide +kernel
theorem dX8_fail_9 : decode cX8_fail 9 = .ok (.aload_n 0, 1) := by decide +kernel
theorem dX8_fail_10 : decode cX8_fail 10 = .ok (.getfield 39, 3) := by decide +kernel
theorem dX8_fail_13 : decode cX8_fail 13 = .ok (.putfield 26, 3) := by decide +kernel
theorem dX8_fail_16 : decode cX8_fail 16 = .ok (.return_, 1) := by decide +kernel
theorem dX8_next_0 : decode cX8_next 0 = .ok (.aload_n 0, 1) := by decide +kernel
theorem dX8_next_1 : decode cX8_next 1 = .ok (.getfield 26, 3) := by decide +kernel
theorem dX8_next_4 : decode cX8_next 4 = .ok (.iconst (-1), 1) := by decide +kernel
theorem dX8_next_5 : decode cX8_next 5 = .ok (.if_icmp .ne 26, 3) := by decide +kernel
theorem dX8_next_8 : decode cX8_next 8 = .ok (.aload_n 0, 1) := by decide +kernel
theorem dX8_next_9 : decode cX8_next 9 = .ok (.getfield 39, 3) := by decide +kernel
theorem dX8_next_12 : decode cX8_next 12 = .ok (.aload_n 0, 1) := by decide +kernel
theorem dX8_next_13 : decode cX8_next 13 = .ok (.getfield 36, 3) := by decide +kernel
theorem dX8_next_16 : decode cX8_next 16 = .ok (.if_icmp .ge 15, 3) := by decide +kernel
theorem dX8_next_19 : decode cX8_next 19 = .ok (.aload_n 0, 1) := by decide +kernel
theorem dX8_next_20 : decode cX8_next 20 = .ok (.getfield 9, 3) := by decide +kernel
theorem dX8_next_23 : decode cX8_next 23 = .ok (.aload_n 0, 1) := by decide +kernel
theorem dX8_next_24 : decode cX8_next 24 = .ok (.getfield 39, 3) := by decide +kernel
theorem dX8_next_27 : decode cX8_next 27 = .ok (.iaload, 1) := by decide +kernel
theorem dX8_next_28 : decode cX8_next 28 = .ok (.goto 4, 3) := by decide +kernel
theorem dX8_next_31 : decode cX8_next 31 = .ok (.iconst (-1), 1) := by decide +kernel
theorem dX8_next_32 : decode cX8_next 32 = .ok (.ireturn, 1) := by decide +kernel
theorem dX8_isDigit_0 : decode cX8_isDigit 0 = .ok (.iload_n 0, 1) := by decide +kernel
theorem dX8_isDigit_1 : decode cX8_isDigit 1 = .ok (.bipush 48, 2) := by decide +kernel
theorem dX8_isDigit_3 : decode cX8_isDigit 3 = .ok (.if_icmp .lt 13, 3) := by decide +kernel
theorem dX8_isDigit_6 : decode cX8_isDigit 6 = .ok (.iload_n 0, 1) := by decide +kernel
theorem dX8_isDigit_7 : decode cX8_isDigit 7 = .ok (.bipush 57, 2) := by decide +kernel
theorem dX8_isDigit_9 : decode cX8_isDigit 9 = .ok (.if_icmp .gt 7, 3) := by decide +kernel
theorem dX8_isDigit_12 : decode cX8_isDigit 12 = .ok (.iconst 1, 1) := by decide +kernel
theorem dX8_isDigit_13 : decode cX8_isDigit 13 = .ok (.goto 4, 3) := by decide +kernel
theorem dX8_isDigit_16 : decode cX8_isDigit 16 = .ok (.iconst 0, 1) := by decide +kernel
theorem dX8_isDigit_17 : decode cX8_isDigit 17 = .ok (.ireturn, 1) := by decide +kernel
theorem dX9_init_0 : decode cX9_init 0 = .ok (.aload_n 0, 1) := by decide +kernel
theorem dX9_init_1 : decode cX9_init 1 = .ok (.invokespecial 3, 3) := by decide +kernel
theorem dX9_init_4 : decode cX9_init 4 = .ok (.aload_n 0, 1) := by decide +kernel
theorem dX9_init_5 : decode cX9_init 5 = .ok (.bipush 60, 2) := by decide +kernel
theorem dX9_init_7 : decode cX9_init 7 = .ok (.newarray .long, 2) := by decide +kernel
theorem dX9_init_9 : decode cX9_init 9 = .ok (.putfield 9, 3) := by decide +kernel
theorem dX9_init_12 : decode cX9_init 12 = .ok (.aload_n 0, 1) := by decide +kernel
theorem dX9_init_13 : decode cX9_init 13 = .ok (.iconst (-1), 1) := by decide +kernel
theorem dX9_init_14 : decode cX9_init 14 = .ok (.putfield 15, 3) := by decide +kernel
theorem dX9_init_17 : decode cX9_init 17 = .ok (.return_, 1) := by decide +kernel
theorem dX9_hasRow_0 : decode cX9_hasRow 0 = .ok (.aload_n 0, 1) := by decide +kernel
theorem dX9_hasRow_1 : decode cX9_hasRow 1 = .ok (.getfield 15, 3) := by decide +kernel
theorem dX9_hasRow_4 : decode cX9_hasRow 4 = .ok (.iconst (-1), 1) := by decide +kernel
theorem dX9_hasRow_5 : decode cX9_hasRow 5 = .ok (.if_icmp .eq 7, 3) := by decide +kernel
theorem dX9_hasRow_8 : decode cX9_hasRow 8 = .ok (.iconst 1, 1) := by decide +kernel
theorem dX9_hasRow_9 : decode cX9_hasRow 9 = .ok (.goto 4, 3) := by decide +kernel
theorem dX9_hasRow_12 : decode cX9_hasRow 12 = .ok (.iconst 0, 1) := by decide +kernel
theorem dX9_hasRow_13 : decode cX9_hasRow 13 = .ok (.ireturn, 1) := by decide +kernel
theorem dX9_takeRow_0 : decode cX9_takeRow 0 = .ok (.aload_n 0, 1) := by decide +kernel
theorem dX9_takeRow_1 : decode cX9_takeRow 1 = .ok (.aconst_null, 1) := by decide +kernel
theorem dX9_takeRow_2 : decode cX9_takeRow 2 = .ok (.putfield 19, 3) := by decide +kernel
theorem dX9_takeRow_5 : decode cX9_takeRow 5 = .ok (.aload_n 0, 1) := by decide +kernel
theorem dX9_takeRow_6 : decode cX9_takeRow 6 = .ok (.iload_n 1, 1) := by decide +kernel
theorem dX9_takeRow_7 : decode cX9_takeRow 7 = .ok (.putfield 15, 3) := by decide +kernel
theorem dX9_takeRow_10 : decode cX9_takeRow 10 = .ok (.aload_n 0, 1) := by decide +kernel
theorem dX9_takeRow_11 : decode cX9_takeRow 11 = .ok (.iload_n 2, 1) := by decide +kernel
theorem dX9_takeRow_12 : decode cX9_takeRow 12 = .ok (.putfield 23, 3) := by decide +kernel
theorem dX9_takeRow_15 : decode cX9_takeRow 15 = .ok (.aload_n 0, 1) := by decide +kernel
theorem dX9_takeRow_16 : decode cX9_takeRow 16 = .ok (.getfield 9, 3) := by decide +kernel
theorem dX9_takeRow_19 : decode cX9_takeRow 19 = .ok (.lconst 0, 1) := by decide +kernel
theorem dX9_takeRow_20 : decode cX9_takeRow 20 = .ok (.invokestatic 26, 3) := by decide +kernel
theorem dX9_takeRow_23 : decode cX9_takeRow 23 = .ok (.return_, 1) := by decide +kernel
theorem dX9_takeAsk_0 : decode cX9_takeAsk 0 = .ok (.aload_n 0, 1) := by decide +kernel
theorem dX9_takeAsk_1 : decode cX9_takeAsk 1 = .ok (.aload_n 1, 1) := by decide +kernel
theorem dX9_takeAsk_2 : decode cX9_takeAsk 2 = .ok (.putfield 19, 3) := by decide +kernel
theorem dX9_takeAsk_5 : decode cX9_takeAsk 5 = .ok (.aload_n 0, 1) := by decide +kernel
theorem dX9_takeAsk_6 : decode cX9_takeAsk 6 = .ok (.iconst (-1), 1) := by decide +kernel
theorem dX9_takeAsk_7 : decode cX9_takeAsk 7 = .ok (.putfield 15, 3) := by decide +kernel
theorem dX9_takeAsk_10 : decode cX9_takeAsk 10 = .ok (.aload_n 0, 1) := by decide +kernel
theorem dX9_takeAsk_11 : decode cX9_takeAsk 11 = .ok (.iconst 0, 1) := by decide +kernel
theorem dX9_takeAsk_12 : decode cX9_takeAsk 12 = .ok (.putfield 23, 3) := by decide +kernel
theorem dX9_takeAsk_15 : decode cX9_takeAsk 15 = .ok (.return_, 1) := by decide +kernel
theorem dX9_rowCopy_0 : decode cX9_rowCopy 0 = .ok (.aload_n 0, 1) := by decide +kernel
theorem dX9_rowCopy_1 : decode cX9_rowCopy 1 = .ok (.getfield 9, 3) := by decide +kernel
theorem dX9_rowCopy_4 : decode cX9_rowCopy 4 = .ok (.aload_n 0, 1) := by decide +kernel
theorem dX9_rowCopy_5 : decode cX9_rowCopy 5 = .ok (.getfield 23, 3) := by decide +kernel
theorem dX9_rowCopy_8 : decode cX9_rowCopy 8 = .ok (.invokestatic 32, 3) := by decide +kernel
theorem dX9_rowCopy_11 : decode cX9_rowCopy 11 = .ok (.areturn, 1) := by decide +kernel
theorem dX9_votesFor_0 : decode cX9_votesFor 0 = .ok (.iconst 0, 1) := by decide +kernel
theorem dX9_votesFor_1 : decode cX9_votesFor 1 = .ok (.istore_n 3, 1) := by decide +kernel
theorem dX9_votesFor_2 : decode cX9_votesFor 2 = .ok (.iconst 0, 1) := by decide +kernel
theorem dX9_votesFor_3 : decode cX9_votesFor 3 = .ok (.istore 4, 2) := by decide +kernel
theorem dX9_votesFor_5 : decode cX9_votesFor 5 = .ok (.iload 4, 2) := by decide +kernel
theorem dX9_votesFor_7 : decode cX9_votesFor 7 = .ok (.iload_n 2, 1) := by decide +kernel
theorem dX9_votesFor_8 : decode cX9_votesFor 8 = .ok (.if_icmp .ge 41, 3) := by decide +kernel
theorem dX9_votesFor_11 : decode cX9_votesFor 11 = .ok (.iload 4, 2) := by decide +kernel
theorem dX9_votesFor_13 : decode cX9_votesFor 13 = .ok (.aload_n 0, 1) := by decide +kernel
theorem dX9_votesFor_14 : decode cX9_votesFor 14 = .ok (.getfield 23, 3) := by decide +kernel
theorem dX9_votesFor_17 : decode cX9_votesFor 17 = .ok (.if_icmp .ge 32, 3) := by decide +kernel
theorem dX9_votesFor_20 : decode cX9_votesFor 20 = .ok (.iload_n 3, 1) := by decide +kernel
theorem dX9_votesFor_21 : decode cX9_votesFor 21 = .ok (.aload_n 0, 1) := by decide +kernel
theorem dX9_votesFor_22 : decode cX9_votesFor 22 = .ok (.getfield 9, 3) := by decide +kernel
theorem dX9_votesFor_25 : decode cX9_votesFor 25 = .ok (.iload 4, 2) := by decide +kernel
theorem dX9_votesFor_27 : decode cX9_votesFor 27 = .ok (.laload, 1) := by decide +kernel
theorem dX9_votesFor_28 : decode cX9_votesFor 28 = .ok (.l2i, 1) := by decide +kernel
theorem dX9_votesFor_29 : decode cX9_votesFor 29 = .ok (.iload_n 1, 1) := by decide +kernel
theorem dX9_votesFor_30 : decode cX9_votesFor 30 = .ok (.if_icmp .ne 7, 3) := by decide +kernel
theorem dX9_votesFor_33 : decode cX9_votesFor 33 = .ok (.iconst 1, 1) := by decide +kernel
theorem dX9_votesFor_34 : decode cX9_votesFor 34 = .ok (.goto 4, 3) := by decide +kernel
theorem dX9_votesFor_37 : decode cX9_votesFor 37 = .ok (.iconst 0, 1) := by decide +kernel
theorem dX9_votesFor_38 : decode cX9_votesFor 38 = .ok (.invokestatic 36, 3) := by decide +kernel
theorem dX9_votesFor_41 : decode cX9_votesFor 41 = .ok (.iadd, 1) := by decide +kernel
theorem dX9_votesFor_42 : decode cX9_votesFor 42 = .ok (.istore_n 3, 1) := by decide +kernel
theorem dX9_votesFor_43 : decode cX9_votesFor 43 = .ok (.iinc 4 1, 3) := by decide +kernel
theorem dX9_votesFor_46 : decode cX9_votesFor 46 = .ok (.goto (-41), 3) := by decide +kernel
theorem dX9_votesFor_49 : decode cX9_votesFor 49 = .ok (.iload_n 3, 1) := by decide +kernel
theorem dX9_votesFor_50 : decode cX9_votesFor 50 = .ok (.ireturn, 1) := by decide +kernel
theorem dX9_allIntsBelow_0 : decode cX9_allIntsBelow 0 = .ok (.iconst 0, 1) := by decide +kernel
theorem dX9_allIntsBelow_1 : decode cX9_allIntsBelow 1 = .ok (.istore_n 2, 1) := by decide +kernel
theorem dX9_allIntsBelow_2 : decode cX9_allIntsBelow 2 = .ok (.iload_n 2, 1) := by decide +kernel
theorem dX9_allIntsBelow_3 : decode cX9_allIntsBelow 3 = .ok (.aload_n 0, 1) := by decide +kernel
theorem dX9_allIntsBelow_4 : decode cX9_allIntsBelow 4 = .ok (.getfield 23, 3) := by decide +kernel
theorem dX9_allIntsBelow_7 : decode cX9_allIntsBelow 7 = .ok (.if_icmp .ge 28, 3) := by decide +kernel
theorem dX9_allIntsBelow_10 : decode cX9_allIntsBelow 10 = .ok (.aload_n 0, 1) := by decide +kernel
theorem dX9_allIntsBelow_11 : decode cX9_allIntsBelow 11 = .ok (.getfield 9, 3) := by decide +kernel
theorem dX9_allIntsBelow_14 : decode cX9_allIntsBelow 14 = .ok (.iload_n 2, 1) := by decide +kernel
theorem dX9_allIntsBelow_15 : decode cX9_allIntsBelow 15 = .ok (.laload, 1) := by decide +kernel
theorem dX9_allIntsBelow_16 : decode cX9_allIntsBelow 16 = .ok (.l2i, 1) := by decide +kernel
theorem dX9_allIntsBelow_17 : decode cX9_allIntsBelow 17 = .ok (.iconst 0, 1) := by decide +kernel
theorem dX9_allIntsBelow_18 : decode cX9_allIntsBelow 18 = .ok (.iload_n 1, 1) := by decide +kernel
theorem dX9_allIntsBelow_19 : decode cX9_allIntsBelow 19 = .ok (.iconst 1, 1) := by decide +kernel
theorem dX9_allIntsBelow_20 : decode cX9_allIntsBelow 20 = .ok (.isub, 1) := by decide +kernel
theorem dX9_allIntsBelow_21 : decode cX9_allIntsBelow 21 = .ok (.invokestatic 40, 3) := by decide +kernel
theorem dX9_allIntsBelow_24 : decode cX9_allIntsBelow 24 = .ok (.ifCond .ne 5, 3) := by decide +kernel
theorem dX9_allIntsBelow_27 : decode cX9_allIntsBelow 27 = .ok (.iconst 0, 1) := by decide +kernel
theorem dX9_allIntsBelow_28 : decode cX9_allIntsBelow 28 = .ok (.ireturn, 1) := by decide +kernel
theorem dX9_allIntsBelow_29 : decode cX9_allIntsBelow 29 = .ok (.iinc 2 1, 3) := by decide +kernel
theorem dX9_allIntsBelow_32 : decode cX9_allIntsBelow 32 = .ok (.goto (-30), 3) := by decide +kernel
theorem dX9_allIntsBelow_35 : decode cX9_allIntsBelow 35 = .ok (.iconst 1, 1) := by decide +kernel
theorem dX9_allIntsBelow_36 : decode cX9_allIntsBelow 36 = .ok (.ireturn, 1) := by decide +kernel
theorem dX9_bitsOfInts_0 : decode cX9_bitsOfInts 0 = .ok (.iconst 0, 1) := by decide +kernel
theorem dX9_bitsOfInts_1 : decode cX9_bitsOfInts 1 = .ok (.istore_n 1, 1) := by decide +kernel
theorem dX9_bitsOfInts_2 : decode cX9_bitsOfInts 2 = .ok (.iconst 0, 1) := by decide +kernel
theorem dX9_bitsOfInts_3 : decode cX9_bitsOfInts 3 = .ok (.istore_n 2, 1) := by decide +kernel
theorem dX9_bitsOfInts_4 : decode cX9_bitsOfInts 4 = .ok (.iload_n 2, 1) := by decide +kernel
theorem dX9_bitsOfInts_5 : decode cX9_bitsOfInts 5 = .ok (.aload_n 0, 1) := by decide +kernel
theorem dX9_bitsOfInts_6 : decode cX9_bitsOfInts 6 = .ok (.getfield 23, 3) := by decide +kernel
theorem dX9_bitsOfInts_9 : decode cX9_bitsOfInts 9 = .ok (.if_icmp .ge 21, 3) := by decide +kernel
theorem dX9_bitsOfInts_12 : decode cX9_bitsOfInts 12 = .ok (.iload_n 1, 1) := by decide +kernel
theorem dX9_bitsOfInts_13 : decode cX9_bitsOfInts 13 = .ok (.iconst 1, 1) := by decide +kernel
theorem dX9_bitsOfInts_14 : decode cX9_bitsOfInts 14 = .ok (.aload_n 0, 1) := by decide +kernel
theorem dX9_bitsOfInts_15 : decode cX9_bitsOfInts 15 = .ok (.getfield 9, 3) := by decide +kernel
theorem dX9_bitsOfInts_18 : decode cX9_bitsOfInts 18 = .ok (.iload_n 2, 1) := by decide +kernel
theorem dX9_bitsOfInts_19 : decode cX9_bitsOfInts 19 = .ok (.laload, 1) := by decide +kernel
theorem dX9_bitsOfInts_20 : decode cX9_bitsOfInts 20 = .ok (.l2i, 1) := by decide +kernel
theorem dX9_bitsOfInts_21 : decode cX9_bitsOfInts 21 = .ok (.ishl, 1) := by decide +kernel
theorem dX9_bitsOfInts_22 : decode cX9_bitsOfInts 22 = .ok (.ior, 1) := by decide +kernel
theorem dX9_bitsOfInts_23 : decode cX9_bitsOfInts 23 = .ok (.istore_n 1, 1) := by decide +kernel
theorem dX9_bitsOfInts_24 : decode cX9_bitsOfInts 24 = .ok (.iinc 2 1, 3) := by decide +kernel
theorem dX9_bitsOfInts_27 : decode cX9_bitsOfInts 27 = .ok (.goto (-23), 3) := by decide +kernel
theorem dX9_bitsOfInts_30 : decode cX9_bitsOfInts 30 = .ok (.iload_n 1, 1) := by decide +kernel
theorem dX9_bitsOfInts_31 : decode cX9_bitsOfInts 31 = .ok (.ireturn, 1) := by decide +kernel
theorem dX10_init_0 : decode cX10_init 0 = .ok (.aload_n 0, 1) := by decide +kernel
theorem dX10_init_1 : decode cX10_init 1 = .ok (.invokespecial 1, 3) := by decide +kernel
theorem dX10_init_4 : decode cX10_init 4 = .ok (.aload_n 0, 1) := by decide +kernel
theorem dX10_init_5 : decode cX10_init 5 = .ok (.bipush 24, 2) := by decide +kernel
theorem dX10_init_7 : decode cX10_init 7 = .ok (.anewarray 9, 3) := by decide +kernel
theorem dX10_init_10 : decode cX10_init 10 = .ok (.putfield 11, 3) := by decide +kernel
theorem dX10_init_13 : decode cX10_init 13 = .ok (.aload_n 0, 1) := by decide +kernel
theorem dX10_init_14 : decode cX10_init 14 = .ok (.bipush 8, 2) := by decide +kernel
theorem dX10_init_16 : decode cX10_init 16 = .ok (.anewarray 15, 3) := by decide +kernel
theorem dX10_init_19 : decode cX10_init 19 = .ok (.putfield 17, 3) := by decide +kernel
theorem dX10_init_22 : decode cX10_init 22 = .ok (.aload_n 0, 1) := by decide +kernel
theorem dX10_init_23 : decode cX10_init 23 = .ok (.sipush 160, 3) := by decide +kernel
theorem dX10_init_26 : decode cX10_init 26 = .ok (.anewarray 21, 3) := by decide +kernel
theorem dX10_init_29 : decode cX10_init 29 = .ok (.putfield 23, 3) := by decide +kernel
theorem dX10_init_32 : decode cX10_init 32 = .ok (.aload_n 0, 1) := by decide +kernel
theorem dX10_init_33 : decode cX10_init 33 = .ok (.bipush 8, 2) := by decide +kernel
theorem dX10_init_35 : decode cX10_init 35 = .ok (.anewarray 27, 3) := by decide +kernel
theorem dX10_init_38 : decode cX10_init 38 = .ok (.putfield 29, 3) := by decide +kernel
theorem dX10_init_41 : decode cX10_init 41 = .ok (.aload_n 0, 1) := by decide +kernel
theorem dX10_init_42 : decode cX10_init 42 = .ok (.bipush 12, 2) := by decide +kernel
theorem dX10_init_44 : decode cX10_init 44 = .ok (.anewarray 33, 3) := by decide +kernel
theorem dX10_init_47 : decode cX10_init 47 = .ok (.putfield 35, 3) := by decide +kernel
theorem dX10_init_50 : decode cX10_init 50 = .ok (.aload_n 0, 1) := by decide +kernel
theorem dX10_init_51 : decode cX10_init 51 = .ok (.bipush 20, 2) := by decide +kernel
theorem dX10_init_53 : decode cX10_init 53 = .ok (.anewarray 39, 3) := by decide +kernel
theorem dX10_init_56 : decode cX10_init 56 = .ok (.putfield 41, 3) := by decide +kernel
theorem dX10_init_59 : decode cX10_init 59 = .ok (.aload_n 0, 1) := by decide +kernel
theorem dX10_init_60 : decode cX10_init 60 = .ok (.bipush 7, 2) := by decide +kernel
theorem dX10_init_62 : decode cX10_init 62 = .ok (.newarray .int, 2) := by decide +kernel
theorem dX10_init_64 : decode cX10_init 64 = .ok (.putfield 45, 3) := by decide +kernel
theorem dX10_init_67 : decode cX10_init 67 = .ok (.aload_n 0, 1) := by decide +kernel
theorem dX10_init_68 : decode cX10_init 68 = .ok (.bipush 21, 2) := by decide +kernel
theorem dX10_init_70 : decode cX10_init 70 = .ok (.newarray .int, 2) := by decide +kernel
theorem dX10_init_72 : decode cX10_init 72 = .ok (.putfield 49, 3) := by decide +kernel
theorem dX10_init_75 : decode cX10_init 75 = .ok (.aload_n 0, 1) := by decide +kernel
theorem dX10_init_76 : decode cX10_init 76 = .ok (.new 52, 3) := by decide +kernel
theorem dX10_init_79 : decode cX10_init 79 = .ok (.dup, 1) := by decide +kernel
theorem dX10_init_80 : decode cX10_init 80 = .ok (.invokespecial 54, 3) := by decide +kernel
theorem dX10_init_83 : decode cX10_init 83 = .ok (.putfield 55, 3) := by decide +kernel
theorem dX10_init_86 : decode cX10_init 86 = .ok (.aload_n 0, 1) := by decide +kernel
theorem dX10_init_87 : decode cX10_init 87 = .ok (.new 59, 3) := by decide +kernel
theorem dX10_init_90 : decode cX10_init 90 = .ok (.dup, 1) := by decide +kernel
theorem dX10_init_91 : decode cX10_init 91 = .ok (.invokespecial 61, 3) := by decide +kernel
theorem dX10_init_94 : decode cX10_init 94 = .ok (.putfield 62, 3) := by decide +kernel
theorem dX10_init_97 : decode cX10_init 97 = .ok (.aload_n 0, 1) := by decide +kernel
theorem dX10_init_98 : decode cX10_init 98 = .ok (.new 66, 3) := by decide +kernel
theorem dX10_init_101 : decode cX10_init 101 = .ok (.dup, 1) := by decide +kernel
theorem dX10_init_102 : decode cX10_init 102 = .ok (.invokespecial 68, 3) := by decide +kernel
theorem dX10_init_105 : decode cX10_init 105 = .ok (.putfield 69, 3) := by decide +kernel
theorem dX10_init_108 : decode cX10_init 108 = .ok (.aload_n 0, 1) := by decide +kernel
theorem dX10_init_109 : decode cX10_init 109 = .ok (.new 73, 3) := by decide +kernel
theorem dX10_init_112 : decode cX10_init 112 = .ok (.dup, 1) := by decide +kernel
theorem dX10_init_113 : decode cX10_init 113 = .ok (.invokespecial 75, 3) := by decide +kernel
theorem dX10_init_116 : decode cX10_init 116 = .ok (.putfield 76, 3) := by decide +kernel
theorem dX10_init_119 : decode cX10_init 119 = .ok (.aload_n 0, 1) := by decide +kernel
theorem dX10_init_120 : decode cX10_init 120 = .ok (.iconst (-1), 1) := by decide +kernel
theorem dX10_init_121 : decode cX10_init 121 = .ok (.putfield 80, 3) := by decide +kernel
theorem dX10_init_124 : decode cX10_init 124 = .ok (.iconst 0, 1) := by decide +kernel
theorem dX10_init_125 : decode cX10_init 125 = .ok (.istore_n 1, 1) := by decide +kernel
theorem dX10_init_126 : decode cX10_init 126 = .ok (.iload_n 1, 1) := by decide +kernel
theorem dX10_init_127 : decode cX10_init 127 = .ok (.bipush 8, 2) := by decide +kernel
theorem dX10_init_129 : decode cX10_init 129 = .ok (.if_icmp .ge 22, 3) := by decide +kernel
theorem dX10_init_132 : decode cX10_init 132 = .ok (.aload_n 0, 1) := by decide +kernel
theorem dX10_init_133 : decode cX10_init 133 = .ok (.getfield 17, 3) := by decide +kernel
theorem dX10_init_136 : decode cX10_init 136 = .ok (.iload_n 1, 1) := by decide +kernel
theorem dX10_init_137 : decode cX10_init 137 = .ok (.new 15, 3) := by decide +kernel
theorem dX10_init_140 : decode cX10_init 140 = .ok (.dup, 1) := by decide +kernel
theorem dX10_init_141 : decode cX10_init 141 = .ok (.invokespecial 84, 3) := by decide +kernel
theorem dX10_init_144 : decode cX10_init 144 = .ok (.aastore, 1) := by decide +kernel
theorem dX10_init_145 : decode cX10_init 145 = .ok (.iinc 1 1, 3) := by decide +kernel
theorem dX10_init_148 : decode cX10_init 148 = .ok (.goto (-22), 3) := by decide +kernel
theorem dX10_init_151 : decode cX10_init 151 = .ok (.aload_n 0, 1) := by decide +kernel
theorem dX10_init_152 : decode cX10_init 152 = .ok (.getfield 11, 3) := by decide +kernel
theorem dX10_init_155 : decode cX10_init 155 = .ok (.iconst 0, 1) := by decide +kernel
theorem dX10_init_156 : decode cX10_init 156 = .ok (.new 9, 3) := by decide +kernel
theorem dX10_init_159 : decode cX10_init 159 = .ok (.dup, 1) := by decide +kernel
theorem dX10_init_160 : decode cX10_init 160 = .ok (.iconst 0, 1) := by decide +kernel
theorem dX10_init_161 : decode cX10_init 161 = .ok (.aconst_null, 1) := by decide +kernel
theorem dX10_init_162 : decode cX10_init 162 = .ok (.iconst 0, 1) := by decide +kernel
theorem dX10_init_163 : decode cX10_init 163 = .ok (.iconst (-1), 1) := by decide +kernel
theorem dX10_init_164 : decode cX10_init 164 = .ok (.iconst 0, 1) := by decide +kernel
theorem dX10_init_165 : decode cX10_init 165 = .ok (.invokespecial 85, 3) := by decide +kernel
theorem dX10_init_168 : decode cX10_init 168 = .ok (.aastore, 1) := by decide +kernel
theorem dX10_init_169 : decode cX10_init 169 = .ok (.aload_n 0, 1) := by decide +kernel
theorem dX10_init_170 : decode cX10_init 170 = .ok (.iconst 1, 1) := by decide +kernel
theorem dX10_init_171 : decode cX10_init 171 = .ok (.putfield 88, 3) := by decide +kernel
theorem dX10_init_174 : decode cX10_init 174 = .ok (.return_, 1) := by decide +kernel
theorem dX10_place_0 : decode cX10_place 0 = .ok (.aload_n 0, 1) := by decide +kernel
theorem dX10_place_1 : decode cX10_place 1 = .ok (.iload_n 1, 1) := by decide +kernel
theorem dX10_place_2 : decode cX10_place 2 = .ok (.invokevirtual 91, 3) := by decide +kernel
theorem dX10_place_5 : decode cX10_place 5 = .ok (.astore_n 3, 1) := by decide +kernel
theorem dX10_place_6 : decode cX10_place 6 = .ok (.aload_n 3, 1) := by decide +kernel
theorem dX10_place_7 : decode cX10_place 7 = .ok (.ifnonnull 9, 3) := by decide +kernel
theorem dX10_place_10 : decode cX10_place 10 = .ok (.aload_n 0, 1) := by decide +kernel
theorem dX10_place_11 : decode cX10_place 11 = .ok (.iconst (-1), 1) := by decide +kernel
theorem dX10_place_12 : decode cX10_place 12 = .ok (.invokevirtual 95, 3) := by decide +kernel
theorem dX10_place_15 : decode cX10_place 15 = .ok (.ireturn, 1) := by decide +kernel
theorem dX10_place_16 : decode cX10_place 16 = .ok (.iload_n 2, 1) := by decide +kernel
theorem dX10_place_17 : decode cX10_place 17 = .ok (.iconst 0, 1) := by decide +kernel
theorem dX10_place_18 : decode cX10_place 18 = .ok (.bipush 99, 2) := by decide +kernel
theorem dX10_place_20 : decode cX10_place 20 = .ok (.invokestatic 99, 3) := by decide +kernel
theorem dX10_place_23 : decode cX10_place 23 = .ok (.ifCond .eq 11, 3) := by decide +kernel
theorem dX10_place_26 : decode cX10_place 26 = .ok (.aload_n 3, 1) := by decide +kernel
theorem dX10_place_27 : decode cX10_place 27 = .ok (.getfield 103, 3) := by decide +kernel
theorem dX10_place_30 : decode cX10_place 30 = .ok (.iconst 1, 1) := by decide +kernel
theorem dX10_place_31 : decode cX10_place 31 = .ok (.if_icmp .gt 10, 3) := by decide +kernel
theorem dX10_place_34 : decode cX10_place 34 = .ok (.aload_n 0, 1) := by decide +kernel
theorem dX10_place_35 : decode cX10_place 35 = .ok (.bipush (-6), 2) := by decide +kernel
theorem dX10_place_37 : decode cX10_place 37 = .ok (.invokevirtual 95, 3) := by decide +kernel
theorem dX10_place_40 : decode cX10_place 40 = .ok (.ireturn, 1) := by decide +kernel
theorem dX10_place_41 : decode cX10_place 41 = .ok (.aload_n 0, 1) := by decide +kernel
theorem dX10_place_42 : decode cX10_place 42 = .ok (.getfield 88, 3) := by decide +kernel
theorem dX10_place_45 : decode cX10_place 45 = .ok (.bipush 24, 2) := by decide +kernel
theorem dX10_place_47 : decode cX10_place 47 = .ok (.if_icmp .lt 10, 3) := by decide +kernel
theorem dX10_place_50 : decode cX10_place 50 = .ok (.aload_n 0, 1) := by decide +kernel
theorem dX10_place_51 : decode cX10_place 51 = .ok (.bipush (-7), 2) := by decide +kernel
theorem dX10_place_53 : decode cX10_place 53 = .ok (.invokevirtual 95, 3) := by decide +kernel
theorem dX10_place_56 : decode cX10_place 56 = .ok (.ireturn, 1) := by decide +kernel
theorem dX10_place_57 : decode cX10_place 57 = .ok (.aload_n 0, 1) := by decide +kernel
theorem dX10_place_58 : decode cX10_place 58 = .ok (.aload_n 3, 1) := by decide +kernel
theorem dX10_place_59 : decode cX10_place 59 = .ok (.iload_n 2, 1) := by decide +kernel
theorem dX10_place_60 : decode cX10_place 60 = .ok (.iconst (-1), 1) := by decide +kernel
theorem dX10_place_61 : decode cX10_place 61 = .ok (.iconst 0, 1) := by decide +kernel
theorem dX10_place_62 : decode cX10_place 62 = .ok (.invokevirtual 106, 3) := by decide +kernel
theorem dX10_place_65 : decode cX10_place 65 = .ok (.ireturn, 1) := by decide +kernel
theorem dX10_parish_0 : decode cX10_parish 0 = .ok (.aload_n 0, 1) := by decide +kernel
theorem dX10_parish_1 : decode cX10_parish 1 = .ok (.iload_n 1, 1) := by decide +kernel
theorem dX10_parish_2 : decode cX10_parish 2 = .ok (.invokevirtual 91, 3) := by decide +kernel
theorem dX10_parish_5 : decode cX10_parish 5 = .ok (.astore 5, 2) := by decide +kernel
theorem dX10_parish_7 : decode cX10_parish 7 = .ok (.aload 5, 2) := by decide +kernel
theorem dX10_parish_9 : decode cX10_parish 9 = .ok (.ifnonnull 9, 3) := by decide +kernel
theorem dX10_parish_12 : decode cX10_parish 12 = .ok (.aload_n 0, 1) := by decide +kernel
theorem dX10_parish_13 : decode cX10_parish 13 = .ok (.iconst (-1), 1) := by decide +kernel
theorem dX10_parish_14 : decode cX10_parish 14 = .ok (.invokevirtual 95, 3) := by decide +kernel
theorem dX10_parish_17 : decode cX10_parish 17 = .ok (.ireturn, 1) := by decide +kernel
theorem dX10_parish_18 : decode cX10_parish 18 = .ok (.iload_n 2, 1) := by decide +kernel
theorem dX10_parish_19 : decode cX10_parish 19 = .ok (.iconst 0, 1) := by decide +kernel
theorem dX10_parish_20 : decode cX10_parish 20 = .ok (.bipush 99, 2) := by decide +kernel
theorem dX10_parish_22 : decode cX10_parish 22 = .ok (.invokestatic 99, 3) := by decide +kernel
theorem dX10_parish_25 : decode cX10_parish 25 = .ok (.ifCond .eq 28, 3) := by decide +kernel
theorem dX10_parish_28 : decode cX10_parish 28 = .ok (.iload_n 3, 1) := by decide +kernel
theorem dX10_parish_29 : decode cX10_parish 29 = .ok (.iconst 0, 1) := by decide +kernel
theorem dX10_parish_30 : decode cX10_parish 30 = .ok (.iconst 2, 1) := by decide +kernel
theorem dX10_parish_31 : decode cX10_parish 31 = .ok (.invokestatic 99, 3) := by decide +kernel
theorem dX10_parish_34 : decode cX10_parish 34 = .ok (.ifCond .eq 19, 3) := by decide +kernel
theorem dX10_parish_37 : decode cX10_parish 37 = .ok (.iload 4, 2) := by decide +kernel
theorem dX10_parish_39 : decode cX10_parish 39 = .ok (.iconst 1, 1) := by decide +kernel
theorem dX10_parish_40 : decode cX10_parish 40 = .ok (.sipush 999, 3) := by decide +kernel
theorem dX10_parish_43 : decode cX10_parish 43 = .ok (.invokestatic 99, 3) := by decide +kernel
theorem dX10_parish_46 : decode cX10_parish 46 = .ok (.ifCond .eq 7, 3) := by decide +kernel
theorem dX10_parish_49 : decode cX10_parish 49 = .ok (.iconst 1, 1) := by decide +kernel
theorem dX10_parish_50 : decode cX10_parish 50 = .ok (.goto 4, 3) := by decide +kernel
theorem dX10_parish_53 : decode cX10_parish 53 = .ok (.iconst 0, 1) := by decide +kernel
theorem dX10_parish_54 : decode cX10_parish 54 = .ok (.istore 6, 2) := by decide +kernel
theorem dX10_parish_56 : decode cX10_parish 56 = .ok (.iload 6, 2) := by decide +kernel
theorem dX10_parish_58 : decode cX10_parish 58 = .ok (.ifCond .eq 12, 3) := by decide +kernel
theorem dX10_parish_61 : decode cX10_parish 61 = .ok (.aload 5, 2) := by decide +kernel
theorem dX10_parish_63 : decode cX10_parish 63 = .ok (.getfield 103, 3) := by decide +kernel
theorem dX10_parish_66 : decode cX10_parish 66 = .ok (.iconst 1, 1) := by decide +kernel
theorem dX10_parish_67 : decode cX10_parish 67 = .ok (.if_icmp .eq 10, 3) := by decide +kernel
theorem dX10_parish_70 : decode cX10_parish 70 = .ok (.aload_n 0, 1) := by decide +kernel
theorem dX10_parish_71 : decode cX10_parish 71 = .ok (.bipush (-6), 2) := by decide +kernel
theorem dX10_parish_73 : decode cX10_parish 73 = .ok (.invokevirtual 95, 3) := by decide +kernel
theorem dX10_parish_76 : decode cX10_parish 76 = .ok (.ireturn, 1) := by decide +kernel
theorem dX10_parish_77 : decode cX10_parish 77 = .ok (.aload_n 0, 1) := by decide +kernel
theorem dX10_parish_78 : decode cX10_parish 78 = .ok (.getfield 88, 3) := by decide +kernel
theorem dX10_parish_81 : decode cX10_parish 81 = .ok (.bipush 24, 2) := by decide +kernel
theorem dX10_parish_83 : decode cX10_parish 83 = .ok (.if_icmp .lt 10, 3) := by decide +kernel
theorem dX10_parish_86 : decode cX10_parish 86 = .ok (.aload_n 0, 1) := by decide +kernel
theorem dX10_parish_87 : decode cX10_parish 87 = .ok (.bipush (-7), 2) := by decide +kernel
theorem dX10_parish_89 : decode cX10_parish 89 = .ok (.invokevirtual 95, 3) := by decide +kernel
theorem dX10_parish_92 : decode cX10_parish 92 = .ok (.ireturn, 1) := by decide +kernel
theorem dX10_parish_93 : decode cX10_parish 93 = .ok (.aload_n 0, 1) := by decide +kernel
theorem dX10_parish_94 : decode cX10_parish 94 = .ok (.aload 5, 2) := by decide +kernel
theorem dX10_parish_96 : decode cX10_parish 96 = .ok (.iload_n 2, 1) := by decide +kernel
theorem dX10_parish_97 : decode cX10_parish 97 = .ok (.iload_n 3, 1) := by decide +kernel
theorem dX10_parish_98 : decode cX10_parish 98 = .ok (.iload 4, 2) := by decide +kernel
theorem dX10_parish_100 : decode cX10_parish 100 = .ok (.invokevirtual 106, 3) := by decide +kernel
theorem dX10_parish_103 : decode cX10_parish 103 = .ok (.ireturn, 1) := by decide +kernel
theorem dX10_path_0 : decode cX10_path 0 = .ok (.aload_n 0, 1) := by decide +kernel
theorem dX10_path_1 : decode cX10_path 1 = .ok (.iload_n 1, 1) := by decide +kernel
theorem dX10_path_2 : decode cX10_path 2 = .ok (.invokevirtual 91, 3) := by decide +kernel
theorem dX10_path_5 : decode cX10_path 5 = .ok (.astore_n 3, 1) := by decide +kernel
theorem dX10_path_6 : decode cX10_path 6 = .ok (.aload_n 0, 1) := by decide +kernel
theorem dX10_path_7 : decode cX10_path 7 = .ok (.iload_n 2, 1) := by decide +kernel
theorem dX10_path_8 : decode cX10_path 8 = .ok (.invokevirtual 91, 3) := by decide +kernel
theorem dX10_path_11 : decode cX10_path 11 = .ok (.astore 4, 2) := by decide +kernel
theorem dX10_path_13 : decode cX10_path 13 = .ok (.aload_n 3, 1) := by decide +kernel
theorem dX10_path_14 : decode cX10_path 14 = .ok (.ifnull 8, 3) := by decide +kernel
theorem dX10_path_17 : decode cX10_path 17 = .ok (.aload 4, 2) := by decide +kernel
theorem dX10_path_19 : decode cX10_path 19 = .ok (.ifnonnull 7, 3) := by decide +kernel
theorem dX10_path_22 : decode cX10_path 22 = .ok (.iconst (-1), 1) := by decide +kernel
theorem dX10_path_23 : decode cX10_path 23 = .ok (.goto 9, 3) := by decide +kernel
theorem dX10_path_26 : decode cX10_path 26 = .ok (.aload_n 3, 1) := by decide +kernel
theorem dX10_path_27 : decode cX10_path 27 = .ok (.aload 4, 2) := by decide +kernel
theorem dX10_path_29 : decode cX10_path 29 = .ok (.invokestatic 110, 3) := by decide +kernel
theorem dX10_path_32 : decode cX10_path 32 = .ok (.ireturn, 1) := by decide +kernel
theorem dX10_days_0 : decode cX10_days 0 = .ok (.iload_n 1, 1) := by decide +kernel
theorem dX10_days_1 : decode cX10_days 1 = .ok (.iconst 1, 1) := by decide +kernel
theorem dX10_days_2 : decode cX10_days 2 = .ok (.sipush 400, 3) := by decide +kernel
theorem dX10_days_5 : decode cX10_days 5 = .ok (.invokestatic 99, 3) := by decide +kernel
theorem dX10_days_8 : decode cX10_days 8 = .ok (.ifCond .eq 15, 3) := by decide +kernel
theorem dX10_days_11 : decode cX10_days 11 = .ok (.aload_n 0, 1) := by decide +kernel
theorem dX10_days_12 : decode cX10_days 12 = .ok (.getfield 114, 3) := by decide +kernel
theorem dX10_days_15 : decode cX10_days 15 = .ok (.iload_n 1, 1) := by decide +kernel
theorem dX10_days_16 : decode cX10_days 16 = .ok (.iadd, 1) := by decide +kernel
theorem dX10_days_17 : decode cX10_days 17 = .ok (.sipush 4000, 3) := by decide +kernel
theorem dX10_days_20 : decode cX10_days 20 = .ok (.if_icmp .le 10, 3) := by decide +kernel
theorem dX10_days_23 : decode cX10_days 23 = .ok (.aload_n 0, 1) := by decide +kernel
theorem dX10_days_24 : decode cX10_days 24 = .ok (.bipush (-6), 2) := by decide +kernel
theorem dX10_days_26 : decode cX10_days 26 = .ok (.invokevirtual 95, 3) := by decide +kernel
theorem dX10_days_29 : decode cX10_days 29 = .ok (.ireturn, 1) := by decide +kernel
theorem dX10_days_30 : decode cX10_days 30 = .ok (.aload_n 0, 1) := by decide +kernel
theorem dX10_days_31 : decode cX10_days 31 = .ok (.dup, 1) := by decide +kernel
theorem dX10_days_32 : decode cX10_days 32 = .ok (.getfield 114, 3) := by decide +kernel
theorem dX10_days_35 : decode cX10_days 35 = .ok (.iload_n 1, 1) := by decide +kernel
theorem dX10_days_36 : decode cX10_days 36 = .ok (.iadd, 1) := by decide +kernel
theorem dX10_days_37 : decode cX10_days 37 = .ok (.putfield 114, 3) := by decide +kernel
theorem dX10_days_40 : decode cX10_days 40 = .ok (.aload_n 0, 1) := by decide +kernel
theorem dX10_days_41 : decode cX10_days 41 = .ok (.getfield 114, 3) := by decide +kernel
theorem dX10_days_44 : decode cX10_days 44 = .ok (.ireturn, 1) := by decide +kernel
theorem dX10_about_0 : decode cX10_about 0 = .ok (.aload_n 0, 1) := by decide +kernel
theorem dX10_about_1 : decode cX10_about 1 = .ok (.iload_n 1, 1) := by decide +kernel
theorem dX10_about_2 : decode cX10_about 2 = .ok (.invokevirtual 91, 3) := by decide +kernel
theorem dX10_about_5 : decode cX10_about 5 = .ok (.astore_n 3, 1) := by decide +kernel
theorem dX10_about_6 : decode cX10_about 6 = .ok (.aload_n 3, 1) := by decide +kernel
theorem dX10_about_7 : decode cX10_about 7 = .ok (.ifnonnull 5, 3) := by decide +kernel
theorem dX10_about_10 : decode cX10_about 10 = .ok (.iconst (-1), 1) := by decide +kernel
theorem dX10_about_11 : decode cX10_about 11 = .ok (.ireturn, 1) := by decide +kernel
theorem dX10_about_12 : decode cX10_about 12 = .ok (.iload_n 2, 1) := by decide +kernel
theorem dX10_about_13 : decode cX10_about 13 = .ok (.tableswitch 119 0 7 #[47, 52, 71, 76, 81, 87, 95, 114], 47) := by decide +kernel
theorem dX10_about_60 : decode cX10_about 60 = .ok (.aload_n 3, 1) := by decide +kernel
theorem dX10_about_61 : decode cX10_about 61 = .ok (.getfield 103, 3) := by decide +kernel
theorem dX10_about_64 : decode cX10_about 64 = .ok (.ireturn, 1) := by decide +kernel
theorem dX10_about_65 : decode cX10_about 65 = .ok (.aload_n 3, 1) := by decide +kernel
theorem dX10_about_66 : decode cX10_about 66 = .ok (.getfield 117, 3) := by decide +kernel
theorem dX10_about_69 : decode cX10_about 69 = .ok (.ifnonnull 7, 3) := by decide +kernel
theorem dX10_about_72 : decode cX10_about 72 = .ok (.iconst (-1), 1) := by decide +kernel
theorem dX10_about_73 : decode cX10_about 73 = .ok (.goto 10, 3) := by decide +kernel
theorem dX10_about_76 : decode cX10_about 76 = .ok (.aload_n 3, 1) := by decide +kernel
theorem dX10_about_77 : decode cX10_about 77 = .ok (.getfield 117, 3) := by decide +kernel
theorem dX10_about_80 : decode cX10_about 80 = .ok (.getfield 121, 3) := by decide +kernel
theorem dX10_about_83 : decode cX10_about 83 = .ok (.ireturn, 1) := by decide +kernel
theorem dX10_about_84 : decode cX10_about 84 = .ok (.aload_n 3, 1) := by decide +kernel
theorem dX10_about_85 : decode cX10_about 85 = .ok (.getfield 124, 3) := by decide +kernel
theorem dX10_about_88 : decode cX10_about 88 = .ok (.ireturn, 1) := by decide +kernel
theorem dX10_about_89 : decode cX10_about 89 = .ok (.aload_n 3, 1) := by decide +kernel
theorem dX10_about_90 : decode cX10_about 90 = .ok (.getfield 127, 3) := by decide +kernel
theorem dX10_about_93 : decode cX10_about 93 = .ok (.ireturn, 1) := by decide +kernel
theorem dX10_about_94 : decode cX10_about 94 = .ok (.aload_n 0, 1) := by decide +kernel
theorem dX10_about_95 : decode cX10_about 95 = .ok (.aload_n 3, 1) := by decide +kernel
theorem dX10_about_96 : decode cX10_about 96 = .ok (.invokevirtual 130, 3) := by decide +kernel
theorem dX10_about_99 : decode cX10_about 99 = .ok (.ireturn, 1) := by decide +kernel
theorem dX10_about_100 : decode cX10_about 100 = .ok (.aload_n 3, 1) := by decide +kernel
theorem dX10_about_101 : decode cX10_about 101 = .ok (.getfield 134, 3) := by decide +kernel
theorem dX10_about_104 : decode cX10_about 104 = .ok (.invokestatic 138, 3) := by decide +kernel
theorem dX10_about_107 : decode cX10_about 107 = .ok (.ireturn, 1) := by decide +kernel
theorem dX10_about_108 : decode cX10_about 108 = .ok (.aload_n 3, 1) := by decide +kernel
theorem dX10_about_109 : decode cX10_about 109 = .ok (.getfield 142, 3) := by decide +kernel
theorem dX10_about_112 : decode cX10_about 112 = .ok (.ifnonnull 7, 3) := by decide +kernel
theorem dX10_about_115 : decode cX10_about 115 = .ok (.iconst (-1), 1) := by decide +kernel
theorem dX10_about_116 : decode cX10_about 116 = .ok (.goto 10, 3) := by decide +kernel
theorem dX10_about_119 : decode cX10_about 119 = .ok (.aload_n 3, 1) := by decide +kernel
theorem dX10_about_120 : decode cX10_about 120 = .ok (.getfield 142, 3) := by decide +kernel
theorem dX10_about_123 : decode cX10_about 123 = .ok (.getfield 146, 3) := by decide +kernel
theorem dX10_about_126 : decode cX10_about 126 = .ok (.ireturn, 1) := by decide +kernel
theorem dX10_about_127 : decode cX10_about 127 = .ok (.aload_n 3, 1) := by decide +kernel
theorem dX10_about_128 : decode cX10_about 128 = .ok (.getfield 147, 3) := by decide +kernel
theorem dX10_about_131 : decode cX10_about 131 = .ok (.ireturn, 1) := by decide +kernel
theorem dX10_about_132 : decode cX10_about 132 = .ok (.iconst (-1), 1) := by decide +kernel
theorem dX10_about_133 : decode cX10_about 133 = .ok (.ireturn, 1) := by decide +kernel
theorem dX10_settle_0 : decode cX10_settle 0 = .ok (.aload_n 0, 1) := by decide +kernel
theorem dX10_settle_1 : decode cX10_settle 1 = .ok (.getfield 88, 3) := by decide +kernel
theorem dX10_settle_4 : decode cX10_settle 4 = .ok (.istore 5, 2) := by decide +kernel
theorem dX10_settle_6 : decode cX10_settle 6 = .ok (.aload_n 0, 1) := by decide +kernel
theorem dX10_settle_7 : decode cX10_settle 7 = .ok (.getfield 11, 3) := by decide +kernel
theorem dX10_settle_10 : decode cX10_settle 10 = .ok (.iload 5, 2) := by decide +kernel
theorem dX10_settle_12 : decode cX10_settle 12 = .ok (.new 9, 3) := by decide +kernel
theorem dX10_settle_15 : decode cX10_settle 15 = .ok (.dup, 1) := by decide +kernel
theorem dX10_settle_16 : decode cX10_settle 16 = .ok (.iload 5, 2) := by decide +kernel
theorem dX10_settle_18 : decode cX10_settle 18 = .ok (.aload_n 1, 1) := by decide +kernel
theorem dX10_settle_19 : decode cX10_settle 19 = .ok (.iload_n 2, 1) := by decide +kernel
theorem dX10_settle_20 : decode cX10_settle 20 = .ok (.iload_n 3, 1) := by decide +kernel
theorem dX10_settle_21 : decode cX10_settle 21 = .ok (.iload 4, 2) := by decide +kernel
theorem dX10_settle_23 : decode cX10_settle 23 = .ok (.invokespecial 85, 3) := by decide +kernel
theorem dX10_settle_26 : decode cX10_settle 26 = .ok (.aastore, 1) := by decide +kernel
theorem dX10_settle_27 : decode cX10_settle 27 = .ok (.aload_n 0, 1) := by decide +kernel
theorem dX10_settle_28 : decode cX10_settle 28 = .ok (.dup, 1) := by decide +kernel
theorem dX10_settle_29 : decode cX10_settle 29 = .ok (.getfield 88, 3) := by decide +kernel
theorem dX10_settle_32 : decode cX10_settle 32 = .ok (.iconst 1, 1) := by decide +kernel
theorem dX10_settle_33 : decode cX10_settle 33 = .ok (.iadd, 1) := by decide +kernel
theorem dX10_settle_34 : decode cX10_settle 34 = .ok (.putfield 88, 3) := by decide +kernel
theorem dX10_settle_37 : decode cX10_settle 37 = .ok (.aload_n 1, 1) := by decide +kernel
theorem dX10_settle_38 : decode cX10_settle 38 = .ok (.dup, 1) := by decide +kernel
theorem dX10_settle_39 : decode cX10_settle 39 = .ok (.getfield 150, 3) := by decide +kernel
theorem dX10_settle_42 : decode cX10_settle 42 = .ok (.iconst 1, 1) := by decide +kernel
theorem dX10_settle_43 : decode cX10_settle 43 = .ok (.iadd, 1) := by decide +kernel
theorem dX10_settle_44 : decode cX10_settle 44 = .ok (.putfield 150, 3) := by decide +kernel
theorem dX10_settle_47 : decode cX10_settle 47 = .ok (.aload_n 1, 1) := by decide +kernel
theorem dX10_settle_48 : decode cX10_settle 48 = .ok (.astore 6, 2) := by decide +kernel
theorem dX10_settle_50 : decode cX10_settle 50 = .ok (.aload 6, 2) := by decide +kernel
theorem dX10_settle_52 : decode cX10_settle 52 = .ok (.ifnull 25, 3) := by decide +kernel
theorem dX10_settle_55 : decode cX10_settle 55 = .ok (.aload 6, 2) := by decide +kernel
theorem dX10_settle_57 : decode cX10_settle 57 = .ok (.dup, 1) := by decide +kernel
theorem dX10_settle_58 : decode cX10_settle 58 = .ok (.getfield 127, 3) := by decide +kernel
theorem dX10_settle_61 : decode cX10_settle 61 = .ok (.iload 4, 2) := by decide +kernel
theorem dX10_settle_63 : decode cX10_settle 63 = .ok (.iadd, 1) := by decide +kernel
theorem dX10_settle_64 : decode cX10_settle 64 = .ok (.putfield 127, 3) := by decide +kernel
theorem dX10_settle_67 : decode cX10_settle 67 = .ok (.aload 6, 2) := by decide +kernel
theorem dX10_settle_69 : decode cX10_settle 69 = .ok (.getfield 117, 3) := by decide +kernel
theorem dX10_settle_72 : decode cX10_settle 72 = .ok (.astore 6, 2) := by decide +kernel
theorem dX10_settle_74 : decode cX10_settle 74 = .ok (.goto (-24), 3) := by decide +kernel
theorem dX10_settle_77 : decode cX10_settle 77 = .ok (.iload 5, 2) := by decide +kernel
theorem dX10_settle_79 : decode cX10_settle 79 = .ok (.ireturn, 1) := by decide +kernel
theorem dX10_wayBetween_0 : decode cX10_wayBetween 0 = .ok (.aload_n 0, 1) := by decide +kernel
theorem dX10_wayBetween_1 : decode cX10_wayBetween 1 = .ok (.astore_n 2, 1) := by decide +kernel
theorem dX10_wayBetween_2 : decode cX10_wayBetween 2 = .ok (.aload_n 1, 1) := by decide +kernel
theorem dX10_wayBetween_3 : decode cX10_wayBetween 3 = .ok (.astore_n 3, 1) := by decide +kernel
theorem dX10_wayBetween_4 : decode cX10_wayBetween 4 = .ok (.iconst 0, 1) := by decide +kernel
theorem dX10_wayBetween_5 : decode cX10_wayBetween 5 = .ok (.istore 4, 2) := by decide +kernel
theorem dX10_wayBetween_7 : decode cX10_wayBetween 7 = .ok (.iconst 0, 1) := by decide +kernel
theorem dX10_wayBetween_8 : decode cX10_wayBetween 8 = .ok (.istore 5, 2) := by decide +kernel
theorem dX10_wayBetween_10 : decode cX10_wayBetween 10 = .ok (.iload 5, 2) := by decide +kernel
theorem dX10_wayBetween_12 : decode cX10_wayBetween 12 = .ok (.bipush 8, 2) := by decide +kernel
theorem dX10_wayBetween_14 : decode cX10_wayBetween 14 = .ok (.if_icmp .ge 64, 3) := by decide +kernel
theorem dX10_wayBetween_17 : decode cX10_wayBetween 17 = .ok (.aload_n 2, 1) := by decide +kernel
theorem dX10_wayBetween_18 : decode cX10_wayBetween 18 = .ok (.ifnull 60, 3) := by decide +kernel
theorem dX10_wayBetween_21 : decode cX10_wayBetween 21 = .ok (.aload_n 3, 1) := by decide +kernel
theorem dX10_wayBetween_22 : decode cX10_wayBetween 22 = .ok (.ifnull 56, 3) := by decide +kernel
theorem dX10_wayBetween_25 : decode cX10_wayBetween 25 = .ok (.aload_n 2, 1) := by decide +kernel
theorem dX10_wayBetween_26 : decode cX10_wayBetween 26 = .ok (.aload_n 3, 1) := by decide +kernel
theorem dX10_wayBetween_27 : decode cX10_wayBetween 27 = .ok (.if_acmp .eq 51, 3) := by decide +kernel
theorem dX10_wayBetween_30 : decode cX10_wayBetween 30 = .ok (.aload_n 2, 1) := by decide +kernel
theorem dX10_wayBetween_31 : decode cX10_wayBetween 31 = .ok (.getfield 103, 3) := by decide +kernel
theorem dX10_wayBetween_34 : decode cX10_wayBetween 34 = .ok (.aload_n 3, 1) := by decide +kernel
theorem dX10_wayBetween_35 : decode cX10_wayBetween 35 = .ok (.getfield 103, 3) := by decide +kernel
theorem dX10_wayBetween_38 : decode cX10_wayBetween 38 = .ok (.if_icmp .gt 20, 3) := by decide +kernel
theorem dX10_wayBetween_41 : decode cX10_wayBetween 41 = .ok (.iload 4, 2) := by decide +kernel
theorem dX10_wayBetween_43 : decode cX10_wayBetween 43 = .ok (.aload_n 2, 1) := by decide +kernel
theorem dX10_wayBetween_44 : decode cX10_wayBetween 44 = .ok (.getfield 153, 3) := by decide +kernel
theorem dX10_wayBetween_47 : decode cX10_wayBetween 47 = .ok (.iadd, 1) := by decide +kernel
theorem dX10_wayBetween_48 : decode cX10_wayBetween 48 = .ok (.istore 4, 2) := by decide +kernel
theorem dX10_wayBetween_50 : decode cX10_wayBetween 50 = .ok (.aload_n 2, 1) := by decide +kernel
theorem dX10_wayBetween_51 : decode cX10_wayBetween 51 = .ok (.getfield 117, 3) := by decide +kernel
theorem dX10_wayBetween_54 : decode cX10_wayBetween 54 = .ok (.astore_n 2, 1) := by decide +kernel
theorem dX10_wayBetween_55 : decode cX10_wayBetween 55 = .ok (.goto 17, 3) := by decide +kernel
theorem dX10_wayBetween_58 : decode cX10_wayBetween 58 = .ok (.iload 4, 2) := by decide +kernel
theorem dX10_wayBetween_60 : decode cX10_wayBetween 60 = .ok (.aload_n 3, 1) := by decide +kernel
theorem dX10_wayBetween_61 : decode cX10_wayBetween 61 = .ok (.getfield 153, 3) := by decide +kernel
theorem dX10_wayBetween_64 : decode cX10_wayBetween 64 = .ok (.iadd, 1) := by decide +kernel
theorem dX10_wayBetween_65 : decode cX10_wayBetween 65 = .ok (.istore 4, 2) := by decide +kernel
theorem dX10_wayBetween_67 : decode cX10_wayBetween 67 = .ok (.aload_n 3, 1) := by decide +kernel
theorem dX10_wayBetween_68 : decode cX10_wayBetween 68 = .ok (.getfield 117, 3) := by decide +kernel
theorem dX10_wayBetween_71 : decode cX10_wayBetween 71 = .ok (.astore_n 3, 1) := by decide +kernel
theorem dX10_wayBetween_72 : decode cX10_wayBetween 72 = .ok (.iinc 5 1, 3) := by decide +kernel
theorem dX10_wayBetween_75 : decode cX10_wayBetween 75 = .ok (.goto (-65), 3) := by decide +kernel
theorem dX10_wayBetween_78 : decode cX10_wayBetween 78 = .ok (.iload 4, 2) := by decide +kernel
theorem dX10_wayBetween_80 : decode cX10_wayBetween 80 = .ok (.ireturn, 1) := by decide +kernel
theorem dX10_row_0 : decode cX10_row 0 = .ok (.aload_n 0, 1) := by decide +kernel
theorem dX10_row_1 : decode cX10_row 1 = .ok (.iload_n 1, 1) := by decide +kernel
theorem dX10_row_2 : decode cX10_row 2 = .ok (.invokevirtual 156, 3) := by decide +kernel
theorem dX10_row_5 : decode cX10_row 5 = .ok (.astore 4, 2) := by decide +kernel
theorem dX10_row_7 : decode cX10_row 7 = .ok (.aload 4, 2) := by decide +kernel
theorem dX10_row_9 : decode cX10_row 9 = .ok (.ifnonnull 9, 3) := by decide +kernel
theorem dX10_row_12 : decode cX10_row 12 = .ok (.aload_n 0, 1) := by decide +kernel
theorem dX10_row_13 : decode cX10_row 13 = .ok (.iconst (-1), 1) := by decide +kernel
theorem dX10_row_14 : decode cX10_row 14 = .ok (.invokevirtual 95, 3) := by decide +kernel
theorem dX10_row_17 : decode cX10_row 17 = .ok (.ireturn, 1) := by decide +kernel
theorem dX10_row_18 : decode cX10_row 18 = .ok (.iload_n 3, 1) := by decide +kernel
theorem dX10_row_19 : decode cX10_row 19 = .ok (.ifCond .ge 10, 3) := by decide +kernel
theorem dX10_row_22 : decode cX10_row 22 = .ok (.aload_n 0, 1) := by decide +kernel
theorem dX10_row_23 : decode cX10_row 23 = .ok (.bipush (-4), 2) := by decide +kernel
theorem dX10_row_25 : decode cX10_row 25 = .ok (.invokevirtual 95, 3) := by decide +kernel
theorem dX10_row_28 : decode cX10_row 28 = .ok (.ireturn, 1) := by decide +kernel
theorem dX10_row_29 : decode cX10_row 29 = .ok (.iload_n 2, 1) := by decide +kernel
theorem dX10_row_30 : decode cX10_row 30 = .ok (.iconst 0, 1) := by decide +kernel
theorem dX10_row_31 : decode cX10_row 31 = .ok (.iconst 3, 1) := by decide +kernel
theorem dX10_row_32 : decode cX10_row 32 = .ok (.invokestatic 99, 3) := by decide +kernel
theorem dX10_row_35 : decode cX10_row 35 = .ok (.ifCond .ne 10, 3) := by decide +kernel
theorem dX10_row_38 : decode cX10_row 38 = .ok (.aload_n 0, 1) := by decide +kernel
theorem dX10_row_39 : decode cX10_row 39 = .ok (.bipush (-6), 2) := by decide +kernel
theorem dX10_row_41 : decode cX10_row 41 = .ok (.invokevirtual 95, 3) := by decide +kernel
theorem dX10_row_44 : decode cX10_row 44 = .ok (.ireturn, 1) := by decide +kernel
theorem dX10_row_45 : decode cX10_row 45 = .ok (.iload_n 3, 1) := by decide +kernel
theorem dX10_row_46 : decode cX10_row 46 = .ok (.bipush 60, 2) := by decide +kernel
theorem dX10_row_48 : decode cX10_row 48 = .ok (.if_icmp .le 10, 3) := by decide +kernel
theorem dX10_row_51 : decode cX10_row 51 = .ok (.aload_n 0, 1) := by decide +kernel
theorem dX10_row_52 : decode cX10_row 52 = .ok (.bipush (-7), 2) := by decide +kernel
theorem dX10_row_54 : decode cX10_row 54 = .ok (.invokevirtual 95, 3) := by decide +kernel
theorem dX10_row_57 : decode cX10_row 57 = .ok (.ireturn, 1) := by decide +kernel
theorem dX10_row_58 : decode cX10_row 58 = .ok (.aload 4, 2) := by decide +kernel
theorem dX10_row_60 : decode cX10_row 60 = .ok (.iload_n 2, 1) := by decide +kernel
theorem dX10_row_61 : decode cX10_row 61 = .ok (.iload_n 3, 1) := by decide +kernel
theorem dX10_row_62 : decode cX10_row 62 = .ok (.invokevirtual 160, 3) := by decide +kernel
theorem dX10_row_65 : decode cX10_row 65 = .ok (.iconst 1, 1) := by decide +kernel
theorem dX10_row_66 : decode cX10_row 66 = .ok (.ireturn, 1) := by decide +kernel
theorem dX10_set_0 : decode cX10_set 0 = .ok (.aload_n 0, 1) := by decide +kernel
theorem dX10_set_1 : decode cX10_set 1 = .ok (.iload_n 1, 1) := by decide +kernel
theorem dX10_set_2 : decode cX10_set 2 = .ok (.invokevirtual 156, 3) := by decide +kernel
theorem dX10_set_5 : decode cX10_set 5 = .ok (.astore 5, 2) := by decide +kernel
theorem dX10_set_7 : decode cX10_set 7 = .ok (.aload 5, 2) := by decide +kernel
theorem dX10_set_9 : decode cX10_set 9 = .ok (.invokestatic 164, 3) := by decide +kernel
theorem dX10_set_12 : decode cX10_set 12 = .ok (.istore 6, 2) := by decide +kernel
theorem dX10_set_14 : decode cX10_set 14 = .ok (.aload 5, 2) := by decide +kernel
theorem dX10_set_16 : decode cX10_set 16 = .ok (.ifnull 8, 3) := by decide +kernel
theorem dX10_set_19 : decode cX10_set 19 = .ok (.iload 6, 2) := by decide +kernel
theorem dX10_set_21 : decode cX10_set 21 = .ok (.ifCond .eq 10, 3) := by decide +kernel
theorem dX10_set_24 : decode cX10_set 24 = .ok (.aload_n 0, 1) := by decide +kernel
theorem dX10_set_25 : decode cX10_set 25 = .ok (.iload 6, 2) := by decide +kernel
theorem dX10_set_27 : decode cX10_set 27 = .ok (.invokevirtual 95, 3) := by decide +kernel
theorem dX10_set_30 : decode cX10_set 30 = .ok (.ireturn, 1) := by decide +kernel
theorem dX10_set_31 : decode cX10_set 31 = .ok (.iload_n 2, 1) := by decide +kernel
theorem dX10_set_32 : decode cX10_set 32 = .ok (.iconst 0, 1) := by decide +kernel
theorem dX10_set_33 : decode cX10_set 33 = .ok (.aload 5, 2) := by decide +kernel
theorem dX10_set_35 : decode cX10_set 35 = .ok (.getfield 168, 3) := by decide +kernel
theorem dX10_set_38 : decode cX10_set 38 = .ok (.iconst 1, 1) := by decide +kernel
theorem dX10_set_39 : decode cX10_set 39 = .ok (.isub, 1) := by decide +kernel
theorem dX10_set_40 : decode cX10_set 40 = .ok (.invokestatic 99, 3) := by decide +kernel
theorem dX10_set_43 : decode cX10_set 43 = .ok (.ifCond .ne 10, 3) := by decide +kernel
theorem dX10_set_46 : decode cX10_set 46 = .ok (.aload_n 0, 1) := by decide +kernel
theorem dX10_set_47 : decode cX10_set 47 = .ok (.bipush (-5), 2) := by decide +kernel
theorem dX10_set_49 : decode cX10_set 49 = .ok (.invokevirtual 95, 3) := by decide +kernel
theorem dX10_set_52 : decode cX10_set 52 = .ok (.ireturn, 1) := by decide +kernel
theorem dX10_set_53 : decode cX10_set 53 = .ok (.aload 5, 2) := by decide +kernel
theorem dX10_set_55 : decode cX10_set 55 = .ok (.getfield 171, 3) := by decide +kernel
theorem dX10_set_58 : decode cX10_set 58 = .ok (.iload_n 2, 1) := by decide +kernel
theorem dX10_set_59 : decode cX10_set 59 = .ok (.aload 5, 2) := by decide +kernel
theorem dX10_set_61 : decode cX10_set 61 = .ok (.getfield 175, 3) := by decide +kernel
theorem dX10_set_64 : decode cX10_set 64 = .ok (.lload_n 3, 1) := by decide +kernel
theorem dX10_set_65 : decode cX10_set 65 = .ok (.invokestatic 178, 3) := by decide +kernel
theorem dX10_set_68 : decode cX10_set 68 = .ok (.lastore, 1) := by decide +kernel
theorem dX10_set_69 : decode cX10_set 69 = .ok (.iconst 1, 1) := by decide +kernel
theorem dX10_set_70 : decode cX10_set 70 = .ok (.ireturn, 1) := by decide +kernel
theorem dX10_copy_0 : decode cX10_copy 0 = .ok (.aload_n 0, 1) := by decide +kernel
theorem dX10_copy_1 : decode cX10_copy 1 = .ok (.iload_n 1, 1) := by decide +kernel
theorem dX10_copy_2 : decode cX10_copy 2 = .ok (.invokevirtual 156, 3) := by decide +kernel
theorem dX10_copy_5 : decode cX10_copy 5 = .ok (.astore 6, 2) := by decide +kernel
theorem dX10_copy_7 : decode cX10_copy 7 = .ok (.aload_n 0, 1) := by decide +kernel
theorem dX10_copy_8 : decode cX10_copy 8 = .ok (.iload_n 2, 1) := by decide +kernel
theorem dX10_copy_9 : decode cX10_copy 9 = .ok (.invokevirtual 156, 3) := by decide +kernel
theorem dX10_copy_12 : decode cX10_copy 12 = .ok (.astore 7, 2) := by decide +kernel
theorem dX10_copy_14 : decode cX10_copy 14 = .ok (.aload 6, 2) := by decide +kernel
theorem dX10_copy_16 : decode cX10_copy 16 = .ok (.ifnull 8, 3) := by decide +kernel
theorem dX10_copy_19 : decode cX10_copy 19 = .ok (.aload 7, 2) := by decide +kernel
theorem dX10_copy_21 : decode cX10_copy 21 = .ok (.ifnonnull 9, 3) := by decide +kernel
theorem dX10_copy_24 : decode cX10_copy 24 = .ok (.aload_n 0, 1) := by decide +kernel
theorem dX10_copy_25 : decode cX10_copy 25 = .ok (.iconst (-1), 1) := by decide +kernel
theorem dX10_copy_26 : decode cX10_copy 26 = .ok (.invokevirtual 95, 3) := by decide +kernel
theorem dX10_copy_29 : decode cX10_copy 29 = .ok (.ireturn, 1) := by decide +kernel
theorem dX10_copy_30 : decode cX10_copy 30 = .ok (.aload 6, 2) := by decide +kernel
theorem dX10_copy_32 : decode cX10_copy 32 = .ok (.getfield 182, 3) := by decide +kernel
theorem dX10_copy_35 : decode cX10_copy 35 = .ok (.ifnonnull 11, 3) := by decide +kernel
theorem dX10_copy_38 : decode cX10_copy 38 = .ok (.aload 7, 2) := by decide +kernel
theorem dX10_copy_40 : decode cX10_copy 40 = .ok (.getfield 182, 3) := by decide +kernel
theorem dX10_copy_43 : decode cX10_copy 43 = .ok (.ifnull 10, 3) := by decide +kernel
theorem dX10_copy_46 : decode cX10_copy 46 = .ok (.aload_n 0, 1) := by decide +kernel
theorem dX10_copy_47 : decode cX10_copy 47 = .ok (.bipush (-2), 2) := by decide +kernel
theorem dX10_copy_49 : decode cX10_copy 49 = .ok (.invokevirtual 95, 3) := by decide +kernel
theorem dX10_copy_52 : decode cX10_copy 52 = .ok (.ireturn, 1) := by decide +kernel
theorem dX10_copy_53 : decode cX10_copy 53 = .ok (.aload 6, 2) := by decide +kernel
theorem dX10_copy_55 : decode cX10_copy 55 = .ok (.invokevirtual 186, 3) := by decide +kernel
theorem dX10_copy_58 : decode cX10_copy 58 = .ok (.ifCond .eq 31, 3) := by decide +kernel
theorem dX10_copy_61 : decode cX10_copy 61 = .ok (.aload 7, 2) := by decide +kernel
theorem dX10_copy_63 : decode cX10_copy 63 = .ok (.invokevirtual 186, 3) := by decide +kernel
theorem dX10_copy_66 : decode cX10_copy 66 = .ok (.ifCond .eq 23, 3) := by decide +kernel
theorem dX10_copy_69 : decode cX10_copy 69 = .ok (.aload 6, 2) := by decide +kernel
theorem dX10_copy_71 : decode cX10_copy 71 = .ok (.getfield 175, 3) := by decide +kernel
theorem dX10_copy_74 : decode cX10_copy 74 = .ok (.aload 7, 2) := by decide +kernel
theorem dX10_copy_76 : decode cX10_copy 76 = .ok (.getfield 175, 3) := by decide +kernel
theorem dX10_copy_79 : decode cX10_copy 79 = .ok (.if_icmp .eq 10, 3) := by decide +kernel
theorem dX10_copy_82 : decode cX10_copy 82 = .ok (.aload_n 0, 1) := by decide +kernel
theorem dX10_copy_83 : decode cX10_copy 83 = .ok (.bipush (-2), 2) := by decide +kernel
theorem dX10_copy_85 : decode cX10_copy 85 = .ok (.invokevirtual 95, 3) := by decide +kernel
theorem dX10_copy_88 : decode cX10_copy 88 = .ok (.ireturn, 1) := by decide +kernel
theorem dX10_copy_89 : decode cX10_copy 89 = .ok (.aload 6, 2) := by decide +kernel
theorem dX10_copy_91 : decode cX10_copy 91 = .ok (.invokevirtual 186, 3) := by decide +kernel
theorem dX10_copy_94 : decode cX10_copy 94 = .ok (.ifCond .eq 11, 3) := by decide +kernel
theorem dX10_copy_97 : decode cX10_copy 97 = .ok (.aload 7, 2) := by decide +kernel
theorem dX10_copy_99 : decode cX10_copy 99 = .ok (.invokevirtual 186, 3) := by decide +kernel
theorem dX10_copy_102 : decode cX10_copy 102 = .ok (.ifCond .ne 10, 3) := by decide +kernel
theorem dX10_copy_105 : decode cX10_copy 105 = .ok (.aload_n 0, 1) := by decide +kernel
theorem dX10_copy_106 : decode cX10_copy 106 = .ok (.bipush (-3), 2) := by decide +kernel
theorem dX10_copy_108 : decode cX10_copy 108 = .ok (.invokevirtual 95, 3) := by decide +kernel
theorem dX10_copy_111 : decode cX10_copy 111 = .ok (.ireturn, 1) := by decide +kernel
theorem dX10_copy_112 : decode cX10_copy 112 = .ok (.iload 5, 2) := by decide +kernel
theorem dX10_copy_114 : decode cX10_copy 114 = .ok (.ifCond .ge 10, 3) := by decide +kernel
theorem dX10_copy_117 : decode cX10_copy 117 = .ok (.aload_n 0, 1) := by decide +kernel
theorem dX10_copy_118 : decode cX10_copy 118 = .ok (.bipush (-4), 2) := by decide +kernel
theorem dX10_copy_120 : decode cX10_copy 120 = .ok (.invokevirtual 95, 3) := by decide +kernel
theorem dX10_copy_123 : decode cX10_copy 123 = .ok (.ireturn, 1) := by decide +kernel
theorem dX10_copy_124 : decode cX10_copy 124 = .ok (.iload_n 3, 1) := by decide +kernel
theorem dX10_copy_125 : decode cX10_copy 125 = .ok (.iconst 0, 1) := by decide +kernel
theorem dX10_copy_126 : decode cX10_copy 126 = .ok (.aload 6, 2) := by decide +kernel
theorem dX10_copy_128 : decode cX10_copy 128 = .ok (.getfield 168, 3) := by decide +kernel
theorem dX10_copy_131 : decode cX10_copy 131 = .ok (.iload 5, 2) := by decide +kernel
theorem dX10_copy_133 : decode cX10_copy 133 = .ok (.isub, 1) := by decide +kernel
theorem dX10_copy_134 : decode cX10_copy 134 = .ok (.invokestatic 99, 3) := by decide +kernel
theorem dX10_copy_137 : decode cX10_copy 137 = .ok (.ifCond .eq 20, 3) := by decide +kernel
theorem dX10_copy_140 : decode cX10_copy 140 = .ok (.iload 4, 2) := by decide +kernel
theorem dX10_copy_142 : decode cX10_copy 142 = .ok (.iconst 0, 1) := by decide +kernel
theorem dX10_copy_143 : decode cX10_copy 143 = .ok (.aload 7, 2) := by decide +kernel
theorem dX10_copy_145 : decode cX10_copy 145 = .ok (.getfield 168, 3) := by decide +kernel
theorem dX10_copy_148 : decode cX10_copy 148 = .ok (.iload 5, 2) := by decide +kernel
theorem dX10_copy_150 : decode cX10_copy 150 = .ok (.isub, 1) := by decide +kernel
theorem dX10_copy_151 : decode cX10_copy 151 = .ok (.invokestatic 99, 3) := by decide +kernel
theorem dX10_copy_154 : decode cX10_copy 154 = .ok (.ifCond .ne 10, 3) := by decide +kernel
theorem dX10_copy_157 : decode cX10_copy 157 = .ok (.aload_n 0, 1) := by decide +kernel
theorem dX10_copy_158 : decode cX10_copy 158 = .ok (.bipush (-5), 2) := by decide +kernel
theorem dX10_copy_160 : decode cX10_copy 160 = .ok (.invokevirtual 95, 3) := by decide +kernel
theorem dX10_copy_163 : decode cX10_copy 163 = .ok (.ireturn, 1) := by decide +kernel
theorem dX10_copy_164 : decode cX10_copy 164 = .ok (.aload 6, 2) := by decide +kernel
theorem dX10_copy_166 : decode cX10_copy 166 = .ok (.getfield 171, 3) := by decide +kernel
theorem dX10_copy_169 : decode cX10_copy 169 = .ok (.iload_n 3, 1) := by decide +kernel
theorem dX10_copy_170 : decode cX10_copy 170 = .ok (.aload 7, 2) := by decide +kernel
theorem dX10_copy_172 : decode cX10_copy 172 = .ok (.getfield 171, 3) := by decide +kernel
theorem dX10_copy_175 : decode cX10_copy 175 = .ok (.iload 4, 2) := by decide +kernel
theorem dX10_copy_177 : decode cX10_copy 177 = .ok (.iload 5, 2) := by decide +kernel
theorem dX10_copy_179 : decode cX10_copy 179 = .ok (.invokestatic 190, 3) := by decide +kernel
theorem dX10_copy_182 : decode cX10_copy 182 = .ok (.iconst 1, 1) := by decide +kernel
theorem dX10_copy_183 : decode cX10_copy 183 = .ok (.ireturn, 1) := by decide +kernel
theorem dX10_element_0 : decode cX10_element 0 = .ok (.aload_n 0, 1) := by decide +kernel
theorem dX10_element_1 : decode cX10_element 1 = .ok (.iload_n 1, 1) := by decide +kernel
theorem dX10_element_2 : decode cX10_element 2 = .ok (.invokevirtual 156, 3) := by decide +kernel
theorem dX10_element_5 : decode cX10_element 5 = .ok (.astore_n 3, 1) := by decide +kernel
theorem dX10_element_6 : decode cX10_element 6 = .ok (.aload_n 3, 1) := by decide +kernel
theorem dX10_element_7 : decode cX10_element 7 = .ok (.ifnull 24, 3) := by decide +kernel
theorem dX10_element_10 : decode cX10_element 10 = .ok (.aload_n 3, 1) := by decide +kernel
theorem dX10_element_11 : decode cX10_element 11 = .ok (.invokevirtual 186, 3) := by decide +kernel
theorem dX10_element_14 : decode cX10_element 14 = .ok (.ifCond .eq 17, 3) := by decide +kernel
theorem dX10_element_17 : decode cX10_element 17 = .ok (.iload_n 2, 1) := by decide +kernel
theorem dX10_element_18 : decode cX10_element 18 = .ok (.iconst 0, 1) := by decide +kernel
theorem dX10_element_19 : decode cX10_element 19 = .ok (.aload_n 3, 1) := by decide +kernel
theorem dX10_element_20 : decode cX10_element 20 = .ok (.getfield 168, 3) := by decide +kernel
theorem dX10_element_23 : decode cX10_element 23 = .ok (.iconst 1, 1) := by decide +kernel
theorem dX10_element_24 : decode cX10_element 24 = .ok (.isub, 1) := by decide +kernel
theorem dX10_element_25 : decode cX10_element 25 = .ok (.invokestatic 99, 3) := by decide +kernel
theorem dX10_element_28 : decode cX10_element 28 = .ok (.ifCond .ne 5, 3) := by decide +kernel
theorem dX10_element_31 : decode cX10_element 31 = .ok (.lconst 0, 1) := by decide +kernel
theorem dX10_element_32 : decode cX10_element 32 = .ok (.lreturn, 1) := by decide +kernel
theorem dX10_element_33 : decode cX10_element 33 = .ok (.aload_n 3, 1) := by decide +kernel
theorem dX10_element_34 : decode cX10_element 34 = .ok (.getfield 171, 3) := by decide +kernel
theorem dX10_element_37 : decode cX10_element 37 = .ok (.iload_n 2, 1) := by decide +kernel
theorem dX10_element_38 : decode cX10_element 38 = .ok (.laload, 1) := by decide +kernel
theorem dX10_element_39 : decode cX10_element 39 = .ok (.lreturn, 1) := by decide +kernel
theorem dX10_show_0 : decode cX10_show 0 = .ok (.aload_n 0, 1) := by decide +kernel
theorem dX10_show_1 : decode cX10_show 1 = .ok (.iload_n 1, 1) := by decide +kernel
theorem dX10_show_2 : decode cX10_show 2 = .ok (.invokevirtual 156, 3) := by decide +kernel
theorem dX10_show_5 : decode cX10_show 5 = .ok (.astore_n 3, 1) := by decide +kernel
theorem dX10_show_6 : decode cX10_show 6 = .ok (.aload_n 0, 1) := by decide +kernel
theorem dX10_show_7 : decode cX10_show 7 = .ok (.iload_n 2, 1) := by decide +kernel
theorem dX10_show_8 : decode cX10_show 8 = .ok (.invokevirtual 196, 3) := by decide +kernel
theorem dX10_show_11 : decode cX10_show 11 = .ok (.astore 4, 2) := by decide +kernel
theorem dX10_show_13 : decode cX10_show 13 = .ok (.aload_n 3, 1) := by decide +kernel
theorem dX10_show_14 : decode cX10_show 14 = .ok (.ifnull 13, 3) := by decide +kernel
theorem dX10_show_17 : decode cX10_show 17 = .ok (.aload 4, 2) := by decide +kernel
theorem dX10_show_19 : decode cX10_show 19 = .ok (.ifnonnull 14, 3) := by decide +kernel
theorem dX10_show_22 : decode cX10_show 22 = .ok (.iload_n 2, 1) := by decide +kernel
theorem dX10_show_23 : decode cX10_show 23 = .ok (.iconst (-1), 1) := by decide +kernel
theorem dX10_show_24 : decode cX10_show 24 = .ok (.if_icmp .eq 9, 3) := by decide +kernel
theorem dX10_show_27 : decode cX10_show 27 = .ok (.aload_n 0, 1) := by decide +kernel
theorem dX10_show_28 : decode cX10_show 28 = .ok (.iconst (-1), 1) := by decide +kernel
theorem dX10_show_29 : decode cX10_show 29 = .ok (.invokevirtual 95, 3) := by decide +kernel
theorem dX10_show_32 : decode cX10_show 32 = .ok (.ireturn, 1) := by decide +kernel
theorem dX10_show_33 : decode cX10_show 33 = .ok (.aload_n 3, 1) := by decide +kernel
theorem dX10_show_34 : decode cX10_show 34 = .ok (.aload 4, 2) := by decide +kernel
theorem dX10_show_36 : decode cX10_show 36 = .ok (.invokevirtual 200, 3) := by decide +kernel
theorem dX10_show_39 : decode cX10_show 39 = .ok (.aload 4, 2) := by decide +kernel
theorem dX10_show_41 : decode cX10_show 41 = .ok (.ifnull 7, 3) := by decide +kernel
theorem dX10_show_44 : decode cX10_show 44 = .ok (.iconst 1, 1) := by decide +kernel
theorem dX10_show_45 : decode cX10_show 45 = .ok (.goto 4, 3) := by decide +kernel
theorem dX10_show_48 : decode cX10_show 48 = .ok (.iconst 0, 1) := by decide +kernel
theorem dX10_show_49 : decode cX10_show 49 = .ok (.invokestatic 138, 3) := by decide +kernel
theorem dX10_show_52 : decode cX10_show 52 = .ok (.ireturn, 1) := by decide +kernel
theorem dX10_holds_0 : decode cX10_holds 0 = .ok (.aload_n 0, 1) := by decide +kernel
theorem dX10_holds_1 : decode cX10_holds 1 = .ok (.iload_n 1, 1) := by decide +kernel
theorem dX10_holds_2 : decode cX10_holds 2 = .ok (.invokevirtual 156, 3) := by decide +kernel
theorem dX10_holds_5 : decode cX10_holds 5 = .ok (.astore_n 2, 1) := by decide +kernel
theorem dX10_holds_6 : decode cX10_holds 6 = .ok (.aload_n 2, 1) := by decide +kernel
theorem dX10_holds_7 : decode cX10_holds 7 = .ok (.ifnonnull 5, 3) := by decide +kernel
theorem dX10_holds_10 : decode cX10_holds 10 = .ok (.iconst (-1), 1) := by decide +kernel
theorem dX10_holds_11 : decode cX10_holds 11 = .ok (.ireturn, 1) := by decide +kernel
theorem dX10_holds_12 : decode cX10_holds 12 = .ok (.aload_n 2, 1) := by decide +kernel
theorem dX10_holds_13 : decode cX10_holds 13 = .ok (.getfield 182, 3) := by decide +kernel
theorem dX10_holds_16 : decode cX10_holds 16 = .ok (.ifnull 11, 3) := by decide +kernel
theorem dX10_holds_19 : decode cX10_holds 19 = .ok (.aload_n 2, 1) := by decide +kernel
theorem dX10_holds_20 : decode cX10_holds 20 = .ok (.getfield 182, 3) := by decide +kernel
theorem dX10_holds_23 : decode cX10_holds 23 = .ok (.getfield 204, 3) := by decide +kernel
theorem dX10_holds_26 : decode cX10_holds 26 = .ok (.ireturn, 1) := by decide +kernel
theorem dX10_holds_27 : decode cX10_holds 27 = .ok (.aload_n 2, 1) := by decide +kernel
theorem dX10_holds_28 : decode cX10_holds 28 = .ok (.invokevirtual 186, 3) := by decide +kernel
theorem dX10_holds_31 : decode cX10_holds 31 = .ok (.ifCond .eq 14, 3) := by decide +kernel
theorem dX10_holds_34 : decode cX10_holds 34 = .ok (.sipush 1000, 3) := by decide +kernel
theorem dX10_holds_37 : decode cX10_holds 37 = .ok (.aload_n 2, 1) := by decide +kernel
theorem dX10_holds_38 : decode cX10_holds 38 = .ok (.getfield 175, 3) := by decide +kernel
theorem dX10_holds_41 : decode cX10_holds 41 = .ok (.iadd, 1) := by decide +kernel
theorem dX10_holds_42 : decode cX10_holds 42 = .ok (.goto 4, 3) := by decide +kernel
theorem dX10_holds_45 : decode cX10_holds 45 = .ok (.iconst (-1), 1) := by decide +kernel
theorem dX10_holds_46 : decode cX10_holds 46 = .ok (.ireturn, 1) := by decide +kernel
theorem dX10_says_0 : decode cX10_says 0 = .ok (.aload_n 0, 1) := by decide +kernel
theorem dX10_says_1 : decode cX10_says 1 = .ok (.iload_n 1, 1) := by decide +kernel
theorem dX10_says_2 : decode cX10_says 2 = .ok (.invokevirtual 156, 3) := by decide +kernel
theorem dX10_says_5 : decode cX10_says 5 = .ok (.astore_n 3, 1) := by decide +kernel
theorem dX10_says_6 : decode cX10_says 6 = .ok (.aload_n 3, 1) := by decide +kernel
theorem dX10_says_7 : decode cX10_says 7 = .ok (.ifnull 12, 3) := by decide +kernel
theorem dX10_says_10 : decode cX10_says 10 = .ok (.iload_n 2, 1) := by decide +kernel
theorem dX10_says_11 : decode cX10_says 11 = .ok (.iconst 0, 1) := by decide +kernel
theorem dX10_says_12 : decode cX10_says 12 = .ok (.iconst 3, 1) := by decide +kernel
theorem dX10_says_13 : decode cX10_says 13 = .ok (.invokestatic 99, 3) := by decide +kernel
theorem dX10_says_16 : decode cX10_says 16 = .ok (.ifCond .ne 9, 3) := by decide +kernel
theorem dX10_says_19 : decode cX10_says 19 = .ok (.aload_n 0, 1) := by decide +kernel
theorem dX10_says_20 : decode cX10_says 20 = .ok (.iconst (-1), 1) := by decide +kernel
theorem dX10_says_21 : decode cX10_says 21 = .ok (.invokevirtual 95, 3) := by decide +kernel
theorem dX10_says_24 : decode cX10_says 24 = .ok (.ireturn, 1) := by decide +kernel
theorem dX10_says_25 : decode cX10_says 25 = .ok (.aload_n 3, 1) := by decide +kernel
theorem dX10_says_26 : decode cX10_says 26 = .ok (.invokevirtual 186, 3) := by decide +kernel
theorem dX10_says_29 : decode cX10_says 29 = .ok (.ifCond .eq 10, 3) := by decide +kernel
theorem dX10_says_32 : decode cX10_says 32 = .ok (.aload_n 0, 1) := by decide +kernel
theorem dX10_says_33 : decode cX10_says 33 = .ok (.bipush (-2), 2) := by decide +kernel
theorem dX10_says_35 : decode cX10_says 35 = .ok (.invokevirtual 95, 3) := by decide +kernel
theorem dX10_says_38 : decode cX10_says 38 = .ok (.ireturn, 1) := by decide +kernel
theorem dX10_says_39 : decode cX10_says 39 = .ok (.aload_n 3, 1) := by decide +kernel
theorem dX10_says_40 : decode cX10_says 40 = .ok (.getfield 182, 3) := by decide +kernel
theorem dX10_says_43 : decode cX10_says 43 = .ok (.astore 4, 2) := by decide +kernel
theorem dX10_says_45 : decode cX10_says 45 = .ok (.aload 4, 2) := by decide +kernel
theorem dX10_says_47 : decode cX10_says 47 = .ok (.ifnonnull 10, 3) := by decide +kernel
theorem dX10_says_50 : decode cX10_says 50 = .ok (.aload_n 0, 1) := by decide +kernel
theorem dX10_says_51 : decode cX10_says 51 = .ok (.bipush (-3), 2) := by decide +kernel
theorem dX10_says_53 : decode cX10_says 53 = .ok (.invokevirtual 95, 3) := by decide +kernel
theorem dX10_says_56 : decode cX10_says 56 = .ok (.ireturn, 1) := by decide +kernel
theorem dX10_says_57 : decode cX10_says 57 = .ok (.aload 4, 2) := by decide +kernel
theorem dX10_says_59 : decode cX10_says 59 = .ok (.iload_n 2, 1) := by decide +kernel
theorem dX10_says_60 : decode cX10_says 60 = .ok (.invokevirtual 205, 3) := by decide +kernel
theorem dX10_says_63 : decode cX10_says 63 = .ok (.ifCond .ne 10, 3) := by decide +kernel
theorem dX10_says_66 : decode cX10_says 66 = .ok (.aload_n 0, 1) := by decide +kernel
theorem dX10_says_67 : decode cX10_says 67 = .ok (.bipush (-2), 2) := by decide +kernel
theorem dX10_says_69 : decode cX10_says 69 = .ok (.invokevirtual 95, 3) := by decide +kernel
theorem dX10_says_72 : decode cX10_says 72 = .ok (.ireturn, 1) := by decide +kernel
theorem dX10_says_73 : decode cX10_says 73 = .ok (.iload_n 2, 1) := by decide +kernel
theorem dX10_says_74 : decode cX10_says 74 = .ok (.tableswitch 47 1 3 #[26, 32, 38], 26) := by decide +kernel
theorem dX10_says_100 : decode cX10_says 100 = .ok (.aload 4, 2) := by decide +kernel
theorem dX10_says_102 : decode cX10_says 102 = .ok (.getfield 209, 3) := by decide +kernel
theorem dX10_says_105 : decode cX10_says 105 = .ok (.ireturn, 1) := by decide +kernel
theorem dX10_says_106 : decode cX10_says 106 = .ok (.aload 4, 2) := by decide +kernel
theorem dX10_says_108 : decode cX10_says 108 = .ok (.invokevirtual 212, 3) := by decide +kernel
theorem dX10_says_111 : decode cX10_says 111 = .ok (.ireturn, 1) := by decide +kernel
theorem dX10_says_112 : decode cX10_says 112 = .ok (.bipush 100, 2) := by decide +kernel
theorem dX10_says_114 : decode cX10_says 114 = .ok (.aload 4, 2) := by decide +kernel
theorem dX10_says_116 : decode cX10_says 116 = .ok (.invokevirtual 212, 3) := by decide +kernel
theorem dX10_says_119 : decode cX10_says 119 = .ok (.iadd, 1) := by decide +kernel
theorem dX10_says_120 : decode cX10_says 120 = .ok (.ireturn, 1) := by decide +kernel
theorem dX10_says_121 : decode cX10_says 121 = .ok (.aload 4, 2) := by decide +kernel
theorem dX10_says_123 : decode cX10_says 123 = .ok (.getfield 216, 3) := by decide +kernel
theorem dX10_says_126 : decode cX10_says 126 = .ok (.ireturn, 1) := by decide +kernel
theorem dX10_rowTrouble_0 : decode cX10_rowTrouble 0 = .ok (.aload_n 0, 1) := by decide +kernel
theorem dX10_rowTrouble_1 : decode cX10_rowTrouble 1 = .ok (.ifnonnull 5, 3) := by decide +kernel
theorem dX10_rowTrouble_4 : decode cX10_rowTrouble 4 = .ok (.iconst (-1), 1) := by decide +kernel
theorem dX10_rowTrouble_5 : decode cX10_rowTrouble 5 = .ok (.ireturn, 1) := by decide +kernel
theorem dX10_rowTrouble_6 : decode cX10_rowTrouble 6 = .ok (.aload_n 0, 1) := by decide +kernel
theorem dX10_rowTrouble_7 : decode cX10_rowTrouble 7 = .ok (.getfield 182, 3) := by decide +kernel
theorem dX10_rowTrouble_10 : decode cX10_rowTrouble 10 = .ok (.ifnull 6, 3) := by decide +kernel
theorem dX10_rowTrouble_13 : decode cX10_rowTrouble 13 = .ok (.bipush (-2), 2) := by decide +kernel
theorem dX10_rowTrouble_15 : decode cX10_rowTrouble 15 = .ok (.ireturn, 1) := by decide +kernel
theorem dX10_rowTrouble_16 : decode cX10_rowTrouble 16 = .ok (.aload_n 0, 1) := by decide +kernel
theorem dX10_rowTrouble_17 : decode cX10_rowTrouble 17 = .ok (.invokevirtual 186, 3) := by decide +kernel
theorem dX10_rowTrouble_20 : decode cX10_rowTrouble 20 = .ok (.ifCond .eq 7, 3) := by decide +kernel
theorem dX10_rowTrouble_23 : decode cX10_rowTrouble 23 = .ok (.iconst 0, 1) := by decide +kernel
theorem dX10_rowTrouble_24 : decode cX10_rowTrouble 24 = .ok (.goto 5, 3) := by decide +kernel
theorem dX10_rowTrouble_27 : decode cX10_rowTrouble 27 = .ok (.bipush (-3), 2) := by decide +kernel
theorem dX10_rowTrouble_29 : decode cX10_rowTrouble 29 = .ok (.ireturn, 1) := by decide +kernel
theorem dX10_narrowed_0 : decode cX10_narrowed 0 = .ok (.iload_n 0, 1) := by decide +kernel
theorem dX10_narrowed_1 : decode cX10_narrowed 1 = .ok (.tableswitch 41 0 2 #[27, 32, 37], 27) := by decide +kernel
theorem dX10_narrowed_28 : decode cX10_narrowed 28 = .ok (.lload_n 1, 1) := by decide +kernel
theorem dX10_narrowed_29 : decode cX10_narrowed 29 = .ok (.l2i, 1) := by decide +kernel
theorem dX10_narrowed_30 : decode cX10_narrowed 30 = .ok (.i2b, 1) := by decide +kernel
theorem dX10_narrowed_31 : decode cX10_narrowed 31 = .ok (.i2l, 1) := by decide +kernel
theorem dX10_narrowed_32 : decode cX10_narrowed 32 = .ok (.lreturn, 1) := by decide +kernel
theorem dX10_narrowed_33 : decode cX10_narrowed 33 = .ok (.lload_n 1, 1) := by decide +kernel
theorem dX10_narrowed_34 : decode cX10_narrowed 34 = .ok (.l2i, 1) := by decide +kernel
theorem dX10_narrowed_35 : decode cX10_narrowed 35 = .ok (.i2s, 1) := by decide +kernel
theorem dX10_narrowed_36 : decode cX10_narrowed 36 = .ok (.i2l, 1) := by decide +kernel
theorem dX10_narrowed_37 : decode cX10_narrowed 37 = .ok (.lreturn, 1) := by decide +kernel
theorem dX10_narrowed_38 : decode cX10_narrowed 38 = .ok (.lload_n 1, 1) := by decide +kernel
theorem dX10_narrowed_39 : decode cX10_narrowed 39 = .ok (.l2i, 1) := by decide +kernel
theorem dX10_narrowed_40 : decode cX10_narrowed 40 = .ok (.i2l, 1) := by decide +kernel
theorem dX10_narrowed_41 : decode cX10_narrowed 41 = .ok (.lreturn, 1) := by decide +kernel
theorem dX10_narrowed_42 : decode cX10_narrowed 42 = .ok (.lload_n 1, 1) := by decide +kernel
theorem dX10_narrowed_43 : decode cX10_narrowed 43 = .ok (.lreturn, 1) := by decide +kernel
theorem dX10_model_0 : decode cX10_model 0 = .ok (.aload_n 0, 1) := by decide +kernel
theorem dX10_model_1 : decode cX10_model 1 = .ok (.iload_n 2, 1) := by decide +kernel
theorem dX10_model_2 : decode cX10_model 2 = .ok (.invokevirtual 156, 3) := by decide +kernel
theorem dX10_model_5 : decode cX10_model 5 = .ok (.astore 4, 2) := by decide +kernel
theorem dX10_model_7 : decode cX10_model 7 = .ok (.aload_n 0, 1) := by decide +kernel
theorem dX10_model_8 : decode cX10_model 8 = .ok (.iload_n 3, 1) := by decide +kernel
theorem dX10_model_9 : decode cX10_model 9 = .ok (.invokevirtual 91, 3) := by decide +kernel
theorem dX10_model_12 : decode cX10_model 12 = .ok (.astore 5, 2) := by decide +kernel
theorem dX10_model_14 : decode cX10_model 14 = .ok (.aload 4, 2) := by decide +kernel
theorem dX10_model_16 : decode cX10_model 16 = .ok (.ifnull 8, 3) := by decide +kernel
theorem dX10_model_19 : decode cX10_model 19 = .ok (.aload 5, 2) := by decide +kernel
theorem dX10_model_21 : decode cX10_model 21 = .ok (.ifnonnull 9, 3) := by decide +kernel
theorem dX10_model_24 : decode cX10_model 24 = .ok (.aload_n 0, 1) := by decide +kernel
theorem dX10_model_25 : decode cX10_model 25 = .ok (.iconst (-1), 1) := by decide +kernel
theorem dX10_model_26 : decode cX10_model 26 = .ok (.invokevirtual 95, 3) := by decide +kernel
theorem dX10_model_29 : decode cX10_model 29 = .ok (.ireturn, 1) := by decide +kernel
theorem dX10_model_30 : decode cX10_model 30 = .ok (.aload 4, 2) := by decide +kernel
theorem dX10_model_32 : decode cX10_model 32 = .ok (.invokestatic 164, 3) := by decide +kernel
theorem dX10_model_35 : decode cX10_model 35 = .ok (.istore 6, 2) := by decide +kernel
theorem dX10_model_37 : decode cX10_model 37 = .ok (.iload 6, 2) := by decide +kernel
theorem dX10_model_39 : decode cX10_model 39 = .ok (.ifCond .eq 10, 3) := by decide +kernel
theorem dX10_model_42 : decode cX10_model 42 = .ok (.aload_n 0, 1) := by decide +kernel
theorem dX10_model_43 : decode cX10_model 43 = .ok (.iload 6, 2) := by decide +kernel
theorem dX10_model_45 : decode cX10_model 45 = .ok (.invokevirtual 95, 3) := by decide +kernel
theorem dX10_model_48 : decode cX10_model 48 = .ok (.ireturn, 1) := by decide +kernel
theorem dX10_model_49 : decode cX10_model 49 = .ok (.iload_n 1, 1) := by decide +kernel
theorem dX10_model_50 : decode cX10_model 50 = .ok (.iconst 0, 1) := by decide +kernel
theorem dX10_model_51 : decode cX10_model 51 = .ok (.bipush 15, 2) := by decide +kernel
theorem dX10_model_53 : decode cX10_model 53 = .ok (.invokestatic 99, 3) := by decide +kernel
theorem dX10_model_56 : decode cX10_model 56 = .ok (.ifCond .eq 13, 3) := by decide +kernel
theorem dX10_model_59 : decode cX10_model 59 = .ok (.aload 4, 2) := by decide +kernel
theorem dX10_model_61 : decode cX10_model 61 = .ok (.getfield 168, 3) := by decide +kernel
theorem dX10_model_64 : decode cX10_model 64 = .ok (.bipush 20, 2) := by decide +kernel
theorem dX10_model_66 : decode cX10_model 66 = .ok (.if_icmp .le 10, 3) := by decide +kernel
theorem dX10_model_69 : decode cX10_model 69 = .ok (.aload_n 0, 1) := by decide +kernel
theorem dX10_model_70 : decode cX10_model 70 = .ok (.bipush (-6), 2) := by decide +kernel
theorem dX10_model_72 : decode cX10_model 72 = .ok (.invokevirtual 95, 3) := by decide +kernel
theorem dX10_model_75 : decode cX10_model 75 = .ok (.ireturn, 1) := by decide +kernel
theorem dX10_model_76 : decode cX10_model 76 = .ok (.aload_n 0, 1) := by decide +kernel
theorem dX10_model_77 : decode cX10_model 77 = .ok (.getfield 219, 3) := by decide +kernel
theorem dX10_model_80 : decode cX10_model 80 = .ok (.bipush 8, 2) := by decide +kernel
theorem dX10_model_82 : decode cX10_model 82 = .ok (.if_icmp .lt 10, 3) := by decide +kernel
theorem dX10_model_85 : decode cX10_model 85 = .ok (.aload_n 0, 1) := by decide +kernel
theorem dX10_model_86 : decode cX10_model 86 = .ok (.bipush (-7), 2) := by decide +kernel
theorem dX10_model_88 : decode cX10_model 88 = .ok (.invokevirtual 95, 3) := by decide +kernel
theorem dX10_model_91 : decode cX10_model 91 = .ok (.ireturn, 1) := by decide +kernel
theorem dX10_model_92 : decode cX10_model 92 = .ok (.aload_n 0, 1) := by decide +kernel
theorem dX10_model_93 : decode cX10_model 93 = .ok (.getfield 219, 3) := by decide +kernel
theorem dX10_model_96 : decode cX10_model 96 = .ok (.istore 7, 2) := by decide +kernel
theorem dX10_model_98 : decode cX10_model 98 = .ok (.aload_n 0, 1) := by decide +kernel
theorem dX10_model_99 : decode cX10_model 99 = .ok (.getfield 29, 3) := by decide +kernel
theorem dX10_model_102 : decode cX10_model 102 = .ok (.iload 7, 2) := by decide +kernel
theorem dX10_model_104 : decode cX10_model 104 = .ok (.new 27, 3) := by decide +kernel
theorem dX10_model_107 : decode cX10_model 107 = .ok (.dup, 1) := by decide +kernel
theorem dX10_model_108 : decode cX10_model 108 = .ok (.iload 7, 2) := by decide +kernel
theorem dX10_model_110 : decode cX10_model 110 = .ok (.iload_n 1, 1) := by decide +kernel
theorem dX10_model_111 : decode cX10_model 111 = .ok (.aload 5, 2) := by decide +kernel
theorem dX10_model_113 : decode cX10_model 113 = .ok (.aload_n 0, 1) := by decide +kernel
theorem dX10_model_114 : decode cX10_model 114 = .ok (.getfield 114, 3) := by decide +kernel
theorem dX10_model_117 : decode cX10_model 117 = .ok (.aload 4, 2) := by decide +kernel
theorem dX10_model_119 : decode cX10_model 119 = .ok (.invokevirtual 222, 3) := by decide +kernel
theorem dX10_model_122 : decode cX10_model 122 = .ok (.invokespecial 226, 3) := by decide +kernel
theorem dX10_model_125 : decode cX10_model 125 = .ok (.aastore, 1) := by decide +kernel
theorem dX10_model_126 : decode cX10_model 126 = .ok (.aload_n 0, 1) := by decide +kernel
theorem dX10_model_127 : decode cX10_model 127 = .ok (.dup, 1) := by decide +kernel
theorem dX10_model_128 : decode cX10_model 128 = .ok (.getfield 219, 3) := by decide +kernel
theorem dX10_model_131 : decode cX10_model 131 = .ok (.iconst 1, 1) := by decide +kernel
theorem dX10_model_132 : decode cX10_model 132 = .ok (.iadd, 1) := by decide +kernel
theorem dX10_model_133 : decode cX10_model 133 = .ok (.putfield 219, 3) := by decide +kernel
theorem dX10_model_136 : decode cX10_model 136 = .ok (.iload 7, 2) := by decide +kernel
theorem dX10_model_138 : decode cX10_model 138 = .ok (.ireturn, 1) := by decide +kernel
theorem dX10_reaches_0 : decode cX10_reaches 0 = .ok (.aload_n 0, 1) := by decide +kernel
theorem dX10_reaches_1 : decode cX10_reaches 1 = .ok (.iload_n 1, 1) := by decide +kernel
theorem dX10_reaches_2 : decode cX10_reaches 2 = .ok (.invokevirtual 229, 3) := by decide +kernel
theorem dX10_reaches_5 : decode cX10_reaches 5 = .ok (.astore_n 3, 1) := by decide +kernel
theorem dX10_reaches_6 : decode cX10_reaches 6 = .ok (.aload_n 0, 1) := by decide +kernel
theorem dX10_reaches_7 : decode cX10_reaches 7 = .ok (.iload_n 2, 1) := by decide +kernel
theorem dX10_reaches_8 : decode cX10_reaches 8 = .ok (.invokevirtual 91, 3) := by decide +kernel
theorem dX10_reaches_11 : decode cX10_reaches 11 = .ok (.astore 4, 2) := by decide +kernel
theorem dX10_reaches_13 : decode cX10_reaches 13 = .ok (.aload_n 3, 1) := by decide +kernel
theorem dX10_reaches_14 : decode cX10_reaches 14 = .ok (.ifnull 8, 3) := by decide +kernel
theorem dX10_reaches_17 : decode cX10_reaches 17 = .ok (.aload 4, 2) := by decide +kernel
theorem dX10_reaches_19 : decode cX10_reaches 19 = .ok (.ifnonnull 7, 3) := by decide +kernel
theorem dX10_reaches_22 : decode cX10_reaches 22 = .ok (.iconst (-1), 1) := by decide +kernel
theorem dX10_reaches_23 : decode cX10_reaches 23 = .ok (.goto 9, 3) := by decide +kernel
theorem dX10_reaches_26 : decode cX10_reaches 26 = .ok (.aload_n 3, 1) := by decide +kernel
theorem dX10_reaches_27 : decode cX10_reaches 27 = .ok (.aload 4, 2) := by decide +kernel
theorem dX10_reaches_29 : decode cX10_reaches 29 = .ok (.invokestatic 233, 3) := by decide +kernel
theorem dX10_reaches_32 : decode cX10_reaches 32 = .ok (.ireturn, 1) := by decide +kernel
theorem dX10_likeness_0 : decode cX10_likeness 0 = .ok (.aload_n 0, 1) := by decide +kernel
theorem dX10_likeness_1 : decode cX10_likeness 1 = .ok (.iload_n 1, 1) := by decide +kernel
theorem dX10_likeness_2 : decode cX10_likeness 2 = .ok (.invokevirtual 196, 3) := by decide +kernel
theorem dX10_likeness_5 : decode cX10_likeness 5 = .ok (.astore_n 3, 1) := by decide +kernel
theorem dX10_likeness_6 : decode cX10_likeness 6 = .ok (.aload_n 0, 1) := by decide +kernel
theorem dX10_likeness_7 : decode cX10_likeness 7 = .ok (.iload_n 2, 1) := by decide +kernel
theorem dX10_likeness_8 : decode cX10_likeness 8 = .ok (.invokevirtual 229, 3) := by decide +kernel
theorem dX10_likeness_11 : decode cX10_likeness 11 = .ok (.astore 4, 2) := by decide +kernel
theorem dX10_likeness_13 : decode cX10_likeness 13 = .ok (.aload_n 3, 1) := by decide +kernel
theorem dX10_likeness_14 : decode cX10_likeness 14 = .ok (.ifnull 15, 3) := by decide +kernel
theorem dX10_likeness_17 : decode cX10_likeness 17 = .ok (.aload 4, 2) := by decide +kernel
theorem dX10_likeness_19 : decode cX10_likeness 19 = .ok (.ifnull 10, 3) := by decide +kernel
theorem dX10_likeness_22 : decode cX10_likeness 22 = .ok (.aload_n 3, 1) := by decide +kernel
theorem dX10_likeness_23 : decode cX10_likeness 23 = .ok (.getfield 237, 3) := by decide +kernel
theorem dX10_likeness_26 : decode cX10_likeness 26 = .ok (.ifnonnull 7, 3) := by decide +kernel
theorem dX10_likeness_29 : decode cX10_likeness 29 = .ok (.iconst (-1), 1) := by decide +kernel
theorem dX10_likeness_30 : decode cX10_likeness 30 = .ok (.goto 16, 3) := by decide +kernel
theorem dX10_likeness_33 : decode cX10_likeness 33 = .ok (.aload_n 0, 1) := by decide +kernel
theorem dX10_likeness_34 : decode cX10_likeness 34 = .ok (.aload_n 3, 1) := by decide +kernel
theorem dX10_likeness_35 : decode cX10_likeness 35 = .ok (.getfield 237, 3) := by decide +kernel
theorem dX10_likeness_38 : decode cX10_likeness 38 = .ok (.aload 4, 2) := by decide +kernel
theorem dX10_likeness_40 : decode cX10_likeness 40 = .ok (.getfield 240, 3) := by decide +kernel
theorem dX10_likeness_43 : decode cX10_likeness 43 = .ok (.invokevirtual 241, 3) := by decide +kernel
theorem dX10_likeness_46 : decode cX10_likeness 46 = .ok (.ireturn, 1) := by decide +kernel
theorem dX10_chance_0 : decode cX10_chance 0 = .ok (.aload_n 0, 1) := by decide +kernel
theorem dX10_chance_1 : decode cX10_chance 1 = .ok (.iload_n 1, 1) := by decide +kernel
theorem dX10_chance_2 : decode cX10_chance 2 = .ok (.invokevirtual 196, 3) := by decide +kernel
theorem dX10_chance_5 : decode cX10_chance 5 = .ok (.astore_n 3, 1) := by decide +kernel
theorem dX10_chance_6 : decode cX10_chance 6 = .ok (.aload_n 3, 1) := by decide +kernel
theorem dX10_chance_7 : decode cX10_chance 7 = .ok (.ifnull 10, 3) := by decide +kernel
theorem dX10_chance_10 : decode cX10_chance 10 = .ok (.aload_n 3, 1) := by decide +kernel
theorem dX10_chance_11 : decode cX10_chance 11 = .ok (.getfield 245, 3) := by decide +kernel
theorem dX10_chance_14 : decode cX10_chance 14 = .ok (.ifnonnull 5, 3) := by decide +kernel
theorem dX10_chance_17 : decode cX10_chance 17 = .ok (.iconst (-1), 1) := by decide +kernel
theorem dX10_chance_18 : decode cX10_chance 18 = .ok (.ireturn, 1) := by decide +kernel
theorem dX10_chance_19 : decode cX10_chance 19 = .ok (.iconst 0, 1) := by decide +kernel
theorem dX10_chance_20 : decode cX10_chance 20 = .ok (.istore 4, 2) := by decide +kernel
theorem dX10_chance_22 : decode cX10_chance 22 = .ok (.iconst 0, 1) := by decide +kernel
theorem dX10_chance_23 : decode cX10_chance 23 = .ok (.istore 5, 2) := by decide +kernel
theorem dX10_chance_25 : decode cX10_chance 25 = .ok (.iconst 0, 1) := by decide +kernel
theorem dX10_chance_26 : decode cX10_chance 26 = .ok (.istore 6, 2) := by decide +kernel
theorem dX10_chance_28 : decode cX10_chance 28 = .ok (.iload 6, 2) := by decide +kernel
theorem dX10_chance_30 : decode cX10_chance 30 = .ok (.aload_n 0, 1) := by decide +kernel
theorem dX10_chance_31 : decode cX10_chance 31 = .ok (.getfield 249, 3) := by decide +kernel
theorem dX10_chance_34 : decode cX10_chance 34 = .ok (.if_icmp .ge 103, 3) := by decide +kernel
theorem dX10_chance_37 : decode cX10_chance 37 = .ok (.aload_n 0, 1) := by decide +kernel
theorem dX10_chance_38 : decode cX10_chance 38 = .ok (.getfield 23, 3) := by decide +kernel
theorem dX10_chance_41 : decode cX10_chance 41 = .ok (.iload 6, 2) := by decide +kernel
theorem dX10_chance_43 : decode cX10_chance 43 = .ok (.aaload, 1) := by decide +kernel
theorem dX10_chance_44 : decode cX10_chance 44 = .ok (.astore 7, 2) := by decide +kernel
theorem dX10_chance_46 : decode cX10_chance 46 = .ok (.aload 7, 2) := by decide +kernel
theorem dX10_chance_48 : decode cX10_chance 48 = .ok (.aload_n 3, 1) := by decide +kernel
theorem dX10_chance_49 : decode cX10_chance 49 = .ok (.if_acmp .eq 82, 3) := by decide +kernel
theorem dX10_chance_52 : decode cX10_chance 52 = .ok (.aload 7, 2) := by decide +kernel
theorem dX10_chance_54 : decode cX10_chance 54 = .ok (.getfield 237, 3) := by decide +kernel
theorem dX10_chance_57 : decode cX10_chance 57 = .ok (.ifnull 74, 3) := by decide +kernel
theorem dX10_chance_60 : decode cX10_chance 60 = .ok (.aload 7, 2) := by decide +kernel
theorem dX10_chance_62 : decode cX10_chance 62 = .ok (.getfield 252, 3) := by decide +kernel
theorem dX10_chance_65 : decode cX10_chance 65 = .ok (.aload_n 3, 1) := by decide +kernel
theorem dX10_chance_66 : decode cX10_chance 66 = .ok (.getfield 252, 3) := by decide +kernel
theorem dX10_chance_69 : decode cX10_chance 69 = .ok (.if_icmp .ne 62, 3) := by decide +kernel
theorem dX10_chance_72 : decode cX10_chance 72 = .ok (.aload_n 3, 1) := by decide +kernel
theorem dX10_chance_73 : decode cX10_chance 73 = .ok (.getfield 245, 3) := by decide +kernel
theorem dX10_chance_76 : decode cX10_chance 76 = .ok (.aload 7, 2) := by decide +kernel
theorem dX10_chance_78 : decode cX10_chance 78 = .ok (.getfield 255, 3) := by decide +kernel
theorem dX10_chance_81 : decode cX10_chance 81 = .ok (.invokestatic 233, 3) := by decide +kernel
theorem dX10_chance_84 : decode cX10_chance 84 = .ok (.aload 7, 2) := by decide +kernel
theorem dX10_chance_86 : decode cX10_chance 86 = .ok (.getfield 258, 3) := by decide +kernel
theorem dX10_chance_89 : decode cX10_chance 89 = .ok (.if_icmp .le 42, 3) := by decide +kernel
theorem dX10_chance_92 : decode cX10_chance 92 = .ok (.iinc 4 1, 3) := by decide +kernel
theorem dX10_chance_95 : decode cX10_chance 95 = .ok (.iload 5, 2) := by decide +kernel
theorem dX10_chance_97 : decode cX10_chance 97 = .ok (.aload_n 0, 1) := by decide +kernel
theorem dX10_chance_98 : decode cX10_chance 98 = .ok (.aload 7, 2) := by decide +kernel
theorem dX10_chance_100 : decode cX10_chance 100 = .ok (.getfield 237, 3) := by decide +kernel
theorem dX10_chance_103 : decode cX10_chance 103 = .ok (.aload_n 3, 1) := by decide +kernel
theorem dX10_chance_104 : decode cX10_chance 104 = .ok (.getfield 245, 3) := by decide +kernel
theorem dX10_chance_107 : decode cX10_chance 107 = .ok (.getfield 240, 3) := by decide +kernel
theorem dX10_chance_110 : decode cX10_chance 110 = .ok (.invokevirtual 241, 3) := by decide +kernel
theorem dX10_chance_113 : decode cX10_chance 113 = .ok (.aload_n 3, 1) := by decide +kernel
theorem dX10_chance_114 : decode cX10_chance 114 = .ok (.getfield 209, 3) := by decide +kernel
theorem dX10_chance_117 : decode cX10_chance 117 = .ok (.if_icmp .lt 7, 3) := by decide +kernel
theorem dX10_chance_120 : decode cX10_chance 120 = .ok (.iconst 1, 1) := by decide +kernel
theorem dX10_chance_121 : decode cX10_chance 121 = .ok (.goto 4, 3) := by decide +kernel
theorem dX10_chance_124 : decode cX10_chance 124 = .ok (.iconst 0, 1) := by decide +kernel
theorem dX10_chance_125 : decode cX10_chance 125 = .ok (.invokestatic 138, 3) := by decide +kernel
theorem dX10_chance_128 : decode cX10_chance 128 = .ok (.iadd, 1) := by decide +kernel
theorem dX10_chance_129 : decode cX10_chance 129 = .ok (.istore 5, 2) := by decide +kernel
theorem dX10_chance_131 : decode cX10_chance 131 = .ok (.iinc 6 1, 3) := by decide +kernel
theorem dX10_chance_134 : decode cX10_chance 134 = .ok (.goto (-106), 3) := by decide +kernel
theorem dX10_chance_137 : decode cX10_chance 137 = .ok (.iload_n 2, 1) := by decide +kernel
theorem dX10_chance_138 : decode cX10_chance 138 = .ok (.ifCond .eq 8, 3) := by decide +kernel
theorem dX10_chance_141 : decode cX10_chance 141 = .ok (.iload 4, 2) := by decide +kernel
theorem dX10_chance_143 : decode cX10_chance 143 = .ok (.goto 5, 3) := by decide +kernel
theorem dX10_chance_146 : decode cX10_chance 146 = .ok (.iload 5, 2) := by decide +kernel
theorem dX10_chance_148 : decode cX10_chance 148 = .ok (.ireturn, 1) := by decide +kernel
theorem dX10_dayOfReach_0 : decode cX10_dayOfReach 0 = .ok (.aload_n 0, 1) := by decide +kernel
theorem dX10_dayOfReach_1 : decode cX10_dayOfReach 1 = .ok (.getfield 261, 3) := by decide +kernel
theorem dX10_dayOfReach_4 : decode cX10_dayOfReach 4 = .ok (.aload_n 0, 1) := by decide +kernel
theorem dX10_dayOfReach_5 : decode cX10_dayOfReach 5 = .ok (.getfield 262, 3) := by decide +kernel
theorem dX10_dayOfReach_8 : decode cX10_dayOfReach 8 = .ok (.aload_n 1, 1) := by decide +kernel
theorem dX10_dayOfReach_9 : decode cX10_dayOfReach 9 = .ok (.invokestatic 110, 3) := by decide +kernel
theorem dX10_dayOfReach_12 : decode cX10_dayOfReach 12 = .ok (.iadd, 1) := by decide +kernel
theorem dX10_dayOfReach_13 : decode cX10_dayOfReach 13 = .ok (.ireturn, 1) := by decide +kernel
theorem dX10_likeOnes_0 : decode cX10_likeOnes 0 = .ok (.aload_n 0, 1) := by decide +kernel
theorem dX10_likeOnes_1 : decode cX10_likeOnes 1 = .ok (.getfield 49, 3) := by decide +kernel
theorem dX10_likeOnes_4 : decode cX10_likeOnes 4 = .ok (.iconst 0, 1) := by decide +kernel
theorem dX10_likeOnes_5 : decode cX10_likeOnes 5 = .ok (.invokestatic 263, 3) := by decide +kernel
theorem dX10_likeOnes_8 : decode cX10_likeOnes 8 = .ok (.aload_n 2, 1) := by decide +kernel
theorem dX10_likeOnes_9 : decode cX10_likeOnes 9 = .ok (.arraylength, 1) := by decide +kernel
theorem dX10_likeOnes_10 : decode cX10_likeOnes 10 = .ok (.bipush 20, 2) := by decide +kernel
theorem dX10_likeOnes_12 : decode cX10_likeOnes 12 = .ok (.invokestatic 269, 3) := by decide +kernel
theorem dX10_likeOnes_15 : decode cX10_likeOnes 15 = .ok (.istore_n 3, 1) := by decide +kernel
theorem dX10_likeOnes_16 : decode cX10_likeOnes 16 = .ok (.iconst 0, 1) := by decide +kernel
theorem dX10_likeOnes_17 : decode cX10_likeOnes 17 = .ok (.istore 4, 2) := by decide +kernel
theorem dX10_likeOnes_19 : decode cX10_likeOnes 19 = .ok (.iload 4, 2) := by decide +kernel
theorem dX10_likeOnes_21 : decode cX10_likeOnes 21 = .ok (.aload_n 1, 1) := by decide +kernel
theorem dX10_likeOnes_22 : decode cX10_likeOnes 22 = .ok (.arraylength, 1) := by decide +kernel
theorem dX10_likeOnes_23 : decode cX10_likeOnes 23 = .ok (.if_icmp .ge 89, 3) := by decide +kernel
theorem dX10_likeOnes_26 : decode cX10_likeOnes 26 = .ok (.iconst 0, 1) := by decide +kernel
theorem dX10_likeOnes_27 : decode cX10_likeOnes 27 = .ok (.istore 5, 2) := by decide +kernel
theorem dX10_likeOnes_29 : decode cX10_likeOnes 29 = .ok (.iconst 1, 1) := by decide +kernel
theorem dX10_likeOnes_30 : decode cX10_likeOnes 30 = .ok (.istore 6, 2) := by decide +kernel
theorem dX10_likeOnes_32 : decode cX10_likeOnes 32 = .ok (.iload 6, 2) := by decide +kernel
theorem dX10_likeOnes_34 : decode cX10_likeOnes 34 = .ok (.iload_n 3, 1) := by decide +kernel
theorem dX10_likeOnes_35 : decode cX10_likeOnes 35 = .ok (.if_icmp .gt 71, 3) := by decide +kernel
theorem dX10_likeOnes_38 : decode cX10_likeOnes 38 = .ok (.aload_n 0, 1) := by decide +kernel
theorem dX10_likeOnes_39 : decode cX10_likeOnes 39 = .ok (.getfield 49, 3) := by decide +kernel
theorem dX10_likeOnes_42 : decode cX10_likeOnes 42 = .ok (.iload 6, 2) := by decide +kernel
theorem dX10_likeOnes_44 : decode cX10_likeOnes 44 = .ok (.iaload, 1) := by decide +kernel
theorem dX10_likeOnes_45 : decode cX10_likeOnes 45 = .ok (.istore 7, 2) := by decide +kernel
theorem dX10_likeOnes_47 : decode cX10_likeOnes 47 = .ok (.aload_n 1, 1) := by decide +kernel
theorem dX10_likeOnes_48 : decode cX10_likeOnes 48 = .ok (.iload 4, 2) := by decide +kernel
theorem dX10_likeOnes_50 : decode cX10_likeOnes 50 = .ok (.laload, 1) := by decide +kernel
theorem dX10_likeOnes_51 : decode cX10_likeOnes 51 = .ok (.aload_n 2, 1) := by decide +kernel
theorem dX10_likeOnes_52 : decode cX10_likeOnes 52 = .ok (.iload 6, 2) := by decide +kernel
theorem dX10_likeOnes_54 : decode cX10_likeOnes 54 = .ok (.iconst 1, 1) := by decide +kernel
theorem dX10_likeOnes_55 : decode cX10_likeOnes 55 = .ok (.isub, 1) := by decide +kernel
theorem dX10_likeOnes_56 : decode cX10_likeOnes 56 = .ok (.laload, 1) := by decide +kernel
theorem dX10_likeOnes_57 : decode cX10_likeOnes 57 = .ok (.lcmp, 1) := by decide +kernel
theorem dX10_likeOnes_58 : decode cX10_likeOnes 58 = .ok (.ifCond .ne 17, 3) := by decide +kernel
theorem dX10_likeOnes_61 : decode cX10_likeOnes 61 = .ok (.aload_n 0, 1) := by decide +kernel
theorem dX10_likeOnes_62 : decode cX10_likeOnes 62 = .ok (.getfield 49, 3) := by decide +kernel
theorem dX10_likeOnes_65 : decode cX10_likeOnes 65 = .ok (.iload 6, 2) := by decide +kernel
theorem dX10_likeOnes_67 : decode cX10_likeOnes 67 = .ok (.iload 5, 2) := by decide +kernel
theorem dX10_likeOnes_69 : decode cX10_likeOnes 69 = .ok (.iconst 1, 1) := by decide +kernel
theorem dX10_likeOnes_70 : decode cX10_likeOnes 70 = .ok (.iadd, 1) := by decide +kernel
theorem dX10_likeOnes_71 : decode cX10_likeOnes 71 = .ok (.iastore, 1) := by decide +kernel
theorem dX10_likeOnes_72 : decode cX10_likeOnes 72 = .ok (.goto 24, 3) := by decide +kernel
theorem dX10_likeOnes_75 : decode cX10_likeOnes 75 = .ok (.aload_n 0, 1) := by decide +kernel
theorem dX10_likeOnes_76 : decode cX10_likeOnes 76 = .ok (.getfield 49, 3) := by decide +kernel
theorem dX10_likeOnes_79 : decode cX10_likeOnes 79 = .ok (.iload 6, 2) := by decide +kernel
theorem dX10_likeOnes_81 : decode cX10_likeOnes 81 = .ok (.iload 7, 2) := by decide +kernel
theorem dX10_likeOnes_83 : decode cX10_likeOnes 83 = .ok (.aload_n 0, 1) := by decide +kernel
theorem dX10_likeOnes_84 : decode cX10_likeOnes 84 = .ok (.getfield 49, 3) := by decide +kernel
theorem dX10_likeOnes_87 : decode cX10_likeOnes 87 = .ok (.iload 6, 2) := by decide +kernel
theorem dX10_likeOnes_89 : decode cX10_likeOnes 89 = .ok (.iconst 1, 1) := by decide +kernel
theorem dX10_likeOnes_90 : decode cX10_likeOnes 90 = .ok (.isub, 1) := by decide +kernel
theorem dX10_likeOnes_91 : decode cX10_likeOnes 91 = .ok (.iaload, 1) := by decide +kernel
theorem dX10_likeOnes_92 : decode cX10_likeOnes 92 = .ok (.invokestatic 275, 3) := by decide +kernel
theorem dX10_likeOnes_95 : decode cX10_likeOnes 95 = .ok (.iastore, 1) := by decide +kernel
theorem dX10_likeOnes_96 : decode cX10_likeOnes 96 = .ok (.iload 7, 2) := by decide +kernel
theorem dX10_likeOnes_98 : decode cX10_likeOnes 98 = .ok (.istore 5, 2) := by decide +kernel
theorem dX10_likeOnes_100 : decode cX10_likeOnes 100 = .ok (.iinc 6 1, 3) := by decide +kernel
theorem dX10_likeOnes_103 : decode cX10_likeOnes 103 = .ok (.goto (-71), 3) := by decide +kernel
theorem dX10_likeOnes_106 : decode cX10_likeOnes 106 = .ok (.iinc 4 1, 3) := by decide +kernel
theorem dX10_likeOnes_109 : decode cX10_likeOnes 109 = .ok (.goto (-90), 3) := by decide +kernel
theorem dX10_likeOnes_112 : decode cX10_likeOnes 112 = .ok (.aload_n 0, 1) := by decide +kernel
theorem dX10_likeOnes_113 : decode cX10_likeOnes 113 = .ok (.getfield 49, 3) := by decide +kernel
theorem dX10_likeOnes_116 : decode cX10_likeOnes 116 = .ok (.iload_n 3, 1) := by decide +kernel
theorem dX10_likeOnes_117 : decode cX10_likeOnes 117 = .ok (.iaload, 1) := by decide +kernel
theorem dX10_likeOnes_118 : decode cX10_likeOnes 118 = .ok (.ireturn, 1) := by decide +kernel
theorem dX10_write_0 : decode cX10_write 0 = .ok (.aload_n 0, 1) := by decide +kernel
theorem dX10_write_1 : decode cX10_write 1 = .ok (.iload_n 1, 1) := by decide +kernel
theorem dX10_write_2 : decode cX10_write 2 = .ok (.invokevirtual 91, 3) := by decide +kernel
theorem dX10_write_5 : decode cX10_write 5 = .ok (.astore 6, 2) := by decide +kernel
theorem dX10_write_7 : decode cX10_write 7 = .ok (.aload_n 0, 1) := by decide +kernel
theorem dX10_write_8 : decode cX10_write 8 = .ok (.iload 5, 2) := by decide +kernel
theorem dX10_write_10 : decode cX10_write 10 = .ok (.invokevirtual 156, 3) := by decide +kernel
theorem dX10_write_13 : decode cX10_write 13 = .ok (.astore 7, 2) := by decide +kernel
theorem dX10_write_15 : decode cX10_write 15 = .ok (.aload 6, 2) := by decide +kernel
theorem dX10_write_17 : decode cX10_write 17 = .ok (.ifnull 8, 3) := by decide +kernel
theorem dX10_write_20 : decode cX10_write 20 = .ok (.aload 7, 2) := by decide +kernel
theorem dX10_write_22 : decode cX10_write 22 = .ok (.ifnonnull 9, 3) := by decide +kernel
theorem dX10_write_25 : decode cX10_write 25 = .ok (.aload_n 0, 1) := by decide +kernel
theorem dX10_write_26 : decode cX10_write 26 = .ok (.iconst (-1), 1) := by decide +kernel
theorem dX10_write_27 : decode cX10_write 27 = .ok (.invokevirtual 95, 3) := by decide +kernel
theorem dX10_write_30 : decode cX10_write 30 = .ok (.ireturn, 1) := by decide +kernel
theorem dX10_write_31 : decode cX10_write 31 = .ok (.aload 7, 2) := by decide +kernel
theorem dX10_write_33 : decode cX10_write 33 = .ok (.invokestatic 164, 3) := by decide +kernel
theorem dX10_write_36 : decode cX10_write 36 = .ok (.istore 8, 2) := by decide +kernel
theorem dX10_write_38 : decode cX10_write 38 = .ok (.iload 8, 2) := by decide +kernel
theorem dX10_write_40 : decode cX10_write 40 = .ok (.ifCond .eq 10, 3) := by decide +kernel
theorem dX10_write_43 : decode cX10_write 43 = .ok (.aload_n 0, 1) := by decide +kernel
theorem dX10_write_44 : decode cX10_write 44 = .ok (.iload 8, 2) := by decide +kernel
theorem dX10_write_46 : decode cX10_write 46 = .ok (.invokevirtual 95, 3) := by decide +kernel
theorem dX10_write_49 : decode cX10_write 49 = .ok (.ireturn, 1) := by decide +kernel
theorem dX10_write_50 : decode cX10_write 50 = .ok (.iload_n 2, 1) := by decide +kernel
theorem dX10_write_51 : decode cX10_write 51 = .ok (.iload_n 3, 1) := by decide +kernel
theorem dX10_write_52 : decode cX10_write 52 = .ok (.invokestatic 278, 3) := by decide +kernel
theorem dX10_write_55 : decode cX10_write 55 = .ok (.ifCond .eq 35, 3) := by decide +kernel
theorem dX10_write_58 : decode cX10_write 58 = .ok (.iload 4, 2) := by decide +kernel
theorem dX10_write_60 : decode cX10_write 60 = .ok (.iconst 0, 1) := by decide +kernel
theorem dX10_write_61 : decode cX10_write 61 = .ok (.bipush 99, 2) := by decide +kernel
theorem dX10_write_63 : decode cX10_write 63 = .ok (.invokestatic 99, 3) := by decide +kernel
theorem dX10_write_66 : decode cX10_write 66 = .ok (.ifCond .eq 24, 3) := by decide +kernel
theorem dX10_write_69 : decode cX10_write 69 = .ok (.aload 7, 2) := by decide +kernel
theorem dX10_write_71 : decode cX10_write 71 = .ok (.getfield 168, 3) := by decide +kernel
theorem dX10_write_74 : decode cX10_write 74 = .ok (.bipush 20, 2) := by decide +kernel
theorem dX10_write_76 : decode cX10_write 76 = .ok (.if_icmp .gt 14, 3) := by decide +kernel
theorem dX10_write_79 : decode cX10_write 79 = .ok (.aload_n 0, 1) := by decide +kernel
theorem dX10_write_80 : decode cX10_write 80 = .ok (.aload 6, 2) := by decide +kernel
theorem dX10_write_82 : decode cX10_write 82 = .ok (.iload_n 2, 1) := by decide +kernel
theorem dX10_write_83 : decode cX10_write 83 = .ok (.iload_n 3, 1) := by decide +kernel
theorem dX10_write_84 : decode cX10_write 84 = .ok (.invokevirtual 282, 3) := by decide +kernel
theorem dX10_write_87 : decode cX10_write 87 = .ok (.ifCond .ne 10, 3) := by decide +kernel
theorem dX10_write_90 : decode cX10_write 90 = .ok (.aload_n 0, 1) := by decide +kernel
theorem dX10_write_91 : decode cX10_write 91 = .ok (.bipush (-6), 2) := by decide +kernel
theorem dX10_write_93 : decode cX10_write 93 = .ok (.invokevirtual 95, 3) := by decide +kernel
theorem dX10_write_96 : decode cX10_write 96 = .ok (.ireturn, 1) := by decide +kernel
theorem dX10_write_97 : decode cX10_write 97 = .ok (.aload_n 0, 1) := by decide +kernel
theorem dX10_write_98 : decode cX10_write 98 = .ok (.getfield 249, 3) := by decide +kernel
theorem dX10_write_101 : decode cX10_write 101 = .ok (.sipush 160, 3) := by decide +kernel
theorem dX10_write_104 : decode cX10_write 104 = .ok (.if_icmp .lt 10, 3) := by decide +kernel
theorem dX10_write_107 : decode cX10_write 107 = .ok (.aload_n 0, 1) := by decide +kernel
theorem dX10_write_108 : decode cX10_write 108 = .ok (.bipush (-7), 2) := by decide +kernel
theorem dX10_write_110 : decode cX10_write 110 = .ok (.invokevirtual 95, 3) := by decide +kernel
theorem dX10_write_113 : decode cX10_write 113 = .ok (.ireturn, 1) := by decide +kernel
theorem dX10_write_114 : decode cX10_write 114 = .ok (.new 21, 3) := by decide +kernel
theorem dX10_write_117 : decode cX10_write 117 = .ok (.dup, 1) := by decide +kernel
theorem dX10_write_118 : decode cX10_write 118 = .ok (.aload_n 0, 1) := by decide +kernel
theorem dX10_write_119 : decode cX10_write 119 = .ok (.getfield 249, 3) := by decide +kernel
theorem dX10_write_122 : decode cX10_write 122 = .ok (.iconst 0, 1) := by decide +kernel
theorem dX10_write_123 : decode cX10_write 123 = .ok (.aload 6, 2) := by decide +kernel
theorem dX10_write_125 : decode cX10_write 125 = .ok (.iload_n 2, 1) := by decide +kernel
theorem dX10_write_126 : decode cX10_write 126 = .ok (.iload_n 3, 1) := by decide +kernel
theorem dX10_write_127 : decode cX10_write 127 = .ok (.iload 4, 2) := by decide +kernel
theorem dX10_write_129 : decode cX10_write 129 = .ok (.aload_n 0, 1) := by decide +kernel
theorem dX10_write_130 : decode cX10_write 130 = .ok (.getfield 114, 3) := by decide +kernel
theorem dX10_write_133 : decode cX10_write 133 = .ok (.invokespecial 286, 3) := by decide +kernel
theorem dX10_write_136 : decode cX10_write 136 = .ok (.astore 9, 2) := by decide +kernel
theorem dX10_write_138 : decode cX10_write 138 = .ok (.aload 9, 2) := by decide +kernel
theorem dX10_write_140 : decode cX10_write 140 = .ok (.aload 7, 2) := by decide +kernel
theorem dX10_write_142 : decode cX10_write 142 = .ok (.invokevirtual 222, 3) := by decide +kernel
theorem dX10_write_145 : decode cX10_write 145 = .ok (.putfield 237, 3) := by decide +kernel
theorem dX10_write_148 : decode cX10_write 148 = .ok (.aload 9, 2) := by decide +kernel
theorem dX10_write_150 : decode cX10_write 150 = .ok (.aload 6, 2) := by decide +kernel
theorem dX10_write_152 : decode cX10_write 152 = .ok (.getfield 127, 3) := by decide +kernel
theorem dX10_write_155 : decode cX10_write 155 = .ok (.putfield 289, 3) := by decide +kernel
theorem dX10_write_158 : decode cX10_write 158 = .ok (.aload 9, 2) := by decide +kernel
theorem dX10_write_160 : decode cX10_write 160 = .ok (.aload 6, 2) := by decide +kernel
theorem dX10_write_162 : decode cX10_write 162 = .ok (.getfield 117, 3) := by decide +kernel
theorem dX10_write_165 : decode cX10_write 165 = .ok (.ifnull 18, 3) := by decide +kernel
theorem dX10_write_168 : decode cX10_write 168 = .ok (.aload 6, 2) := by decide +kernel
theorem dX10_write_170 : decode cX10_write 170 = .ok (.getfield 117, 3) := by decide +kernel
theorem dX10_write_173 : decode cX10_write 173 = .ok (.getfield 134, 3) := by decide +kernel
theorem dX10_write_176 : decode cX10_write 176 = .ok (.ifCond .eq 7, 3) := by decide +kernel
theorem dX10_write_179 : decode cX10_write 179 = .ok (.iconst 1, 1) := by decide +kernel
theorem dX10_write_180 : decode cX10_write 180 = .ok (.goto 4, 3) := by decide +kernel
theorem dX10_write_183 : decode cX10_write 183 = .ok (.iconst 0, 1) := by decide +kernel
theorem dX10_write_184 : decode cX10_write 184 = .ok (.putfield 290, 3) := by decide +kernel
theorem dX10_write_187 : decode cX10_write 187 = .ok (.aload_n 0, 1) := by decide +kernel
theorem dX10_write_188 : decode cX10_write 188 = .ok (.aload 9, 2) := by decide +kernel
theorem dX10_write_190 : decode cX10_write 190 = .ok (.invokevirtual 293, 3) := by decide +kernel
theorem dX10_write_193 : decode cX10_write 193 = .ok (.aload_n 0, 1) := by decide +kernel
theorem dX10_write_194 : decode cX10_write 194 = .ok (.aload 9, 2) := by decide +kernel
theorem dX10_write_196 : decode cX10_write 196 = .ok (.invokevirtual 296, 3) := by decide +kernel
theorem dX10_write_199 : decode cX10_write 199 = .ok (.ireturn, 1) := by decide +kernel
theorem dX10_withdraw_0 : decode cX10_withdraw 0 = .ok (.aload_n 0, 1) := by decide +kernel
theorem dX10_withdraw_1 : decode cX10_withdraw 1 = .ok (.iload_n 1, 1) := by decide +kernel
theorem dX10_withdraw_2 : decode cX10_withdraw 2 = .ok (.invokevirtual 196, 3) := by decide +kernel
theorem dX10_withdraw_5 : decode cX10_withdraw 5 = .ok (.astore_n 2, 1) := by decide +kernel
theorem dX10_withdraw_6 : decode cX10_withdraw 6 = .ok (.aload_n 2, 1) := by decide +kernel
theorem dX10_withdraw_7 : decode cX10_withdraw 7 = .ok (.ifnonnull 9, 3) := by decide +kernel
theorem dX10_withdraw_10 : decode cX10_withdraw 10 = .ok (.aload_n 0, 1) := by decide +kernel
theorem dX10_withdraw_11 : decode cX10_withdraw 11 = .ok (.iconst (-1), 1) := by decide +kernel
theorem dX10_withdraw_12 : decode cX10_withdraw 12 = .ok (.invokevirtual 95, 3) := by decide +kernel
theorem dX10_withdraw_15 : decode cX10_withdraw 15 = .ok (.ireturn, 1) := by decide +kernel
theorem dX10_withdraw_16 : decode cX10_withdraw 16 = .ok (.aload_n 2, 1) := by decide +kernel
theorem dX10_withdraw_17 : decode cX10_withdraw 17 = .ok (.getfield 255, 3) := by decide +kernel
theorem dX10_withdraw_20 : decode cX10_withdraw 20 = .ok (.getfield 103, 3) := by decide +kernel
theorem dX10_withdraw_23 : decode cX10_withdraw 23 = .ok (.ifCond .ne 10, 3) := by decide +kernel
theorem dX10_withdraw_26 : decode cX10_withdraw 26 = .ok (.aload_n 2, 1) := by decide +kernel
theorem dX10_withdraw_27 : decode cX10_withdraw 27 = .ok (.invokevirtual 300, 3) := by decide +kernel
theorem dX10_withdraw_30 : decode cX10_withdraw 30 = .ok (.ifCond .ne 10, 3) := by decide +kernel
theorem dX10_withdraw_33 : decode cX10_withdraw 33 = .ok (.aload_n 0, 1) := by decide +kernel
theorem dX10_withdraw_34 : decode cX10_withdraw 34 = .ok (.bipush (-6), 2) := by decide +kernel
theorem dX10_withdraw_36 : decode cX10_withdraw 36 = .ok (.invokevirtual 95, 3) := by decide +kernel
theorem dX10_withdraw_39 : decode cX10_withdraw 39 = .ok (.ireturn, 1) := by decide +kernel
theorem dX10_withdraw_40 : decode cX10_withdraw 40 = .ok (.aload_n 2, 1) := by decide +kernel
theorem dX10_withdraw_41 : decode cX10_withdraw 41 = .ok (.aload_n 0, 1) := by decide +kernel
theorem dX10_withdraw_42 : decode cX10_withdraw 42 = .ok (.getfield 114, 3) := by decide +kernel
theorem dX10_withdraw_45 : decode cX10_withdraw 45 = .ok (.putfield 303, 3) := by decide +kernel
theorem dX10_withdraw_48 : decode cX10_withdraw 48 = .ok (.iconst 1, 1) := by decide +kernel
theorem dX10_withdraw_49 : decode cX10_withdraw 49 = .ok (.ireturn, 1) := by decide +kernel
theorem dX10_tear_0 : decode cX10_tear 0 = .ok (.aload_n 0, 1) := by decide +kernel
theorem dX10_tear_1 : decode cX10_tear 1 = .ok (.iload_n 1, 1) := by decide +kernel
theorem dX10_tear_2 : decode cX10_tear 2 = .ok (.invokevirtual 91, 3) := by decide +kernel
theorem dX10_tear_5 : decode cX10_tear 5 = .ok (.astore_n 3, 1) := by decide +kernel
theorem dX10_tear_6 : decode cX10_tear 6 = .ok (.aload_n 3, 1) := by decide +kernel
theorem dX10_tear_7 : decode cX10_tear 7 = .ok (.ifnonnull 9, 3) := by decide +kernel
theorem dX10_tear_10 : decode cX10_tear 10 = .ok (.aload_n 0, 1) := by decide +kernel
theorem dX10_tear_11 : decode cX10_tear 11 = .ok (.iconst (-1), 1) := by decide +kernel
theorem dX10_tear_12 : decode cX10_tear 12 = .ok (.invokevirtual 95, 3) := by decide +kernel
theorem dX10_tear_15 : decode cX10_tear 15 = .ok (.ireturn, 1) := by decide +kernel
theorem dX10_tear_16 : decode cX10_tear 16 = .ok (.aload_n 0, 1) := by decide +kernel
theorem dX10_tear_17 : decode cX10_tear 17 = .ok (.aload_n 3, 1) := by decide +kernel
theorem dX10_tear_18 : decode cX10_tear 18 = .ok (.invokevirtual 130, 3) := by decide +kernel
theorem dX10_tear_21 : decode cX10_tear 21 = .ok (.istore 4, 2) := by decide +kernel
theorem dX10_tear_23 : decode cX10_tear 23 = .ok (.aload_n 3, 1) := by decide +kernel
theorem dX10_tear_24 : decode cX10_tear 24 = .ok (.getfield 103, 3) := by decide +kernel
theorem dX10_tear_27 : decode cX10_tear 27 = .ok (.ifCond .ne 38, 3) := by decide +kernel
theorem dX10_tear_30 : decode cX10_tear 30 = .ok (.iload_n 2, 1) := by decide +kernel
theorem dX10_tear_31 : decode cX10_tear 31 = .ok (.iconst 0, 1) := by decide +kernel
theorem dX10_tear_32 : decode cX10_tear 32 = .ok (.iload 4, 2) := by decide +kernel
theorem dX10_tear_34 : decode cX10_tear 34 = .ok (.invokestatic 99, 3) := by decide +kernel
theorem dX10_tear_37 : decode cX10_tear 37 = .ok (.ifCond .eq 28, 3) := by decide +kernel
theorem dX10_tear_40 : decode cX10_tear 40 = .ok (.aload_n 3, 1) := by decide +kernel
theorem dX10_tear_41 : decode cX10_tear 41 = .ok (.getfield 147, 3) := by decide +kernel
theorem dX10_tear_44 : decode cX10_tear 44 = .ok (.iconst (-1), 1) := by decide +kernel
theorem dX10_tear_45 : decode cX10_tear 45 = .ok (.if_icmp .ne 20, 3) := by decide +kernel
theorem dX10_tear_48 : decode cX10_tear 48 = .ok (.aload_n 3, 1) := by decide +kernel
theorem dX10_tear_49 : decode cX10_tear 49 = .ok (.getfield 117, 3) := by decide +kernel
theorem dX10_tear_52 : decode cX10_tear 52 = .ok (.ifnull 13, 3) := by decide +kernel
theorem dX10_tear_55 : decode cX10_tear 55 = .ok (.aload_n 3, 1) := by decide +kernel
theorem dX10_tear_56 : decode cX10_tear 56 = .ok (.getfield 117, 3) := by decide +kernel
theorem dX10_tear_59 : decode cX10_tear 59 = .ok (.getfield 134, 3) := by decide +kernel
theorem dX10_tear_62 : decode cX10_tear 62 = .ok (.ifCond .eq 10, 3) := by decide +kernel
theorem dX10_tear_65 : decode cX10_tear 65 = .ok (.aload_n 0, 1) := by decide +kernel
theorem dX10_tear_66 : decode cX10_tear 66 = .ok (.bipush (-6), 2) := by decide +kernel
theorem dX10_tear_68 : decode cX10_tear 68 = .ok (.invokevirtual 95, 3) := by decide +kernel
theorem dX10_tear_71 : decode cX10_tear 71 = .ok (.ireturn, 1) := by decide +kernel
theorem dX10_tear_72 : decode cX10_tear 72 = .ok (.aload_n 3, 1) := by decide +kernel
theorem dX10_tear_73 : decode cX10_tear 73 = .ok (.iload_n 2, 1) := by decide +kernel
theorem dX10_tear_74 : decode cX10_tear 74 = .ok (.putfield 147, 3) := by decide +kernel
theorem dX10_tear_77 : decode cX10_tear 77 = .ok (.iconst 0, 1) := by decide +kernel
theorem dX10_tear_78 : decode cX10_tear 78 = .ok (.istore 5, 2) := by decide +kernel
theorem dX10_tear_80 : decode cX10_tear 80 = .ok (.iconst 0, 1) := by decide +kernel
theorem dX10_tear_81 : decode cX10_tear 81 = .ok (.istore 6, 2) := by decide +kernel
theorem dX10_tear_83 : decode cX10_tear 83 = .ok (.iload 6, 2) := by decide +kernel
theorem dX10_tear_85 : decode cX10_tear 85 = .ok (.aload_n 0, 1) := by decide +kernel
theorem dX10_tear_86 : decode cX10_tear 86 = .ok (.getfield 249, 3) := by decide +kernel
theorem dX10_tear_89 : decode cX10_tear 89 = .ok (.if_icmp .ge 47, 3) := by decide +kernel
theorem dX10_tear_92 : decode cX10_tear 92 = .ok (.aload_n 0, 1) := by decide +kernel
theorem dX10_tear_93 : decode cX10_tear 93 = .ok (.getfield 23, 3) := by decide +kernel
theorem dX10_tear_96 : decode cX10_tear 96 = .ok (.iload 6, 2) := by decide +kernel
theorem dX10_tear_98 : decode cX10_tear 98 = .ok (.aaload, 1) := by decide +kernel
theorem dX10_tear_99 : decode cX10_tear 99 = .ok (.getfield 255, 3) := by decide +kernel
theorem dX10_tear_102 : decode cX10_tear 102 = .ok (.aload_n 3, 1) := by decide +kernel
theorem dX10_tear_103 : decode cX10_tear 103 = .ok (.if_acmp .ne 27, 3) := by decide +kernel
theorem dX10_tear_106 : decode cX10_tear 106 = .ok (.aload_n 0, 1) := by decide +kernel
theorem dX10_tear_107 : decode cX10_tear 107 = .ok (.getfield 23, 3) := by decide +kernel
theorem dX10_tear_110 : decode cX10_tear 110 = .ok (.iload 6, 2) := by decide +kernel
theorem dX10_tear_112 : decode cX10_tear 112 = .ok (.aaload, 1) := by decide +kernel
theorem dX10_tear_113 : decode cX10_tear 113 = .ok (.iload 5, 2) := by decide +kernel
theorem dX10_tear_115 : decode cX10_tear 115 = .ok (.iload_n 2, 1) := by decide +kernel
theorem dX10_tear_116 : decode cX10_tear 116 = .ok (.if_icmp .lt 7, 3) := by decide +kernel
theorem dX10_tear_119 : decode cX10_tear 119 = .ok (.iconst 1, 1) := by decide +kernel
theorem dX10_tear_120 : decode cX10_tear 120 = .ok (.goto 4, 3) := by decide +kernel
theorem dX10_tear_123 : decode cX10_tear 123 = .ok (.iconst 0, 1) := by decide +kernel
theorem dX10_tear_124 : decode cX10_tear 124 = .ok (.putfield 306, 3) := by decide +kernel
theorem dX10_tear_127 : decode cX10_tear 127 = .ok (.iinc 5 1, 3) := by decide +kernel
theorem dX10_tear_130 : decode cX10_tear 130 = .ok (.iinc 6 1, 3) := by decide +kernel
theorem dX10_tear_133 : decode cX10_tear 133 = .ok (.goto (-50), 3) := by decide +kernel
theorem dX10_tear_136 : decode cX10_tear 136 = .ok (.iload 4, 2) := by decide +kernel
theorem dX10_tear_138 : decode cX10_tear 138 = .ok (.iload_n 2, 1) := by decide +kernel
theorem dX10_tear_139 : decode cX10_tear 139 = .ok (.isub, 1) := by decide +kernel
theorem dX10_tear_140 : decode cX10_tear 140 = .ok (.ireturn, 1) := by decide +kernel
theorem dX10_ask_0 : decode cX10_ask 0 = .ok (.aload_n 0, 1) := by decide +kernel
theorem dX10_ask_1 : decode cX10_ask 1 = .ok (.iload_n 1, 1) := by decide +kernel
theorem dX10_ask_2 : decode cX10_ask 2 = .ok (.invokevirtual 196, 3) := by decide +kernel
theorem dX10_ask_5 : decode cX10_ask 5 = .ok (.astore_n 3, 1) := by decide +kernel
theorem dX10_ask_6 : decode cX10_ask 6 = .ok (.aload_n 3, 1) := by decide +kernel
theorem dX10_ask_7 : decode cX10_ask 7 = .ok (.ifnonnull 5, 3) := by decide +kernel
theorem dX10_ask_10 : decode cX10_ask 10 = .ok (.iconst (-1), 1) := by decide +kernel
theorem dX10_ask_11 : decode cX10_ask 11 = .ok (.ireturn, 1) := by decide +kernel
theorem dX10_ask_12 : decode cX10_ask 12 = .ok (.iload_n 2, 1) := by decide +kernel
theorem dX10_ask_13 : decode cX10_ask 13 = .ok (.tableswitch 207 0 13 #[71, 76, 84, 89, 94, 99, 104, 112, 129, 137, 156, 175, 180, 199], 71) := by decide +kernel
theorem dX10_ask_84 : decode cX10_ask 84 = .ok (.aload_n 3, 1) := by decide +kernel
theorem dX10_ask_85 : decode cX10_ask 85 = .ok (.getfield 309, 3) := by decide +kernel
theorem dX10_ask_88 : decode cX10_ask 88 = .ok (.ireturn, 1) := by decide +kernel
theorem dX10_ask_89 : decode cX10_ask 89 = .ok (.aload_n 3, 1) := by decide +kernel
theorem dX10_ask_90 : decode cX10_ask 90 = .ok (.getfield 255, 3) := by decide +kernel
theorem dX10_ask_93 : decode cX10_ask 93 = .ok (.getfield 121, 3) := by decide +kernel
theorem dX10_ask_96 : decode cX10_ask 96 = .ok (.ireturn, 1) := by decide +kernel
theorem dX10_ask_97 : decode cX10_ask 97 = .ok (.aload_n 3, 1) := by decide +kernel
theorem dX10_ask_98 : decode cX10_ask 98 = .ok (.getfield 252, 3) := by decide +kernel
theorem dX10_ask_101 : decode cX10_ask 101 = .ok (.ireturn, 1) := by decide +kernel
theorem dX10_ask_102 : decode cX10_ask 102 = .ok (.aload_n 3, 1) := by decide +kernel
theorem dX10_ask_103 : decode cX10_ask 103 = .ok (.getfield 312, 3) := by decide +kernel
theorem dX10_ask_106 : decode cX10_ask 106 = .ok (.ireturn, 1) := by decide +kernel
theorem dX10_ask_107 : decode cX10_ask 107 = .ok (.aload_n 3, 1) := by decide +kernel
theorem dX10_ask_108 : decode cX10_ask 108 = .ok (.getfield 216, 3) := by decide +kernel
theorem dX10_ask_111 : decode cX10_ask 111 = .ok (.ireturn, 1) := by decide +kernel
theorem dX10_ask_112 : decode cX10_ask 112 = .ok (.aload_n 3, 1) := by decide +kernel
theorem dX10_ask_113 : decode cX10_ask 113 = .ok (.getfield 258, 3) := by decide +kernel
theorem dX10_ask_116 : decode cX10_ask 116 = .ok (.ireturn, 1) := by decide +kernel
theorem dX10_ask_117 : decode cX10_ask 117 = .ok (.aload_n 3, 1) := by decide +kernel
theorem dX10_ask_118 : decode cX10_ask 118 = .ok (.getfield 290, 3) := by decide +kernel
theorem dX10_ask_121 : decode cX10_ask 121 = .ok (.invokestatic 138, 3) := by decide +kernel
theorem dX10_ask_124 : decode cX10_ask 124 = .ok (.ireturn, 1) := by decide +kernel
theorem dX10_ask_125 : decode cX10_ask 125 = .ok (.aload_n 3, 1) := by decide +kernel
theorem dX10_ask_126 : decode cX10_ask 126 = .ok (.getfield 303, 3) := by decide +kernel
theorem dX10_ask_129 : decode cX10_ask 129 = .ok (.iconst (-1), 1) := by decide +kernel
theorem dX10_ask_130 : decode cX10_ask 130 = .ok (.if_icmp .eq 7, 3) := by decide +kernel
theorem dX10_ask_133 : decode cX10_ask 133 = .ok (.iconst 1, 1) := by decide +kernel
theorem dX10_ask_134 : decode cX10_ask 134 = .ok (.goto 4, 3) := by decide +kernel
theorem dX10_ask_137 : decode cX10_ask 137 = .ok (.iconst 0, 1) := by decide +kernel
theorem dX10_ask_138 : decode cX10_ask 138 = .ok (.invokestatic 138, 3) := by decide +kernel
theorem dX10_ask_141 : decode cX10_ask 141 = .ok (.ireturn, 1) := by decide +kernel
theorem dX10_ask_142 : decode cX10_ask 142 = .ok (.aload_n 3, 1) := by decide +kernel
theorem dX10_ask_143 : decode cX10_ask 143 = .ok (.getfield 306, 3) := by decide +kernel
theorem dX10_ask_146 : decode cX10_ask 146 = .ok (.invokestatic 138, 3) := by decide +kernel
theorem dX10_ask_149 : decode cX10_ask 149 = .ok (.ireturn, 1) := by decide +kernel
theorem dX10_ask_150 : decode cX10_ask 150 = .ok (.aload_n 3, 1) := by decide +kernel
theorem dX10_ask_151 : decode cX10_ask 151 = .ok (.getfield 315, 3) := by decide +kernel
theorem dX10_ask_154 : decode cX10_ask 154 = .ok (.ifnonnull 7, 3) := by decide +kernel
theorem dX10_ask_157 : decode cX10_ask 157 = .ok (.iconst (-1), 1) := by decide +kernel
theorem dX10_ask_158 : decode cX10_ask 158 = .ok (.goto 10, 3) := by decide +kernel
theorem dX10_ask_161 : decode cX10_ask 161 = .ok (.aload_n 3, 1) := by decide +kernel
theorem dX10_ask_162 : decode cX10_ask 162 = .ok (.getfield 315, 3) := by decide +kernel
theorem dX10_ask_165 : decode cX10_ask 165 = .ok (.getfield 204, 3) := by decide +kernel
theorem dX10_ask_168 : decode cX10_ask 168 = .ok (.ireturn, 1) := by decide +kernel
theorem dX10_ask_169 : decode cX10_ask 169 = .ok (.aload_n 3, 1) := by decide +kernel
theorem dX10_ask_170 : decode cX10_ask 170 = .ok (.getfield 318, 3) := by decide +kernel
theorem dX10_ask_173 : decode cX10_ask 173 = .ok (.ifnonnull 7, 3) := by decide +kernel
theorem dX10_ask_176 : decode cX10_ask 176 = .ok (.iconst (-1), 1) := by decide +kernel
theorem dX10_ask_177 : decode cX10_ask 177 = .ok (.goto 10, 3) := by decide +kernel
theorem dX10_ask_180 : decode cX10_ask 180 = .ok (.aload_n 3, 1) := by decide +kernel
theorem dX10_ask_181 : decode cX10_ask 181 = .ok (.getfield 318, 3) := by decide +kernel
theorem dX10_ask_184 : decode cX10_ask 184 = .ok (.getfield 121, 3) := by decide +kernel
theorem dX10_ask_187 : decode cX10_ask 187 = .ok (.ireturn, 1) := by decide +kernel
theorem dX10_ask_188 : decode cX10_ask 188 = .ok (.aload_n 3, 1) := by decide +kernel
theorem dX10_ask_189 : decode cX10_ask 189 = .ok (.getfield 289, 3) := by decide +kernel
theorem dX10_ask_192 : decode cX10_ask 192 = .ok (.ireturn, 1) := by decide +kernel
theorem dX10_ask_193 : decode cX10_ask 193 = .ok (.aload_n 3, 1) := by decide +kernel
theorem dX10_ask_194 : decode cX10_ask 194 = .ok (.getfield 245, 3) := by decide +kernel
theorem dX10_ask_197 : decode cX10_ask 197 = .ok (.ifnonnull 7, 3) := by decide +kernel
theorem dX10_ask_200 : decode cX10_ask 200 = .ok (.iconst (-1), 1) := by decide +kernel
theorem dX10_ask_201 : decode cX10_ask 201 = .ok (.goto 10, 3) := by decide +kernel
theorem dX10_ask_204 : decode cX10_ask 204 = .ok (.aload_n 3, 1) := by decide +kernel
theorem dX10_ask_205 : decode cX10_ask 205 = .ok (.getfield 245, 3) := by decide +kernel
theorem dX10_ask_208 : decode cX10_ask 208 = .ok (.getfield 321, 3) := by decide +kernel
theorem dX10_ask_211 : decode cX10_ask 211 = .ok (.ireturn, 1) := by decide +kernel
theorem dX10_ask_212 : decode cX10_ask 212 = .ok (.aload_n 3, 1) := by decide +kernel
theorem dX10_ask_213 : decode cX10_ask 213 = .ok (.getfield 322, 3) := by decide +kernel
theorem dX10_ask_216 : decode cX10_ask 216 = .ok (.invokestatic 138, 3) := by decide +kernel
theorem dX10_ask_219 : decode cX10_ask 219 = .ok (.ireturn, 1) := by decide +kernel
theorem dX10_ask_220 : decode cX10_ask 220 = .ok (.iconst (-1), 1) := by decide +kernel
theorem dX10_ask_221 : decode cX10_ask 221 = .ok (.ireturn, 1) := by decide +kernel
theorem dX10_less_0 : decode cX10_less 0 = .ok (.aload_n 0, 1) := by decide +kernel
theorem dX10_less_1 : decode cX10_less 1 = .ok (.iload_n 1, 1) := by decide +kernel
theorem dX10_less_2 : decode cX10_less 2 = .ok (.invokevirtual 196, 3) := by decide +kernel
theorem dX10_less_5 : decode cX10_less 5 = .ok (.astore_n 2, 1) := by decide +kernel
theorem dX10_less_6 : decode cX10_less 6 = .ok (.aload_n 2, 1) := by decide +kernel
theorem dX10_less_7 : decode cX10_less 7 = .ok (.ifnull 10, 3) := by decide +kernel
theorem dX10_less_10 : decode cX10_less 10 = .ok (.aload_n 2, 1) := by decide +kernel
theorem dX10_less_11 : decode cX10_less 11 = .ok (.getfield 315, 3) := by decide +kernel
theorem dX10_less_14 : decode cX10_less 14 = .ok (.ifnonnull 9, 3) := by decide +kernel
theorem dX10_less_17 : decode cX10_less 17 = .ok (.sipush 1000, 3) := by decide +kernel
theorem dX10_less_20 : decode cX10_less 20 = .ok (.goto 15, 3) := by decide +kernel
theorem dX10_less_23 : decode cX10_less 23 = .ok (.aload_n 2, 1) := by decide +kernel
theorem dX10_less_24 : decode cX10_less 24 = .ok (.getfield 216, 3) := by decide +kernel
theorem dX10_less_27 : decode cX10_less 27 = .ok (.aload_n 2, 1) := by decide +kernel
theorem dX10_less_28 : decode cX10_less 28 = .ok (.getfield 315, 3) := by decide +kernel
theorem dX10_less_31 : decode cX10_less 31 = .ok (.getfield 216, 3) := by decide +kernel
theorem dX10_less_34 : decode cX10_less 34 = .ok (.isub, 1) := by decide +kernel
theorem dX10_less_35 : decode cX10_less 35 = .ok (.ireturn, 1) := by decide +kernel
theorem dX10_part_0 : decode cX10_part 0 = .ok (.aload_n 0, 1) := by decide +kernel
theorem dX10_part_1 : decode cX10_part 1 = .ok (.iload_n 1, 1) := by decide +kernel
theorem dX10_part_2 : decode cX10_part 2 = .ok (.invokevirtual 196, 3) := by decide +kernel
theorem dX10_part_5 : decode cX10_part 5 = .ok (.astore_n 3, 1) := by decide +kernel
theorem dX10_part_6 : decode cX10_part 6 = .ok (.aload_n 3, 1) := by decide +kernel
theorem dX10_part_7 : decode cX10_part 7 = .ok (.ifnull 25, 3) := by decide +kernel
theorem dX10_part_10 : decode cX10_part 10 = .ok (.aload_n 3, 1) := by decide +kernel
theorem dX10_part_11 : decode cX10_part 11 = .ok (.getfield 325, 3) := by decide +kernel
theorem dX10_part_14 : decode cX10_part 14 = .ok (.ifnull 18, 3) := by decide +kernel
theorem dX10_part_17 : decode cX10_part 17 = .ok (.iload_n 2, 1) := by decide +kernel
theorem dX10_part_18 : decode cX10_part 18 = .ok (.iconst 0, 1) := by decide +kernel
theorem dX10_part_19 : decode cX10_part 19 = .ok (.aload_n 3, 1) := by decide +kernel
theorem dX10_part_20 : decode cX10_part 20 = .ok (.getfield 325, 3) := by decide +kernel
theorem dX10_part_23 : decode cX10_part 23 = .ok (.arraylength, 1) := by decide +kernel
theorem dX10_part_24 : decode cX10_part 24 = .ok (.iconst 1, 1) := by decide +kernel
theorem dX10_part_25 : decode cX10_part 25 = .ok (.isub, 1) := by decide +kernel
theorem dX10_part_26 : decode cX10_part 26 = .ok (.invokestatic 99, 3) := by decide +kernel
theorem dX10_part_29 : decode cX10_part 29 = .ok (.ifCond .ne 5, 3) := by decide +kernel
theorem dX10_part_32 : decode cX10_part 32 = .ok (.iconst (-1), 1) := by decide +kernel
theorem dX10_part_33 : decode cX10_part 33 = .ok (.ireturn, 1) := by decide +kernel
theorem dX10_part_34 : decode cX10_part 34 = .ok (.aload_n 3, 1) := by decide +kernel
theorem dX10_part_35 : decode cX10_part 35 = .ok (.getfield 325, 3) := by decide +kernel
theorem dX10_part_38 : decode cX10_part 38 = .ok (.iload_n 2, 1) := by decide +kernel
theorem dX10_part_39 : decode cX10_part 39 = .ok (.aaload, 1) := by decide +kernel
theorem dX10_part_40 : decode cX10_part 40 = .ok (.getfield 204, 3) := by decide +kernel
theorem dX10_part_43 : decode cX10_part 43 = .ok (.ireturn, 1) := by decide +kernel
theorem dX10_end_0 : decode cX10_end 0 = .ok (.aload_n 0, 1) := by decide +kernel
theorem dX10_end_1 : decode cX10_end 1 = .ok (.iload_n 1, 1) := by decide +kernel
theorem dX10_end_2 : decode cX10_end 2 = .ok (.invokevirtual 196, 3) := by decide +kernel
theorem dX10_end_5 : decode cX10_end 5 = .ok (.astore_n 2, 1) := by decide +kernel
theorem dX10_end_6 : decode cX10_end 6 = .ok (.aload_n 2, 1) := by decide +kernel
theorem dX10_end_7 : decode cX10_end 7 = .ok (.ifnonnull 7, 3) := by decide +kernel
theorem dX10_end_10 : decode cX10_end 10 = .ok (.iconst (-1), 1) := by decide +kernel
theorem dX10_end_11 : decode cX10_end 11 = .ok (.goto 10, 3) := by decide +kernel
theorem dX10_end_14 : decode cX10_end 14 = .ok (.aload_n 2, 1) := by decide +kernel
theorem dX10_end_15 : decode cX10_end 15 = .ok (.invokestatic 328, 3) := by decide +kernel
theorem dX10_end_18 : decode cX10_end 18 = .ok (.getfield 204, 3) := by decide +kernel
theorem dX10_end_21 : decode cX10_end 21 = .ok (.ireturn, 1) := by decide +kernel
theorem dX10_lost_0 : decode cX10_lost 0 = .ok (.aload_n 0, 1) := by decide +kernel
theorem dX10_lost_1 : decode cX10_lost 1 = .ok (.iload_n 1, 1) := by decide +kernel
theorem dX10_lost_2 : decode cX10_lost 2 = .ok (.invokevirtual 196, 3) := by decide +kernel
theorem dX10_lost_5 : decode cX10_lost 5 = .ok (.astore_n 2, 1) := by decide +kernel
theorem dX10_lost_6 : decode cX10_lost 6 = .ok (.aload_n 2, 1) := by decide +kernel
theorem dX10_lost_7 : decode cX10_lost 7 = .ok (.ifnonnull 5, 3) := by decide +kernel
theorem dX10_lost_10 : decode cX10_lost 10 = .ok (.iconst (-1), 1) := by decide +kernel
theorem dX10_lost_11 : decode cX10_lost 11 = .ok (.ireturn, 1) := by decide +kernel
theorem dX10_lost_12 : decode cX10_lost 12 = .ok (.aload_n 2, 1) := by decide +kernel
theorem dX10_lost_13 : decode cX10_lost 13 = .ok (.invokestatic 328, 3) := by decide +kernel
theorem dX10_lost_16 : decode cX10_lost 16 = .ok (.getfield 318, 3) := by decide +kernel
theorem dX10_lost_19 : decode cX10_lost 19 = .ok (.astore_n 3, 1) := by decide +kernel
theorem dX10_lost_20 : decode cX10_lost 20 = .ok (.aload_n 3, 1) := by decide +kernel
theorem dX10_lost_21 : decode cX10_lost 21 = .ok (.ifnonnull 7, 3) := by decide +kernel
theorem dX10_lost_24 : decode cX10_lost 24 = .ok (.iconst (-1), 1) := by decide +kernel
theorem dX10_lost_25 : decode cX10_lost 25 = .ok (.goto 7, 3) := by decide +kernel
theorem dX10_lost_28 : decode cX10_lost 28 = .ok (.aload_n 3, 1) := by decide +kernel
theorem dX10_lost_29 : decode cX10_lost 29 = .ok (.getfield 121, 3) := by decide +kernel
theorem dX10_lost_32 : decode cX10_lost 32 = .ok (.ireturn, 1) := by decide +kernel
theorem dX10_book_0 : decode cX10_book 0 = .ok (.aload_n 0, 1) := by decide +kernel
theorem dX10_book_1 : decode cX10_book 1 = .ok (.iload_n 1, 1) := by decide +kernel
theorem dX10_book_2 : decode cX10_book 2 = .ok (.invokevirtual 91, 3) := by decide +kernel
theorem dX10_book_5 : decode cX10_book 5 = .ok (.astore_n 3, 1) := by decide +kernel
theorem dX10_book_6 : decode cX10_book 6 = .ok (.aload_n 3, 1) := by decide +kernel
theorem dX10_book_7 : decode cX10_book 7 = .ok (.ifnull 7, 3) := by decide +kernel
theorem dX10_book_10 : decode cX10_book 10 = .ok (.iload_n 2, 1) := by decide +kernel
theorem dX10_book_11 : decode cX10_book 11 = .ok (.ifCond .ge 5, 3) := by decide +kernel
theorem dX10_book_14 : decode cX10_book 14 = .ok (.iconst (-1), 1) := by decide +kernel
theorem dX10_book_15 : decode cX10_book 15 = .ok (.ireturn, 1) := by decide +kernel
theorem dX10_book_16 : decode cX10_book 16 = .ok (.iload_n 2, 1) := by decide +kernel
theorem dX10_book_17 : decode cX10_book 17 = .ok (.istore 4, 2) := by decide +kernel
theorem dX10_book_19 : decode cX10_book 19 = .ok (.iconst 0, 1) := by decide +kernel
theorem dX10_book_20 : decode cX10_book 20 = .ok (.istore 5, 2) := by decide +kernel
theorem dX10_book_22 : decode cX10_book 22 = .ok (.iload 5, 2) := by decide +kernel
theorem dX10_book_24 : decode cX10_book 24 = .ok (.aload_n 0, 1) := by decide +kernel
theorem dX10_book_25 : decode cX10_book 25 = .ok (.getfield 249, 3) := by decide +kernel
theorem dX10_book_28 : decode cX10_book 28 = .ok (.if_icmp .ge 34, 3) := by decide +kernel
theorem dX10_book_31 : decode cX10_book 31 = .ok (.aload_n 0, 1) := by decide +kernel
theorem dX10_book_32 : decode cX10_book 32 = .ok (.getfield 23, 3) := by decide +kernel
theorem dX10_book_35 : decode cX10_book 35 = .ok (.iload 5, 2) := by decide +kernel
theorem dX10_book_37 : decode cX10_book 37 = .ok (.aaload, 1) := by decide +kernel
theorem dX10_book_38 : decode cX10_book 38 = .ok (.getfield 255, 3) := by decide +kernel
theorem dX10_book_41 : decode cX10_book 41 = .ok (.aload_n 3, 1) := by decide +kernel
theorem dX10_book_42 : decode cX10_book 42 = .ok (.if_acmp .ne 14, 3) := by decide +kernel
theorem dX10_book_45 : decode cX10_book 45 = .ok (.iload 4, 2) := by decide +kernel
theorem dX10_book_47 : decode cX10_book 47 = .ok (.ifCond .ne 6, 3) := by decide +kernel
theorem dX10_book_50 : decode cX10_book 50 = .ok (.iload 5, 2) := by decide +kernel
theorem dX10_book_52 : decode cX10_book 52 = .ok (.ireturn, 1) := by decide +kernel
theorem dX10_book_53 : decode cX10_book 53 = .ok (.iinc 4 (-1), 3) := by decide +kernel
theorem dX10_book_56 : decode cX10_book 56 = .ok (.iinc 5 1, 3) := by decide +kernel
theorem dX10_book_59 : decode cX10_book 59 = .ok (.goto (-37), 3) := by decide +kernel
theorem dX10_book_62 : decode cX10_book 62 = .ok (.iconst (-1), 1) := by decide +kernel
theorem dX10_book_63 : decode cX10_book 63 = .ok (.ireturn, 1) := by decide +kernel
theorem dX10_mayWrite_0 : decode cX10_mayWrite 0 = .ok (.aload_n 1, 1) := by decide +kernel
theorem dX10_mayWrite_1 : decode cX10_mayWrite 1 = .ok (.getfield 103, 3) := by decide +kernel
theorem dX10_mayWrite_4 : decode cX10_mayWrite 4 = .ok (.ifCond .ne 11, 3) := by decide +kernel
theorem dX10_mayWrite_7 : decode cX10_mayWrite 7 = .ok (.aload_n 1, 1) := by decide +kernel
theorem dX10_mayWrite_8 : decode cX10_mayWrite 8 = .ok (.getfield 147, 3) := by decide +kernel
theorem dX10_mayWrite_11 : decode cX10_mayWrite 11 = .ok (.iconst (-1), 1) := by decide +kernel
theorem dX10_mayWrite_12 : decode cX10_mayWrite 12 = .ok (.if_icmp .eq 5, 3) := by decide +kernel
theorem dX10_mayWrite_15 : decode cX10_mayWrite 15 = .ok (.iconst 0, 1) := by decide +kernel
theorem dX10_mayWrite_16 : decode cX10_mayWrite 16 = .ok (.ireturn, 1) := by decide +kernel
theorem dX10_mayWrite_17 : decode cX10_mayWrite 17 = .ok (.iconst 0, 1) := by decide +kernel
theorem dX10_mayWrite_18 : decode cX10_mayWrite 18 = .ok (.istore 4, 2) := by decide +kernel
theorem dX10_mayWrite_20 : decode cX10_mayWrite 20 = .ok (.iload 4, 2) := by decide +kernel
theorem dX10_mayWrite_22 : decode cX10_mayWrite 22 = .ok (.aload_n 0, 1) := by decide +kernel
theorem dX10_mayWrite_23 : decode cX10_mayWrite 23 = .ok (.getfield 249, 3) := by decide +kernel
theorem dX10_mayWrite_26 : decode cX10_mayWrite 26 = .ok (.if_icmp .ge 53, 3) := by decide +kernel
theorem dX10_mayWrite_29 : decode cX10_mayWrite 29 = .ok (.aload_n 0, 1) := by decide +kernel
theorem dX10_mayWrite_30 : decode cX10_mayWrite 30 = .ok (.getfield 23, 3) := by decide +kernel
theorem dX10_mayWrite_33 : decode cX10_mayWrite 33 = .ok (.iload 4, 2) := by decide +kernel
theorem dX10_mayWrite_35 : decode cX10_mayWrite 35 = .ok (.aaload, 1) := by decide +kernel
theorem dX10_mayWrite_36 : decode cX10_mayWrite 36 = .ok (.getfield 255, 3) := by decide +kernel
theorem dX10_mayWrite_39 : decode cX10_mayWrite 39 = .ok (.aload_n 1, 1) := by decide +kernel
theorem dX10_mayWrite_40 : decode cX10_mayWrite 40 = .ok (.if_acmp .ne 33, 3) := by decide +kernel
theorem dX10_mayWrite_43 : decode cX10_mayWrite 43 = .ok (.aload_n 0, 1) := by decide +kernel
theorem dX10_mayWrite_44 : decode cX10_mayWrite 44 = .ok (.getfield 23, 3) := by decide +kernel
theorem dX10_mayWrite_47 : decode cX10_mayWrite 47 = .ok (.iload 4, 2) := by decide +kernel
theorem dX10_mayWrite_49 : decode cX10_mayWrite 49 = .ok (.aaload, 1) := by decide +kernel
theorem dX10_mayWrite_50 : decode cX10_mayWrite 50 = .ok (.invokevirtual 300, 3) := by decide +kernel
theorem dX10_mayWrite_53 : decode cX10_mayWrite 53 = .ok (.ifCond .eq 20, 3) := by decide +kernel
theorem dX10_mayWrite_56 : decode cX10_mayWrite 56 = .ok (.aload_n 0, 1) := by decide +kernel
theorem dX10_mayWrite_57 : decode cX10_mayWrite 57 = .ok (.getfield 23, 3) := by decide +kernel
theorem dX10_mayWrite_60 : decode cX10_mayWrite 60 = .ok (.iload 4, 2) := by decide +kernel
theorem dX10_mayWrite_62 : decode cX10_mayWrite 62 = .ok (.aaload, 1) := by decide +kernel
theorem dX10_mayWrite_63 : decode cX10_mayWrite 63 = .ok (.iload_n 2, 1) := by decide +kernel
theorem dX10_mayWrite_64 : decode cX10_mayWrite 64 = .ok (.iload_n 3, 1) := by decide +kernel
theorem dX10_mayWrite_65 : decode cX10_mayWrite 65 = .ok (.invokevirtual 332, 3) := by decide +kernel
theorem dX10_mayWrite_68 : decode cX10_mayWrite 68 = .ok (.ifCond .eq 5, 3) := by decide +kernel
theorem dX10_mayWrite_71 : decode cX10_mayWrite 71 = .ok (.iconst 0, 1) := by decide +kernel
theorem dX10_mayWrite_72 : decode cX10_mayWrite 72 = .ok (.ireturn, 1) := by decide +kernel
theorem dX10_mayWrite_73 : decode cX10_mayWrite 73 = .ok (.iinc 4 1, 3) := by decide +kernel
theorem dX10_mayWrite_76 : decode cX10_mayWrite 76 = .ok (.goto (-56), 3) := by decide +kernel
theorem dX10_mayWrite_79 : decode cX10_mayWrite 79 = .ok (.iconst 1, 1) := by decide +kernel
theorem dX10_mayWrite_80 : decode cX10_mayWrite 80 = .ok (.ireturn, 1) := by decide +kernel
theorem dX10_borrow_0 : decode cX10_borrow 0 = .ok (.iconst 0, 1) := by decide +kernel
theorem dX10_borrow_1 : decode cX10_borrow 1 = .ok (.istore_n 2, 1) := by decide +kernel
theorem dX10_borrow_2 : decode cX10_borrow 2 = .ok (.iload_n 2, 1) := by decide +kernel
theorem dX10_borrow_3 : decode cX10_borrow 3 = .ok (.aload_n 0, 1) := by decide +kernel
theorem dX10_borrow_4 : decode cX10_borrow 4 = .ok (.getfield 219, 3) := by decide +kernel
theorem dX10_borrow_7 : decode cX10_borrow 7 = .ok (.if_icmp .ge 99, 3) := by decide +kernel
theorem dX10_borrow_10 : decode cX10_borrow 10 = .ok (.aload_n 0, 1) := by decide +kernel
theorem dX10_borrow_11 : decode cX10_borrow 11 = .ok (.getfield 29, 3) := by decide +kernel
theorem dX10_borrow_14 : decode cX10_borrow 14 = .ok (.iload_n 2, 1) := by decide +kernel
theorem dX10_borrow_15 : decode cX10_borrow 15 = .ok (.aaload, 1) := by decide +kernel
theorem dX10_borrow_16 : decode cX10_borrow 16 = .ok (.astore_n 3, 1) := by decide +kernel
theorem dX10_borrow_17 : decode cX10_borrow 17 = .ok (.aload_n 3, 1) := by decide +kernel
theorem dX10_borrow_18 : decode cX10_borrow 18 = .ok (.getfield 335, 3) := by decide +kernel
theorem dX10_borrow_21 : decode cX10_borrow 21 = .ok (.aload_n 1, 1) := by decide +kernel
theorem dX10_borrow_22 : decode cX10_borrow 22 = .ok (.getfield 252, 3) := by decide +kernel
theorem dX10_borrow_25 : decode cX10_borrow 25 = .ok (.if_icmp .ne 75, 3) := by decide +kernel
theorem dX10_borrow_28 : decode cX10_borrow 28 = .ok (.aload_n 3, 1) := by decide +kernel
theorem dX10_borrow_29 : decode cX10_borrow 29 = .ok (.aload_n 1, 1) := by decide +kernel
theorem dX10_borrow_30 : decode cX10_borrow 30 = .ok (.getfield 255, 3) := by decide +kernel
theorem dX10_borrow_33 : decode cX10_borrow 33 = .ok (.invokestatic 233, 3) := by decide +kernel
theorem dX10_borrow_36 : decode cX10_borrow 36 = .ok (.aload_n 0, 1) := by decide +kernel
theorem dX10_borrow_37 : decode cX10_borrow 37 = .ok (.getfield 114, 3) := by decide +kernel
theorem dX10_borrow_40 : decode cX10_borrow 40 = .ok (.if_icmp .gt 60, 3) := by decide +kernel
theorem dX10_borrow_43 : decode cX10_borrow 43 = .ok (.aload_n 0, 1) := by decide +kernel
theorem dX10_borrow_44 : decode cX10_borrow 44 = .ok (.aload_n 1, 1) := by decide +kernel
theorem dX10_borrow_45 : decode cX10_borrow 45 = .ok (.getfield 237, 3) := by decide +kernel
theorem dX10_borrow_48 : decode cX10_borrow 48 = .ok (.aload_n 3, 1) := by decide +kernel
theorem dX10_borrow_49 : decode cX10_borrow 49 = .ok (.getfield 240, 3) := by decide +kernel
theorem dX10_borrow_52 : decode cX10_borrow 52 = .ok (.invokevirtual 241, 3) := by decide +kernel
theorem dX10_borrow_55 : decode cX10_borrow 55 = .ok (.istore 4, 2) := by decide +kernel
theorem dX10_borrow_57 : decode cX10_borrow 57 = .ok (.iload 4, 2) := by decide +kernel
theorem dX10_borrow_59 : decode cX10_borrow 59 = .ok (.iconst 3, 1) := by decide +kernel
theorem dX10_borrow_60 : decode cX10_borrow 60 = .ok (.if_icmp .lt 40, 3) := by decide +kernel
theorem dX10_borrow_63 : decode cX10_borrow 63 = .ok (.iconst 2, 1) := by decide +kernel
theorem dX10_borrow_64 : decode cX10_borrow 64 = .ok (.iload 4, 2) := by decide +kernel
theorem dX10_borrow_66 : decode cX10_borrow 66 = .ok (.imul, 1) := by decide +kernel
theorem dX10_borrow_67 : decode cX10_borrow 67 = .ok (.aload_n 1, 1) := by decide +kernel
theorem dX10_borrow_68 : decode cX10_borrow 68 = .ok (.getfield 237, 3) := by decide +kernel
theorem dX10_borrow_71 : decode cX10_borrow 71 = .ok (.arraylength, 1) := by decide +kernel
theorem dX10_borrow_72 : decode cX10_borrow 72 = .ok (.if_icmp .lt 28, 3) := by decide +kernel
theorem dX10_borrow_75 : decode cX10_borrow 75 = .ok (.iload 4, 2) := by decide +kernel
theorem dX10_borrow_77 : decode cX10_borrow 77 = .ok (.aload_n 1, 1) := by decide +kernel
