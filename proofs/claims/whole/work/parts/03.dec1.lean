theorem dX0_init_0 : decode cX0_init 0 = .ok (.aload_n 0, 1) := by decide +kernel
theorem dX0_init_1 : decode cX0_init 1 = .ok (.invokespecial 1, 3) := by decide +kernel
theorem dX0_init_4 : decode cX0_init 4 = .ok (.return_, 1) := by decide +kernel
theorem dX1_init_0 : decode cX1_init 0 = .ok (.aload_n 0, 1) := by decide +kernel
theorem dX1_init_1 : decode cX1_init 1 = .ok (.invokespecial 3, 3) := by decide +kernel
theorem dX1_init_4 : decode cX1_init 4 = .ok (.return_, 1) := by decide +kernel
theorem dX1_bitsFor_0 : decode cX1_bitsFor 0 = .ok (.aload_n 1, 1) := by decide +kernel
theorem dX1_bitsFor_1 : decode cX1_bitsFor 1 = .ok (.invokevirtual 9, 3) := by decide +kernel
theorem dX1_bitsFor_4 : decode cX1_bitsFor 4 = .ok (.istore_n 2, 1) := by decide +kernel
theorem dX1_bitsFor_5 : decode cX1_bitsFor 5 = .ok (.bipush 13, 2) := by decide +kernel
theorem dX1_bitsFor_7 : decode cX1_bitsFor 7 = .ok (.istore_n 3, 1) := by decide +kernel
theorem dX1_bitsFor_8 : decode cX1_bitsFor 8 = .ok (.iconst (-1), 1) := by decide +kernel
theorem dX1_bitsFor_9 : decode cX1_bitsFor 9 = .ok (.istore 4, 2) := by decide +kernel
theorem dX1_bitsFor_11 : decode cX1_bitsFor 11 = .ok (.iconst 0, 1) := by decide +kernel
theorem dX1_bitsFor_12 : decode cX1_bitsFor 12 = .ok (.istore 5, 2) := by decide +kernel
theorem dX1_bitsFor_14 : decode cX1_bitsFor 14 = .ok (.iload 5, 2) := by decide +kernel
theorem dX1_bitsFor_16 : decode cX1_bitsFor 16 = .ok (.iload_n 2, 1) := by decide +kernel
theorem dX1_bitsFor_17 : decode cX1_bitsFor 17 = .ok (.if_icmp .ge 38, 3) := by decide +kernel
theorem dX1_bitsFor_20 : decode cX1_bitsFor 20 = .ok (.aload_n 1, 1) := by decide +kernel
theorem dX1_bitsFor_21 : decode cX1_bitsFor 21 = .ok (.iload 4, 2) := by decide +kernel
theorem dX1_bitsFor_23 : decode cX1_bitsFor 23 = .ok (.iconst 1, 1) := by decide +kernel
theorem dX1_bitsFor_24 : decode cX1_bitsFor 24 = .ok (.iadd, 1) := by decide +kernel
theorem dX1_bitsFor_25 : decode cX1_bitsFor 25 = .ok (.invokevirtual 15, 3) := by decide +kernel
theorem dX1_bitsFor_28 : decode cX1_bitsFor 28 = .ok (.istore 6, 2) := by decide +kernel
theorem dX1_bitsFor_30 : decode cX1_bitsFor 30 = .ok (.iload_n 3, 1) := by decide +kernel
theorem dX1_bitsFor_31 : decode cX1_bitsFor 31 = .ok (.iconst 2, 1) := by decide +kernel
theorem dX1_bitsFor_32 : decode cX1_bitsFor 32 = .ok (.iload 6, 2) := by decide +kernel
theorem dX1_bitsFor_34 : decode cX1_bitsFor 34 = .ok (.iload 4, 2) := by decide +kernel
theorem dX1_bitsFor_36 : decode cX1_bitsFor 36 = .ok (.isub, 1) := by decide +kernel
theorem dX1_bitsFor_37 : decode cX1_bitsFor 37 = .ok (.invokestatic 19, 3) := by decide +kernel
theorem dX1_bitsFor_40 : decode cX1_bitsFor 40 = .ok (.imul, 1) := by decide +kernel
theorem dX1_bitsFor_41 : decode cX1_bitsFor 41 = .ok (.iconst 1, 1) := by decide +kernel
theorem dX1_bitsFor_42 : decode cX1_bitsFor 42 = .ok (.isub, 1) := by decide +kernel
theorem dX1_bitsFor_43 : decode cX1_bitsFor 43 = .ok (.iadd, 1) := by decide +kernel
theorem dX1_bitsFor_44 : decode cX1_bitsFor 44 = .ok (.istore_n 3, 1) := by decide +kernel
theorem dX1_bitsFor_45 : decode cX1_bitsFor 45 = .ok (.iload 6, 2) := by decide +kernel
theorem dX1_bitsFor_47 : decode cX1_bitsFor 47 = .ok (.istore 4, 2) := by decide +kernel
theorem dX1_bitsFor_49 : decode cX1_bitsFor 49 = .ok (.iinc 5 1, 3) := by decide +kernel
theorem dX1_bitsFor_52 : decode cX1_bitsFor 52 = .ok (.goto (-38), 3) := by decide +kernel
theorem dX1_bitsFor_55 : decode cX1_bitsFor 55 = .ok (.iload_n 3, 1) := by decide +kernel
theorem dX1_bitsFor_56 : decode cX1_bitsFor 56 = .ok (.ireturn, 1) := by decide +kernel
theorem dX1_tell_0 : decode cX1_tell 0 = .ok (.aload_n 1, 1) := by decide +kernel
theorem dX1_tell_1 : decode cX1_tell 1 = .ok (.invokevirtual 9, 3) := by decide +kernel
theorem dX1_tell_4 : decode cX1_tell 4 = .ok (.istore_n 3, 1) := by decide +kernel
theorem dX1_tell_5 : decode cX1_tell 5 = .ok (.aload_n 2, 1) := by decide +kernel
theorem dX1_tell_6 : decode cX1_tell 6 = .ok (.iload_n 3, 1) := by decide +kernel
theorem dX1_tell_7 : decode cX1_tell 7 = .ok (.bipush 13, 2) := by decide +kernel
theorem dX1_tell_9 : decode cX1_tell 9 = .ok (.invokevirtual 24, 3) := by decide +kernel
theorem dX1_tell_12 : decode cX1_tell 12 = .ok (.iconst (-1), 1) := by decide +kernel
theorem dX1_tell_13 : decode cX1_tell 13 = .ok (.istore 4, 2) := by decide +kernel
theorem dX1_tell_15 : decode cX1_tell 15 = .ok (.iconst 0, 1) := by decide +kernel
theorem dX1_tell_16 : decode cX1_tell 16 = .ok (.istore 5, 2) := by decide +kernel
theorem dX1_tell_18 : decode cX1_tell 18 = .ok (.iload 5, 2) := by decide +kernel
theorem dX1_tell_20 : decode cX1_tell 20 = .ok (.iload_n 3, 1) := by decide +kernel
theorem dX1_tell_21 : decode cX1_tell 21 = .ok (.if_icmp .ge 53, 3) := by decide +kernel
theorem dX1_tell_24 : decode cX1_tell 24 = .ok (.aload_n 1, 1) := by decide +kernel
theorem dX1_tell_25 : decode cX1_tell 25 = .ok (.iload 4, 2) := by decide +kernel
theorem dX1_tell_27 : decode cX1_tell 27 = .ok (.iconst 1, 1) := by decide +kernel
theorem dX1_tell_28 : decode cX1_tell 28 = .ok (.iadd, 1) := by decide +kernel
theorem dX1_tell_29 : decode cX1_tell 29 = .ok (.invokevirtual 15, 3) := by decide +kernel
theorem dX1_tell_32 : decode cX1_tell 32 = .ok (.istore 6, 2) := by decide +kernel
theorem dX1_tell_34 : decode cX1_tell 34 = .ok (.iload 6, 2) := by decide +kernel
theorem dX1_tell_36 : decode cX1_tell 36 = .ok (.iload 4, 2) := by decide +kernel
theorem dX1_tell_38 : decode cX1_tell 38 = .ok (.isub, 1) := by decide +kernel
theorem dX1_tell_39 : decode cX1_tell 39 = .ok (.invokestatic 19, 3) := by decide +kernel
theorem dX1_tell_42 : decode cX1_tell 42 = .ok (.istore 7, 2) := by decide +kernel
theorem dX1_tell_44 : decode cX1_tell 44 = .ok (.aload_n 2, 1) := by decide +kernel
theorem dX1_tell_45 : decode cX1_tell 45 = .ok (.iconst 0, 1) := by decide +kernel
theorem dX1_tell_46 : decode cX1_tell 46 = .ok (.iload 7, 2) := by decide +kernel
theorem dX1_tell_48 : decode cX1_tell 48 = .ok (.iconst 1, 1) := by decide +kernel
theorem dX1_tell_49 : decode cX1_tell 49 = .ok (.isub, 1) := by decide +kernel
theorem dX1_tell_50 : decode cX1_tell 50 = .ok (.invokevirtual 24, 3) := by decide +kernel
theorem dX1_tell_53 : decode cX1_tell 53 = .ok (.aload_n 2, 1) := by decide +kernel
theorem dX1_tell_54 : decode cX1_tell 54 = .ok (.iload 6, 2) := by decide +kernel
theorem dX1_tell_56 : decode cX1_tell 56 = .ok (.iload 4, 2) := by decide +kernel
theorem dX1_tell_58 : decode cX1_tell 58 = .ok (.isub, 1) := by decide +kernel
theorem dX1_tell_59 : decode cX1_tell 59 = .ok (.iload 7, 2) := by decide +kernel
theorem dX1_tell_61 : decode cX1_tell 61 = .ok (.invokevirtual 24, 3) := by decide +kernel
theorem dX1_tell_64 : decode cX1_tell 64 = .ok (.iload 6, 2) := by decide +kernel
theorem dX1_tell_66 : decode cX1_tell 66 = .ok (.istore 4, 2) := by decide +kernel
theorem dX1_tell_68 : decode cX1_tell 68 = .ok (.iinc 5 1, 3) := by decide +kernel
theorem dX1_tell_71 : decode cX1_tell 71 = .ok (.goto (-53), 3) := by decide +kernel
theorem dX1_tell_74 : decode cX1_tell 74 = .ok (.return_, 1) := by decide +kernel
theorem dX1_learn_0 : decode cX1_learn 0 = .ok (.aload_n 2, 1) := by decide +kernel
theorem dX1_learn_1 : decode cX1_learn 1 = .ok (.invokevirtual 30, 3) := by decide +kernel
theorem dX1_learn_4 : decode cX1_learn 4 = .ok (.aload_n 1, 1) := by decide +kernel
theorem dX1_learn_5 : decode cX1_learn 5 = .ok (.invokevirtual 33, 3) := by decide +kernel
theorem dX1_learn_8 : decode cX1_learn 8 = .ok (.aload_n 1, 1) := by decide +kernel
theorem dX1_learn_9 : decode cX1_learn 9 = .ok (.bipush 13, 2) := by decide +kernel
theorem dX1_learn_11 : decode cX1_learn 11 = .ok (.invokevirtual 36, 3) := by decide +kernel
theorem dX1_learn_14 : decode cX1_learn 14 = .ok (.istore_n 3, 1) := by decide +kernel
theorem dX1_learn_15 : decode cX1_learn 15 = .ok (.iload_n 3, 1) := by decide +kernel
theorem dX1_learn_16 : decode cX1_learn 16 = .ok (.sipush 4096, 3) := by decide +kernel
theorem dX1_learn_19 : decode cX1_learn 19 = .ok (.if_icmp .le 5, 3) := by decide +kernel
theorem dX1_learn_22 : decode cX1_learn 22 = .ok (.iconst 0, 1) := by decide +kernel
theorem dX1_learn_23 : decode cX1_learn 23 = .ok (.ireturn, 1) := by decide +kernel
theorem dX1_learn_24 : decode cX1_learn 24 = .ok (.iconst (-1), 1) := by decide +kernel
theorem dX1_learn_25 : decode cX1_learn 25 = .ok (.istore 4, 2) := by decide +kernel
theorem dX1_learn_27 : decode cX1_learn 27 = .ok (.iconst 0, 1) := by decide +kernel
theorem dX1_learn_28 : decode cX1_learn 28 = .ok (.istore 5, 2) := by decide +kernel
theorem dX1_learn_30 : decode cX1_learn 30 = .ok (.iload 5, 2) := by decide +kernel
theorem dX1_learn_32 : decode cX1_learn 32 = .ok (.iload_n 3, 1) := by decide +kernel
theorem dX1_learn_33 : decode cX1_learn 33 = .ok (.if_icmp .ge 47, 3) := by decide +kernel
theorem dX1_learn_36 : decode cX1_learn 36 = .ok (.aload_n 1, 1) := by decide +kernel
theorem dX1_learn_37 : decode cX1_learn 37 = .ok (.invokestatic 39, 3) := by decide +kernel
theorem dX1_learn_40 : decode cX1_learn 40 = .ok (.istore 6, 2) := by decide +kernel
theorem dX1_learn_42 : decode cX1_learn 42 = .ok (.iload 4, 2) := by decide +kernel
theorem dX1_learn_44 : decode cX1_learn 44 = .ok (.iconst 1, 1) := by decide +kernel
theorem dX1_learn_45 : decode cX1_learn 45 = .ok (.iload 6, 2) := by decide +kernel
theorem dX1_learn_47 : decode cX1_learn 47 = .ok (.ishl, 1) := by decide +kernel
theorem dX1_learn_48 : decode cX1_learn 48 = .ok (.aload_n 1, 1) := by decide +kernel
theorem dX1_learn_49 : decode cX1_learn 49 = .ok (.iload 6, 2) := by decide +kernel
theorem dX1_learn_51 : decode cX1_learn 51 = .ok (.invokevirtual 36, 3) := by decide +kernel
theorem dX1_learn_54 : decode cX1_learn 54 = .ok (.iadd, 1) := by decide +kernel
theorem dX1_learn_55 : decode cX1_learn 55 = .ok (.iadd, 1) := by decide +kernel
theorem dX1_learn_56 : decode cX1_learn 56 = .ok (.istore 4, 2) := by decide +kernel
theorem dX1_learn_58 : decode cX1_learn 58 = .ok (.iload 4, 2) := by decide +kernel
theorem dX1_learn_60 : decode cX1_learn 60 = .ok (.sipush 4096, 3) := by decide +kernel
theorem dX1_learn_63 : decode cX1_learn 63 = .ok (.if_icmp .lt 5, 3) := by decide +kernel
theorem dX1_learn_66 : decode cX1_learn 66 = .ok (.iconst 0, 1) := by decide +kernel
theorem dX1_learn_67 : decode cX1_learn 67 = .ok (.ireturn, 1) := by decide +kernel
theorem dX1_learn_68 : decode cX1_learn 68 = .ok (.aload_n 2, 1) := by decide +kernel
theorem dX1_learn_69 : decode cX1_learn 69 = .ok (.iload 4, 2) := by decide +kernel
theorem dX1_learn_71 : decode cX1_learn 71 = .ok (.invokevirtual 43, 3) := by decide +kernel
theorem dX1_learn_74 : decode cX1_learn 74 = .ok (.iinc 5 1, 3) := by decide +kernel
theorem dX1_learn_77 : decode cX1_learn 77 = .ok (.goto (-47), 3) := by decide +kernel
theorem dX1_learn_80 : decode cX1_learn 80 = .ok (.aload_n 1, 1) := by decide +kernel
theorem dX1_learn_81 : decode cX1_learn 81 = .ok (.invokevirtual 47, 3) := by decide +kernel
theorem dX1_learn_84 : decode cX1_learn 84 = .ok (.ireturn, 1) := by decide +kernel
theorem dX1_takeZeros_0 : decode cX1_takeZeros 0 = .ok (.iconst 0, 1) := by decide +kernel
theorem dX1_takeZeros_1 : decode cX1_takeZeros 1 = .ok (.istore_n 1, 1) := by decide +kernel
theorem dX1_takeZeros_2 : decode cX1_takeZeros 2 = .ok (.iload_n 1, 1) := by decide +kernel
theorem dX1_takeZeros_3 : decode cX1_takeZeros 3 = .ok (.bipush 13, 2) := by decide +kernel
theorem dX1_takeZeros_5 : decode cX1_takeZeros 5 = .ok (.if_icmp .ge 17, 3) := by decide +kernel
theorem dX1_takeZeros_8 : decode cX1_takeZeros 8 = .ok (.aload_n 0, 1) := by decide +kernel
theorem dX1_takeZeros_9 : decode cX1_takeZeros 9 = .ok (.iconst 1, 1) := by decide +kernel
theorem dX1_takeZeros_10 : decode cX1_takeZeros 10 = .ok (.invokevirtual 36, 3) := by decide +kernel
theorem dX1_takeZeros_13 : decode cX1_takeZeros 13 = .ok (.ifCond .ne 9, 3) := by decide +kernel
theorem dX1_takeZeros_16 : decode cX1_takeZeros 16 = .ok (.iinc 1 1, 3) := by decide +kernel
theorem dX1_takeZeros_19 : decode cX1_takeZeros 19 = .ok (.goto (-17), 3) := by decide +kernel
theorem dX1_takeZeros_22 : decode cX1_takeZeros 22 = .ok (.iload_n 1, 1) := by decide +kernel
theorem dX1_takeZeros_23 : decode cX1_takeZeros 23 = .ok (.ireturn, 1) := by decide +kernel
theorem dX1_widthOf_0 : decode cX1_widthOf 0 = .ok (.iconst 1, 1) := by decide +kernel
theorem dX1_widthOf_1 : decode cX1_widthOf 1 = .ok (.istore_n 1, 1) := by decide +kernel
theorem dX1_widthOf_2 : decode cX1_widthOf 2 = .ok (.iload_n 1, 1) := by decide +kernel
theorem dX1_widthOf_3 : decode cX1_widthOf 3 = .ok (.bipush 13, 2) := by decide +kernel
theorem dX1_widthOf_5 : decode cX1_widthOf 5 = .ok (.if_icmp .ge 15, 3) := by decide +kernel
theorem dX1_widthOf_8 : decode cX1_widthOf 8 = .ok (.iload_n 0, 1) := by decide +kernel
theorem dX1_widthOf_9 : decode cX1_widthOf 9 = .ok (.iload_n 1, 1) := by decide +kernel
theorem dX1_widthOf_10 : decode cX1_widthOf 10 = .ok (.ishr, 1) := by decide +kernel
theorem dX1_widthOf_11 : decode cX1_widthOf 11 = .ok (.ifCond .eq 9, 3) := by decide +kernel
theorem dX1_widthOf_14 : decode cX1_widthOf 14 = .ok (.iinc 1 1, 3) := by decide +kernel
theorem dX1_widthOf_17 : decode cX1_widthOf 17 = .ok (.goto (-15), 3) := by decide +kernel
theorem dX1_widthOf_20 : decode cX1_widthOf 20 = .ok (.iload_n 1, 1) := by decide +kernel
theorem dX1_widthOf_21 : decode cX1_widthOf 21 = .ok (.ireturn, 1) := by decide +kernel
theorem dX2_init_0 : decode cX2_init 0 = .ok (.aload_n 0, 1) := by decide +kernel
theorem dX2_init_1 : decode cX2_init 1 = .ok (.invokespecial 3, 3) := by decide +kernel
theorem dX2_init_4 : decode cX2_init 4 = .ok (.aload_n 0, 1) := by decide +kernel
theorem dX2_init_5 : decode cX2_init 5 = .ok (.sipush 128, 3) := by decide +kernel
theorem dX2_init_8 : decode cX2_init 8 = .ok (.newarray .int, 2) := by decide +kernel
theorem dX2_init_10 : decode cX2_init 10 = .ok (.putfield 9, 3) := by decide +kernel
theorem dX2_init_13 : decode cX2_init 13 = .ok (.return_, 1) := by decide +kernel
theorem dX2_holds_0 : decode cX2_holds 0 = .ok (.iload_n 1, 1) := by decide +kernel
theorem dX2_holds_1 : decode cX2_holds 1 = .ok (.invokestatic 15, 3) := by decide +kernel
theorem dX2_holds_4 : decode cX2_holds 4 = .ok (.ifCond .eq 26, 3) := by decide +kernel
theorem dX2_holds_7 : decode cX2_holds 7 = .ok (.aload_n 0, 1) := by decide +kernel
theorem dX2_holds_8 : decode cX2_holds 8 = .ok (.getfield 9, 3) := by decide +kernel
theorem dX2_holds_11 : decode cX2_holds 11 = .ok (.iload_n 1, 1) := by decide +kernel
theorem dX2_holds_12 : decode cX2_holds 12 = .ok (.iconst 5, 1) := by decide +kernel
theorem dX2_holds_13 : decode cX2_holds 13 = .ok (.ishr, 1) := by decide +kernel
theorem dX2_holds_14 : decode cX2_holds 14 = .ok (.iaload, 1) := by decide +kernel
theorem dX2_holds_15 : decode cX2_holds 15 = .ok (.iload_n 1, 1) := by decide +kernel
theorem dX2_holds_16 : decode cX2_holds 16 = .ok (.bipush 31, 2) := by decide +kernel
theorem dX2_holds_18 : decode cX2_holds 18 = .ok (.iand, 1) := by decide +kernel
theorem dX2_holds_19 : decode cX2_holds 19 = .ok (.iushr, 1) := by decide +kernel
theorem dX2_holds_20 : decode cX2_holds 20 = .ok (.iconst 1, 1) := by decide +kernel
theorem dX2_holds_21 : decode cX2_holds 21 = .ok (.iand, 1) := by decide +kernel
theorem dX2_holds_22 : decode cX2_holds 22 = .ok (.iconst 1, 1) := by decide +kernel
theorem dX2_holds_23 : decode cX2_holds 23 = .ok (.if_icmp .ne 7, 3) := by decide +kernel
theorem dX2_holds_26 : decode cX2_holds 26 = .ok (.iconst 1, 1) := by decide +kernel
theorem dX2_holds_27 : decode cX2_holds 27 = .ok (.goto 4, 3) := by decide +kernel
theorem dX2_holds_30 : decode cX2_holds 30 = .ok (.iconst 0, 1) := by decide +kernel
theorem dX2_holds_31 : decode cX2_holds 31 = .ok (.ireturn, 1) := by decide +kernel
theorem dX2_amount_0 : decode cX2_amount 0 = .ok (.aload_n 0, 1) := by decide +kernel
theorem dX2_amount_1 : decode cX2_amount 1 = .ok (.sipush 4096, 3) := by decide +kernel
theorem dX2_amount_4 : decode cX2_amount 4 = .ok (.invokevirtual 19, 3) := by decide +kernel
theorem dX2_amount_7 : decode cX2_amount 7 = .ok (.ireturn, 1) := by decide +kernel
theorem dX2_amountIn_0 : decode cX2_amountIn 0 = .ok (.aload_n 0, 1) := by decide +kernel
theorem dX2_amountIn_1 : decode cX2_amountIn 1 = .ok (.iload_n 2, 1) := by decide +kernel
theorem dX2_amountIn_2 : decode cX2_amountIn 2 = .ok (.iconst 1, 1) := by decide +kernel
theorem dX2_amountIn_3 : decode cX2_amountIn 3 = .ok (.iadd, 1) := by decide +kernel
theorem dX2_amountIn_4 : decode cX2_amountIn 4 = .ok (.invokevirtual 19, 3) := by decide +kernel
theorem dX2_amountIn_7 : decode cX2_amountIn 7 = .ok (.aload_n 0, 1) := by decide +kernel
theorem dX2_amountIn_8 : decode cX2_amountIn 8 = .ok (.iload_n 1, 1) := by decide +kernel
theorem dX2_amountIn_9 : decode cX2_amountIn 9 = .ok (.invokevirtual 19, 3) := by decide +kernel
theorem dX2_amountIn_12 : decode cX2_amountIn 12 = .ok (.isub, 1) := by decide +kernel
theorem dX2_amountIn_13 : decode cX2_amountIn 13 = .ok (.ireturn, 1) := by decide +kernel
theorem dX2_amountBelow_0 : decode cX2_amountBelow 0 = .ok (.iload_n 1, 1) := by decide +kernel
theorem dX2_amountBelow_1 : decode cX2_amountBelow 1 = .ok (.invokestatic 23, 3) := by decide +kernel
theorem dX2_amountBelow_4 : decode cX2_amountBelow 4 = .ok (.ifCond .ne 5, 3) := by decide +kernel
theorem dX2_amountBelow_7 : decode cX2_amountBelow 7 = .ok (.iconst 0, 1) := by decide +kernel
theorem dX2_amountBelow_8 : decode cX2_amountBelow 8 = .ok (.ireturn, 1) := by decide +kernel
theorem dX2_amountBelow_9 : decode cX2_amountBelow 9 = .ok (.iload_n 1, 1) := by decide +kernel
theorem dX2_amountBelow_10 : decode cX2_amountBelow 10 = .ok (.iconst 5, 1) := by decide +kernel
theorem dX2_amountBelow_11 : decode cX2_amountBelow 11 = .ok (.ishr, 1) := by decide +kernel
theorem dX2_amountBelow_12 : decode cX2_amountBelow 12 = .ok (.istore_n 2, 1) := by decide +kernel
theorem dX2_amountBelow_13 : decode cX2_amountBelow 13 = .ok (.iconst 0, 1) := by decide +kernel
theorem dX2_amountBelow_14 : decode cX2_amountBelow 14 = .ok (.istore_n 3, 1) := by decide +kernel
theorem dX2_amountBelow_15 : decode cX2_amountBelow 15 = .ok (.iconst 0, 1) := by decide +kernel
theorem dX2_amountBelow_16 : decode cX2_amountBelow 16 = .ok (.istore 4, 2) := by decide +kernel
theorem dX2_amountBelow_18 : decode cX2_amountBelow 18 = .ok (.iload 4, 2) := by decide +kernel
theorem dX2_amountBelow_20 : decode cX2_amountBelow 20 = .ok (.iload_n 2, 1) := by decide +kernel
theorem dX2_amountBelow_21 : decode cX2_amountBelow 21 = .ok (.if_icmp .ge 22, 3) := by decide +kernel
theorem dX2_amountBelow_24 : decode cX2_amountBelow 24 = .ok (.iload_n 3, 1) := by decide +kernel
theorem dX2_amountBelow_25 : decode cX2_amountBelow 25 = .ok (.aload_n 0, 1) := by decide +kernel
theorem dX2_amountBelow_26 : decode cX2_amountBelow 26 = .ok (.getfield 9, 3) := by decide +kernel
theorem dX2_amountBelow_29 : decode cX2_amountBelow 29 = .ok (.iload 4, 2) := by decide +kernel
theorem dX2_amountBelow_31 : decode cX2_amountBelow 31 = .ok (.iaload, 1) := by decide +kernel
theorem dX2_amountBelow_32 : decode cX2_amountBelow 32 = .ok (.invokestatic 26, 3) := by decide +kernel
theorem dX2_amountBelow_35 : decode cX2_amountBelow 35 = .ok (.iadd, 1) := by decide +kernel
theorem dX2_amountBelow_36 : decode cX2_amountBelow 36 = .ok (.istore_n 3, 1) := by decide +kernel
theorem dX2_amountBelow_37 : decode cX2_amountBelow 37 = .ok (.iinc 4 1, 3) := by decide +kernel
theorem dX2_amountBelow_40 : decode cX2_amountBelow 40 = .ok (.goto (-22), 3) := by decide +kernel
theorem dX2_amountBelow_43 : decode cX2_amountBelow 43 = .ok (.iload_n 2, 1) := by decide +kernel
theorem dX2_amountBelow_44 : decode cX2_amountBelow 44 = .ok (.sipush 128, 3) := by decide +kernel
theorem dX2_amountBelow_47 : decode cX2_amountBelow 47 = .ok (.if_icmp .ge 24, 3) := by decide +kernel
theorem dX2_amountBelow_50 : decode cX2_amountBelow 50 = .ok (.iload_n 3, 1) := by decide +kernel
theorem dX2_amountBelow_51 : decode cX2_amountBelow 51 = .ok (.aload_n 0, 1) := by decide +kernel
theorem dX2_amountBelow_52 : decode cX2_amountBelow 52 = .ok (.getfield 9, 3) := by decide +kernel
theorem dX2_amountBelow_55 : decode cX2_amountBelow 55 = .ok (.iload_n 2, 1) := by decide +kernel
theorem dX2_amountBelow_56 : decode cX2_amountBelow 56 = .ok (.iaload, 1) := by decide +kernel
theorem dX2_amountBelow_57 : decode cX2_amountBelow 57 = .ok (.iconst (-1), 1) := by decide +kernel
theorem dX2_amountBelow_58 : decode cX2_amountBelow 58 = .ok (.iload_n 1, 1) := by decide +kernel
theorem dX2_amountBelow_59 : decode cX2_amountBelow 59 = .ok (.bipush 31, 2) := by decide +kernel
theorem dX2_amountBelow_61 : decode cX2_amountBelow 61 = .ok (.iand, 1) := by decide +kernel
theorem dX2_amountBelow_62 : decode cX2_amountBelow 62 = .ok (.ishl, 1) := by decide +kernel
theorem dX2_amountBelow_63 : decode cX2_amountBelow 63 = .ok (.iconst (-1), 1) := by decide +kernel
theorem dX2_amountBelow_64 : decode cX2_amountBelow 64 = .ok (.ixor, 1) := by decide +kernel
theorem dX2_amountBelow_65 : decode cX2_amountBelow 65 = .ok (.iand, 1) := by decide +kernel
theorem dX2_amountBelow_66 : decode cX2_amountBelow 66 = .ok (.invokestatic 26, 3) := by decide +kernel
theorem dX2_amountBelow_69 : decode cX2_amountBelow 69 = .ok (.iadd, 1) := by decide +kernel
theorem dX2_amountBelow_70 : decode cX2_amountBelow 70 = .ok (.istore_n 3, 1) := by decide +kernel
theorem dX2_amountBelow_71 : decode cX2_amountBelow 71 = .ok (.iload_n 3, 1) := by decide +kernel
theorem dX2_amountBelow_72 : decode cX2_amountBelow 72 = .ok (.ireturn, 1) := by decide +kernel
theorem dX2_amountShared_0 : decode cX2_amountShared 0 = .ok (.iconst 0, 1) := by decide +kernel
theorem dX2_amountShared_1 : decode cX2_amountShared 1 = .ok (.istore_n 2, 1) := by decide +kernel
theorem dX2_amountShared_2 : decode cX2_amountShared 2 = .ok (.iconst 0, 1) := by decide +kernel
theorem dX2_amountShared_3 : decode cX2_amountShared 3 = .ok (.istore_n 3, 1) := by decide +kernel
theorem dX2_amountShared_4 : decode cX2_amountShared 4 = .ok (.iload_n 3, 1) := by decide +kernel
theorem dX2_amountShared_5 : decode cX2_amountShared 5 = .ok (.sipush 128, 3) := by decide +kernel
theorem dX2_amountShared_8 : decode cX2_amountShared 8 = .ok (.if_icmp .ge 28, 3) := by decide +kernel
theorem dX2_amountShared_11 : decode cX2_amountShared 11 = .ok (.iload_n 2, 1) := by decide +kernel
theorem dX2_amountShared_12 : decode cX2_amountShared 12 = .ok (.aload_n 0, 1) := by decide +kernel
theorem dX2_amountShared_13 : decode cX2_amountShared 13 = .ok (.getfield 9, 3) := by decide +kernel
theorem dX2_amountShared_16 : decode cX2_amountShared 16 = .ok (.iload_n 3, 1) := by decide +kernel
theorem dX2_amountShared_17 : decode cX2_amountShared 17 = .ok (.iaload, 1) := by decide +kernel
theorem dX2_amountShared_18 : decode cX2_amountShared 18 = .ok (.aload_n 1, 1) := by decide +kernel
theorem dX2_amountShared_19 : decode cX2_amountShared 19 = .ok (.getfield 9, 3) := by decide +kernel
theorem dX2_amountShared_22 : decode cX2_amountShared 22 = .ok (.iload_n 3, 1) := by decide +kernel
theorem dX2_amountShared_23 : decode cX2_amountShared 23 = .ok (.iaload, 1) := by decide +kernel
theorem dX2_amountShared_24 : decode cX2_amountShared 24 = .ok (.iand, 1) := by decide +kernel
theorem dX2_amountShared_25 : decode cX2_amountShared 25 = .ok (.invokestatic 26, 3) := by decide +kernel
theorem dX2_amountShared_28 : decode cX2_amountShared 28 = .ok (.iadd, 1) := by decide +kernel
theorem dX2_amountShared_29 : decode cX2_amountShared 29 = .ok (.istore_n 2, 1) := by decide +kernel
theorem dX2_amountShared_30 : decode cX2_amountShared 30 = .ok (.iinc 3 1, 3) := by decide +kernel
theorem dX2_amountShared_33 : decode cX2_amountShared 33 = .ok (.goto (-29), 3) := by decide +kernel
theorem dX2_amountShared_36 : decode cX2_amountShared 36 = .ok (.iload_n 2, 1) := by decide +kernel
theorem dX2_amountShared_37 : decode cX2_amountShared 37 = .ok (.ireturn, 1) := by decide +kernel
theorem dX2_nth_0 : decode cX2_nth 0 = .ok (.iload_n 1, 1) := by decide +kernel
theorem dX2_nth_1 : decode cX2_nth 1 = .ok (.ifCond .ge 5, 3) := by decide +kernel
theorem dX2_nth_4 : decode cX2_nth 4 = .ok (.iconst (-1), 1) := by decide +kernel
theorem dX2_nth_5 : decode cX2_nth 5 = .ok (.ireturn, 1) := by decide +kernel
theorem dX2_nth_6 : decode cX2_nth 6 = .ok (.iconst 0, 1) := by decide +kernel
theorem dX2_nth_7 : decode cX2_nth 7 = .ok (.istore_n 2, 1) := by decide +kernel
theorem dX2_nth_8 : decode cX2_nth 8 = .ok (.iconst 0, 1) := by decide +kernel
theorem dX2_nth_9 : decode cX2_nth 9 = .ok (.istore_n 3, 1) := by decide +kernel
theorem dX2_nth_10 : decode cX2_nth 10 = .ok (.iload_n 3, 1) := by decide +kernel
theorem dX2_nth_11 : decode cX2_nth 11 = .ok (.sipush 128, 3) := by decide +kernel
theorem dX2_nth_14 : decode cX2_nth 14 = .ok (.if_icmp .ge 51, 3) := by decide +kernel
theorem dX2_nth_17 : decode cX2_nth 17 = .ok (.aload_n 0, 1) := by decide +kernel
theorem dX2_nth_18 : decode cX2_nth 18 = .ok (.getfield 9, 3) := by decide +kernel
theorem dX2_nth_21 : decode cX2_nth 21 = .ok (.iload_n 3, 1) := by decide +kernel
theorem dX2_nth_22 : decode cX2_nth 22 = .ok (.iaload, 1) := by decide +kernel
theorem dX2_nth_23 : decode cX2_nth 23 = .ok (.invokestatic 26, 3) := by decide +kernel
theorem dX2_nth_26 : decode cX2_nth 26 = .ok (.istore 4, 2) := by decide +kernel
theorem dX2_nth_28 : decode cX2_nth 28 = .ok (.iload_n 1, 1) := by decide +kernel
theorem dX2_nth_29 : decode cX2_nth 29 = .ok (.iload_n 2, 1) := by decide +kernel
theorem dX2_nth_30 : decode cX2_nth 30 = .ok (.isub, 1) := by decide +kernel
theorem dX2_nth_31 : decode cX2_nth 31 = .ok (.iload 4, 2) := by decide +kernel
theorem dX2_nth_33 : decode cX2_nth 33 = .ok (.if_icmp .ge 21, 3) := by decide +kernel
theorem dX2_nth_36 : decode cX2_nth 36 = .ok (.iload_n 3, 1) := by decide +kernel
theorem dX2_nth_37 : decode cX2_nth 37 = .ok (.bipush 32, 2) := by decide +kernel
theorem dX2_nth_39 : decode cX2_nth 39 = .ok (.imul, 1) := by decide +kernel
theorem dX2_nth_40 : decode cX2_nth 40 = .ok (.aload_n 0, 1) := by decide +kernel
theorem dX2_nth_41 : decode cX2_nth 41 = .ok (.getfield 9, 3) := by decide +kernel
theorem dX2_nth_44 : decode cX2_nth 44 = .ok (.iload_n 3, 1) := by decide +kernel
theorem dX2_nth_45 : decode cX2_nth 45 = .ok (.iaload, 1) := by decide +kernel
theorem dX2_nth_46 : decode cX2_nth 46 = .ok (.iload_n 1, 1) := by decide +kernel
theorem dX2_nth_47 : decode cX2_nth 47 = .ok (.iload_n 2, 1) := by decide +kernel
theorem dX2_nth_48 : decode cX2_nth 48 = .ok (.isub, 1) := by decide +kernel
theorem dX2_nth_49 : decode cX2_nth 49 = .ok (.invokestatic 31, 3) := by decide +kernel
theorem dX2_nth_52 : decode cX2_nth 52 = .ok (.iadd, 1) := by decide +kernel
theorem dX2_nth_53 : decode cX2_nth 53 = .ok (.ireturn, 1) := by decide +kernel
theorem dX2_nth_54 : decode cX2_nth 54 = .ok (.iload_n 2, 1) := by decide +kernel
theorem dX2_nth_55 : decode cX2_nth 55 = .ok (.iload 4, 2) := by decide +kernel
theorem dX2_nth_57 : decode cX2_nth 57 = .ok (.iadd, 1) := by decide +kernel
theorem dX2_nth_58 : decode cX2_nth 58 = .ok (.istore_n 2, 1) := by decide +kernel
theorem dX2_nth_59 : decode cX2_nth 59 = .ok (.iinc 3 1, 3) := by decide +kernel
theorem dX2_nth_62 : decode cX2_nth 62 = .ok (.goto (-52), 3) := by decide +kernel
theorem dX2_nth_65 : decode cX2_nth 65 = .ok (.iconst (-1), 1) := by decide +kernel
theorem dX2_nth_66 : decode cX2_nth 66 = .ok (.ireturn, 1) := by decide +kernel
theorem dX2_leastFrom_0 : decode cX2_leastFrom 0 = .ok (.iload_n 1, 1) := by decide +kernel
theorem dX2_leastFrom_1 : decode cX2_leastFrom 1 = .ok (.invokestatic 15, 3) := by decide +kernel
theorem dX2_leastFrom_4 : decode cX2_leastFrom 4 = .ok (.ifCond .ne 5, 3) := by decide +kernel
theorem dX2_leastFrom_7 : decode cX2_leastFrom 7 = .ok (.iconst (-1), 1) := by decide +kernel
theorem dX2_leastFrom_8 : decode cX2_leastFrom 8 = .ok (.ireturn, 1) := by decide +kernel
theorem dX2_leastFrom_9 : decode cX2_leastFrom 9 = .ok (.iconst (-1), 1) := by decide +kernel
theorem dX2_leastFrom_10 : decode cX2_leastFrom 10 = .ok (.iload_n 1, 1) := by decide +kernel
theorem dX2_leastFrom_11 : decode cX2_leastFrom 11 = .ok (.bipush 31, 2) := by decide +kernel
theorem dX2_leastFrom_13 : decode cX2_leastFrom 13 = .ok (.iand, 1) := by decide +kernel
theorem dX2_leastFrom_14 : decode cX2_leastFrom 14 = .ok (.ishl, 1) := by decide +kernel
theorem dX2_leastFrom_15 : decode cX2_leastFrom 15 = .ok (.istore_n 2, 1) := by decide +kernel
theorem dX2_leastFrom_16 : decode cX2_leastFrom 16 = .ok (.iload_n 1, 1) := by decide +kernel
theorem dX2_leastFrom_17 : decode cX2_leastFrom 17 = .ok (.iconst 5, 1) := by decide +kernel
theorem dX2_leastFrom_18 : decode cX2_leastFrom 18 = .ok (.ishr, 1) := by decide +kernel
theorem dX2_leastFrom_19 : decode cX2_leastFrom 19 = .ok (.istore_n 3, 1) := by decide +kernel
theorem dX2_leastFrom_20 : decode cX2_leastFrom 20 = .ok (.iload_n 3, 1) := by decide +kernel
theorem dX2_leastFrom_21 : decode cX2_leastFrom 21 = .ok (.sipush 128, 3) := by decide +kernel
theorem dX2_leastFrom_24 : decode cX2_leastFrom 24 = .ok (.if_icmp .ge 38, 3) := by decide +kernel
theorem dX2_leastFrom_27 : decode cX2_leastFrom 27 = .ok (.aload_n 0, 1) := by decide +kernel
theorem dX2_leastFrom_28 : decode cX2_leastFrom 28 = .ok (.getfield 9, 3) := by decide +kernel
theorem dX2_leastFrom_31 : decode cX2_leastFrom 31 = .ok (.iload_n 3, 1) := by decide +kernel
theorem dX2_leastFrom_32 : decode cX2_leastFrom 32 = .ok (.iaload, 1) := by decide +kernel
theorem dX2_leastFrom_33 : decode cX2_leastFrom 33 = .ok (.iload_n 2, 1) := by decide +kernel
theorem dX2_leastFrom_34 : decode cX2_leastFrom 34 = .ok (.iand, 1) := by decide +kernel
theorem dX2_leastFrom_35 : decode cX2_leastFrom 35 = .ok (.istore 4, 2) := by decide +kernel
theorem dX2_leastFrom_37 : decode cX2_leastFrom 37 = .ok (.iload 4, 2) := by decide +kernel
theorem dX2_leastFrom_39 : decode cX2_leastFrom 39 = .ok (.ifCond .eq 15, 3) := by decide +kernel
theorem dX2_leastFrom_42 : decode cX2_leastFrom 42 = .ok (.iload_n 3, 1) := by decide +kernel
theorem dX2_leastFrom_43 : decode cX2_leastFrom 43 = .ok (.bipush 32, 2) := by decide +kernel
theorem dX2_leastFrom_45 : decode cX2_leastFrom 45 = .ok (.imul, 1) := by decide +kernel
theorem dX2_leastFrom_46 : decode cX2_leastFrom 46 = .ok (.iload 4, 2) := by decide +kernel
theorem dX2_leastFrom_48 : decode cX2_leastFrom 48 = .ok (.iconst 0, 1) := by decide +kernel
theorem dX2_leastFrom_49 : decode cX2_leastFrom 49 = .ok (.invokestatic 31, 3) := by decide +kernel
theorem dX2_leastFrom_52 : decode cX2_leastFrom 52 = .ok (.iadd, 1) := by decide +kernel
theorem dX2_leastFrom_53 : decode cX2_leastFrom 53 = .ok (.ireturn, 1) := by decide +kernel
theorem dX2_leastFrom_54 : decode cX2_leastFrom 54 = .ok (.iconst (-1), 1) := by decide +kernel
theorem dX2_leastFrom_55 : decode cX2_leastFrom 55 = .ok (.istore_n 2, 1) := by decide +kernel
theorem dX2_leastFrom_56 : decode cX2_leastFrom 56 = .ok (.iinc 3 1, 3) := by decide +kernel
theorem dX2_leastFrom_59 : decode cX2_leastFrom 59 = .ok (.goto (-39), 3) := by decide +kernel
theorem dX2_leastFrom_62 : decode cX2_leastFrom 62 = .ok (.iconst (-1), 1) := by decide +kernel
theorem dX2_leastFrom_63 : decode cX2_leastFrom 63 = .ok (.ireturn, 1) := by decide +kernel
theorem dX2_add_0 : decode cX2_add 0 = .ok (.iload_n 1, 1) := by decide +kernel
theorem dX2_add_1 : decode cX2_add 1 = .ok (.invokestatic 15, 3) := by decide +kernel
theorem dX2_add_4 : decode cX2_add 4 = .ok (.ifCond .eq 20, 3) := by decide +kernel
theorem dX2_add_7 : decode cX2_add 7 = .ok (.aload_n 0, 1) := by decide +kernel
theorem dX2_add_8 : decode cX2_add 8 = .ok (.getfield 9, 3) := by decide +kernel
theorem dX2_add_11 : decode cX2_add 11 = .ok (.iload_n 1, 1) := by decide +kernel
theorem dX2_add_12 : decode cX2_add 12 = .ok (.iconst 5, 1) := by decide +kernel
theorem dX2_add_13 : decode cX2_add 13 = .ok (.ishr, 1) := by decide +kernel
theorem dX2_add_14 : decode cX2_add 14 = .ok (.dup2, 1) := by decide +kernel
theorem dX2_add_15 : decode cX2_add 15 = .ok (.iaload, 1) := by decide +kernel
theorem dX2_add_16 : decode cX2_add 16 = .ok (.iconst 1, 1) := by decide +kernel
theorem dX2_add_17 : decode cX2_add 17 = .ok (.iload_n 1, 1) := by decide +kernel
theorem dX2_add_18 : decode cX2_add 18 = .ok (.bipush 31, 2) := by decide +kernel
theorem dX2_add_20 : decode cX2_add 20 = .ok (.iand, 1) := by decide +kernel
theorem dX2_add_21 : decode cX2_add 21 = .ok (.ishl, 1) := by decide +kernel
theorem dX2_add_22 : decode cX2_add 22 = .ok (.ior, 1) := by decide +kernel
theorem dX2_add_23 : decode cX2_add 23 = .ok (.iastore, 1) := by decide +kernel
theorem dX2_add_24 : decode cX2_add 24 = .ok (.return_, 1) := by decide +kernel
theorem dX2_include_0 : decode cX2_include 0 = .ok (.iload_n 1, 1) := by decide +kernel
theorem dX2_include_1 : decode cX2_include 1 = .ok (.iload_n 2, 1) := by decide +kernel
theorem dX2_include_2 : decode cX2_include 2 = .ok (.invokestatic 35, 3) := by decide +kernel
theorem dX2_include_5 : decode cX2_include 5 = .ok (.ifCond .ne 4, 3) := by decide +kernel
theorem dX2_include_8 : decode cX2_include 8 = .ok (.return_, 1) := by decide +kernel
theorem dX2_include_9 : decode cX2_include 9 = .ok (.iload_n 1, 1) := by decide +kernel
theorem dX2_include_10 : decode cX2_include 10 = .ok (.iconst 5, 1) := by decide +kernel
theorem dX2_include_11 : decode cX2_include 11 = .ok (.ishr, 1) := by decide +kernel
theorem dX2_include_12 : decode cX2_include 12 = .ok (.istore_n 3, 1) := by decide +kernel
theorem dX2_include_13 : decode cX2_include 13 = .ok (.iload_n 3, 1) := by decide +kernel
theorem dX2_include_14 : decode cX2_include 14 = .ok (.iload_n 2, 1) := by decide +kernel
theorem dX2_include_15 : decode cX2_include 15 = .ok (.iconst 5, 1) := by decide +kernel
theorem dX2_include_16 : decode cX2_include 16 = .ok (.ishr, 1) := by decide +kernel
theorem dX2_include_17 : decode cX2_include 17 = .ok (.if_icmp .gt 24, 3) := by decide +kernel
theorem dX2_include_20 : decode cX2_include 20 = .ok (.aload_n 0, 1) := by decide +kernel
theorem dX2_include_21 : decode cX2_include 21 = .ok (.getfield 9, 3) := by decide +kernel
theorem dX2_include_24 : decode cX2_include 24 = .ok (.iload_n 3, 1) := by decide +kernel
theorem dX2_include_25 : decode cX2_include 25 = .ok (.dup2, 1) := by decide +kernel
theorem dX2_include_26 : decode cX2_include 26 = .ok (.iaload, 1) := by decide +kernel
theorem dX2_include_27 : decode cX2_include 27 = .ok (.iload_n 3, 1) := by decide +kernel
theorem dX2_include_28 : decode cX2_include 28 = .ok (.iload_n 1, 1) := by decide +kernel
theorem dX2_include_29 : decode cX2_include 29 = .ok (.iload_n 2, 1) := by decide +kernel
theorem dX2_include_30 : decode cX2_include 30 = .ok (.invokestatic 39, 3) := by decide +kernel
theorem dX2_include_33 : decode cX2_include 33 = .ok (.ior, 1) := by decide +kernel
theorem dX2_include_34 : decode cX2_include 34 = .ok (.iastore, 1) := by decide +kernel
theorem dX2_include_35 : decode cX2_include 35 = .ok (.iinc 3 1, 3) := by decide +kernel
theorem dX2_include_38 : decode cX2_include 38 = .ok (.goto (-25), 3) := by decide +kernel
theorem dX2_include_41 : decode cX2_include 41 = .ok (.return_, 1) := by decide +kernel
theorem dX2_exclude_0 : decode cX2_exclude 0 = .ok (.iload_n 1, 1) := by decide +kernel
theorem dX2_exclude_1 : decode cX2_exclude 1 = .ok (.iload_n 2, 1) := by decide +kernel
theorem dX2_exclude_2 : decode cX2_exclude 2 = .ok (.invokestatic 35, 3) := by decide +kernel
theorem dX2_exclude_5 : decode cX2_exclude 5 = .ok (.ifCond .ne 4, 3) := by decide +kernel
theorem dX2_exclude_8 : decode cX2_exclude 8 = .ok (.return_, 1) := by decide +kernel
theorem dX2_exclude_9 : decode cX2_exclude 9 = .ok (.iload_n 1, 1) := by decide +kernel
theorem dX2_exclude_10 : decode cX2_exclude 10 = .ok (.iconst 5, 1) := by decide +kernel
theorem dX2_exclude_11 : decode cX2_exclude 11 = .ok (.ishr, 1) := by decide +kernel
theorem dX2_exclude_12 : decode cX2_exclude 12 = .ok (.istore_n 3, 1) := by decide +kernel
theorem dX2_exclude_13 : decode cX2_exclude 13 = .ok (.iload_n 3, 1) := by decide +kernel
theorem dX2_exclude_14 : decode cX2_exclude 14 = .ok (.iload_n 2, 1) := by decide +kernel
theorem dX2_exclude_15 : decode cX2_exclude 15 = .ok (.iconst 5, 1) := by decide +kernel
theorem dX2_exclude_16 : decode cX2_exclude 16 = .ok (.ishr, 1) := by decide +kernel
theorem dX2_exclude_17 : decode cX2_exclude 17 = .ok (.if_icmp .gt 26, 3) := by decide +kernel
theorem dX2_exclude_20 : decode cX2_exclude 20 = .ok (.aload_n 0, 1) := by decide +kernel
theorem dX2_exclude_21 : decode cX2_exclude 21 = .ok (.getfield 9, 3) := by decide +kernel
theorem dX2_exclude_24 : decode cX2_exclude 24 = .ok (.iload_n 3, 1) := by decide +kernel
theorem dX2_exclude_25 : decode cX2_exclude 25 = .ok (.dup2, 1) := by decide +kernel
theorem dX2_exclude_26 : decode cX2_exclude 26 = .ok (.iaload, 1) := by decide +kernel
theorem dX2_exclude_27 : decode cX2_exclude 27 = .ok (.iload_n 3, 1) := by decide +kernel
theorem dX2_exclude_28 : decode cX2_exclude 28 = .ok (.iload_n 1, 1) := by decide +kernel
theorem dX2_exclude_29 : decode cX2_exclude 29 = .ok (.iload_n 2, 1) := by decide +kernel
theorem dX2_exclude_30 : decode cX2_exclude 30 = .ok (.invokestatic 39, 3) := by decide +kernel
theorem dX2_exclude_33 : decode cX2_exclude 33 = .ok (.iconst (-1), 1) := by decide +kernel
theorem dX2_exclude_34 : decode cX2_exclude 34 = .ok (.ixor, 1) := by decide +kernel
theorem dX2_exclude_35 : decode cX2_exclude 35 = .ok (.iand, 1) := by decide +kernel
theorem dX2_exclude_36 : decode cX2_exclude 36 = .ok (.iastore, 1) := by decide +kernel
theorem dX2_exclude_37 : decode cX2_exclude 37 = .ok (.iinc 3 1, 3) := by decide +kernel
theorem dX2_exclude_40 : decode cX2_exclude 40 = .ok (.goto (-27), 3) := by decide +kernel
theorem dX2_exclude_43 : decode cX2_exclude 43 = .ok (.return_, 1) := by decide +kernel
theorem dX2_become_0 : decode cX2_become 0 = .ok (.iconst 0, 1) := by decide +kernel
theorem dX2_become_1 : decode cX2_become 1 = .ok (.istore 4, 2) := by decide +kernel
theorem dX2_become_3 : decode cX2_become 3 = .ok (.iload 4, 2) := by decide +kernel
theorem dX2_become_5 : decode cX2_become 5 = .ok (.sipush 128, 3) := by decide +kernel
theorem dX2_become_8 : decode cX2_become 8 = .ok (.if_icmp .ge 34, 3) := by decide +kernel
theorem dX2_become_11 : decode cX2_become 11 = .ok (.aload_n 0, 1) := by decide +kernel
theorem dX2_become_12 : decode cX2_become 12 = .ok (.getfield 9, 3) := by decide +kernel
theorem dX2_become_15 : decode cX2_become 15 = .ok (.iload 4, 2) := by decide +kernel
theorem dX2_become_17 : decode cX2_become 17 = .ok (.aload_n 1, 1) := by decide +kernel
theorem dX2_become_18 : decode cX2_become 18 = .ok (.getfield 9, 3) := by decide +kernel
theorem dX2_become_21 : decode cX2_become 21 = .ok (.iload 4, 2) := by decide +kernel
theorem dX2_become_23 : decode cX2_become 23 = .ok (.iaload, 1) := by decide +kernel
theorem dX2_become_24 : decode cX2_become 24 = .ok (.aload_n 2, 1) := by decide +kernel
theorem dX2_become_25 : decode cX2_become 25 = .ok (.getfield 9, 3) := by decide +kernel
theorem dX2_become_28 : decode cX2_become 28 = .ok (.iload 4, 2) := by decide +kernel
theorem dX2_become_30 : decode cX2_become 30 = .ok (.iaload, 1) := by decide +kernel
theorem dX2_become_31 : decode cX2_become 31 = .ok (.iload_n 3, 1) := by decide +kernel
theorem dX2_become_32 : decode cX2_become 32 = .ok (.invokestatic 43, 3) := by decide +kernel
theorem dX2_become_35 : decode cX2_become 35 = .ok (.iastore, 1) := by decide +kernel
theorem dX2_become_36 : decode cX2_become 36 = .ok (.iinc 4 1, 3) := by decide +kernel
theorem dX2_become_39 : decode cX2_become 39 = .ok (.goto (-36), 3) := by decide +kernel
theorem dX2_become_42 : decode cX2_become 42 = .ok (.return_, 1) := by decide +kernel
theorem dX2_copyFrom_0 : decode cX2_copyFrom 0 = .ok (.iconst 0, 1) := by decide +kernel
theorem dX2_copyFrom_1 : decode cX2_copyFrom 1 = .ok (.istore_n 2, 1) := by decide +kernel
theorem dX2_copyFrom_2 : decode cX2_copyFrom 2 = .ok (.iload_n 2, 1) := by decide +kernel
theorem dX2_copyFrom_3 : decode cX2_copyFrom 3 = .ok (.sipush 128, 3) := by decide +kernel
theorem dX2_copyFrom_6 : decode cX2_copyFrom 6 = .ok (.if_icmp .ge 21, 3) := by decide +kernel
theorem dX2_copyFrom_9 : decode cX2_copyFrom 9 = .ok (.aload_n 0, 1) := by decide +kernel
theorem dX2_copyFrom_10 : decode cX2_copyFrom 10 = .ok (.getfield 9, 3) := by decide +kernel
theorem dX2_copyFrom_13 : decode cX2_copyFrom 13 = .ok (.iload_n 2, 1) := by decide +kernel
theorem dX2_copyFrom_14 : decode cX2_copyFrom 14 = .ok (.aload_n 1, 1) := by decide +kernel
theorem dX2_copyFrom_15 : decode cX2_copyFrom 15 = .ok (.getfield 9, 3) := by decide +kernel
theorem dX2_copyFrom_18 : decode cX2_copyFrom 18 = .ok (.iload_n 2, 1) := by decide +kernel
theorem dX2_copyFrom_19 : decode cX2_copyFrom 19 = .ok (.iaload, 1) := by decide +kernel
theorem dX2_copyFrom_20 : decode cX2_copyFrom 20 = .ok (.iastore, 1) := by decide +kernel
theorem dX2_copyFrom_21 : decode cX2_copyFrom 21 = .ok (.iinc 2 1, 3) := by decide +kernel
theorem dX2_copyFrom_24 : decode cX2_copyFrom 24 = .ok (.goto (-22), 3) := by decide +kernel
theorem dX2_copyFrom_27 : decode cX2_copyFrom 27 = .ok (.return_, 1) := by decide +kernel
theorem dX2_clear_0 : decode cX2_clear 0 = .ok (.iconst 0, 1) := by decide +kernel
theorem dX2_clear_1 : decode cX2_clear 1 = .ok (.istore_n 1, 1) := by decide +kernel
theorem dX2_clear_2 : decode cX2_clear 2 = .ok (.iload_n 1, 1) := by decide +kernel
theorem dX2_clear_3 : decode cX2_clear 3 = .ok (.sipush 128, 3) := by decide +kernel
theorem dX2_clear_6 : decode cX2_clear 6 = .ok (.if_icmp .ge 16, 3) := by decide +kernel
theorem dX2_clear_9 : decode cX2_clear 9 = .ok (.aload_n 0, 1) := by decide +kernel
theorem dX2_clear_10 : decode cX2_clear 10 = .ok (.getfield 9, 3) := by decide +kernel
theorem dX2_clear_13 : decode cX2_clear 13 = .ok (.iload_n 1, 1) := by decide +kernel
theorem dX2_clear_14 : decode cX2_clear 14 = .ok (.iconst 0, 1) := by decide +kernel
theorem dX2_clear_15 : decode cX2_clear 15 = .ok (.iastore, 1) := by decide +kernel
theorem dX2_clear_16 : decode cX2_clear 16 = .ok (.iinc 1 1, 3) := by decide +kernel
theorem dX2_clear_19 : decode cX2_clear 19 = .ok (.goto (-17), 3) := by decide +kernel
theorem dX2_clear_22 : decode cX2_clear 22 = .ok (.return_, 1) := by decide +kernel
theorem dX2_pieceAmount_0 : decode cX2_pieceAmount 0 = .ok (.iload_n 1, 1) := by decide +kernel
theorem dX2_pieceAmount_1 : decode cX2_pieceAmount 1 = .ok (.ifCond .lt 9, 3) := by decide +kernel
theorem dX2_pieceAmount_4 : decode cX2_pieceAmount 4 = .ok (.iload_n 1, 1) := by decide +kernel
theorem dX2_pieceAmount_5 : decode cX2_pieceAmount 5 = .ok (.bipush 16, 2) := by decide +kernel
theorem dX2_pieceAmount_7 : decode cX2_pieceAmount 7 = .ok (.if_icmp .lt 5, 3) := by decide +kernel
theorem dX2_pieceAmount_10 : decode cX2_pieceAmount 10 = .ok (.iconst 0, 1) := by decide +kernel
theorem dX2_pieceAmount_11 : decode cX2_pieceAmount 11 = .ok (.ireturn, 1) := by decide +kernel
theorem dX2_pieceAmount_12 : decode cX2_pieceAmount 12 = .ok (.iconst 0, 1) := by decide +kernel
theorem dX2_pieceAmount_13 : decode cX2_pieceAmount 13 = .ok (.istore_n 2, 1) := by decide +kernel
theorem dX2_pieceAmount_14 : decode cX2_pieceAmount 14 = .ok (.iload_n 1, 1) := by decide +kernel
theorem dX2_pieceAmount_15 : decode cX2_pieceAmount 15 = .ok (.bipush 8, 2) := by decide +kernel
theorem dX2_pieceAmount_17 : decode cX2_pieceAmount 17 = .ok (.imul, 1) := by decide +kernel
theorem dX2_pieceAmount_18 : decode cX2_pieceAmount 18 = .ok (.istore_n 3, 1) := by decide +kernel
theorem dX2_pieceAmount_19 : decode cX2_pieceAmount 19 = .ok (.iload_n 3, 1) := by decide +kernel
theorem dX2_pieceAmount_20 : decode cX2_pieceAmount 20 = .ok (.iload_n 1, 1) := by decide +kernel
theorem dX2_pieceAmount_21 : decode cX2_pieceAmount 21 = .ok (.iconst 1, 1) := by decide +kernel
theorem dX2_pieceAmount_22 : decode cX2_pieceAmount 22 = .ok (.iadd, 1) := by decide +kernel
theorem dX2_pieceAmount_23 : decode cX2_pieceAmount 23 = .ok (.bipush 8, 2) := by decide +kernel
theorem dX2_pieceAmount_25 : decode cX2_pieceAmount 25 = .ok (.imul, 1) := by decide +kernel
theorem dX2_pieceAmount_26 : decode cX2_pieceAmount 26 = .ok (.if_icmp .ge 21, 3) := by decide +kernel
theorem dX2_pieceAmount_29 : decode cX2_pieceAmount 29 = .ok (.iload_n 2, 1) := by decide +kernel
theorem dX2_pieceAmount_30 : decode cX2_pieceAmount 30 = .ok (.aload_n 0, 1) := by decide +kernel
theorem dX2_pieceAmount_31 : decode cX2_pieceAmount 31 = .ok (.getfield 9, 3) := by decide +kernel
theorem dX2_pieceAmount_34 : decode cX2_pieceAmount 34 = .ok (.iload_n 3, 1) := by decide +kernel
theorem dX2_pieceAmount_35 : decode cX2_pieceAmount 35 = .ok (.iaload, 1) := by decide +kernel
theorem dX2_pieceAmount_36 : decode cX2_pieceAmount 36 = .ok (.invokestatic 26, 3) := by decide +kernel
theorem dX2_pieceAmount_39 : decode cX2_pieceAmount 39 = .ok (.iadd, 1) := by decide +kernel
theorem dX2_pieceAmount_40 : decode cX2_pieceAmount 40 = .ok (.istore_n 2, 1) := by decide +kernel
theorem dX2_pieceAmount_41 : decode cX2_pieceAmount 41 = .ok (.iinc 3 1, 3) := by decide +kernel
theorem dX2_pieceAmount_44 : decode cX2_pieceAmount 44 = .ok (.goto (-25), 3) := by decide +kernel
theorem dX2_pieceAmount_47 : decode cX2_pieceAmount 47 = .ok (.iload_n 2, 1) := by decide +kernel
theorem dX2_pieceAmount_48 : decode cX2_pieceAmount 48 = .ok (.ireturn, 1) := by decide +kernel
theorem dX2_pieceRuns_0 : decode cX2_pieceRuns 0 = .ok (.iload_n 1, 1) := by decide +kernel
theorem dX2_pieceRuns_1 : decode cX2_pieceRuns 1 = .ok (.ifCond .lt 9, 3) := by decide +kernel
theorem dX2_pieceRuns_4 : decode cX2_pieceRuns 4 = .ok (.iload_n 1, 1) := by decide +kernel
theorem dX2_pieceRuns_5 : decode cX2_pieceRuns 5 = .ok (.bipush 16, 2) := by decide +kernel
theorem dX2_pieceRuns_7 : decode cX2_pieceRuns 7 = .ok (.if_icmp .lt 5, 3) := by decide +kernel
theorem dX2_pieceRuns_10 : decode cX2_pieceRuns 10 = .ok (.iconst 0, 1) := by decide +kernel
theorem dX2_pieceRuns_11 : decode cX2_pieceRuns 11 = .ok (.ireturn, 1) := by decide +kernel
theorem dX2_pieceRuns_12 : decode cX2_pieceRuns 12 = .ok (.iconst 0, 1) := by decide +kernel
theorem dX2_pieceRuns_13 : decode cX2_pieceRuns 13 = .ok (.istore_n 2, 1) := by decide +kernel
theorem dX2_pieceRuns_14 : decode cX2_pieceRuns 14 = .ok (.iconst 0, 1) := by decide +kernel
theorem dX2_pieceRuns_15 : decode cX2_pieceRuns 15 = .ok (.istore_n 3, 1) := by decide +kernel
theorem dX2_pieceRuns_16 : decode cX2_pieceRuns 16 = .ok (.iload_n 1, 1) := by decide +kernel
theorem dX2_pieceRuns_17 : decode cX2_pieceRuns 17 = .ok (.bipush 8, 2) := by decide +kernel
theorem dX2_pieceRuns_19 : decode cX2_pieceRuns 19 = .ok (.imul, 1) := by decide +kernel
theorem dX2_pieceRuns_20 : decode cX2_pieceRuns 20 = .ok (.istore 4, 2) := by decide +kernel
theorem dX2_pieceRuns_22 : decode cX2_pieceRuns 22 = .ok (.iload 4, 2) := by decide +kernel
theorem dX2_pieceRuns_24 : decode cX2_pieceRuns 24 = .ok (.iload_n 1, 1) := by decide +kernel
theorem dX2_pieceRuns_25 : decode cX2_pieceRuns 25 = .ok (.iconst 1, 1) := by decide +kernel
theorem dX2_pieceRuns_26 : decode cX2_pieceRuns 26 = .ok (.iadd, 1) := by decide +kernel
theorem dX2_pieceRuns_27 : decode cX2_pieceRuns 27 = .ok (.bipush 8, 2) := by decide +kernel
theorem dX2_pieceRuns_29 : decode cX2_pieceRuns 29 = .ok (.imul, 1) := by decide +kernel
theorem dX2_pieceRuns_30 : decode cX2_pieceRuns 30 = .ok (.if_icmp .ge 51, 3) := by decide +kernel
theorem dX2_pieceRuns_33 : decode cX2_pieceRuns 33 = .ok (.aload_n 0, 1) := by decide +kernel
theorem dX2_pieceRuns_34 : decode cX2_pieceRuns 34 = .ok (.getfield 9, 3) := by decide +kernel
theorem dX2_pieceRuns_37 : decode cX2_pieceRuns 37 = .ok (.iload 4, 2) := by decide +kernel
theorem dX2_pieceRuns_39 : decode cX2_pieceRuns 39 = .ok (.iaload, 1) := by decide +kernel
theorem dX2_pieceRuns_40 : decode cX2_pieceRuns 40 = .ok (.aload_n 0, 1) := by decide +kernel
theorem dX2_pieceRuns_41 : decode cX2_pieceRuns 41 = .ok (.getfield 9, 3) := by decide +kernel
theorem dX2_pieceRuns_44 : decode cX2_pieceRuns 44 = .ok (.iload 4, 2) := by decide +kernel
theorem dX2_pieceRuns_46 : decode cX2_pieceRuns 46 = .ok (.iaload, 1) := by decide +kernel
theorem dX2_pieceRuns_47 : decode cX2_pieceRuns 47 = .ok (.iconst 1, 1) := by decide +kernel
theorem dX2_pieceRuns_48 : decode cX2_pieceRuns 48 = .ok (.ishl, 1) := by decide +kernel
theorem dX2_pieceRuns_49 : decode cX2_pieceRuns 49 = .ok (.iload_n 3, 1) := by decide +kernel
theorem dX2_pieceRuns_50 : decode cX2_pieceRuns 50 = .ok (.ior, 1) := by decide +kernel
theorem dX2_pieceRuns_51 : decode cX2_pieceRuns 51 = .ok (.iconst (-1), 1) := by decide +kernel
theorem dX2_pieceRuns_52 : decode cX2_pieceRuns 52 = .ok (.ixor, 1) := by decide +kernel
theorem dX2_pieceRuns_53 : decode cX2_pieceRuns 53 = .ok (.iand, 1) := by decide +kernel
theorem dX2_pieceRuns_54 : decode cX2_pieceRuns 54 = .ok (.istore 5, 2) := by decide +kernel
theorem dX2_pieceRuns_56 : decode cX2_pieceRuns 56 = .ok (.iload_n 2, 1) := by decide +kernel
theorem dX2_pieceRuns_57 : decode cX2_pieceRuns 57 = .ok (.iload 5, 2) := by decide +kernel
theorem dX2_pieceRuns_59 : decode cX2_pieceRuns 59 = .ok (.invokestatic 26, 3) := by decide +kernel
theorem dX2_pieceRuns_62 : decode cX2_pieceRuns 62 = .ok (.iadd, 1) := by decide +kernel
theorem dX2_pieceRuns_63 : decode cX2_pieceRuns 63 = .ok (.istore_n 2, 1) := by decide +kernel
theorem dX2_pieceRuns_64 : decode cX2_pieceRuns 64 = .ok (.aload_n 0, 1) := by decide +kernel
theorem dX2_pieceRuns_65 : decode cX2_pieceRuns 65 = .ok (.getfield 9, 3) := by decide +kernel
theorem dX2_pieceRuns_68 : decode cX2_pieceRuns 68 = .ok (.iload 4, 2) := by decide +kernel
theorem dX2_pieceRuns_70 : decode cX2_pieceRuns 70 = .ok (.iaload, 1) := by decide +kernel
theorem dX2_pieceRuns_71 : decode cX2_pieceRuns 71 = .ok (.bipush 31, 2) := by decide +kernel
theorem dX2_pieceRuns_73 : decode cX2_pieceRuns 73 = .ok (.iushr, 1) := by decide +kernel
theorem dX2_pieceRuns_74 : decode cX2_pieceRuns 74 = .ok (.istore_n 3, 1) := by decide +kernel
theorem dX2_pieceRuns_75 : decode cX2_pieceRuns 75 = .ok (.iinc 4 1, 3) := by decide +kernel
theorem dX2_pieceRuns_78 : decode cX2_pieceRuns 78 = .ok (.goto (-56), 3) := by decide +kernel
theorem dX2_pieceRuns_81 : decode cX2_pieceRuns 81 = .ok (.iload_n 2, 1) := by decide +kernel
theorem dX2_pieceRuns_82 : decode cX2_pieceRuns 82 = .ok (.ireturn, 1) := by decide +kernel
theorem dX2_pieceForm_0 : decode cX2_pieceForm 0 = .ok (.aload_n 0, 1) := by decide +kernel
theorem dX2_pieceForm_1 : decode cX2_pieceForm 1 = .ok (.iload_n 1, 1) := by decide +kernel
theorem dX2_pieceForm_2 : decode cX2_pieceForm 2 = .ok (.invokevirtual 46, 3) := by decide +kernel
theorem dX2_pieceForm_5 : decode cX2_pieceForm 5 = .ok (.istore_n 2, 1) := by decide +kernel
theorem dX2_pieceForm_6 : decode cX2_pieceForm 6 = .ok (.iload_n 2, 1) := by decide +kernel
theorem dX2_pieceForm_7 : decode cX2_pieceForm 7 = .ok (.ifCond .ne 5, 3) := by decide +kernel
theorem dX2_pieceForm_10 : decode cX2_pieceForm 10 = .ok (.iconst (-1), 1) := by decide +kernel
theorem dX2_pieceForm_11 : decode cX2_pieceForm 11 = .ok (.ireturn, 1) := by decide +kernel
theorem dX2_pieceForm_12 : decode cX2_pieceForm 12 = .ok (.bipush 8, 2) := by decide +kernel
theorem dX2_pieceForm_14 : decode cX2_pieceForm 14 = .ok (.iload_n 2, 1) := by decide +kernel
theorem dX2_pieceForm_15 : decode cX2_pieceForm 15 = .ok (.imul, 1) := by decide +kernel
theorem dX2_pieceForm_16 : decode cX2_pieceForm 16 = .ok (.istore_n 3, 1) := by decide +kernel
theorem dX2_pieceForm_17 : decode cX2_pieceForm 17 = .ok (.bipush 16, 2) := by decide +kernel
theorem dX2_pieceForm_19 : decode cX2_pieceForm 19 = .ok (.aload_n 0, 1) := by decide +kernel
theorem dX2_pieceForm_20 : decode cX2_pieceForm 20 = .ok (.iload_n 1, 1) := by decide +kernel
theorem dX2_pieceForm_21 : decode cX2_pieceForm 21 = .ok (.invokevirtual 49, 3) := by decide +kernel
theorem dX2_pieceForm_24 : decode cX2_pieceForm 24 = .ok (.imul, 1) := by decide +kernel
theorem dX2_pieceForm_25 : decode cX2_pieceForm 25 = .ok (.istore 4, 2) := by decide +kernel
theorem dX2_pieceForm_27 : decode cX2_pieceForm 27 = .ok (.iload_n 3, 1) := by decide +kernel
theorem dX2_pieceForm_28 : decode cX2_pieceForm 28 = .ok (.sipush 256, 3) := by decide +kernel
theorem dX2_pieceForm_31 : decode cX2_pieceForm 31 = .ok (.if_icmp .gt 11, 3) := by decide +kernel
theorem dX2_pieceForm_34 : decode cX2_pieceForm 34 = .ok (.iload_n 3, 1) := by decide +kernel
theorem dX2_pieceForm_35 : decode cX2_pieceForm 35 = .ok (.iload 4, 2) := by decide +kernel
theorem dX2_pieceForm_37 : decode cX2_pieceForm 37 = .ok (.if_icmp .gt 5, 3) := by decide +kernel
theorem dX2_pieceForm_40 : decode cX2_pieceForm 40 = .ok (.iconst 0, 1) := by decide +kernel
theorem dX2_pieceForm_41 : decode cX2_pieceForm 41 = .ok (.ireturn, 1) := by decide +kernel
theorem dX2_pieceForm_42 : decode cX2_pieceForm 42 = .ok (.sipush 256, 3) := by decide +kernel
theorem dX2_pieceForm_45 : decode cX2_pieceForm 45 = .ok (.iload 4, 2) := by decide +kernel
theorem dX2_pieceForm_47 : decode cX2_pieceForm 47 = .ok (.if_icmp .gt 7, 3) := by decide +kernel
theorem dX2_pieceForm_50 : decode cX2_pieceForm 50 = .ok (.iconst 1, 1) := by decide +kernel
theorem dX2_pieceForm_51 : decode cX2_pieceForm 51 = .ok (.goto 4, 3) := by decide +kernel
theorem dX2_pieceForm_54 : decode cX2_pieceForm 54 = .ok (.iconst 2, 1) := by decide +kernel
theorem dX2_pieceForm_55 : decode cX2_pieceForm 55 = .ok (.ireturn, 1) := by decide +kernel
theorem dX2_pieceBits_0 : decode cX2_pieceBits 0 = .ok (.aload_n 0, 1) := by decide +kernel
theorem dX2_pieceBits_1 : decode cX2_pieceBits 1 = .ok (.iload_n 1, 1) := by decide +kernel
theorem dX2_pieceBits_2 : decode cX2_pieceBits 2 = .ok (.invokevirtual 52, 3) := by decide +kernel
theorem dX2_pieceBits_5 : decode cX2_pieceBits 5 = .ok (.tableswitch 49 0 2 #[27, 36, 40], 27) := by decide +kernel
theorem dX2_pieceBits_32 : decode cX2_pieceBits 32 = .ok (.bipush 8, 2) := by decide +kernel
theorem dX2_pieceBits_34 : decode cX2_pieceBits 34 = .ok (.aload_n 0, 1) := by decide +kernel
theorem dX2_pieceBits_35 : decode cX2_pieceBits 35 = .ok (.iload_n 1, 1) := by decide +kernel
theorem dX2_pieceBits_36 : decode cX2_pieceBits 36 = .ok (.invokevirtual 46, 3) := by decide +kernel
theorem dX2_pieceBits_39 : decode cX2_pieceBits 39 = .ok (.imul, 1) := by decide +kernel
theorem dX2_pieceBits_40 : decode cX2_pieceBits 40 = .ok (.ireturn, 1) := by decide +kernel
theorem dX2_pieceBits_41 : decode cX2_pieceBits 41 = .ok (.sipush 256, 3) := by decide +kernel
theorem dX2_pieceBits_44 : decode cX2_pieceBits 44 = .ok (.ireturn, 1) := by decide +kernel
theorem dX2_pieceBits_45 : decode cX2_pieceBits 45 = .ok (.bipush 16, 2) := by decide +kernel
theorem dX2_pieceBits_47 : decode cX2_pieceBits 47 = .ok (.aload_n 0, 1) := by decide +kernel
theorem dX2_pieceBits_48 : decode cX2_pieceBits 48 = .ok (.iload_n 1, 1) := by decide +kernel
theorem dX2_pieceBits_49 : decode cX2_pieceBits 49 = .ok (.invokevirtual 49, 3) := by decide +kernel
theorem dX2_pieceBits_52 : decode cX2_pieceBits 52 = .ok (.imul, 1) := by decide +kernel
theorem dX2_pieceBits_53 : decode cX2_pieceBits 53 = .ok (.ireturn, 1) := by decide +kernel
theorem dX2_pieceBits_54 : decode cX2_pieceBits 54 = .ok (.iconst 0, 1) := by decide +kernel
theorem dX2_pieceBits_55 : decode cX2_pieceBits 55 = .ok (.ireturn, 1) := by decide +kernel
theorem dX2_joined_0 : decode cX2_joined 0 = .ok (.iload_n 2, 1) := by decide +kernel
theorem dX2_joined_1 : decode cX2_joined 1 = .ok (.tableswitch 41 0 2 #[27, 31, 35], 27) := by decide +kernel
theorem dX2_joined_28 : decode cX2_joined 28 = .ok (.iload_n 0, 1) := by decide +kernel
theorem dX2_joined_29 : decode cX2_joined 29 = .ok (.iload_n 1, 1) := by decide +kernel
theorem dX2_joined_30 : decode cX2_joined 30 = .ok (.iand, 1) := by decide +kernel
theorem dX2_joined_31 : decode cX2_joined 31 = .ok (.ireturn, 1) := by decide +kernel
theorem dX2_joined_32 : decode cX2_joined 32 = .ok (.iload_n 0, 1) := by decide +kernel
theorem dX2_joined_33 : decode cX2_joined 33 = .ok (.iload_n 1, 1) := by decide +kernel
theorem dX2_joined_34 : decode cX2_joined 34 = .ok (.ior, 1) := by decide +kernel
theorem dX2_joined_35 : decode cX2_joined 35 = .ok (.ireturn, 1) := by decide +kernel
theorem dX2_joined_36 : decode cX2_joined 36 = .ok (.iload_n 0, 1) := by decide +kernel
theorem dX2_joined_37 : decode cX2_joined 37 = .ok (.iload_n 1, 1) := by decide +kernel
theorem dX2_joined_38 : decode cX2_joined 38 = .ok (.iconst (-1), 1) := by decide +kernel
theorem dX2_joined_39 : decode cX2_joined 39 = .ok (.ixor, 1) := by decide +kernel
theorem dX2_joined_40 : decode cX2_joined 40 = .ok (.iand, 1) := by decide +kernel
theorem dX2_joined_41 : decode cX2_joined 41 = .ok (.ireturn, 1) := by decide +kernel
theorem dX2_joined_42 : decode cX2_joined 42 = .ok (.iload_n 0, 1) := by decide +kernel
theorem dX2_joined_43 : decode cX2_joined 43 = .ok (.iload_n 1, 1) := by decide +kernel
theorem dX2_joined_44 : decode cX2_joined 44 = .ok (.ixor, 1) := by decide +kernel
theorem dX2_joined_45 : decode cX2_joined 45 = .ok (.ireturn, 1) := by decide +kernel
theorem dX2_maskInWord_0 : decode cX2_maskInWord 0 = .ok (.iconst (-1), 1) := by decide +kernel
theorem dX2_maskInWord_1 : decode cX2_maskInWord 1 = .ok (.istore_n 3, 1) := by decide +kernel
theorem dX2_maskInWord_2 : decode cX2_maskInWord 2 = .ok (.iload_n 0, 1) := by decide +kernel
theorem dX2_maskInWord_3 : decode cX2_maskInWord 3 = .ok (.iload_n 1, 1) := by decide +kernel
theorem dX2_maskInWord_4 : decode cX2_maskInWord 4 = .ok (.iconst 5, 1) := by decide +kernel
theorem dX2_maskInWord_5 : decode cX2_maskInWord 5 = .ok (.ishr, 1) := by decide +kernel
theorem dX2_maskInWord_6 : decode cX2_maskInWord 6 = .ok (.if_icmp .ne 12, 3) := by decide +kernel
theorem dX2_maskInWord_9 : decode cX2_maskInWord 9 = .ok (.iload_n 3, 1) := by decide +kernel
theorem dX2_maskInWord_10 : decode cX2_maskInWord 10 = .ok (.iconst (-1), 1) := by decide +kernel
theorem dX2_maskInWord_11 : decode cX2_maskInWord 11 = .ok (.iload_n 1, 1) := by decide +kernel
theorem dX2_maskInWord_12 : decode cX2_maskInWord 12 = .ok (.bipush 31, 2) := by decide +kernel
theorem dX2_maskInWord_14 : decode cX2_maskInWord 14 = .ok (.iand, 1) := by decide +kernel
theorem dX2_maskInWord_15 : decode cX2_maskInWord 15 = .ok (.ishl, 1) := by decide +kernel
theorem dX2_maskInWord_16 : decode cX2_maskInWord 16 = .ok (.iand, 1) := by decide +kernel
theorem dX2_maskInWord_17 : decode cX2_maskInWord 17 = .ok (.istore_n 3, 1) := by decide +kernel
theorem dX2_maskInWord_18 : decode cX2_maskInWord 18 = .ok (.iload_n 0, 1) := by decide +kernel
theorem dX2_maskInWord_19 : decode cX2_maskInWord 19 = .ok (.iload_n 2, 1) := by decide +kernel
theorem dX2_maskInWord_20 : decode cX2_maskInWord 20 = .ok (.iconst 5, 1) := by decide +kernel
theorem dX2_maskInWord_21 : decode cX2_maskInWord 21 = .ok (.ishr, 1) := by decide +kernel
theorem dX2_maskInWord_22 : decode cX2_maskInWord 22 = .ok (.if_icmp .ne 15, 3) := by decide +kernel
theorem dX2_maskInWord_25 : decode cX2_maskInWord 25 = .ok (.iload_n 3, 1) := by decide +kernel
theorem dX2_maskInWord_26 : decode cX2_maskInWord 26 = .ok (.iconst (-1), 1) := by decide +kernel
theorem dX2_maskInWord_27 : decode cX2_maskInWord 27 = .ok (.bipush 31, 2) := by decide +kernel
theorem dX2_maskInWord_29 : decode cX2_maskInWord 29 = .ok (.iload_n 2, 1) := by decide +kernel
theorem dX2_maskInWord_30 : decode cX2_maskInWord 30 = .ok (.bipush 31, 2) := by decide +kernel
theorem dX2_maskInWord_32 : decode cX2_maskInWord 32 = .ok (.iand, 1) := by decide +kernel
theorem dX2_maskInWord_33 : decode cX2_maskInWord 33 = .ok (.isub, 1) := by decide +kernel
theorem dX2_maskInWord_34 : decode cX2_maskInWord 34 = .ok (.iushr, 1) := by decide +kernel
theorem dX2_maskInWord_35 : decode cX2_maskInWord 35 = .ok (.iand, 1) := by decide +kernel
theorem dX2_maskInWord_36 : decode cX2_maskInWord 36 = .ok (.istore_n 3, 1) := by decide +kernel
theorem dX2_maskInWord_37 : decode cX2_maskInWord 37 = .ok (.iload_n 3, 1) := by decide +kernel
theorem dX2_maskInWord_38 : decode cX2_maskInWord 38 = .ok (.ireturn, 1) := by decide +kernel
theorem dX2_nthOne_0 : decode cX2_nthOne 0 = .ok (.iload_n 0, 1) := by decide +kernel
theorem dX2_nthOne_1 : decode cX2_nthOne 1 = .ok (.istore_n 2, 1) := by decide +kernel
theorem dX2_nthOne_2 : decode cX2_nthOne 2 = .ok (.iconst 0, 1) := by decide +kernel
theorem dX2_nthOne_3 : decode cX2_nthOne 3 = .ok (.istore_n 3, 1) := by decide +kernel
theorem dX2_nthOne_4 : decode cX2_nthOne 4 = .ok (.iload_n 3, 1) := by decide +kernel
theorem dX2_nthOne_5 : decode cX2_nthOne 5 = .ok (.iload_n 1, 1) := by decide +kernel
theorem dX2_nthOne_6 : decode cX2_nthOne 6 = .ok (.if_icmp .ge 15, 3) := by decide +kernel
theorem dX2_nthOne_9 : decode cX2_nthOne 9 = .ok (.iload_n 2, 1) := by decide +kernel
theorem dX2_nthOne_10 : decode cX2_nthOne 10 = .ok (.iload_n 2, 1) := by decide +kernel
theorem dX2_nthOne_11 : decode cX2_nthOne 11 = .ok (.iconst 1, 1) := by decide +kernel
theorem dX2_nthOne_12 : decode cX2_nthOne 12 = .ok (.isub, 1) := by decide +kernel
theorem dX2_nthOne_13 : decode cX2_nthOne 13 = .ok (.iand, 1) := by decide +kernel
theorem dX2_nthOne_14 : decode cX2_nthOne 14 = .ok (.istore_n 2, 1) := by decide +kernel
theorem dX2_nthOne_15 : decode cX2_nthOne 15 = .ok (.iinc 3 1, 3) := by decide +kernel
theorem dX2_nthOne_18 : decode cX2_nthOne 18 = .ok (.goto (-14), 3) := by decide +kernel
theorem dX2_nthOne_21 : decode cX2_nthOne 21 = .ok (.iload_n 2, 1) := by decide +kernel
theorem dX2_nthOne_22 : decode cX2_nthOne 22 = .ok (.iload_n 2, 1) := by decide +kernel
theorem dX2_nthOne_23 : decode cX2_nthOne 23 = .ok (.ineg, 1) := by decide +kernel
theorem dX2_nthOne_24 : decode cX2_nthOne 24 = .ok (.iand, 1) := by decide +kernel
theorem dX2_nthOne_25 : decode cX2_nthOne 25 = .ok (.iconst 1, 1) := by decide +kernel
theorem dX2_nthOne_26 : decode cX2_nthOne 26 = .ok (.isub, 1) := by decide +kernel
theorem dX2_nthOne_27 : decode cX2_nthOne 27 = .ok (.invokestatic 26, 3) := by decide +kernel
theorem dX2_nthOne_30 : decode cX2_nthOne 30 = .ok (.ireturn, 1) := by decide +kernel
theorem dX3_init_0 : decode cX3_init 0 = .ok (.aload_n 0, 1) := by decide +kernel
theorem dX3_init_1 : decode cX3_init 1 = .ok (.invokespecial 3, 3) := by decide +kernel
theorem dX3_init_4 : decode cX3_init 4 = .ok (.return_, 1) := by decide +kernel
theorem dX3_bitsFor_0 : decode cX3_bitsFor 0 = .ok (.iconst 0, 1) := by decide +kernel
theorem dX3_bitsFor_1 : decode cX3_bitsFor 1 = .ok (.istore_n 2, 1) := by decide +kernel
theorem dX3_bitsFor_2 : decode cX3_bitsFor 2 = .ok (.iconst 0, 1) := by decide +kernel
theorem dX3_bitsFor_3 : decode cX3_bitsFor 3 = .ok (.istore_n 3, 1) := by decide +kernel
theorem dX3_bitsFor_4 : decode cX3_bitsFor 4 = .ok (.iload_n 3, 1) := by decide +kernel
theorem dX3_bitsFor_5 : decode cX3_bitsFor 5 = .ok (.bipush 16, 2) := by decide +kernel
theorem dX3_bitsFor_7 : decode cX3_bitsFor 7 = .ok (.if_icmp .ge 56, 3) := by decide +kernel
theorem dX3_bitsFor_10 : decode cX3_bitsFor 10 = .ok (.aload_n 1, 1) := by decide +kernel
theorem dX3_bitsFor_11 : decode cX3_bitsFor 11 = .ok (.iload_n 3, 1) := by decide +kernel
theorem dX3_bitsFor_12 : decode cX3_bitsFor 12 = .ok (.invokevirtual 9, 3) := by decide +kernel
theorem dX3_bitsFor_15 : decode cX3_bitsFor 15 = .ok (.istore 4, 2) := by decide +kernel
theorem dX3_bitsFor_17 : decode cX3_bitsFor 17 = .ok (.iload 4, 2) := by decide +kernel
theorem dX3_bitsFor_19 : decode cX3_bitsFor 19 = .ok (.ifCond .eq 9, 3) := by decide +kernel
theorem dX3_bitsFor_22 : decode cX3_bitsFor 22 = .ok (.iload 4, 2) := by decide +kernel
theorem dX3_bitsFor_24 : decode cX3_bitsFor 24 = .ok (.iconst 2, 1) := by decide +kernel
theorem dX3_bitsFor_25 : decode cX3_bitsFor 25 = .ok (.if_icmp .ne 7, 3) := by decide +kernel
theorem dX3_bitsFor_28 : decode cX3_bitsFor 28 = .ok (.iconst 1, 1) := by decide +kernel
theorem dX3_bitsFor_29 : decode cX3_bitsFor 29 = .ok (.goto 4, 3) := by decide +kernel
theorem dX3_bitsFor_32 : decode cX3_bitsFor 32 = .ok (.iconst 0, 1) := by decide +kernel
theorem dX3_bitsFor_33 : decode cX3_bitsFor 33 = .ok (.istore 5, 2) := by decide +kernel
theorem dX3_bitsFor_35 : decode cX3_bitsFor 35 = .ok (.iload_n 2, 1) := by decide +kernel
theorem dX3_bitsFor_36 : decode cX3_bitsFor 36 = .ok (.iconst 2, 1) := by decide +kernel
theorem dX3_bitsFor_37 : decode cX3_bitsFor 37 = .ok (.aload_n 1, 1) := by decide +kernel
theorem dX3_bitsFor_38 : decode cX3_bitsFor 38 = .ok (.iload_n 3, 1) := by decide +kernel
theorem dX3_bitsFor_39 : decode cX3_bitsFor 39 = .ok (.invokevirtual 15, 3) := by decide +kernel
theorem dX3_bitsFor_42 : decode cX3_bitsFor 42 = .ok (.iadd, 1) := by decide +kernel
theorem dX3_bitsFor_43 : decode cX3_bitsFor 43 = .ok (.iload 5, 2) := by decide +kernel
theorem dX3_bitsFor_45 : decode cX3_bitsFor 45 = .ok (.ifCond .eq 8, 3) := by decide +kernel
theorem dX3_bitsFor_48 : decode cX3_bitsFor 48 = .ok (.bipush 8, 2) := by decide +kernel
theorem dX3_bitsFor_50 : decode cX3_bitsFor 50 = .ok (.goto 4, 3) := by decide +kernel
theorem dX3_bitsFor_53 : decode cX3_bitsFor 53 = .ok (.iconst 0, 1) := by decide +kernel
theorem dX3_bitsFor_54 : decode cX3_bitsFor 54 = .ok (.iadd, 1) := by decide +kernel
theorem dX3_bitsFor_55 : decode cX3_bitsFor 55 = .ok (.iadd, 1) := by decide +kernel
theorem dX3_bitsFor_56 : decode cX3_bitsFor 56 = .ok (.istore_n 2, 1) := by decide +kernel
theorem dX3_bitsFor_57 : decode cX3_bitsFor 57 = .ok (.iinc 3 1, 3) := by decide +kernel
theorem dX3_bitsFor_60 : decode cX3_bitsFor 60 = .ok (.goto (-56), 3) := by decide +kernel
theorem dX3_bitsFor_63 : decode cX3_bitsFor 63 = .ok (.iload_n 2, 1) := by decide +kernel
theorem dX3_bitsFor_64 : decode cX3_bitsFor 64 = .ok (.ireturn, 1) := by decide +kernel
theorem dX3_tell_0 : decode cX3_tell 0 = .ok (.iconst 0, 1) := by decide +kernel
theorem dX3_tell_1 : decode cX3_tell 1 = .ok (.istore_n 3, 1) := by decide +kernel
theorem dX3_tell_2 : decode cX3_tell 2 = .ok (.iload_n 3, 1) := by decide +kernel
theorem dX3_tell_3 : decode cX3_tell 3 = .ok (.bipush 16, 2) := by decide +kernel
theorem dX3_tell_5 : decode cX3_tell 5 = .ok (.if_icmp .ge 94, 3) := by decide +kernel
theorem dX3_tell_8 : decode cX3_tell 8 = .ok (.aload_n 1, 1) := by decide +kernel
theorem dX3_tell_9 : decode cX3_tell 9 = .ok (.iload_n 3, 1) := by decide +kernel
theorem dX3_tell_10 : decode cX3_tell 10 = .ok (.invokevirtual 9, 3) := by decide +kernel
theorem dX3_tell_13 : decode cX3_tell 13 = .ok (.istore 4, 2) := by decide +kernel
theorem dX3_tell_15 : decode cX3_tell 15 = .ok (.aload_n 2, 1) := by decide +kernel
theorem dX3_tell_16 : decode cX3_tell 16 = .ok (.iload 4, 2) := by decide +kernel
theorem dX3_tell_18 : decode cX3_tell 18 = .ok (.iconst (-1), 1) := by decide +kernel
theorem dX3_tell_19 : decode cX3_tell 19 = .ok (.if_icmp .ne 7, 3) := by decide +kernel
theorem dX3_tell_22 : decode cX3_tell 22 = .ok (.iconst 3, 1) := by decide +kernel
theorem dX3_tell_23 : decode cX3_tell 23 = .ok (.goto 5, 3) := by decide +kernel
theorem dX3_tell_26 : decode cX3_tell 26 = .ok (.iload 4, 2) := by decide +kernel
theorem dX3_tell_28 : decode cX3_tell 28 = .ok (.iconst 2, 1) := by decide +kernel
theorem dX3_tell_29 : decode cX3_tell 29 = .ok (.invokevirtual 18, 3) := by decide +kernel
theorem dX3_tell_32 : decode cX3_tell 32 = .ok (.iload_n 3, 1) := by decide +kernel
theorem dX3_tell_33 : decode cX3_tell 33 = .ok (.sipush 256, 3) := by decide +kernel
theorem dX3_tell_36 : decode cX3_tell 36 = .ok (.imul, 1) := by decide +kernel
theorem dX3_tell_37 : decode cX3_tell 37 = .ok (.istore 5, 2) := by decide +kernel
theorem dX3_tell_39 : decode cX3_tell 39 = .ok (.iload 4, 2) := by decide +kernel
theorem dX3_tell_41 : decode cX3_tell 41 = .ok (.ifCond .ne 18, 3) := by decide +kernel
theorem dX3_tell_44 : decode cX3_tell 44 = .ok (.aload_n 1, 1) := by decide +kernel
theorem dX3_tell_45 : decode cX3_tell 45 = .ok (.iload 5, 2) := by decide +kernel
theorem dX3_tell_47 : decode cX3_tell 47 = .ok (.aload_n 1, 1) := by decide +kernel
theorem dX3_tell_48 : decode cX3_tell 48 = .ok (.iload_n 3, 1) := by decide +kernel
theorem dX3_tell_49 : decode cX3_tell 49 = .ok (.invokevirtual 24, 3) := by decide +kernel
theorem dX3_tell_52 : decode cX3_tell 52 = .ok (.aload_n 2, 1) := by decide +kernel
theorem dX3_tell_53 : decode cX3_tell 53 = .ok (.invokestatic 27, 3) := by decide +kernel
theorem dX3_tell_56 : decode cX3_tell 56 = .ok (.goto 37, 3) := by decide +kernel
theorem dX3_tell_59 : decode cX3_tell 59 = .ok (.iload 4, 2) := by decide +kernel
theorem dX3_tell_61 : decode cX3_tell 61 = .ok (.iconst 1, 1) := by decide +kernel
theorem dX3_tell_62 : decode cX3_tell 62 = .ok (.if_icmp .ne 13, 3) := by decide +kernel
theorem dX3_tell_65 : decode cX3_tell 65 = .ok (.aload_n 1, 1) := by decide +kernel
theorem dX3_tell_66 : decode cX3_tell 66 = .ok (.iload 5, 2) := by decide +kernel
theorem dX3_tell_68 : decode cX3_tell 68 = .ok (.aload_n 2, 1) := by decide +kernel
theorem dX3_tell_69 : decode cX3_tell 69 = .ok (.invokestatic 33, 3) := by decide +kernel
theorem dX3_tell_72 : decode cX3_tell 72 = .ok (.goto 21, 3) := by decide +kernel
theorem dX3_tell_75 : decode cX3_tell 75 = .ok (.iload 4, 2) := by decide +kernel
theorem dX3_tell_77 : decode cX3_tell 77 = .ok (.iconst 2, 1) := by decide +kernel
theorem dX3_tell_78 : decode cX3_tell 78 = .ok (.if_icmp .ne 15, 3) := by decide +kernel
theorem dX3_tell_81 : decode cX3_tell 81 = .ok (.aload_n 1, 1) := by decide +kernel
theorem dX3_tell_82 : decode cX3_tell 82 = .ok (.iload 5, 2) := by decide +kernel
theorem dX3_tell_84 : decode cX3_tell 84 = .ok (.aload_n 1, 1) := by decide +kernel
theorem dX3_tell_85 : decode cX3_tell 85 = .ok (.iload_n 3, 1) := by decide +kernel
theorem dX3_tell_86 : decode cX3_tell 86 = .ok (.invokevirtual 37, 3) := by decide +kernel
theorem dX3_tell_89 : decode cX3_tell 89 = .ok (.aload_n 2, 1) := by decide +kernel
theorem dX3_tell_90 : decode cX3_tell 90 = .ok (.invokestatic 40, 3) := by decide +kernel
theorem dX3_tell_93 : decode cX3_tell 93 = .ok (.iinc 3 1, 3) := by decide +kernel
theorem dX3_tell_96 : decode cX3_tell 96 = .ok (.goto (-94), 3) := by decide +kernel
theorem dX3_tell_99 : decode cX3_tell 99 = .ok (.return_, 1) := by decide +kernel
theorem dX3_learn_0 : decode cX3_learn 0 = .ok (.aload_n 2, 1) := by decide +kernel
theorem dX3_learn_1 : decode cX3_learn 1 = .ok (.invokevirtual 43, 3) := by decide +kernel
theorem dX3_learn_4 : decode cX3_learn 4 = .ok (.aload_n 1, 1) := by decide +kernel
theorem dX3_learn_5 : decode cX3_learn 5 = .ok (.invokevirtual 46, 3) := by decide +kernel
theorem dX3_learn_8 : decode cX3_learn 8 = .ok (.iconst 0, 1) := by decide +kernel
theorem dX3_learn_9 : decode cX3_learn 9 = .ok (.istore_n 3, 1) := by decide +kernel
theorem dX3_learn_10 : decode cX3_learn 10 = .ok (.iload_n 3, 1) := by decide +kernel
theorem dX3_learn_11 : decode cX3_learn 11 = .ok (.bipush 16, 2) := by decide +kernel
theorem dX3_learn_13 : decode cX3_learn 13 = .ok (.if_icmp .ge 105, 3) := by decide +kernel
theorem dX3_learn_16 : decode cX3_learn 16 = .ok (.aload_n 1, 1) := by decide +kernel
theorem dX3_learn_17 : decode cX3_learn 17 = .ok (.iconst 2, 1) := by decide +kernel
theorem dX3_learn_18 : decode cX3_learn 18 = .ok (.invokevirtual 49, 3) := by decide +kernel
theorem dX3_learn_21 : decode cX3_learn 21 = .ok (.istore 4, 2) := by decide +kernel
theorem dX3_learn_23 : decode cX3_learn 23 = .ok (.iload_n 3, 1) := by decide +kernel
theorem dX3_learn_24 : decode cX3_learn 24 = .ok (.sipush 256, 3) := by decide +kernel
theorem dX3_learn_27 : decode cX3_learn 27 = .ok (.imul, 1) := by decide +kernel
theorem dX3_learn_28 : decode cX3_learn 28 = .ok (.istore 5, 2) := by decide +kernel
theorem dX3_learn_30 : decode cX3_learn 30 = .ok (.iconst 1, 1) := by decide +kernel
theorem dX3_learn_31 : decode cX3_learn 31 = .ok (.istore 6, 2) := by decide +kernel
theorem dX3_learn_33 : decode cX3_learn 33 = .ok (.iload 4, 2) := by decide +kernel
theorem dX3_learn_35 : decode cX3_learn 35 = .ok (.ifCond .ne 15, 3) := by decide +kernel
theorem dX3_learn_38 : decode cX3_learn 38 = .ok (.aload_n 1, 1) := by decide +kernel
theorem dX3_learn_39 : decode cX3_learn 39 = .ok (.aload_n 2, 1) := by decide +kernel
theorem dX3_learn_40 : decode cX3_learn 40 = .ok (.iload 5, 2) := by decide +kernel
theorem dX3_learn_42 : decode cX3_learn 42 = .ok (.invokestatic 52, 3) := by decide +kernel
theorem dX3_learn_45 : decode cX3_learn 45 = .ok (.istore 6, 2) := by decide +kernel
theorem dX3_learn_47 : decode cX3_learn 47 = .ok (.goto 34, 3) := by decide +kernel
theorem dX3_learn_50 : decode cX3_learn 50 = .ok (.iload 4, 2) := by decide +kernel
theorem dX3_learn_52 : decode cX3_learn 52 = .ok (.iconst 1, 1) := by decide +kernel
theorem dX3_learn_53 : decode cX3_learn 53 = .ok (.if_icmp .ne 13, 3) := by decide +kernel
theorem dX3_learn_56 : decode cX3_learn 56 = .ok (.aload_n 1, 1) := by decide +kernel
theorem dX3_learn_57 : decode cX3_learn 57 = .ok (.aload_n 2, 1) := by decide +kernel
theorem dX3_learn_58 : decode cX3_learn 58 = .ok (.iload 5, 2) := by decide +kernel
theorem dX3_learn_60 : decode cX3_learn 60 = .ok (.invokestatic 56, 3) := by decide +kernel
theorem dX3_learn_63 : decode cX3_learn 63 = .ok (.goto 18, 3) := by decide +kernel
theorem dX3_learn_66 : decode cX3_learn 66 = .ok (.iload 4, 2) := by decide +kernel
theorem dX3_learn_68 : decode cX3_learn 68 = .ok (.iconst 2, 1) := by decide +kernel
theorem dX3_learn_69 : decode cX3_learn 69 = .ok (.if_icmp .ne 12, 3) := by decide +kernel
theorem dX3_learn_72 : decode cX3_learn 72 = .ok (.aload_n 1, 1) := by decide +kernel
theorem dX3_learn_73 : decode cX3_learn 73 = .ok (.aload_n 2, 1) := by decide +kernel
theorem dX3_learn_74 : decode cX3_learn 74 = .ok (.iload 5, 2) := by decide +kernel
theorem dX3_learn_76 : decode cX3_learn 76 = .ok (.invokestatic 60, 3) := by decide +kernel
theorem dX3_learn_79 : decode cX3_learn 79 = .ok (.istore 6, 2) := by decide +kernel
theorem dX3_learn_81 : decode cX3_learn 81 = .ok (.aload_n 2, 1) := by decide +kernel
theorem dX3_learn_82 : decode cX3_learn 82 = .ok (.iload_n 3, 1) := by decide +kernel
theorem dX3_learn_83 : decode cX3_learn 83 = .ok (.invokevirtual 9, 3) := by decide +kernel
theorem dX3_learn_86 : decode cX3_learn 86 = .ok (.istore 7, 2) := by decide +kernel
theorem dX3_learn_88 : decode cX3_learn 88 = .ok (.iload 6, 2) := by decide +kernel
theorem dX3_learn_90 : decode cX3_learn 90 = .ok (.ifCond .eq 20, 3) := by decide +kernel
theorem dX3_learn_93 : decode cX3_learn 93 = .ok (.iload 4, 2) := by decide +kernel
theorem dX3_learn_95 : decode cX3_learn 95 = .ok (.iload 7, 2) := by decide +kernel
theorem dX3_learn_97 : decode cX3_learn 97 = .ok (.iconst (-1), 1) := by decide +kernel
theorem dX3_learn_98 : decode cX3_learn 98 = .ok (.if_icmp .ne 7, 3) := by decide +kernel
theorem dX3_learn_101 : decode cX3_learn 101 = .ok (.iconst 3, 1) := by decide +kernel
theorem dX3_learn_102 : decode cX3_learn 102 = .ok (.goto 5, 3) := by decide +kernel
theorem dX3_learn_105 : decode cX3_learn 105 = .ok (.iload 7, 2) := by decide +kernel
theorem dX3_learn_107 : decode cX3_learn 107 = .ok (.if_icmp .eq 5, 3) := by decide +kernel
theorem dX3_learn_110 : decode cX3_learn 110 = .ok (.iconst 0, 1) := by decide +kernel
theorem dX3_learn_111 : decode cX3_learn 111 = .ok (.ireturn, 1) := by decide +kernel
theorem dX3_learn_112 : decode cX3_learn 112 = .ok (.iinc 3 1, 3) := by decide +kernel
theorem dX3_learn_115 : decode cX3_learn 115 = .ok (.goto (-105), 3) := by decide +kernel
theorem dX3_learn_118 : decode cX3_learn 118 = .ok (.aload_n 1, 1) := by decide +kernel
theorem dX3_learn_119 : decode cX3_learn 119 = .ok (.invokevirtual 63, 3) := by decide +kernel
theorem dX3_learn_122 : decode cX3_learn 122 = .ok (.ireturn, 1) := by decide +kernel
theorem dX3_tellList_0 : decode cX3_tellList 0 = .ok (.aload_n 3, 1) := by decide +kernel
theorem dX3_tellList_1 : decode cX3_tellList 1 = .ok (.iload_n 2, 1) := by decide +kernel
theorem dX3_tellList_2 : decode cX3_tellList 2 = .ok (.iconst 1, 1) := by decide +kernel
theorem dX3_tellList_3 : decode cX3_tellList 3 = .ok (.isub, 1) := by decide +kernel
theorem dX3_tellList_4 : decode cX3_tellList 4 = .ok (.bipush 8, 2) := by decide +kernel
theorem dX3_tellList_6 : decode cX3_tellList 6 = .ok (.invokevirtual 18, 3) := by decide +kernel
theorem dX3_tellList_9 : decode cX3_tellList 9 = .ok (.iload_n 1, 1) := by decide +kernel
theorem dX3_tellList_10 : decode cX3_tellList 10 = .ok (.iconst 1, 1) := by decide +kernel
theorem dX3_tellList_11 : decode cX3_tellList 11 = .ok (.isub, 1) := by decide +kernel
theorem dX3_tellList_12 : decode cX3_tellList 12 = .ok (.istore 4, 2) := by decide +kernel
theorem dX3_tellList_14 : decode cX3_tellList 14 = .ok (.iconst 0, 1) := by decide +kernel
theorem dX3_tellList_15 : decode cX3_tellList 15 = .ok (.istore 5, 2) := by decide +kernel
theorem dX3_tellList_17 : decode cX3_tellList 17 = .ok (.iload 5, 2) := by decide +kernel
theorem dX3_tellList_19 : decode cX3_tellList 19 = .ok (.iload_n 2, 1) := by decide +kernel
theorem dX3_tellList_20 : decode cX3_tellList 20 = .ok (.if_icmp .ge 27, 3) := by decide +kernel
theorem dX3_tellList_23 : decode cX3_tellList 23 = .ok (.aload_n 0, 1) := by decide +kernel
theorem dX3_tellList_24 : decode cX3_tellList 24 = .ok (.iload 4, 2) := by decide +kernel
theorem dX3_tellList_26 : decode cX3_tellList 26 = .ok (.iconst 1, 1) := by decide +kernel
theorem dX3_tellList_27 : decode cX3_tellList 27 = .ok (.iadd, 1) := by decide +kernel
theorem dX3_tellList_28 : decode cX3_tellList 28 = .ok (.invokevirtual 67, 3) := by decide +kernel
theorem dX3_tellList_31 : decode cX3_tellList 31 = .ok (.istore 4, 2) := by decide +kernel
theorem dX3_tellList_33 : decode cX3_tellList 33 = .ok (.aload_n 3, 1) := by decide +kernel
theorem dX3_tellList_34 : decode cX3_tellList 34 = .ok (.iload 4, 2) := by decide +kernel
theorem dX3_tellList_36 : decode cX3_tellList 36 = .ok (.bipush 8, 2) := by decide +kernel
theorem dX3_tellList_38 : decode cX3_tellList 38 = .ok (.invokevirtual 18, 3) := by decide +kernel
theorem dX3_tellList_41 : decode cX3_tellList 41 = .ok (.iinc 5 1, 3) := by decide +kernel
theorem dX3_tellList_44 : decode cX3_tellList 44 = .ok (.goto (-27), 3) := by decide +kernel
theorem dX3_tellList_47 : decode cX3_tellList 47 = .ok (.return_, 1) := by decide +kernel
theorem dX3_tellBits_0 : decode cX3_tellBits 0 = .ok (.iconst 0, 1) := by decide +kernel
theorem dX3_tellBits_1 : decode cX3_tellBits 1 = .ok (.istore_n 3, 1) := by decide +kernel
theorem dX3_tellBits_2 : decode cX3_tellBits 2 = .ok (.iload_n 3, 1) := by decide +kernel
theorem dX3_tellBits_3 : decode cX3_tellBits 3 = .ok (.sipush 256, 3) := by decide +kernel
theorem dX3_tellBits_6 : decode cX3_tellBits 6 = .ok (.if_icmp .ge 29, 3) := by decide +kernel
theorem dX3_tellBits_9 : decode cX3_tellBits 9 = .ok (.aload_n 2, 1) := by decide +kernel
theorem dX3_tellBits_10 : decode cX3_tellBits 10 = .ok (.aload_n 0, 1) := by decide +kernel
theorem dX3_tellBits_11 : decode cX3_tellBits 11 = .ok (.iload_n 1, 1) := by decide +kernel
theorem dX3_tellBits_12 : decode cX3_tellBits 12 = .ok (.iload_n 3, 1) := by decide +kernel
theorem dX3_tellBits_13 : decode cX3_tellBits 13 = .ok (.iadd, 1) := by decide +kernel
theorem dX3_tellBits_14 : decode cX3_tellBits 14 = .ok (.invokevirtual 70, 3) := by decide +kernel
theorem dX3_tellBits_17 : decode cX3_tellBits 17 = .ok (.ifCond .eq 7, 3) := by decide +kernel
theorem dX3_tellBits_20 : decode cX3_tellBits 20 = .ok (.iconst 1, 1) := by decide +kernel
theorem dX3_tellBits_21 : decode cX3_tellBits 21 = .ok (.goto 4, 3) := by decide +kernel
theorem dX3_tellBits_24 : decode cX3_tellBits 24 = .ok (.iconst 0, 1) := by decide +kernel
theorem dX3_tellBits_25 : decode cX3_tellBits 25 = .ok (.iconst 1, 1) := by decide +kernel
theorem dX3_tellBits_26 : decode cX3_tellBits 26 = .ok (.invokevirtual 18, 3) := by decide +kernel
theorem dX3_tellBits_29 : decode cX3_tellBits 29 = .ok (.iinc 3 1, 3) := by decide +kernel
theorem dX3_tellBits_32 : decode cX3_tellBits 32 = .ok (.goto (-30), 3) := by decide +kernel
theorem dX3_tellBits_35 : decode cX3_tellBits 35 = .ok (.return_, 1) := by decide +kernel
theorem dX3_tellRuns_0 : decode cX3_tellRuns 0 = .ok (.aload_n 3, 1) := by decide +kernel
theorem dX3_tellRuns_1 : decode cX3_tellRuns 1 = .ok (.iload_n 2, 1) := by decide +kernel
theorem dX3_tellRuns_2 : decode cX3_tellRuns 2 = .ok (.iconst 1, 1) := by decide +kernel
theorem dX3_tellRuns_3 : decode cX3_tellRuns 3 = .ok (.isub, 1) := by decide +kernel
theorem dX3_tellRuns_4 : decode cX3_tellRuns 4 = .ok (.bipush 8, 2) := by decide +kernel
theorem dX3_tellRuns_6 : decode cX3_tellRuns 6 = .ok (.invokevirtual 18, 3) := by decide +kernel
theorem dX3_tellRuns_9 : decode cX3_tellRuns 9 = .ok (.iload_n 1, 1) := by decide +kernel
theorem dX3_tellRuns_10 : decode cX3_tellRuns 10 = .ok (.istore 4, 2) := by decide +kernel
theorem dX3_tellRuns_12 : decode cX3_tellRuns 12 = .ok (.iconst 0, 1) := by decide +kernel
theorem dX3_tellRuns_13 : decode cX3_tellRuns 13 = .ok (.istore 5, 2) := by decide +kernel
theorem dX3_tellRuns_15 : decode cX3_tellRuns 15 = .ok (.iload 5, 2) := by decide +kernel
theorem dX3_tellRuns_17 : decode cX3_tellRuns 17 = .ok (.iload_n 2, 1) := by decide +kernel
theorem dX3_tellRuns_18 : decode cX3_tellRuns 18 = .ok (.if_icmp .ge 73, 3) := by decide +kernel
theorem dX3_tellRuns_21 : decode cX3_tellRuns 21 = .ok (.aload_n 0, 1) := by decide +kernel
theorem dX3_tellRuns_22 : decode cX3_tellRuns 22 = .ok (.iload 4, 2) := by decide +kernel
theorem dX3_tellRuns_24 : decode cX3_tellRuns 24 = .ok (.invokevirtual 67, 3) := by decide +kernel
theorem dX3_tellRuns_27 : decode cX3_tellRuns 27 = .ok (.istore 6, 2) := by decide +kernel
theorem dX3_tellRuns_29 : decode cX3_tellRuns 29 = .ok (.iload 6, 2) := by decide +kernel
theorem dX3_tellRuns_31 : decode cX3_tellRuns 31 = .ok (.iconst 1, 1) := by decide +kernel
theorem dX3_tellRuns_32 : decode cX3_tellRuns 32 = .ok (.iadd, 1) := by decide +kernel
theorem dX3_tellRuns_33 : decode cX3_tellRuns 33 = .ok (.istore 7, 2) := by decide +kernel
theorem dX3_tellRuns_35 : decode cX3_tellRuns 35 = .ok (.iload 7, 2) := by decide +kernel
theorem dX3_tellRuns_37 : decode cX3_tellRuns 37 = .ok (.iload_n 1, 1) := by decide +kernel
theorem dX3_tellRuns_38 : decode cX3_tellRuns 38 = .ok (.sipush 256, 3) := by decide +kernel
theorem dX3_tellRuns_41 : decode cX3_tellRuns 41 = .ok (.iadd, 1) := by decide +kernel
theorem dX3_tellRuns_42 : decode cX3_tellRuns 42 = .ok (.if_icmp .ge 18, 3) := by decide +kernel
theorem dX3_tellRuns_45 : decode cX3_tellRuns 45 = .ok (.aload_n 0, 1) := by decide +kernel
theorem dX3_tellRuns_46 : decode cX3_tellRuns 46 = .ok (.iload 7, 2) := by decide +kernel
theorem dX3_tellRuns_48 : decode cX3_tellRuns 48 = .ok (.invokevirtual 70, 3) := by decide +kernel
theorem dX3_tellRuns_51 : decode cX3_tellRuns 51 = .ok (.ifCond .eq 9, 3) := by decide +kernel
theorem dX3_tellRuns_54 : decode cX3_tellRuns 54 = .ok (.iinc 7 1, 3) := by decide +kernel
theorem dX3_tellRuns_57 : decode cX3_tellRuns 57 = .ok (.goto (-22), 3) := by decide +kernel
theorem dX3_tellRuns_60 : decode cX3_tellRuns 60 = .ok (.aload_n 3, 1) := by decide +kernel
theorem dX3_tellRuns_61 : decode cX3_tellRuns 61 = .ok (.iload 6, 2) := by decide +kernel
theorem dX3_tellRuns_63 : decode cX3_tellRuns 63 = .ok (.bipush 8, 2) := by decide +kernel
theorem dX3_tellRuns_65 : decode cX3_tellRuns 65 = .ok (.invokevirtual 18, 3) := by decide +kernel
theorem dX3_tellRuns_68 : decode cX3_tellRuns 68 = .ok (.aload_n 3, 1) := by decide +kernel
theorem dX3_tellRuns_69 : decode cX3_tellRuns 69 = .ok (.iload 7, 2) := by decide +kernel
theorem dX3_tellRuns_71 : decode cX3_tellRuns 71 = .ok (.iload 6, 2) := by decide +kernel
theorem dX3_tellRuns_73 : decode cX3_tellRuns 73 = .ok (.isub, 1) := by decide +kernel
theorem dX3_tellRuns_74 : decode cX3_tellRuns 74 = .ok (.iconst 1, 1) := by decide +kernel
theorem dX3_tellRuns_75 : decode cX3_tellRuns 75 = .ok (.isub, 1) := by decide +kernel
theorem dX3_tellRuns_76 : decode cX3_tellRuns 76 = .ok (.bipush 8, 2) := by decide +kernel
theorem dX3_tellRuns_78 : decode cX3_tellRuns 78 = .ok (.invokevirtual 18, 3) := by decide +kernel
theorem dX3_tellRuns_81 : decode cX3_tellRuns 81 = .ok (.iload 7, 2) := by decide +kernel
theorem dX3_tellRuns_83 : decode cX3_tellRuns 83 = .ok (.istore 4, 2) := by decide +kernel
theorem dX3_tellRuns_85 : decode cX3_tellRuns 85 = .ok (.iinc 5 1, 3) := by decide +kernel
theorem dX3_tellRuns_88 : decode cX3_tellRuns 88 = .ok (.goto (-73), 3) := by decide +kernel
theorem dX3_tellRuns_91 : decode cX3_tellRuns 91 = .ok (.return_, 1) := by decide +kernel
theorem dX3_learnList_0 : decode cX3_learnList 0 = .ok (.aload_n 0, 1) := by decide +kernel
theorem dX3_learnList_1 : decode cX3_learnList 1 = .ok (.bipush 8, 2) := by decide +kernel
theorem dX3_learnList_3 : decode cX3_learnList 3 = .ok (.invokevirtual 49, 3) := by decide +kernel
theorem dX3_learnList_6 : decode cX3_learnList 6 = .ok (.iconst 1, 1) := by decide +kernel
theorem dX3_learnList_7 : decode cX3_learnList 7 = .ok (.iadd, 1) := by decide +kernel
theorem dX3_learnList_8 : decode cX3_learnList 8 = .ok (.istore_n 3, 1) := by decide +kernel
theorem dX3_learnList_9 : decode cX3_learnList 9 = .ok (.iconst (-1), 1) := by decide +kernel
theorem dX3_learnList_10 : decode cX3_learnList 10 = .ok (.istore 4, 2) := by decide +kernel
theorem dX3_learnList_12 : decode cX3_learnList 12 = .ok (.iconst 0, 1) := by decide +kernel
theorem dX3_learnList_13 : decode cX3_learnList 13 = .ok (.istore 5, 2) := by decide +kernel
theorem dX3_learnList_15 : decode cX3_learnList 15 = .ok (.iload 5, 2) := by decide +kernel
theorem dX3_learnList_17 : decode cX3_learnList 17 = .ok (.iload_n 3, 1) := by decide +kernel
theorem dX3_learnList_18 : decode cX3_learnList 18 = .ok (.if_icmp .ge 38, 3) := by decide +kernel
theorem dX3_learnList_21 : decode cX3_learnList 21 = .ok (.aload_n 0, 1) := by decide +kernel
theorem dX3_learnList_22 : decode cX3_learnList 22 = .ok (.bipush 8, 2) := by decide +kernel
theorem dX3_learnList_24 : decode cX3_learnList 24 = .ok (.invokevirtual 49, 3) := by decide +kernel
theorem dX3_learnList_27 : decode cX3_learnList 27 = .ok (.istore 6, 2) := by decide +kernel
theorem dX3_learnList_29 : decode cX3_learnList 29 = .ok (.iload 6, 2) := by decide +kernel
theorem dX3_learnList_31 : decode cX3_learnList 31 = .ok (.iload 4, 2) := by decide +kernel
theorem dX3_learnList_33 : decode cX3_learnList 33 = .ok (.if_icmp .gt 5, 3) := by decide +kernel
theorem dX3_learnList_36 : decode cX3_learnList 36 = .ok (.iconst 0, 1) := by decide +kernel
theorem dX3_learnList_37 : decode cX3_learnList 37 = .ok (.ireturn, 1) := by decide +kernel
theorem dX3_learnList_38 : decode cX3_learnList 38 = .ok (.aload_n 1, 1) := by decide +kernel
theorem dX3_learnList_39 : decode cX3_learnList 39 = .ok (.iload_n 2, 1) := by decide +kernel
theorem dX3_learnList_40 : decode cX3_learnList 40 = .ok (.iload 6, 2) := by decide +kernel
theorem dX3_learnList_42 : decode cX3_learnList 42 = .ok (.iadd, 1) := by decide +kernel
theorem dX3_learnList_43 : decode cX3_learnList 43 = .ok (.invokevirtual 74, 3) := by decide +kernel
theorem dX3_learnList_46 : decode cX3_learnList 46 = .ok (.iload 6, 2) := by decide +kernel
theorem dX3_learnList_48 : decode cX3_learnList 48 = .ok (.istore 4, 2) := by decide +kernel
theorem dX3_learnList_50 : decode cX3_learnList 50 = .ok (.iinc 5 1, 3) := by decide +kernel
theorem dX3_learnList_53 : decode cX3_learnList 53 = .ok (.goto (-38), 3) := by decide +kernel
theorem dX3_learnList_56 : decode cX3_learnList 56 = .ok (.iconst 1, 1) := by decide +kernel
theorem dX3_learnList_57 : decode cX3_learnList 57 = .ok (.ireturn, 1) := by decide +kernel
theorem dX3_learnBits_0 : decode cX3_learnBits 0 = .ok (.iconst 0, 1) := by decide +kernel
theorem dX3_learnBits_1 : decode cX3_learnBits 1 = .ok (.istore_n 3, 1) := by decide +kernel
theorem dX3_learnBits_2 : decode cX3_learnBits 2 = .ok (.iload_n 3, 1) := by decide +kernel
theorem dX3_learnBits_3 : decode cX3_learnBits 3 = .ok (.sipush 256, 3) := by decide +kernel
theorem dX3_learnBits_6 : decode cX3_learnBits 6 = .ok (.if_icmp .ge 25, 3) := by decide +kernel
theorem dX3_learnBits_9 : decode cX3_learnBits 9 = .ok (.aload_n 0, 1) := by decide +kernel
theorem dX3_learnBits_10 : decode cX3_learnBits 10 = .ok (.iconst 1, 1) := by decide +kernel
theorem dX3_learnBits_11 : decode cX3_learnBits 11 = .ok (.invokevirtual 49, 3) := by decide +kernel
theorem dX3_learnBits_14 : decode cX3_learnBits 14 = .ok (.iconst 1, 1) := by decide +kernel
theorem dX3_learnBits_15 : decode cX3_learnBits 15 = .ok (.if_icmp .ne 10, 3) := by decide +kernel
theorem dX3_learnBits_18 : decode cX3_learnBits 18 = .ok (.aload_n 1, 1) := by decide +kernel
theorem dX3_learnBits_19 : decode cX3_learnBits 19 = .ok (.iload_n 2, 1) := by decide +kernel
theorem dX3_learnBits_20 : decode cX3_learnBits 20 = .ok (.iload_n 3, 1) := by decide +kernel
theorem dX3_learnBits_21 : decode cX3_learnBits 21 = .ok (.iadd, 1) := by decide +kernel
theorem dX3_learnBits_22 : decode cX3_learnBits 22 = .ok (.invokevirtual 74, 3) := by decide +kernel
theorem dX3_learnBits_25 : decode cX3_learnBits 25 = .ok (.iinc 3 1, 3) := by decide +kernel
theorem dX3_learnBits_28 : decode cX3_learnBits 28 = .ok (.goto (-26), 3) := by decide +kernel
theorem dX3_learnBits_31 : decode cX3_learnBits 31 = .ok (.return_, 1) := by decide +kernel
theorem dX3_learnRuns_0 : decode cX3_learnRuns 0 = .ok (.aload_n 0, 1) := by decide +kernel
theorem dX3_learnRuns_1 : decode cX3_learnRuns 1 = .ok (.bipush 8, 2) := by decide +kernel
theorem dX3_learnRuns_3 : decode cX3_learnRuns 3 = .ok (.invokevirtual 49, 3) := by decide +kernel
theorem dX3_learnRuns_6 : decode cX3_learnRuns 6 = .ok (.iconst 1, 1) := by decide +kernel
theorem dX3_learnRuns_7 : decode cX3_learnRuns 7 = .ok (.iadd, 1) := by decide +kernel
theorem dX3_learnRuns_8 : decode cX3_learnRuns 8 = .ok (.istore_n 3, 1) := by decide +kernel
theorem dX3_learnRuns_9 : decode cX3_learnRuns 9 = .ok (.iconst 0, 1) := by decide +kernel
theorem dX3_learnRuns_10 : decode cX3_learnRuns 10 = .ok (.istore 4, 2) := by decide +kernel
theorem dX3_learnRuns_12 : decode cX3_learnRuns 12 = .ok (.iconst 0, 1) := by decide +kernel
theorem dX3_learnRuns_13 : decode cX3_learnRuns 13 = .ok (.istore 5, 2) := by decide +kernel
theorem dX3_learnRuns_15 : decode cX3_learnRuns 15 = .ok (.iload 5, 2) := by decide +kernel
theorem dX3_learnRuns_17 : decode cX3_learnRuns 17 = .ok (.iload_n 3, 1) := by decide +kernel
theorem dX3_learnRuns_18 : decode cX3_learnRuns 18 = .ok (.if_icmp .ge 63, 3) := by decide +kernel
theorem dX3_learnRuns_21 : decode cX3_learnRuns 21 = .ok (.aload_n 0, 1) := by decide +kernel
theorem dX3_learnRuns_22 : decode cX3_learnRuns 22 = .ok (.bipush 8, 2) := by decide +kernel
theorem dX3_learnRuns_24 : decode cX3_learnRuns 24 = .ok (.invokevirtual 49, 3) := by decide +kernel
theorem dX3_learnRuns_27 : decode cX3_learnRuns 27 = .ok (.istore 6, 2) := by decide +kernel
theorem dX3_learnRuns_29 : decode cX3_learnRuns 29 = .ok (.iload 6, 2) := by decide +kernel
theorem dX3_learnRuns_31 : decode cX3_learnRuns 31 = .ok (.aload_n 0, 1) := by decide +kernel
theorem dX3_learnRuns_32 : decode cX3_learnRuns 32 = .ok (.bipush 8, 2) := by decide +kernel
theorem dX3_learnRuns_34 : decode cX3_learnRuns 34 = .ok (.invokevirtual 49, 3) := by decide +kernel
theorem dX3_learnRuns_37 : decode cX3_learnRuns 37 = .ok (.iadd, 1) := by decide +kernel
theorem dX3_learnRuns_38 : decode cX3_learnRuns 38 = .ok (.istore 7, 2) := by decide +kernel
theorem dX3_learnRuns_40 : decode cX3_learnRuns 40 = .ok (.iload 6, 2) := by decide +kernel
theorem dX3_learnRuns_42 : decode cX3_learnRuns 42 = .ok (.iload 4, 2) := by decide +kernel
theorem dX3_learnRuns_44 : decode cX3_learnRuns 44 = .ok (.if_icmp .lt 11, 3) := by decide +kernel
theorem dX3_learnRuns_47 : decode cX3_learnRuns 47 = .ok (.iload 7, 2) := by decide +kernel
theorem dX3_learnRuns_49 : decode cX3_learnRuns 49 = .ok (.sipush 256, 3) := by decide +kernel
theorem dX3_learnRuns_52 : decode cX3_learnRuns 52 = .ok (.if_icmp .lt 5, 3) := by decide +kernel
theorem dX3_learnRuns_55 : decode cX3_learnRuns 55 = .ok (.iconst 0, 1) := by decide +kernel
theorem dX3_learnRuns_56 : decode cX3_learnRuns 56 = .ok (.ireturn, 1) := by decide +kernel
theorem dX3_learnRuns_57 : decode cX3_learnRuns 57 = .ok (.aload_n 1, 1) := by decide +kernel
theorem dX3_learnRuns_58 : decode cX3_learnRuns 58 = .ok (.iload_n 2, 1) := by decide +kernel
theorem dX3_learnRuns_59 : decode cX3_learnRuns 59 = .ok (.iload 6, 2) := by decide +kernel
theorem dX3_learnRuns_61 : decode cX3_learnRuns 61 = .ok (.iadd, 1) := by decide +kernel
theorem dX3_learnRuns_62 : decode cX3_learnRuns 62 = .ok (.iload_n 2, 1) := by decide +kernel
theorem dX3_learnRuns_63 : decode cX3_learnRuns 63 = .ok (.iload 7, 2) := by decide +kernel
theorem dX3_learnRuns_65 : decode cX3_learnRuns 65 = .ok (.iadd, 1) := by decide +kernel
theorem dX3_learnRuns_66 : decode cX3_learnRuns 66 = .ok (.invokevirtual 78, 3) := by decide +kernel
theorem dX3_learnRuns_69 : decode cX3_learnRuns 69 = .ok (.iload 7, 2) := by decide +kernel
theorem dX3_learnRuns_71 : decode cX3_learnRuns 71 = .ok (.iconst 2, 1) := by decide +kernel
theorem dX3_learnRuns_72 : decode cX3_learnRuns 72 = .ok (.iadd, 1) := by decide +kernel
theorem dX3_learnRuns_73 : decode cX3_learnRuns 73 = .ok (.istore 4, 2) := by decide +kernel
theorem dX3_learnRuns_75 : decode cX3_learnRuns 75 = .ok (.iinc 5 1, 3) := by decide +kernel
theorem dX3_learnRuns_78 : decode cX3_learnRuns 78 = .ok (.goto (-63), 3) := by decide +kernel
theorem dX3_learnRuns_81 : decode cX3_learnRuns 81 = .ok (.iconst 1, 1) := by decide +kernel
theorem dX3_learnRuns_82 : decode cX3_learnRuns 82 = .ok (.ireturn, 1) := by decide +kernel
theorem dX4_init_0 : decode cX4_init 0 = .ok (.aload_n 0, 1) := by decide +kernel
theorem dX4_init_1 : decode cX4_init 1 = .ok (.invokespecial 3, 3) := by decide +kernel
theorem dX4_init_4 : decode cX4_init 4 = .ok (.aload_n 0, 1) := by decide +kernel
theorem dX4_init_5 : decode cX4_init 5 = .ok (.sipush 257, 3) := by decide +kernel
theorem dX4_init_8 : decode cX4_init 8 = .ok (.newarray .int, 2) := by decide +kernel
theorem dX4_init_10 : decode cX4_init 10 = .ok (.putfield 9, 3) := by decide +kernel
theorem dX4_init_13 : decode cX4_init 13 = .ok (.aload_n 0, 1) := by decide +kernel
theorem dX4_init_14 : decode cX4_init 14 = .ok (.iconst 0, 1) := by decide +kernel
theorem dX4_init_15 : decode cX4_init 15 = .ok (.putfield 15, 3) := by decide +kernel
theorem dX4_init_18 : decode cX4_init 18 = .ok (.aload_n 0, 1) := by decide +kernel
theorem dX4_init_19 : decode cX4_init 19 = .ok (.iconst 0, 1) := by decide +kernel
theorem dX4_init_20 : decode cX4_init 20 = .ok (.putfield 19, 3) := by decide +kernel
theorem dX4_init_23 : decode cX4_init 23 = .ok (.return_, 1) := by decide +kernel
theorem dX4_held_0 : decode cX4_held 0 = .ok (.aload_n 0, 1) := by decide +kernel
theorem dX4_held_1 : decode cX4_held 1 = .ok (.getfield 15, 3) := by decide +kernel
theorem dX4_held_4 : decode cX4_held 4 = .ok (.ireturn, 1) := by decide +kernel
theorem dX4_reaches_0 : decode cX4_reaches 0 = .ok (.iload_n 1, 1) := by decide +kernel
theorem dX4_reaches_1 : decode cX4_reaches 1 = .ok (.ifCond .lt 15, 3) := by decide +kernel
theorem dX4_reaches_4 : decode cX4_reaches 4 = .ok (.iload_n 1, 1) := by decide +kernel
theorem dX4_reaches_5 : decode cX4_reaches 5 = .ok (.aload_n 0, 1) := by decide +kernel
theorem dX4_reaches_6 : decode cX4_reaches 6 = .ok (.getfield 15, 3) := by decide +kernel
theorem dX4_reaches_9 : decode cX4_reaches 9 = .ok (.if_icmp .ge 7, 3) := by decide +kernel
theorem dX4_reaches_12 : decode cX4_reaches 12 = .ok (.iconst 1, 1) := by decide +kernel
theorem dX4_reaches_13 : decode cX4_reaches 13 = .ok (.goto 4, 3) := by decide +kernel
theorem dX4_reaches_16 : decode cX4_reaches 16 = .ok (.iconst 0, 1) := by decide +kernel
theorem dX4_reaches_17 : decode cX4_reaches 17 = .ok (.ireturn, 1) := by decide +kernel
theorem dX4_bitAt_0 : decode cX4_bitAt 0 = .ok (.aload_n 0, 1) := by decide +kernel
theorem dX4_bitAt_1 : decode cX4_bitAt 1 = .ok (.iload_n 1, 1) := by decide +kernel
theorem dX4_bitAt_2 : decode cX4_bitAt 2 = .ok (.invokevirtual 22, 3) := by decide +kernel
theorem dX4_bitAt_5 : decode cX4_bitAt 5 = .ok (.ifCond .eq 21, 3) := by decide +kernel
theorem dX4_bitAt_8 : decode cX4_bitAt 8 = .ok (.aload_n 0, 1) := by decide +kernel
theorem dX4_bitAt_9 : decode cX4_bitAt 9 = .ok (.getfield 9, 3) := by decide +kernel
theorem dX4_bitAt_12 : decode cX4_bitAt 12 = .ok (.iload_n 1, 1) := by decide +kernel
theorem dX4_bitAt_13 : decode cX4_bitAt 13 = .ok (.iconst 5, 1) := by decide +kernel
theorem dX4_bitAt_14 : decode cX4_bitAt 14 = .ok (.ishr, 1) := by decide +kernel
theorem dX4_bitAt_15 : decode cX4_bitAt 15 = .ok (.iaload, 1) := by decide +kernel
theorem dX4_bitAt_16 : decode cX4_bitAt 16 = .ok (.iload_n 1, 1) := by decide +kernel
theorem dX4_bitAt_17 : decode cX4_bitAt 17 = .ok (.bipush 31, 2) := by decide +kernel
theorem dX4_bitAt_19 : decode cX4_bitAt 19 = .ok (.iand, 1) := by decide +kernel
theorem dX4_bitAt_20 : decode cX4_bitAt 20 = .ok (.iushr, 1) := by decide +kernel
theorem dX4_bitAt_21 : decode cX4_bitAt 21 = .ok (.iconst 1, 1) := by decide +kernel
theorem dX4_bitAt_22 : decode cX4_bitAt 22 = .ok (.iand, 1) := by decide +kernel
theorem dX4_bitAt_23 : decode cX4_bitAt 23 = .ok (.goto 4, 3) := by decide +kernel
theorem dX4_bitAt_26 : decode cX4_bitAt 26 = .ok (.iconst 0, 1) := by decide +kernel
theorem dX4_bitAt_27 : decode cX4_bitAt 27 = .ok (.ireturn, 1) := by decide +kernel
theorem dX4_turn_0 : decode cX4_turn 0 = .ok (.aload_n 0, 1) := by decide +kernel
theorem dX4_turn_1 : decode cX4_turn 1 = .ok (.iload_n 1, 1) := by decide +kernel
theorem dX4_turn_2 : decode cX4_turn 2 = .ok (.invokevirtual 22, 3) := by decide +kernel
theorem dX4_turn_5 : decode cX4_turn 5 = .ok (.ifCond .eq 20, 3) := by decide +kernel
theorem dX4_turn_8 : decode cX4_turn 8 = .ok (.aload_n 0, 1) := by decide +kernel
theorem dX4_turn_9 : decode cX4_turn 9 = .ok (.getfield 9, 3) := by decide +kernel
theorem dX4_turn_12 : decode cX4_turn 12 = .ok (.iload_n 1, 1) := by decide +kernel
theorem dX4_turn_13 : decode cX4_turn 13 = .ok (.iconst 5, 1) := by decide +kernel
theorem dX4_turn_14 : decode cX4_turn 14 = .ok (.ishr, 1) := by decide +kernel
