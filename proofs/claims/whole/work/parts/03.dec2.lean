theorem dX4_turn_15 : decode cX4_turn 15 = .ok (.dup2, 1) := by decide +kernel
theorem dX4_turn_16 : decode cX4_turn 16 = .ok (.iaload, 1) := by decide +kernel
theorem dX4_turn_17 : decode cX4_turn 17 = .ok (.iconst 1, 1) := by decide +kernel
theorem dX4_turn_18 : decode cX4_turn 18 = .ok (.iload_n 1, 1) := by decide +kernel
theorem dX4_turn_19 : decode cX4_turn 19 = .ok (.bipush 31, 2) := by decide +kernel
theorem dX4_turn_21 : decode cX4_turn 21 = .ok (.iand, 1) := by decide +kernel
theorem dX4_turn_22 : decode cX4_turn 22 = .ok (.ishl, 1) := by decide +kernel
theorem dX4_turn_23 : decode cX4_turn 23 = .ok (.ixor, 1) := by decide +kernel
theorem dX4_turn_24 : decode cX4_turn 24 = .ok (.iastore, 1) := by decide +kernel
theorem dX4_turn_25 : decode cX4_turn 25 = .ok (.return_, 1) := by decide +kernel
theorem dX4_keepFirst_0 : decode cX4_keepFirst 0 = .ok (.iload_n 1, 1) := by decide +kernel
theorem dX4_keepFirst_1 : decode cX4_keepFirst 1 = .ok (.ifCond .lt 16, 3) := by decide +kernel
theorem dX4_keepFirst_4 : decode cX4_keepFirst 4 = .ok (.iload_n 1, 1) := by decide +kernel
theorem dX4_keepFirst_5 : decode cX4_keepFirst 5 = .ok (.aload_n 0, 1) := by decide +kernel
theorem dX4_keepFirst_6 : decode cX4_keepFirst 6 = .ok (.getfield 15, 3) := by decide +kernel
theorem dX4_keepFirst_9 : decode cX4_keepFirst 9 = .ok (.if_icmp .gt 8, 3) := by decide +kernel
theorem dX4_keepFirst_12 : decode cX4_keepFirst 12 = .ok (.aload_n 0, 1) := by decide +kernel
theorem dX4_keepFirst_13 : decode cX4_keepFirst 13 = .ok (.iload_n 1, 1) := by decide +kernel
theorem dX4_keepFirst_14 : decode cX4_keepFirst 14 = .ok (.putfield 15, 3) := by decide +kernel
theorem dX4_keepFirst_17 : decode cX4_keepFirst 17 = .ok (.return_, 1) := by decide +kernel
theorem dX4_append_0 : decode cX4_append 0 = .ok (.iload_n 2, 1) := by decide +kernel
theorem dX4_append_1 : decode cX4_append 1 = .ok (.iconst 1, 1) := by decide +kernel
theorem dX4_append_2 : decode cX4_append 2 = .ok (.isub, 1) := by decide +kernel
theorem dX4_append_3 : decode cX4_append 3 = .ok (.istore_n 3, 1) := by decide +kernel
theorem dX4_append_4 : decode cX4_append 4 = .ok (.iload_n 3, 1) := by decide +kernel
theorem dX4_append_5 : decode cX4_append 5 = .ok (.ifCond .lt 86, 3) := by decide +kernel
theorem dX4_append_8 : decode cX4_append 8 = .ok (.aload_n 0, 1) := by decide +kernel
theorem dX4_append_9 : decode cX4_append 9 = .ok (.getfield 15, 3) := by decide +kernel
theorem dX4_append_12 : decode cX4_append 12 = .ok (.sipush 8210, 3) := by decide +kernel
theorem dX4_append_15 : decode cX4_append 15 = .ok (.if_icmp .ge 76, 3) := by decide +kernel
theorem dX4_append_18 : decode cX4_append 18 = .ok (.iconst 1, 1) := by decide +kernel
theorem dX4_append_19 : decode cX4_append 19 = .ok (.aload_n 0, 1) := by decide +kernel
theorem dX4_append_20 : decode cX4_append 20 = .ok (.getfield 15, 3) := by decide +kernel
theorem dX4_append_23 : decode cX4_append 23 = .ok (.bipush 31, 2) := by decide +kernel
theorem dX4_append_25 : decode cX4_append 25 = .ok (.iand, 1) := by decide +kernel
theorem dX4_append_26 : decode cX4_append 26 = .ok (.ishl, 1) := by decide +kernel
theorem dX4_append_27 : decode cX4_append 27 = .ok (.istore 4, 2) := by decide +kernel
theorem dX4_append_29 : decode cX4_append 29 = .ok (.iload_n 1, 1) := by decide +kernel
theorem dX4_append_30 : decode cX4_append 30 = .ok (.iload_n 3, 1) := by decide +kernel
theorem dX4_append_31 : decode cX4_append 31 = .ok (.iushr, 1) := by decide +kernel
theorem dX4_append_32 : decode cX4_append 32 = .ok (.iconst 1, 1) := by decide +kernel
theorem dX4_append_33 : decode cX4_append 33 = .ok (.iand, 1) := by decide +kernel
theorem dX4_append_34 : decode cX4_append 34 = .ok (.iconst 1, 1) := by decide +kernel
theorem dX4_append_35 : decode cX4_append 35 = .ok (.if_icmp .ne 22, 3) := by decide +kernel
theorem dX4_append_38 : decode cX4_append 38 = .ok (.aload_n 0, 1) := by decide +kernel
theorem dX4_append_39 : decode cX4_append 39 = .ok (.getfield 9, 3) := by decide +kernel
theorem dX4_append_42 : decode cX4_append 42 = .ok (.aload_n 0, 1) := by decide +kernel
theorem dX4_append_43 : decode cX4_append 43 = .ok (.getfield 15, 3) := by decide +kernel
theorem dX4_append_46 : decode cX4_append 46 = .ok (.iconst 5, 1) := by decide +kernel
theorem dX4_append_47 : decode cX4_append 47 = .ok (.ishr, 1) := by decide +kernel
theorem dX4_append_48 : decode cX4_append 48 = .ok (.dup2, 1) := by decide +kernel
theorem dX4_append_49 : decode cX4_append 49 = .ok (.iaload, 1) := by decide +kernel
theorem dX4_append_50 : decode cX4_append 50 = .ok (.iload 4, 2) := by decide +kernel
theorem dX4_append_52 : decode cX4_append 52 = .ok (.ior, 1) := by decide +kernel
theorem dX4_append_53 : decode cX4_append 53 = .ok (.iastore, 1) := by decide +kernel
theorem dX4_append_54 : decode cX4_append 54 = .ok (.goto 21, 3) := by decide +kernel
theorem dX4_append_57 : decode cX4_append 57 = .ok (.aload_n 0, 1) := by decide +kernel
theorem dX4_append_58 : decode cX4_append 58 = .ok (.getfield 9, 3) := by decide +kernel
theorem dX4_append_61 : decode cX4_append 61 = .ok (.aload_n 0, 1) := by decide +kernel
theorem dX4_append_62 : decode cX4_append 62 = .ok (.getfield 15, 3) := by decide +kernel
theorem dX4_append_65 : decode cX4_append 65 = .ok (.iconst 5, 1) := by decide +kernel
theorem dX4_append_66 : decode cX4_append 66 = .ok (.ishr, 1) := by decide +kernel
theorem dX4_append_67 : decode cX4_append 67 = .ok (.dup2, 1) := by decide +kernel
theorem dX4_append_68 : decode cX4_append 68 = .ok (.iaload, 1) := by decide +kernel
theorem dX4_append_69 : decode cX4_append 69 = .ok (.iload 4, 2) := by decide +kernel
theorem dX4_append_71 : decode cX4_append 71 = .ok (.iconst (-1), 1) := by decide +kernel
theorem dX4_append_72 : decode cX4_append 72 = .ok (.ixor, 1) := by decide +kernel
theorem dX4_append_73 : decode cX4_append 73 = .ok (.iand, 1) := by decide +kernel
theorem dX4_append_74 : decode cX4_append 74 = .ok (.iastore, 1) := by decide +kernel
theorem dX4_append_75 : decode cX4_append 75 = .ok (.aload_n 0, 1) := by decide +kernel
theorem dX4_append_76 : decode cX4_append 76 = .ok (.dup, 1) := by decide +kernel
theorem dX4_append_77 : decode cX4_append 77 = .ok (.getfield 15, 3) := by decide +kernel
theorem dX4_append_80 : decode cX4_append 80 = .ok (.iconst 1, 1) := by decide +kernel
theorem dX4_append_81 : decode cX4_append 81 = .ok (.iadd, 1) := by decide +kernel
theorem dX4_append_82 : decode cX4_append 82 = .ok (.putfield 15, 3) := by decide +kernel
theorem dX4_append_85 : decode cX4_append 85 = .ok (.iinc 3 (-1), 3) := by decide +kernel
theorem dX4_append_88 : decode cX4_append 88 = .ok (.goto (-84), 3) := by decide +kernel
theorem dX4_append_91 : decode cX4_append 91 = .ok (.return_, 1) := by decide +kernel
theorem dX4_valueAt_0 : decode cX4_valueAt 0 = .ok (.iconst 0, 1) := by decide +kernel
theorem dX4_valueAt_1 : decode cX4_valueAt 1 = .ok (.istore_n 3, 1) := by decide +kernel
theorem dX4_valueAt_2 : decode cX4_valueAt 2 = .ok (.iconst 0, 1) := by decide +kernel
theorem dX4_valueAt_3 : decode cX4_valueAt 3 = .ok (.istore 4, 2) := by decide +kernel
theorem dX4_valueAt_5 : decode cX4_valueAt 5 = .ok (.iload 4, 2) := by decide +kernel
theorem dX4_valueAt_7 : decode cX4_valueAt 7 = .ok (.iload_n 2, 1) := by decide +kernel
theorem dX4_valueAt_8 : decode cX4_valueAt 8 = .ok (.if_icmp .ge 22, 3) := by decide +kernel
theorem dX4_valueAt_11 : decode cX4_valueAt 11 = .ok (.iload_n 3, 1) := by decide +kernel
theorem dX4_valueAt_12 : decode cX4_valueAt 12 = .ok (.iconst 1, 1) := by decide +kernel
theorem dX4_valueAt_13 : decode cX4_valueAt 13 = .ok (.ishl, 1) := by decide +kernel
theorem dX4_valueAt_14 : decode cX4_valueAt 14 = .ok (.aload_n 0, 1) := by decide +kernel
theorem dX4_valueAt_15 : decode cX4_valueAt 15 = .ok (.iload_n 1, 1) := by decide +kernel
theorem dX4_valueAt_16 : decode cX4_valueAt 16 = .ok (.iload 4, 2) := by decide +kernel
theorem dX4_valueAt_18 : decode cX4_valueAt 18 = .ok (.iadd, 1) := by decide +kernel
theorem dX4_valueAt_19 : decode cX4_valueAt 19 = .ok (.invokevirtual 26, 3) := by decide +kernel
theorem dX4_valueAt_22 : decode cX4_valueAt 22 = .ok (.ior, 1) := by decide +kernel
theorem dX4_valueAt_23 : decode cX4_valueAt 23 = .ok (.istore_n 3, 1) := by decide +kernel
theorem dX4_valueAt_24 : decode cX4_valueAt 24 = .ok (.iinc 4 1, 3) := by decide +kernel
theorem dX4_valueAt_27 : decode cX4_valueAt 27 = .ok (.goto (-22), 3) := by decide +kernel
theorem dX4_valueAt_30 : decode cX4_valueAt 30 = .ok (.iload_n 3, 1) := by decide +kernel
theorem dX4_valueAt_31 : decode cX4_valueAt 31 = .ok (.ireturn, 1) := by decide +kernel
theorem dX4_rewind_0 : decode cX4_rewind 0 = .ok (.aload_n 0, 1) := by decide +kernel
theorem dX4_rewind_1 : decode cX4_rewind 1 = .ok (.iconst 0, 1) := by decide +kernel
theorem dX4_rewind_2 : decode cX4_rewind 2 = .ok (.putfield 19, 3) := by decide +kernel
theorem dX4_rewind_5 : decode cX4_rewind 5 = .ok (.return_, 1) := by decide +kernel
theorem dX4_take_0 : decode cX4_take 0 = .ok (.aload_n 0, 1) := by decide +kernel
theorem dX4_take_1 : decode cX4_take 1 = .ok (.aload_n 0, 1) := by decide +kernel
theorem dX4_take_2 : decode cX4_take 2 = .ok (.getfield 19, 3) := by decide +kernel
theorem dX4_take_5 : decode cX4_take 5 = .ok (.iload_n 1, 1) := by decide +kernel
theorem dX4_take_6 : decode cX4_take 6 = .ok (.invokevirtual 30, 3) := by decide +kernel
theorem dX4_take_9 : decode cX4_take 9 = .ok (.istore_n 2, 1) := by decide +kernel
theorem dX4_take_10 : decode cX4_take 10 = .ok (.aload_n 0, 1) := by decide +kernel
theorem dX4_take_11 : decode cX4_take 11 = .ok (.dup, 1) := by decide +kernel
theorem dX4_take_12 : decode cX4_take 12 = .ok (.getfield 19, 3) := by decide +kernel
theorem dX4_take_15 : decode cX4_take 15 = .ok (.iload_n 1, 1) := by decide +kernel
theorem dX4_take_16 : decode cX4_take 16 = .ok (.iadd, 1) := by decide +kernel
theorem dX4_take_17 : decode cX4_take 17 = .ok (.putfield 19, 3) := by decide +kernel
theorem dX4_take_20 : decode cX4_take 20 = .ok (.iload_n 2, 1) := by decide +kernel
theorem dX4_take_21 : decode cX4_take 21 = .ok (.ireturn, 1) := by decide +kernel
theorem dX4_isReadToItsEnd_0 : decode cX4_isReadToItsEnd 0 = .ok (.aload_n 0, 1) := by decide +kernel
theorem dX4_isReadToItsEnd_1 : decode cX4_isReadToItsEnd 1 = .ok (.getfield 19, 3) := by decide +kernel
theorem dX4_isReadToItsEnd_4 : decode cX4_isReadToItsEnd 4 = .ok (.aload_n 0, 1) := by decide +kernel
theorem dX4_isReadToItsEnd_5 : decode cX4_isReadToItsEnd 5 = .ok (.getfield 15, 3) := by decide +kernel
theorem dX4_isReadToItsEnd_8 : decode cX4_isReadToItsEnd 8 = .ok (.if_icmp .ne 7, 3) := by decide +kernel
theorem dX4_isReadToItsEnd_11 : decode cX4_isReadToItsEnd 11 = .ok (.iconst 1, 1) := by decide +kernel
theorem dX4_isReadToItsEnd_12 : decode cX4_isReadToItsEnd 12 = .ok (.goto 4, 3) := by decide +kernel
theorem dX4_isReadToItsEnd_15 : decode cX4_isReadToItsEnd 15 = .ok (.iconst 0, 1) := by decide +kernel
theorem dX4_isReadToItsEnd_16 : decode cX4_isReadToItsEnd 16 = .ok (.ireturn, 1) := by decide +kernel
theorem dX5_init_0 : decode cX5_init 0 = .ok (.aload_n 0, 1) := by decide +kernel
theorem dX5_init_1 : decode cX5_init 1 = .ok (.invokespecial 3, 3) := by decide +kernel
theorem dX5_init_4 : decode cX5_init 4 = .ok (.return_, 1) := by decide +kernel
theorem dX5_bitsFor_0 : decode cX5_bitsFor 0 = .ok (.aload_n 1, 1) := by decide +kernel
theorem dX5_bitsFor_1 : decode cX5_bitsFor 1 = .ok (.invokevirtual 9, 3) := by decide +kernel
theorem dX5_bitsFor_4 : decode cX5_bitsFor 4 = .ok (.invokestatic 15, 3) := by decide +kernel
theorem dX5_bitsFor_7 : decode cX5_bitsFor 7 = .ok (.ireturn, 1) := by decide +kernel
theorem dX5_tell_0 : decode cX5_tell 0 = .ok (.aload_n 1, 1) := by decide +kernel
theorem dX5_tell_1 : decode cX5_tell 1 = .ok (.invokevirtual 9, 3) := by decide +kernel
theorem dX5_tell_4 : decode cX5_tell 4 = .ok (.istore_n 3, 1) := by decide +kernel
theorem dX5_tell_5 : decode cX5_tell 5 = .ok (.aload_n 2, 1) := by decide +kernel
theorem dX5_tell_6 : decode cX5_tell 6 = .ok (.iload_n 3, 1) := by decide +kernel
theorem dX5_tell_7 : decode cX5_tell 7 = .ok (.bipush 13, 2) := by decide +kernel
theorem dX5_tell_9 : decode cX5_tell 9 = .ok (.invokevirtual 21, 3) := by decide +kernel
theorem dX5_tell_12 : decode cX5_tell 12 = .ok (.iload_n 3, 1) := by decide +kernel
theorem dX5_tell_13 : decode cX5_tell 13 = .ok (.ifCond .le 15, 3) := by decide +kernel
theorem dX5_tell_16 : decode cX5_tell 16 = .ok (.aload_n 1, 1) := by decide +kernel
theorem dX5_tell_17 : decode cX5_tell 17 = .ok (.iload_n 3, 1) := by decide +kernel
theorem dX5_tell_18 : decode cX5_tell 18 = .ok (.aload_n 2, 1) := by decide +kernel
theorem dX5_tell_19 : decode cX5_tell 19 = .ok (.invokestatic 27, 3) := by decide +kernel
theorem dX5_tell_22 : decode cX5_tell 22 = .ok (.aload_n 1, 1) := by decide +kernel
theorem dX5_tell_23 : decode cX5_tell 23 = .ok (.iload_n 3, 1) := by decide +kernel
theorem dX5_tell_24 : decode cX5_tell 24 = .ok (.aload_n 2, 1) := by decide +kernel
theorem dX5_tell_25 : decode cX5_tell 25 = .ok (.invokestatic 31, 3) := by decide +kernel
theorem dX5_tell_28 : decode cX5_tell 28 = .ok (.return_, 1) := by decide +kernel
theorem dX5_learn_0 : decode cX5_learn 0 = .ok (.aload_n 2, 1) := by decide +kernel
theorem dX5_learn_1 : decode cX5_learn 1 = .ok (.invokevirtual 34, 3) := by decide +kernel
theorem dX5_learn_4 : decode cX5_learn 4 = .ok (.aload_n 1, 1) := by decide +kernel
theorem dX5_learn_5 : decode cX5_learn 5 = .ok (.iconst 0, 1) := by decide +kernel
theorem dX5_learn_6 : decode cX5_learn 6 = .ok (.bipush 13, 2) := by decide +kernel
theorem dX5_learn_8 : decode cX5_learn 8 = .ok (.invokevirtual 37, 3) := by decide +kernel
theorem dX5_learn_11 : decode cX5_learn 11 = .ok (.istore_n 3, 1) := by decide +kernel
theorem dX5_learn_12 : decode cX5_learn 12 = .ok (.iload_n 3, 1) := by decide +kernel
theorem dX5_learn_13 : decode cX5_learn 13 = .ok (.sipush 4096, 3) := by decide +kernel
theorem dX5_learn_16 : decode cX5_learn 16 = .ok (.if_icmp .gt 14, 3) := by decide +kernel
theorem dX5_learn_19 : decode cX5_learn 19 = .ok (.aload_n 1, 1) := by decide +kernel
theorem dX5_learn_20 : decode cX5_learn 20 = .ok (.invokevirtual 41, 3) := by decide +kernel
theorem dX5_learn_23 : decode cX5_learn 23 = .ok (.iload_n 3, 1) := by decide +kernel
theorem dX5_learn_24 : decode cX5_learn 24 = .ok (.invokestatic 15, 3) := by decide +kernel
theorem dX5_learn_27 : decode cX5_learn 27 = .ok (.if_icmp .eq 5, 3) := by decide +kernel
theorem dX5_learn_30 : decode cX5_learn 30 = .ok (.iconst 0, 1) := by decide +kernel
theorem dX5_learn_31 : decode cX5_learn 31 = .ok (.ireturn, 1) := by decide +kernel
theorem dX5_learn_32 : decode cX5_learn 32 = .ok (.iload_n 3, 1) := by decide +kernel
theorem dX5_learn_33 : decode cX5_learn 33 = .ok (.invokestatic 44, 3) := by decide +kernel
theorem dX5_learn_36 : decode cX5_learn 36 = .ok (.istore 4, 2) := by decide +kernel
theorem dX5_learn_38 : decode cX5_learn 38 = .ok (.iconst 0, 1) := by decide +kernel
theorem dX5_learn_39 : decode cX5_learn 39 = .ok (.istore 5, 2) := by decide +kernel
theorem dX5_learn_41 : decode cX5_learn 41 = .ok (.iconst 0, 1) := by decide +kernel
theorem dX5_learn_42 : decode cX5_learn 42 = .ok (.istore 6, 2) := by decide +kernel
theorem dX5_learn_44 : decode cX5_learn 44 = .ok (.iconst (-1), 1) := by decide +kernel
theorem dX5_learn_45 : decode cX5_learn 45 = .ok (.istore 7, 2) := by decide +kernel
theorem dX5_learn_47 : decode cX5_learn 47 = .ok (.bipush 13, 2) := by decide +kernel
theorem dX5_learn_49 : decode cX5_learn 49 = .ok (.iload_n 3, 1) := by decide +kernel
theorem dX5_learn_50 : decode cX5_learn 50 = .ok (.iload 4, 2) := by decide +kernel
theorem dX5_learn_52 : decode cX5_learn 52 = .ok (.imul, 1) := by decide +kernel
theorem dX5_learn_53 : decode cX5_learn 53 = .ok (.iadd, 1) := by decide +kernel
theorem dX5_learn_54 : decode cX5_learn 54 = .ok (.istore 8, 2) := by decide +kernel
theorem dX5_learn_56 : decode cX5_learn 56 = .ok (.iload 8, 2) := by decide +kernel
theorem dX5_learn_58 : decode cX5_learn 58 = .ok (.aload_n 1, 1) := by decide +kernel
theorem dX5_learn_59 : decode cX5_learn 59 = .ok (.invokevirtual 41, 3) := by decide +kernel
theorem dX5_learn_62 : decode cX5_learn 62 = .ok (.if_icmp .ge 82, 3) := by decide +kernel
theorem dX5_learn_65 : decode cX5_learn 65 = .ok (.aload_n 1, 1) := by decide +kernel
theorem dX5_learn_66 : decode cX5_learn 66 = .ok (.iload 8, 2) := by decide +kernel
theorem dX5_learn_68 : decode cX5_learn 68 = .ok (.invokevirtual 47, 3) := by decide +kernel
theorem dX5_learn_71 : decode cX5_learn 71 = .ok (.ifCond .ne 9, 3) := by decide +kernel
theorem dX5_learn_74 : decode cX5_learn 74 = .ok (.iinc 6 1, 3) := by decide +kernel
theorem dX5_learn_77 : decode cX5_learn 77 = .ok (.goto 61, 3) := by decide +kernel
theorem dX5_learn_80 : decode cX5_learn 80 = .ok (.iload 6, 2) := by decide +kernel
theorem dX5_learn_82 : decode cX5_learn 82 = .ok (.iload 4, 2) := by decide +kernel
theorem dX5_learn_84 : decode cX5_learn 84 = .ok (.ishl, 1) := by decide +kernel
theorem dX5_learn_85 : decode cX5_learn 85 = .ok (.aload_n 1, 1) := by decide +kernel
theorem dX5_learn_86 : decode cX5_learn 86 = .ok (.bipush 13, 2) := by decide +kernel
theorem dX5_learn_88 : decode cX5_learn 88 = .ok (.iload 5, 2) := by decide +kernel
theorem dX5_learn_90 : decode cX5_learn 90 = .ok (.iload 4, 2) := by decide +kernel
theorem dX5_learn_92 : decode cX5_learn 92 = .ok (.imul, 1) := by decide +kernel
theorem dX5_learn_93 : decode cX5_learn 93 = .ok (.iadd, 1) := by decide +kernel
theorem dX5_learn_94 : decode cX5_learn 94 = .ok (.iload 4, 2) := by decide +kernel
theorem dX5_learn_96 : decode cX5_learn 96 = .ok (.invokevirtual 37, 3) := by decide +kernel
theorem dX5_learn_99 : decode cX5_learn 99 = .ok (.iadd, 1) := by decide +kernel
theorem dX5_learn_100 : decode cX5_learn 100 = .ok (.istore 9, 2) := by decide +kernel
theorem dX5_learn_102 : decode cX5_learn 102 = .ok (.iload 5, 2) := by decide +kernel
theorem dX5_learn_104 : decode cX5_learn 104 = .ok (.iload_n 3, 1) := by decide +kernel
theorem dX5_learn_105 : decode cX5_learn 105 = .ok (.if_icmp .eq 18, 3) := by decide +kernel
theorem dX5_learn_108 : decode cX5_learn 108 = .ok (.iload 9, 2) := by decide +kernel
theorem dX5_learn_110 : decode cX5_learn 110 = .ok (.iload 7, 2) := by decide +kernel
theorem dX5_learn_112 : decode cX5_learn 112 = .ok (.if_icmp .le 11, 3) := by decide +kernel
theorem dX5_learn_115 : decode cX5_learn 115 = .ok (.iload 9, 2) := by decide +kernel
theorem dX5_learn_117 : decode cX5_learn 117 = .ok (.sipush 4096, 3) := by decide +kernel
theorem dX5_learn_120 : decode cX5_learn 120 = .ok (.if_icmp .lt 5, 3) := by decide +kernel
theorem dX5_learn_123 : decode cX5_learn 123 = .ok (.iconst 0, 1) := by decide +kernel
theorem dX5_learn_124 : decode cX5_learn 124 = .ok (.ireturn, 1) := by decide +kernel
theorem dX5_learn_125 : decode cX5_learn 125 = .ok (.aload_n 2, 1) := by decide +kernel
theorem dX5_learn_126 : decode cX5_learn 126 = .ok (.iload 9, 2) := by decide +kernel
theorem dX5_learn_128 : decode cX5_learn 128 = .ok (.invokevirtual 50, 3) := by decide +kernel
theorem dX5_learn_131 : decode cX5_learn 131 = .ok (.iload 9, 2) := by decide +kernel
theorem dX5_learn_133 : decode cX5_learn 133 = .ok (.istore 7, 2) := by decide +kernel
theorem dX5_learn_135 : decode cX5_learn 135 = .ok (.iinc 5 1, 3) := by decide +kernel
theorem dX5_learn_138 : decode cX5_learn 138 = .ok (.iinc 8 1, 3) := by decide +kernel
theorem dX5_learn_141 : decode cX5_learn 141 = .ok (.goto (-85), 3) := by decide +kernel
theorem dX5_learn_144 : decode cX5_learn 144 = .ok (.iload 5, 2) := by decide +kernel
theorem dX5_learn_146 : decode cX5_learn 146 = .ok (.iload_n 3, 1) := by decide +kernel
theorem dX5_learn_147 : decode cX5_learn 147 = .ok (.if_icmp .ne 7, 3) := by decide +kernel
theorem dX5_learn_150 : decode cX5_learn 150 = .ok (.iconst 1, 1) := by decide +kernel
theorem dX5_learn_151 : decode cX5_learn 151 = .ok (.goto 4, 3) := by decide +kernel
theorem dX5_learn_154 : decode cX5_learn 154 = .ok (.iconst 0, 1) := by decide +kernel
theorem dX5_learn_155 : decode cX5_learn 155 = .ok (.ireturn, 1) := by decide +kernel
theorem dX5_tellLowParts_0 : decode cX5_tellLowParts 0 = .ok (.iload_n 1, 1) := by decide +kernel
theorem dX5_tellLowParts_1 : decode cX5_tellLowParts 1 = .ok (.invokestatic 44, 3) := by decide +kernel
theorem dX5_tellLowParts_4 : decode cX5_tellLowParts 4 = .ok (.istore_n 3, 1) := by decide +kernel
theorem dX5_tellLowParts_5 : decode cX5_tellLowParts 5 = .ok (.iconst (-1), 1) := by decide +kernel
theorem dX5_tellLowParts_6 : decode cX5_tellLowParts 6 = .ok (.istore 4, 2) := by decide +kernel
theorem dX5_tellLowParts_8 : decode cX5_tellLowParts 8 = .ok (.iconst 0, 1) := by decide +kernel
theorem dX5_tellLowParts_9 : decode cX5_tellLowParts 9 = .ok (.istore 5, 2) := by decide +kernel
theorem dX5_tellLowParts_11 : decode cX5_tellLowParts 11 = .ok (.iload 5, 2) := by decide +kernel
theorem dX5_tellLowParts_13 : decode cX5_tellLowParts 13 = .ok (.iload_n 1, 1) := by decide +kernel
theorem dX5_tellLowParts_14 : decode cX5_tellLowParts 14 = .ok (.if_icmp .ge 26, 3) := by decide +kernel
theorem dX5_tellLowParts_17 : decode cX5_tellLowParts 17 = .ok (.aload_n 0, 1) := by decide +kernel
theorem dX5_tellLowParts_18 : decode cX5_tellLowParts 18 = .ok (.iload 4, 2) := by decide +kernel
theorem dX5_tellLowParts_20 : decode cX5_tellLowParts 20 = .ok (.iconst 1, 1) := by decide +kernel
theorem dX5_tellLowParts_21 : decode cX5_tellLowParts 21 = .ok (.iadd, 1) := by decide +kernel
theorem dX5_tellLowParts_22 : decode cX5_tellLowParts 22 = .ok (.invokevirtual 54, 3) := by decide +kernel
theorem dX5_tellLowParts_25 : decode cX5_tellLowParts 25 = .ok (.istore 4, 2) := by decide +kernel
theorem dX5_tellLowParts_27 : decode cX5_tellLowParts 27 = .ok (.aload_n 2, 1) := by decide +kernel
theorem dX5_tellLowParts_28 : decode cX5_tellLowParts 28 = .ok (.iload 4, 2) := by decide +kernel
theorem dX5_tellLowParts_30 : decode cX5_tellLowParts 30 = .ok (.iload_n 3, 1) := by decide +kernel
theorem dX5_tellLowParts_31 : decode cX5_tellLowParts 31 = .ok (.invokevirtual 21, 3) := by decide +kernel
theorem dX5_tellLowParts_34 : decode cX5_tellLowParts 34 = .ok (.iinc 5 1, 3) := by decide +kernel
theorem dX5_tellLowParts_37 : decode cX5_tellLowParts 37 = .ok (.goto (-26), 3) := by decide +kernel
theorem dX5_tellLowParts_40 : decode cX5_tellLowParts 40 = .ok (.return_, 1) := by decide +kernel
theorem dX5_tellHighParts_0 : decode cX5_tellHighParts 0 = .ok (.iload_n 1, 1) := by decide +kernel
theorem dX5_tellHighParts_1 : decode cX5_tellHighParts 1 = .ok (.invokestatic 44, 3) := by decide +kernel
theorem dX5_tellHighParts_4 : decode cX5_tellHighParts 4 = .ok (.istore_n 3, 1) := by decide +kernel
theorem dX5_tellHighParts_5 : decode cX5_tellHighParts 5 = .ok (.iconst 0, 1) := by decide +kernel
theorem dX5_tellHighParts_6 : decode cX5_tellHighParts 6 = .ok (.istore 4, 2) := by decide +kernel
theorem dX5_tellHighParts_8 : decode cX5_tellHighParts 8 = .ok (.iconst (-1), 1) := by decide +kernel
theorem dX5_tellHighParts_9 : decode cX5_tellHighParts 9 = .ok (.istore 5, 2) := by decide +kernel
theorem dX5_tellHighParts_11 : decode cX5_tellHighParts 11 = .ok (.iconst 0, 1) := by decide +kernel
theorem dX5_tellHighParts_12 : decode cX5_tellHighParts 12 = .ok (.istore 6, 2) := by decide +kernel
theorem dX5_tellHighParts_14 : decode cX5_tellHighParts 14 = .ok (.iload 6, 2) := by decide +kernel
theorem dX5_tellHighParts_16 : decode cX5_tellHighParts 16 = .ok (.iload_n 1, 1) := by decide +kernel
theorem dX5_tellHighParts_17 : decode cX5_tellHighParts 17 = .ok (.if_icmp .ge 46, 3) := by decide +kernel
theorem dX5_tellHighParts_20 : decode cX5_tellHighParts 20 = .ok (.aload_n 0, 1) := by decide +kernel
theorem dX5_tellHighParts_21 : decode cX5_tellHighParts 21 = .ok (.iload 5, 2) := by decide +kernel
theorem dX5_tellHighParts_23 : decode cX5_tellHighParts 23 = .ok (.iconst 1, 1) := by decide +kernel
theorem dX5_tellHighParts_24 : decode cX5_tellHighParts 24 = .ok (.iadd, 1) := by decide +kernel
theorem dX5_tellHighParts_25 : decode cX5_tellHighParts 25 = .ok (.invokevirtual 54, 3) := by decide +kernel
theorem dX5_tellHighParts_28 : decode cX5_tellHighParts 28 = .ok (.istore 5, 2) := by decide +kernel
theorem dX5_tellHighParts_30 : decode cX5_tellHighParts 30 = .ok (.iload 4, 2) := by decide +kernel
theorem dX5_tellHighParts_32 : decode cX5_tellHighParts 32 = .ok (.iload 5, 2) := by decide +kernel
theorem dX5_tellHighParts_34 : decode cX5_tellHighParts 34 = .ok (.iload_n 3, 1) := by decide +kernel
theorem dX5_tellHighParts_35 : decode cX5_tellHighParts 35 = .ok (.ishr, 1) := by decide +kernel
theorem dX5_tellHighParts_36 : decode cX5_tellHighParts 36 = .ok (.if_icmp .ge 15, 3) := by decide +kernel
theorem dX5_tellHighParts_39 : decode cX5_tellHighParts 39 = .ok (.aload_n 2, 1) := by decide +kernel
theorem dX5_tellHighParts_40 : decode cX5_tellHighParts 40 = .ok (.iconst 0, 1) := by decide +kernel
theorem dX5_tellHighParts_41 : decode cX5_tellHighParts 41 = .ok (.iconst 1, 1) := by decide +kernel
theorem dX5_tellHighParts_42 : decode cX5_tellHighParts 42 = .ok (.invokevirtual 21, 3) := by decide +kernel
theorem dX5_tellHighParts_45 : decode cX5_tellHighParts 45 = .ok (.iinc 4 1, 3) := by decide +kernel
theorem dX5_tellHighParts_48 : decode cX5_tellHighParts 48 = .ok (.goto (-18), 3) := by decide +kernel
theorem dX5_tellHighParts_51 : decode cX5_tellHighParts 51 = .ok (.aload_n 2, 1) := by decide +kernel
theorem dX5_tellHighParts_52 : decode cX5_tellHighParts 52 = .ok (.iconst 1, 1) := by decide +kernel
theorem dX5_tellHighParts_53 : decode cX5_tellHighParts 53 = .ok (.iconst 1, 1) := by decide +kernel
theorem dX5_tellHighParts_54 : decode cX5_tellHighParts 54 = .ok (.invokevirtual 21, 3) := by decide +kernel
theorem dX5_tellHighParts_57 : decode cX5_tellHighParts 57 = .ok (.iinc 6 1, 3) := by decide +kernel
theorem dX5_tellHighParts_60 : decode cX5_tellHighParts 60 = .ok (.goto (-46), 3) := by decide +kernel
theorem dX5_tellHighParts_63 : decode cX5_tellHighParts 63 = .ok (.iload 4, 2) := by decide +kernel
theorem dX5_tellHighParts_65 : decode cX5_tellHighParts 65 = .ok (.iload_n 3, 1) := by decide +kernel
theorem dX5_tellHighParts_66 : decode cX5_tellHighParts 66 = .ok (.invokestatic 57, 3) := by decide +kernel
theorem dX5_tellHighParts_69 : decode cX5_tellHighParts 69 = .ok (.if_icmp .ge 15, 3) := by decide +kernel
theorem dX5_tellHighParts_72 : decode cX5_tellHighParts 72 = .ok (.aload_n 2, 1) := by decide +kernel
theorem dX5_tellHighParts_73 : decode cX5_tellHighParts 73 = .ok (.iconst 0, 1) := by decide +kernel
theorem dX5_tellHighParts_74 : decode cX5_tellHighParts 74 = .ok (.iconst 1, 1) := by decide +kernel
theorem dX5_tellHighParts_75 : decode cX5_tellHighParts 75 = .ok (.invokevirtual 21, 3) := by decide +kernel
theorem dX5_tellHighParts_78 : decode cX5_tellHighParts 78 = .ok (.iinc 4 1, 3) := by decide +kernel
theorem dX5_tellHighParts_81 : decode cX5_tellHighParts 81 = .ok (.goto (-18), 3) := by decide +kernel
theorem dX5_tellHighParts_84 : decode cX5_tellHighParts 84 = .ok (.return_, 1) := by decide +kernel
theorem dX5_bitsForAmount_0 : decode cX5_bitsForAmount 0 = .ok (.iload_n 0, 1) := by decide +kernel
theorem dX5_bitsForAmount_1 : decode cX5_bitsForAmount 1 = .ok (.ifCond .ne 6, 3) := by decide +kernel
theorem dX5_bitsForAmount_4 : decode cX5_bitsForAmount 4 = .ok (.bipush 13, 2) := by decide +kernel
theorem dX5_bitsForAmount_6 : decode cX5_bitsForAmount 6 = .ok (.ireturn, 1) := by decide +kernel
theorem dX5_bitsForAmount_7 : decode cX5_bitsForAmount 7 = .ok (.iload_n 0, 1) := by decide +kernel
theorem dX5_bitsForAmount_8 : decode cX5_bitsForAmount 8 = .ok (.invokestatic 44, 3) := by decide +kernel
theorem dX5_bitsForAmount_11 : decode cX5_bitsForAmount 11 = .ok (.istore_n 1, 1) := by decide +kernel
theorem dX5_bitsForAmount_12 : decode cX5_bitsForAmount 12 = .ok (.bipush 13, 2) := by decide +kernel
theorem dX5_bitsForAmount_14 : decode cX5_bitsForAmount 14 = .ok (.iload_n 0, 1) := by decide +kernel
theorem dX5_bitsForAmount_15 : decode cX5_bitsForAmount 15 = .ok (.iload_n 1, 1) := by decide +kernel
theorem dX5_bitsForAmount_16 : decode cX5_bitsForAmount 16 = .ok (.imul, 1) := by decide +kernel
theorem dX5_bitsForAmount_17 : decode cX5_bitsForAmount 17 = .ok (.iadd, 1) := by decide +kernel
theorem dX5_bitsForAmount_18 : decode cX5_bitsForAmount 18 = .ok (.iload_n 0, 1) := by decide +kernel
theorem dX5_bitsForAmount_19 : decode cX5_bitsForAmount 19 = .ok (.iadd, 1) := by decide +kernel
theorem dX5_bitsForAmount_20 : decode cX5_bitsForAmount 20 = .ok (.iload_n 1, 1) := by decide +kernel
theorem dX5_bitsForAmount_21 : decode cX5_bitsForAmount 21 = .ok (.invokestatic 57, 3) := by decide +kernel
theorem dX5_bitsForAmount_24 : decode cX5_bitsForAmount 24 = .ok (.iadd, 1) := by decide +kernel
theorem dX5_bitsForAmount_25 : decode cX5_bitsForAmount 25 = .ok (.ireturn, 1) := by decide +kernel
theorem dX5_lowBits_0 : decode cX5_lowBits 0 = .ok (.iconst 0, 1) := by decide +kernel
theorem dX5_lowBits_1 : decode cX5_lowBits 1 = .ok (.istore_n 1, 1) := by decide +kernel
theorem dX5_lowBits_2 : decode cX5_lowBits 2 = .ok (.iload_n 1, 1) := by decide +kernel
theorem dX5_lowBits_3 : decode cX5_lowBits 3 = .ok (.bipush 12, 2) := by decide +kernel
theorem dX5_lowBits_5 : decode cX5_lowBits 5 = .ok (.if_icmp .ge 20, 3) := by decide +kernel
theorem dX5_lowBits_8 : decode cX5_lowBits 8 = .ok (.iload_n 0, 1) := by decide +kernel
theorem dX5_lowBits_9 : decode cX5_lowBits 9 = .ok (.iload_n 1, 1) := by decide +kernel
theorem dX5_lowBits_10 : decode cX5_lowBits 10 = .ok (.iconst 1, 1) := by decide +kernel
theorem dX5_lowBits_11 : decode cX5_lowBits 11 = .ok (.iadd, 1) := by decide +kernel
theorem dX5_lowBits_12 : decode cX5_lowBits 12 = .ok (.ishl, 1) := by decide +kernel
theorem dX5_lowBits_13 : decode cX5_lowBits 13 = .ok (.sipush 4096, 3) := by decide +kernel
theorem dX5_lowBits_16 : decode cX5_lowBits 16 = .ok (.if_icmp .gt 9, 3) := by decide +kernel
theorem dX5_lowBits_19 : decode cX5_lowBits 19 = .ok (.iinc 1 1, 3) := by decide +kernel
theorem dX5_lowBits_22 : decode cX5_lowBits 22 = .ok (.goto (-20), 3) := by decide +kernel
theorem dX5_lowBits_25 : decode cX5_lowBits 25 = .ok (.iload_n 1, 1) := by decide +kernel
theorem dX5_lowBits_26 : decode cX5_lowBits 26 = .ok (.ireturn, 1) := by decide +kernel
theorem dX5_highParts_0 : decode cX5_highParts 0 = .ok (.sipush 4095, 3) := by decide +kernel
theorem dX5_highParts_3 : decode cX5_highParts 3 = .ok (.iload_n 0, 1) := by decide +kernel
theorem dX5_highParts_4 : decode cX5_highParts 4 = .ok (.ishr, 1) := by decide +kernel
theorem dX5_highParts_5 : decode cX5_highParts 5 = .ok (.iconst 1, 1) := by decide +kernel
theorem dX5_highParts_6 : decode cX5_highParts 6 = .ok (.iadd, 1) := by decide +kernel
theorem dX5_highParts_7 : decode cX5_highParts 7 = .ok (.ireturn, 1) := by decide +kernel
theorem dX6_init_0 : decode cX6_init 0 = .ok (.aload_n 0, 1) := by decide +kernel
theorem dX6_init_1 : decode cX6_init 1 = .ok (.invokespecial 3, 3) := by decide +kernel
theorem dX6_init_4 : decode cX6_init 4 = .ok (.aload_n 0, 1) := by decide +kernel
theorem dX6_init_5 : decode cX6_init 5 = .ok (.bipush 8, 2) := by decide +kernel
theorem dX6_init_7 : decode cX6_init 7 = .ok (.anewarray 9, 3) := by decide +kernel
theorem dX6_init_10 : decode cX6_init 10 = .ok (.putfield 11, 3) := by decide +kernel
theorem dX6_init_13 : decode cX6_init 13 = .ok (.aload_n 0, 1) := by decide +kernel
theorem dX6_init_14 : decode cX6_init 14 = .ok (.iconst 3, 1) := by decide +kernel
theorem dX6_init_15 : decode cX6_init 15 = .ok (.anewarray 15, 3) := by decide +kernel
theorem dX6_init_18 : decode cX6_init 18 = .ok (.putfield 17, 3) := by decide +kernel
theorem dX6_init_21 : decode cX6_init 21 = .ok (.aload_n 0, 1) := by decide +kernel
theorem dX6_init_22 : decode cX6_init 22 = .ok (.new 21, 3) := by decide +kernel
theorem dX6_init_25 : decode cX6_init 25 = .ok (.dup, 1) := by decide +kernel
theorem dX6_init_26 : decode cX6_init 26 = .ok (.invokespecial 23, 3) := by decide +kernel
theorem dX6_init_29 : decode cX6_init 29 = .ok (.putfield 24, 3) := by decide +kernel
theorem dX6_init_32 : decode cX6_init 32 = .ok (.aload_n 0, 1) := by decide +kernel
theorem dX6_init_33 : decode cX6_init 33 = .ok (.new 9, 3) := by decide +kernel
theorem dX6_init_36 : decode cX6_init 36 = .ok (.dup, 1) := by decide +kernel
theorem dX6_init_37 : decode cX6_init 37 = .ok (.invokespecial 28, 3) := by decide +kernel
theorem dX6_init_40 : decode cX6_init 40 = .ok (.putfield 29, 3) := by decide +kernel
theorem dX6_init_43 : decode cX6_init 43 = .ok (.iconst 0, 1) := by decide +kernel
theorem dX6_init_44 : decode cX6_init 44 = .ok (.istore_n 1, 1) := by decide +kernel
theorem dX6_init_45 : decode cX6_init 45 = .ok (.iload_n 1, 1) := by decide +kernel
theorem dX6_init_46 : decode cX6_init 46 = .ok (.bipush 8, 2) := by decide +kernel
theorem dX6_init_48 : decode cX6_init 48 = .ok (.if_icmp .ge 22, 3) := by decide +kernel
theorem dX6_init_51 : decode cX6_init 51 = .ok (.aload_n 0, 1) := by decide +kernel
theorem dX6_init_52 : decode cX6_init 52 = .ok (.getfield 11, 3) := by decide +kernel
theorem dX6_init_55 : decode cX6_init 55 = .ok (.iload_n 1, 1) := by decide +kernel
theorem dX6_init_56 : decode cX6_init 56 = .ok (.new 9, 3) := by decide +kernel
theorem dX6_init_59 : decode cX6_init 59 = .ok (.dup, 1) := by decide +kernel
theorem dX6_init_60 : decode cX6_init 60 = .ok (.invokespecial 28, 3) := by decide +kernel
theorem dX6_init_63 : decode cX6_init 63 = .ok (.aastore, 1) := by decide +kernel
theorem dX6_init_64 : decode cX6_init 64 = .ok (.iinc 1 1, 3) := by decide +kernel
theorem dX6_init_67 : decode cX6_init 67 = .ok (.goto (-22), 3) := by decide +kernel
theorem dX6_init_70 : decode cX6_init 70 = .ok (.aload_n 0, 1) := by decide +kernel
theorem dX6_init_71 : decode cX6_init 71 = .ok (.getfield 17, 3) := by decide +kernel
theorem dX6_init_74 : decode cX6_init 74 = .ok (.iconst 0, 1) := by decide +kernel
theorem dX6_init_75 : decode cX6_init 75 = .ok (.new 33, 3) := by decide +kernel
theorem dX6_init_78 : decode cX6_init 78 = .ok (.dup, 1) := by decide +kernel
theorem dX6_init_79 : decode cX6_init 79 = .ok (.invokespecial 35, 3) := by decide +kernel
theorem dX6_init_82 : decode cX6_init 82 = .ok (.aastore, 1) := by decide +kernel
theorem dX6_init_83 : decode cX6_init 83 = .ok (.aload_n 0, 1) := by decide +kernel
theorem dX6_init_84 : decode cX6_init 84 = .ok (.getfield 17, 3) := by decide +kernel
theorem dX6_init_87 : decode cX6_init 87 = .ok (.iconst 1, 1) := by decide +kernel
theorem dX6_init_88 : decode cX6_init 88 = .ok (.new 36, 3) := by decide +kernel
theorem dX6_init_91 : decode cX6_init 91 = .ok (.dup, 1) := by decide +kernel
theorem dX6_init_92 : decode cX6_init 92 = .ok (.invokespecial 38, 3) := by decide +kernel
theorem dX6_init_95 : decode cX6_init 95 = .ok (.aastore, 1) := by decide +kernel
theorem dX6_init_96 : decode cX6_init 96 = .ok (.aload_n 0, 1) := by decide +kernel
theorem dX6_init_97 : decode cX6_init 97 = .ok (.getfield 17, 3) := by decide +kernel
theorem dX6_init_100 : decode cX6_init 100 = .ok (.iconst 2, 1) := by decide +kernel
theorem dX6_init_101 : decode cX6_init 101 = .ok (.new 39, 3) := by decide +kernel
theorem dX6_init_104 : decode cX6_init 104 = .ok (.dup, 1) := by decide +kernel
theorem dX6_init_105 : decode cX6_init 105 = .ok (.invokespecial 41, 3) := by decide +kernel
theorem dX6_init_108 : decode cX6_init 108 = .ok (.aastore, 1) := by decide +kernel
theorem dX6_init_109 : decode cX6_init 109 = .ok (.return_, 1) := by decide +kernel
theorem dX6_put_0 : decode cX6_put 0 = .ok (.iload_n 1, 1) := by decide +kernel
theorem dX6_put_1 : decode cX6_put 1 = .ok (.invokestatic 42, 3) := by decide +kernel
theorem dX6_put_4 : decode cX6_put 4 = .ok (.ifCond .ne 6, 3) := by decide +kernel
theorem dX6_put_7 : decode cX6_put 7 = .ok (.bipush (-2), 2) := by decide +kernel
theorem dX6_put_9 : decode cX6_put 9 = .ok (.ireturn, 1) := by decide +kernel
theorem dX6_put_10 : decode cX6_put 10 = .ok (.iload_n 2, 1) := by decide +kernel
theorem dX6_put_11 : decode cX6_put 11 = .ok (.invokestatic 46, 3) := by decide +kernel
theorem dX6_put_14 : decode cX6_put 14 = .ok (.ifCond .ne 6, 3) := by decide +kernel
theorem dX6_put_17 : decode cX6_put 17 = .ok (.bipush (-3), 2) := by decide +kernel
theorem dX6_put_19 : decode cX6_put 19 = .ok (.ireturn, 1) := by decide +kernel
theorem dX6_put_20 : decode cX6_put 20 = .ok (.aload_n 0, 1) := by decide +kernel
theorem dX6_put_21 : decode cX6_put 21 = .ok (.getfield 11, 3) := by decide +kernel
theorem dX6_put_24 : decode cX6_put 24 = .ok (.iload_n 1, 1) := by decide +kernel
theorem dX6_put_25 : decode cX6_put 25 = .ok (.aaload, 1) := by decide +kernel
theorem dX6_put_26 : decode cX6_put 26 = .ok (.iload_n 2, 1) := by decide +kernel
theorem dX6_put_27 : decode cX6_put 27 = .ok (.invokevirtual 49, 3) := by decide +kernel
theorem dX6_put_30 : decode cX6_put 30 = .ok (.ifCond .eq 5, 3) := by decide +kernel
theorem dX6_put_33 : decode cX6_put 33 = .ok (.iconst 0, 1) := by decide +kernel
theorem dX6_put_34 : decode cX6_put 34 = .ok (.ireturn, 1) := by decide +kernel
theorem dX6_put_35 : decode cX6_put 35 = .ok (.aload_n 0, 1) := by decide +kernel
theorem dX6_put_36 : decode cX6_put 36 = .ok (.getfield 11, 3) := by decide +kernel
theorem dX6_put_39 : decode cX6_put 39 = .ok (.iload_n 1, 1) := by decide +kernel
theorem dX6_put_40 : decode cX6_put 40 = .ok (.aaload, 1) := by decide +kernel
theorem dX6_put_41 : decode cX6_put 41 = .ok (.iload_n 2, 1) := by decide +kernel
theorem dX6_put_42 : decode cX6_put 42 = .ok (.invokevirtual 52, 3) := by decide +kernel
theorem dX6_put_45 : decode cX6_put 45 = .ok (.iconst 1, 1) := by decide +kernel
theorem dX6_put_46 : decode cX6_put 46 = .ok (.ireturn, 1) := by decide +kernel
theorem dX6_fill_0 : decode cX6_fill 0 = .ok (.iload_n 1, 1) := by decide +kernel
theorem dX6_fill_1 : decode cX6_fill 1 = .ok (.invokestatic 42, 3) := by decide +kernel
theorem dX6_fill_4 : decode cX6_fill 4 = .ok (.ifCond .ne 6, 3) := by decide +kernel
theorem dX6_fill_7 : decode cX6_fill 7 = .ok (.bipush (-2), 2) := by decide +kernel
theorem dX6_fill_9 : decode cX6_fill 9 = .ok (.ireturn, 1) := by decide +kernel
theorem dX6_fill_10 : decode cX6_fill 10 = .ok (.iload_n 2, 1) := by decide +kernel
theorem dX6_fill_11 : decode cX6_fill 11 = .ok (.iload_n 3, 1) := by decide +kernel
theorem dX6_fill_12 : decode cX6_fill 12 = .ok (.invokestatic 56, 3) := by decide +kernel
theorem dX6_fill_15 : decode cX6_fill 15 = .ok (.ifCond .ne 6, 3) := by decide +kernel
theorem dX6_fill_18 : decode cX6_fill 18 = .ok (.bipush (-3), 2) := by decide +kernel
theorem dX6_fill_20 : decode cX6_fill 20 = .ok (.ireturn, 1) := by decide +kernel
theorem dX6_fill_21 : decode cX6_fill 21 = .ok (.iload_n 3, 1) := by decide +kernel
theorem dX6_fill_22 : decode cX6_fill 22 = .ok (.iload_n 2, 1) := by decide +kernel
theorem dX6_fill_23 : decode cX6_fill 23 = .ok (.isub, 1) := by decide +kernel
theorem dX6_fill_24 : decode cX6_fill 24 = .ok (.iconst 1, 1) := by decide +kernel
theorem dX6_fill_25 : decode cX6_fill 25 = .ok (.iadd, 1) := by decide +kernel
theorem dX6_fill_26 : decode cX6_fill 26 = .ok (.aload_n 0, 1) := by decide +kernel
theorem dX6_fill_27 : decode cX6_fill 27 = .ok (.getfield 11, 3) := by decide +kernel
theorem dX6_fill_30 : decode cX6_fill 30 = .ok (.iload_n 1, 1) := by decide +kernel
theorem dX6_fill_31 : decode cX6_fill 31 = .ok (.aaload, 1) := by decide +kernel
theorem dX6_fill_32 : decode cX6_fill 32 = .ok (.iload_n 2, 1) := by decide +kernel
theorem dX6_fill_33 : decode cX6_fill 33 = .ok (.iload_n 3, 1) := by decide +kernel
theorem dX6_fill_34 : decode cX6_fill 34 = .ok (.invokevirtual 60, 3) := by decide +kernel
theorem dX6_fill_37 : decode cX6_fill 37 = .ok (.isub, 1) := by decide +kernel
theorem dX6_fill_38 : decode cX6_fill 38 = .ok (.istore 4, 2) := by decide +kernel
theorem dX6_fill_40 : decode cX6_fill 40 = .ok (.aload_n 0, 1) := by decide +kernel
theorem dX6_fill_41 : decode cX6_fill 41 = .ok (.getfield 11, 3) := by decide +kernel
theorem dX6_fill_44 : decode cX6_fill 44 = .ok (.iload_n 1, 1) := by decide +kernel
theorem dX6_fill_45 : decode cX6_fill 45 = .ok (.aaload, 1) := by decide +kernel
theorem dX6_fill_46 : decode cX6_fill 46 = .ok (.iload_n 2, 1) := by decide +kernel
theorem dX6_fill_47 : decode cX6_fill 47 = .ok (.iload_n 3, 1) := by decide +kernel
theorem dX6_fill_48 : decode cX6_fill 48 = .ok (.invokevirtual 64, 3) := by decide +kernel
theorem dX6_fill_51 : decode cX6_fill 51 = .ok (.iload 4, 2) := by decide +kernel
theorem dX6_fill_53 : decode cX6_fill 53 = .ok (.ireturn, 1) := by decide +kernel
theorem dX6_drop_0 : decode cX6_drop 0 = .ok (.iload_n 1, 1) := by decide +kernel
theorem dX6_drop_1 : decode cX6_drop 1 = .ok (.invokestatic 42, 3) := by decide +kernel
theorem dX6_drop_4 : decode cX6_drop 4 = .ok (.ifCond .ne 6, 3) := by decide +kernel
theorem dX6_drop_7 : decode cX6_drop 7 = .ok (.bipush (-2), 2) := by decide +kernel
theorem dX6_drop_9 : decode cX6_drop 9 = .ok (.ireturn, 1) := by decide +kernel
theorem dX6_drop_10 : decode cX6_drop 10 = .ok (.iload_n 2, 1) := by decide +kernel
theorem dX6_drop_11 : decode cX6_drop 11 = .ok (.iload_n 3, 1) := by decide +kernel
theorem dX6_drop_12 : decode cX6_drop 12 = .ok (.invokestatic 56, 3) := by decide +kernel
theorem dX6_drop_15 : decode cX6_drop 15 = .ok (.ifCond .ne 6, 3) := by decide +kernel
theorem dX6_drop_18 : decode cX6_drop 18 = .ok (.bipush (-3), 2) := by decide +kernel
theorem dX6_drop_20 : decode cX6_drop 20 = .ok (.ireturn, 1) := by decide +kernel
theorem dX6_drop_21 : decode cX6_drop 21 = .ok (.aload_n 0, 1) := by decide +kernel
theorem dX6_drop_22 : decode cX6_drop 22 = .ok (.getfield 11, 3) := by decide +kernel
theorem dX6_drop_25 : decode cX6_drop 25 = .ok (.iload_n 1, 1) := by decide +kernel
theorem dX6_drop_26 : decode cX6_drop 26 = .ok (.aaload, 1) := by decide +kernel
theorem dX6_drop_27 : decode cX6_drop 27 = .ok (.iload_n 2, 1) := by decide +kernel
theorem dX6_drop_28 : decode cX6_drop 28 = .ok (.iload_n 3, 1) := by decide +kernel
theorem dX6_drop_29 : decode cX6_drop 29 = .ok (.invokevirtual 60, 3) := by decide +kernel
theorem dX6_drop_32 : decode cX6_drop 32 = .ok (.istore 4, 2) := by decide +kernel
theorem dX6_drop_34 : decode cX6_drop 34 = .ok (.aload_n 0, 1) := by decide +kernel
theorem dX6_drop_35 : decode cX6_drop 35 = .ok (.getfield 11, 3) := by decide +kernel
theorem dX6_drop_38 : decode cX6_drop 38 = .ok (.iload_n 1, 1) := by decide +kernel
theorem dX6_drop_39 : decode cX6_drop 39 = .ok (.aaload, 1) := by decide +kernel
theorem dX6_drop_40 : decode cX6_drop 40 = .ok (.iload_n 2, 1) := by decide +kernel
theorem dX6_drop_41 : decode cX6_drop 41 = .ok (.iload_n 3, 1) := by decide +kernel
theorem dX6_drop_42 : decode cX6_drop 42 = .ok (.invokevirtual 68, 3) := by decide +kernel
theorem dX6_drop_45 : decode cX6_drop 45 = .ok (.iload 4, 2) := by decide +kernel
theorem dX6_drop_47 : decode cX6_drop 47 = .ok (.ireturn, 1) := by decide +kernel
theorem dX6_join_0 : decode cX6_join 0 = .ok (.iload_n 1, 1) := by decide +kernel
theorem dX6_join_1 : decode cX6_join 1 = .ok (.invokestatic 42, 3) := by decide +kernel
theorem dX6_join_4 : decode cX6_join 4 = .ok (.ifCond .eq 17, 3) := by decide +kernel
theorem dX6_join_7 : decode cX6_join 7 = .ok (.iload_n 2, 1) := by decide +kernel
theorem dX6_join_8 : decode cX6_join 8 = .ok (.invokestatic 42, 3) := by decide +kernel
theorem dX6_join_11 : decode cX6_join 11 = .ok (.ifCond .eq 10, 3) := by decide +kernel
theorem dX6_join_14 : decode cX6_join 14 = .ok (.iload_n 3, 1) := by decide +kernel
theorem dX6_join_15 : decode cX6_join 15 = .ok (.invokestatic 42, 3) := by decide +kernel
theorem dX6_join_18 : decode cX6_join 18 = .ok (.ifCond .ne 6, 3) := by decide +kernel
theorem dX6_join_21 : decode cX6_join 21 = .ok (.bipush (-2), 2) := by decide +kernel
theorem dX6_join_23 : decode cX6_join 23 = .ok (.ireturn, 1) := by decide +kernel
theorem dX6_join_24 : decode cX6_join 24 = .ok (.iload 4, 2) := by decide +kernel
theorem dX6_join_26 : decode cX6_join 26 = .ok (.ifCond .lt 9, 3) := by decide +kernel
theorem dX6_join_29 : decode cX6_join 29 = .ok (.iload 4, 2) := by decide +kernel
theorem dX6_join_31 : decode cX6_join 31 = .ok (.iconst 4, 1) := by decide +kernel
theorem dX6_join_32 : decode cX6_join 32 = .ok (.if_icmp .lt 6, 3) := by decide +kernel
theorem dX6_join_35 : decode cX6_join 35 = .ok (.bipush (-3), 2) := by decide +kernel
theorem dX6_join_37 : decode cX6_join 37 = .ok (.ireturn, 1) := by decide +kernel
theorem dX6_join_38 : decode cX6_join 38 = .ok (.aload_n 0, 1) := by decide +kernel
theorem dX6_join_39 : decode cX6_join 39 = .ok (.getfield 11, 3) := by decide +kernel
theorem dX6_join_42 : decode cX6_join 42 = .ok (.iload_n 1, 1) := by decide +kernel
theorem dX6_join_43 : decode cX6_join 43 = .ok (.aaload, 1) := by decide +kernel
theorem dX6_join_44 : decode cX6_join 44 = .ok (.aload_n 0, 1) := by decide +kernel
theorem dX6_join_45 : decode cX6_join 45 = .ok (.getfield 11, 3) := by decide +kernel
theorem dX6_join_48 : decode cX6_join 48 = .ok (.iload_n 2, 1) := by decide +kernel
theorem dX6_join_49 : decode cX6_join 49 = .ok (.aaload, 1) := by decide +kernel
theorem dX6_join_50 : decode cX6_join 50 = .ok (.aload_n 0, 1) := by decide +kernel
theorem dX6_join_51 : decode cX6_join 51 = .ok (.getfield 11, 3) := by decide +kernel
theorem dX6_join_54 : decode cX6_join 54 = .ok (.iload_n 3, 1) := by decide +kernel
theorem dX6_join_55 : decode cX6_join 55 = .ok (.aaload, 1) := by decide +kernel
theorem dX6_join_56 : decode cX6_join 56 = .ok (.iload 4, 2) := by decide +kernel
theorem dX6_join_58 : decode cX6_join 58 = .ok (.invokevirtual 71, 3) := by decide +kernel
theorem dX6_join_61 : decode cX6_join 61 = .ok (.aload_n 0, 1) := by decide +kernel
theorem dX6_join_62 : decode cX6_join 62 = .ok (.getfield 11, 3) := by decide +kernel
theorem dX6_join_65 : decode cX6_join 65 = .ok (.iload_n 1, 1) := by decide +kernel
theorem dX6_join_66 : decode cX6_join 66 = .ok (.aaload, 1) := by decide +kernel
theorem dX6_join_67 : decode cX6_join 67 = .ok (.invokevirtual 75, 3) := by decide +kernel
theorem dX6_join_70 : decode cX6_join 70 = .ok (.ireturn, 1) := by decide +kernel
theorem dX6_has_0 : decode cX6_has 0 = .ok (.iload_n 1, 1) := by decide +kernel
theorem dX6_has_1 : decode cX6_has 1 = .ok (.invokestatic 42, 3) := by decide +kernel
theorem dX6_has_4 : decode cX6_has 4 = .ok (.ifCond .ne 6, 3) := by decide +kernel
theorem dX6_has_7 : decode cX6_has 7 = .ok (.bipush (-2), 2) := by decide +kernel
theorem dX6_has_9 : decode cX6_has 9 = .ok (.ireturn, 1) := by decide +kernel
theorem dX6_has_10 : decode cX6_has 10 = .ok (.iload_n 2, 1) := by decide +kernel
theorem dX6_has_11 : decode cX6_has 11 = .ok (.invokestatic 46, 3) := by decide +kernel
theorem dX6_has_14 : decode cX6_has 14 = .ok (.ifCond .ne 6, 3) := by decide +kernel
theorem dX6_has_17 : decode cX6_has 17 = .ok (.bipush (-3), 2) := by decide +kernel
theorem dX6_has_19 : decode cX6_has 19 = .ok (.ireturn, 1) := by decide +kernel
theorem dX6_has_20 : decode cX6_has 20 = .ok (.aload_n 0, 1) := by decide +kernel
theorem dX6_has_21 : decode cX6_has 21 = .ok (.getfield 11, 3) := by decide +kernel
theorem dX6_has_24 : decode cX6_has 24 = .ok (.iload_n 1, 1) := by decide +kernel
theorem dX6_has_25 : decode cX6_has 25 = .ok (.aaload, 1) := by decide +kernel
theorem dX6_has_26 : decode cX6_has 26 = .ok (.iload_n 2, 1) := by decide +kernel
theorem dX6_has_27 : decode cX6_has 27 = .ok (.invokevirtual 49, 3) := by decide +kernel
theorem dX6_has_30 : decode cX6_has 30 = .ok (.ifCond .eq 7, 3) := by decide +kernel
theorem dX6_has_33 : decode cX6_has 33 = .ok (.iconst 1, 1) := by decide +kernel
theorem dX6_has_34 : decode cX6_has 34 = .ok (.goto 4, 3) := by decide +kernel
theorem dX6_has_37 : decode cX6_has 37 = .ok (.iconst 0, 1) := by decide +kernel
theorem dX6_has_38 : decode cX6_has 38 = .ok (.ireturn, 1) := by decide +kernel
theorem dX6_count_0 : decode cX6_count 0 = .ok (.iload_n 1, 1) := by decide +kernel
theorem dX6_count_1 : decode cX6_count 1 = .ok (.invokestatic 42, 3) := by decide +kernel
theorem dX6_count_4 : decode cX6_count 4 = .ok (.ifCond .ne 6, 3) := by decide +kernel
theorem dX6_count_7 : decode cX6_count 7 = .ok (.bipush (-2), 2) := by decide +kernel
theorem dX6_count_9 : decode cX6_count 9 = .ok (.ireturn, 1) := by decide +kernel
theorem dX6_count_10 : decode cX6_count 10 = .ok (.aload_n 0, 1) := by decide +kernel
theorem dX6_count_11 : decode cX6_count 11 = .ok (.getfield 11, 3) := by decide +kernel
theorem dX6_count_14 : decode cX6_count 14 = .ok (.iload_n 1, 1) := by decide +kernel
theorem dX6_count_15 : decode cX6_count 15 = .ok (.aaload, 1) := by decide +kernel
theorem dX6_count_16 : decode cX6_count 16 = .ok (.invokevirtual 75, 3) := by decide +kernel
theorem dX6_count_19 : decode cX6_count 19 = .ok (.ireturn, 1) := by decide +kernel
theorem dX6_rank_0 : decode cX6_rank 0 = .ok (.iload_n 1, 1) := by decide +kernel
theorem dX6_rank_1 : decode cX6_rank 1 = .ok (.invokestatic 42, 3) := by decide +kernel
theorem dX6_rank_4 : decode cX6_rank 4 = .ok (.ifCond .ne 6, 3) := by decide +kernel
theorem dX6_rank_7 : decode cX6_rank 7 = .ok (.bipush (-2), 2) := by decide +kernel
theorem dX6_rank_9 : decode cX6_rank 9 = .ok (.ireturn, 1) := by decide +kernel
theorem dX6_rank_10 : decode cX6_rank 10 = .ok (.iload_n 2, 1) := by decide +kernel
theorem dX6_rank_11 : decode cX6_rank 11 = .ok (.invokestatic 79, 3) := by decide +kernel
theorem dX6_rank_14 : decode cX6_rank 14 = .ok (.ifCond .ne 6, 3) := by decide +kernel
theorem dX6_rank_17 : decode cX6_rank 17 = .ok (.bipush (-3), 2) := by decide +kernel
theorem dX6_rank_19 : decode cX6_rank 19 = .ok (.ireturn, 1) := by decide +kernel
theorem dX6_rank_20 : decode cX6_rank 20 = .ok (.aload_n 0, 1) := by decide +kernel
theorem dX6_rank_21 : decode cX6_rank 21 = .ok (.getfield 11, 3) := by decide +kernel
theorem dX6_rank_24 : decode cX6_rank 24 = .ok (.iload_n 1, 1) := by decide +kernel
theorem dX6_rank_25 : decode cX6_rank 25 = .ok (.aaload, 1) := by decide +kernel
theorem dX6_rank_26 : decode cX6_rank 26 = .ok (.iload_n 2, 1) := by decide +kernel
theorem dX6_rank_27 : decode cX6_rank 27 = .ok (.invokevirtual 82, 3) := by decide +kernel
theorem dX6_rank_30 : decode cX6_rank 30 = .ok (.ireturn, 1) := by decide +kernel
theorem dX6_select_0 : decode cX6_select 0 = .ok (.iload_n 1, 1) := by decide +kernel
theorem dX6_select_1 : decode cX6_select 1 = .ok (.invokestatic 42, 3) := by decide +kernel
theorem dX6_select_4 : decode cX6_select 4 = .ok (.ifCond .ne 6, 3) := by decide +kernel
theorem dX6_select_7 : decode cX6_select 7 = .ok (.bipush (-2), 2) := by decide +kernel
theorem dX6_select_9 : decode cX6_select 9 = .ok (.ireturn, 1) := by decide +kernel
theorem dX6_select_10 : decode cX6_select 10 = .ok (.aload_n 0, 1) := by decide +kernel
theorem dX6_select_11 : decode cX6_select 11 = .ok (.getfield 11, 3) := by decide +kernel
theorem dX6_select_14 : decode cX6_select 14 = .ok (.iload_n 1, 1) := by decide +kernel
theorem dX6_select_15 : decode cX6_select 15 = .ok (.aaload, 1) := by decide +kernel
theorem dX6_select_16 : decode cX6_select 16 = .ok (.iload_n 2, 1) := by decide +kernel
theorem dX6_select_17 : decode cX6_select 17 = .ok (.invokevirtual 86, 3) := by decide +kernel
theorem dX6_select_20 : decode cX6_select 20 = .ok (.ireturn, 1) := by decide +kernel
theorem dX6_next_0 : decode cX6_next 0 = .ok (.iload_n 1, 1) := by decide +kernel
theorem dX6_next_1 : decode cX6_next 1 = .ok (.invokestatic 42, 3) := by decide +kernel
theorem dX6_next_4 : decode cX6_next 4 = .ok (.ifCond .ne 6, 3) := by decide +kernel
theorem dX6_next_7 : decode cX6_next 7 = .ok (.bipush (-2), 2) := by decide +kernel
theorem dX6_next_9 : decode cX6_next 9 = .ok (.ireturn, 1) := by decide +kernel
theorem dX6_next_10 : decode cX6_next 10 = .ok (.iload_n 2, 1) := by decide +kernel
theorem dX6_next_11 : decode cX6_next 11 = .ok (.invokestatic 79, 3) := by decide +kernel
theorem dX6_next_14 : decode cX6_next 14 = .ok (.ifCond .ne 6, 3) := by decide +kernel
theorem dX6_next_17 : decode cX6_next 17 = .ok (.bipush (-3), 2) := by decide +kernel
theorem dX6_next_19 : decode cX6_next 19 = .ok (.ireturn, 1) := by decide +kernel
theorem dX6_next_20 : decode cX6_next 20 = .ok (.aload_n 0, 1) := by decide +kernel
theorem dX6_next_21 : decode cX6_next 21 = .ok (.getfield 11, 3) := by decide +kernel
theorem dX6_next_24 : decode cX6_next 24 = .ok (.iload_n 1, 1) := by decide +kernel
theorem dX6_next_25 : decode cX6_next 25 = .ok (.aaload, 1) := by decide +kernel
theorem dX6_next_26 : decode cX6_next 26 = .ok (.iload_n 2, 1) := by decide +kernel
theorem dX6_next_27 : decode cX6_next 27 = .ok (.invokevirtual 89, 3) := by decide +kernel
theorem dX6_next_30 : decode cX6_next 30 = .ok (.ireturn, 1) := by decide +kernel
theorem dX6_before_0 : decode cX6_before 0 = .ok (.iload_n 1, 1) := by decide +kernel
theorem dX6_before_1 : decode cX6_before 1 = .ok (.invokestatic 42, 3) := by decide +kernel
theorem dX6_before_4 : decode cX6_before 4 = .ok (.ifCond .ne 6, 3) := by decide +kernel
theorem dX6_before_7 : decode cX6_before 7 = .ok (.bipush (-2), 2) := by decide +kernel
theorem dX6_before_9 : decode cX6_before 9 = .ok (.ireturn, 1) := by decide +kernel
theorem dX6_before_10 : decode cX6_before 10 = .ok (.iload_n 2, 1) := by decide +kernel
theorem dX6_before_11 : decode cX6_before 11 = .ok (.invokestatic 79, 3) := by decide +kernel
theorem dX6_before_14 : decode cX6_before 14 = .ok (.ifCond .ne 6, 3) := by decide +kernel
theorem dX6_before_17 : decode cX6_before 17 = .ok (.bipush (-3), 2) := by decide +kernel
theorem dX6_before_19 : decode cX6_before 19 = .ok (.ireturn, 1) := by decide +kernel
theorem dX6_before_20 : decode cX6_before 20 = .ok (.aload_n 0, 1) := by decide +kernel
theorem dX6_before_21 : decode cX6_before 21 = .ok (.getfield 11, 3) := by decide +kernel
theorem dX6_before_24 : decode cX6_before 24 = .ok (.iload_n 1, 1) := by decide +kernel
theorem dX6_before_25 : decode cX6_before 25 = .ok (.aaload, 1) := by decide +kernel
theorem dX6_before_26 : decode cX6_before 26 = .ok (.aload_n 0, 1) := by decide +kernel
theorem dX6_before_27 : decode cX6_before 27 = .ok (.getfield 11, 3) := by decide +kernel
theorem dX6_before_30 : decode cX6_before 30 = .ok (.iload_n 1, 1) := by decide +kernel
theorem dX6_before_31 : decode cX6_before 31 = .ok (.aaload, 1) := by decide +kernel
theorem dX6_before_32 : decode cX6_before 32 = .ok (.iload_n 2, 1) := by decide +kernel
theorem dX6_before_33 : decode cX6_before 33 = .ok (.invokevirtual 82, 3) := by decide +kernel
theorem dX6_before_36 : decode cX6_before 36 = .ok (.iconst 1, 1) := by decide +kernel
theorem dX6_before_37 : decode cX6_before 37 = .ok (.isub, 1) := by decide +kernel
theorem dX6_before_38 : decode cX6_before 38 = .ok (.invokevirtual 86, 3) := by decide +kernel
theorem dX6_before_41 : decode cX6_before 41 = .ok (.ireturn, 1) := by decide +kernel
theorem dX6_common_0 : decode cX6_common 0 = .ok (.iload_n 1, 1) := by decide +kernel
theorem dX6_common_1 : decode cX6_common 1 = .ok (.invokestatic 42, 3) := by decide +kernel
theorem dX6_common_4 : decode cX6_common 4 = .ok (.ifCond .eq 10, 3) := by decide +kernel
theorem dX6_common_7 : decode cX6_common 7 = .ok (.iload_n 2, 1) := by decide +kernel
theorem dX6_common_8 : decode cX6_common 8 = .ok (.invokestatic 42, 3) := by decide +kernel
theorem dX6_common_11 : decode cX6_common 11 = .ok (.ifCond .ne 6, 3) := by decide +kernel
theorem dX6_common_14 : decode cX6_common 14 = .ok (.bipush (-2), 2) := by decide +kernel
theorem dX6_common_16 : decode cX6_common 16 = .ok (.ireturn, 1) := by decide +kernel
theorem dX6_common_17 : decode cX6_common 17 = .ok (.aload_n 0, 1) := by decide +kernel
theorem dX6_common_18 : decode cX6_common 18 = .ok (.getfield 11, 3) := by decide +kernel
theorem dX6_common_21 : decode cX6_common 21 = .ok (.iload_n 1, 1) := by decide +kernel
theorem dX6_common_22 : decode cX6_common 22 = .ok (.aaload, 1) := by decide +kernel
theorem dX6_common_23 : decode cX6_common 23 = .ok (.aload_n 0, 1) := by decide +kernel
theorem dX6_common_24 : decode cX6_common 24 = .ok (.getfield 11, 3) := by decide +kernel
theorem dX6_common_27 : decode cX6_common 27 = .ok (.iload_n 2, 1) := by decide +kernel
theorem dX6_common_28 : decode cX6_common 28 = .ok (.aaload, 1) := by decide +kernel
theorem dX6_common_29 : decode cX6_common 29 = .ok (.invokevirtual 92, 3) := by decide +kernel
theorem dX6_common_32 : decode cX6_common 32 = .ok (.ireturn, 1) := by decide +kernel
theorem dX6_piece_0 : decode cX6_piece 0 = .ok (.iload_n 1, 1) := by decide +kernel
theorem dX6_piece_1 : decode cX6_piece 1 = .ok (.invokestatic 42, 3) := by decide +kernel
theorem dX6_piece_4 : decode cX6_piece 4 = .ok (.ifCond .ne 6, 3) := by decide +kernel
theorem dX6_piece_7 : decode cX6_piece 7 = .ok (.bipush (-2), 2) := by decide +kernel
theorem dX6_piece_9 : decode cX6_piece 9 = .ok (.ireturn, 1) := by decide +kernel
theorem dX6_piece_10 : decode cX6_piece 10 = .ok (.iload_n 2, 1) := by decide +kernel
theorem dX6_piece_11 : decode cX6_piece 11 = .ok (.ifCond .lt 9, 3) := by decide +kernel
theorem dX6_piece_14 : decode cX6_piece 14 = .ok (.iload_n 2, 1) := by decide +kernel
theorem dX6_piece_15 : decode cX6_piece 15 = .ok (.bipush 16, 2) := by decide +kernel
theorem dX6_piece_17 : decode cX6_piece 17 = .ok (.if_icmp .lt 6, 3) := by decide +kernel
theorem dX6_piece_20 : decode cX6_piece 20 = .ok (.bipush (-3), 2) := by decide +kernel
theorem dX6_piece_22 : decode cX6_piece 22 = .ok (.ireturn, 1) := by decide +kernel
theorem dX6_piece_23 : decode cX6_piece 23 = .ok (.iload_n 3, 1) := by decide +kernel
theorem dX6_piece_24 : decode cX6_piece 24 = .ok (.tableswitch 76 0 3 #[32, 43, 54, 65], 32) := by decide +kernel
theorem dX6_piece_56 : decode cX6_piece 56 = .ok (.aload_n 0, 1) := by decide +kernel
theorem dX6_piece_57 : decode cX6_piece 57 = .ok (.getfield 11, 3) := by decide +kernel
theorem dX6_piece_60 : decode cX6_piece 60 = .ok (.iload_n 1, 1) := by decide +kernel
theorem dX6_piece_61 : decode cX6_piece 61 = .ok (.aaload, 1) := by decide +kernel
theorem dX6_piece_62 : decode cX6_piece 62 = .ok (.iload_n 2, 1) := by decide +kernel
theorem dX6_piece_63 : decode cX6_piece 63 = .ok (.invokevirtual 96, 3) := by decide +kernel
theorem dX6_piece_66 : decode cX6_piece 66 = .ok (.ireturn, 1) := by decide +kernel
theorem dX6_piece_67 : decode cX6_piece 67 = .ok (.aload_n 0, 1) := by decide +kernel
theorem dX6_piece_68 : decode cX6_piece 68 = .ok (.getfield 11, 3) := by decide +kernel
theorem dX6_piece_71 : decode cX6_piece 71 = .ok (.iload_n 1, 1) := by decide +kernel
theorem dX6_piece_72 : decode cX6_piece 72 = .ok (.aaload, 1) := by decide +kernel
theorem dX6_piece_73 : decode cX6_piece 73 = .ok (.iload_n 2, 1) := by decide +kernel
theorem dX6_piece_74 : decode cX6_piece 74 = .ok (.invokevirtual 99, 3) := by decide +kernel
theorem dX6_piece_77 : decode cX6_piece 77 = .ok (.ireturn, 1) := by decide +kernel
theorem dX6_piece_78 : decode cX6_piece 78 = .ok (.aload_n 0, 1) := by decide +kernel
theorem dX6_piece_79 : decode cX6_piece 79 = .ok (.getfield 11, 3) := by decide +kernel
theorem dX6_piece_82 : decode cX6_piece 82 = .ok (.iload_n 1, 1) := by decide +kernel
theorem dX6_piece_83 : decode cX6_piece 83 = .ok (.aaload, 1) := by decide +kernel
theorem dX6_piece_84 : decode cX6_piece 84 = .ok (.iload_n 2, 1) := by decide +kernel
theorem dX6_piece_85 : decode cX6_piece 85 = .ok (.invokevirtual 102, 3) := by decide +kernel
theorem dX6_piece_88 : decode cX6_piece 88 = .ok (.ireturn, 1) := by decide +kernel
theorem dX6_piece_89 : decode cX6_piece 89 = .ok (.aload_n 0, 1) := by decide +kernel
theorem dX6_piece_90 : decode cX6_piece 90 = .ok (.getfield 11, 3) := by decide +kernel
theorem dX6_piece_93 : decode cX6_piece 93 = .ok (.iload_n 1, 1) := by decide +kernel
theorem dX6_piece_94 : decode cX6_piece 94 = .ok (.aaload, 1) := by decide +kernel
theorem dX6_piece_95 : decode cX6_piece 95 = .ok (.iload_n 2, 1) := by decide +kernel
theorem dX6_piece_96 : decode cX6_piece 96 = .ok (.invokevirtual 105, 3) := by decide +kernel
theorem dX6_piece_99 : decode cX6_piece 99 = .ok (.ireturn, 1) := by decide +kernel
theorem dX6_piece_100 : decode cX6_piece 100 = .ok (.bipush (-3), 2) := by decide +kernel
theorem dX6_piece_102 : decode cX6_piece 102 = .ok (.ireturn, 1) := by decide +kernel
theorem dX6_cost_0 : decode cX6_cost 0 = .ok (.iload_n 1, 1) := by decide +kernel
theorem dX6_cost_1 : decode cX6_cost 1 = .ok (.invokestatic 42, 3) := by decide +kernel
theorem dX6_cost_4 : decode cX6_cost 4 = .ok (.ifCond .ne 6, 3) := by decide +kernel
theorem dX6_cost_7 : decode cX6_cost 7 = .ok (.bipush (-2), 2) := by decide +kernel
theorem dX6_cost_9 : decode cX6_cost 9 = .ok (.ireturn, 1) := by decide +kernel
theorem dX6_cost_10 : decode cX6_cost 10 = .ok (.iconst 0, 1) := by decide +kernel
theorem dX6_cost_11 : decode cX6_cost 11 = .ok (.istore_n 2, 1) := by decide +kernel
theorem dX6_cost_12 : decode cX6_cost 12 = .ok (.iconst 0, 1) := by decide +kernel
theorem dX6_cost_13 : decode cX6_cost 13 = .ok (.istore_n 3, 1) := by decide +kernel
theorem dX6_cost_14 : decode cX6_cost 14 = .ok (.iload_n 3, 1) := by decide +kernel
theorem dX6_cost_15 : decode cX6_cost 15 = .ok (.bipush 16, 2) := by decide +kernel
theorem dX6_cost_17 : decode cX6_cost 17 = .ok (.if_icmp .ge 38, 3) := by decide +kernel
theorem dX6_cost_20 : decode cX6_cost 20 = .ok (.aload_n 0, 1) := by decide +kernel
theorem dX6_cost_21 : decode cX6_cost 21 = .ok (.getfield 11, 3) := by decide +kernel
theorem dX6_cost_24 : decode cX6_cost 24 = .ok (.iload_n 1, 1) := by decide +kernel
theorem dX6_cost_25 : decode cX6_cost 25 = .ok (.aaload, 1) := by decide +kernel
theorem dX6_cost_26 : decode cX6_cost 26 = .ok (.iload_n 3, 1) := by decide +kernel
theorem dX6_cost_27 : decode cX6_cost 27 = .ok (.invokevirtual 99, 3) := by decide +kernel
theorem dX6_cost_30 : decode cX6_cost 30 = .ok (.ifCond .le 19, 3) := by decide +kernel
theorem dX6_cost_33 : decode cX6_cost 33 = .ok (.iload_n 2, 1) := by decide +kernel
theorem dX6_cost_34 : decode cX6_cost 34 = .ok (.bipush 16, 2) := by decide +kernel
theorem dX6_cost_36 : decode cX6_cost 36 = .ok (.aload_n 0, 1) := by decide +kernel
theorem dX6_cost_37 : decode cX6_cost 37 = .ok (.getfield 11, 3) := by decide +kernel
theorem dX6_cost_40 : decode cX6_cost 40 = .ok (.iload_n 1, 1) := by decide +kernel
theorem dX6_cost_41 : decode cX6_cost 41 = .ok (.aaload, 1) := by decide +kernel
theorem dX6_cost_42 : decode cX6_cost 42 = .ok (.iload_n 3, 1) := by decide +kernel
theorem dX6_cost_43 : decode cX6_cost 43 = .ok (.invokevirtual 105, 3) := by decide +kernel
theorem dX6_cost_46 : decode cX6_cost 46 = .ok (.iadd, 1) := by decide +kernel
theorem dX6_cost_47 : decode cX6_cost 47 = .ok (.iadd, 1) := by decide +kernel
theorem dX6_cost_48 : decode cX6_cost 48 = .ok (.istore_n 2, 1) := by decide +kernel
theorem dX6_cost_49 : decode cX6_cost 49 = .ok (.iinc 3 1, 3) := by decide +kernel
theorem dX6_cost_52 : decode cX6_cost 52 = .ok (.goto (-38), 3) := by decide +kernel
theorem dX6_cost_55 : decode cX6_cost 55 = .ok (.iload_n 2, 1) := by decide +kernel
theorem dX6_cost_56 : decode cX6_cost 56 = .ok (.ireturn, 1) := by decide +kernel
theorem dX6_length_0 : decode cX6_length 0 = .ok (.iload_n 1, 1) := by decide +kernel
theorem dX6_length_1 : decode cX6_length 1 = .ok (.invokestatic 42, 3) := by decide +kernel
theorem dX6_length_4 : decode cX6_length 4 = .ok (.ifCond .ne 6, 3) := by decide +kernel
theorem dX6_length_7 : decode cX6_length 7 = .ok (.bipush (-2), 2) := by decide +kernel
theorem dX6_length_9 : decode cX6_length 9 = .ok (.ireturn, 1) := by decide +kernel
theorem dX6_length_10 : decode cX6_length 10 = .ok (.iload_n 2, 1) := by decide +kernel
theorem dX6_length_11 : decode cX6_length 11 = .ok (.invokestatic 108, 3) := by decide +kernel
theorem dX6_length_14 : decode cX6_length 14 = .ok (.ifCond .ne 6, 3) := by decide +kernel
theorem dX6_length_17 : decode cX6_length 17 = .ok (.bipush (-3), 2) := by decide +kernel
theorem dX6_length_19 : decode cX6_length 19 = .ok (.ireturn, 1) := by decide +kernel
theorem dX6_length_20 : decode cX6_length 20 = .ok (.aload_n 0, 1) := by decide +kernel
theorem dX6_length_21 : decode cX6_length 21 = .ok (.getfield 17, 3) := by decide +kernel
theorem dX6_length_24 : decode cX6_length 24 = .ok (.iload_n 2, 1) := by decide +kernel
theorem dX6_length_25 : decode cX6_length 25 = .ok (.aaload, 1) := by decide +kernel
theorem dX6_length_26 : decode cX6_length 26 = .ok (.aload_n 0, 1) := by decide +kernel
theorem dX6_length_27 : decode cX6_length 27 = .ok (.getfield 11, 3) := by decide +kernel
theorem dX6_length_30 : decode cX6_length 30 = .ok (.iload_n 1, 1) := by decide +kernel
theorem dX6_length_31 : decode cX6_length 31 = .ok (.aaload, 1) := by decide +kernel
theorem dX6_length_32 : decode cX6_length 32 = .ok (.invokevirtual 111, 3) := by decide +kernel
theorem dX6_length_35 : decode cX6_length 35 = .ok (.ireturn, 1) := by decide +kernel
theorem dX6_write_0 : decode cX6_write 0 = .ok (.iload_n 1, 1) := by decide +kernel
theorem dX6_write_1 : decode cX6_write 1 = .ok (.invokestatic 42, 3) := by decide +kernel
theorem dX6_write_4 : decode cX6_write 4 = .ok (.ifCond .ne 6, 3) := by decide +kernel
theorem dX6_write_7 : decode cX6_write 7 = .ok (.bipush (-2), 2) := by decide +kernel
theorem dX6_write_9 : decode cX6_write 9 = .ok (.ireturn, 1) := by decide +kernel
theorem dX6_write_10 : decode cX6_write 10 = .ok (.iload_n 2, 1) := by decide +kernel
theorem dX6_write_11 : decode cX6_write 11 = .ok (.invokestatic 108, 3) := by decide +kernel
theorem dX6_write_14 : decode cX6_write 14 = .ok (.ifCond .ne 6, 3) := by decide +kernel
theorem dX6_write_17 : decode cX6_write 17 = .ok (.bipush (-3), 2) := by decide +kernel
theorem dX6_write_19 : decode cX6_write 19 = .ok (.ireturn, 1) := by decide +kernel
theorem dX6_write_20 : decode cX6_write 20 = .ok (.aload_n 0, 1) := by decide +kernel
theorem dX6_write_21 : decode cX6_write 21 = .ok (.getfield 24, 3) := by decide +kernel
theorem dX6_write_24 : decode cX6_write 24 = .ok (.iconst 0, 1) := by decide +kernel
theorem dX6_write_25 : decode cX6_write 25 = .ok (.invokevirtual 114, 3) := by decide +kernel
theorem dX6_write_28 : decode cX6_write 28 = .ok (.aload_n 0, 1) := by decide +kernel
theorem dX6_write_29 : decode cX6_write 29 = .ok (.getfield 17, 3) := by decide +kernel
theorem dX6_write_32 : decode cX6_write 32 = .ok (.iload_n 2, 1) := by decide +kernel
theorem dX6_write_33 : decode cX6_write 33 = .ok (.aaload, 1) := by decide +kernel
theorem dX6_write_34 : decode cX6_write 34 = .ok (.aload_n 0, 1) := by decide +kernel
theorem dX6_write_35 : decode cX6_write 35 = .ok (.getfield 11, 3) := by decide +kernel
theorem dX6_write_38 : decode cX6_write 38 = .ok (.iload_n 1, 1) := by decide +kernel
theorem dX6_write_39 : decode cX6_write 39 = .ok (.aaload, 1) := by decide +kernel
theorem dX6_write_40 : decode cX6_write 40 = .ok (.aload_n 0, 1) := by decide +kernel
theorem dX6_write_41 : decode cX6_write 41 = .ok (.getfield 24, 3) := by decide +kernel
theorem dX6_write_44 : decode cX6_write 44 = .ok (.invokevirtual 117, 3) := by decide +kernel
theorem dX6_write_47 : decode cX6_write 47 = .ok (.aload_n 0, 1) := by decide +kernel
theorem dX6_write_48 : decode cX6_write 48 = .ok (.getfield 24, 3) := by decide +kernel
theorem dX6_write_51 : decode cX6_write 51 = .ok (.invokevirtual 121, 3) := by decide +kernel
theorem dX6_write_54 : decode cX6_write 54 = .ok (.ireturn, 1) := by decide +kernel
theorem dX6_read_0 : decode cX6_read 0 = .ok (.iload_n 1, 1) := by decide +kernel
theorem dX6_read_1 : decode cX6_read 1 = .ok (.invokestatic 42, 3) := by decide +kernel
theorem dX6_read_4 : decode cX6_read 4 = .ok (.ifCond .ne 6, 3) := by decide +kernel
theorem dX6_read_7 : decode cX6_read 7 = .ok (.bipush (-2), 2) := by decide +kernel
theorem dX6_read_9 : decode cX6_read 9 = .ok (.ireturn, 1) := by decide +kernel
theorem dX6_read_10 : decode cX6_read 10 = .ok (.iload_n 2, 1) := by decide +kernel
theorem dX6_read_11 : decode cX6_read 11 = .ok (.invokestatic 108, 3) := by decide +kernel
theorem dX6_read_14 : decode cX6_read 14 = .ok (.ifCond .ne 6, 3) := by decide +kernel
theorem dX6_read_17 : decode cX6_read 17 = .ok (.bipush (-3), 2) := by decide +kernel
theorem dX6_read_19 : decode cX6_read 19 = .ok (.ireturn, 1) := by decide +kernel
theorem dX6_read_20 : decode cX6_read 20 = .ok (.aload_n 0, 1) := by decide +kernel
theorem dX6_read_21 : decode cX6_read 21 = .ok (.getfield 17, 3) := by decide +kernel
theorem dX6_read_24 : decode cX6_read 24 = .ok (.iload_n 2, 1) := by decide +kernel
theorem dX6_read_25 : decode cX6_read 25 = .ok (.aaload, 1) := by decide +kernel
theorem dX6_read_26 : decode cX6_read 26 = .ok (.aload_n 0, 1) := by decide +kernel
theorem dX6_read_27 : decode cX6_read 27 = .ok (.getfield 24, 3) := by decide +kernel
theorem dX6_read_30 : decode cX6_read 30 = .ok (.aload_n 0, 1) := by decide +kernel
theorem dX6_read_31 : decode cX6_read 31 = .ok (.getfield 29, 3) := by decide +kernel
theorem dX6_read_34 : decode cX6_read 34 = .ok (.invokevirtual 124, 3) := by decide +kernel
theorem dX6_read_37 : decode cX6_read 37 = .ok (.ifCond .ne 5, 3) := by decide +kernel
theorem dX6_read_40 : decode cX6_read 40 = .ok (.iconst (-1), 1) := by decide +kernel
theorem dX6_read_41 : decode cX6_read 41 = .ok (.ireturn, 1) := by decide +kernel
theorem dX6_read_42 : decode cX6_read 42 = .ok (.aload_n 0, 1) := by decide +kernel
theorem dX6_read_43 : decode cX6_read 43 = .ok (.getfield 11, 3) := by decide +kernel
theorem dX6_read_46 : decode cX6_read 46 = .ok (.iload_n 1, 1) := by decide +kernel
theorem dX6_read_47 : decode cX6_read 47 = .ok (.aaload, 1) := by decide +kernel
theorem dX6_read_48 : decode cX6_read 48 = .ok (.aload_n 0, 1) := by decide +kernel
theorem dX6_read_49 : decode cX6_read 49 = .ok (.getfield 29, 3) := by decide +kernel
theorem dX6_read_52 : decode cX6_read 52 = .ok (.invokevirtual 128, 3) := by decide +kernel
theorem dX6_read_55 : decode cX6_read 55 = .ok (.aload_n 0, 1) := by decide +kernel
theorem dX6_read_56 : decode cX6_read 56 = .ok (.getfield 29, 3) := by decide +kernel
theorem dX6_read_59 : decode cX6_read 59 = .ok (.invokevirtual 75, 3) := by decide +kernel
theorem dX6_read_62 : decode cX6_read 62 = .ok (.ireturn, 1) := by decide +kernel
theorem dX6_ask_0 : decode cX6_ask 0 = .ok (.iload_n 1, 1) := by decide +kernel
theorem dX6_ask_1 : decode cX6_ask 1 = .ok (.invokestatic 108, 3) := by decide +kernel
theorem dX6_ask_4 : decode cX6_ask 4 = .ok (.ifCond .ne 6, 3) := by decide +kernel
theorem dX6_ask_7 : decode cX6_ask 7 = .ok (.bipush (-3), 2) := by decide +kernel
theorem dX6_ask_9 : decode cX6_ask 9 = .ok (.ireturn, 1) := by decide +kernel
theorem dX6_ask_10 : decode cX6_ask 10 = .ok (.aload_n 0, 1) := by decide +kernel
theorem dX6_ask_11 : decode cX6_ask 11 = .ok (.getfield 17, 3) := by decide +kernel
theorem dX6_ask_14 : decode cX6_ask 14 = .ok (.iload_n 1, 1) := by decide +kernel
theorem dX6_ask_15 : decode cX6_ask 15 = .ok (.aaload, 1) := by decide +kernel
theorem dX6_ask_16 : decode cX6_ask 16 = .ok (.aload_n 0, 1) := by decide +kernel
theorem dX6_ask_17 : decode cX6_ask 17 = .ok (.getfield 24, 3) := by decide +kernel
theorem dX6_ask_20 : decode cX6_ask 20 = .ok (.aload_n 0, 1) := by decide +kernel
theorem dX6_ask_21 : decode cX6_ask 21 = .ok (.getfield 29, 3) := by decide +kernel
theorem dX6_ask_24 : decode cX6_ask 24 = .ok (.invokevirtual 124, 3) := by decide +kernel
theorem dX6_ask_27 : decode cX6_ask 27 = .ok (.ifCond .ne 5, 3) := by decide +kernel
theorem dX6_ask_30 : decode cX6_ask 30 = .ok (.iconst (-1), 1) := by decide +kernel
theorem dX6_ask_31 : decode cX6_ask 31 = .ok (.ireturn, 1) := by decide +kernel
theorem dX6_ask_32 : decode cX6_ask 32 = .ok (.aload_n 0, 1) := by decide +kernel
theorem dX6_ask_33 : decode cX6_ask 33 = .ok (.getfield 29, 3) := by decide +kernel
theorem dX6_ask_36 : decode cX6_ask 36 = .ok (.iload_n 2, 1) := by decide +kernel
theorem dX6_ask_37 : decode cX6_ask 37 = .ok (.invokevirtual 86, 3) := by decide +kernel
theorem dX6_ask_40 : decode cX6_ask 40 = .ok (.ireturn, 1) := by decide +kernel
theorem dX6_sign_0 : decode cX6_sign 0 = .ok (.aload_n 0, 1) := by decide +kernel
theorem dX6_sign_1 : decode cX6_sign 1 = .ok (.getfield 24, 3) := by decide +kernel
theorem dX6_sign_4 : decode cX6_sign 4 = .ok (.invokevirtual 121, 3) := by decide +kernel
theorem dX6_sign_7 : decode cX6_sign 7 = .ok (.sipush 8210, 3) := by decide +kernel
theorem dX6_sign_10 : decode cX6_sign 10 = .ok (.if_icmp .lt 6, 3) := by decide +kernel
theorem dX6_sign_13 : decode cX6_sign 13 = .ok (.bipush (-4), 2) := by decide +kernel
theorem dX6_sign_15 : decode cX6_sign 15 = .ok (.ireturn, 1) := by decide +kernel
theorem dX6_sign_16 : decode cX6_sign 16 = .ok (.aload_n 0, 1) := by decide +kernel
theorem dX6_sign_17 : decode cX6_sign 17 = .ok (.getfield 24, 3) := by decide +kernel
theorem dX6_sign_20 : decode cX6_sign 20 = .ok (.iload_n 1, 1) := by decide +kernel
theorem dX6_sign_21 : decode cX6_sign 21 = .ok (.ifCond .eq 7, 3) := by decide +kernel
theorem dX6_sign_24 : decode cX6_sign 24 = .ok (.iconst 1, 1) := by decide +kernel
theorem dX6_sign_25 : decode cX6_sign 25 = .ok (.goto 4, 3) := by decide +kernel
theorem dX6_sign_28 : decode cX6_sign 28 = .ok (.iconst 0, 1) := by decide +kernel
theorem dX6_sign_29 : decode cX6_sign 29 = .ok (.iconst 1, 1) := by decide +kernel
theorem dX6_sign_30 : decode cX6_sign 30 = .ok (.invokevirtual 132, 3) := by decide +kernel
theorem dX6_sign_33 : decode cX6_sign 33 = .ok (.aload_n 0, 1) := by decide +kernel
theorem dX6_sign_34 : decode cX6_sign 34 = .ok (.getfield 24, 3) := by decide +kernel
theorem dX6_sign_37 : decode cX6_sign 37 = .ok (.invokevirtual 121, 3) := by decide +kernel
theorem dX6_sign_40 : decode cX6_sign 40 = .ok (.ireturn, 1) := by decide +kernel
theorem dX6_cut_0 : decode cX6_cut 0 = .ok (.aload_n 0, 1) := by decide +kernel
theorem dX6_cut_1 : decode cX6_cut 1 = .ok (.getfield 24, 3) := by decide +kernel
theorem dX6_cut_4 : decode cX6_cut 4 = .ok (.invokevirtual 121, 3) := by decide +kernel
theorem dX6_cut_7 : decode cX6_cut 7 = .ok (.istore_n 2, 1) := by decide +kernel
theorem dX6_cut_8 : decode cX6_cut 8 = .ok (.iload_n 1, 1) := by decide +kernel
theorem dX6_cut_9 : decode cX6_cut 9 = .ok (.ifCond .lt 8, 3) := by decide +kernel
theorem dX6_cut_12 : decode cX6_cut 12 = .ok (.iload_n 1, 1) := by decide +kernel
theorem dX6_cut_13 : decode cX6_cut 13 = .ok (.iload_n 2, 1) := by decide +kernel
theorem dX6_cut_14 : decode cX6_cut 14 = .ok (.if_icmp .le 6, 3) := by decide +kernel
theorem dX6_cut_17 : decode cX6_cut 17 = .ok (.bipush (-3), 2) := by decide +kernel
theorem dX6_cut_19 : decode cX6_cut 19 = .ok (.ireturn, 1) := by decide +kernel
theorem dX6_cut_20 : decode cX6_cut 20 = .ok (.aload_n 0, 1) := by decide +kernel
theorem dX6_cut_21 : decode cX6_cut 21 = .ok (.getfield 24, 3) := by decide +kernel
theorem dX6_cut_24 : decode cX6_cut 24 = .ok (.iload_n 1, 1) := by decide +kernel
theorem dX6_cut_25 : decode cX6_cut 25 = .ok (.invokevirtual 114, 3) := by decide +kernel
theorem dX6_cut_28 : decode cX6_cut 28 = .ok (.iload_n 2, 1) := by decide +kernel
theorem dX6_cut_29 : decode cX6_cut 29 = .ok (.iload_n 1, 1) := by decide +kernel
theorem dX6_cut_30 : decode cX6_cut 30 = .ok (.isub, 1) := by decide +kernel
theorem dX6_cut_31 : decode cX6_cut 31 = .ok (.ireturn, 1) := by decide +kernel
theorem dX6_flip_0 : decode cX6_flip 0 = .ok (.aload_n 0, 1) := by decide +kernel
theorem dX6_flip_1 : decode cX6_flip 1 = .ok (.getfield 24, 3) := by decide +kernel
theorem dX6_flip_4 : decode cX6_flip 4 = .ok (.iload_n 1, 1) := by decide +kernel
theorem dX6_flip_5 : decode cX6_flip 5 = .ok (.invokevirtual 135, 3) := by decide +kernel
theorem dX6_flip_8 : decode cX6_flip 8 = .ok (.ifCond .ne 5, 3) := by decide +kernel
theorem dX6_flip_11 : decode cX6_flip 11 = .ok (.iconst (-1), 1) := by decide +kernel
theorem dX6_flip_12 : decode cX6_flip 12 = .ok (.ireturn, 1) := by decide +kernel
theorem dX6_flip_13 : decode cX6_flip 13 = .ok (.aload_n 0, 1) := by decide +kernel
theorem dX6_flip_14 : decode cX6_flip 14 = .ok (.getfield 24, 3) := by decide +kernel
theorem dX6_flip_17 : decode cX6_flip 17 = .ok (.iload_n 1, 1) := by decide +kernel
theorem dX6_flip_18 : decode cX6_flip 18 = .ok (.invokevirtual 138, 3) := by decide +kernel
theorem dX6_flip_21 : decode cX6_flip 21 = .ok (.aload_n 0, 1) := by decide +kernel
theorem dX6_flip_22 : decode cX6_flip 22 = .ok (.getfield 24, 3) := by decide +kernel
theorem dX6_flip_25 : decode cX6_flip 25 = .ok (.iload_n 1, 1) := by decide +kernel
theorem dX6_flip_26 : decode cX6_flip 26 = .ok (.invokevirtual 141, 3) := by decide +kernel
theorem dX6_flip_29 : decode cX6_flip 29 = .ok (.ireturn, 1) := by decide +kernel
theorem dX6_bit_0 : decode cX6_bit 0 = .ok (.aload_n 0, 1) := by decide +kernel
theorem dX6_bit_1 : decode cX6_bit 1 = .ok (.getfield 24, 3) := by decide +kernel
theorem dX6_bit_4 : decode cX6_bit 4 = .ok (.iload_n 1, 1) := by decide +kernel
theorem dX6_bit_5 : decode cX6_bit 5 = .ok (.invokevirtual 135, 3) := by decide +kernel
theorem dX6_bit_8 : decode cX6_bit 8 = .ok (.ifCond .eq 14, 3) := by decide +kernel
theorem dX6_bit_11 : decode cX6_bit 11 = .ok (.aload_n 0, 1) := by decide +kernel
theorem dX6_bit_12 : decode cX6_bit 12 = .ok (.getfield 24, 3) := by decide +kernel
theorem dX6_bit_15 : decode cX6_bit 15 = .ok (.iload_n 1, 1) := by decide +kernel
theorem dX6_bit_16 : decode cX6_bit 16 = .ok (.invokevirtual 141, 3) := by decide +kernel
theorem dX6_bit_19 : decode cX6_bit 19 = .ok (.goto 4, 3) := by decide +kernel
theorem dX6_bit_22 : decode cX6_bit 22 = .ok (.iconst (-1), 1) := by decide +kernel
theorem dX6_bit_23 : decode cX6_bit 23 = .ok (.ireturn, 1) := by decide +kernel
theorem dX6_size_0 : decode cX6_size 0 = .ok (.aload_n 0, 1) := by decide +kernel
theorem dX6_size_1 : decode cX6_size 1 = .ok (.getfield 24, 3) := by decide +kernel
theorem dX6_size_4 : decode cX6_size 4 = .ok (.invokevirtual 121, 3) := by decide +kernel
theorem dX6_size_7 : decode cX6_size 7 = .ok (.ireturn, 1) := by decide +kernel
theorem dX6_isSet_0 : decode cX6_isSet 0 = .ok (.iload_n 0, 1) := by decide +kernel
theorem dX6_isSet_1 : decode cX6_isSet 1 = .ok (.ifCond .lt 13, 3) := by decide +kernel
theorem dX6_isSet_4 : decode cX6_isSet 4 = .ok (.iload_n 0, 1) := by decide +kernel
theorem dX6_isSet_5 : decode cX6_isSet 5 = .ok (.bipush 8, 2) := by decide +kernel
theorem dX6_isSet_7 : decode cX6_isSet 7 = .ok (.if_icmp .ge 7, 3) := by decide +kernel
theorem dX6_isSet_10 : decode cX6_isSet 10 = .ok (.iconst 1, 1) := by decide +kernel
theorem dX6_isSet_11 : decode cX6_isSet 11 = .ok (.goto 4, 3) := by decide +kernel
theorem dX6_isSet_14 : decode cX6_isSet 14 = .ok (.iconst 0, 1) := by decide +kernel
theorem dX6_isSet_15 : decode cX6_isSet 15 = .ok (.ireturn, 1) := by decide +kernel
theorem dX6_isNumber_0 : decode cX6_isNumber 0 = .ok (.iload_n 0, 1) := by decide +kernel
theorem dX6_isNumber_1 : decode cX6_isNumber 1 = .ok (.ifCond .lt 14, 3) := by decide +kernel
theorem dX6_isNumber_4 : decode cX6_isNumber 4 = .ok (.iload_n 0, 1) := by decide +kernel
theorem dX6_isNumber_5 : decode cX6_isNumber 5 = .ok (.sipush 4096, 3) := by decide +kernel
theorem dX6_isNumber_8 : decode cX6_isNumber 8 = .ok (.if_icmp .ge 7, 3) := by decide +kernel
theorem dX6_isNumber_11 : decode cX6_isNumber 11 = .ok (.iconst 1, 1) := by decide +kernel
theorem dX6_isNumber_12 : decode cX6_isNumber 12 = .ok (.goto 4, 3) := by decide +kernel
theorem dX6_isNumber_15 : decode cX6_isNumber 15 = .ok (.iconst 0, 1) := by decide +kernel
theorem dX6_isNumber_16 : decode cX6_isNumber 16 = .ok (.ireturn, 1) := by decide +kernel
theorem dX6_isBorder_0 : decode cX6_isBorder 0 = .ok (.iload_n 0, 1) := by decide +kernel
theorem dX6_isBorder_1 : decode cX6_isBorder 1 = .ok (.ifCond .lt 14, 3) := by decide +kernel
theorem dX6_isBorder_4 : decode cX6_isBorder 4 = .ok (.iload_n 0, 1) := by decide +kernel
theorem dX6_isBorder_5 : decode cX6_isBorder 5 = .ok (.sipush 4096, 3) := by decide +kernel
theorem dX6_isBorder_8 : decode cX6_isBorder 8 = .ok (.if_icmp .gt 7, 3) := by decide +kernel
theorem dX6_isBorder_11 : decode cX6_isBorder 11 = .ok (.iconst 1, 1) := by decide +kernel
theorem dX6_isBorder_12 : decode cX6_isBorder 12 = .ok (.goto 4, 3) := by decide +kernel
theorem dX6_isBorder_15 : decode cX6_isBorder 15 = .ok (.iconst 0, 1) := by decide +kernel
theorem dX6_isBorder_16 : decode cX6_isBorder 16 = .ok (.ireturn, 1) := by decide +kernel
theorem dX6_isSpan_0 : decode cX6_isSpan 0 = .ok (.iload_n 0, 1) := by decide +kernel
theorem dX6_isSpan_1 : decode cX6_isSpan 1 = .ok (.ifCond .lt 19, 3) := by decide +kernel
theorem dX6_isSpan_4 : decode cX6_isSpan 4 = .ok (.iload_n 0, 1) := by decide +kernel
theorem dX6_isSpan_5 : decode cX6_isSpan 5 = .ok (.iload_n 1, 1) := by decide +kernel
theorem dX6_isSpan_6 : decode cX6_isSpan 6 = .ok (.if_icmp .gt 14, 3) := by decide +kernel
theorem dX6_isSpan_9 : decode cX6_isSpan 9 = .ok (.iload_n 1, 1) := by decide +kernel
theorem dX6_isSpan_10 : decode cX6_isSpan 10 = .ok (.sipush 4096, 3) := by decide +kernel
theorem dX6_isSpan_13 : decode cX6_isSpan 13 = .ok (.if_icmp .ge 7, 3) := by decide +kernel
theorem dX6_isSpan_16 : decode cX6_isSpan 16 = .ok (.iconst 1, 1) := by decide +kernel
theorem dX6_isSpan_17 : decode cX6_isSpan 17 = .ok (.goto 4, 3) := by decide +kernel
theorem dX6_isSpan_20 : decode cX6_isSpan 20 = .ok (.iconst 0, 1) := by decide +kernel
theorem dX6_isSpan_21 : decode cX6_isSpan 21 = .ok (.ireturn, 1) := by decide +kernel
theorem dX6_isKind_0 : decode cX6_isKind 0 = .ok (.iload_n 0, 1) := by decide +kernel
theorem dX6_isKind_1 : decode cX6_isKind 1 = .ok (.ifCond .lt 12, 3) := by decide +kernel
theorem dX6_isKind_4 : decode cX6_isKind 4 = .ok (.iload_n 0, 1) := by decide +kernel
theorem dX6_isKind_5 : decode cX6_isKind 5 = .ok (.iconst 3, 1) := by decide +kernel
theorem dX6_isKind_6 : decode cX6_isKind 6 = .ok (.if_icmp .ge 7, 3) := by decide +kernel
theorem dX6_isKind_9 : decode cX6_isKind 9 = .ok (.iconst 1, 1) := by decide +kernel
theorem dX6_isKind_10 : decode cX6_isKind 10 = .ok (.goto 4, 3) := by decide +kernel
theorem dX6_isKind_13 : decode cX6_isKind 13 = .ok (.iconst 0, 1) := by decide +kernel
theorem dX6_isKind_14 : decode cX6_isKind 14 = .ok (.ireturn, 1) := by decide +kernel
theorem dX7_init_0 : decode cX7_init 0 = .ok (.aload_n 0, 1) := by decide +kernel
theorem dX7_init_1 : decode cX7_init 1 = .ok (.invokespecial 1, 3) := by decide +kernel
theorem dX7_init_4 : decode cX7_init 4 = .ok (.aload_n 0, 1) := by decide +kernel
theorem dX7_init_5 : decode cX7_init 5 = .ok (.ldc 7, 2) := by decide +kernel
theorem dX7_init_7 : decode cX7_init 7 = .ok (.newarray .boolean, 2) := by decide +kernel
theorem dX7_init_9 : decode cX7_init 9 = .ok (.putfield 8, 3) := by decide +kernel
theorem dX7_init_12 : decode cX7_init 12 = .ok (.aload_n 0, 1) := by decide +kernel
theorem dX7_init_13 : decode cX7_init 13 = .ok (.sipush 8210, 3) := by decide +kernel
theorem dX7_init_16 : decode cX7_init 16 = .ok (.newarray .boolean, 2) := by decide +kernel
theorem dX7_init_18 : decode cX7_init 18 = .ok (.putfield 14, 3) := by decide +kernel
theorem dX7_init_21 : decode cX7_init 21 = .ok (.return_, 1) := by decide +kernel
theorem dX7_within_0 : decode cX7_within 0 = .ok (.iload_n 0, 1) := by decide +kernel
theorem dX7_within_1 : decode cX7_within 1 = .ok (.iload_n 1, 1) := by decide +kernel
theorem dX7_within_2 : decode cX7_within 2 = .ok (.if_icmp .lt 12, 3) := by decide +kernel
theorem dX7_within_5 : decode cX7_within 5 = .ok (.iload_n 0, 1) := by decide +kernel
theorem dX7_within_6 : decode cX7_within 6 = .ok (.iload_n 2, 1) := by decide +kernel
theorem dX7_within_7 : decode cX7_within 7 = .ok (.if_icmp .gt 7, 3) := by decide +kernel
theorem dX7_within_10 : decode cX7_within 10 = .ok (.iconst 1, 1) := by decide +kernel
theorem dX7_within_11 : decode cX7_within 11 = .ok (.goto 4, 3) := by decide +kernel
theorem dX7_within_14 : decode cX7_within 14 = .ok (.iconst 0, 1) := by decide +kernel
theorem dX7_within_15 : decode cX7_within 15 = .ok (.ireturn, 1) := by decide +kernel
theorem dX7_isSet_0 : decode cX7_isSet 0 = .ok (.iload_n 0, 1) := by decide +kernel
theorem dX7_isSet_1 : decode cX7_isSet 1 = .ok (.iconst 0, 1) := by decide +kernel
theorem dX7_isSet_2 : decode cX7_isSet 2 = .ok (.bipush 7, 2) := by decide +kernel
theorem dX7_isSet_4 : decode cX7_isSet 4 = .ok (.invokestatic 17, 3) := by decide +kernel
theorem dX7_isSet_7 : decode cX7_isSet 7 = .ok (.ireturn, 1) := by decide +kernel
theorem dX7_isNumber_0 : decode cX7_isNumber 0 = .ok (.iload_n 0, 1) := by decide +kernel
theorem dX7_isNumber_1 : decode cX7_isNumber 1 = .ok (.iconst 0, 1) := by decide +kernel
theorem dX7_isNumber_2 : decode cX7_isNumber 2 = .ok (.sipush 4095, 3) := by decide +kernel
theorem dX7_isNumber_5 : decode cX7_isNumber 5 = .ok (.invokestatic 17, 3) := by decide +kernel
theorem dX7_isNumber_8 : decode cX7_isNumber 8 = .ok (.ireturn, 1) := by decide +kernel
theorem dX7_is_0 : decode cX7_is 0 = .ok (.aload_n 0, 1) := by decide +kernel
theorem dX7_is_1 : decode cX7_is 1 = .ok (.getfield 8, 3) := by decide +kernel
theorem dX7_is_4 : decode cX7_is 4 = .ok (.sipush 4096, 3) := by decide +kernel
theorem dX7_is_7 : decode cX7_is 7 = .ok (.iload_n 1, 1) := by decide +kernel
theorem dX7_is_8 : decode cX7_is 8 = .ok (.imul, 1) := by decide +kernel
theorem dX7_is_9 : decode cX7_is 9 = .ok (.iload_n 2, 1) := by decide +kernel
theorem dX7_is_10 : decode cX7_is 10 = .ok (.iadd, 1) := by decide +kernel
theorem dX7_is_11 : decode cX7_is 11 = .ok (.baload, 1) := by decide +kernel
theorem dX7_is_12 : decode cX7_is 12 = .ok (.ireturn, 1) := by decide +kernel
theorem dX7_put_0 : decode cX7_put 0 = .ok (.iload_n 1, 1) := by decide +kernel
theorem dX7_put_1 : decode cX7_put 1 = .ok (.invokestatic 21, 3) := by decide +kernel
theorem dX7_put_4 : decode cX7_put 4 = .ok (.ifCond .ne 6, 3) := by decide +kernel
theorem dX7_put_7 : decode cX7_put 7 = .ok (.bipush (-2), 2) := by decide +kernel
theorem dX7_put_9 : decode cX7_put 9 = .ok (.ireturn, 1) := by decide +kernel
theorem dX7_put_10 : decode cX7_put 10 = .ok (.iload_n 2, 1) := by decide +kernel
theorem dX7_put_11 : decode cX7_put 11 = .ok (.invokestatic 25, 3) := by decide +kernel
theorem dX7_put_14 : decode cX7_put 14 = .ok (.ifCond .ne 6, 3) := by decide +kernel
theorem dX7_put_17 : decode cX7_put 17 = .ok (.bipush (-3), 2) := by decide +kernel
theorem dX7_put_19 : decode cX7_put 19 = .ok (.ireturn, 1) := by decide +kernel
theorem dX7_put_20 : decode cX7_put 20 = .ok (.aload_n 0, 1) := by decide +kernel
theorem dX7_put_21 : decode cX7_put 21 = .ok (.iload_n 1, 1) := by decide +kernel
theorem dX7_put_22 : decode cX7_put 22 = .ok (.iload_n 2, 1) := by decide +kernel
theorem dX7_put_23 : decode cX7_put 23 = .ok (.invokevirtual 28, 3) := by decide +kernel
theorem dX7_put_26 : decode cX7_put 26 = .ok (.istore_n 3, 1) := by decide +kernel
theorem dX7_put_27 : decode cX7_put 27 = .ok (.aload_n 0, 1) := by decide +kernel
theorem dX7_put_28 : decode cX7_put 28 = .ok (.getfield 8, 3) := by decide +kernel
theorem dX7_put_31 : decode cX7_put 31 = .ok (.sipush 4096, 3) := by decide +kernel
theorem dX7_put_34 : decode cX7_put 34 = .ok (.iload_n 1, 1) := by decide +kernel
theorem dX7_put_35 : decode cX7_put 35 = .ok (.imul, 1) := by decide +kernel
theorem dX7_put_36 : decode cX7_put 36 = .ok (.iload_n 2, 1) := by decide +kernel
theorem dX7_put_37 : decode cX7_put 37 = .ok (.iadd, 1) := by decide +kernel
theorem dX7_put_38 : decode cX7_put 38 = .ok (.iconst 1, 1) := by decide +kernel
theorem dX7_put_39 : decode cX7_put 39 = .ok (.bastore, 1) := by decide +kernel
theorem dX7_put_40 : decode cX7_put 40 = .ok (.iload_n 3, 1) := by decide +kernel
theorem dX7_put_41 : decode cX7_put 41 = .ok (.ifCond .eq 7, 3) := by decide +kernel
theorem dX7_put_44 : decode cX7_put 44 = .ok (.iconst 0, 1) := by decide +kernel
theorem dX7_put_45 : decode cX7_put 45 = .ok (.goto 4, 3) := by decide +kernel
theorem dX7_put_48 : decode cX7_put 48 = .ok (.iconst 1, 1) := by decide +kernel
theorem dX7_put_49 : decode cX7_put 49 = .ok (.ireturn, 1) := by decide +kernel
theorem dX7_change_0 : decode cX7_change 0 = .ok (.iload_n 1, 1) := by decide +kernel
theorem dX7_change_1 : decode cX7_change 1 = .ok (.invokestatic 21, 3) := by decide +kernel
theorem dX7_change_4 : decode cX7_change 4 = .ok (.ifCond .ne 6, 3) := by decide +kernel
theorem dX7_change_7 : decode cX7_change 7 = .ok (.bipush (-2), 2) := by decide +kernel
theorem dX7_change_9 : decode cX7_change 9 = .ok (.ireturn, 1) := by decide +kernel
theorem dX7_change_10 : decode cX7_change 10 = .ok (.iload_n 2, 1) := by decide +kernel
theorem dX7_change_11 : decode cX7_change 11 = .ok (.invokestatic 25, 3) := by decide +kernel
theorem dX7_change_14 : decode cX7_change 14 = .ok (.ifCond .eq 15, 3) := by decide +kernel
theorem dX7_change_17 : decode cX7_change 17 = .ok (.iload_n 3, 1) := by decide +kernel
theorem dX7_change_18 : decode cX7_change 18 = .ok (.invokestatic 25, 3) := by decide +kernel
theorem dX7_change_21 : decode cX7_change 21 = .ok (.ifCond .eq 8, 3) := by decide +kernel
theorem dX7_change_24 : decode cX7_change 24 = .ok (.iload_n 2, 1) := by decide +kernel
theorem dX7_change_25 : decode cX7_change 25 = .ok (.iload_n 3, 1) := by decide +kernel
theorem dX7_change_26 : decode cX7_change 26 = .ok (.if_icmp .le 6, 3) := by decide +kernel
theorem dX7_change_29 : decode cX7_change 29 = .ok (.bipush (-3), 2) := by decide +kernel
theorem dX7_change_31 : decode cX7_change 31 = .ok (.ireturn, 1) := by decide +kernel
theorem dX7_change_32 : decode cX7_change 32 = .ok (.iconst 0, 1) := by decide +kernel
theorem dX7_change_33 : decode cX7_change 33 = .ok (.istore 5, 2) := by decide +kernel
theorem dX7_change_35 : decode cX7_change 35 = .ok (.iload_n 2, 1) := by decide +kernel
theorem dX7_change_36 : decode cX7_change 36 = .ok (.istore 6, 2) := by decide +kernel
theorem dX7_change_38 : decode cX7_change 38 = .ok (.iload 6, 2) := by decide +kernel
theorem dX7_change_40 : decode cX7_change 40 = .ok (.iload_n 3, 1) := by decide +kernel
theorem dX7_change_41 : decode cX7_change 41 = .ok (.if_icmp .gt 46, 3) := by decide +kernel
theorem dX7_change_44 : decode cX7_change 44 = .ok (.iload 5, 2) := by decide +kernel
theorem dX7_change_46 : decode cX7_change 46 = .ok (.aload_n 0, 1) := by decide +kernel
theorem dX7_change_47 : decode cX7_change 47 = .ok (.iload_n 1, 1) := by decide +kernel
theorem dX7_change_48 : decode cX7_change 48 = .ok (.iload 6, 2) := by decide +kernel
theorem dX7_change_50 : decode cX7_change 50 = .ok (.invokevirtual 28, 3) := by decide +kernel
theorem dX7_change_53 : decode cX7_change 53 = .ok (.iload 4, 2) := by decide +kernel
theorem dX7_change_55 : decode cX7_change 55 = .ok (.if_icmp .eq 7, 3) := by decide +kernel
theorem dX7_change_58 : decode cX7_change 58 = .ok (.iconst 1, 1) := by decide +kernel
theorem dX7_change_59 : decode cX7_change 59 = .ok (.goto 4, 3) := by decide +kernel
theorem dX7_change_62 : decode cX7_change 62 = .ok (.iconst 0, 1) := by decide +kernel
theorem dX7_change_63 : decode cX7_change 63 = .ok (.iadd, 1) := by decide +kernel
theorem dX7_change_64 : decode cX7_change 64 = .ok (.istore 5, 2) := by decide +kernel
theorem dX7_change_66 : decode cX7_change 66 = .ok (.aload_n 0, 1) := by decide +kernel
theorem dX7_change_67 : decode cX7_change 67 = .ok (.getfield 8, 3) := by decide +kernel
theorem dX7_change_70 : decode cX7_change 70 = .ok (.sipush 4096, 3) := by decide +kernel
theorem dX7_change_73 : decode cX7_change 73 = .ok (.iload_n 1, 1) := by decide +kernel
theorem dX7_change_74 : decode cX7_change 74 = .ok (.imul, 1) := by decide +kernel
theorem dX7_change_75 : decode cX7_change 75 = .ok (.iload 6, 2) := by decide +kernel
theorem dX7_change_77 : decode cX7_change 77 = .ok (.iadd, 1) := by decide +kernel
theorem dX7_change_78 : decode cX7_change 78 = .ok (.iload 4, 2) := by decide +kernel
theorem dX7_change_80 : decode cX7_change 80 = .ok (.bastore, 1) := by decide +kernel
theorem dX7_change_81 : decode cX7_change 81 = .ok (.iinc 6 1, 3) := by decide +kernel
theorem dX7_change_84 : decode cX7_change 84 = .ok (.goto (-46), 3) := by decide +kernel
theorem dX7_change_87 : decode cX7_change 87 = .ok (.iload 5, 2) := by decide +kernel
theorem dX7_change_89 : decode cX7_change 89 = .ok (.ireturn, 1) := by decide +kernel
theorem dX7_fill_0 : decode cX7_fill 0 = .ok (.aload_n 0, 1) := by decide +kernel
theorem dX7_fill_1 : decode cX7_fill 1 = .ok (.iload_n 1, 1) := by decide +kernel
theorem dX7_fill_2 : decode cX7_fill 2 = .ok (.iload_n 2, 1) := by decide +kernel
theorem dX7_fill_3 : decode cX7_fill 3 = .ok (.iload_n 3, 1) := by decide +kernel
theorem dX7_fill_4 : decode cX7_fill 4 = .ok (.iconst 1, 1) := by decide +kernel
theorem dX7_fill_5 : decode cX7_fill 5 = .ok (.invokevirtual 32, 3) := by decide +kernel
theorem dX7_fill_8 : decode cX7_fill 8 = .ok (.ireturn, 1) := by decide +kernel
theorem dX7_drop_0 : decode cX7_drop 0 = .ok (.aload_n 0, 1) := by decide +kernel
theorem dX7_drop_1 : decode cX7_drop 1 = .ok (.iload_n 1, 1) := by decide +kernel
theorem dX7_drop_2 : decode cX7_drop 2 = .ok (.iload_n 2, 1) := by decide +kernel
theorem dX7_drop_3 : decode cX7_drop 3 = .ok (.iload_n 3, 1) := by decide +kernel
theorem dX7_drop_4 : decode cX7_drop 4 = .ok (.iconst 0, 1) := by decide +kernel
theorem dX7_drop_5 : decode cX7_drop 5 = .ok (.invokevirtual 32, 3) := by decide +kernel
theorem dX7_drop_8 : decode cX7_drop 8 = .ok (.ireturn, 1) := by decide +kernel
theorem dX7_join_0 : decode cX7_join 0 = .ok (.iload_n 1, 1) := by decide +kernel
theorem dX7_join_1 : decode cX7_join 1 = .ok (.invokestatic 21, 3) := by decide +kernel
theorem dX7_join_4 : decode cX7_join 4 = .ok (.ifCond .eq 17, 3) := by decide +kernel
theorem dX7_join_7 : decode cX7_join 7 = .ok (.iload_n 2, 1) := by decide +kernel
theorem dX7_join_8 : decode cX7_join 8 = .ok (.invokestatic 21, 3) := by decide +kernel
theorem dX7_join_11 : decode cX7_join 11 = .ok (.ifCond .eq 10, 3) := by decide +kernel
theorem dX7_join_14 : decode cX7_join 14 = .ok (.iload_n 3, 1) := by decide +kernel
theorem dX7_join_15 : decode cX7_join 15 = .ok (.invokestatic 21, 3) := by decide +kernel
theorem dX7_join_18 : decode cX7_join 18 = .ok (.ifCond .ne 6, 3) := by decide +kernel
theorem dX7_join_21 : decode cX7_join 21 = .ok (.bipush (-2), 2) := by decide +kernel
theorem dX7_join_23 : decode cX7_join 23 = .ok (.ireturn, 1) := by decide +kernel
theorem dX7_join_24 : decode cX7_join 24 = .ok (.iload 4, 2) := by decide +kernel
theorem dX7_join_26 : decode cX7_join 26 = .ok (.iconst 0, 1) := by decide +kernel
theorem dX7_join_27 : decode cX7_join 27 = .ok (.iconst 3, 1) := by decide +kernel
theorem dX7_join_28 : decode cX7_join 28 = .ok (.invokestatic 17, 3) := by decide +kernel
theorem dX7_join_31 : decode cX7_join 31 = .ok (.ifCond .ne 6, 3) := by decide +kernel
theorem dX7_join_34 : decode cX7_join 34 = .ok (.bipush (-3), 2) := by decide +kernel
theorem dX7_join_36 : decode cX7_join 36 = .ok (.ireturn, 1) := by decide +kernel
theorem dX7_join_37 : decode cX7_join 37 = .ok (.iconst 0, 1) := by decide +kernel
theorem dX7_join_38 : decode cX7_join 38 = .ok (.istore 5, 2) := by decide +kernel
theorem dX7_join_40 : decode cX7_join 40 = .ok (.iload 5, 2) := by decide +kernel
theorem dX7_join_42 : decode cX7_join 42 = .ok (.sipush 4096, 3) := by decide +kernel
theorem dX7_join_45 : decode cX7_join 45 = .ok (.if_icmp .ge 123, 3) := by decide +kernel
