theorem dX7_join_48 : decode cX7_join 48 = .ok (.aload_n 0, 1) := by decide +kernel
theorem dX7_join_49 : decode cX7_join 49 = .ok (.iload_n 2, 1) := by decide +kernel
theorem dX7_join_50 : decode cX7_join 50 = .ok (.iload 5, 2) := by decide +kernel
theorem dX7_join_52 : decode cX7_join 52 = .ok (.invokevirtual 28, 3) := by decide +kernel
theorem dX7_join_55 : decode cX7_join 55 = .ok (.istore 6, 2) := by decide +kernel
theorem dX7_join_57 : decode cX7_join 57 = .ok (.aload_n 0, 1) := by decide +kernel
theorem dX7_join_58 : decode cX7_join 58 = .ok (.iload_n 3, 1) := by decide +kernel
theorem dX7_join_59 : decode cX7_join 59 = .ok (.iload 5, 2) := by decide +kernel
theorem dX7_join_61 : decode cX7_join 61 = .ok (.invokevirtual 28, 3) := by decide +kernel
theorem dX7_join_64 : decode cX7_join 64 = .ok (.istore 7, 2) := by decide +kernel
theorem dX7_join_66 : decode cX7_join 66 = .ok (.aload_n 0, 1) := by decide +kernel
theorem dX7_join_67 : decode cX7_join 67 = .ok (.getfield 8, 3) := by decide +kernel
theorem dX7_join_70 : decode cX7_join 70 = .ok (.sipush 4096, 3) := by decide +kernel
theorem dX7_join_73 : decode cX7_join 73 = .ok (.iload_n 1, 1) := by decide +kernel
theorem dX7_join_74 : decode cX7_join 74 = .ok (.imul, 1) := by decide +kernel
theorem dX7_join_75 : decode cX7_join 75 = .ok (.iload 5, 2) := by decide +kernel
theorem dX7_join_77 : decode cX7_join 77 = .ok (.iadd, 1) := by decide +kernel
theorem dX7_join_78 : decode cX7_join 78 = .ok (.iload 4, 2) := by decide +kernel
theorem dX7_join_80 : decode cX7_join 80 = .ok (.ifCond .ne 21, 3) := by decide +kernel
theorem dX7_join_83 : decode cX7_join 83 = .ok (.iload 6, 2) := by decide +kernel
theorem dX7_join_85 : decode cX7_join 85 = .ok (.ifCond .eq 12, 3) := by decide +kernel
theorem dX7_join_88 : decode cX7_join 88 = .ok (.iload 7, 2) := by decide +kernel
theorem dX7_join_90 : decode cX7_join 90 = .ok (.ifCond .eq 7, 3) := by decide +kernel
theorem dX7_join_93 : decode cX7_join 93 = .ok (.iconst 1, 1) := by decide +kernel
theorem dX7_join_94 : decode cX7_join 94 = .ok (.goto 67, 3) := by decide +kernel
theorem dX7_join_97 : decode cX7_join 97 = .ok (.iconst 0, 1) := by decide +kernel
theorem dX7_join_98 : decode cX7_join 98 = .ok (.goto 63, 3) := by decide +kernel
theorem dX7_join_101 : decode cX7_join 101 = .ok (.iload 4, 2) := by decide +kernel
theorem dX7_join_103 : decode cX7_join 103 = .ok (.iconst 1, 1) := by decide +kernel
theorem dX7_join_104 : decode cX7_join 104 = .ok (.if_icmp .ne 21, 3) := by decide +kernel
theorem dX7_join_107 : decode cX7_join 107 = .ok (.iload 6, 2) := by decide +kernel
theorem dX7_join_109 : decode cX7_join 109 = .ok (.ifCond .ne 8, 3) := by decide +kernel
theorem dX7_join_112 : decode cX7_join 112 = .ok (.iload 7, 2) := by decide +kernel
theorem dX7_join_114 : decode cX7_join 114 = .ok (.ifCond .eq 7, 3) := by decide +kernel
theorem dX7_join_117 : decode cX7_join 117 = .ok (.iconst 1, 1) := by decide +kernel
theorem dX7_join_118 : decode cX7_join 118 = .ok (.goto 43, 3) := by decide +kernel
theorem dX7_join_121 : decode cX7_join 121 = .ok (.iconst 0, 1) := by decide +kernel
theorem dX7_join_122 : decode cX7_join 122 = .ok (.goto 39, 3) := by decide +kernel
theorem dX7_join_125 : decode cX7_join 125 = .ok (.iload 4, 2) := by decide +kernel
theorem dX7_join_127 : decode cX7_join 127 = .ok (.iconst 2, 1) := by decide +kernel
theorem dX7_join_128 : decode cX7_join 128 = .ok (.if_icmp .ne 21, 3) := by decide +kernel
theorem dX7_join_131 : decode cX7_join 131 = .ok (.iload 6, 2) := by decide +kernel
theorem dX7_join_133 : decode cX7_join 133 = .ok (.ifCond .eq 12, 3) := by decide +kernel
theorem dX7_join_136 : decode cX7_join 136 = .ok (.iload 7, 2) := by decide +kernel
theorem dX7_join_138 : decode cX7_join 138 = .ok (.ifCond .ne 7, 3) := by decide +kernel
theorem dX7_join_141 : decode cX7_join 141 = .ok (.iconst 1, 1) := by decide +kernel
theorem dX7_join_142 : decode cX7_join 142 = .ok (.goto 19, 3) := by decide +kernel
theorem dX7_join_145 : decode cX7_join 145 = .ok (.iconst 0, 1) := by decide +kernel
theorem dX7_join_146 : decode cX7_join 146 = .ok (.goto 15, 3) := by decide +kernel
theorem dX7_join_149 : decode cX7_join 149 = .ok (.iload 6, 2) := by decide +kernel
theorem dX7_join_151 : decode cX7_join 151 = .ok (.iload 7, 2) := by decide +kernel
theorem dX7_join_153 : decode cX7_join 153 = .ok (.if_icmp .eq 7, 3) := by decide +kernel
theorem dX7_join_156 : decode cX7_join 156 = .ok (.iconst 1, 1) := by decide +kernel
theorem dX7_join_157 : decode cX7_join 157 = .ok (.goto 4, 3) := by decide +kernel
theorem dX7_join_160 : decode cX7_join 160 = .ok (.iconst 0, 1) := by decide +kernel
theorem dX7_join_161 : decode cX7_join 161 = .ok (.bastore, 1) := by decide +kernel
theorem dX7_join_162 : decode cX7_join 162 = .ok (.iinc 5 1, 3) := by decide +kernel
theorem dX7_join_165 : decode cX7_join 165 = .ok (.goto (-125), 3) := by decide +kernel
theorem dX7_join_168 : decode cX7_join 168 = .ok (.aload_n 0, 1) := by decide +kernel
theorem dX7_join_169 : decode cX7_join 169 = .ok (.iload_n 1, 1) := by decide +kernel
theorem dX7_join_170 : decode cX7_join 170 = .ok (.iconst 0, 1) := by decide +kernel
theorem dX7_join_171 : decode cX7_join 171 = .ok (.sipush 4096, 3) := by decide +kernel
theorem dX7_join_174 : decode cX7_join 174 = .ok (.invokevirtual 36, 3) := by decide +kernel
theorem dX7_join_177 : decode cX7_join 177 = .ok (.ireturn, 1) := by decide +kernel
theorem dX7_many_0 : decode cX7_many 0 = .ok (.iconst 0, 1) := by decide +kernel
theorem dX7_many_1 : decode cX7_many 1 = .ok (.istore 4, 2) := by decide +kernel
theorem dX7_many_3 : decode cX7_many 3 = .ok (.iload_n 2, 1) := by decide +kernel
theorem dX7_many_4 : decode cX7_many 4 = .ok (.istore 5, 2) := by decide +kernel
theorem dX7_many_6 : decode cX7_many 6 = .ok (.iload 5, 2) := by decide +kernel
theorem dX7_many_8 : decode cX7_many 8 = .ok (.iload_n 3, 1) := by decide +kernel
theorem dX7_many_9 : decode cX7_many 9 = .ok (.if_icmp .ge 29, 3) := by decide +kernel
theorem dX7_many_12 : decode cX7_many 12 = .ok (.iload 4, 2) := by decide +kernel
theorem dX7_many_14 : decode cX7_many 14 = .ok (.aload_n 0, 1) := by decide +kernel
theorem dX7_many_15 : decode cX7_many 15 = .ok (.iload_n 1, 1) := by decide +kernel
theorem dX7_many_16 : decode cX7_many 16 = .ok (.iload 5, 2) := by decide +kernel
theorem dX7_many_18 : decode cX7_many 18 = .ok (.invokevirtual 28, 3) := by decide +kernel
theorem dX7_many_21 : decode cX7_many 21 = .ok (.ifCond .eq 7, 3) := by decide +kernel
theorem dX7_many_24 : decode cX7_many 24 = .ok (.iconst 1, 1) := by decide +kernel
theorem dX7_many_25 : decode cX7_many 25 = .ok (.goto 4, 3) := by decide +kernel
theorem dX7_many_28 : decode cX7_many 28 = .ok (.iconst 0, 1) := by decide +kernel
theorem dX7_many_29 : decode cX7_many 29 = .ok (.iadd, 1) := by decide +kernel
theorem dX7_many_30 : decode cX7_many 30 = .ok (.istore 4, 2) := by decide +kernel
theorem dX7_many_32 : decode cX7_many 32 = .ok (.iinc 5 1, 3) := by decide +kernel
theorem dX7_many_35 : decode cX7_many 35 = .ok (.goto (-29), 3) := by decide +kernel
theorem dX7_many_38 : decode cX7_many 38 = .ok (.iload 4, 2) := by decide +kernel
theorem dX7_many_40 : decode cX7_many 40 = .ok (.ireturn, 1) := by decide +kernel
theorem dX7_has_0 : decode cX7_has 0 = .ok (.iload_n 1, 1) := by decide +kernel
theorem dX7_has_1 : decode cX7_has 1 = .ok (.invokestatic 21, 3) := by decide +kernel
theorem dX7_has_4 : decode cX7_has 4 = .ok (.ifCond .ne 6, 3) := by decide +kernel
theorem dX7_has_7 : decode cX7_has 7 = .ok (.bipush (-2), 2) := by decide +kernel
theorem dX7_has_9 : decode cX7_has 9 = .ok (.ireturn, 1) := by decide +kernel
theorem dX7_has_10 : decode cX7_has 10 = .ok (.iload_n 2, 1) := by decide +kernel
theorem dX7_has_11 : decode cX7_has 11 = .ok (.invokestatic 25, 3) := by decide +kernel
theorem dX7_has_14 : decode cX7_has 14 = .ok (.ifCond .ne 8, 3) := by decide +kernel
theorem dX7_has_17 : decode cX7_has 17 = .ok (.bipush (-3), 2) := by decide +kernel
theorem dX7_has_19 : decode cX7_has 19 = .ok (.goto 17, 3) := by decide +kernel
theorem dX7_has_22 : decode cX7_has 22 = .ok (.aload_n 0, 1) := by decide +kernel
theorem dX7_has_23 : decode cX7_has 23 = .ok (.iload_n 1, 1) := by decide +kernel
theorem dX7_has_24 : decode cX7_has 24 = .ok (.iload_n 2, 1) := by decide +kernel
theorem dX7_has_25 : decode cX7_has 25 = .ok (.invokevirtual 28, 3) := by decide +kernel
theorem dX7_has_28 : decode cX7_has 28 = .ok (.ifCond .eq 7, 3) := by decide +kernel
theorem dX7_has_31 : decode cX7_has 31 = .ok (.iconst 1, 1) := by decide +kernel
theorem dX7_has_32 : decode cX7_has 32 = .ok (.goto 4, 3) := by decide +kernel
theorem dX7_has_35 : decode cX7_has 35 = .ok (.iconst 0, 1) := by decide +kernel
theorem dX7_has_36 : decode cX7_has 36 = .ok (.ireturn, 1) := by decide +kernel
theorem dX7_count_0 : decode cX7_count 0 = .ok (.iload_n 1, 1) := by decide +kernel
theorem dX7_count_1 : decode cX7_count 1 = .ok (.invokestatic 21, 3) := by decide +kernel
theorem dX7_count_4 : decode cX7_count 4 = .ok (.ifCond .eq 15, 3) := by decide +kernel
theorem dX7_count_7 : decode cX7_count 7 = .ok (.aload_n 0, 1) := by decide +kernel
theorem dX7_count_8 : decode cX7_count 8 = .ok (.iload_n 1, 1) := by decide +kernel
theorem dX7_count_9 : decode cX7_count 9 = .ok (.iconst 0, 1) := by decide +kernel
theorem dX7_count_10 : decode cX7_count 10 = .ok (.sipush 4096, 3) := by decide +kernel
theorem dX7_count_13 : decode cX7_count 13 = .ok (.invokevirtual 36, 3) := by decide +kernel
theorem dX7_count_16 : decode cX7_count 16 = .ok (.goto 5, 3) := by decide +kernel
theorem dX7_count_19 : decode cX7_count 19 = .ok (.bipush (-2), 2) := by decide +kernel
theorem dX7_count_21 : decode cX7_count 21 = .ok (.ireturn, 1) := by decide +kernel
theorem dX7_rank_0 : decode cX7_rank 0 = .ok (.iload_n 1, 1) := by decide +kernel
theorem dX7_rank_1 : decode cX7_rank 1 = .ok (.invokestatic 21, 3) := by decide +kernel
theorem dX7_rank_4 : decode cX7_rank 4 = .ok (.ifCond .ne 6, 3) := by decide +kernel
theorem dX7_rank_7 : decode cX7_rank 7 = .ok (.bipush (-2), 2) := by decide +kernel
theorem dX7_rank_9 : decode cX7_rank 9 = .ok (.ireturn, 1) := by decide +kernel
theorem dX7_rank_10 : decode cX7_rank 10 = .ok (.iload_n 2, 1) := by decide +kernel
theorem dX7_rank_11 : decode cX7_rank 11 = .ok (.iconst 0, 1) := by decide +kernel
theorem dX7_rank_12 : decode cX7_rank 12 = .ok (.sipush 4096, 3) := by decide +kernel
theorem dX7_rank_15 : decode cX7_rank 15 = .ok (.invokestatic 17, 3) := by decide +kernel
theorem dX7_rank_18 : decode cX7_rank 18 = .ok (.ifCond .eq 13, 3) := by decide +kernel
theorem dX7_rank_21 : decode cX7_rank 21 = .ok (.aload_n 0, 1) := by decide +kernel
theorem dX7_rank_22 : decode cX7_rank 22 = .ok (.iload_n 1, 1) := by decide +kernel
theorem dX7_rank_23 : decode cX7_rank 23 = .ok (.iconst 0, 1) := by decide +kernel
theorem dX7_rank_24 : decode cX7_rank 24 = .ok (.iload_n 2, 1) := by decide +kernel
theorem dX7_rank_25 : decode cX7_rank 25 = .ok (.invokevirtual 36, 3) := by decide +kernel
theorem dX7_rank_28 : decode cX7_rank 28 = .ok (.goto 5, 3) := by decide +kernel
theorem dX7_rank_31 : decode cX7_rank 31 = .ok (.bipush (-3), 2) := by decide +kernel
theorem dX7_rank_33 : decode cX7_rank 33 = .ok (.ireturn, 1) := by decide +kernel
theorem dX7_nth_0 : decode cX7_nth 0 = .ok (.iload_n 2, 1) := by decide +kernel
theorem dX7_nth_1 : decode cX7_nth 1 = .ok (.istore_n 3, 1) := by decide +kernel
theorem dX7_nth_2 : decode cX7_nth 2 = .ok (.iconst 0, 1) := by decide +kernel
theorem dX7_nth_3 : decode cX7_nth 3 = .ok (.istore 4, 2) := by decide +kernel
theorem dX7_nth_5 : decode cX7_nth 5 = .ok (.iload 4, 2) := by decide +kernel
theorem dX7_nth_7 : decode cX7_nth 7 = .ok (.sipush 4096, 3) := by decide +kernel
theorem dX7_nth_10 : decode cX7_nth 10 = .ok (.if_icmp .ge 33, 3) := by decide +kernel
theorem dX7_nth_13 : decode cX7_nth 13 = .ok (.iload_n 2, 1) := by decide +kernel
theorem dX7_nth_14 : decode cX7_nth 14 = .ok (.ifCond .lt 29, 3) := by decide +kernel
theorem dX7_nth_17 : decode cX7_nth 17 = .ok (.aload_n 0, 1) := by decide +kernel
theorem dX7_nth_18 : decode cX7_nth 18 = .ok (.iload_n 1, 1) := by decide +kernel
theorem dX7_nth_19 : decode cX7_nth 19 = .ok (.iload 4, 2) := by decide +kernel
theorem dX7_nth_21 : decode cX7_nth 21 = .ok (.invokevirtual 28, 3) := by decide +kernel
theorem dX7_nth_24 : decode cX7_nth 24 = .ok (.ifCond .eq 13, 3) := by decide +kernel
theorem dX7_nth_27 : decode cX7_nth 27 = .ok (.iload_n 3, 1) := by decide +kernel
theorem dX7_nth_28 : decode cX7_nth 28 = .ok (.ifCond .ne 6, 3) := by decide +kernel
theorem dX7_nth_31 : decode cX7_nth 31 = .ok (.iload 4, 2) := by decide +kernel
theorem dX7_nth_33 : decode cX7_nth 33 = .ok (.ireturn, 1) := by decide +kernel
theorem dX7_nth_34 : decode cX7_nth 34 = .ok (.iinc 3 (-1), 3) := by decide +kernel
theorem dX7_nth_37 : decode cX7_nth 37 = .ok (.iinc 4 1, 3) := by decide +kernel
theorem dX7_nth_40 : decode cX7_nth 40 = .ok (.goto (-35), 3) := by decide +kernel
theorem dX7_nth_43 : decode cX7_nth 43 = .ok (.iconst (-1), 1) := by decide +kernel
theorem dX7_nth_44 : decode cX7_nth 44 = .ok (.ireturn, 1) := by decide +kernel
theorem dX7_select_0 : decode cX7_select 0 = .ok (.iload_n 1, 1) := by decide +kernel
theorem dX7_select_1 : decode cX7_select 1 = .ok (.invokestatic 21, 3) := by decide +kernel
theorem dX7_select_4 : decode cX7_select 4 = .ok (.ifCond .eq 12, 3) := by decide +kernel
theorem dX7_select_7 : decode cX7_select 7 = .ok (.aload_n 0, 1) := by decide +kernel
theorem dX7_select_8 : decode cX7_select 8 = .ok (.iload_n 1, 1) := by decide +kernel
theorem dX7_select_9 : decode cX7_select 9 = .ok (.iload_n 2, 1) := by decide +kernel
theorem dX7_select_10 : decode cX7_select 10 = .ok (.invokevirtual 40, 3) := by decide +kernel
theorem dX7_select_13 : decode cX7_select 13 = .ok (.goto 5, 3) := by decide +kernel
theorem dX7_select_16 : decode cX7_select 16 = .ok (.bipush (-2), 2) := by decide +kernel
theorem dX7_select_18 : decode cX7_select 18 = .ok (.ireturn, 1) := by decide +kernel
theorem dX7_next_0 : decode cX7_next 0 = .ok (.iload_n 1, 1) := by decide +kernel
theorem dX7_next_1 : decode cX7_next 1 = .ok (.invokestatic 21, 3) := by decide +kernel
theorem dX7_next_4 : decode cX7_next 4 = .ok (.ifCond .ne 6, 3) := by decide +kernel
theorem dX7_next_7 : decode cX7_next 7 = .ok (.bipush (-2), 2) := by decide +kernel
theorem dX7_next_9 : decode cX7_next 9 = .ok (.ireturn, 1) := by decide +kernel
theorem dX7_next_10 : decode cX7_next 10 = .ok (.iload_n 2, 1) := by decide +kernel
theorem dX7_next_11 : decode cX7_next 11 = .ok (.iconst 0, 1) := by decide +kernel
theorem dX7_next_12 : decode cX7_next 12 = .ok (.sipush 4096, 3) := by decide +kernel
theorem dX7_next_15 : decode cX7_next 15 = .ok (.invokestatic 17, 3) := by decide +kernel
theorem dX7_next_18 : decode cX7_next 18 = .ok (.ifCond .ne 6, 3) := by decide +kernel
theorem dX7_next_21 : decode cX7_next 21 = .ok (.bipush (-3), 2) := by decide +kernel
theorem dX7_next_23 : decode cX7_next 23 = .ok (.ireturn, 1) := by decide +kernel
theorem dX7_next_24 : decode cX7_next 24 = .ok (.iload_n 2, 1) := by decide +kernel
theorem dX7_next_25 : decode cX7_next 25 = .ok (.istore_n 3, 1) := by decide +kernel
theorem dX7_next_26 : decode cX7_next 26 = .ok (.iload_n 3, 1) := by decide +kernel
theorem dX7_next_27 : decode cX7_next 27 = .ok (.sipush 4096, 3) := by decide +kernel
theorem dX7_next_30 : decode cX7_next 30 = .ok (.if_icmp .ge 18, 3) := by decide +kernel
theorem dX7_next_33 : decode cX7_next 33 = .ok (.aload_n 0, 1) := by decide +kernel
theorem dX7_next_34 : decode cX7_next 34 = .ok (.iload_n 1, 1) := by decide +kernel
theorem dX7_next_35 : decode cX7_next 35 = .ok (.iload_n 3, 1) := by decide +kernel
theorem dX7_next_36 : decode cX7_next 36 = .ok (.invokevirtual 28, 3) := by decide +kernel
theorem dX7_next_39 : decode cX7_next 39 = .ok (.ifCond .ne 9, 3) := by decide +kernel
theorem dX7_next_42 : decode cX7_next 42 = .ok (.iinc 3 1, 3) := by decide +kernel
theorem dX7_next_45 : decode cX7_next 45 = .ok (.goto (-19), 3) := by decide +kernel
theorem dX7_next_48 : decode cX7_next 48 = .ok (.iload_n 3, 1) := by decide +kernel
theorem dX7_next_49 : decode cX7_next 49 = .ok (.sipush 4096, 3) := by decide +kernel
theorem dX7_next_52 : decode cX7_next 52 = .ok (.if_icmp .ge 7, 3) := by decide +kernel
theorem dX7_next_55 : decode cX7_next 55 = .ok (.iload_n 3, 1) := by decide +kernel
theorem dX7_next_56 : decode cX7_next 56 = .ok (.goto 4, 3) := by decide +kernel
theorem dX7_next_59 : decode cX7_next 59 = .ok (.iconst (-1), 1) := by decide +kernel
theorem dX7_next_60 : decode cX7_next 60 = .ok (.ireturn, 1) := by decide +kernel
theorem dX7_before_0 : decode cX7_before 0 = .ok (.iload_n 1, 1) := by decide +kernel
theorem dX7_before_1 : decode cX7_before 1 = .ok (.invokestatic 21, 3) := by decide +kernel
theorem dX7_before_4 : decode cX7_before 4 = .ok (.ifCond .ne 6, 3) := by decide +kernel
theorem dX7_before_7 : decode cX7_before 7 = .ok (.bipush (-2), 2) := by decide +kernel
theorem dX7_before_9 : decode cX7_before 9 = .ok (.ireturn, 1) := by decide +kernel
theorem dX7_before_10 : decode cX7_before 10 = .ok (.iload_n 2, 1) := by decide +kernel
theorem dX7_before_11 : decode cX7_before 11 = .ok (.iconst 0, 1) := by decide +kernel
theorem dX7_before_12 : decode cX7_before 12 = .ok (.sipush 4096, 3) := by decide +kernel
theorem dX7_before_15 : decode cX7_before 15 = .ok (.invokestatic 17, 3) := by decide +kernel
theorem dX7_before_18 : decode cX7_before 18 = .ok (.ifCond .ne 6, 3) := by decide +kernel
theorem dX7_before_21 : decode cX7_before 21 = .ok (.bipush (-3), 2) := by decide +kernel
theorem dX7_before_23 : decode cX7_before 23 = .ok (.ireturn, 1) := by decide +kernel
theorem dX7_before_24 : decode cX7_before 24 = .ok (.iload_n 2, 1) := by decide +kernel
theorem dX7_before_25 : decode cX7_before 25 = .ok (.iconst 1, 1) := by decide +kernel
theorem dX7_before_26 : decode cX7_before 26 = .ok (.isub, 1) := by decide +kernel
theorem dX7_before_27 : decode cX7_before 27 = .ok (.istore_n 3, 1) := by decide +kernel
theorem dX7_before_28 : decode cX7_before 28 = .ok (.iload_n 3, 1) := by decide +kernel
theorem dX7_before_29 : decode cX7_before 29 = .ok (.ifCond .lt 18, 3) := by decide +kernel
theorem dX7_before_32 : decode cX7_before 32 = .ok (.aload_n 0, 1) := by decide +kernel
theorem dX7_before_33 : decode cX7_before 33 = .ok (.iload_n 1, 1) := by decide +kernel
theorem dX7_before_34 : decode cX7_before 34 = .ok (.iload_n 3, 1) := by decide +kernel
theorem dX7_before_35 : decode cX7_before 35 = .ok (.invokevirtual 28, 3) := by decide +kernel
theorem dX7_before_38 : decode cX7_before 38 = .ok (.ifCond .ne 9, 3) := by decide +kernel
theorem dX7_before_41 : decode cX7_before 41 = .ok (.iinc 3 (-1), 3) := by decide +kernel
theorem dX7_before_44 : decode cX7_before 44 = .ok (.goto (-16), 3) := by decide +kernel
theorem dX7_before_47 : decode cX7_before 47 = .ok (.iload_n 3, 1) := by decide +kernel
theorem dX7_before_48 : decode cX7_before 48 = .ok (.ireturn, 1) := by decide +kernel
theorem dX7_common_0 : decode cX7_common 0 = .ok (.iload_n 1, 1) := by decide +kernel
theorem dX7_common_1 : decode cX7_common 1 = .ok (.invokestatic 21, 3) := by decide +kernel
theorem dX7_common_4 : decode cX7_common 4 = .ok (.ifCond .eq 10, 3) := by decide +kernel
theorem dX7_common_7 : decode cX7_common 7 = .ok (.iload_n 2, 1) := by decide +kernel
theorem dX7_common_8 : decode cX7_common 8 = .ok (.invokestatic 21, 3) := by decide +kernel
theorem dX7_common_11 : decode cX7_common 11 = .ok (.ifCond .ne 6, 3) := by decide +kernel
theorem dX7_common_14 : decode cX7_common 14 = .ok (.bipush (-2), 2) := by decide +kernel
theorem dX7_common_16 : decode cX7_common 16 = .ok (.ireturn, 1) := by decide +kernel
theorem dX7_common_17 : decode cX7_common 17 = .ok (.iconst 0, 1) := by decide +kernel
theorem dX7_common_18 : decode cX7_common 18 = .ok (.istore_n 3, 1) := by decide +kernel
theorem dX7_common_19 : decode cX7_common 19 = .ok (.iconst 0, 1) := by decide +kernel
theorem dX7_common_20 : decode cX7_common 20 = .ok (.istore 4, 2) := by decide +kernel
theorem dX7_common_22 : decode cX7_common 22 = .ok (.iload 4, 2) := by decide +kernel
theorem dX7_common_24 : decode cX7_common 24 = .ok (.sipush 4096, 3) := by decide +kernel
theorem dX7_common_27 : decode cX7_common 27 = .ok (.if_icmp .ge 37, 3) := by decide +kernel
theorem dX7_common_30 : decode cX7_common 30 = .ok (.iload_n 3, 1) := by decide +kernel
theorem dX7_common_31 : decode cX7_common 31 = .ok (.aload_n 0, 1) := by decide +kernel
theorem dX7_common_32 : decode cX7_common 32 = .ok (.iload_n 1, 1) := by decide +kernel
theorem dX7_common_33 : decode cX7_common 33 = .ok (.iload 4, 2) := by decide +kernel
theorem dX7_common_35 : decode cX7_common 35 = .ok (.invokevirtual 28, 3) := by decide +kernel
theorem dX7_common_38 : decode cX7_common 38 = .ok (.ifCond .eq 17, 3) := by decide +kernel
theorem dX7_common_41 : decode cX7_common 41 = .ok (.aload_n 0, 1) := by decide +kernel
theorem dX7_common_42 : decode cX7_common 42 = .ok (.iload_n 2, 1) := by decide +kernel
theorem dX7_common_43 : decode cX7_common 43 = .ok (.iload 4, 2) := by decide +kernel
theorem dX7_common_45 : decode cX7_common 45 = .ok (.invokevirtual 28, 3) := by decide +kernel
theorem dX7_common_48 : decode cX7_common 48 = .ok (.ifCond .eq 7, 3) := by decide +kernel
theorem dX7_common_51 : decode cX7_common 51 = .ok (.iconst 1, 1) := by decide +kernel
theorem dX7_common_52 : decode cX7_common 52 = .ok (.goto 4, 3) := by decide +kernel
theorem dX7_common_55 : decode cX7_common 55 = .ok (.iconst 0, 1) := by decide +kernel
theorem dX7_common_56 : decode cX7_common 56 = .ok (.iadd, 1) := by decide +kernel
theorem dX7_common_57 : decode cX7_common 57 = .ok (.istore_n 3, 1) := by decide +kernel
theorem dX7_common_58 : decode cX7_common 58 = .ok (.iinc 4 1, 3) := by decide +kernel
theorem dX7_common_61 : decode cX7_common 61 = .ok (.goto (-39), 3) := by decide +kernel
theorem dX7_common_64 : decode cX7_common 64 = .ok (.iload_n 3, 1) := by decide +kernel
theorem dX7_common_65 : decode cX7_common 65 = .ok (.ireturn, 1) := by decide +kernel
theorem dX7_numbersOf_0 : decode cX7_numbersOf 0 = .ok (.aload_n 0, 1) := by decide +kernel
theorem dX7_numbersOf_1 : decode cX7_numbersOf 1 = .ok (.iload_n 1, 1) := by decide +kernel
theorem dX7_numbersOf_2 : decode cX7_numbersOf 2 = .ok (.sipush 256, 3) := by decide +kernel
theorem dX7_numbersOf_5 : decode cX7_numbersOf 5 = .ok (.iload_n 2, 1) := by decide +kernel
theorem dX7_numbersOf_6 : decode cX7_numbersOf 6 = .ok (.imul, 1) := by decide +kernel
theorem dX7_numbersOf_7 : decode cX7_numbersOf 7 = .ok (.sipush 256, 3) := by decide +kernel
theorem dX7_numbersOf_10 : decode cX7_numbersOf 10 = .ok (.iload_n 2, 1) := by decide +kernel
theorem dX7_numbersOf_11 : decode cX7_numbersOf 11 = .ok (.imul, 1) := by decide +kernel
theorem dX7_numbersOf_12 : decode cX7_numbersOf 12 = .ok (.sipush 256, 3) := by decide +kernel
theorem dX7_numbersOf_15 : decode cX7_numbersOf 15 = .ok (.iadd, 1) := by decide +kernel
theorem dX7_numbersOf_16 : decode cX7_numbersOf 16 = .ok (.invokevirtual 36, 3) := by decide +kernel
theorem dX7_numbersOf_19 : decode cX7_numbersOf 19 = .ok (.ireturn, 1) := by decide +kernel
theorem dX7_begins_0 : decode cX7_begins 0 = .ok (.aload_n 0, 1) := by decide +kernel
theorem dX7_begins_1 : decode cX7_begins 1 = .ok (.iload_n 1, 1) := by decide +kernel
theorem dX7_begins_2 : decode cX7_begins 2 = .ok (.iload_n 2, 1) := by decide +kernel
theorem dX7_begins_3 : decode cX7_begins 3 = .ok (.invokevirtual 28, 3) := by decide +kernel
theorem dX7_begins_6 : decode cX7_begins 6 = .ok (.ifCond .eq 26, 3) := by decide +kernel
theorem dX7_begins_9 : decode cX7_begins 9 = .ok (.iload_n 2, 1) := by decide +kernel
theorem dX7_begins_10 : decode cX7_begins 10 = .ok (.sipush 256, 3) := by decide +kernel
theorem dX7_begins_13 : decode cX7_begins 13 = .ok (.irem, 1) := by decide +kernel
theorem dX7_begins_14 : decode cX7_begins 14 = .ok (.ifCond .eq 14, 3) := by decide +kernel
theorem dX7_begins_17 : decode cX7_begins 17 = .ok (.aload_n 0, 1) := by decide +kernel
theorem dX7_begins_18 : decode cX7_begins 18 = .ok (.iload_n 1, 1) := by decide +kernel
theorem dX7_begins_19 : decode cX7_begins 19 = .ok (.iload_n 2, 1) := by decide +kernel
theorem dX7_begins_20 : decode cX7_begins 20 = .ok (.iconst 1, 1) := by decide +kernel
theorem dX7_begins_21 : decode cX7_begins 21 = .ok (.isub, 1) := by decide +kernel
theorem dX7_begins_22 : decode cX7_begins 22 = .ok (.invokevirtual 28, 3) := by decide +kernel
theorem dX7_begins_25 : decode cX7_begins 25 = .ok (.ifCond .ne 7, 3) := by decide +kernel
theorem dX7_begins_28 : decode cX7_begins 28 = .ok (.iconst 1, 1) := by decide +kernel
theorem dX7_begins_29 : decode cX7_begins 29 = .ok (.goto 4, 3) := by decide +kernel
theorem dX7_begins_32 : decode cX7_begins 32 = .ok (.iconst 0, 1) := by decide +kernel
theorem dX7_begins_33 : decode cX7_begins 33 = .ok (.ireturn, 1) := by decide +kernel
theorem dX7_runsOf_0 : decode cX7_runsOf 0 = .ok (.iconst 0, 1) := by decide +kernel
theorem dX7_runsOf_1 : decode cX7_runsOf 1 = .ok (.istore_n 3, 1) := by decide +kernel
theorem dX7_runsOf_2 : decode cX7_runsOf 2 = .ok (.sipush 256, 3) := by decide +kernel
theorem dX7_runsOf_5 : decode cX7_runsOf 5 = .ok (.iload_n 2, 1) := by decide +kernel
theorem dX7_runsOf_6 : decode cX7_runsOf 6 = .ok (.imul, 1) := by decide +kernel
theorem dX7_runsOf_7 : decode cX7_runsOf 7 = .ok (.istore 4, 2) := by decide +kernel
theorem dX7_runsOf_9 : decode cX7_runsOf 9 = .ok (.iload 4, 2) := by decide +kernel
theorem dX7_runsOf_11 : decode cX7_runsOf 11 = .ok (.sipush 256, 3) := by decide +kernel
theorem dX7_runsOf_14 : decode cX7_runsOf 14 = .ok (.iload_n 2, 1) := by decide +kernel
theorem dX7_runsOf_15 : decode cX7_runsOf 15 = .ok (.imul, 1) := by decide +kernel
theorem dX7_runsOf_16 : decode cX7_runsOf 16 = .ok (.sipush 256, 3) := by decide +kernel
theorem dX7_runsOf_19 : decode cX7_runsOf 19 = .ok (.iadd, 1) := by decide +kernel
theorem dX7_runsOf_20 : decode cX7_runsOf 20 = .ok (.if_icmp .ge 27, 3) := by decide +kernel
theorem dX7_runsOf_23 : decode cX7_runsOf 23 = .ok (.iload_n 3, 1) := by decide +kernel
theorem dX7_runsOf_24 : decode cX7_runsOf 24 = .ok (.aload_n 0, 1) := by decide +kernel
theorem dX7_runsOf_25 : decode cX7_runsOf 25 = .ok (.iload_n 1, 1) := by decide +kernel
theorem dX7_runsOf_26 : decode cX7_runsOf 26 = .ok (.iload 4, 2) := by decide +kernel
theorem dX7_runsOf_28 : decode cX7_runsOf 28 = .ok (.invokevirtual 44, 3) := by decide +kernel
theorem dX7_runsOf_31 : decode cX7_runsOf 31 = .ok (.ifCond .eq 7, 3) := by decide +kernel
theorem dX7_runsOf_34 : decode cX7_runsOf 34 = .ok (.iconst 1, 1) := by decide +kernel
theorem dX7_runsOf_35 : decode cX7_runsOf 35 = .ok (.goto 4, 3) := by decide +kernel
theorem dX7_runsOf_38 : decode cX7_runsOf 38 = .ok (.iconst 0, 1) := by decide +kernel
theorem dX7_runsOf_39 : decode cX7_runsOf 39 = .ok (.iadd, 1) := by decide +kernel
theorem dX7_runsOf_40 : decode cX7_runsOf 40 = .ok (.istore_n 3, 1) := by decide +kernel
theorem dX7_runsOf_41 : decode cX7_runsOf 41 = .ok (.iinc 4 1, 3) := by decide +kernel
theorem dX7_runsOf_44 : decode cX7_runsOf 44 = .ok (.goto (-35), 3) := by decide +kernel
theorem dX7_runsOf_47 : decode cX7_runsOf 47 = .ok (.iload_n 3, 1) := by decide +kernel
theorem dX7_runsOf_48 : decode cX7_runsOf 48 = .ok (.ireturn, 1) := by decide +kernel
theorem dX7_bitsOf_0 : decode cX7_bitsOf 0 = .ok (.bipush 8, 2) := by decide +kernel
theorem dX7_bitsOf_2 : decode cX7_bitsOf 2 = .ok (.aload_n 0, 1) := by decide +kernel
theorem dX7_bitsOf_3 : decode cX7_bitsOf 3 = .ok (.iload_n 1, 1) := by decide +kernel
theorem dX7_bitsOf_4 : decode cX7_bitsOf 4 = .ok (.iload_n 2, 1) := by decide +kernel
theorem dX7_bitsOf_5 : decode cX7_bitsOf 5 = .ok (.invokevirtual 47, 3) := by decide +kernel
theorem dX7_bitsOf_8 : decode cX7_bitsOf 8 = .ok (.imul, 1) := by decide +kernel
theorem dX7_bitsOf_9 : decode cX7_bitsOf 9 = .ok (.istore_n 3, 1) := by decide +kernel
theorem dX7_bitsOf_10 : decode cX7_bitsOf 10 = .ok (.bipush 16, 2) := by decide +kernel
theorem dX7_bitsOf_12 : decode cX7_bitsOf 12 = .ok (.aload_n 0, 1) := by decide +kernel
theorem dX7_bitsOf_13 : decode cX7_bitsOf 13 = .ok (.iload_n 1, 1) := by decide +kernel
theorem dX7_bitsOf_14 : decode cX7_bitsOf 14 = .ok (.iload_n 2, 1) := by decide +kernel
theorem dX7_bitsOf_15 : decode cX7_bitsOf 15 = .ok (.invokevirtual 50, 3) := by decide +kernel
theorem dX7_bitsOf_18 : decode cX7_bitsOf 18 = .ok (.imul, 1) := by decide +kernel
theorem dX7_bitsOf_19 : decode cX7_bitsOf 19 = .ok (.istore 4, 2) := by decide +kernel
theorem dX7_bitsOf_21 : decode cX7_bitsOf 21 = .ok (.iload_n 3, 1) := by decide +kernel
theorem dX7_bitsOf_22 : decode cX7_bitsOf 22 = .ok (.sipush 256, 3) := by decide +kernel
theorem dX7_bitsOf_25 : decode cX7_bitsOf 25 = .ok (.if_icmp .ge 7, 3) := by decide +kernel
theorem dX7_bitsOf_28 : decode cX7_bitsOf 28 = .ok (.iload_n 3, 1) := by decide +kernel
theorem dX7_bitsOf_29 : decode cX7_bitsOf 29 = .ok (.goto 6, 3) := by decide +kernel
theorem dX7_bitsOf_32 : decode cX7_bitsOf 32 = .ok (.sipush 256, 3) := by decide +kernel
theorem dX7_bitsOf_35 : decode cX7_bitsOf 35 = .ok (.istore 5, 2) := by decide +kernel
theorem dX7_bitsOf_37 : decode cX7_bitsOf 37 = .ok (.iload 4, 2) := by decide +kernel
theorem dX7_bitsOf_39 : decode cX7_bitsOf 39 = .ok (.iload 5, 2) := by decide +kernel
theorem dX7_bitsOf_41 : decode cX7_bitsOf 41 = .ok (.if_icmp .ge 8, 3) := by decide +kernel
theorem dX7_bitsOf_44 : decode cX7_bitsOf 44 = .ok (.iload 4, 2) := by decide +kernel
theorem dX7_bitsOf_46 : decode cX7_bitsOf 46 = .ok (.goto 5, 3) := by decide +kernel
theorem dX7_bitsOf_49 : decode cX7_bitsOf 49 = .ok (.iload 5, 2) := by decide +kernel
theorem dX7_bitsOf_51 : decode cX7_bitsOf 51 = .ok (.ireturn, 1) := by decide +kernel
theorem dX7_formOf_0 : decode cX7_formOf 0 = .ok (.aload_n 0, 1) := by decide +kernel
theorem dX7_formOf_1 : decode cX7_formOf 1 = .ok (.iload_n 1, 1) := by decide +kernel
theorem dX7_formOf_2 : decode cX7_formOf 2 = .ok (.iload_n 2, 1) := by decide +kernel
theorem dX7_formOf_3 : decode cX7_formOf 3 = .ok (.invokevirtual 53, 3) := by decide +kernel
theorem dX7_formOf_6 : decode cX7_formOf 6 = .ok (.istore_n 3, 1) := by decide +kernel
theorem dX7_formOf_7 : decode cX7_formOf 7 = .ok (.iload_n 3, 1) := by decide +kernel
theorem dX7_formOf_8 : decode cX7_formOf 8 = .ok (.ifCond .ne 7, 3) := by decide +kernel
theorem dX7_formOf_11 : decode cX7_formOf 11 = .ok (.iconst 3, 1) := by decide +kernel
theorem dX7_formOf_12 : decode cX7_formOf 12 = .ok (.goto 32, 3) := by decide +kernel
theorem dX7_formOf_15 : decode cX7_formOf 15 = .ok (.iload_n 3, 1) := by decide +kernel
theorem dX7_formOf_16 : decode cX7_formOf 16 = .ok (.bipush 8, 2) := by decide +kernel
theorem dX7_formOf_18 : decode cX7_formOf 18 = .ok (.aload_n 0, 1) := by decide +kernel
theorem dX7_formOf_19 : decode cX7_formOf 19 = .ok (.iload_n 1, 1) := by decide +kernel
theorem dX7_formOf_20 : decode cX7_formOf 20 = .ok (.iload_n 2, 1) := by decide +kernel
theorem dX7_formOf_21 : decode cX7_formOf 21 = .ok (.invokevirtual 47, 3) := by decide +kernel
theorem dX7_formOf_24 : decode cX7_formOf 24 = .ok (.imul, 1) := by decide +kernel
theorem dX7_formOf_25 : decode cX7_formOf 25 = .ok (.if_icmp .ne 7, 3) := by decide +kernel
theorem dX7_formOf_28 : decode cX7_formOf 28 = .ok (.iconst 0, 1) := by decide +kernel
theorem dX7_formOf_29 : decode cX7_formOf 29 = .ok (.goto 15, 3) := by decide +kernel
theorem dX7_formOf_32 : decode cX7_formOf 32 = .ok (.iload_n 3, 1) := by decide +kernel
theorem dX7_formOf_33 : decode cX7_formOf 33 = .ok (.sipush 256, 3) := by decide +kernel
theorem dX7_formOf_36 : decode cX7_formOf 36 = .ok (.if_icmp .ne 7, 3) := by decide +kernel
theorem dX7_formOf_39 : decode cX7_formOf 39 = .ok (.iconst 1, 1) := by decide +kernel
theorem dX7_formOf_40 : decode cX7_formOf 40 = .ok (.goto 4, 3) := by decide +kernel
theorem dX7_formOf_43 : decode cX7_formOf 43 = .ok (.iconst 2, 1) := by decide +kernel
theorem dX7_formOf_44 : decode cX7_formOf 44 = .ok (.ireturn, 1) := by decide +kernel
theorem dX7_piece_0 : decode cX7_piece 0 = .ok (.iload_n 1, 1) := by decide +kernel
theorem dX7_piece_1 : decode cX7_piece 1 = .ok (.invokestatic 21, 3) := by decide +kernel
theorem dX7_piece_4 : decode cX7_piece 4 = .ok (.ifCond .ne 6, 3) := by decide +kernel
theorem dX7_piece_7 : decode cX7_piece 7 = .ok (.bipush (-2), 2) := by decide +kernel
theorem dX7_piece_9 : decode cX7_piece 9 = .ok (.ireturn, 1) := by decide +kernel
theorem dX7_piece_10 : decode cX7_piece 10 = .ok (.iload_n 2, 1) := by decide +kernel
theorem dX7_piece_11 : decode cX7_piece 11 = .ok (.iconst 0, 1) := by decide +kernel
theorem dX7_piece_12 : decode cX7_piece 12 = .ok (.bipush 15, 2) := by decide +kernel
theorem dX7_piece_14 : decode cX7_piece 14 = .ok (.invokestatic 17, 3) := by decide +kernel
theorem dX7_piece_17 : decode cX7_piece 17 = .ok (.ifCond .eq 12, 3) := by decide +kernel
theorem dX7_piece_20 : decode cX7_piece 20 = .ok (.iload_n 3, 1) := by decide +kernel
theorem dX7_piece_21 : decode cX7_piece 21 = .ok (.iconst 0, 1) := by decide +kernel
theorem dX7_piece_22 : decode cX7_piece 22 = .ok (.iconst 3, 1) := by decide +kernel
theorem dX7_piece_23 : decode cX7_piece 23 = .ok (.invokestatic 17, 3) := by decide +kernel
theorem dX7_piece_26 : decode cX7_piece 26 = .ok (.ifCond .ne 6, 3) := by decide +kernel
theorem dX7_piece_29 : decode cX7_piece 29 = .ok (.bipush (-3), 2) := by decide +kernel
theorem dX7_piece_31 : decode cX7_piece 31 = .ok (.ireturn, 1) := by decide +kernel
theorem dX7_piece_32 : decode cX7_piece 32 = .ok (.iload_n 3, 1) := by decide +kernel
theorem dX7_piece_33 : decode cX7_piece 33 = .ok (.ifCond .ne 24, 3) := by decide +kernel
theorem dX7_piece_36 : decode cX7_piece 36 = .ok (.aload_n 0, 1) := by decide +kernel
theorem dX7_piece_37 : decode cX7_piece 37 = .ok (.iload_n 1, 1) := by decide +kernel
theorem dX7_piece_38 : decode cX7_piece 38 = .ok (.iload_n 2, 1) := by decide +kernel
theorem dX7_piece_39 : decode cX7_piece 39 = .ok (.invokevirtual 56, 3) := by decide +kernel
theorem dX7_piece_42 : decode cX7_piece 42 = .ok (.iconst 3, 1) := by decide +kernel
theorem dX7_piece_43 : decode cX7_piece 43 = .ok (.if_icmp .ne 7, 3) := by decide +kernel
theorem dX7_piece_46 : decode cX7_piece 46 = .ok (.iconst (-1), 1) := by decide +kernel
theorem dX7_piece_47 : decode cX7_piece 47 = .ok (.goto 9, 3) := by decide +kernel
theorem dX7_piece_50 : decode cX7_piece 50 = .ok (.aload_n 0, 1) := by decide +kernel
theorem dX7_piece_51 : decode cX7_piece 51 = .ok (.iload_n 1, 1) := by decide +kernel
theorem dX7_piece_52 : decode cX7_piece 52 = .ok (.iload_n 2, 1) := by decide +kernel
theorem dX7_piece_53 : decode cX7_piece 53 = .ok (.invokevirtual 56, 3) := by decide +kernel
theorem dX7_piece_56 : decode cX7_piece 56 = .ok (.ireturn, 1) := by decide +kernel
theorem dX7_piece_57 : decode cX7_piece 57 = .ok (.iload_n 3, 1) := by decide +kernel
theorem dX7_piece_58 : decode cX7_piece 58 = .ok (.iconst 1, 1) := by decide +kernel
theorem dX7_piece_59 : decode cX7_piece 59 = .ok (.if_icmp .ne 12, 3) := by decide +kernel
theorem dX7_piece_62 : decode cX7_piece 62 = .ok (.aload_n 0, 1) := by decide +kernel
theorem dX7_piece_63 : decode cX7_piece 63 = .ok (.iload_n 1, 1) := by decide +kernel
theorem dX7_piece_64 : decode cX7_piece 64 = .ok (.iload_n 2, 1) := by decide +kernel
theorem dX7_piece_65 : decode cX7_piece 65 = .ok (.invokevirtual 47, 3) := by decide +kernel
theorem dX7_piece_68 : decode cX7_piece 68 = .ok (.goto 23, 3) := by decide +kernel
theorem dX7_piece_71 : decode cX7_piece 71 = .ok (.iload_n 3, 1) := by decide +kernel
theorem dX7_piece_72 : decode cX7_piece 72 = .ok (.iconst 2, 1) := by decide +kernel
theorem dX7_piece_73 : decode cX7_piece 73 = .ok (.if_icmp .ne 12, 3) := by decide +kernel
theorem dX7_piece_76 : decode cX7_piece 76 = .ok (.aload_n 0, 1) := by decide +kernel
theorem dX7_piece_77 : decode cX7_piece 77 = .ok (.iload_n 1, 1) := by decide +kernel
theorem dX7_piece_78 : decode cX7_piece 78 = .ok (.iload_n 2, 1) := by decide +kernel
theorem dX7_piece_79 : decode cX7_piece 79 = .ok (.invokevirtual 50, 3) := by decide +kernel
theorem dX7_piece_82 : decode cX7_piece 82 = .ok (.goto 9, 3) := by decide +kernel
theorem dX7_piece_85 : decode cX7_piece 85 = .ok (.aload_n 0, 1) := by decide +kernel
theorem dX7_piece_86 : decode cX7_piece 86 = .ok (.iload_n 1, 1) := by decide +kernel
theorem dX7_piece_87 : decode cX7_piece 87 = .ok (.iload_n 2, 1) := by decide +kernel
theorem dX7_piece_88 : decode cX7_piece 88 = .ok (.invokevirtual 53, 3) := by decide +kernel
theorem dX7_piece_91 : decode cX7_piece 91 = .ok (.ireturn, 1) := by decide +kernel
theorem dX7_cost_0 : decode cX7_cost 0 = .ok (.iload_n 1, 1) := by decide +kernel
theorem dX7_cost_1 : decode cX7_cost 1 = .ok (.invokestatic 21, 3) := by decide +kernel
theorem dX7_cost_4 : decode cX7_cost 4 = .ok (.ifCond .ne 6, 3) := by decide +kernel
theorem dX7_cost_7 : decode cX7_cost 7 = .ok (.bipush (-2), 2) := by decide +kernel
theorem dX7_cost_9 : decode cX7_cost 9 = .ok (.ireturn, 1) := by decide +kernel
theorem dX7_cost_10 : decode cX7_cost 10 = .ok (.iconst 0, 1) := by decide +kernel
theorem dX7_cost_11 : decode cX7_cost 11 = .ok (.istore_n 2, 1) := by decide +kernel
theorem dX7_cost_12 : decode cX7_cost 12 = .ok (.iconst 0, 1) := by decide +kernel
theorem dX7_cost_13 : decode cX7_cost 13 = .ok (.istore_n 3, 1) := by decide +kernel
theorem dX7_cost_14 : decode cX7_cost 14 = .ok (.iload_n 3, 1) := by decide +kernel
theorem dX7_cost_15 : decode cX7_cost 15 = .ok (.bipush 16, 2) := by decide +kernel
theorem dX7_cost_17 : decode cX7_cost 17 = .ok (.if_icmp .ge 34, 3) := by decide +kernel
theorem dX7_cost_20 : decode cX7_cost 20 = .ok (.iload_n 2, 1) := by decide +kernel
theorem dX7_cost_21 : decode cX7_cost 21 = .ok (.aload_n 0, 1) := by decide +kernel
theorem dX7_cost_22 : decode cX7_cost 22 = .ok (.iload_n 1, 1) := by decide +kernel
theorem dX7_cost_23 : decode cX7_cost 23 = .ok (.iload_n 3, 1) := by decide +kernel
theorem dX7_cost_24 : decode cX7_cost 24 = .ok (.invokevirtual 47, 3) := by decide +kernel
theorem dX7_cost_27 : decode cX7_cost 27 = .ok (.ifCond .le 15, 3) := by decide +kernel
theorem dX7_cost_30 : decode cX7_cost 30 = .ok (.bipush 16, 2) := by decide +kernel
theorem dX7_cost_32 : decode cX7_cost 32 = .ok (.aload_n 0, 1) := by decide +kernel
theorem dX7_cost_33 : decode cX7_cost 33 = .ok (.iload_n 1, 1) := by decide +kernel
theorem dX7_cost_34 : decode cX7_cost 34 = .ok (.iload_n 3, 1) := by decide +kernel
theorem dX7_cost_35 : decode cX7_cost 35 = .ok (.invokevirtual 53, 3) := by decide +kernel
theorem dX7_cost_38 : decode cX7_cost 38 = .ok (.iadd, 1) := by decide +kernel
theorem dX7_cost_39 : decode cX7_cost 39 = .ok (.goto 4, 3) := by decide +kernel
theorem dX7_cost_42 : decode cX7_cost 42 = .ok (.iconst 0, 1) := by decide +kernel
theorem dX7_cost_43 : decode cX7_cost 43 = .ok (.iadd, 1) := by decide +kernel
theorem dX7_cost_44 : decode cX7_cost 44 = .ok (.istore_n 2, 1) := by decide +kernel
theorem dX7_cost_45 : decode cX7_cost 45 = .ok (.iinc 3 1, 3) := by decide +kernel
theorem dX7_cost_48 : decode cX7_cost 48 = .ok (.goto (-34), 3) := by decide +kernel
theorem dX7_cost_51 : decode cX7_cost 51 = .ok (.iload_n 2, 1) := by decide +kernel
theorem dX7_cost_52 : decode cX7_cost 52 = .ok (.ireturn, 1) := by decide +kernel
theorem dX7_tell_0 : decode cX7_tell 0 = .ok (.aload_n 0, 1) := by decide +kernel
theorem dX7_tell_1 : decode cX7_tell 1 = .ok (.getfield 59, 3) := by decide +kernel
theorem dX7_tell_4 : decode cX7_tell 4 = .ok (.iconst 1, 1) := by decide +kernel
theorem dX7_tell_5 : decode cX7_tell 5 = .ok (.if_icmp .ne 13, 3) := by decide +kernel
theorem dX7_tell_8 : decode cX7_tell 8 = .ok (.aload_n 0, 1) := by decide +kernel
theorem dX7_tell_9 : decode cX7_tell 9 = .ok (.getfield 14, 3) := by decide +kernel
theorem dX7_tell_12 : decode cX7_tell 12 = .ok (.aload_n 0, 1) := by decide +kernel
theorem dX7_tell_13 : decode cX7_tell 13 = .ok (.getfield 63, 3) := by decide +kernel
theorem dX7_tell_16 : decode cX7_tell 16 = .ok (.iload_n 1, 1) := by decide +kernel
theorem dX7_tell_17 : decode cX7_tell 17 = .ok (.bastore, 1) := by decide +kernel
theorem dX7_tell_18 : decode cX7_tell 18 = .ok (.aload_n 0, 1) := by decide +kernel
theorem dX7_tell_19 : decode cX7_tell 19 = .ok (.getfield 59, 3) := by decide +kernel
theorem dX7_tell_22 : decode cX7_tell 22 = .ok (.iconst 2, 1) := by decide +kernel
theorem dX7_tell_23 : decode cX7_tell 23 = .ok (.if_icmp .ne 43, 3) := by decide +kernel
theorem dX7_tell_26 : decode cX7_tell 26 = .ok (.aload_n 0, 1) := by decide +kernel
theorem dX7_tell_27 : decode cX7_tell 27 = .ok (.aload_n 0, 1) := by decide +kernel
theorem dX7_tell_28 : decode cX7_tell 28 = .ok (.getfield 66, 3) := by decide +kernel
theorem dX7_tell_31 : decode cX7_tell 31 = .ok (.ifCond .eq 31, 3) := by decide +kernel
theorem dX7_tell_34 : decode cX7_tell 34 = .ok (.aload_n 0, 1) := by decide +kernel
theorem dX7_tell_35 : decode cX7_tell 35 = .ok (.getfield 63, 3) := by decide +kernel
theorem dX7_tell_38 : decode cX7_tell 38 = .ok (.aload_n 0, 1) := by decide +kernel
theorem dX7_tell_39 : decode cX7_tell 39 = .ok (.getfield 70, 3) := by decide +kernel
theorem dX7_tell_42 : decode cX7_tell 42 = .ok (.if_icmp .ge 20, 3) := by decide +kernel
theorem dX7_tell_45 : decode cX7_tell 45 = .ok (.aload_n 0, 1) := by decide +kernel
theorem dX7_tell_46 : decode cX7_tell 46 = .ok (.getfield 14, 3) := by decide +kernel
theorem dX7_tell_49 : decode cX7_tell 49 = .ok (.aload_n 0, 1) := by decide +kernel
theorem dX7_tell_50 : decode cX7_tell 50 = .ok (.getfield 63, 3) := by decide +kernel
theorem dX7_tell_53 : decode cX7_tell 53 = .ok (.baload, 1) := by decide +kernel
theorem dX7_tell_54 : decode cX7_tell 54 = .ok (.iload_n 1, 1) := by decide +kernel
theorem dX7_tell_55 : decode cX7_tell 55 = .ok (.if_icmp .ne 7, 3) := by decide +kernel
theorem dX7_tell_58 : decode cX7_tell 58 = .ok (.iconst 1, 1) := by decide +kernel
theorem dX7_tell_59 : decode cX7_tell 59 = .ok (.goto 4, 3) := by decide +kernel
theorem dX7_tell_62 : decode cX7_tell 62 = .ok (.iconst 0, 1) := by decide +kernel
theorem dX7_tell_63 : decode cX7_tell 63 = .ok (.putfield 66, 3) := by decide +kernel
theorem dX7_tell_66 : decode cX7_tell 66 = .ok (.aload_n 0, 1) := by decide +kernel
theorem dX7_tell_67 : decode cX7_tell 67 = .ok (.dup, 1) := by decide +kernel
theorem dX7_tell_68 : decode cX7_tell 68 = .ok (.getfield 63, 3) := by decide +kernel
theorem dX7_tell_71 : decode cX7_tell 71 = .ok (.iconst 1, 1) := by decide +kernel
theorem dX7_tell_72 : decode cX7_tell 72 = .ok (.iadd, 1) := by decide +kernel
theorem dX7_tell_73 : decode cX7_tell 73 = .ok (.putfield 63, 3) := by decide +kernel
theorem dX7_tell_76 : decode cX7_tell 76 = .ok (.return_, 1) := by decide +kernel
theorem dX7_tellNumber_0 : decode cX7_tellNumber 0 = .ok (.iload_n 2, 1) := by decide +kernel
theorem dX7_tellNumber_1 : decode cX7_tellNumber 1 = .ok (.iconst 1, 1) := by decide +kernel
theorem dX7_tellNumber_2 : decode cX7_tellNumber 2 = .ok (.isub, 1) := by decide +kernel
theorem dX7_tellNumber_3 : decode cX7_tellNumber 3 = .ok (.istore_n 3, 1) := by decide +kernel
theorem dX7_tellNumber_4 : decode cX7_tellNumber 4 = .ok (.iload_n 3, 1) := by decide +kernel
theorem dX7_tellNumber_5 : decode cX7_tellNumber 5 = .ok (.ifCond .lt 27, 3) := by decide +kernel
theorem dX7_tellNumber_8 : decode cX7_tellNumber 8 = .ok (.aload_n 0, 1) := by decide +kernel
theorem dX7_tellNumber_9 : decode cX7_tellNumber 9 = .ok (.iload_n 1, 1) := by decide +kernel
theorem dX7_tellNumber_10 : decode cX7_tellNumber 10 = .ok (.iload_n 3, 1) := by decide +kernel
theorem dX7_tellNumber_11 : decode cX7_tellNumber 11 = .ok (.ishr, 1) := by decide +kernel
theorem dX7_tellNumber_12 : decode cX7_tellNumber 12 = .ok (.iconst 1, 1) := by decide +kernel
theorem dX7_tellNumber_13 : decode cX7_tellNumber 13 = .ok (.iand, 1) := by decide +kernel
theorem dX7_tellNumber_14 : decode cX7_tellNumber 14 = .ok (.iconst 1, 1) := by decide +kernel
theorem dX7_tellNumber_15 : decode cX7_tellNumber 15 = .ok (.if_icmp .ne 7, 3) := by decide +kernel
theorem dX7_tellNumber_18 : decode cX7_tellNumber 18 = .ok (.iconst 1, 1) := by decide +kernel
theorem dX7_tellNumber_19 : decode cX7_tellNumber 19 = .ok (.goto 4, 3) := by decide +kernel
theorem dX7_tellNumber_22 : decode cX7_tellNumber 22 = .ok (.iconst 0, 1) := by decide +kernel
theorem dX7_tellNumber_23 : decode cX7_tellNumber 23 = .ok (.invokevirtual 73, 3) := by decide +kernel
theorem dX7_tellNumber_26 : decode cX7_tellNumber 26 = .ok (.iinc 3 (-1), 3) := by decide +kernel
theorem dX7_tellNumber_29 : decode cX7_tellNumber 29 = .ok (.goto (-25), 3) := by decide +kernel
theorem dX7_tellNumber_32 : decode cX7_tellNumber 32 = .ok (.return_, 1) := by decide +kernel
theorem dX7_code_0 : decode cX7_code 0 = .ok (.aload_n 0, 1) := by decide +kernel
theorem dX7_code_1 : decode cX7_code 1 = .ok (.iload_n 3, 1) := by decide +kernel
theorem dX7_code_2 : decode cX7_code 2 = .ok (.putfield 59, 3) := by decide +kernel
theorem dX7_code_5 : decode cX7_code 5 = .ok (.aload_n 0, 1) := by decide +kernel
theorem dX7_code_6 : decode cX7_code 6 = .ok (.iconst 0, 1) := by decide +kernel
theorem dX7_code_7 : decode cX7_code 7 = .ok (.putfield 63, 3) := by decide +kernel
theorem dX7_code_10 : decode cX7_code 10 = .ok (.aload_n 0, 1) := by decide +kernel
theorem dX7_code_11 : decode cX7_code 11 = .ok (.iconst 1, 1) := by decide +kernel
theorem dX7_code_12 : decode cX7_code 12 = .ok (.putfield 66, 3) := by decide +kernel
theorem dX7_code_15 : decode cX7_code 15 = .ok (.iload_n 2, 1) := by decide +kernel
theorem dX7_code_16 : decode cX7_code 16 = .ok (.ifCond .ne 11, 3) := by decide +kernel
theorem dX7_code_19 : decode cX7_code 19 = .ok (.aload_n 0, 1) := by decide +kernel
theorem dX7_code_20 : decode cX7_code 20 = .ok (.iload_n 1, 1) := by decide +kernel
theorem dX7_code_21 : decode cX7_code 21 = .ok (.invokevirtual 77, 3) := by decide +kernel
theorem dX7_code_24 : decode cX7_code 24 = .ok (.goto 21, 3) := by decide +kernel
theorem dX7_code_27 : decode cX7_code 27 = .ok (.iload_n 2, 1) := by decide +kernel
theorem dX7_code_28 : decode cX7_code 28 = .ok (.iconst 1, 1) := by decide +kernel
theorem dX7_code_29 : decode cX7_code 29 = .ok (.if_icmp .ne 11, 3) := by decide +kernel
theorem dX7_code_32 : decode cX7_code 32 = .ok (.aload_n 0, 1) := by decide +kernel
theorem dX7_code_33 : decode cX7_code 33 = .ok (.iload_n 1, 1) := by decide +kernel
theorem dX7_code_34 : decode cX7_code 34 = .ok (.invokevirtual 81, 3) := by decide +kernel
theorem dX7_code_37 : decode cX7_code 37 = .ok (.goto 8, 3) := by decide +kernel
theorem dX7_code_40 : decode cX7_code 40 = .ok (.aload_n 0, 1) := by decide +kernel
theorem dX7_code_41 : decode cX7_code 41 = .ok (.iload_n 1, 1) := by decide +kernel
theorem dX7_code_42 : decode cX7_code 42 = .ok (.invokevirtual 84, 3) := by decide +kernel
theorem dX7_code_45 : decode cX7_code 45 = .ok (.aload_n 0, 1) := by decide +kernel
theorem dX7_code_46 : decode cX7_code 46 = .ok (.aload_n 0, 1) := by decide +kernel
theorem dX7_code_47 : decode cX7_code 47 = .ok (.getfield 66, 3) := by decide +kernel
theorem dX7_code_50 : decode cX7_code 50 = .ok (.ifCond .eq 18, 3) := by decide +kernel
theorem dX7_code_53 : decode cX7_code 53 = .ok (.aload_n 0, 1) := by decide +kernel
theorem dX7_code_54 : decode cX7_code 54 = .ok (.getfield 63, 3) := by decide +kernel
theorem dX7_code_57 : decode cX7_code 57 = .ok (.aload_n 0, 1) := by decide +kernel
theorem dX7_code_58 : decode cX7_code 58 = .ok (.getfield 70, 3) := by decide +kernel
theorem dX7_code_61 : decode cX7_code 61 = .ok (.if_icmp .ne 7, 3) := by decide +kernel
theorem dX7_code_64 : decode cX7_code 64 = .ok (.iconst 1, 1) := by decide +kernel
theorem dX7_code_65 : decode cX7_code 65 = .ok (.goto 4, 3) := by decide +kernel
theorem dX7_code_68 : decode cX7_code 68 = .ok (.iconst 0, 1) := by decide +kernel
theorem dX7_code_69 : decode cX7_code 69 = .ok (.putfield 66, 3) := by decide +kernel
theorem dX7_code_72 : decode cX7_code 72 = .ok (.return_, 1) := by decide +kernel
theorem dX7_lowOf_0 : decode cX7_lowOf 0 = .ok (.iconst 0, 1) := by decide +kernel
theorem dX7_lowOf_1 : decode cX7_lowOf 1 = .ok (.istore_n 1, 1) := by decide +kernel
theorem dX7_lowOf_2 : decode cX7_lowOf 2 = .ok (.iload_n 0, 1) := by decide +kernel
theorem dX7_lowOf_3 : decode cX7_lowOf 3 = .ok (.iload_n 1, 1) := by decide +kernel
theorem dX7_lowOf_4 : decode cX7_lowOf 4 = .ok (.iconst 1, 1) := by decide +kernel
theorem dX7_lowOf_5 : decode cX7_lowOf 5 = .ok (.iadd, 1) := by decide +kernel
theorem dX7_lowOf_6 : decode cX7_lowOf 6 = .ok (.ishl, 1) := by decide +kernel
theorem dX7_lowOf_7 : decode cX7_lowOf 7 = .ok (.sipush 4096, 3) := by decide +kernel
theorem dX7_lowOf_10 : decode cX7_lowOf 10 = .ok (.if_icmp .gt 9, 3) := by decide +kernel
theorem dX7_lowOf_13 : decode cX7_lowOf 13 = .ok (.iinc 1 1, 3) := by decide +kernel
theorem dX7_lowOf_16 : decode cX7_lowOf 16 = .ok (.goto (-14), 3) := by decide +kernel
theorem dX7_lowOf_19 : decode cX7_lowOf 19 = .ok (.iload_n 1, 1) := by decide +kernel
theorem dX7_lowOf_20 : decode cX7_lowOf 20 = .ok (.ireturn, 1) := by decide +kernel
theorem dX7_tellParts_0 : decode cX7_tellParts 0 = .ok (.aload_n 0, 1) := by decide +kernel
theorem dX7_tellParts_1 : decode cX7_tellParts 1 = .ok (.iload_n 1, 1) := by decide +kernel
theorem dX7_tellParts_2 : decode cX7_tellParts 2 = .ok (.iconst 0, 1) := by decide +kernel
theorem dX7_tellParts_3 : decode cX7_tellParts 3 = .ok (.sipush 4096, 3) := by decide +kernel
theorem dX7_tellParts_6 : decode cX7_tellParts 6 = .ok (.invokevirtual 36, 3) := by decide +kernel
theorem dX7_tellParts_9 : decode cX7_tellParts 9 = .ok (.istore_n 2, 1) := by decide +kernel
theorem dX7_tellParts_10 : decode cX7_tellParts 10 = .ok (.aload_n 0, 1) := by decide +kernel
theorem dX7_tellParts_11 : decode cX7_tellParts 11 = .ok (.iload_n 2, 1) := by decide +kernel
theorem dX7_tellParts_12 : decode cX7_tellParts 12 = .ok (.bipush 13, 2) := by decide +kernel
theorem dX7_tellParts_14 : decode cX7_tellParts 14 = .ok (.invokevirtual 87, 3) := by decide +kernel
theorem dX7_tellParts_17 : decode cX7_tellParts 17 = .ok (.iload_n 2, 1) := by decide +kernel
theorem dX7_tellParts_18 : decode cX7_tellParts 18 = .ok (.ifCond .ne 4, 3) := by decide +kernel
theorem dX7_tellParts_21 : decode cX7_tellParts 21 = .ok (.return_, 1) := by decide +kernel
theorem dX7_tellParts_22 : decode cX7_tellParts 22 = .ok (.iload_n 2, 1) := by decide +kernel
theorem dX7_tellParts_23 : decode cX7_tellParts 23 = .ok (.invokestatic 91, 3) := by decide +kernel
theorem dX7_tellParts_26 : decode cX7_tellParts 26 = .ok (.istore_n 3, 1) := by decide +kernel
theorem dX7_tellParts_27 : decode cX7_tellParts 27 = .ok (.iconst 0, 1) := by decide +kernel
theorem dX7_tellParts_28 : decode cX7_tellParts 28 = .ok (.istore 4, 2) := by decide +kernel
theorem dX7_tellParts_30 : decode cX7_tellParts 30 = .ok (.iload 4, 2) := by decide +kernel
theorem dX7_tellParts_32 : decode cX7_tellParts 32 = .ok (.sipush 4096, 3) := by decide +kernel
theorem dX7_tellParts_35 : decode cX7_tellParts 35 = .ok (.if_icmp .ge 26, 3) := by decide +kernel
theorem dX7_tellParts_38 : decode cX7_tellParts 38 = .ok (.aload_n 0, 1) := by decide +kernel
theorem dX7_tellParts_39 : decode cX7_tellParts 39 = .ok (.iload_n 1, 1) := by decide +kernel
theorem dX7_tellParts_40 : decode cX7_tellParts 40 = .ok (.iload 4, 2) := by decide +kernel
theorem dX7_tellParts_42 : decode cX7_tellParts 42 = .ok (.invokevirtual 28, 3) := by decide +kernel
theorem dX7_tellParts_45 : decode cX7_tellParts 45 = .ok (.ifCond .eq 10, 3) := by decide +kernel
theorem dX7_tellParts_48 : decode cX7_tellParts 48 = .ok (.aload_n 0, 1) := by decide +kernel
theorem dX7_tellParts_49 : decode cX7_tellParts 49 = .ok (.iload 4, 2) := by decide +kernel
theorem dX7_tellParts_51 : decode cX7_tellParts 51 = .ok (.iload_n 3, 1) := by decide +kernel
theorem dX7_tellParts_52 : decode cX7_tellParts 52 = .ok (.invokevirtual 87, 3) := by decide +kernel
theorem dX7_tellParts_55 : decode cX7_tellParts 55 = .ok (.iinc 4 1, 3) := by decide +kernel
theorem dX7_tellParts_58 : decode cX7_tellParts 58 = .ok (.goto (-28), 3) := by decide +kernel
theorem dX7_tellParts_61 : decode cX7_tellParts 61 = .ok (.iconst 0, 1) := by decide +kernel
theorem dX7_tellParts_62 : decode cX7_tellParts 62 = .ok (.istore 4, 2) := by decide +kernel
theorem dX7_tellParts_64 : decode cX7_tellParts 64 = .ok (.iload 4, 2) := by decide +kernel
theorem dX7_tellParts_66 : decode cX7_tellParts 66 = .ok (.sipush 4096, 3) := by decide +kernel
theorem dX7_tellParts_69 : decode cX7_tellParts 69 = .ok (.if_icmp .ge 42, 3) := by decide +kernel
theorem dX7_tellParts_72 : decode cX7_tellParts 72 = .ok (.aload_n 0, 1) := by decide +kernel
theorem dX7_tellParts_73 : decode cX7_tellParts 73 = .ok (.iload_n 1, 1) := by decide +kernel
theorem dX7_tellParts_74 : decode cX7_tellParts 74 = .ok (.iload 4, 2) := by decide +kernel
theorem dX7_tellParts_76 : decode cX7_tellParts 76 = .ok (.invokevirtual 28, 3) := by decide +kernel
theorem dX7_tellParts_79 : decode cX7_tellParts 79 = .ok (.ifCond .eq 8, 3) := by decide +kernel
theorem dX7_tellParts_82 : decode cX7_tellParts 82 = .ok (.aload_n 0, 1) := by decide +kernel
theorem dX7_tellParts_83 : decode cX7_tellParts 83 = .ok (.iconst 1, 1) := by decide +kernel
theorem dX7_tellParts_84 : decode cX7_tellParts 84 = .ok (.invokevirtual 73, 3) := by decide +kernel
theorem dX7_tellParts_87 : decode cX7_tellParts 87 = .ok (.iload 4, 2) := by decide +kernel
theorem dX7_tellParts_89 : decode cX7_tellParts 89 = .ok (.iload_n 3, 1) := by decide +kernel
theorem dX7_tellParts_90 : decode cX7_tellParts 90 = .ok (.ishr, 1) := by decide +kernel
theorem dX7_tellParts_91 : decode cX7_tellParts 91 = .ok (.iload 4, 2) := by decide +kernel
theorem dX7_tellParts_93 : decode cX7_tellParts 93 = .ok (.iconst 1, 1) := by decide +kernel
theorem dX7_tellParts_94 : decode cX7_tellParts 94 = .ok (.iadd, 1) := by decide +kernel
theorem dX7_tellParts_95 : decode cX7_tellParts 95 = .ok (.iload_n 3, 1) := by decide +kernel
theorem dX7_tellParts_96 : decode cX7_tellParts 96 = .ok (.ishr, 1) := by decide +kernel
theorem dX7_tellParts_97 : decode cX7_tellParts 97 = .ok (.if_icmp .eq 8, 3) := by decide +kernel
theorem dX7_tellParts_100 : decode cX7_tellParts 100 = .ok (.aload_n 0, 1) := by decide +kernel
theorem dX7_tellParts_101 : decode cX7_tellParts 101 = .ok (.iconst 0, 1) := by decide +kernel
theorem dX7_tellParts_102 : decode cX7_tellParts 102 = .ok (.invokevirtual 73, 3) := by decide +kernel
theorem dX7_tellParts_105 : decode cX7_tellParts 105 = .ok (.iinc 4 1, 3) := by decide +kernel
theorem dX7_tellParts_108 : decode cX7_tellParts 108 = .ok (.goto (-44), 3) := by decide +kernel
theorem dX7_tellParts_111 : decode cX7_tellParts 111 = .ok (.return_, 1) := by decide +kernel
theorem dX7_tellGaps_0 : decode cX7_tellGaps 0 = .ok (.aload_n 0, 1) := by decide +kernel
theorem dX7_tellGaps_1 : decode cX7_tellGaps 1 = .ok (.aload_n 0, 1) := by decide +kernel
theorem dX7_tellGaps_2 : decode cX7_tellGaps 2 = .ok (.iload_n 1, 1) := by decide +kernel
theorem dX7_tellGaps_3 : decode cX7_tellGaps 3 = .ok (.iconst 0, 1) := by decide +kernel
theorem dX7_tellGaps_4 : decode cX7_tellGaps 4 = .ok (.sipush 4096, 3) := by decide +kernel
theorem dX7_tellGaps_7 : decode cX7_tellGaps 7 = .ok (.invokevirtual 36, 3) := by decide +kernel
theorem dX7_tellGaps_10 : decode cX7_tellGaps 10 = .ok (.bipush 13, 2) := by decide +kernel
theorem dX7_tellGaps_12 : decode cX7_tellGaps 12 = .ok (.invokevirtual 87, 3) := by decide +kernel
theorem dX7_tellGaps_15 : decode cX7_tellGaps 15 = .ok (.iconst (-1), 1) := by decide +kernel
theorem dX7_tellGaps_16 : decode cX7_tellGaps 16 = .ok (.istore_n 2, 1) := by decide +kernel
theorem dX7_tellGaps_17 : decode cX7_tellGaps 17 = .ok (.iconst 0, 1) := by decide +kernel
theorem dX7_tellGaps_18 : decode cX7_tellGaps 18 = .ok (.istore_n 3, 1) := by decide +kernel
theorem dX7_tellGaps_19 : decode cX7_tellGaps 19 = .ok (.iload_n 3, 1) := by decide +kernel
theorem dX7_tellGaps_20 : decode cX7_tellGaps 20 = .ok (.sipush 4096, 3) := by decide +kernel
theorem dX7_tellGaps_23 : decode cX7_tellGaps 23 = .ok (.if_icmp .ge 52, 3) := by decide +kernel
theorem dX7_tellGaps_26 : decode cX7_tellGaps 26 = .ok (.aload_n 0, 1) := by decide +kernel
theorem dX7_tellGaps_27 : decode cX7_tellGaps 27 = .ok (.iload_n 1, 1) := by decide +kernel
theorem dX7_tellGaps_28 : decode cX7_tellGaps 28 = .ok (.iload_n 3, 1) := by decide +kernel
theorem dX7_tellGaps_29 : decode cX7_tellGaps 29 = .ok (.invokevirtual 28, 3) := by decide +kernel
theorem dX7_tellGaps_32 : decode cX7_tellGaps 32 = .ok (.ifCond .eq 37, 3) := by decide +kernel
theorem dX7_tellGaps_35 : decode cX7_tellGaps 35 = .ok (.iconst 1, 1) := by decide +kernel
theorem dX7_tellGaps_36 : decode cX7_tellGaps 36 = .ok (.istore 4, 2) := by decide +kernel
theorem dX7_tellGaps_38 : decode cX7_tellGaps 38 = .ok (.iconst 1, 1) := by decide +kernel
theorem dX7_tellGaps_39 : decode cX7_tellGaps 39 = .ok (.iload 4, 2) := by decide +kernel
theorem dX7_tellGaps_41 : decode cX7_tellGaps 41 = .ok (.ishl, 1) := by decide +kernel
theorem dX7_tellGaps_42 : decode cX7_tellGaps 42 = .ok (.iload_n 3, 1) := by decide +kernel
theorem dX7_tellGaps_43 : decode cX7_tellGaps 43 = .ok (.iload_n 2, 1) := by decide +kernel
theorem dX7_tellGaps_44 : decode cX7_tellGaps 44 = .ok (.isub, 1) := by decide +kernel
theorem dX7_tellGaps_45 : decode cX7_tellGaps 45 = .ok (.if_icmp .gt 9, 3) := by decide +kernel
theorem dX7_tellGaps_48 : decode cX7_tellGaps 48 = .ok (.iinc 4 1, 3) := by decide +kernel
theorem dX7_tellGaps_51 : decode cX7_tellGaps 51 = .ok (.goto (-13), 3) := by decide +kernel
theorem dX7_tellGaps_54 : decode cX7_tellGaps 54 = .ok (.aload_n 0, 1) := by decide +kernel
theorem dX7_tellGaps_55 : decode cX7_tellGaps 55 = .ok (.iload_n 3, 1) := by decide +kernel
theorem dX7_tellGaps_56 : decode cX7_tellGaps 56 = .ok (.iload_n 2, 1) := by decide +kernel
theorem dX7_tellGaps_57 : decode cX7_tellGaps 57 = .ok (.isub, 1) := by decide +kernel
theorem dX7_tellGaps_58 : decode cX7_tellGaps 58 = .ok (.iconst 2, 1) := by decide +kernel
theorem dX7_tellGaps_59 : decode cX7_tellGaps 59 = .ok (.iload 4, 2) := by decide +kernel
theorem dX7_tellGaps_61 : decode cX7_tellGaps 61 = .ok (.imul, 1) := by decide +kernel
theorem dX7_tellGaps_62 : decode cX7_tellGaps 62 = .ok (.iconst 1, 1) := by decide +kernel
theorem dX7_tellGaps_63 : decode cX7_tellGaps 63 = .ok (.isub, 1) := by decide +kernel
theorem dX7_tellGaps_64 : decode cX7_tellGaps 64 = .ok (.invokevirtual 87, 3) := by decide +kernel
theorem dX7_tellGaps_67 : decode cX7_tellGaps 67 = .ok (.iload_n 3, 1) := by decide +kernel
theorem dX7_tellGaps_68 : decode cX7_tellGaps 68 = .ok (.istore_n 2, 1) := by decide +kernel
theorem dX7_tellGaps_69 : decode cX7_tellGaps 69 = .ok (.iinc 3 1, 3) := by decide +kernel
theorem dX7_tellGaps_72 : decode cX7_tellGaps 72 = .ok (.goto (-53), 3) := by decide +kernel
theorem dX7_tellGaps_75 : decode cX7_tellGaps 75 = .ok (.return_, 1) := by decide +kernel
theorem dX7_tellPieces_0 : decode cX7_tellPieces 0 = .ok (.iconst 0, 1) := by decide +kernel
theorem dX7_tellPieces_1 : decode cX7_tellPieces 1 = .ok (.istore_n 2, 1) := by decide +kernel
theorem dX7_tellPieces_2 : decode cX7_tellPieces 2 = .ok (.iload_n 2, 1) := by decide +kernel
theorem dX7_tellPieces_3 : decode cX7_tellPieces 3 = .ok (.bipush 16, 2) := by decide +kernel
theorem dX7_tellPieces_5 : decode cX7_tellPieces 5 = .ok (.if_icmp .ge 165, 3) := by decide +kernel
theorem dX7_tellPieces_8 : decode cX7_tellPieces 8 = .ok (.aload_n 0, 1) := by decide +kernel
theorem dX7_tellPieces_9 : decode cX7_tellPieces 9 = .ok (.iload_n 1, 1) := by decide +kernel
theorem dX7_tellPieces_10 : decode cX7_tellPieces 10 = .ok (.iload_n 2, 1) := by decide +kernel
theorem dX7_tellPieces_11 : decode cX7_tellPieces 11 = .ok (.invokevirtual 56, 3) := by decide +kernel
theorem dX7_tellPieces_14 : decode cX7_tellPieces 14 = .ok (.istore_n 3, 1) := by decide +kernel
theorem dX7_tellPieces_15 : decode cX7_tellPieces 15 = .ok (.aload_n 0, 1) := by decide +kernel
theorem dX7_tellPieces_16 : decode cX7_tellPieces 16 = .ok (.iload_n 3, 1) := by decide +kernel
theorem dX7_tellPieces_17 : decode cX7_tellPieces 17 = .ok (.iconst 2, 1) := by decide +kernel
theorem dX7_tellPieces_18 : decode cX7_tellPieces 18 = .ok (.invokevirtual 87, 3) := by decide +kernel
theorem dX7_tellPieces_21 : decode cX7_tellPieces 21 = .ok (.iload_n 3, 1) := by decide +kernel
theorem dX7_tellPieces_22 : decode cX7_tellPieces 22 = .ok (.ifCond .ne 17, 3) := by decide +kernel
theorem dX7_tellPieces_25 : decode cX7_tellPieces 25 = .ok (.aload_n 0, 1) := by decide +kernel
theorem dX7_tellPieces_26 : decode cX7_tellPieces 26 = .ok (.aload_n 0, 1) := by decide +kernel
theorem dX7_tellPieces_27 : decode cX7_tellPieces 27 = .ok (.iload_n 1, 1) := by decide +kernel
theorem dX7_tellPieces_28 : decode cX7_tellPieces 28 = .ok (.iload_n 2, 1) := by decide +kernel
theorem dX7_tellPieces_29 : decode cX7_tellPieces 29 = .ok (.invokevirtual 47, 3) := by decide +kernel
theorem dX7_tellPieces_32 : decode cX7_tellPieces 32 = .ok (.iconst 1, 1) := by decide +kernel
theorem dX7_tellPieces_33 : decode cX7_tellPieces 33 = .ok (.isub, 1) := by decide +kernel
theorem dX7_tellPieces_34 : decode cX7_tellPieces 34 = .ok (.bipush 8, 2) := by decide +kernel
theorem dX7_tellPieces_36 : decode cX7_tellPieces 36 = .ok (.invokevirtual 87, 3) := by decide +kernel
theorem dX7_tellPieces_39 : decode cX7_tellPieces 39 = .ok (.iload_n 3, 1) := by decide +kernel
theorem dX7_tellPieces_40 : decode cX7_tellPieces 40 = .ok (.iconst 2, 1) := by decide +kernel
theorem dX7_tellPieces_41 : decode cX7_tellPieces 41 = .ok (.if_icmp .ne 17, 3) := by decide +kernel
theorem dX7_tellPieces_44 : decode cX7_tellPieces 44 = .ok (.aload_n 0, 1) := by decide +kernel
theorem dX7_tellPieces_45 : decode cX7_tellPieces 45 = .ok (.aload_n 0, 1) := by decide +kernel
theorem dX7_tellPieces_46 : decode cX7_tellPieces 46 = .ok (.iload_n 1, 1) := by decide +kernel
theorem dX7_tellPieces_47 : decode cX7_tellPieces 47 = .ok (.iload_n 2, 1) := by decide +kernel
theorem dX7_tellPieces_48 : decode cX7_tellPieces 48 = .ok (.invokevirtual 50, 3) := by decide +kernel
theorem dX7_tellPieces_51 : decode cX7_tellPieces 51 = .ok (.iconst 1, 1) := by decide +kernel
theorem dX7_tellPieces_52 : decode cX7_tellPieces 52 = .ok (.isub, 1) := by decide +kernel
theorem dX7_tellPieces_53 : decode cX7_tellPieces 53 = .ok (.bipush 8, 2) := by decide +kernel
theorem dX7_tellPieces_55 : decode cX7_tellPieces 55 = .ok (.invokevirtual 87, 3) := by decide +kernel
theorem dX7_tellPieces_58 : decode cX7_tellPieces 58 = .ok (.sipush 256, 3) := by decide +kernel
theorem dX7_tellPieces_61 : decode cX7_tellPieces 61 = .ok (.iload_n 2, 1) := by decide +kernel
theorem dX7_tellPieces_62 : decode cX7_tellPieces 62 = .ok (.imul, 1) := by decide +kernel
theorem dX7_tellPieces_63 : decode cX7_tellPieces 63 = .ok (.istore 4, 2) := by decide +kernel
theorem dX7_tellPieces_65 : decode cX7_tellPieces 65 = .ok (.iload 4, 2) := by decide +kernel
theorem dX7_tellPieces_67 : decode cX7_tellPieces 67 = .ok (.sipush 256, 3) := by decide +kernel
theorem dX7_tellPieces_70 : decode cX7_tellPieces 70 = .ok (.iload_n 2, 1) := by decide +kernel
theorem dX7_tellPieces_71 : decode cX7_tellPieces 71 = .ok (.imul, 1) := by decide +kernel
theorem dX7_tellPieces_72 : decode cX7_tellPieces 72 = .ok (.sipush 256, 3) := by decide +kernel
theorem dX7_tellPieces_75 : decode cX7_tellPieces 75 = .ok (.iadd, 1) := by decide +kernel
theorem dX7_tellPieces_76 : decode cX7_tellPieces 76 = .ok (.if_icmp .ge 88, 3) := by decide +kernel
theorem dX7_tellPieces_79 : decode cX7_tellPieces 79 = .ok (.iload_n 3, 1) := by decide +kernel
theorem dX7_tellPieces_80 : decode cX7_tellPieces 80 = .ok (.iconst 3, 1) := by decide +kernel
theorem dX7_tellPieces_81 : decode cX7_tellPieces 81 = .ok (.if_icmp .ge 83, 3) := by decide +kernel
theorem dX7_tellPieces_84 : decode cX7_tellPieces 84 = .ok (.iload_n 3, 1) := by decide +kernel
theorem dX7_tellPieces_85 : decode cX7_tellPieces 85 = .ok (.iconst 1, 1) := by decide +kernel
theorem dX7_tellPieces_86 : decode cX7_tellPieces 86 = .ok (.if_icmp .ne 17, 3) := by decide +kernel
theorem dX7_tellPieces_89 : decode cX7_tellPieces 89 = .ok (.aload_n 0, 1) := by decide +kernel
theorem dX7_tellPieces_90 : decode cX7_tellPieces 90 = .ok (.aload_n 0, 1) := by decide +kernel
theorem dX7_tellPieces_91 : decode cX7_tellPieces 91 = .ok (.iload_n 1, 1) := by decide +kernel
theorem dX7_tellPieces_92 : decode cX7_tellPieces 92 = .ok (.iload 4, 2) := by decide +kernel
theorem dX7_tellPieces_94 : decode cX7_tellPieces 94 = .ok (.invokevirtual 28, 3) := by decide +kernel
theorem dX7_tellPieces_97 : decode cX7_tellPieces 97 = .ok (.invokevirtual 73, 3) := by decide +kernel
theorem dX7_tellPieces_100 : decode cX7_tellPieces 100 = .ok (.goto 58, 3) := by decide +kernel
theorem dX7_tellPieces_103 : decode cX7_tellPieces 103 = .ok (.iload_n 3, 1) := by decide +kernel
theorem dX7_tellPieces_104 : decode cX7_tellPieces 104 = .ok (.ifCond .ne 16, 3) := by decide +kernel
theorem dX7_tellPieces_107 : decode cX7_tellPieces 107 = .ok (.aload_n 0, 1) := by decide +kernel
theorem dX7_tellPieces_108 : decode cX7_tellPieces 108 = .ok (.iload_n 1, 1) := by decide +kernel
theorem dX7_tellPieces_109 : decode cX7_tellPieces 109 = .ok (.iload 4, 2) := by decide +kernel
theorem dX7_tellPieces_111 : decode cX7_tellPieces 111 = .ok (.invokevirtual 28, 3) := by decide +kernel
theorem dX7_tellPieces_114 : decode cX7_tellPieces 114 = .ok (.ifCond .eq 44, 3) := by decide +kernel
theorem dX7_tellPieces_117 : decode cX7_tellPieces 117 = .ok (.goto 13, 3) := by decide +kernel
theorem dX7_tellPieces_120 : decode cX7_tellPieces 120 = .ok (.aload_n 0, 1) := by decide +kernel
theorem dX7_tellPieces_121 : decode cX7_tellPieces 121 = .ok (.iload_n 1, 1) := by decide +kernel
theorem dX7_tellPieces_122 : decode cX7_tellPieces 122 = .ok (.iload 4, 2) := by decide +kernel
theorem dX7_tellPieces_124 : decode cX7_tellPieces 124 = .ok (.invokevirtual 44, 3) := by decide +kernel
theorem dX7_tellPieces_127 : decode cX7_tellPieces 127 = .ok (.ifCond .eq 31, 3) := by decide +kernel
theorem dX7_tellPieces_130 : decode cX7_tellPieces 130 = .ok (.aload_n 0, 1) := by decide +kernel
theorem dX7_tellPieces_131 : decode cX7_tellPieces 131 = .ok (.iload 4, 2) := by decide +kernel
theorem dX7_tellPieces_133 : decode cX7_tellPieces 133 = .ok (.bipush 8, 2) := by decide +kernel
theorem dX7_tellPieces_135 : decode cX7_tellPieces 135 = .ok (.invokevirtual 87, 3) := by decide +kernel
theorem dX7_tellPieces_138 : decode cX7_tellPieces 138 = .ok (.iload_n 3, 1) := by decide +kernel
theorem dX7_tellPieces_139 : decode cX7_tellPieces 139 = .ok (.iconst 2, 1) := by decide +kernel
theorem dX7_tellPieces_140 : decode cX7_tellPieces 140 = .ok (.if_icmp .ne 18, 3) := by decide +kernel
theorem dX7_tellPieces_143 : decode cX7_tellPieces 143 = .ok (.aload_n 0, 1) := by decide +kernel
theorem dX7_tellPieces_144 : decode cX7_tellPieces 144 = .ok (.aload_n 0, 1) := by decide +kernel
theorem dX7_tellPieces_145 : decode cX7_tellPieces 145 = .ok (.iload_n 1, 1) := by decide +kernel
theorem dX7_tellPieces_146 : decode cX7_tellPieces 146 = .ok (.iload 4, 2) := by decide +kernel
theorem dX7_tellPieces_148 : decode cX7_tellPieces 148 = .ok (.invokevirtual 95, 3) := by decide +kernel
theorem dX7_tellPieces_151 : decode cX7_tellPieces 151 = .ok (.iconst 1, 1) := by decide +kernel
theorem dX7_tellPieces_152 : decode cX7_tellPieces 152 = .ok (.isub, 1) := by decide +kernel
theorem dX7_tellPieces_153 : decode cX7_tellPieces 153 = .ok (.bipush 8, 2) := by decide +kernel
theorem dX7_tellPieces_155 : decode cX7_tellPieces 155 = .ok (.invokevirtual 87, 3) := by decide +kernel
theorem dX7_tellPieces_158 : decode cX7_tellPieces 158 = .ok (.iinc 4 1, 3) := by decide +kernel
theorem dX7_tellPieces_161 : decode cX7_tellPieces 161 = .ok (.goto (-96), 3) := by decide +kernel
theorem dX7_tellPieces_164 : decode cX7_tellPieces 164 = .ok (.iinc 2 1, 3) := by decide +kernel
theorem dX7_tellPieces_167 : decode cX7_tellPieces 167 = .ok (.goto (-165), 3) := by decide +kernel
theorem dX7_tellPieces_170 : decode cX7_tellPieces 170 = .ok (.return_, 1) := by decide +kernel
theorem dX7_lengthOf_0 : decode cX7_lengthOf 0 = .ok (.iconst 1, 1) := by decide +kernel
theorem dX7_lengthOf_1 : decode cX7_lengthOf 1 = .ok (.istore_n 3, 1) := by decide +kernel
theorem dX7_lengthOf_2 : decode cX7_lengthOf 2 = .ok (.iload_n 2, 1) := by decide +kernel
theorem dX7_lengthOf_3 : decode cX7_lengthOf 3 = .ok (.iload_n 3, 1) := by decide +kernel
theorem dX7_lengthOf_4 : decode cX7_lengthOf 4 = .ok (.iadd, 1) := by decide +kernel
theorem dX7_lengthOf_5 : decode cX7_lengthOf 5 = .ok (.sipush 256, 3) := by decide +kernel
theorem dX7_lengthOf_8 : decode cX7_lengthOf 8 = .ok (.irem, 1) := by decide +kernel
theorem dX7_lengthOf_9 : decode cX7_lengthOf 9 = .ok (.ifCond .eq 20, 3) := by decide +kernel
theorem dX7_lengthOf_12 : decode cX7_lengthOf 12 = .ok (.aload_n 0, 1) := by decide +kernel
theorem dX7_lengthOf_13 : decode cX7_lengthOf 13 = .ok (.iload_n 1, 1) := by decide +kernel
theorem dX7_lengthOf_14 : decode cX7_lengthOf 14 = .ok (.iload_n 2, 1) := by decide +kernel
theorem dX7_lengthOf_15 : decode cX7_lengthOf 15 = .ok (.iload_n 3, 1) := by decide +kernel
theorem dX7_lengthOf_16 : decode cX7_lengthOf 16 = .ok (.iadd, 1) := by decide +kernel
theorem dX7_lengthOf_17 : decode cX7_lengthOf 17 = .ok (.invokevirtual 28, 3) := by decide +kernel
theorem dX7_lengthOf_20 : decode cX7_lengthOf 20 = .ok (.ifCond .eq 9, 3) := by decide +kernel
theorem dX7_lengthOf_23 : decode cX7_lengthOf 23 = .ok (.iinc 3 1, 3) := by decide +kernel
theorem dX7_lengthOf_26 : decode cX7_lengthOf 26 = .ok (.goto (-24), 3) := by decide +kernel
theorem dX7_lengthOf_29 : decode cX7_lengthOf 29 = .ok (.iload_n 3, 1) := by decide +kernel
theorem dX7_lengthOf_30 : decode cX7_lengthOf 30 = .ok (.ireturn, 1) := by decide +kernel
theorem dX7_length_0 : decode cX7_length 0 = .ok (.iload_n 1, 1) := by decide +kernel
theorem dX7_length_1 : decode cX7_length 1 = .ok (.invokestatic 21, 3) := by decide +kernel
theorem dX7_length_4 : decode cX7_length 4 = .ok (.ifCond .ne 6, 3) := by decide +kernel
theorem dX7_length_7 : decode cX7_length 7 = .ok (.bipush (-2), 2) := by decide +kernel
theorem dX7_length_9 : decode cX7_length 9 = .ok (.ireturn, 1) := by decide +kernel
theorem dX7_length_10 : decode cX7_length 10 = .ok (.iload_n 2, 1) := by decide +kernel
theorem dX7_length_11 : decode cX7_length 11 = .ok (.iconst 0, 1) := by decide +kernel
theorem dX7_length_12 : decode cX7_length 12 = .ok (.iconst 2, 1) := by decide +kernel
theorem dX7_length_13 : decode cX7_length 13 = .ok (.invokestatic 17, 3) := by decide +kernel
theorem dX7_length_16 : decode cX7_length 16 = .ok (.ifCond .ne 6, 3) := by decide +kernel
theorem dX7_length_19 : decode cX7_length 19 = .ok (.bipush (-3), 2) := by decide +kernel
theorem dX7_length_21 : decode cX7_length 21 = .ok (.ireturn, 1) := by decide +kernel
theorem dX7_length_22 : decode cX7_length 22 = .ok (.aload_n 0, 1) := by decide +kernel
theorem dX7_length_23 : decode cX7_length 23 = .ok (.iload_n 1, 1) := by decide +kernel
theorem dX7_length_24 : decode cX7_length 24 = .ok (.iload_n 2, 1) := by decide +kernel
theorem dX7_length_25 : decode cX7_length 25 = .ok (.iconst 0, 1) := by decide +kernel
theorem dX7_length_26 : decode cX7_length 26 = .ok (.invokevirtual 98, 3) := by decide +kernel
theorem dX7_length_29 : decode cX7_length 29 = .ok (.aload_n 0, 1) := by decide +kernel
theorem dX7_length_30 : decode cX7_length 30 = .ok (.getfield 63, 3) := by decide +kernel
theorem dX7_length_33 : decode cX7_length 33 = .ok (.ireturn, 1) := by decide +kernel
theorem dX7_write_0 : decode cX7_write 0 = .ok (.iload_n 1, 1) := by decide +kernel
theorem dX7_write_1 : decode cX7_write 1 = .ok (.invokestatic 21, 3) := by decide +kernel
theorem dX7_write_4 : decode cX7_write 4 = .ok (.ifCond .ne 6, 3) := by decide +kernel
theorem dX7_write_7 : decode cX7_write 7 = .ok (.bipush (-2), 2) := by decide +kernel
theorem dX7_write_9 : decode cX7_write 9 = .ok (.ireturn, 1) := by decide +kernel
theorem dX7_write_10 : decode cX7_write 10 = .ok (.iload_n 2, 1) := by decide +kernel
theorem dX7_write_11 : decode cX7_write 11 = .ok (.iconst 0, 1) := by decide +kernel
theorem dX7_write_12 : decode cX7_write 12 = .ok (.iconst 2, 1) := by decide +kernel
theorem dX7_write_13 : decode cX7_write 13 = .ok (.invokestatic 17, 3) := by decide +kernel
theorem dX7_write_16 : decode cX7_write 16 = .ok (.ifCond .ne 6, 3) := by decide +kernel
theorem dX7_write_19 : decode cX7_write 19 = .ok (.bipush (-3), 2) := by decide +kernel
theorem dX7_write_21 : decode cX7_write 21 = .ok (.ireturn, 1) := by decide +kernel
theorem dX7_write_22 : decode cX7_write 22 = .ok (.aload_n 0, 1) := by decide +kernel
theorem dX7_write_23 : decode cX7_write 23 = .ok (.iload_n 1, 1) := by decide +kernel
theorem dX7_write_24 : decode cX7_write 24 = .ok (.iload_n 2, 1) := by decide +kernel
theorem dX7_write_25 : decode cX7_write 25 = .ok (.iconst 1, 1) := by decide +kernel
theorem dX7_write_26 : decode cX7_write 26 = .ok (.invokevirtual 98, 3) := by decide +kernel
theorem dX7_write_29 : decode cX7_write 29 = .ok (.aload_n 0, 1) := by decide +kernel
theorem dX7_write_30 : decode cX7_write 30 = .ok (.aload_n 0, 1) := by decide +kernel
theorem dX7_write_31 : decode cX7_write 31 = .ok (.getfield 63, 3) := by decide +kernel
theorem dX7_write_34 : decode cX7_write 34 = .ok (.putfield 70, 3) := by decide +kernel
theorem dX7_write_37 : decode cX7_write 37 = .ok (.aload_n 0, 1) := by decide +kernel
theorem dX7_write_38 : decode cX7_write 38 = .ok (.getfield 70, 3) := by decide +kernel
theorem dX7_write_41 : decode cX7_write 41 = .ok (.ireturn, 1) := by decide +kernel
theorem dX7_take_0 : decode cX7_take 0 = .ok (.aload_n 0, 1) := by decide +kernel
theorem dX7_take_1 : decode cX7_take 1 = .ok (.dup, 1) := by decide +kernel
theorem dX7_take_2 : decode cX7_take 2 = .ok (.getfield 102, 3) := by decide +kernel
theorem dX7_take_5 : decode cX7_take 5 = .ok (.iconst 1, 1) := by decide +kernel
theorem dX7_take_6 : decode cX7_take 6 = .ok (.iadd, 1) := by decide +kernel
theorem dX7_take_7 : decode cX7_take 7 = .ok (.putfield 102, 3) := by decide +kernel
theorem dX7_take_10 : decode cX7_take 10 = .ok (.aload_n 0, 1) := by decide +kernel
theorem dX7_take_11 : decode cX7_take 11 = .ok (.getfield 102, 3) := by decide +kernel
theorem dX7_take_14 : decode cX7_take 14 = .ok (.aload_n 0, 1) := by decide +kernel
theorem dX7_take_15 : decode cX7_take 15 = .ok (.getfield 70, 3) := by decide +kernel
theorem dX7_take_18 : decode cX7_take 18 = .ok (.if_icmp .gt 21, 3) := by decide +kernel
theorem dX7_take_21 : decode cX7_take 21 = .ok (.aload_n 0, 1) := by decide +kernel
theorem dX7_take_22 : decode cX7_take 22 = .ok (.getfield 14, 3) := by decide +kernel
theorem dX7_take_25 : decode cX7_take 25 = .ok (.aload_n 0, 1) := by decide +kernel
theorem dX7_take_26 : decode cX7_take 26 = .ok (.getfield 102, 3) := by decide +kernel
theorem dX7_take_29 : decode cX7_take 29 = .ok (.iconst 1, 1) := by decide +kernel
theorem dX7_take_30 : decode cX7_take 30 = .ok (.isub, 1) := by decide +kernel
theorem dX7_take_31 : decode cX7_take 31 = .ok (.baload, 1) := by decide +kernel
theorem dX7_take_32 : decode cX7_take 32 = .ok (.ifCond .eq 7, 3) := by decide +kernel
theorem dX7_take_35 : decode cX7_take 35 = .ok (.iconst 1, 1) := by decide +kernel
theorem dX7_take_36 : decode cX7_take 36 = .ok (.goto 4, 3) := by decide +kernel
theorem dX7_take_39 : decode cX7_take 39 = .ok (.iconst 0, 1) := by decide +kernel
theorem dX7_take_40 : decode cX7_take 40 = .ok (.ireturn, 1) := by decide +kernel
theorem dX7_takeNumber_0 : decode cX7_takeNumber 0 = .ok (.iconst 0, 1) := by decide +kernel
theorem dX7_takeNumber_1 : decode cX7_takeNumber 1 = .ok (.istore_n 2, 1) := by decide +kernel
theorem dX7_takeNumber_2 : decode cX7_takeNumber 2 = .ok (.iconst 0, 1) := by decide +kernel
theorem dX7_takeNumber_3 : decode cX7_takeNumber 3 = .ok (.istore_n 3, 1) := by decide +kernel
theorem dX7_takeNumber_4 : decode cX7_takeNumber 4 = .ok (.iload_n 3, 1) := by decide +kernel
theorem dX7_takeNumber_5 : decode cX7_takeNumber 5 = .ok (.iload_n 1, 1) := by decide +kernel
theorem dX7_takeNumber_6 : decode cX7_takeNumber 6 = .ok (.if_icmp .ge 26, 3) := by decide +kernel
theorem dX7_takeNumber_9 : decode cX7_takeNumber 9 = .ok (.iconst 2, 1) := by decide +kernel
theorem dX7_takeNumber_10 : decode cX7_takeNumber 10 = .ok (.iload_n 2, 1) := by decide +kernel
theorem dX7_takeNumber_11 : decode cX7_takeNumber 11 = .ok (.imul, 1) := by decide +kernel
theorem dX7_takeNumber_12 : decode cX7_takeNumber 12 = .ok (.aload_n 0, 1) := by decide +kernel
theorem dX7_takeNumber_13 : decode cX7_takeNumber 13 = .ok (.invokevirtual 105, 3) := by decide +kernel
theorem dX7_takeNumber_16 : decode cX7_takeNumber 16 = .ok (.ifCond .eq 7, 3) := by decide +kernel
theorem dX7_takeNumber_19 : decode cX7_takeNumber 19 = .ok (.iconst 1, 1) := by decide +kernel
theorem dX7_takeNumber_20 : decode cX7_takeNumber 20 = .ok (.goto 4, 3) := by decide +kernel
theorem dX7_takeNumber_23 : decode cX7_takeNumber 23 = .ok (.iconst 0, 1) := by decide +kernel
theorem dX7_takeNumber_24 : decode cX7_takeNumber 24 = .ok (.iadd, 1) := by decide +kernel
theorem dX7_takeNumber_25 : decode cX7_takeNumber 25 = .ok (.istore_n 2, 1) := by decide +kernel
theorem dX7_takeNumber_26 : decode cX7_takeNumber 26 = .ok (.iinc 3 1, 3) := by decide +kernel
theorem dX7_takeNumber_29 : decode cX7_takeNumber 29 = .ok (.goto (-25), 3) := by decide +kernel
theorem dX7_takeNumber_32 : decode cX7_takeNumber 32 = .ok (.iload_n 2, 1) := by decide +kernel
theorem dX7_takeNumber_33 : decode cX7_takeNumber 33 = .ok (.ireturn, 1) := by decide +kernel
theorem dX7_mark_0 : decode cX7_mark 0 = .ok (.iload_n 1, 1) := by decide +kernel
theorem dX7_mark_1 : decode cX7_mark 1 = .ok (.invokestatic 25, 3) := by decide +kernel
theorem dX7_mark_4 : decode cX7_mark 4 = .ok (.ifCond .eq 13, 3) := by decide +kernel
theorem dX7_mark_7 : decode cX7_mark 7 = .ok (.aload_n 0, 1) := by decide +kernel
theorem dX7_mark_8 : decode cX7_mark 8 = .ok (.getfield 8, 3) := by decide +kernel
theorem dX7_mark_11 : decode cX7_mark 11 = .ok (.ldc 109, 2) := by decide +kernel
theorem dX7_mark_13 : decode cX7_mark 13 = .ok (.iload_n 1, 1) := by decide +kernel
theorem dX7_mark_14 : decode cX7_mark 14 = .ok (.iadd, 1) := by decide +kernel
theorem dX7_mark_15 : decode cX7_mark 15 = .ok (.iconst 1, 1) := by decide +kernel
theorem dX7_mark_16 : decode cX7_mark 16 = .ok (.bastore, 1) := by decide +kernel
theorem dX7_mark_17 : decode cX7_mark 17 = .ok (.return_, 1) := by decide +kernel
theorem dX7_isCode_0 : decode cX7_isCode 0 = .ok (.iconst 0, 1) := by decide +kernel
theorem dX7_isCode_1 : decode cX7_isCode 1 = .ok (.istore_n 2, 1) := by decide +kernel
theorem dX7_isCode_2 : decode cX7_isCode 2 = .ok (.iload_n 2, 1) := by decide +kernel
theorem dX7_isCode_3 : decode cX7_isCode 3 = .ok (.sipush 4096, 3) := by decide +kernel
theorem dX7_isCode_6 : decode cX7_isCode 6 = .ok (.if_icmp .ge 19, 3) := by decide +kernel
theorem dX7_isCode_9 : decode cX7_isCode 9 = .ok (.aload_n 0, 1) := by decide +kernel
theorem dX7_isCode_10 : decode cX7_isCode 10 = .ok (.getfield 8, 3) := by decide +kernel
theorem dX7_isCode_13 : decode cX7_isCode 13 = .ok (.ldc 109, 2) := by decide +kernel
theorem dX7_isCode_15 : decode cX7_isCode 15 = .ok (.iload_n 2, 1) := by decide +kernel
theorem dX7_isCode_16 : decode cX7_isCode 16 = .ok (.iadd, 1) := by decide +kernel
theorem dX7_isCode_17 : decode cX7_isCode 17 = .ok (.iconst 0, 1) := by decide +kernel
theorem dX7_isCode_18 : decode cX7_isCode 18 = .ok (.bastore, 1) := by decide +kernel
theorem dX7_isCode_19 : decode cX7_isCode 19 = .ok (.iinc 2 1, 3) := by decide +kernel
theorem dX7_isCode_22 : decode cX7_isCode 22 = .ok (.goto (-20), 3) := by decide +kernel
theorem dX7_isCode_25 : decode cX7_isCode 25 = .ok (.aload_n 0, 1) := by decide +kernel
theorem dX7_isCode_26 : decode cX7_isCode 26 = .ok (.iconst 0, 1) := by decide +kernel
theorem dX7_isCode_27 : decode cX7_isCode 27 = .ok (.putfield 102, 3) := by decide +kernel
theorem dX7_isCode_30 : decode cX7_isCode 30 = .ok (.iload_n 1, 1) := by decide +kernel
theorem dX7_isCode_31 : decode cX7_isCode 31 = .ok (.ifCond .ne 10, 3) := by decide +kernel
theorem dX7_isCode_34 : decode cX7_isCode 34 = .ok (.aload_n 0, 1) := by decide +kernel
theorem dX7_isCode_35 : decode cX7_isCode 35 = .ok (.invokevirtual 110, 3) := by decide +kernel
theorem dX7_isCode_38 : decode cX7_isCode 38 = .ok (.goto 19, 3) := by decide +kernel
theorem dX7_isCode_41 : decode cX7_isCode 41 = .ok (.iload_n 1, 1) := by decide +kernel
theorem dX7_isCode_42 : decode cX7_isCode 42 = .ok (.iconst 1, 1) := by decide +kernel
theorem dX7_isCode_43 : decode cX7_isCode 43 = .ok (.if_icmp .ne 10, 3) := by decide +kernel
theorem dX7_isCode_46 : decode cX7_isCode 46 = .ok (.aload_n 0, 1) := by decide +kernel
theorem dX7_isCode_47 : decode cX7_isCode 47 = .ok (.invokevirtual 113, 3) := by decide +kernel
theorem dX7_isCode_50 : decode cX7_isCode 50 = .ok (.goto 7, 3) := by decide +kernel
theorem dX7_isCode_53 : decode cX7_isCode 53 = .ok (.aload_n 0, 1) := by decide +kernel
theorem dX7_isCode_54 : decode cX7_isCode 54 = .ok (.invokevirtual 116, 3) := by decide +kernel
theorem dX7_isCode_57 : decode cX7_isCode 57 = .ok (.aload_n 0, 1) := by decide +kernel
theorem dX7_isCode_58 : decode cX7_isCode 58 = .ok (.bipush 8, 2) := by decide +kernel
theorem dX7_isCode_60 : decode cX7_isCode 60 = .ok (.iload_n 1, 1) := by decide +kernel
theorem dX7_isCode_61 : decode cX7_isCode 61 = .ok (.iconst 2, 1) := by decide +kernel
theorem dX7_isCode_62 : decode cX7_isCode 62 = .ok (.invokevirtual 98, 3) := by decide +kernel
theorem dX7_isCode_65 : decode cX7_isCode 65 = .ok (.aload_n 0, 1) := by decide +kernel
theorem dX7_isCode_66 : decode cX7_isCode 66 = .ok (.getfield 66, 3) := by decide +kernel
theorem dX7_isCode_69 : decode cX7_isCode 69 = .ok (.ireturn, 1) := by decide +kernel
theorem dX7_takeParts_0 : decode cX7_takeParts 0 = .ok (.aload_n 0, 1) := by decide +kernel
theorem dX7_takeParts_1 : decode cX7_takeParts 1 = .ok (.bipush 13, 2) := by decide +kernel
theorem dX7_takeParts_3 : decode cX7_takeParts 3 = .ok (.invokevirtual 119, 3) := by decide +kernel
theorem dX7_takeParts_6 : decode cX7_takeParts 6 = .ok (.istore_n 1, 1) := by decide +kernel
theorem dX7_takeParts_7 : decode cX7_takeParts 7 = .ok (.iload_n 1, 1) := by decide +kernel
theorem dX7_takeParts_8 : decode cX7_takeParts 8 = .ok (.ifCond .eq 10, 3) := by decide +kernel
theorem dX7_takeParts_11 : decode cX7_takeParts 11 = .ok (.iload_n 1, 1) := by decide +kernel
theorem dX7_takeParts_12 : decode cX7_takeParts 12 = .ok (.sipush 4096, 3) := by decide +kernel
theorem dX7_takeParts_15 : decode cX7_takeParts 15 = .ok (.if_icmp .le 4, 3) := by decide +kernel
theorem dX7_takeParts_18 : decode cX7_takeParts 18 = .ok (.return_, 1) := by decide +kernel
theorem dX7_takeParts_19 : decode cX7_takeParts 19 = .ok (.iload_n 1, 1) := by decide +kernel
theorem dX7_takeParts_20 : decode cX7_takeParts 20 = .ok (.invokestatic 91, 3) := by decide +kernel
theorem dX7_takeParts_23 : decode cX7_takeParts 23 = .ok (.istore_n 2, 1) := by decide +kernel
theorem dX7_takeParts_24 : decode cX7_takeParts 24 = .ok (.aload_n 0, 1) := by decide +kernel
theorem dX7_takeParts_25 : decode cX7_takeParts 25 = .ok (.getfield 102, 3) := by decide +kernel
theorem dX7_takeParts_28 : decode cX7_takeParts 28 = .ok (.istore_n 3, 1) := by decide +kernel
theorem dX7_takeParts_29 : decode cX7_takeParts 29 = .ok (.iload_n 3, 1) := by decide +kernel
theorem dX7_takeParts_30 : decode cX7_takeParts 30 = .ok (.iload_n 1, 1) := by decide +kernel
theorem dX7_takeParts_31 : decode cX7_takeParts 31 = .ok (.iload_n 2, 1) := by decide +kernel
theorem dX7_takeParts_32 : decode cX7_takeParts 32 = .ok (.imul, 1) := by decide +kernel
theorem dX7_takeParts_33 : decode cX7_takeParts 33 = .ok (.iadd, 1) := by decide +kernel
theorem dX7_takeParts_34 : decode cX7_takeParts 34 = .ok (.istore 4, 2) := by decide +kernel
theorem dX7_takeParts_36 : decode cX7_takeParts 36 = .ok (.iconst 0, 1) := by decide +kernel
theorem dX7_takeParts_37 : decode cX7_takeParts 37 = .ok (.istore 5, 2) := by decide +kernel
theorem dX7_takeParts_39 : decode cX7_takeParts 39 = .ok (.iconst 0, 1) := by decide +kernel
theorem dX7_takeParts_40 : decode cX7_takeParts 40 = .ok (.istore 6, 2) := by decide +kernel
theorem dX7_takeParts_42 : decode cX7_takeParts 42 = .ok (.iload 6, 2) := by decide +kernel
theorem dX7_takeParts_44 : decode cX7_takeParts 44 = .ok (.iload_n 1, 1) := by decide +kernel
theorem dX7_takeParts_45 : decode cX7_takeParts 45 = .ok (.if_icmp .ge 61, 3) := by decide +kernel
theorem dX7_takeParts_48 : decode cX7_takeParts 48 = .ok (.iload 4, 2) := by decide +kernel
theorem dX7_takeParts_50 : decode cX7_takeParts 50 = .ok (.aload_n 0, 1) := by decide +kernel
theorem dX7_takeParts_51 : decode cX7_takeParts 51 = .ok (.getfield 70, 3) := by decide +kernel
theorem dX7_takeParts_54 : decode cX7_takeParts 54 = .ok (.if_icmp .ge 52, 3) := by decide +kernel
theorem dX7_takeParts_57 : decode cX7_takeParts 57 = .ok (.aload_n 0, 1) := by decide +kernel
theorem dX7_takeParts_58 : decode cX7_takeParts 58 = .ok (.getfield 14, 3) := by decide +kernel
theorem dX7_takeParts_61 : decode cX7_takeParts 61 = .ok (.iload 4, 2) := by decide +kernel
theorem dX7_takeParts_63 : decode cX7_takeParts 63 = .ok (.baload, 1) := by decide +kernel
theorem dX7_takeParts_64 : decode cX7_takeParts 64 = .ok (.ifCond .eq 33, 3) := by decide +kernel
theorem dX7_takeParts_67 : decode cX7_takeParts 67 = .ok (.aload_n 0, 1) := by decide +kernel
theorem dX7_takeParts_68 : decode cX7_takeParts 68 = .ok (.iload_n 3, 1) := by decide +kernel
theorem dX7_takeParts_69 : decode cX7_takeParts 69 = .ok (.iload 6, 2) := by decide +kernel
theorem dX7_takeParts_71 : decode cX7_takeParts 71 = .ok (.iload_n 2, 1) := by decide +kernel
theorem dX7_takeParts_72 : decode cX7_takeParts 72 = .ok (.imul, 1) := by decide +kernel
theorem dX7_takeParts_73 : decode cX7_takeParts 73 = .ok (.iadd, 1) := by decide +kernel
theorem dX7_takeParts_74 : decode cX7_takeParts 74 = .ok (.putfield 102, 3) := by decide +kernel
theorem dX7_takeParts_77 : decode cX7_takeParts 77 = .ok (.aload_n 0, 1) := by decide +kernel
theorem dX7_takeParts_78 : decode cX7_takeParts 78 = .ok (.iload 5, 2) := by decide +kernel
theorem dX7_takeParts_80 : decode cX7_takeParts 80 = .ok (.iload_n 2, 1) := by decide +kernel
theorem dX7_takeParts_81 : decode cX7_takeParts 81 = .ok (.ishl, 1) := by decide +kernel
theorem dX7_takeParts_82 : decode cX7_takeParts 82 = .ok (.aload_n 0, 1) := by decide +kernel
theorem dX7_takeParts_83 : decode cX7_takeParts 83 = .ok (.iload_n 2, 1) := by decide +kernel
theorem dX7_takeParts_84 : decode cX7_takeParts 84 = .ok (.invokevirtual 119, 3) := by decide +kernel
theorem dX7_takeParts_87 : decode cX7_takeParts 87 = .ok (.iadd, 1) := by decide +kernel
theorem dX7_takeParts_88 : decode cX7_takeParts 88 = .ok (.invokevirtual 122, 3) := by decide +kernel
theorem dX7_takeParts_91 : decode cX7_takeParts 91 = .ok (.iinc 6 1, 3) := by decide +kernel
theorem dX7_takeParts_94 : decode cX7_takeParts 94 = .ok (.goto 6, 3) := by decide +kernel
theorem dX7_takeParts_97 : decode cX7_takeParts 97 = .ok (.iinc 5 1, 3) := by decide +kernel
theorem dX7_takeParts_100 : decode cX7_takeParts 100 = .ok (.iinc 4 1, 3) := by decide +kernel
theorem dX7_takeParts_103 : decode cX7_takeParts 103 = .ok (.goto (-61), 3) := by decide +kernel
theorem dX7_takeParts_106 : decode cX7_takeParts 106 = .ok (.return_, 1) := by decide +kernel
theorem dX7_takeGaps_0 : decode cX7_takeGaps 0 = .ok (.aload_n 0, 1) := by decide +kernel
theorem dX7_takeGaps_1 : decode cX7_takeGaps 1 = .ok (.bipush 13, 2) := by decide +kernel
theorem dX7_takeGaps_3 : decode cX7_takeGaps 3 = .ok (.invokevirtual 119, 3) := by decide +kernel
theorem dX7_takeGaps_6 : decode cX7_takeGaps 6 = .ok (.istore_n 1, 1) := by decide +kernel
theorem dX7_takeGaps_7 : decode cX7_takeGaps 7 = .ok (.iconst (-1), 1) := by decide +kernel
theorem dX7_takeGaps_8 : decode cX7_takeGaps 8 = .ok (.istore_n 2, 1) := by decide +kernel
theorem dX7_takeGaps_9 : decode cX7_takeGaps 9 = .ok (.iconst 0, 1) := by decide +kernel
theorem dX7_takeGaps_10 : decode cX7_takeGaps 10 = .ok (.istore_n 3, 1) := by decide +kernel
theorem dX7_takeGaps_11 : decode cX7_takeGaps 11 = .ok (.iload_n 3, 1) := by decide +kernel
theorem dX7_takeGaps_12 : decode cX7_takeGaps 12 = .ok (.iload_n 1, 1) := by decide +kernel
theorem dX7_takeGaps_13 : decode cX7_takeGaps 13 = .ok (.if_icmp .ge 108, 3) := by decide +kernel
theorem dX7_takeGaps_16 : decode cX7_takeGaps 16 = .ok (.aload_n 0, 1) := by decide +kernel
theorem dX7_takeGaps_17 : decode cX7_takeGaps 17 = .ok (.getfield 102, 3) := by decide +kernel
theorem dX7_takeGaps_20 : decode cX7_takeGaps 20 = .ok (.aload_n 0, 1) := by decide +kernel
theorem dX7_takeGaps_21 : decode cX7_takeGaps 21 = .ok (.getfield 70, 3) := by decide +kernel
theorem dX7_takeGaps_24 : decode cX7_takeGaps 24 = .ok (.if_icmp .ge 97, 3) := by decide +kernel
theorem dX7_takeGaps_27 : decode cX7_takeGaps 27 = .ok (.iconst 1, 1) := by decide +kernel
theorem dX7_takeGaps_28 : decode cX7_takeGaps 28 = .ok (.istore 4, 2) := by decide +kernel
theorem dX7_takeGaps_30 : decode cX7_takeGaps 30 = .ok (.iload 4, 2) := by decide +kernel
theorem dX7_takeGaps_32 : decode cX7_takeGaps 32 = .ok (.bipush 13, 2) := by decide +kernel
theorem dX7_takeGaps_34 : decode cX7_takeGaps 34 = .ok (.if_icmp .ge 16, 3) := by decide +kernel
theorem dX7_takeGaps_37 : decode cX7_takeGaps 37 = .ok (.aload_n 0, 1) := by decide +kernel
theorem dX7_takeGaps_38 : decode cX7_takeGaps 38 = .ok (.invokevirtual 105, 3) := by decide +kernel
theorem dX7_takeGaps_41 : decode cX7_takeGaps 41 = .ok (.ifCond .ne 9, 3) := by decide +kernel
theorem dX7_takeGaps_44 : decode cX7_takeGaps 44 = .ok (.iinc 4 1, 3) := by decide +kernel
theorem dX7_takeGaps_47 : decode cX7_takeGaps 47 = .ok (.goto (-17), 3) := by decide +kernel
theorem dX7_takeGaps_50 : decode cX7_takeGaps 50 = .ok (.iload 4, 2) := by decide +kernel
theorem dX7_takeGaps_52 : decode cX7_takeGaps 52 = .ok (.bipush 13, 2) := by decide +kernel
theorem dX7_takeGaps_54 : decode cX7_takeGaps 54 = .ok (.if_icmp .ne 13, 3) := by decide +kernel
theorem dX7_takeGaps_57 : decode cX7_takeGaps 57 = .ok (.aload_n 0, 1) := by decide +kernel
theorem dX7_takeGaps_58 : decode cX7_takeGaps 58 = .ok (.dup, 1) := by decide +kernel
theorem dX7_takeGaps_59 : decode cX7_takeGaps 59 = .ok (.getfield 102, 3) := by decide +kernel
theorem dX7_takeGaps_62 : decode cX7_takeGaps 62 = .ok (.iconst 1, 1) := by decide +kernel
theorem dX7_takeGaps_63 : decode cX7_takeGaps 63 = .ok (.iadd, 1) := by decide +kernel
theorem dX7_takeGaps_64 : decode cX7_takeGaps 64 = .ok (.putfield 102, 3) := by decide +kernel
theorem dX7_takeGaps_67 : decode cX7_takeGaps 67 = .ok (.iconst 1, 1) := by decide +kernel
theorem dX7_takeGaps_68 : decode cX7_takeGaps 68 = .ok (.istore 5, 2) := by decide +kernel
theorem dX7_takeGaps_70 : decode cX7_takeGaps 70 = .ok (.iconst 1, 1) := by decide +kernel
theorem dX7_takeGaps_71 : decode cX7_takeGaps 71 = .ok (.istore 6, 2) := by decide +kernel
theorem dX7_takeGaps_73 : decode cX7_takeGaps 73 = .ok (.iload 6, 2) := by decide +kernel
theorem dX7_takeGaps_75 : decode cX7_takeGaps 75 = .ok (.iload 4, 2) := by decide +kernel
theorem dX7_takeGaps_77 : decode cX7_takeGaps 77 = .ok (.if_icmp .ge 28, 3) := by decide +kernel
theorem dX7_takeGaps_80 : decode cX7_takeGaps 80 = .ok (.iconst 2, 1) := by decide +kernel
theorem dX7_takeGaps_81 : decode cX7_takeGaps 81 = .ok (.iload 5, 2) := by decide +kernel
theorem dX7_takeGaps_83 : decode cX7_takeGaps 83 = .ok (.imul, 1) := by decide +kernel
theorem dX7_takeGaps_84 : decode cX7_takeGaps 84 = .ok (.aload_n 0, 1) := by decide +kernel
theorem dX7_takeGaps_85 : decode cX7_takeGaps 85 = .ok (.invokevirtual 105, 3) := by decide +kernel
theorem dX7_takeGaps_88 : decode cX7_takeGaps 88 = .ok (.ifCond .eq 7, 3) := by decide +kernel
theorem dX7_takeGaps_91 : decode cX7_takeGaps 91 = .ok (.iconst 1, 1) := by decide +kernel
theorem dX7_takeGaps_92 : decode cX7_takeGaps 92 = .ok (.goto 4, 3) := by decide +kernel
theorem dX7_takeGaps_95 : decode cX7_takeGaps 95 = .ok (.iconst 0, 1) := by decide +kernel
theorem dX7_takeGaps_96 : decode cX7_takeGaps 96 = .ok (.iadd, 1) := by decide +kernel
theorem dX7_takeGaps_97 : decode cX7_takeGaps 97 = .ok (.istore 5, 2) := by decide +kernel
theorem dX7_takeGaps_99 : decode cX7_takeGaps 99 = .ok (.iinc 6 1, 3) := by decide +kernel
theorem dX7_takeGaps_102 : decode cX7_takeGaps 102 = .ok (.goto (-29), 3) := by decide +kernel
theorem dX7_takeGaps_105 : decode cX7_takeGaps 105 = .ok (.iload_n 2, 1) := by decide +kernel
theorem dX7_takeGaps_106 : decode cX7_takeGaps 106 = .ok (.iload 5, 2) := by decide +kernel
theorem dX7_takeGaps_108 : decode cX7_takeGaps 108 = .ok (.iadd, 1) := by decide +kernel
theorem dX7_takeGaps_109 : decode cX7_takeGaps 109 = .ok (.istore_n 2, 1) := by decide +kernel
theorem dX7_takeGaps_110 : decode cX7_takeGaps 110 = .ok (.aload_n 0, 1) := by decide +kernel
theorem dX7_takeGaps_111 : decode cX7_takeGaps 111 = .ok (.iload_n 2, 1) := by decide +kernel
theorem dX7_takeGaps_112 : decode cX7_takeGaps 112 = .ok (.invokevirtual 122, 3) := by decide +kernel
theorem dX7_takeGaps_115 : decode cX7_takeGaps 115 = .ok (.iinc 3 1, 3) := by decide +kernel
theorem dX7_takeGaps_118 : decode cX7_takeGaps 118 = .ok (.goto (-107), 3) := by decide +kernel
theorem dX7_takeGaps_121 : decode cX7_takeGaps 121 = .ok (.return_, 1) := by decide +kernel
theorem dX7_takePieces_0 : decode cX7_takePieces 0 = .ok (.iconst 0, 1) := by decide +kernel
theorem dX7_takePieces_1 : decode cX7_takePieces 1 = .ok (.istore_n 1, 1) := by decide +kernel
theorem dX7_takePieces_2 : decode cX7_takePieces 2 = .ok (.iload_n 1, 1) := by decide +kernel
theorem dX7_takePieces_3 : decode cX7_takePieces 3 = .ok (.bipush 16, 2) := by decide +kernel
theorem dX7_takePieces_5 : decode cX7_takePieces 5 = .ok (.if_icmp .ge 165, 3) := by decide +kernel
theorem dX7_takePieces_8 : decode cX7_takePieces 8 = .ok (.aload_n 0, 1) := by decide +kernel
theorem dX7_takePieces_9 : decode cX7_takePieces 9 = .ok (.iconst 2, 1) := by decide +kernel
theorem dX7_takePieces_10 : decode cX7_takePieces 10 = .ok (.invokevirtual 119, 3) := by decide +kernel
theorem dX7_takePieces_13 : decode cX7_takePieces 13 = .ok (.istore_n 2, 1) := by decide +kernel
theorem dX7_takePieces_14 : decode cX7_takePieces 14 = .ok (.iload_n 2, 1) := by decide +kernel
theorem dX7_takePieces_15 : decode cX7_takePieces 15 = .ok (.ifCond .eq 8, 3) := by decide +kernel
theorem dX7_takePieces_18 : decode cX7_takePieces 18 = .ok (.iload_n 2, 1) := by decide +kernel
theorem dX7_takePieces_19 : decode cX7_takePieces 19 = .ok (.iconst 2, 1) := by decide +kernel
theorem dX7_takePieces_20 : decode cX7_takePieces 20 = .ok (.if_icmp .ne 14, 3) := by decide +kernel
theorem dX7_takePieces_23 : decode cX7_takePieces 23 = .ok (.aload_n 0, 1) := by decide +kernel
theorem dX7_takePieces_24 : decode cX7_takePieces 24 = .ok (.bipush 8, 2) := by decide +kernel
theorem dX7_takePieces_26 : decode cX7_takePieces 26 = .ok (.invokevirtual 119, 3) := by decide +kernel
theorem dX7_takePieces_29 : decode cX7_takePieces 29 = .ok (.iconst 1, 1) := by decide +kernel
theorem dX7_takePieces_30 : decode cX7_takePieces 30 = .ok (.iadd, 1) := by decide +kernel
theorem dX7_takePieces_31 : decode cX7_takePieces 31 = .ok (.goto 15, 3) := by decide +kernel
theorem dX7_takePieces_34 : decode cX7_takePieces 34 = .ok (.iload_n 2, 1) := by decide +kernel
theorem dX7_takePieces_35 : decode cX7_takePieces 35 = .ok (.iconst 1, 1) := by decide +kernel
theorem dX7_takePieces_36 : decode cX7_takePieces 36 = .ok (.if_icmp .ne 9, 3) := by decide +kernel
theorem dX7_takePieces_39 : decode cX7_takePieces 39 = .ok (.sipush 256, 3) := by decide +kernel
theorem dX7_takePieces_42 : decode cX7_takePieces 42 = .ok (.goto 4, 3) := by decide +kernel
theorem dX7_takePieces_45 : decode cX7_takePieces 45 = .ok (.iconst 0, 1) := by decide +kernel
theorem dX7_takePieces_46 : decode cX7_takePieces 46 = .ok (.istore_n 3, 1) := by decide +kernel
theorem dX7_takePieces_47 : decode cX7_takePieces 47 = .ok (.iconst 0, 1) := by decide +kernel
theorem dX7_takePieces_48 : decode cX7_takePieces 48 = .ok (.istore 4, 2) := by decide +kernel
theorem dX7_takePieces_50 : decode cX7_takePieces 50 = .ok (.iload 4, 2) := by decide +kernel
theorem dX7_takePieces_52 : decode cX7_takePieces 52 = .ok (.iload_n 3, 1) := by decide +kernel
theorem dX7_takePieces_53 : decode cX7_takePieces 53 = .ok (.if_icmp .ge 111, 3) := by decide +kernel
theorem dX7_takePieces_56 : decode cX7_takePieces 56 = .ok (.sipush 256, 3) := by decide +kernel
theorem dX7_takePieces_59 : decode cX7_takePieces 59 = .ok (.iload_n 1, 1) := by decide +kernel
theorem dX7_takePieces_60 : decode cX7_takePieces 60 = .ok (.imul, 1) := by decide +kernel
theorem dX7_takePieces_61 : decode cX7_takePieces 61 = .ok (.iload_n 2, 1) := by decide +kernel
theorem dX7_takePieces_62 : decode cX7_takePieces 62 = .ok (.iconst 1, 1) := by decide +kernel
theorem dX7_takePieces_63 : decode cX7_takePieces 63 = .ok (.if_icmp .ne 8, 3) := by decide +kernel
theorem dX7_takePieces_66 : decode cX7_takePieces 66 = .ok (.iload 4, 2) := by decide +kernel
theorem dX7_takePieces_68 : decode cX7_takePieces 68 = .ok (.goto 9, 3) := by decide +kernel
theorem dX7_takePieces_71 : decode cX7_takePieces 71 = .ok (.aload_n 0, 1) := by decide +kernel
theorem dX7_takePieces_72 : decode cX7_takePieces 72 = .ok (.bipush 8, 2) := by decide +kernel
theorem dX7_takePieces_74 : decode cX7_takePieces 74 = .ok (.invokevirtual 119, 3) := by decide +kernel
theorem dX7_takePieces_77 : decode cX7_takePieces 77 = .ok (.iadd, 1) := by decide +kernel
