theorem dX4_begins_1 : decode cX4_begins 1 = .ok (.getfield 10, 3) := by decide +kernel
theorem dX4_begins_4 : decode cX4_begins 4 = .ok (.invokevirtual 176, 3) := by decide +kernel
theorem dX4_begins_7 : decode cX4_begins 7 = .ok (.ireturn, 1) := by decide +kernel
theorem dX4_helps_0 : decode cX4_helps 0 = .ok (.aload_n 0, 1) := by decide +kernel
theorem dX4_helps_1 : decode cX4_helps 1 = .ok (.getfield 10, 3) := by decide +kernel
theorem dX4_helps_4 : decode cX4_helps 4 = .ok (.invokevirtual 176, 3) := by decide +kernel
theorem dX4_helps_7 : decode cX4_helps 7 = .ok (.invokestatic 179, 3) := by decide +kernel
theorem dX4_helps_10 : decode cX4_helps 10 = .ok (.istore_n 1, 1) := by decide +kernel
theorem dX4_helps_11 : decode cX4_helps 11 = .ok (.iload_n 1, 1) := by decide +kernel
theorem dX4_helps_12 : decode cX4_helps 12 = .ok (.ifCond .ne 8, 3) := by decide +kernel
theorem dX4_helps_15 : decode cX4_helps 15 = .ok (.bipush (-9), 2) := by decide +kernel
theorem dX4_helps_17 : decode cX4_helps 17 = .ok (.goto 11, 3) := by decide +kernel
theorem dX4_helps_20 : decode cX4_helps 20 = .ok (.aload_n 0, 1) := by decide +kernel
theorem dX4_helps_21 : decode cX4_helps 21 = .ok (.getfield 10, 3) := by decide +kernel
theorem dX4_helps_24 : decode cX4_helps 24 = .ok (.iload_n 1, 1) := by decide +kernel
theorem dX4_helps_25 : decode cX4_helps 25 = .ok (.invokevirtual 153, 3) := by decide +kernel
theorem dX4_helps_28 : decode cX4_helps 28 = .ok (.ireturn, 1) := by decide +kernel
theorem dX4_byLaw_0 : decode cX4_byLaw 0 = .ok (.iload_n 1, 1) := by decide +kernel
theorem dX4_byLaw_1 : decode cX4_byLaw 1 = .ok (.ifCond .lt 8, 3) := by decide +kernel
theorem dX4_byLaw_4 : decode cX4_byLaw 4 = .ok (.iload_n 1, 1) := by decide +kernel
theorem dX4_byLaw_5 : decode cX4_byLaw 5 = .ok (.iconst 5, 1) := by decide +kernel
theorem dX4_byLaw_6 : decode cX4_byLaw 6 = .ok (.if_icmp .le 10, 3) := by decide +kernel
theorem dX4_byLaw_9 : decode cX4_byLaw 9 = .ok (.aload_n 0, 1) := by decide +kernel
theorem dX4_byLaw_10 : decode cX4_byLaw 10 = .ok (.bipush (-2), 2) := by decide +kernel
theorem dX4_byLaw_12 : decode cX4_byLaw 12 = .ok (.invokevirtual 46, 3) := by decide +kernel
theorem dX4_byLaw_15 : decode cX4_byLaw 15 = .ok (.ireturn, 1) := by decide +kernel
theorem dX4_byLaw_16 : decode cX4_byLaw 16 = .ok (.aload_n 0, 1) := by decide +kernel
theorem dX4_byLaw_17 : decode cX4_byLaw 17 = .ok (.iload_n 2, 1) := by decide +kernel
theorem dX4_byLaw_18 : decode cX4_byLaw 18 = .ok (.iload_n 3, 1) := by decide +kernel
theorem dX4_byLaw_19 : decode cX4_byLaw 19 = .ok (.iconst 0, 1) := by decide +kernel
theorem dX4_byLaw_20 : decode cX4_byLaw 20 = .ok (.bipush 60, 2) := by decide +kernel
theorem dX4_byLaw_22 : decode cX4_byLaw 22 = .ok (.invokevirtual 138, 3) := by decide +kernel
theorem dX4_byLaw_25 : decode cX4_byLaw 25 = .ok (.istore 4, 2) := by decide +kernel
theorem dX4_byLaw_27 : decode cX4_byLaw 27 = .ok (.iload 4, 2) := by decide +kernel
theorem dX4_byLaw_29 : decode cX4_byLaw 29 = .ok (.ifCond .eq 10, 3) := by decide +kernel
theorem dX4_byLaw_32 : decode cX4_byLaw 32 = .ok (.aload_n 0, 1) := by decide +kernel
theorem dX4_byLaw_33 : decode cX4_byLaw 33 = .ok (.iload 4, 2) := by decide +kernel
theorem dX4_byLaw_35 : decode cX4_byLaw 35 = .ok (.invokevirtual 46, 3) := by decide +kernel
theorem dX4_byLaw_38 : decode cX4_byLaw 38 = .ok (.ireturn, 1) := by decide +kernel
theorem dX4_byLaw_39 : decode cX4_byLaw 39 = .ok (.aload_n 0, 1) := by decide +kernel
theorem dX4_byLaw_40 : decode cX4_byLaw 40 = .ok (.iload_n 1, 1) := by decide +kernel
theorem dX4_byLaw_41 : decode cX4_byLaw 41 = .ok (.iload_n 2, 1) := by decide +kernel
theorem dX4_byLaw_42 : decode cX4_byLaw 42 = .ok (.iload_n 3, 1) := by decide +kernel
theorem dX4_byLaw_43 : decode cX4_byLaw 43 = .ok (.invokevirtual 184, 3) := by decide +kernel
theorem dX4_byLaw_46 : decode cX4_byLaw 46 = .ok (.ireturn, 1) := by decide +kernel
theorem dX4_byBack_0 : decode cX4_byBack 0 = .ok (.aload_n 0, 1) := by decide +kernel
theorem dX4_byBack_1 : decode cX4_byBack 1 = .ok (.iload_n 2, 1) := by decide +kernel
theorem dX4_byBack_2 : decode cX4_byBack 2 = .ok (.iload_n 1, 1) := by decide +kernel
theorem dX4_byBack_3 : decode cX4_byBack 3 = .ok (.iconst 0, 1) := by decide +kernel
theorem dX4_byBack_4 : decode cX4_byBack 4 = .ok (.iconst 5, 1) := by decide +kernel
theorem dX4_byBack_5 : decode cX4_byBack 5 = .ok (.invokestatic 111, 3) := by decide +kernel
theorem dX4_byBack_8 : decode cX4_byBack 8 = .ok (.iload_n 3, 1) := by decide +kernel
theorem dX4_byBack_9 : decode cX4_byBack 9 = .ok (.iconst 0, 1) := by decide +kernel
theorem dX4_byBack_10 : decode cX4_byBack 10 = .ok (.bipush 60, 2) := by decide +kernel
theorem dX4_byBack_12 : decode cX4_byBack 12 = .ok (.invokestatic 111, 3) := by decide +kernel
theorem dX4_byBack_15 : decode cX4_byBack 15 = .ok (.invokevirtual 170, 3) := by decide +kernel
theorem dX4_byBack_18 : decode cX4_byBack 18 = .ok (.istore 4, 2) := by decide +kernel
theorem dX4_byBack_20 : decode cX4_byBack 20 = .ok (.iload 4, 2) := by decide +kernel
theorem dX4_byBack_22 : decode cX4_byBack 22 = .ok (.ifCond .eq 10, 3) := by decide +kernel
theorem dX4_byBack_25 : decode cX4_byBack 25 = .ok (.aload_n 0, 1) := by decide +kernel
theorem dX4_byBack_26 : decode cX4_byBack 26 = .ok (.iload 4, 2) := by decide +kernel
theorem dX4_byBack_28 : decode cX4_byBack 28 = .ok (.invokevirtual 46, 3) := by decide +kernel
theorem dX4_byBack_31 : decode cX4_byBack 31 = .ok (.ireturn, 1) := by decide +kernel
theorem dX4_byBack_32 : decode cX4_byBack 32 = .ok (.aload_n 0, 1) := by decide +kernel
theorem dX4_byBack_33 : decode cX4_byBack 33 = .ok (.getfield 19, 3) := by decide +kernel
theorem dX4_byBack_36 : decode cX4_byBack 36 = .ok (.aload_n 0, 1) := by decide +kernel
theorem dX4_byBack_37 : decode cX4_byBack 37 = .ok (.getfield 10, 3) := by decide +kernel
theorem dX4_byBack_40 : decode cX4_byBack 40 = .ok (.invokevirtual 149, 3) := by decide +kernel
theorem dX4_byBack_43 : decode cX4_byBack 43 = .ok (.aload_n 0, 1) := by decide +kernel
theorem dX4_byBack_44 : decode cX4_byBack 44 = .ok (.getfield 19, 3) := by decide +kernel
theorem dX4_byBack_47 : decode cX4_byBack 47 = .ok (.iconst 2, 1) := by decide +kernel
theorem dX4_byBack_48 : decode cX4_byBack 48 = .ok (.iload_n 1, 1) := by decide +kernel
theorem dX4_byBack_49 : decode cX4_byBack 49 = .ok (.invokevirtual 114, 3) := by decide +kernel
theorem dX4_byBack_52 : decode cX4_byBack 52 = .ok (.pop, 1) := by decide +kernel
theorem dX4_byBack_53 : decode cX4_byBack 53 = .ok (.aload_n 0, 1) := by decide +kernel
theorem dX4_byBack_54 : decode cX4_byBack 54 = .ok (.getfield 19, 3) := by decide +kernel
theorem dX4_byBack_57 : decode cX4_byBack 57 = .ok (.iload_n 3, 1) := by decide +kernel
theorem dX4_byBack_58 : decode cX4_byBack 58 = .ok (.invokevirtual 187, 3) := by decide +kernel
theorem dX4_byBack_61 : decode cX4_byBack 61 = .ok (.aload_n 0, 1) := by decide +kernel
theorem dX4_byBack_62 : decode cX4_byBack 62 = .ok (.getfield 19, 3) := by decide +kernel
theorem dX4_byBack_65 : decode cX4_byBack 65 = .ok (.getfield 77, 3) := by decide +kernel
theorem dX4_byBack_68 : decode cX4_byBack 68 = .ok (.iload_n 2, 1) := by decide +kernel
theorem dX4_byBack_69 : decode cX4_byBack 69 = .ok (.iaload, 1) := by decide +kernel
theorem dX4_byBack_70 : decode cX4_byBack 70 = .ok (.ireturn, 1) := by decide +kernel
theorem dX4_leastLaw_0 : decode cX4_leastLaw 0 = .ok (.aload_n 0, 1) := by decide +kernel
theorem dX4_leastLaw_1 : decode cX4_leastLaw 1 = .ok (.iload_n 1, 1) := by decide +kernel
theorem dX4_leastLaw_2 : decode cX4_leastLaw 2 = .ok (.iload_n 2, 1) := by decide +kernel
theorem dX4_leastLaw_3 : decode cX4_leastLaw 3 = .ok (.iconst 0, 1) := by decide +kernel
theorem dX4_leastLaw_4 : decode cX4_leastLaw 4 = .ok (.bipush 60, 2) := by decide +kernel
theorem dX4_leastLaw_6 : decode cX4_leastLaw 6 = .ok (.invokevirtual 138, 3) := by decide +kernel
theorem dX4_leastLaw_9 : decode cX4_leastLaw 9 = .ok (.istore_n 3, 1) := by decide +kernel
theorem dX4_leastLaw_10 : decode cX4_leastLaw 10 = .ok (.iload_n 3, 1) := by decide +kernel
theorem dX4_leastLaw_11 : decode cX4_leastLaw 11 = .ok (.ifCond .eq 9, 3) := by decide +kernel
theorem dX4_leastLaw_14 : decode cX4_leastLaw 14 = .ok (.aload_n 0, 1) := by decide +kernel
theorem dX4_leastLaw_15 : decode cX4_leastLaw 15 = .ok (.iload_n 3, 1) := by decide +kernel
theorem dX4_leastLaw_16 : decode cX4_leastLaw 16 = .ok (.invokevirtual 46, 3) := by decide +kernel
theorem dX4_leastLaw_19 : decode cX4_leastLaw 19 = .ok (.ireturn, 1) := by decide +kernel
theorem dX4_leastLaw_20 : decode cX4_leastLaw 20 = .ok (.iconst 0, 1) := by decide +kernel
theorem dX4_leastLaw_21 : decode cX4_leastLaw 21 = .ok (.istore 4, 2) := by decide +kernel
theorem dX4_leastLaw_23 : decode cX4_leastLaw 23 = .ok (.aload_n 0, 1) := by decide +kernel
theorem dX4_leastLaw_24 : decode cX4_leastLaw 24 = .ok (.iconst 0, 1) := by decide +kernel
theorem dX4_leastLaw_25 : decode cX4_leastLaw 25 = .ok (.iload_n 1, 1) := by decide +kernel
theorem dX4_leastLaw_26 : decode cX4_leastLaw 26 = .ok (.iload_n 2, 1) := by decide +kernel
theorem dX4_leastLaw_27 : decode cX4_leastLaw 27 = .ok (.invokevirtual 184, 3) := by decide +kernel
theorem dX4_leastLaw_30 : decode cX4_leastLaw 30 = .ok (.istore 5, 2) := by decide +kernel
theorem dX4_leastLaw_32 : decode cX4_leastLaw 32 = .ok (.iconst 1, 1) := by decide +kernel
theorem dX4_leastLaw_33 : decode cX4_leastLaw 33 = .ok (.istore 6, 2) := by decide +kernel
theorem dX4_leastLaw_35 : decode cX4_leastLaw 35 = .ok (.iload 6, 2) := by decide +kernel
theorem dX4_leastLaw_37 : decode cX4_leastLaw 37 = .ok (.iconst 5, 1) := by decide +kernel
theorem dX4_leastLaw_38 : decode cX4_leastLaw 38 = .ok (.if_icmp .gt 34, 3) := by decide +kernel
theorem dX4_leastLaw_41 : decode cX4_leastLaw 41 = .ok (.aload_n 0, 1) := by decide +kernel
theorem dX4_leastLaw_42 : decode cX4_leastLaw 42 = .ok (.iload 6, 2) := by decide +kernel
theorem dX4_leastLaw_44 : decode cX4_leastLaw 44 = .ok (.iload_n 1, 1) := by decide +kernel
theorem dX4_leastLaw_45 : decode cX4_leastLaw 45 = .ok (.iload_n 2, 1) := by decide +kernel
theorem dX4_leastLaw_46 : decode cX4_leastLaw 46 = .ok (.invokevirtual 184, 3) := by decide +kernel
theorem dX4_leastLaw_49 : decode cX4_leastLaw 49 = .ok (.istore 7, 2) := by decide +kernel
theorem dX4_leastLaw_51 : decode cX4_leastLaw 51 = .ok (.iload 7, 2) := by decide +kernel
theorem dX4_leastLaw_53 : decode cX4_leastLaw 53 = .ok (.iload 5, 2) := by decide +kernel
theorem dX4_leastLaw_55 : decode cX4_leastLaw 55 = .ok (.if_icmp .ge 11, 3) := by decide +kernel
theorem dX4_leastLaw_58 : decode cX4_leastLaw 58 = .ok (.iload 6, 2) := by decide +kernel
theorem dX4_leastLaw_60 : decode cX4_leastLaw 60 = .ok (.istore 4, 2) := by decide +kernel
theorem dX4_leastLaw_62 : decode cX4_leastLaw 62 = .ok (.iload 7, 2) := by decide +kernel
theorem dX4_leastLaw_64 : decode cX4_leastLaw 64 = .ok (.istore 5, 2) := by decide +kernel
theorem dX4_leastLaw_66 : decode cX4_leastLaw 66 = .ok (.iinc 6 1, 3) := by decide +kernel
theorem dX4_leastLaw_69 : decode cX4_leastLaw 69 = .ok (.goto (-34), 3) := by decide +kernel
theorem dX4_leastLaw_72 : decode cX4_leastLaw 72 = .ok (.iload 4, 2) := by decide +kernel
theorem dX4_leastLaw_74 : decode cX4_leastLaw 74 = .ok (.ireturn, 1) := by decide +kernel
theorem dX4_row_0 : decode cX4_row 0 = .ok (.iload_n 1, 1) := by decide +kernel
theorem dX4_row_1 : decode cX4_row 1 = .ok (.ifCond .ge 10, 3) := by decide +kernel
theorem dX4_row_4 : decode cX4_row 4 = .ok (.aload_n 0, 1) := by decide +kernel
theorem dX4_row_5 : decode cX4_row 5 = .ok (.bipush (-4), 2) := by decide +kernel
theorem dX4_row_7 : decode cX4_row 7 = .ok (.invokevirtual 46, 3) := by decide +kernel
theorem dX4_row_10 : decode cX4_row 10 = .ok (.ireturn, 1) := by decide +kernel
theorem dX4_row_11 : decode cX4_row 11 = .ok (.iload_n 1, 1) := by decide +kernel
theorem dX4_row_12 : decode cX4_row 12 = .ok (.sipush 9999, 3) := by decide +kernel
theorem dX4_row_15 : decode cX4_row 15 = .ok (.if_icmp .gt 15, 3) := by decide +kernel
theorem dX4_row_18 : decode cX4_row 18 = .ok (.aload_n 0, 1) := by decide +kernel
theorem dX4_row_19 : decode cX4_row 19 = .ok (.getfield 190, 3) := by decide +kernel
theorem dX4_row_22 : decode cX4_row 22 = .ok (.aload_n 0, 1) := by decide +kernel
theorem dX4_row_23 : decode cX4_row 23 = .ok (.getfield 40, 3) := by decide +kernel
theorem dX4_row_26 : decode cX4_row 26 = .ok (.arraylength, 1) := by decide +kernel
theorem dX4_row_27 : decode cX4_row 27 = .ok (.if_icmp .lt 10, 3) := by decide +kernel
theorem dX4_row_30 : decode cX4_row 30 = .ok (.aload_n 0, 1) := by decide +kernel
theorem dX4_row_31 : decode cX4_row 31 = .ok (.bipush (-6), 2) := by decide +kernel
theorem dX4_row_33 : decode cX4_row 33 = .ok (.invokevirtual 46, 3) := by decide +kernel
theorem dX4_row_36 : decode cX4_row 36 = .ok (.ireturn, 1) := by decide +kernel
theorem dX4_row_37 : decode cX4_row 37 = .ok (.aload_n 0, 1) := by decide +kernel
theorem dX4_row_38 : decode cX4_row 38 = .ok (.getfield 40, 3) := by decide +kernel
theorem dX4_row_41 : decode cX4_row 41 = .ok (.aload_n 0, 1) := by decide +kernel
theorem dX4_row_42 : decode cX4_row 42 = .ok (.getfield 190, 3) := by decide +kernel
theorem dX4_row_45 : decode cX4_row 45 = .ok (.iload_n 1, 1) := by decide +kernel
theorem dX4_row_46 : decode cX4_row 46 = .ok (.iastore, 1) := by decide +kernel
theorem dX4_row_47 : decode cX4_row 47 = .ok (.aload_n 0, 1) := by decide +kernel
theorem dX4_row_48 : decode cX4_row 48 = .ok (.dup, 1) := by decide +kernel
theorem dX4_row_49 : decode cX4_row 49 = .ok (.getfield 190, 3) := by decide +kernel
theorem dX4_row_52 : decode cX4_row 52 = .ok (.iconst 1, 1) := by decide +kernel
theorem dX4_row_53 : decode cX4_row 53 = .ok (.iadd, 1) := by decide +kernel
theorem dX4_row_54 : decode cX4_row 54 = .ok (.putfield 190, 3) := by decide +kernel
theorem dX4_row_57 : decode cX4_row 57 = .ok (.aload_n 0, 1) := by decide +kernel
theorem dX4_row_58 : decode cX4_row 58 = .ok (.getfield 190, 3) := by decide +kernel
theorem dX4_row_61 : decode cX4_row 61 = .ok (.ireturn, 1) := by decide +kernel
theorem dX4_found_0 : decode cX4_found 0 = .ok (.aload_n 0, 1) := by decide +kernel
theorem dX4_found_1 : decode cX4_found 1 = .ok (.getfield 10, 3) := by decide +kernel
theorem dX4_found_4 : decode cX4_found 4 = .ok (.iload_n 1, 1) := by decide +kernel
theorem dX4_found_5 : decode cX4_found 5 = .ok (.invokevirtual 64, 3) := by decide +kernel
theorem dX4_found_8 : decode cX4_found 8 = .ok (.ifCond .ne 9, 3) := by decide +kernel
theorem dX4_found_11 : decode cX4_found 11 = .ok (.aload_n 0, 1) := by decide +kernel
theorem dX4_found_12 : decode cX4_found 12 = .ok (.iconst (-1), 1) := by decide +kernel
theorem dX4_found_13 : decode cX4_found 13 = .ok (.invokevirtual 46, 3) := by decide +kernel
theorem dX4_found_16 : decode cX4_found 16 = .ok (.ireturn, 1) := by decide +kernel
theorem dX4_found_17 : decode cX4_found 17 = .ok (.aload_n 0, 1) := by decide +kernel
theorem dX4_found_18 : decode cX4_found 18 = .ok (.iload_n 1, 1) := by decide +kernel
theorem dX4_found_19 : decode cX4_found 19 = .ok (.iconst 0, 1) := by decide +kernel
theorem dX4_found_20 : decode cX4_found 20 = .ok (.invokevirtual 193, 3) := by decide +kernel
theorem dX4_found_23 : decode cX4_found 23 = .ok (.ireturn, 1) := by decide +kernel
theorem dX4_judge_0 : decode cX4_judge 0 = .ok (.aload_n 0, 1) := by decide +kernel
theorem dX4_judge_1 : decode cX4_judge 1 = .ok (.getfield 10, 3) := by decide +kernel
theorem dX4_judge_4 : decode cX4_judge 4 = .ok (.iload_n 1, 1) := by decide +kernel
theorem dX4_judge_5 : decode cX4_judge 5 = .ok (.invokevirtual 64, 3) := by decide +kernel
theorem dX4_judge_8 : decode cX4_judge 8 = .ok (.ifCond .ne 9, 3) := by decide +kernel
theorem dX4_judge_11 : decode cX4_judge 11 = .ok (.aload_n 0, 1) := by decide +kernel
theorem dX4_judge_12 : decode cX4_judge 12 = .ok (.iconst (-1), 1) := by decide +kernel
theorem dX4_judge_13 : decode cX4_judge 13 = .ok (.invokevirtual 46, 3) := by decide +kernel
theorem dX4_judge_16 : decode cX4_judge 16 = .ok (.ireturn, 1) := by decide +kernel
theorem dX4_judge_17 : decode cX4_judge 17 = .ok (.aload_n 0, 1) := by decide +kernel
theorem dX4_judge_18 : decode cX4_judge 18 = .ok (.iload_n 1, 1) := by decide +kernel
theorem dX4_judge_19 : decode cX4_judge 19 = .ok (.iconst 1, 1) := by decide +kernel
theorem dX4_judge_20 : decode cX4_judge 20 = .ok (.invokevirtual 193, 3) := by decide +kernel
theorem dX4_judge_23 : decode cX4_judge 23 = .ok (.ireturn, 1) := by decide +kernel
theorem dX4_told_0 : decode cX4_told 0 = .ok (.aload_n 0, 1) := by decide +kernel
theorem dX4_told_1 : decode cX4_told 1 = .ok (.invokevirtual 197, 3) := by decide +kernel
theorem dX4_told_4 : decode cX4_told 4 = .ok (.istore_n 1, 1) := by decide +kernel
theorem dX4_told_5 : decode cX4_told 5 = .ok (.aload_n 0, 1) := by decide +kernel
theorem dX4_told_6 : decode cX4_told 6 = .ok (.iconst 0, 1) := by decide +kernel
theorem dX4_told_7 : decode cX4_told 7 = .ok (.putfield 190, 3) := by decide +kernel
theorem dX4_told_10 : decode cX4_told 10 = .ok (.iload_n 1, 1) := by decide +kernel
theorem dX4_told_11 : decode cX4_told 11 = .ok (.ireturn, 1) := by decide +kernel
theorem dX4_seeds_0 : decode cX4_seeds 0 = .ok (.iload_n 1, 1) := by decide +kernel
theorem dX4_seeds_1 : decode cX4_seeds 1 = .ok (.iconst 1, 1) := by decide +kernel
theorem dX4_seeds_2 : decode cX4_seeds 2 = .ok (.bipush 20, 2) := by decide +kernel
theorem dX4_seeds_4 : decode cX4_seeds 4 = .ok (.invokestatic 111, 3) := by decide +kernel
theorem dX4_seeds_7 : decode cX4_seeds 7 = .ok (.istore_n 3, 1) := by decide +kernel
theorem dX4_seeds_8 : decode cX4_seeds 8 = .ok (.iload_n 3, 1) := by decide +kernel
theorem dX4_seeds_9 : decode cX4_seeds 9 = .ok (.ifCond .ne 16, 3) := by decide +kernel
theorem dX4_seeds_12 : decode cX4_seeds 12 = .ok (.aload_n 0, 1) := by decide +kernel
theorem dX4_seeds_13 : decode cX4_seeds 13 = .ok (.getfield 10, 3) := by decide +kernel
theorem dX4_seeds_16 : decode cX4_seeds 16 = .ok (.getfield 200, 3) := by decide +kernel
theorem dX4_seeds_19 : decode cX4_seeds 19 = .ok (.ifCond .ne 6, 3) := by decide +kernel
theorem dX4_seeds_22 : decode cX4_seeds 22 = .ok (.bipush (-3), 2) := by decide +kernel
theorem dX4_seeds_24 : decode cX4_seeds 24 = .ok (.istore_n 3, 1) := by decide +kernel
theorem dX4_seeds_25 : decode cX4_seeds 25 = .ok (.iload_n 3, 1) := by decide +kernel
theorem dX4_seeds_26 : decode cX4_seeds 26 = .ok (.ifCond .eq 9, 3) := by decide +kernel
theorem dX4_seeds_29 : decode cX4_seeds 29 = .ok (.aload_n 0, 1) := by decide +kernel
theorem dX4_seeds_30 : decode cX4_seeds 30 = .ok (.iload_n 3, 1) := by decide +kernel
theorem dX4_seeds_31 : decode cX4_seeds 31 = .ok (.invokevirtual 46, 3) := by decide +kernel
theorem dX4_seeds_34 : decode cX4_seeds 34 = .ok (.ireturn, 1) := by decide +kernel
theorem dX4_seeds_35 : decode cX4_seeds 35 = .ok (.aload_n 0, 1) := by decide +kernel
theorem dX4_seeds_36 : decode cX4_seeds 36 = .ok (.getfield 19, 3) := by decide +kernel
theorem dX4_seeds_39 : decode cX4_seeds 39 = .ok (.aload_n 0, 1) := by decide +kernel
theorem dX4_seeds_40 : decode cX4_seeds 40 = .ok (.getfield 10, 3) := by decide +kernel
theorem dX4_seeds_43 : decode cX4_seeds 43 = .ok (.invokevirtual 149, 3) := by decide +kernel
theorem dX4_seeds_46 : decode cX4_seeds 46 = .ok (.iload_n 2, 1) := by decide +kernel
theorem dX4_seeds_47 : decode cX4_seeds 47 = .ok (.istore 4, 2) := by decide +kernel
theorem dX4_seeds_49 : decode cX4_seeds 49 = .ok (.iconst 0, 1) := by decide +kernel
theorem dX4_seeds_50 : decode cX4_seeds 50 = .ok (.istore 5, 2) := by decide +kernel
theorem dX4_seeds_52 : decode cX4_seeds 52 = .ok (.iload 5, 2) := by decide +kernel
theorem dX4_seeds_54 : decode cX4_seeds 54 = .ok (.iload_n 1, 1) := by decide +kernel
theorem dX4_seeds_55 : decode cX4_seeds 55 = .ok (.if_icmp .ge 61, 3) := by decide +kernel
theorem dX4_seeds_58 : decode cX4_seeds 58 = .ok (.iload 4, 2) := by decide +kernel
theorem dX4_seeds_60 : decode cX4_seeds 60 = .ok (.invokestatic 203, 3) := by decide +kernel
theorem dX4_seeds_63 : decode cX4_seeds 63 = .ok (.istore 4, 2) := by decide +kernel
theorem dX4_seeds_65 : decode cX4_seeds 65 = .ok (.iload 4, 2) := by decide +kernel
theorem dX4_seeds_67 : decode cX4_seeds 67 = .ok (.aload_n 0, 1) := by decide +kernel
theorem dX4_seeds_68 : decode cX4_seeds 68 = .ok (.getfield 19, 3) := by decide +kernel
theorem dX4_seeds_71 : decode cX4_seeds 71 = .ok (.getfield 200, 3) := by decide +kernel
theorem dX4_seeds_74 : decode cX4_seeds 74 = .ok (.invokestatic 206, 3) := by decide +kernel
theorem dX4_seeds_77 : decode cX4_seeds 77 = .ok (.istore 6, 2) := by decide +kernel
theorem dX4_seeds_79 : decode cX4_seeds 79 = .ok (.iload 4, 2) := by decide +kernel
theorem dX4_seeds_81 : decode cX4_seeds 81 = .ok (.invokestatic 203, 3) := by decide +kernel
theorem dX4_seeds_84 : decode cX4_seeds 84 = .ok (.istore 4, 2) := by decide +kernel
theorem dX4_seeds_86 : decode cX4_seeds 86 = .ok (.aload_n 0, 1) := by decide +kernel
theorem dX4_seeds_87 : decode cX4_seeds 87 = .ok (.getfield 19, 3) := by decide +kernel
theorem dX4_seeds_90 : decode cX4_seeds 90 = .ok (.iload 6, 2) := by decide +kernel
theorem dX4_seeds_92 : decode cX4_seeds 92 = .ok (.iload 4, 2) := by decide +kernel
theorem dX4_seeds_94 : decode cX4_seeds 94 = .ok (.bipush 10, 2) := by decide +kernel
theorem dX4_seeds_96 : decode cX4_seeds 96 = .ok (.invokestatic 206, 3) := by decide +kernel
theorem dX4_seeds_99 : decode cX4_seeds 99 = .ok (.invokevirtual 209, 3) := by decide +kernel
theorem dX4_seeds_102 : decode cX4_seeds 102 = .ok (.aload_n 0, 1) := by decide +kernel
theorem dX4_seeds_103 : decode cX4_seeds 103 = .ok (.getfield 19, 3) := by decide +kernel
theorem dX4_seeds_106 : decode cX4_seeds 106 = .ok (.invokevirtual 132, 3) := by decide +kernel
theorem dX4_seeds_109 : decode cX4_seeds 109 = .ok (.pop, 1) := by decide +kernel
theorem dX4_seeds_110 : decode cX4_seeds 110 = .ok (.iinc 5 1, 3) := by decide +kernel
theorem dX4_seeds_113 : decode cX4_seeds 113 = .ok (.goto (-61), 3) := by decide +kernel
theorem dX4_seeds_116 : decode cX4_seeds 116 = .ok (.aload_n 0, 1) := by decide +kernel
theorem dX4_seeds_117 : decode cX4_seeds 117 = .ok (.getfield 19, 3) := by decide +kernel
theorem dX4_seeds_120 : decode cX4_seeds 120 = .ok (.invokevirtual 146, 3) := by decide +kernel
theorem dX4_seeds_123 : decode cX4_seeds 123 = .ok (.ireturn, 1) := by decide +kernel
theorem dX4_image_0 : decode cX4_image 0 = .ok (.aload_n 0, 1) := by decide +kernel
theorem dX4_image_1 : decode cX4_image 1 = .ok (.getfield 16, 3) := by decide +kernel
theorem dX4_image_4 : decode cX4_image 4 = .ok (.aload_n 0, 1) := by decide +kernel
theorem dX4_image_5 : decode cX4_image 5 = .ok (.getfield 10, 3) := by decide +kernel
theorem dX4_image_8 : decode cX4_image 8 = .ok (.invokevirtual 149, 3) := by decide +kernel
theorem dX4_image_11 : decode cX4_image 11 = .ok (.aload_n 0, 1) := by decide +kernel
theorem dX4_image_12 : decode cX4_image 12 = .ok (.iconst 1, 1) := by decide +kernel
theorem dX4_image_13 : decode cX4_image 13 = .ok (.putfield 213, 3) := by decide +kernel
theorem dX4_image_16 : decode cX4_image 16 = .ok (.aload_n 0, 1) := by decide +kernel
theorem dX4_image_17 : decode cX4_image 17 = .ok (.getfield 10, 3) := by decide +kernel
theorem dX4_image_20 : decode cX4_image 20 = .ok (.getfield 125, 3) := by decide +kernel
theorem dX4_image_23 : decode cX4_image 23 = .ok (.ireturn, 1) := by decide +kernel
theorem dX4_restore_0 : decode cX4_restore 0 = .ok (.aload_n 0, 1) := by decide +kernel
theorem dX4_restore_1 : decode cX4_restore 1 = .ok (.getfield 213, 3) := by decide +kernel
theorem dX4_restore_4 : decode cX4_restore 4 = .ok (.ifCond .ne 10, 3) := by decide +kernel
theorem dX4_restore_7 : decode cX4_restore 7 = .ok (.aload_n 0, 1) := by decide +kernel
theorem dX4_restore_8 : decode cX4_restore 8 = .ok (.bipush (-3), 2) := by decide +kernel
theorem dX4_restore_10 : decode cX4_restore 10 = .ok (.invokevirtual 46, 3) := by decide +kernel
theorem dX4_restore_13 : decode cX4_restore 13 = .ok (.ireturn, 1) := by decide +kernel
theorem dX4_restore_14 : decode cX4_restore 14 = .ok (.aload_n 0, 1) := by decide +kernel
theorem dX4_restore_15 : decode cX4_restore 15 = .ok (.getfield 10, 3) := by decide +kernel
theorem dX4_restore_18 : decode cX4_restore 18 = .ok (.aload_n 0, 1) := by decide +kernel
theorem dX4_restore_19 : decode cX4_restore 19 = .ok (.getfield 16, 3) := by decide +kernel
theorem dX4_restore_22 : decode cX4_restore 22 = .ok (.invokevirtual 149, 3) := by decide +kernel
theorem dX4_restore_25 : decode cX4_restore 25 = .ok (.aload_n 0, 1) := by decide +kernel
theorem dX4_restore_26 : decode cX4_restore 26 = .ok (.getfield 10, 3) := by decide +kernel
theorem dX4_restore_29 : decode cX4_restore 29 = .ok (.getfield 125, 3) := by decide +kernel
theorem dX4_restore_32 : decode cX4_restore 32 = .ok (.ireturn, 1) := by decide +kernel
theorem dX4_count_0 : decode cX4_count 0 = .ok (.iload_n 1, 1) := by decide +kernel
theorem dX4_count_1 : decode cX4_count 1 = .ok (.tableswitch 146 0 16 #[83, 91, 99, 107, 115, 123, 131, 146, 146, 146, 146, 136, 136, 136, 136, 136, 136], 83) := by decide +kernel
theorem dX4_count_84 : decode cX4_count 84 = .ok (.aload_n 0, 1) := by decide +kernel
theorem dX4_count_85 : decode cX4_count 85 = .ok (.getfield 10, 3) := by decide +kernel
theorem dX4_count_88 : decode cX4_count 88 = .ok (.getfield 200, 3) := by decide +kernel
theorem dX4_count_91 : decode cX4_count 91 = .ok (.ireturn, 1) := by decide +kernel
theorem dX4_count_92 : decode cX4_count 92 = .ok (.aload_n 0, 1) := by decide +kernel
theorem dX4_count_93 : decode cX4_count 93 = .ok (.getfield 10, 3) := by decide +kernel
theorem dX4_count_96 : decode cX4_count 96 = .ok (.getfield 125, 3) := by decide +kernel
theorem dX4_count_99 : decode cX4_count 99 = .ok (.ireturn, 1) := by decide +kernel
theorem dX4_count_100 : decode cX4_count 100 = .ok (.aload_n 0, 1) := by decide +kernel
theorem dX4_count_101 : decode cX4_count 101 = .ok (.getfield 10, 3) := by decide +kernel
theorem dX4_count_104 : decode cX4_count 104 = .ok (.invokevirtual 146, 3) := by decide +kernel
theorem dX4_count_107 : decode cX4_count 107 = .ok (.ireturn, 1) := by decide +kernel
theorem dX4_count_108 : decode cX4_count 108 = .ok (.aload_n 0, 1) := by decide +kernel
theorem dX4_count_109 : decode cX4_count 109 = .ok (.getfield 10, 3) := by decide +kernel
theorem dX4_count_112 : decode cX4_count 112 = .ok (.invokevirtual 217, 3) := by decide +kernel
theorem dX4_count_115 : decode cX4_count 115 = .ok (.ireturn, 1) := by decide +kernel
theorem dX4_count_116 : decode cX4_count 116 = .ok (.aload_n 0, 1) := by decide +kernel
theorem dX4_count_117 : decode cX4_count 117 = .ok (.getfield 10, 3) := by decide +kernel
theorem dX4_count_120 : decode cX4_count 120 = .ok (.invokevirtual 220, 3) := by decide +kernel
theorem dX4_count_123 : decode cX4_count 123 = .ok (.ireturn, 1) := by decide +kernel
theorem dX4_count_124 : decode cX4_count 124 = .ok (.aload_n 0, 1) := by decide +kernel
theorem dX4_count_125 : decode cX4_count 125 = .ok (.getfield 32, 3) := by decide +kernel
theorem dX4_count_128 : decode cX4_count 128 = .ok (.getfield 223, 3) := by decide +kernel
theorem dX4_count_131 : decode cX4_count 131 = .ok (.ireturn, 1) := by decide +kernel
theorem dX4_count_132 : decode cX4_count 132 = .ok (.aload_n 0, 1) := by decide +kernel
theorem dX4_count_133 : decode cX4_count 133 = .ok (.getfield 190, 3) := by decide +kernel
theorem dX4_count_136 : decode cX4_count 136 = .ok (.ireturn, 1) := by decide +kernel
theorem dX4_count_137 : decode cX4_count 137 = .ok (.aload_n 0, 1) := by decide +kernel
theorem dX4_count_138 : decode cX4_count 138 = .ok (.getfield 43, 3) := by decide +kernel
theorem dX4_count_141 : decode cX4_count 141 = .ok (.iload_n 1, 1) := by decide +kernel
theorem dX4_count_142 : decode cX4_count 142 = .ok (.bipush 10, 2) := by decide +kernel
theorem dX4_count_144 : decode cX4_count 144 = .ok (.isub, 1) := by decide +kernel
theorem dX4_count_145 : decode cX4_count 145 = .ok (.iaload, 1) := by decide +kernel
theorem dX4_count_146 : decode cX4_count 146 = .ok (.ireturn, 1) := by decide +kernel
theorem dX4_count_147 : decode cX4_count 147 = .ok (.bipush (-9), 2) := by decide +kernel
theorem dX4_count_149 : decode cX4_count 149 = .ok (.ireturn, 1) := by decide +kernel
theorem dX4_refuse_0 : decode cX4_refuse 0 = .ok (.iload_n 1, 1) := by decide +kernel
theorem dX4_refuse_1 : decode cX4_refuse 1 = .ok (.bipush (-6), 2) := by decide +kernel
theorem dX4_refuse_3 : decode cX4_refuse 3 = .ok (.if_icmp .lt 19, 3) := by decide +kernel
theorem dX4_refuse_6 : decode cX4_refuse 6 = .ok (.iload_n 1, 1) := by decide +kernel
theorem dX4_refuse_7 : decode cX4_refuse 7 = .ok (.iconst (-1), 1) := by decide +kernel
theorem dX4_refuse_8 : decode cX4_refuse 8 = .ok (.if_icmp .gt 14, 3) := by decide +kernel
theorem dX4_refuse_11 : decode cX4_refuse 11 = .ok (.aload_n 0, 1) := by decide +kernel
theorem dX4_refuse_12 : decode cX4_refuse 12 = .ok (.getfield 43, 3) := by decide +kernel
theorem dX4_refuse_15 : decode cX4_refuse 15 = .ok (.iload_n 1, 1) := by decide +kernel
theorem dX4_refuse_16 : decode cX4_refuse 16 = .ok (.ineg, 1) := by decide +kernel
theorem dX4_refuse_17 : decode cX4_refuse 17 = .ok (.dup2, 1) := by decide +kernel
theorem dX4_refuse_18 : decode cX4_refuse 18 = .ok (.iaload, 1) := by decide +kernel
theorem dX4_refuse_19 : decode cX4_refuse 19 = .ok (.iconst 1, 1) := by decide +kernel
theorem dX4_refuse_20 : decode cX4_refuse 20 = .ok (.iadd, 1) := by decide +kernel
theorem dX4_refuse_21 : decode cX4_refuse 21 = .ok (.iastore, 1) := by decide +kernel
theorem dX4_refuse_22 : decode cX4_refuse 22 = .ok (.iload_n 1, 1) := by decide +kernel
theorem dX4_refuse_23 : decode cX4_refuse 23 = .ok (.ireturn, 1) := by decide +kernel
theorem dX4_outside_0 : decode cX4_outside 0 = .ok (.iload_n 0, 1) := by decide +kernel
theorem dX4_outside_1 : decode cX4_outside 1 = .ok (.iload_n 1, 1) := by decide +kernel
theorem dX4_outside_2 : decode cX4_outside 2 = .ok (.if_icmp .ge 8, 3) := by decide +kernel
theorem dX4_outside_5 : decode cX4_outside 5 = .ok (.bipush (-4), 2) := by decide +kernel
theorem dX4_outside_7 : decode cX4_outside 7 = .ok (.goto 14, 3) := by decide +kernel
theorem dX4_outside_10 : decode cX4_outside 10 = .ok (.iload_n 0, 1) := by decide +kernel
theorem dX4_outside_11 : decode cX4_outside 11 = .ok (.iload_n 2, 1) := by decide +kernel
theorem dX4_outside_12 : decode cX4_outside 12 = .ok (.if_icmp .le 8, 3) := by decide +kernel
theorem dX4_outside_15 : decode cX4_outside 15 = .ok (.bipush (-6), 2) := by decide +kernel
theorem dX4_outside_17 : decode cX4_outside 17 = .ok (.goto 4, 3) := by decide +kernel
theorem dX4_outside_20 : decode cX4_outside 20 = .ok (.iconst 0, 1) := by decide +kernel
theorem dX4_outside_21 : decode cX4_outside 21 = .ok (.ireturn, 1) := by decide +kernel
theorem dX4_ofOneRefusal_0 : decode cX4_ofOneRefusal 0 = .ok (.aload_n 0, 1) := by decide +kernel
theorem dX4_ofOneRefusal_1 : decode cX4_ofOneRefusal 1 = .ok (.getfield 10, 3) := by decide +kernel
theorem dX4_ofOneRefusal_4 : decode cX4_ofOneRefusal 4 = .ok (.iload_n 1, 1) := by decide +kernel
theorem dX4_ofOneRefusal_5 : decode cX4_ofOneRefusal 5 = .ok (.invokevirtual 64, 3) := by decide +kernel
theorem dX4_ofOneRefusal_8 : decode cX4_ofOneRefusal 8 = .ok (.ifCond .eq 13, 3) := by decide +kernel
theorem dX4_ofOneRefusal_11 : decode cX4_ofOneRefusal 11 = .ok (.iload_n 2, 1) := by decide +kernel
theorem dX4_ofOneRefusal_12 : decode cX4_ofOneRefusal 12 = .ok (.iload_n 3, 1) := by decide +kernel
theorem dX4_ofOneRefusal_13 : decode cX4_ofOneRefusal 13 = .ok (.iload 4, 2) := by decide +kernel
theorem dX4_ofOneRefusal_15 : decode cX4_ofOneRefusal 15 = .ok (.invokestatic 111, 3) := by decide +kernel
theorem dX4_ofOneRefusal_18 : decode cX4_ofOneRefusal 18 = .ok (.goto 4, 3) := by decide +kernel
theorem dX4_ofOneRefusal_21 : decode cX4_ofOneRefusal 21 = .ok (.iconst (-1), 1) := by decide +kernel
theorem dX4_ofOneRefusal_22 : decode cX4_ofOneRefusal 22 = .ok (.ireturn, 1) := by decide +kernel
theorem dX4_ofOneTwiceRefusal_0 : decode cX4_ofOneTwiceRefusal 0 = .ok (.aload_n 0, 1) := by decide +kernel
theorem dX4_ofOneTwiceRefusal_1 : decode cX4_ofOneTwiceRefusal 1 = .ok (.getfield 10, 3) := by decide +kernel
theorem dX4_ofOneTwiceRefusal_4 : decode cX4_ofOneTwiceRefusal 4 = .ok (.iload_n 1, 1) := by decide +kernel
theorem dX4_ofOneTwiceRefusal_5 : decode cX4_ofOneTwiceRefusal 5 = .ok (.invokevirtual 64, 3) := by decide +kernel
theorem dX4_ofOneTwiceRefusal_8 : decode cX4_ofOneTwiceRefusal 8 = .ok (.ifCond .ne 5, 3) := by decide +kernel
theorem dX4_ofOneTwiceRefusal_11 : decode cX4_ofOneTwiceRefusal 11 = .ok (.iconst (-1), 1) := by decide +kernel
theorem dX4_ofOneTwiceRefusal_12 : decode cX4_ofOneTwiceRefusal 12 = .ok (.ireturn, 1) := by decide +kernel
theorem dX4_ofOneTwiceRefusal_13 : decode cX4_ofOneTwiceRefusal 13 = .ok (.iload_n 2, 1) := by decide +kernel
theorem dX4_ofOneTwiceRefusal_14 : decode cX4_ofOneTwiceRefusal 14 = .ok (.bipush (-4), 2) := by decide +kernel
theorem dX4_ofOneTwiceRefusal_16 : decode cX4_ofOneTwiceRefusal 16 = .ok (.if_icmp .eq 9, 3) := by decide +kernel
theorem dX4_ofOneTwiceRefusal_19 : decode cX4_ofOneTwiceRefusal 19 = .ok (.iload_n 3, 1) := by decide +kernel
theorem dX4_ofOneTwiceRefusal_20 : decode cX4_ofOneTwiceRefusal 20 = .ok (.bipush (-4), 2) := by decide +kernel
theorem dX4_ofOneTwiceRefusal_22 : decode cX4_ofOneTwiceRefusal 22 = .ok (.if_icmp .ne 6, 3) := by decide +kernel
theorem dX4_ofOneTwiceRefusal_25 : decode cX4_ofOneTwiceRefusal 25 = .ok (.bipush (-4), 2) := by decide +kernel
theorem dX4_ofOneTwiceRefusal_27 : decode cX4_ofOneTwiceRefusal 27 = .ok (.ireturn, 1) := by decide +kernel
theorem dX4_ofOneTwiceRefusal_28 : decode cX4_ofOneTwiceRefusal 28 = .ok (.iload_n 2, 1) := by decide +kernel
theorem dX4_ofOneTwiceRefusal_29 : decode cX4_ofOneTwiceRefusal 29 = .ok (.ifCond .eq 7, 3) := by decide +kernel
theorem dX4_ofOneTwiceRefusal_32 : decode cX4_ofOneTwiceRefusal 32 = .ok (.iload_n 2, 1) := by decide +kernel
theorem dX4_ofOneTwiceRefusal_33 : decode cX4_ofOneTwiceRefusal 33 = .ok (.goto 4, 3) := by decide +kernel
theorem dX4_ofOneTwiceRefusal_36 : decode cX4_ofOneTwiceRefusal 36 = .ok (.iload_n 3, 1) := by decide +kernel
theorem dX4_ofOneTwiceRefusal_37 : decode cX4_ofOneTwiceRefusal 37 = .ok (.ireturn, 1) := by decide +kernel
theorem dX4_putRefusal_0 : decode cX4_putRefusal 0 = .ok (.aload_n 0, 1) := by decide +kernel
theorem dX4_putRefusal_1 : decode cX4_putRefusal 1 = .ok (.getfield 10, 3) := by decide +kernel
theorem dX4_putRefusal_4 : decode cX4_putRefusal 4 = .ok (.iload_n 1, 1) := by decide +kernel
theorem dX4_putRefusal_5 : decode cX4_putRefusal 5 = .ok (.invokevirtual 64, 3) := by decide +kernel
theorem dX4_putRefusal_8 : decode cX4_putRefusal 8 = .ok (.ifCond .ne 5, 3) := by decide +kernel
theorem dX4_putRefusal_11 : decode cX4_putRefusal 11 = .ok (.iconst (-1), 1) := by decide +kernel
theorem dX4_putRefusal_12 : decode cX4_putRefusal 12 = .ok (.ireturn, 1) := by decide +kernel
theorem dX4_putRefusal_13 : decode cX4_putRefusal 13 = .ok (.iload_n 2, 1) := by decide +kernel
theorem dX4_putRefusal_14 : decode cX4_putRefusal 14 = .ok (.ifCond .lt 8, 3) := by decide +kernel
theorem dX4_putRefusal_17 : decode cX4_putRefusal 17 = .ok (.iload_n 2, 1) := by decide +kernel
theorem dX4_putRefusal_18 : decode cX4_putRefusal 18 = .ok (.iconst 2, 1) := by decide +kernel
theorem dX4_putRefusal_19 : decode cX4_putRefusal 19 = .ok (.if_icmp .le 6, 3) := by decide +kernel
theorem dX4_putRefusal_22 : decode cX4_putRefusal 22 = .ok (.bipush (-2), 2) := by decide +kernel
theorem dX4_putRefusal_24 : decode cX4_putRefusal 24 = .ok (.ireturn, 1) := by decide +kernel
theorem dX4_putRefusal_25 : decode cX4_putRefusal 25 = .ok (.iload_n 2, 1) := by decide +kernel
theorem dX4_putRefusal_26 : decode cX4_putRefusal 26 = .ok (.iconst 2, 1) := by decide +kernel
theorem dX4_putRefusal_27 : decode cX4_putRefusal 27 = .ok (.if_icmp .ne 26, 3) := by decide +kernel
theorem dX4_putRefusal_30 : decode cX4_putRefusal 30 = .ok (.iload_n 3, 1) := by decide +kernel
theorem dX4_putRefusal_31 : decode cX4_putRefusal 31 = .ok (.bipush 9, 2) := by decide +kernel
theorem dX4_putRefusal_33 : decode cX4_putRefusal 33 = .ok (.if_icmp .eq 14, 3) := by decide +kernel
theorem dX4_putRefusal_36 : decode cX4_putRefusal 36 = .ok (.aload_n 0, 1) := by decide +kernel
theorem dX4_putRefusal_37 : decode cX4_putRefusal 37 = .ok (.getfield 10, 3) := by decide +kernel
theorem dX4_putRefusal_40 : decode cX4_putRefusal 40 = .ok (.iload_n 3, 1) := by decide +kernel
theorem dX4_putRefusal_41 : decode cX4_putRefusal 41 = .ok (.invokevirtual 64, 3) := by decide +kernel
theorem dX4_putRefusal_44 : decode cX4_putRefusal 44 = .ok (.ifCond .eq 7, 3) := by decide +kernel
theorem dX4_putRefusal_47 : decode cX4_putRefusal 47 = .ok (.iconst 0, 1) := by decide +kernel
theorem dX4_putRefusal_48 : decode cX4_putRefusal 48 = .ok (.goto 4, 3) := by decide +kernel
theorem dX4_putRefusal_51 : decode cX4_putRefusal 51 = .ok (.iconst (-1), 1) := by decide +kernel
theorem dX4_putRefusal_52 : decode cX4_putRefusal 52 = .ok (.ireturn, 1) := by decide +kernel
theorem dX4_putRefusal_53 : decode cX4_putRefusal 53 = .ok (.iload_n 3, 1) := by decide +kernel
theorem dX4_putRefusal_54 : decode cX4_putRefusal 54 = .ok (.iconst 0, 1) := by decide +kernel
theorem dX4_putRefusal_55 : decode cX4_putRefusal 55 = .ok (.iload_n 2, 1) := by decide +kernel
theorem dX4_putRefusal_56 : decode cX4_putRefusal 56 = .ok (.ifCond .ne 9, 3) := by decide +kernel
theorem dX4_putRefusal_59 : decode cX4_putRefusal 59 = .ok (.sipush 9999, 3) := by decide +kernel
theorem dX4_putRefusal_62 : decode cX4_putRefusal 62 = .ok (.goto 5, 3) := by decide +kernel
theorem dX4_putRefusal_65 : decode cX4_putRefusal 65 = .ok (.bipush 99, 2) := by decide +kernel
theorem dX4_putRefusal_67 : decode cX4_putRefusal 67 = .ok (.invokestatic 111, 3) := by decide +kernel
theorem dX4_putRefusal_70 : decode cX4_putRefusal 70 = .ok (.ireturn, 1) := by decide +kernel
theorem dX4_think_0 : decode cX4_think 0 = .ok (.aload_n 0, 1) := by decide +kernel
theorem dX4_think_1 : decode cX4_think 1 = .ok (.getfield 19, 3) := by decide +kernel
theorem dX4_think_4 : decode cX4_think 4 = .ok (.aload_n 0, 1) := by decide +kernel
theorem dX4_think_5 : decode cX4_think 5 = .ok (.getfield 10, 3) := by decide +kernel
theorem dX4_think_8 : decode cX4_think 8 = .ok (.invokevirtual 149, 3) := by decide +kernel
theorem dX4_think_11 : decode cX4_think 11 = .ok (.aload_n 0, 1) := by decide +kernel
theorem dX4_think_12 : decode cX4_think 12 = .ok (.getfield 19, 3) := by decide +kernel
theorem dX4_think_15 : decode cX4_think 15 = .ok (.iload_n 1, 1) := by decide +kernel
theorem dX4_think_16 : decode cX4_think 16 = .ok (.invokevirtual 187, 3) := by decide +kernel
theorem dX4_think_19 : decode cX4_think 19 = .ok (.return_, 1) := by decide +kernel
theorem dX4_quietDayInMind_0 : decode cX4_quietDayInMind 0 = .ok (.aload_n 0, 1) := by decide +kernel
theorem dX4_quietDayInMind_1 : decode cX4_quietDayInMind 1 = .ok (.getfield 19, 3) := by decide +kernel
theorem dX4_quietDayInMind_4 : decode cX4_quietDayInMind 4 = .ok (.getfield 77, 3) := by decide +kernel
theorem dX4_quietDayInMind_7 : decode cX4_quietDayInMind 7 = .ok (.iconst 0, 1) := by decide +kernel
theorem dX4_quietDayInMind_8 : decode cX4_quietDayInMind 8 = .ok (.aload_n 0, 1) := by decide +kernel
theorem dX4_quietDayInMind_9 : decode cX4_quietDayInMind 9 = .ok (.getfield 36, 3) := by decide +kernel
theorem dX4_quietDayInMind_12 : decode cX4_quietDayInMind 12 = .ok (.iconst 0, 1) := by decide +kernel
theorem dX4_quietDayInMind_13 : decode cX4_quietDayInMind 13 = .ok (.bipush 6, 2) := by decide +kernel
theorem dX4_quietDayInMind_15 : decode cX4_quietDayInMind 15 = .ok (.invokestatic 226, 3) := by decide +kernel
theorem dX4_quietDayInMind_18 : decode cX4_quietDayInMind 18 = .ok (.aload_n 0, 1) := by decide +kernel
theorem dX4_quietDayInMind_19 : decode cX4_quietDayInMind 19 = .ok (.getfield 19, 3) := by decide +kernel
theorem dX4_quietDayInMind_22 : decode cX4_quietDayInMind 22 = .ok (.invokevirtual 132, 3) := by decide +kernel
theorem dX4_quietDayInMind_25 : decode cX4_quietDayInMind 25 = .ok (.pop, 1) := by decide +kernel
theorem dX4_quietDayInMind_26 : decode cX4_quietDayInMind 26 = .ok (.iconst 0, 1) := by decide +kernel
theorem dX4_quietDayInMind_27 : decode cX4_quietDayInMind 27 = .ok (.istore_n 1, 1) := by decide +kernel
theorem dX4_quietDayInMind_28 : decode cX4_quietDayInMind 28 = .ok (.iload_n 1, 1) := by decide +kernel
theorem dX4_quietDayInMind_29 : decode cX4_quietDayInMind 29 = .ok (.aload_n 0, 1) := by decide +kernel
theorem dX4_quietDayInMind_30 : decode cX4_quietDayInMind 30 = .ok (.getfield 19, 3) := by decide +kernel
theorem dX4_quietDayInMind_33 : decode cX4_quietDayInMind 33 = .ok (.getfield 200, 3) := by decide +kernel
theorem dX4_quietDayInMind_36 : decode cX4_quietDayInMind 36 = .ok (.if_icmp .ge 29, 3) := by decide +kernel
theorem dX4_quietDayInMind_39 : decode cX4_quietDayInMind 39 = .ok (.aload_n 0, 1) := by decide +kernel
theorem dX4_quietDayInMind_40 : decode cX4_quietDayInMind 40 = .ok (.getfield 19, 3) := by decide +kernel
theorem dX4_quietDayInMind_43 : decode cX4_quietDayInMind 43 = .ok (.getfield 77, 3) := by decide +kernel
theorem dX4_quietDayInMind_46 : decode cX4_quietDayInMind 46 = .ok (.iload_n 1, 1) := by decide +kernel
theorem dX4_quietDayInMind_47 : decode cX4_quietDayInMind 47 = .ok (.iaload, 1) := by decide +kernel
theorem dX4_quietDayInMind_48 : decode cX4_quietDayInMind 48 = .ok (.aload_n 0, 1) := by decide +kernel
theorem dX4_quietDayInMind_49 : decode cX4_quietDayInMind 49 = .ok (.getfield 36, 3) := by decide +kernel
theorem dX4_quietDayInMind_52 : decode cX4_quietDayInMind 52 = .ok (.iload_n 1, 1) := by decide +kernel
theorem dX4_quietDayInMind_53 : decode cX4_quietDayInMind 53 = .ok (.iaload, 1) := by decide +kernel
theorem dX4_quietDayInMind_54 : decode cX4_quietDayInMind 54 = .ok (.if_icmp .eq 5, 3) := by decide +kernel
theorem dX4_quietDayInMind_57 : decode cX4_quietDayInMind 57 = .ok (.iconst 0, 1) := by decide +kernel
theorem dX4_quietDayInMind_58 : decode cX4_quietDayInMind 58 = .ok (.ireturn, 1) := by decide +kernel
theorem dX4_quietDayInMind_59 : decode cX4_quietDayInMind 59 = .ok (.iinc 1 1, 3) := by decide +kernel
theorem dX4_quietDayInMind_62 : decode cX4_quietDayInMind 62 = .ok (.goto (-34), 3) := by decide +kernel
theorem dX4_quietDayInMind_65 : decode cX4_quietDayInMind 65 = .ok (.iconst 1, 1) := by decide +kernel
theorem dX4_quietDayInMind_66 : decode cX4_quietDayInMind 66 = .ok (.ireturn, 1) := by decide +kernel
theorem dX4_hasByLaw_0 : decode cX4_hasByLaw 0 = .ok (.aload_n 0, 1) := by decide +kernel
theorem dX4_hasByLaw_1 : decode cX4_hasByLaw 1 = .ok (.getfield 19, 3) := by decide +kernel
theorem dX4_hasByLaw_4 : decode cX4_hasByLaw 4 = .ok (.aload_n 0, 1) := by decide +kernel
theorem dX4_hasByLaw_5 : decode cX4_hasByLaw 5 = .ok (.getfield 10, 3) := by decide +kernel
theorem dX4_hasByLaw_8 : decode cX4_hasByLaw 8 = .ok (.invokevirtual 149, 3) := by decide +kernel
theorem dX4_hasByLaw_11 : decode cX4_hasByLaw 11 = .ok (.aload_n 0, 1) := by decide +kernel
theorem dX4_hasByLaw_12 : decode cX4_hasByLaw 12 = .ok (.getfield 19, 3) := by decide +kernel
theorem dX4_hasByLaw_15 : decode cX4_hasByLaw 15 = .ok (.iconst 0, 1) := by decide +kernel
theorem dX4_hasByLaw_16 : decode cX4_hasByLaw 16 = .ok (.iload_n 1, 1) := by decide +kernel
theorem dX4_hasByLaw_17 : decode cX4_hasByLaw 17 = .ok (.invokevirtual 114, 3) := by decide +kernel
theorem dX4_hasByLaw_20 : decode cX4_hasByLaw 20 = .ok (.pop, 1) := by decide +kernel
theorem dX4_hasByLaw_21 : decode cX4_hasByLaw 21 = .ok (.aload_n 0, 1) := by decide +kernel
theorem dX4_hasByLaw_22 : decode cX4_hasByLaw 22 = .ok (.getfield 19, 3) := by decide +kernel
theorem dX4_hasByLaw_25 : decode cX4_hasByLaw 25 = .ok (.iload_n 3, 1) := by decide +kernel
theorem dX4_hasByLaw_26 : decode cX4_hasByLaw 26 = .ok (.invokevirtual 187, 3) := by decide +kernel
theorem dX4_hasByLaw_29 : decode cX4_hasByLaw 29 = .ok (.aload_n 0, 1) := by decide +kernel
theorem dX4_hasByLaw_30 : decode cX4_hasByLaw 30 = .ok (.getfield 19, 3) := by decide +kernel
theorem dX4_hasByLaw_33 : decode cX4_hasByLaw 33 = .ok (.getfield 77, 3) := by decide +kernel
theorem dX4_hasByLaw_36 : decode cX4_hasByLaw 36 = .ok (.iload_n 2, 1) := by decide +kernel
theorem dX4_hasByLaw_37 : decode cX4_hasByLaw 37 = .ok (.iaload, 1) := by decide +kernel
theorem dX4_hasByLaw_38 : decode cX4_hasByLaw 38 = .ok (.ireturn, 1) := by decide +kernel
theorem dX4_readLand_0 : decode cX4_readLand 0 = .ok (.aload_n 0, 1) := by decide +kernel
theorem dX4_readLand_1 : decode cX4_readLand 1 = .ok (.getfield 32, 3) := by decide +kernel
theorem dX4_readLand_4 : decode cX4_readLand 4 = .ok (.invokevirtual 232, 3) := by decide +kernel
theorem dX4_readLand_7 : decode cX4_readLand 7 = .ok (.istore_n 1, 1) := by decide +kernel
theorem dX4_readLand_8 : decode cX4_readLand 8 = .ok (.iload_n 1, 1) := by decide +kernel
theorem dX4_readLand_9 : decode cX4_readLand 9 = .ok (.ifCond .lt 9, 3) := by decide +kernel
theorem dX4_readLand_12 : decode cX4_readLand 12 = .ok (.sipush (-1000), 3) := by decide +kernel
theorem dX4_readLand_15 : decode cX4_readLand 15 = .ok (.iload_n 1, 1) := by decide +kernel
theorem dX4_readLand_16 : decode cX4_readLand 16 = .ok (.isub, 1) := by decide +kernel
theorem dX4_readLand_17 : decode cX4_readLand 17 = .ok (.ireturn, 1) := by decide +kernel
theorem dX4_readLand_18 : decode cX4_readLand 18 = .ok (.aload_n 0, 1) := by decide +kernel
theorem dX4_readLand_19 : decode cX4_readLand 19 = .ok (.getfield 19, 3) := by decide +kernel
theorem dX4_readLand_22 : decode cX4_readLand 22 = .ok (.aload_n 0, 1) := by decide +kernel
theorem dX4_readLand_23 : decode cX4_readLand 23 = .ok (.getfield 10, 3) := by decide +kernel
theorem dX4_readLand_26 : decode cX4_readLand 26 = .ok (.invokevirtual 149, 3) := by decide +kernel
theorem dX4_readLand_29 : decode cX4_readLand 29 = .ok (.iconst 0, 1) := by decide +kernel
theorem dX4_readLand_30 : decode cX4_readLand 30 = .ok (.istore_n 2, 1) := by decide +kernel
theorem dX4_readLand_31 : decode cX4_readLand 31 = .ok (.iconst 0, 1) := by decide +kernel
theorem dX4_readLand_32 : decode cX4_readLand 32 = .ok (.istore_n 3, 1) := by decide +kernel
theorem dX4_readLand_33 : decode cX4_readLand 33 = .ok (.iconst 0, 1) := by decide +kernel
theorem dX4_readLand_34 : decode cX4_readLand 34 = .ok (.istore 4, 2) := by decide +kernel
theorem dX4_readLand_36 : decode cX4_readLand 36 = .ok (.iload 4, 2) := by decide +kernel
theorem dX4_readLand_38 : decode cX4_readLand 38 = .ok (.bipush 64, 2) := by decide +kernel
theorem dX4_readLand_40 : decode cX4_readLand 40 = .ok (.if_icmp .ge 50, 3) := by decide +kernel
theorem dX4_readLand_43 : decode cX4_readLand 43 = .ok (.iload_n 3, 1) := by decide +kernel
theorem dX4_readLand_44 : decode cX4_readLand 44 = .ok (.aload_n 0, 1) := by decide +kernel
theorem dX4_readLand_45 : decode cX4_readLand 45 = .ok (.getfield 32, 3) := by decide +kernel
theorem dX4_readLand_48 : decode cX4_readLand 48 = .ok (.getfield 223, 3) := by decide +kernel
theorem dX4_readLand_51 : decode cX4_readLand 51 = .ok (.if_icmp .ge 39, 3) := by decide +kernel
theorem dX4_readLand_54 : decode cX4_readLand 54 = .ok (.aload_n 0, 1) := by decide +kernel
theorem dX4_readLand_55 : decode cX4_readLand 55 = .ok (.iload_n 3, 1) := by decide +kernel
theorem dX4_readLand_56 : decode cX4_readLand 56 = .ok (.invokevirtual 235, 3) := by decide +kernel
theorem dX4_readLand_59 : decode cX4_readLand 59 = .ok (.ifCond .ne 9, 3) := by decide +kernel
theorem dX4_readLand_62 : decode cX4_readLand 62 = .ok (.sipush (-2000), 3) := by decide +kernel
theorem dX4_readLand_65 : decode cX4_readLand 65 = .ok (.iload_n 3, 1) := by decide +kernel
theorem dX4_readLand_66 : decode cX4_readLand 66 = .ok (.isub, 1) := by decide +kernel
theorem dX4_readLand_67 : decode cX4_readLand 67 = .ok (.ireturn, 1) := by decide +kernel
theorem dX4_readLand_68 : decode cX4_readLand 68 = .ok (.iinc 2 1, 3) := by decide +kernel
theorem dX4_readLand_71 : decode cX4_readLand 71 = .ok (.aload_n 0, 1) := by decide +kernel
theorem dX4_readLand_72 : decode cX4_readLand 72 = .ok (.getfield 32, 3) := by decide +kernel
theorem dX4_readLand_75 : decode cX4_readLand 75 = .ok (.bipush 59, 2) := by decide +kernel
theorem dX4_readLand_77 : decode cX4_readLand 77 = .ok (.iload_n 3, 1) := by decide +kernel
theorem dX4_readLand_78 : decode cX4_readLand 78 = .ok (.invokevirtual 238, 3) := by decide +kernel
theorem dX4_readLand_81 : decode cX4_readLand 81 = .ok (.iconst 1, 1) := by decide +kernel
theorem dX4_readLand_82 : decode cX4_readLand 82 = .ok (.iadd, 1) := by decide +kernel
theorem dX4_readLand_83 : decode cX4_readLand 83 = .ok (.istore_n 3, 1) := by decide +kernel
theorem dX4_readLand_84 : decode cX4_readLand 84 = .ok (.iinc 4 1, 3) := by decide +kernel
theorem dX4_readLand_87 : decode cX4_readLand 87 = .ok (.goto (-51), 3) := by decide +kernel
theorem dX4_readLand_90 : decode cX4_readLand 90 = .ok (.aload_n 0, 1) := by decide +kernel
theorem dX4_readLand_91 : decode cX4_readLand 91 = .ok (.getfield 10, 3) := by decide +kernel
theorem dX4_readLand_94 : decode cX4_readLand 94 = .ok (.aload_n 0, 1) := by decide +kernel
theorem dX4_readLand_95 : decode cX4_readLand 95 = .ok (.getfield 19, 3) := by decide +kernel
theorem dX4_readLand_98 : decode cX4_readLand 98 = .ok (.invokevirtual 149, 3) := by decide +kernel
theorem dX4_readLand_101 : decode cX4_readLand 101 = .ok (.iload_n 2, 1) := by decide +kernel
theorem dX4_readLand_102 : decode cX4_readLand 102 = .ok (.ireturn, 1) := by decide +kernel
theorem dX4_comesInMind_0 : decode cX4_comesInMind 0 = .ok (.aload_n 0, 1) := by decide +kernel
theorem dX4_comesInMind_1 : decode cX4_comesInMind 1 = .ok (.getfield 32, 3) := by decide +kernel
theorem dX4_comesInMind_4 : decode cX4_comesInMind 4 = .ok (.iload_n 1, 1) := by decide +kernel
theorem dX4_comesInMind_5 : decode cX4_comesInMind 5 = .ok (.iconst 1, 1) := by decide +kernel
theorem dX4_comesInMind_6 : decode cX4_comesInMind 6 = .ok (.iadd, 1) := by decide +kernel
theorem dX4_comesInMind_7 : decode cX4_comesInMind 7 = .ok (.invokevirtual 241, 3) := by decide +kernel
theorem dX4_comesInMind_10 : decode cX4_comesInMind 10 = .ok (.istore_n 2, 1) := by decide +kernel
theorem dX4_comesInMind_11 : decode cX4_comesInMind 11 = .ok (.aload_n 0, 1) := by decide +kernel
theorem dX4_comesInMind_12 : decode cX4_comesInMind 12 = .ok (.getfield 32, 3) := by decide +kernel
theorem dX4_comesInMind_15 : decode cX4_comesInMind 15 = .ok (.iload_n 1, 1) := by decide +kernel
theorem dX4_comesInMind_16 : decode cX4_comesInMind 16 = .ok (.iconst 2, 1) := by decide +kernel
theorem dX4_comesInMind_17 : decode cX4_comesInMind 17 = .ok (.iadd, 1) := by decide +kernel
theorem dX4_comesInMind_18 : decode cX4_comesInMind 18 = .ok (.invokevirtual 241, 3) := by decide +kernel
theorem dX4_comesInMind_21 : decode cX4_comesInMind 21 = .ok (.istore_n 3, 1) := by decide +kernel
theorem dX4_comesInMind_22 : decode cX4_comesInMind 22 = .ok (.aload_n 0, 1) := by decide +kernel
theorem dX4_comesInMind_23 : decode cX4_comesInMind 23 = .ok (.getfield 32, 3) := by decide +kernel
theorem dX4_comesInMind_26 : decode cX4_comesInMind 26 = .ok (.iload_n 1, 1) := by decide +kernel
theorem dX4_comesInMind_27 : decode cX4_comesInMind 27 = .ok (.iconst 3, 1) := by decide +kernel
theorem dX4_comesInMind_28 : decode cX4_comesInMind 28 = .ok (.iadd, 1) := by decide +kernel
theorem dX4_comesInMind_29 : decode cX4_comesInMind 29 = .ok (.invokevirtual 241, 3) := by decide +kernel
theorem dX4_comesInMind_32 : decode cX4_comesInMind 32 = .ok (.istore 4, 2) := by decide +kernel
theorem dX4_comesInMind_34 : decode cX4_comesInMind 34 = .ok (.aload_n 0, 1) := by decide +kernel
theorem dX4_comesInMind_35 : decode cX4_comesInMind 35 = .ok (.getfield 32, 3) := by decide +kernel
theorem dX4_comesInMind_38 : decode cX4_comesInMind 38 = .ok (.bipush 108, 2) := by decide +kernel
theorem dX4_comesInMind_40 : decode cX4_comesInMind 40 = .ok (.iload_n 1, 1) := by decide +kernel
theorem dX4_comesInMind_41 : decode cX4_comesInMind 41 = .ok (.invokevirtual 244, 3) := by decide +kernel
theorem dX4_comesInMind_44 : decode cX4_comesInMind 44 = .ok (.ifCond .eq 15, 3) := by decide +kernel
theorem dX4_comesInMind_47 : decode cX4_comesInMind 47 = .ok (.aload_n 0, 1) := by decide +kernel
theorem dX4_comesInMind_48 : decode cX4_comesInMind 48 = .ok (.getfield 19, 3) := by decide +kernel
theorem dX4_comesInMind_51 : decode cX4_comesInMind 51 = .ok (.iload_n 2, 1) := by decide +kernel
theorem dX4_comesInMind_52 : decode cX4_comesInMind 52 = .ok (.iload_n 3, 1) := by decide +kernel
theorem dX4_comesInMind_53 : decode cX4_comesInMind 53 = .ok (.iload 4, 2) := by decide +kernel
theorem dX4_comesInMind_55 : decode cX4_comesInMind 55 = .ok (.invokevirtual 248, 3) := by decide +kernel
theorem dX4_comesInMind_58 : decode cX4_comesInMind 58 = .ok (.ireturn, 1) := by decide +kernel
theorem dX4_comesInMind_59 : decode cX4_comesInMind 59 = .ok (.aload_n 0, 1) := by decide +kernel
theorem dX4_comesInMind_60 : decode cX4_comesInMind 60 = .ok (.getfield 32, 3) := by decide +kernel
theorem dX4_comesInMind_63 : decode cX4_comesInMind 63 = .ok (.iload_n 1, 1) := by decide +kernel
theorem dX4_comesInMind_64 : decode cX4_comesInMind 64 = .ok (.iconst 4, 1) := by decide +kernel
theorem dX4_comesInMind_65 : decode cX4_comesInMind 65 = .ok (.iadd, 1) := by decide +kernel
theorem dX4_comesInMind_66 : decode cX4_comesInMind 66 = .ok (.invokevirtual 252, 3) := by decide +kernel
theorem dX4_comesInMind_69 : decode cX4_comesInMind 69 = .ok (.istore 5, 2) := by decide +kernel
theorem dX4_comesInMind_71 : decode cX4_comesInMind 71 = .ok (.aload_n 0, 1) := by decide +kernel
theorem dX4_comesInMind_72 : decode cX4_comesInMind 72 = .ok (.getfield 32, 3) := by decide +kernel
theorem dX4_comesInMind_75 : decode cX4_comesInMind 75 = .ok (.aload_n 0, 1) := by decide +kernel
theorem dX4_comesInMind_76 : decode cX4_comesInMind 76 = .ok (.getfield 32, 3) := by decide +kernel
theorem dX4_comesInMind_79 : decode cX4_comesInMind 79 = .ok (.bipush 44, 2) := by decide +kernel
theorem dX4_comesInMind_81 : decode cX4_comesInMind 81 = .ok (.iload_n 1, 1) := by decide +kernel
theorem dX4_comesInMind_82 : decode cX4_comesInMind 82 = .ok (.invokevirtual 238, 3) := by decide +kernel
theorem dX4_comesInMind_85 : decode cX4_comesInMind 85 = .ok (.iconst 1, 1) := by decide +kernel
theorem dX4_comesInMind_86 : decode cX4_comesInMind 86 = .ok (.iadd, 1) := by decide +kernel
theorem dX4_comesInMind_87 : decode cX4_comesInMind 87 = .ok (.invokevirtual 252, 3) := by decide +kernel
theorem dX4_comesInMind_90 : decode cX4_comesInMind 90 = .ok (.istore 6, 2) := by decide +kernel
theorem dX4_comesInMind_92 : decode cX4_comesInMind 92 = .ok (.aload_n 0, 1) := by decide +kernel
theorem dX4_comesInMind_93 : decode cX4_comesInMind 93 = .ok (.getfield 19, 3) := by decide +kernel
theorem dX4_comesInMind_96 : decode cX4_comesInMind 96 = .ok (.iload_n 2, 1) := by decide +kernel
theorem dX4_comesInMind_97 : decode cX4_comesInMind 97 = .ok (.iload_n 3, 1) := by decide +kernel
theorem dX4_comesInMind_98 : decode cX4_comesInMind 98 = .ok (.iload 4, 2) := by decide +kernel
theorem dX4_comesInMind_100 : decode cX4_comesInMind 100 = .ok (.iload 5, 2) := by decide +kernel
theorem dX4_comesInMind_102 : decode cX4_comesInMind 102 = .ok (.iload 6, 2) := by decide +kernel
theorem dX4_comesInMind_104 : decode cX4_comesInMind 104 = .ok (.invokevirtual 255, 3) := by decide +kernel
theorem dX4_comesInMind_107 : decode cX4_comesInMind 107 = .ok (.ireturn, 1) := by decide +kernel
theorem dX4_lookAtBook_0 : decode cX4_lookAtBook 0 = .ok (.aload_n 0, 1) := by decide +kernel
theorem dX4_lookAtBook_1 : decode cX4_lookAtBook 1 = .ok (.getfield 19, 3) := by decide +kernel
theorem dX4_lookAtBook_4 : decode cX4_lookAtBook 4 = .ok (.aload_n 0, 1) := by decide +kernel
theorem dX4_lookAtBook_5 : decode cX4_lookAtBook 5 = .ok (.getfield 10, 3) := by decide +kernel
theorem dX4_lookAtBook_8 : decode cX4_lookAtBook 8 = .ok (.invokevirtual 149, 3) := by decide +kernel
theorem dX4_lookAtBook_11 : decode cX4_lookAtBook 11 = .ok (.bipush (-9), 2) := by decide +kernel
theorem dX4_lookAtBook_13 : decode cX4_lookAtBook 13 = .ok (.istore_n 3, 1) := by decide +kernel
theorem dX4_lookAtBook_14 : decode cX4_lookAtBook 14 = .ok (.iconst 0, 1) := by decide +kernel
theorem dX4_lookAtBook_15 : decode cX4_lookAtBook 15 = .ok (.istore 4, 2) := by decide +kernel
theorem dX4_lookAtBook_17 : decode cX4_lookAtBook 17 = .ok (.iload 4, 2) := by decide +kernel
theorem dX4_lookAtBook_19 : decode cX4_lookAtBook 19 = .ok (.aload_n 0, 1) := by decide +kernel
theorem dX4_lookAtBook_20 : decode cX4_lookAtBook 20 = .ok (.getfield 190, 3) := by decide +kernel
theorem dX4_lookAtBook_23 : decode cX4_lookAtBook 23 = .ok (.if_icmp .ge 65, 3) := by decide +kernel
theorem dX4_lookAtBook_26 : decode cX4_lookAtBook 26 = .ok (.iload_n 3, 1) := by decide +kernel
theorem dX4_lookAtBook_27 : decode cX4_lookAtBook 27 = .ok (.bipush (-9), 2) := by decide +kernel
theorem dX4_lookAtBook_29 : decode cX4_lookAtBook 29 = .ok (.if_icmp .ne 59, 3) := by decide +kernel
theorem dX4_lookAtBook_32 : decode cX4_lookAtBook 32 = .ok (.aload_n 0, 1) := by decide +kernel
theorem dX4_lookAtBook_33 : decode cX4_lookAtBook 33 = .ok (.getfield 19, 3) := by decide +kernel
theorem dX4_lookAtBook_36 : decode cX4_lookAtBook 36 = .ok (.invokevirtual 132, 3) := by decide +kernel
theorem dX4_lookAtBook_39 : decode cX4_lookAtBook 39 = .ok (.pop, 1) := by decide +kernel
theorem dX4_lookAtBook_40 : decode cX4_lookAtBook 40 = .ok (.aload_n 0, 1) := by decide +kernel
theorem dX4_lookAtBook_41 : decode cX4_lookAtBook 41 = .ok (.getfield 19, 3) := by decide +kernel
theorem dX4_lookAtBook_44 : decode cX4_lookAtBook 44 = .ok (.getfield 77, 3) := by decide +kernel
theorem dX4_lookAtBook_47 : decode cX4_lookAtBook 47 = .ok (.iload_n 1, 1) := by decide +kernel
theorem dX4_lookAtBook_48 : decode cX4_lookAtBook 48 = .ok (.iaload, 1) := by decide +kernel
theorem dX4_lookAtBook_49 : decode cX4_lookAtBook 49 = .ok (.istore 5, 2) := by decide +kernel
theorem dX4_lookAtBook_51 : decode cX4_lookAtBook 51 = .ok (.aload_n 0, 1) := by decide +kernel
theorem dX4_lookAtBook_52 : decode cX4_lookAtBook 52 = .ok (.getfield 40, 3) := by decide +kernel
theorem dX4_lookAtBook_55 : decode cX4_lookAtBook 55 = .ok (.iload 4, 2) := by decide +kernel
theorem dX4_lookAtBook_57 : decode cX4_lookAtBook 57 = .ok (.iaload, 1) := by decide +kernel
theorem dX4_lookAtBook_58 : decode cX4_lookAtBook 58 = .ok (.iload 5, 2) := by decide +kernel
theorem dX4_lookAtBook_60 : decode cX4_lookAtBook 60 = .ok (.if_icmp .gt 19, 3) := by decide +kernel
theorem dX4_lookAtBook_63 : decode cX4_lookAtBook 63 = .ok (.iload_n 2, 1) := by decide +kernel
theorem dX4_lookAtBook_64 : decode cX4_lookAtBook 64 = .ok (.ifCond .eq 18, 3) := by decide +kernel
theorem dX4_lookAtBook_67 : decode cX4_lookAtBook 67 = .ok (.aload_n 0, 1) := by decide +kernel
theorem dX4_lookAtBook_68 : decode cX4_lookAtBook 68 = .ok (.getfield 40, 3) := by decide +kernel
theorem dX4_lookAtBook_71 : decode cX4_lookAtBook 71 = .ok (.iload 4, 2) := by decide +kernel
theorem dX4_lookAtBook_73 : decode cX4_lookAtBook 73 = .ok (.iaload, 1) := by decide +kernel
theorem dX4_lookAtBook_74 : decode cX4_lookAtBook 74 = .ok (.iload 5, 2) := by decide +kernel
theorem dX4_lookAtBook_76 : decode cX4_lookAtBook 76 = .ok (.if_icmp .eq 6, 3) := by decide +kernel
theorem dX4_lookAtBook_79 : decode cX4_lookAtBook 79 = .ok (.iload 4, 2) := by decide +kernel
theorem dX4_lookAtBook_81 : decode cX4_lookAtBook 81 = .ok (.istore_n 3, 1) := by decide +kernel
theorem dX4_lookAtBook_82 : decode cX4_lookAtBook 82 = .ok (.iinc 4 1, 3) := by decide +kernel
theorem dX4_lookAtBook_85 : decode cX4_lookAtBook 85 = .ok (.goto (-68), 3) := by decide +kernel
theorem dX4_lookAtBook_88 : decode cX4_lookAtBook 88 = .ok (.aload_n 0, 1) := by decide +kernel
theorem dX4_lookAtBook_89 : decode cX4_lookAtBook 89 = .ok (.iconst 0, 1) := by decide +kernel
theorem dX4_lookAtBook_90 : decode cX4_lookAtBook 90 = .ok (.putfield 190, 3) := by decide +kernel
theorem dX4_lookAtBook_93 : decode cX4_lookAtBook 93 = .ok (.iload_n 3, 1) := by decide +kernel
theorem dX4_lookAtBook_94 : decode cX4_lookAtBook 94 = .ok (.ireturn, 1) := by decide +kernel
theorem dX4_firstImpossibleGift_0 : decode cX4_firstImpossibleGift 0 = .ok (.aload_n 0, 1) := by decide +kernel
theorem dX4_firstImpossibleGift_1 : decode cX4_firstImpossibleGift 1 = .ok (.getfield 19, 3) := by decide +kernel
theorem dX4_firstImpossibleGift_4 : decode cX4_firstImpossibleGift 4 = .ok (.aload_n 0, 1) := by decide +kernel
theorem dX4_firstImpossibleGift_5 : decode cX4_firstImpossibleGift 5 = .ok (.getfield 10, 3) := by decide +kernel
theorem dX4_firstImpossibleGift_8 : decode cX4_firstImpossibleGift 8 = .ok (.invokevirtual 149, 3) := by decide +kernel
theorem dX4_firstImpossibleGift_11 : decode cX4_firstImpossibleGift 11 = .ok (.iconst 0, 1) := by decide +kernel
theorem dX4_firstImpossibleGift_12 : decode cX4_firstImpossibleGift 12 = .ok (.istore_n 1, 1) := by decide +kernel
theorem dX4_firstImpossibleGift_13 : decode cX4_firstImpossibleGift 13 = .ok (.iload_n 1, 1) := by decide +kernel
theorem dX4_firstImpossibleGift_14 : decode cX4_firstImpossibleGift 14 = .ok (.iconst 2, 1) := by decide +kernel
theorem dX4_firstImpossibleGift_15 : decode cX4_firstImpossibleGift 15 = .ok (.iadd, 1) := by decide +kernel
theorem dX4_firstImpossibleGift_16 : decode cX4_firstImpossibleGift 16 = .ok (.aload_n 0, 1) := by decide +kernel
theorem dX4_firstImpossibleGift_17 : decode cX4_firstImpossibleGift 17 = .ok (.getfield 190, 3) := by decide +kernel
theorem dX4_firstImpossibleGift_20 : decode cX4_firstImpossibleGift 20 = .ok (.if_icmp .ge 62, 3) := by decide +kernel
theorem dX4_firstImpossibleGift_23 : decode cX4_firstImpossibleGift 23 = .ok (.aload_n 0, 1) := by decide +kernel
theorem dX4_firstImpossibleGift_24 : decode cX4_firstImpossibleGift 24 = .ok (.getfield 40, 3) := by decide +kernel
theorem dX4_firstImpossibleGift_27 : decode cX4_firstImpossibleGift 27 = .ok (.iload_n 1, 1) := by decide +kernel
theorem dX4_firstImpossibleGift_28 : decode cX4_firstImpossibleGift 28 = .ok (.iaload, 1) := by decide +kernel
theorem dX4_firstImpossibleGift_29 : decode cX4_firstImpossibleGift 29 = .ok (.istore_n 2, 1) := by decide +kernel
theorem dX4_firstImpossibleGift_30 : decode cX4_firstImpossibleGift 30 = .ok (.aload_n 0, 1) := by decide +kernel
theorem dX4_firstImpossibleGift_31 : decode cX4_firstImpossibleGift 31 = .ok (.getfield 40, 3) := by decide +kernel
theorem dX4_firstImpossibleGift_34 : decode cX4_firstImpossibleGift 34 = .ok (.iload_n 1, 1) := by decide +kernel
theorem dX4_firstImpossibleGift_35 : decode cX4_firstImpossibleGift 35 = .ok (.iconst 1, 1) := by decide +kernel
theorem dX4_firstImpossibleGift_36 : decode cX4_firstImpossibleGift 36 = .ok (.iadd, 1) := by decide +kernel
theorem dX4_firstImpossibleGift_37 : decode cX4_firstImpossibleGift 37 = .ok (.iaload, 1) := by decide +kernel
theorem dX4_firstImpossibleGift_38 : decode cX4_firstImpossibleGift 38 = .ok (.istore_n 3, 1) := by decide +kernel
theorem dX4_firstImpossibleGift_39 : decode cX4_firstImpossibleGift 39 = .ok (.aload_n 0, 1) := by decide +kernel
theorem dX4_firstImpossibleGift_40 : decode cX4_firstImpossibleGift 40 = .ok (.getfield 40, 3) := by decide +kernel
theorem dX4_firstImpossibleGift_43 : decode cX4_firstImpossibleGift 43 = .ok (.iload_n 1, 1) := by decide +kernel
theorem dX4_firstImpossibleGift_44 : decode cX4_firstImpossibleGift 44 = .ok (.iconst 2, 1) := by decide +kernel
theorem dX4_firstImpossibleGift_45 : decode cX4_firstImpossibleGift 45 = .ok (.iadd, 1) := by decide +kernel
theorem dX4_firstImpossibleGift_46 : decode cX4_firstImpossibleGift 46 = .ok (.iaload, 1) := by decide +kernel
theorem dX4_firstImpossibleGift_47 : decode cX4_firstImpossibleGift 47 = .ok (.istore 4, 2) := by decide +kernel
theorem dX4_firstImpossibleGift_49 : decode cX4_firstImpossibleGift 49 = .ok (.aload_n 0, 1) := by decide +kernel
theorem dX4_firstImpossibleGift_50 : decode cX4_firstImpossibleGift 50 = .ok (.getfield 19, 3) := by decide +kernel
theorem dX4_firstImpossibleGift_53 : decode cX4_firstImpossibleGift 53 = .ok (.iload_n 2, 1) := by decide +kernel
theorem dX4_firstImpossibleGift_54 : decode cX4_firstImpossibleGift 54 = .ok (.iload_n 3, 1) := by decide +kernel
theorem dX4_firstImpossibleGift_55 : decode cX4_firstImpossibleGift 55 = .ok (.iload 4, 2) := by decide +kernel
theorem dX4_firstImpossibleGift_57 : decode cX4_firstImpossibleGift 57 = .ok (.invokevirtual 118, 3) := by decide +kernel
theorem dX4_firstImpossibleGift_60 : decode cX4_firstImpossibleGift 60 = .ok (.ifCond .eq 5, 3) := by decide +kernel
theorem dX4_firstImpossibleGift_63 : decode cX4_firstImpossibleGift 63 = .ok (.iload_n 1, 1) := by decide +kernel
theorem dX4_firstImpossibleGift_64 : decode cX4_firstImpossibleGift 64 = .ok (.ireturn, 1) := by decide +kernel
theorem dX4_firstImpossibleGift_65 : decode cX4_firstImpossibleGift 65 = .ok (.aload_n 0, 1) := by decide +kernel
theorem dX4_firstImpossibleGift_66 : decode cX4_firstImpossibleGift 66 = .ok (.getfield 19, 3) := by decide +kernel
theorem dX4_firstImpossibleGift_69 : decode cX4_firstImpossibleGift 69 = .ok (.iload_n 2, 1) := by decide +kernel
theorem dX4_firstImpossibleGift_70 : decode cX4_firstImpossibleGift 70 = .ok (.iload_n 3, 1) := by decide +kernel
theorem dX4_firstImpossibleGift_71 : decode cX4_firstImpossibleGift 71 = .ok (.iload 4, 2) := by decide +kernel
theorem dX4_firstImpossibleGift_73 : decode cX4_firstImpossibleGift 73 = .ok (.invokevirtual 121, 3) := by decide +kernel
theorem dX4_firstImpossibleGift_76 : decode cX4_firstImpossibleGift 76 = .ok (.iinc 1 3, 3) := by decide +kernel
theorem dX4_firstImpossibleGift_79 : decode cX4_firstImpossibleGift 79 = .ok (.goto (-66), 3) := by decide +kernel
theorem dX4_firstImpossibleGift_82 : decode cX4_firstImpossibleGift 82 = .ok (.iload_n 1, 1) := by decide +kernel
theorem dX4_firstImpossibleGift_83 : decode cX4_firstImpossibleGift 83 = .ok (.aload_n 0, 1) := by decide +kernel
theorem dX4_firstImpossibleGift_84 : decode cX4_firstImpossibleGift 84 = .ok (.getfield 190, 3) := by decide +kernel
theorem dX4_firstImpossibleGift_87 : decode cX4_firstImpossibleGift 87 = .ok (.if_icmp .ne 8, 3) := by decide +kernel
theorem dX4_firstImpossibleGift_90 : decode cX4_firstImpossibleGift 90 = .ok (.bipush (-9), 2) := by decide +kernel
theorem dX4_firstImpossibleGift_92 : decode cX4_firstImpossibleGift 92 = .ok (.goto 7, 3) := by decide +kernel
theorem dX4_firstImpossibleGift_95 : decode cX4_firstImpossibleGift 95 = .ok (.aload_n 0, 1) := by decide +kernel
theorem dX4_firstImpossibleGift_96 : decode cX4_firstImpossibleGift 96 = .ok (.getfield 190, 3) := by decide +kernel
theorem dX4_firstImpossibleGift_99 : decode cX4_firstImpossibleGift 99 = .ok (.ireturn, 1) := by decide +kernel
theorem dX4_nextSeed_0 : decode cX4_nextSeed 0 = .ok (.iload_n 0, 1) := by decide +kernel
theorem dX4_nextSeed_1 : decode cX4_nextSeed 1 = .ok (.ldc_w 259, 3) := by decide +kernel
theorem dX4_nextSeed_4 : decode cX4_nextSeed 4 = .ok (.imul, 1) := by decide +kernel
theorem dX4_nextSeed_5 : decode cX4_nextSeed 5 = .ok (.sipush 12345, 3) := by decide +kernel
theorem dX4_nextSeed_8 : decode cX4_nextSeed 8 = .ok (.iadd, 1) := by decide +kernel
theorem dX4_nextSeed_9 : decode cX4_nextSeed 9 = .ok (.ireturn, 1) := by decide +kernel
theorem dX4_draw_0 : decode cX4_draw 0 = .ok (.iload_n 1, 1) := by decide +kernel
theorem dX4_draw_1 : decode cX4_draw 1 = .ok (.iconst 1, 1) := by decide +kernel
theorem dX4_draw_2 : decode cX4_draw 2 = .ok (.if_icmp .ge 7, 3) := by decide +kernel
theorem dX4_draw_5 : decode cX4_draw 5 = .ok (.iconst 0, 1) := by decide +kernel
theorem dX4_draw_6 : decode cX4_draw 6 = .ok (.goto 14, 3) := by decide +kernel
theorem dX4_draw_9 : decode cX4_draw 9 = .ok (.iload_n 0, 1) := by decide +kernel
theorem dX4_draw_10 : decode cX4_draw 10 = .ok (.ldc_w 260, 3) := by decide +kernel
theorem dX4_draw_13 : decode cX4_draw 13 = .ok (.iand, 1) := by decide +kernel
theorem dX4_draw_14 : decode cX4_draw 14 = .ok (.ldc_w 261, 3) := by decide +kernel
theorem dX4_draw_17 : decode cX4_draw 17 = .ok (.idiv, 1) := by decide +kernel
theorem dX4_draw_18 : decode cX4_draw 18 = .ok (.iload_n 1, 1) := by decide +kernel
theorem dX4_draw_19 : decode cX4_draw 19 = .ok (.irem, 1) := by decide +kernel
theorem dX4_draw_20 : decode cX4_draw 20 = .ok (.ireturn, 1) := by decide +kernel
theorem dX5_init_0 : decode cX5_init 0 = .ok (.aload_n 0, 1) := by decide +kernel
theorem dX5_init_1 : decode cX5_init 1 = .ok (.invokespecial 1, 3) := by decide +kernel
theorem dX5_init_4 : decode cX5_init 4 = .ok (.aload_n 0, 1) := by decide +kernel
theorem dX5_init_5 : decode cX5_init 5 = .ok (.iconst 3, 1) := by decide +kernel
theorem dX5_init_6 : decode cX5_init 6 = .ok (.putfield 7, 3) := by decide +kernel
theorem dX5_init_9 : decode cX5_init 9 = .ok (.aload_n 0, 1) := by decide +kernel
theorem dX5_init_10 : decode cX5_init 10 = .ok (.iconst 1, 1) := by decide +kernel
theorem dX5_init_11 : decode cX5_init 11 = .ok (.putfield 13, 3) := by decide +kernel
theorem dX5_init_14 : decode cX5_init 14 = .ok (.aload_n 0, 1) := by decide +kernel
theorem dX5_init_15 : decode cX5_init 15 = .ok (.bipush 6, 2) := by decide +kernel
theorem dX5_init_17 : decode cX5_init 17 = .ok (.newarray .int, 2) := by decide +kernel
theorem dX5_init_19 : decode cX5_init 19 = .ok (.putfield 16, 3) := by decide +kernel
theorem dX5_init_22 : decode cX5_init 22 = .ok (.aload_n 0, 1) := by decide +kernel
theorem dX5_init_23 : decode cX5_init 23 = .ok (.bipush 6, 2) := by decide +kernel
theorem dX5_init_25 : decode cX5_init 25 = .ok (.newarray .int, 2) := by decide +kernel
theorem dX5_init_27 : decode cX5_init 27 = .ok (.putfield 20, 3) := by decide +kernel
theorem dX5_init_30 : decode cX5_init 30 = .ok (.aload_n 0, 1) := by decide +kernel
theorem dX5_init_31 : decode cX5_init 31 = .ok (.bipush 6, 2) := by decide +kernel
theorem dX5_init_33 : decode cX5_init 33 = .ok (.newarray .int, 2) := by decide +kernel
theorem dX5_init_35 : decode cX5_init 35 = .ok (.putfield 23, 3) := by decide +kernel
theorem dX5_init_38 : decode cX5_init 38 = .ok (.aload_n 0, 1) := by decide +kernel
theorem dX5_init_39 : decode cX5_init 39 = .ok (.bipush 6, 2) := by decide +kernel
theorem dX5_init_41 : decode cX5_init 41 = .ok (.newarray .int, 2) := by decide +kernel
theorem dX5_init_43 : decode cX5_init 43 = .ok (.putfield 26, 3) := by decide +kernel
theorem dX5_init_46 : decode cX5_init 46 = .ok (.aload_n 0, 1) := by decide +kernel
theorem dX5_init_47 : decode cX5_init 47 = .ok (.bipush 6, 2) := by decide +kernel
theorem dX5_init_49 : decode cX5_init 49 = .ok (.newarray .int, 2) := by decide +kernel
theorem dX5_init_51 : decode cX5_init 51 = .ok (.putfield 29, 3) := by decide +kernel
theorem dX5_init_54 : decode cX5_init 54 = .ok (.aload_n 0, 1) := by decide +kernel
theorem dX5_init_55 : decode cX5_init 55 = .ok (.sipush 462, 3) := by decide +kernel
theorem dX5_init_58 : decode cX5_init 58 = .ok (.newarray .int, 2) := by decide +kernel
theorem dX5_init_60 : decode cX5_init 60 = .ok (.putfield 32, 3) := by decide +kernel
theorem dX5_init_63 : decode cX5_init 63 = .ok (.aload_n 0, 1) := by decide +kernel
theorem dX5_init_64 : decode cX5_init 64 = .ok (.bipush 7, 2) := by decide +kernel
theorem dX5_init_66 : decode cX5_init 66 = .ok (.newarray .int, 2) := by decide +kernel
theorem dX5_init_68 : decode cX5_init 68 = .ok (.putfield 35, 3) := by decide +kernel
theorem dX5_init_71 : decode cX5_init 71 = .ok (.aload_n 0, 1) := by decide +kernel
theorem dX5_init_72 : decode cX5_init 72 = .ok (.bipush 6, 2) := by decide +kernel
theorem dX5_init_74 : decode cX5_init 74 = .ok (.newarray .int, 2) := by decide +kernel
theorem dX5_init_76 : decode cX5_init 76 = .ok (.putfield 38, 3) := by decide +kernel
theorem dX5_init_79 : decode cX5_init 79 = .ok (.aload_n 0, 1) := by decide +kernel
theorem dX5_init_80 : decode cX5_init 80 = .ok (.sipush 480, 3) := by decide +kernel
theorem dX5_init_83 : decode cX5_init 83 = .ok (.newarray .int, 2) := by decide +kernel
theorem dX5_init_85 : decode cX5_init 85 = .ok (.putfield 41, 3) := by decide +kernel
theorem dX5_init_88 : decode cX5_init 88 = .ok (.aload_n 0, 1) := by decide +kernel
theorem dX5_init_89 : decode cX5_init 89 = .ok (.bipush 64, 2) := by decide +kernel
theorem dX5_init_91 : decode cX5_init 91 = .ok (.newarray .int, 2) := by decide +kernel
theorem dX5_init_93 : decode cX5_init 93 = .ok (.putfield 44, 3) := by decide +kernel
theorem dX5_init_96 : decode cX5_init 96 = .ok (.aload_n 0, 1) := by decide +kernel
theorem dX5_init_97 : decode cX5_init 97 = .ok (.bipush 33, 2) := by decide +kernel
theorem dX5_init_99 : decode cX5_init 99 = .ok (.newarray .int, 2) := by decide +kernel
theorem dX5_init_101 : decode cX5_init 101 = .ok (.putfield 47, 3) := by decide +kernel
theorem dX5_init_104 : decode cX5_init 104 = .ok (.aload_n 0, 1) := by decide +kernel
theorem dX5_init_105 : decode cX5_init 105 = .ok (.bipush 33, 2) := by decide +kernel
theorem dX5_init_107 : decode cX5_init 107 = .ok (.newarray .int, 2) := by decide +kernel
theorem dX5_init_109 : decode cX5_init 109 = .ok (.putfield 50, 3) := by decide +kernel
theorem dX5_init_112 : decode cX5_init 112 = .ok (.aload_n 0, 1) := by decide +kernel
theorem dX5_init_113 : decode cX5_init 113 = .ok (.sipush 165, 3) := by decide +kernel
theorem dX5_init_116 : decode cX5_init 116 = .ok (.newarray .int, 2) := by decide +kernel
theorem dX5_init_118 : decode cX5_init 118 = .ok (.putfield 53, 3) := by decide +kernel
theorem dX5_init_121 : decode cX5_init 121 = .ok (.aload_n 0, 1) := by decide +kernel
theorem dX5_init_122 : decode cX5_init 122 = .ok (.bipush 6, 2) := by decide +kernel
theorem dX5_init_124 : decode cX5_init 124 = .ok (.newarray .int, 2) := by decide +kernel
theorem dX5_init_126 : decode cX5_init 126 = .ok (.putfield 56, 3) := by decide +kernel
theorem dX5_init_129 : decode cX5_init 129 = .ok (.aload_n 0, 1) := by decide +kernel
theorem dX5_init_130 : decode cX5_init 130 = .ok (.bipush 12, 2) := by decide +kernel
theorem dX5_init_132 : decode cX5_init 132 = .ok (.newarray .int, 2) := by decide +kernel
theorem dX5_init_134 : decode cX5_init 134 = .ok (.putfield 59, 3) := by decide +kernel
theorem dX5_init_137 : decode cX5_init 137 = .ok (.aload_n 0, 1) := by decide +kernel
theorem dX5_init_138 : decode cX5_init 138 = .ok (.sipush 480, 3) := by decide +kernel
theorem dX5_init_141 : decode cX5_init 141 = .ok (.newarray .int, 2) := by decide +kernel
theorem dX5_init_143 : decode cX5_init 143 = .ok (.putfield 62, 3) := by decide +kernel
theorem dX5_init_146 : decode cX5_init 146 = .ok (.aload_n 0, 1) := by decide +kernel
theorem dX5_init_147 : decode cX5_init 147 = .ok (.bipush 27, 2) := by decide +kernel
theorem dX5_init_149 : decode cX5_init 149 = .ok (.newarray .int, 2) := by decide +kernel
theorem dX5_init_151 : decode cX5_init 151 = .ok (.putfield 65, 3) := by decide +kernel
theorem dX5_init_154 : decode cX5_init 154 = .ok (.aload_n 0, 1) := by decide +kernel
theorem dX5_init_155 : decode cX5_init 155 = .ok (.iconst 0, 1) := by decide +kernel
theorem dX5_init_156 : decode cX5_init 156 = .ok (.putfield 68, 3) := by decide +kernel
theorem dX5_init_159 : decode cX5_init 159 = .ok (.return_, 1) := by decide +kernel
theorem dX5_in_0 : decode cX5_in 0 = .ok (.lload_n 0, 1) := by decide +kernel
theorem dX5_in_1 : decode cX5_in 1 = .ok (.lload_n 2, 1) := by decide +kernel
theorem dX5_in_2 : decode cX5_in 2 = .ok (.lcmp, 1) := by decide +kernel
theorem dX5_in_3 : decode cX5_in 3 = .ok (.ifCond .lt 14, 3) := by decide +kernel
theorem dX5_in_6 : decode cX5_in 6 = .ok (.lload_n 0, 1) := by decide +kernel
theorem dX5_in_7 : decode cX5_in 7 = .ok (.lload 4, 2) := by decide +kernel
theorem dX5_in_9 : decode cX5_in 9 = .ok (.lcmp, 1) := by decide +kernel
theorem dX5_in_10 : decode cX5_in 10 = .ok (.ifCond .gt 7, 3) := by decide +kernel
theorem dX5_in_13 : decode cX5_in 13 = .ok (.iconst 1, 1) := by decide +kernel
theorem dX5_in_14 : decode cX5_in 14 = .ok (.goto 4, 3) := by decide +kernel
theorem dX5_in_17 : decode cX5_in 17 = .ok (.iconst 0, 1) := by decide +kernel
theorem dX5_in_18 : decode cX5_in 18 = .ok (.ireturn, 1) := by decide +kernel
theorem dX5_refuse_0 : decode cX5_refuse 0 = .ok (.aload_n 0, 1) := by decide +kernel
theorem dX5_refuse_1 : decode cX5_refuse 1 = .ok (.getfield 35, 3) := by decide +kernel
theorem dX5_refuse_4 : decode cX5_refuse 4 = .ok (.iload_n 1, 1) := by decide +kernel
theorem dX5_refuse_5 : decode cX5_refuse 5 = .ok (.ineg, 1) := by decide +kernel
theorem dX5_refuse_6 : decode cX5_refuse 6 = .ok (.dup2, 1) := by decide +kernel
theorem dX5_refuse_7 : decode cX5_refuse 7 = .ok (.iaload, 1) := by decide +kernel
theorem dX5_refuse_8 : decode cX5_refuse 8 = .ok (.iconst 1, 1) := by decide +kernel
theorem dX5_refuse_9 : decode cX5_refuse 9 = .ok (.iadd, 1) := by decide +kernel
theorem dX5_refuse_10 : decode cX5_refuse 10 = .ok (.iastore, 1) := by decide +kernel
theorem dX5_refuse_11 : decode cX5_refuse 11 = .ok (.iload_n 1, 1) := by decide +kernel
theorem dX5_refuse_12 : decode cX5_refuse 12 = .ok (.ireturn, 1) := by decide +kernel
theorem dX5_isOne_0 : decode cX5_isOne 0 = .ok (.iload_n 1, 1) := by decide +kernel
theorem dX5_isOne_1 : decode cX5_isOne 1 = .ok (.i2l, 1) := by decide +kernel
theorem dX5_isOne_2 : decode cX5_isOne 2 = .ok (.lconst 0, 1) := by decide +kernel
theorem dX5_isOne_3 : decode cX5_isOne 3 = .ok (.aload_n 0, 1) := by decide +kernel
theorem dX5_isOne_4 : decode cX5_isOne 4 = .ok (.getfield 71, 3) := by decide +kernel
theorem dX5_isOne_7 : decode cX5_isOne 7 = .ok (.iconst 1, 1) := by decide +kernel
theorem dX5_isOne_8 : decode cX5_isOne 8 = .ok (.isub, 1) := by decide +kernel
theorem dX5_isOne_9 : decode cX5_isOne 9 = .ok (.i2l, 1) := by decide +kernel
theorem dX5_isOne_10 : decode cX5_isOne 10 = .ok (.invokestatic 74, 3) := by decide +kernel
theorem dX5_isOne_13 : decode cX5_isOne 13 = .ok (.ireturn, 1) := by decide +kernel
theorem dX5_lesser_0 : decode cX5_lesser 0 = .ok (.iload_n 0, 1) := by decide +kernel
theorem dX5_lesser_1 : decode cX5_lesser 1 = .ok (.iload_n 1, 1) := by decide +kernel
theorem dX5_lesser_2 : decode cX5_lesser 2 = .ok (.if_icmp .ge 7, 3) := by decide +kernel
theorem dX5_lesser_5 : decode cX5_lesser 5 = .ok (.iload_n 0, 1) := by decide +kernel
theorem dX5_lesser_6 : decode cX5_lesser 6 = .ok (.goto 4, 3) := by decide +kernel
theorem dX5_lesser_9 : decode cX5_lesser 9 = .ok (.iload_n 1, 1) := by decide +kernel
theorem dX5_lesser_10 : decode cX5_lesser 10 = .ok (.ireturn, 1) := by decide +kernel
theorem dX5_gift_0 : decode cX5_gift 0 = .ok (.iload_n 1, 1) := by decide +kernel
theorem dX5_gift_1 : decode cX5_gift 1 = .ok (.ifCond .lt 14, 3) := by decide +kernel
theorem dX5_gift_4 : decode cX5_gift 4 = .ok (.iload_n 1, 1) := by decide +kernel
theorem dX5_gift_5 : decode cX5_gift 5 = .ok (.aload_n 0, 1) := by decide +kernel
theorem dX5_gift_6 : decode cX5_gift 6 = .ok (.getfield 78, 3) := by decide +kernel
theorem dX5_gift_9 : decode cX5_gift 9 = .ok (.bipush 10, 2) := by decide +kernel
theorem dX5_gift_11 : decode cX5_gift 11 = .ok (.isub, 1) := by decide +kernel
theorem dX5_gift_12 : decode cX5_gift 12 = .ok (.if_icmp .ge 7, 3) := by decide +kernel
theorem dX5_gift_15 : decode cX5_gift 15 = .ok (.iconst 0, 1) := by decide +kernel
theorem dX5_gift_16 : decode cX5_gift 16 = .ok (.goto 22, 3) := by decide +kernel
theorem dX5_gift_19 : decode cX5_gift 19 = .ok (.aload_n 0, 1) := by decide +kernel
theorem dX5_gift_20 : decode cX5_gift 20 = .ok (.getfield 32, 3) := by decide +kernel
theorem dX5_gift_23 : decode cX5_gift 23 = .ok (.bipush 42, 2) := by decide +kernel
theorem dX5_gift_25 : decode cX5_gift 25 = .ok (.iload_n 1, 1) := by decide +kernel
theorem dX5_gift_26 : decode cX5_gift 26 = .ok (.bipush 11, 2) := by decide +kernel
theorem dX5_gift_28 : decode cX5_gift 28 = .ok (.irem, 1) := by decide +kernel
theorem dX5_gift_29 : decode cX5_gift 29 = .ok (.imul, 1) := by decide +kernel
theorem dX5_gift_30 : decode cX5_gift 30 = .ok (.bipush 7, 2) := by decide +kernel
theorem dX5_gift_32 : decode cX5_gift 32 = .ok (.iload_n 2, 1) := by decide +kernel
theorem dX5_gift_33 : decode cX5_gift 33 = .ok (.imul, 1) := by decide +kernel
theorem dX5_gift_34 : decode cX5_gift 34 = .ok (.iadd, 1) := by decide +kernel
theorem dX5_gift_35 : decode cX5_gift 35 = .ok (.iload_n 3, 1) := by decide +kernel
theorem dX5_gift_36 : decode cX5_gift 36 = .ok (.iadd, 1) := by decide +kernel
theorem dX5_gift_37 : decode cX5_gift 37 = .ok (.iaload, 1) := by decide +kernel
theorem dX5_gift_38 : decode cX5_gift 38 = .ok (.ireturn, 1) := by decide +kernel
theorem dX5_addGift_0 : decode cX5_addGift 0 = .ok (.aload_n 0, 1) := by decide +kernel
theorem dX5_addGift_1 : decode cX5_addGift 1 = .ok (.getfield 32, 3) := by decide +kernel
theorem dX5_addGift_4 : decode cX5_addGift 4 = .ok (.bipush 42, 2) := by decide +kernel
theorem dX5_addGift_6 : decode cX5_addGift 6 = .ok (.aload_n 0, 1) := by decide +kernel
theorem dX5_addGift_7 : decode cX5_addGift 7 = .ok (.getfield 78, 3) := by decide +kernel
theorem dX5_addGift_10 : decode cX5_addGift 10 = .ok (.bipush 11, 2) := by decide +kernel
theorem dX5_addGift_12 : decode cX5_addGift 12 = .ok (.irem, 1) := by decide +kernel
theorem dX5_addGift_13 : decode cX5_addGift 13 = .ok (.imul, 1) := by decide +kernel
theorem dX5_addGift_14 : decode cX5_addGift 14 = .ok (.bipush 7, 2) := by decide +kernel
theorem dX5_addGift_16 : decode cX5_addGift 16 = .ok (.iload_n 1, 1) := by decide +kernel
theorem dX5_addGift_17 : decode cX5_addGift 17 = .ok (.imul, 1) := by decide +kernel
theorem dX5_addGift_18 : decode cX5_addGift 18 = .ok (.iadd, 1) := by decide +kernel
theorem dX5_addGift_19 : decode cX5_addGift 19 = .ok (.iload_n 2, 1) := by decide +kernel
theorem dX5_addGift_20 : decode cX5_addGift 20 = .ok (.iadd, 1) := by decide +kernel
theorem dX5_addGift_21 : decode cX5_addGift 21 = .ok (.dup2, 1) := by decide +kernel
theorem dX5_addGift_22 : decode cX5_addGift 22 = .ok (.iaload, 1) := by decide +kernel
theorem dX5_addGift_23 : decode cX5_addGift 23 = .ok (.iload_n 3, 1) := by decide +kernel
theorem dX5_addGift_24 : decode cX5_addGift 24 = .ok (.iadd, 1) := by decide +kernel
theorem dX5_addGift_25 : decode cX5_addGift 25 = .ok (.iastore, 1) := by decide +kernel
theorem dX5_addGift_26 : decode cX5_addGift 26 = .ok (.aload_n 0, 1) := by decide +kernel
theorem dX5_addGift_27 : decode cX5_addGift 27 = .ok (.getfield 29, 3) := by decide +kernel
theorem dX5_addGift_30 : decode cX5_addGift 30 = .ok (.iload_n 1, 1) := by decide +kernel
theorem dX5_addGift_31 : decode cX5_addGift 31 = .ok (.dup2, 1) := by decide +kernel
theorem dX5_addGift_32 : decode cX5_addGift 32 = .ok (.iaload, 1) := by decide +kernel
theorem dX5_addGift_33 : decode cX5_addGift 33 = .ok (.iload_n 3, 1) := by decide +kernel
theorem dX5_addGift_34 : decode cX5_addGift 34 = .ok (.isub, 1) := by decide +kernel
theorem dX5_addGift_35 : decode cX5_addGift 35 = .ok (.iastore, 1) := by decide +kernel
theorem dX5_addGift_36 : decode cX5_addGift 36 = .ok (.return_, 1) := by decide +kernel
theorem dX5_given_0 : decode cX5_given 0 = .ok (.iconst 0, 1) := by decide +kernel
theorem dX5_given_1 : decode cX5_given 1 = .ok (.istore_n 3, 1) := by decide +kernel
theorem dX5_given_2 : decode cX5_given 2 = .ok (.iconst 0, 1) := by decide +kernel
theorem dX5_given_3 : decode cX5_given 3 = .ok (.istore 4, 2) := by decide +kernel
theorem dX5_given_5 : decode cX5_given 5 = .ok (.iload 4, 2) := by decide +kernel
theorem dX5_given_7 : decode cX5_given 7 = .ok (.bipush 7, 2) := by decide +kernel
theorem dX5_given_9 : decode cX5_given 9 = .ok (.if_icmp .ge 20, 3) := by decide +kernel
theorem dX5_given_12 : decode cX5_given 12 = .ok (.iload_n 3, 1) := by decide +kernel
theorem dX5_given_13 : decode cX5_given 13 = .ok (.aload_n 0, 1) := by decide +kernel
theorem dX5_given_14 : decode cX5_given 14 = .ok (.iload_n 1, 1) := by decide +kernel
theorem dX5_given_15 : decode cX5_given 15 = .ok (.iload_n 2, 1) := by decide +kernel
theorem dX5_given_16 : decode cX5_given 16 = .ok (.iload 4, 2) := by decide +kernel
theorem dX5_given_18 : decode cX5_given 18 = .ok (.invokevirtual 81, 3) := by decide +kernel
theorem dX5_given_21 : decode cX5_given 21 = .ok (.iadd, 1) := by decide +kernel
theorem dX5_given_22 : decode cX5_given 22 = .ok (.istore_n 3, 1) := by decide +kernel
theorem dX5_given_23 : decode cX5_given 23 = .ok (.iinc 4 1, 3) := by decide +kernel
theorem dX5_given_26 : decode cX5_given 26 = .ok (.goto (-21), 3) := by decide +kernel
theorem dX5_given_29 : decode cX5_given 29 = .ok (.iload_n 3, 1) := by decide +kernel
theorem dX5_given_30 : decode cX5_given 30 = .ok (.ireturn, 1) := by decide +kernel
theorem dX5_got_0 : decode cX5_got 0 = .ok (.iconst 0, 1) := by decide +kernel
theorem dX5_got_1 : decode cX5_got 1 = .ok (.istore_n 3, 1) := by decide +kernel
theorem dX5_got_2 : decode cX5_got 2 = .ok (.iconst 0, 1) := by decide +kernel
theorem dX5_got_3 : decode cX5_got 3 = .ok (.istore 4, 2) := by decide +kernel
theorem dX5_got_5 : decode cX5_got 5 = .ok (.iload 4, 2) := by decide +kernel
theorem dX5_got_7 : decode cX5_got 7 = .ok (.aload_n 0, 1) := by decide +kernel
theorem dX5_got_8 : decode cX5_got 8 = .ok (.getfield 71, 3) := by decide +kernel
theorem dX5_got_11 : decode cX5_got 11 = .ok (.if_icmp .ge 20, 3) := by decide +kernel
theorem dX5_got_14 : decode cX5_got 14 = .ok (.iload_n 3, 1) := by decide +kernel
theorem dX5_got_15 : decode cX5_got 15 = .ok (.aload_n 0, 1) := by decide +kernel
theorem dX5_got_16 : decode cX5_got 16 = .ok (.iload_n 1, 1) := by decide +kernel
theorem dX5_got_17 : decode cX5_got 17 = .ok (.iload 4, 2) := by decide +kernel
theorem dX5_got_19 : decode cX5_got 19 = .ok (.iload_n 2, 1) := by decide +kernel
theorem dX5_got_20 : decode cX5_got 20 = .ok (.invokevirtual 81, 3) := by decide +kernel
theorem dX5_got_23 : decode cX5_got 23 = .ok (.iadd, 1) := by decide +kernel
theorem dX5_got_24 : decode cX5_got 24 = .ok (.istore_n 3, 1) := by decide +kernel
theorem dX5_got_25 : decode cX5_got 25 = .ok (.iinc 4 1, 3) := by decide +kernel
theorem dX5_got_28 : decode cX5_got 28 = .ok (.goto (-23), 3) := by decide +kernel
theorem dX5_got_31 : decode cX5_got 31 = .ok (.iload_n 3, 1) := by decide +kernel
theorem dX5_got_32 : decode cX5_got 32 = .ok (.ireturn, 1) := by decide +kernel
theorem dX5_cameBack_0 : decode cX5_cameBack 0 = .ok (.iconst 0, 1) := by decide +kernel
theorem dX5_cameBack_1 : decode cX5_cameBack 1 = .ok (.istore 4, 2) := by decide +kernel
theorem dX5_cameBack_3 : decode cX5_cameBack 3 = .ok (.iload_n 1, 1) := by decide +kernel
theorem dX5_cameBack_4 : decode cX5_cameBack 4 = .ok (.aload_n 0, 1) := by decide +kernel
theorem dX5_cameBack_5 : decode cX5_cameBack 5 = .ok (.getfield 85, 3) := by decide +kernel
theorem dX5_cameBack_8 : decode cX5_cameBack 8 = .ok (.isub, 1) := by decide +kernel
theorem dX5_cameBack_9 : decode cX5_cameBack 9 = .ok (.istore 5, 2) := by decide +kernel
theorem dX5_cameBack_11 : decode cX5_cameBack 11 = .ok (.iload 5, 2) := by decide +kernel
theorem dX5_cameBack_13 : decode cX5_cameBack 13 = .ok (.iload_n 1, 1) := by decide +kernel
theorem dX5_cameBack_14 : decode cX5_cameBack 14 = .ok (.if_icmp .gt 39, 3) := by decide +kernel
theorem dX5_cameBack_17 : decode cX5_cameBack 17 = .ok (.aload_n 0, 1) := by decide +kernel
theorem dX5_cameBack_18 : decode cX5_cameBack 18 = .ok (.getfield 85, 3) := by decide +kernel
theorem dX5_cameBack_21 : decode cX5_cameBack 21 = .ok (.ifCond .le 32, 3) := by decide +kernel
theorem dX5_cameBack_24 : decode cX5_cameBack 24 = .ok (.iload 4, 2) := by decide +kernel
theorem dX5_cameBack_26 : decode cX5_cameBack 26 = .ok (.ifCond .ne 14, 3) := by decide +kernel
theorem dX5_cameBack_29 : decode cX5_cameBack 29 = .ok (.aload_n 0, 1) := by decide +kernel
theorem dX5_cameBack_30 : decode cX5_cameBack 30 = .ok (.iload 5, 2) := by decide +kernel
theorem dX5_cameBack_32 : decode cX5_cameBack 32 = .ok (.iload_n 3, 1) := by decide +kernel
theorem dX5_cameBack_33 : decode cX5_cameBack 33 = .ok (.iload_n 2, 1) := by decide +kernel
theorem dX5_cameBack_34 : decode cX5_cameBack 34 = .ok (.invokevirtual 81, 3) := by decide +kernel
theorem dX5_cameBack_37 : decode cX5_cameBack 37 = .ok (.ifCond .le 7, 3) := by decide +kernel
theorem dX5_cameBack_40 : decode cX5_cameBack 40 = .ok (.iconst 1, 1) := by decide +kernel
theorem dX5_cameBack_41 : decode cX5_cameBack 41 = .ok (.goto 4, 3) := by decide +kernel
theorem dX5_cameBack_44 : decode cX5_cameBack 44 = .ok (.iconst 0, 1) := by decide +kernel
theorem dX5_cameBack_45 : decode cX5_cameBack 45 = .ok (.istore 4, 2) := by decide +kernel
theorem dX5_cameBack_47 : decode cX5_cameBack 47 = .ok (.iinc 5 1, 3) := by decide +kernel
theorem dX5_cameBack_50 : decode cX5_cameBack 50 = .ok (.goto (-39), 3) := by decide +kernel
theorem dX5_cameBack_53 : decode cX5_cameBack 53 = .ok (.iload 4, 2) := by decide +kernel
theorem dX5_cameBack_55 : decode cX5_cameBack 55 = .ok (.ireturn, 1) := by decide +kernel
theorem dX5_counted_0 : decode cX5_counted 0 = .ok (.aload_n 0, 1) := by decide +kernel
theorem dX5_counted_1 : decode cX5_counted 1 = .ok (.iload_n 1, 1) := by decide +kernel
theorem dX5_counted_2 : decode cX5_counted 2 = .ok (.iload_n 2, 1) := by decide +kernel
theorem dX5_counted_3 : decode cX5_counted 3 = .ok (.bipush 6, 2) := by decide +kernel
theorem dX5_counted_5 : decode cX5_counted 5 = .ok (.invokevirtual 81, 3) := by decide +kernel
theorem dX5_counted_8 : decode cX5_counted 8 = .ok (.istore_n 3, 1) := by decide +kernel
theorem dX5_counted_9 : decode cX5_counted 9 = .ok (.iconst 0, 1) := by decide +kernel
theorem dX5_counted_10 : decode cX5_counted 10 = .ok (.istore 4, 2) := by decide +kernel
theorem dX5_counted_12 : decode cX5_counted 12 = .ok (.iload 4, 2) := by decide +kernel
theorem dX5_counted_14 : decode cX5_counted 14 = .ok (.aload_n 0, 1) := by decide +kernel
theorem dX5_counted_15 : decode cX5_counted 15 = .ok (.getfield 71, 3) := by decide +kernel
theorem dX5_counted_18 : decode cX5_counted 18 = .ok (.if_icmp .ge 44, 3) := by decide +kernel
theorem dX5_counted_21 : decode cX5_counted 21 = .ok (.aload_n 0, 1) := by decide +kernel
theorem dX5_counted_22 : decode cX5_counted 22 = .ok (.iload_n 1, 1) := by decide +kernel
theorem dX5_counted_23 : decode cX5_counted 23 = .ok (.iload_n 2, 1) := by decide +kernel
theorem dX5_counted_24 : decode cX5_counted 24 = .ok (.iload 4, 2) := by decide +kernel
theorem dX5_counted_26 : decode cX5_counted 26 = .ok (.invokevirtual 81, 3) := by decide +kernel
theorem dX5_counted_29 : decode cX5_counted 29 = .ok (.istore 5, 2) := by decide +kernel
theorem dX5_counted_31 : decode cX5_counted 31 = .ok (.iload_n 3, 1) := by decide +kernel
theorem dX5_counted_32 : decode cX5_counted 32 = .ok (.iload 5, 2) := by decide +kernel
theorem dX5_counted_34 : decode cX5_counted 34 = .ok (.ifCond .le 19, 3) := by decide +kernel
theorem dX5_counted_37 : decode cX5_counted 37 = .ok (.aload_n 0, 1) := by decide +kernel
theorem dX5_counted_38 : decode cX5_counted 38 = .ok (.iload_n 1, 1) := by decide +kernel
theorem dX5_counted_39 : decode cX5_counted 39 = .ok (.iload_n 2, 1) := by decide +kernel
theorem dX5_counted_40 : decode cX5_counted 40 = .ok (.iload 4, 2) := by decide +kernel
theorem dX5_counted_42 : decode cX5_counted 42 = .ok (.invokevirtual 88, 3) := by decide +kernel
theorem dX5_counted_45 : decode cX5_counted 45 = .ok (.ifCond .ne 8, 3) := by decide +kernel
theorem dX5_counted_48 : decode cX5_counted 48 = .ok (.iload 5, 2) := by decide +kernel
theorem dX5_counted_50 : decode cX5_counted 50 = .ok (.goto 4, 3) := by decide +kernel
theorem dX5_counted_53 : decode cX5_counted 53 = .ok (.iconst 0, 1) := by decide +kernel
theorem dX5_counted_54 : decode cX5_counted 54 = .ok (.iadd, 1) := by decide +kernel
theorem dX5_counted_55 : decode cX5_counted 55 = .ok (.istore_n 3, 1) := by decide +kernel
theorem dX5_counted_56 : decode cX5_counted 56 = .ok (.iinc 4 1, 3) := by decide +kernel
theorem dX5_counted_59 : decode cX5_counted 59 = .ok (.goto (-47), 3) := by decide +kernel
theorem dX5_counted_62 : decode cX5_counted 62 = .ok (.iload_n 3, 1) := by decide +kernel
theorem dX5_counted_63 : decode cX5_counted 63 = .ok (.ireturn, 1) := by decide +kernel
theorem dX5_leave_0 : decode cX5_leave 0 = .ok (.aload_n 0, 1) := by decide +kernel
theorem dX5_leave_1 : decode cX5_leave 1 = .ok (.getfield 16, 3) := by decide +kernel
theorem dX5_leave_4 : decode cX5_leave 4 = .ok (.iload_n 1, 1) := by decide +kernel
theorem dX5_leave_5 : decode cX5_leave 5 = .ok (.iaload, 1) := by decide +kernel
theorem dX5_leave_6 : decode cX5_leave 6 = .ok (.bipush 7, 2) := by decide +kernel
theorem dX5_leave_8 : decode cX5_leave 8 = .ok (.if_icmp .ne 7, 3) := by decide +kernel
theorem dX5_leave_11 : decode cX5_leave 11 = .ok (.sipush 9999, 3) := by decide +kernel
theorem dX5_leave_14 : decode cX5_leave 14 = .ok (.ireturn, 1) := by decide +kernel
theorem dX5_leave_15 : decode cX5_leave 15 = .ok (.aload_n 0, 1) := by decide +kernel
theorem dX5_leave_16 : decode cX5_leave 16 = .ok (.aload_n 0, 1) := by decide +kernel
theorem dX5_leave_17 : decode cX5_leave 17 = .ok (.getfield 78, 3) := by decide +kernel
theorem dX5_leave_20 : decode cX5_leave 20 = .ok (.iconst 1, 1) := by decide +kernel
theorem dX5_leave_21 : decode cX5_leave 21 = .ok (.isub, 1) := by decide +kernel
theorem dX5_leave_22 : decode cX5_leave 22 = .ok (.iload_n 1, 1) := by decide +kernel
theorem dX5_leave_23 : decode cX5_leave 23 = .ok (.invokevirtual 92, 3) := by decide +kernel
theorem dX5_leave_26 : decode cX5_leave 26 = .ok (.istore_n 2, 1) := by decide +kernel
theorem dX5_leave_27 : decode cX5_leave 27 = .ok (.iconst 0, 1) := by decide +kernel
theorem dX5_leave_28 : decode cX5_leave 28 = .ok (.istore_n 3, 1) := by decide +kernel
theorem dX5_leave_29 : decode cX5_leave 29 = .ok (.iconst 0, 1) := by decide +kernel
theorem dX5_leave_30 : decode cX5_leave 30 = .ok (.istore 4, 2) := by decide +kernel
theorem dX5_leave_32 : decode cX5_leave 32 = .ok (.iconst 1, 1) := by decide +kernel
theorem dX5_leave_33 : decode cX5_leave 33 = .ok (.istore 5, 2) := by decide +kernel
theorem dX5_leave_35 : decode cX5_leave 35 = .ok (.iload 5, 2) := by decide +kernel
theorem dX5_leave_37 : decode cX5_leave 37 = .ok (.aload_n 0, 1) := by decide +kernel
theorem dX5_leave_38 : decode cX5_leave 38 = .ok (.getfield 7, 3) := by decide +kernel
theorem dX5_leave_41 : decode cX5_leave 41 = .ok (.if_icmp .gt 44, 3) := by decide +kernel
theorem dX5_leave_44 : decode cX5_leave 44 = .ok (.aload_n 0, 1) := by decide +kernel
theorem dX5_leave_45 : decode cX5_leave 45 = .ok (.aload_n 0, 1) := by decide +kernel
theorem dX5_leave_46 : decode cX5_leave 46 = .ok (.getfield 78, 3) := by decide +kernel
theorem dX5_leave_49 : decode cX5_leave 49 = .ok (.iload 5, 2) := by decide +kernel
theorem dX5_leave_51 : decode cX5_leave 51 = .ok (.isub, 1) := by decide +kernel
theorem dX5_leave_52 : decode cX5_leave 52 = .ok (.iload_n 1, 1) := by decide +kernel
theorem dX5_leave_53 : decode cX5_leave 53 = .ok (.invokevirtual 92, 3) := by decide +kernel
theorem dX5_leave_56 : decode cX5_leave 56 = .ok (.istore 6, 2) := by decide +kernel
theorem dX5_leave_58 : decode cX5_leave 58 = .ok (.iload_n 3, 1) := by decide +kernel
theorem dX5_leave_59 : decode cX5_leave 59 = .ok (.iload 6, 2) := by decide +kernel
theorem dX5_leave_61 : decode cX5_leave 61 = .ok (.iadd, 1) := by decide +kernel
theorem dX5_leave_62 : decode cX5_leave 62 = .ok (.istore_n 3, 1) := by decide +kernel
theorem dX5_leave_63 : decode cX5_leave 63 = .ok (.iload 6, 2) := by decide +kernel
theorem dX5_leave_65 : decode cX5_leave 65 = .ok (.iload 4, 2) := by decide +kernel
theorem dX5_leave_67 : decode cX5_leave 67 = .ok (.if_icmp .le 8, 3) := by decide +kernel
theorem dX5_leave_70 : decode cX5_leave 70 = .ok (.iload 6, 2) := by decide +kernel
theorem dX5_leave_72 : decode cX5_leave 72 = .ok (.goto 5, 3) := by decide +kernel
theorem dX5_leave_75 : decode cX5_leave 75 = .ok (.iload 4, 2) := by decide +kernel
theorem dX5_leave_77 : decode cX5_leave 77 = .ok (.istore 4, 2) := by decide +kernel
theorem dX5_leave_79 : decode cX5_leave 79 = .ok (.iinc 5 1, 3) := by decide +kernel
theorem dX5_leave_82 : decode cX5_leave 82 = .ok (.goto (-47), 3) := by decide +kernel
theorem dX5_leave_85 : decode cX5_leave 85 = .ok (.iload_n 2, 1) := by decide +kernel
theorem dX5_leave_86 : decode cX5_leave 86 = .ok (.iconst 1, 1) := by decide +kernel
theorem dX5_leave_87 : decode cX5_leave 87 = .ok (.iadd, 1) := by decide +kernel
theorem dX5_leave_88 : decode cX5_leave 88 = .ok (.iconst 2, 1) := by decide +kernel
theorem dX5_leave_89 : decode cX5_leave 89 = .ok (.idiv, 1) := by decide +kernel
theorem dX5_leave_90 : decode cX5_leave 90 = .ok (.istore 5, 2) := by decide +kernel
theorem dX5_leave_92 : decode cX5_leave 92 = .ok (.aload_n 0, 1) := by decide +kernel
theorem dX5_leave_93 : decode cX5_leave 93 = .ok (.getfield 96, 3) := by decide +kernel
theorem dX5_leave_96 : decode cX5_leave 96 = .ok (.ifCond .ne 7, 3) := by decide +kernel
theorem dX5_leave_99 : decode cX5_leave 99 = .ok (.iload_n 2, 1) := by decide +kernel
theorem dX5_leave_100 : decode cX5_leave 100 = .ok (.goto 64, 3) := by decide +kernel
theorem dX5_leave_103 : decode cX5_leave 103 = .ok (.aload_n 0, 1) := by decide +kernel
theorem dX5_leave_104 : decode cX5_leave 104 = .ok (.getfield 96, 3) := by decide +kernel
theorem dX5_leave_107 : decode cX5_leave 107 = .ok (.iconst 1, 1) := by decide +kernel
theorem dX5_leave_108 : decode cX5_leave 108 = .ok (.if_icmp .ne 8, 3) := by decide +kernel
theorem dX5_leave_111 : decode cX5_leave 111 = .ok (.iload 5, 2) := by decide +kernel
theorem dX5_leave_113 : decode cX5_leave 113 = .ok (.goto 51, 3) := by decide +kernel
theorem dX5_leave_116 : decode cX5_leave 116 = .ok (.aload_n 0, 1) := by decide +kernel
theorem dX5_leave_117 : decode cX5_leave 117 = .ok (.getfield 96, 3) := by decide +kernel
theorem dX5_leave_120 : decode cX5_leave 120 = .ok (.iconst 2, 1) := by decide +kernel
theorem dX5_leave_121 : decode cX5_leave 121 = .ok (.if_icmp .ne 9, 3) := by decide +kernel
theorem dX5_leave_124 : decode cX5_leave 124 = .ok (.iconst 2, 1) := by decide +kernel
theorem dX5_leave_125 : decode cX5_leave 125 = .ok (.iload_n 2, 1) := by decide +kernel
theorem dX5_leave_126 : decode cX5_leave 126 = .ok (.imul, 1) := by decide +kernel
theorem dX5_leave_127 : decode cX5_leave 127 = .ok (.goto 37, 3) := by decide +kernel
theorem dX5_leave_130 : decode cX5_leave 130 = .ok (.aload_n 0, 1) := by decide +kernel
theorem dX5_leave_131 : decode cX5_leave 131 = .ok (.getfield 96, 3) := by decide +kernel
theorem dX5_leave_134 : decode cX5_leave 134 = .ok (.iconst 3, 1) := by decide +kernel
theorem dX5_leave_135 : decode cX5_leave 135 = .ok (.if_icmp .ne 7, 3) := by decide +kernel
theorem dX5_leave_138 : decode cX5_leave 138 = .ok (.iload_n 3, 1) := by decide +kernel
theorem dX5_leave_139 : decode cX5_leave 139 = .ok (.goto 25, 3) := by decide +kernel
theorem dX5_leave_142 : decode cX5_leave 142 = .ok (.aload_n 0, 1) := by decide +kernel
theorem dX5_leave_143 : decode cX5_leave 143 = .ok (.getfield 96, 3) := by decide +kernel
theorem dX5_leave_146 : decode cX5_leave 146 = .ok (.iconst 4, 1) := by decide +kernel
theorem dX5_leave_147 : decode cX5_leave 147 = .ok (.if_icmp .ne 8, 3) := by decide +kernel
theorem dX5_leave_150 : decode cX5_leave 150 = .ok (.iload 4, 2) := by decide +kernel
theorem dX5_leave_152 : decode cX5_leave 152 = .ok (.goto 12, 3) := by decide +kernel
theorem dX5_leave_155 : decode cX5_leave 155 = .ok (.iload 5, 2) := by decide +kernel
theorem dX5_leave_157 : decode cX5_leave 157 = .ok (.aload_n 0, 1) := by decide +kernel
theorem dX5_leave_158 : decode cX5_leave 158 = .ok (.getfield 20, 3) := by decide +kernel
theorem dX5_leave_161 : decode cX5_leave 161 = .ok (.iload_n 1, 1) := by decide +kernel
theorem dX5_leave_162 : decode cX5_leave 162 = .ok (.iaload, 1) := by decide +kernel
theorem dX5_leave_163 : decode cX5_leave 163 = .ok (.iadd, 1) := by decide +kernel
theorem dX5_leave_164 : decode cX5_leave 164 = .ok (.istore 6, 2) := by decide +kernel
