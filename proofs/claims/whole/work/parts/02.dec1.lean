theorem dX0_init_0 : decode cX0_init 0 = .ok (.aload_n 0, 1) := by decide +kernel
theorem dX0_init_1 : decode cX0_init 1 = .ok (.invokespecial 5, 3) := by decide +kernel
theorem dX0_init_4 : decode cX0_init 4 = .ok (.aload_n 0, 1) := by decide +kernel
theorem dX0_init_5 : decode cX0_init 5 = .ok (.sipush 252, 3) := by decide +kernel
theorem dX0_init_8 : decode cX0_init 8 = .ok (.newarray .int, 2) := by decide +kernel
theorem dX0_init_10 : decode cX0_init 10 = .ok (.putfield 11, 3) := by decide +kernel
theorem dX0_init_13 : decode cX0_init 13 = .ok (.aload_n 0, 1) := by decide +kernel
theorem dX0_init_14 : decode cX0_init 14 = .ok (.bipush 36, 2) := by decide +kernel
theorem dX0_init_16 : decode cX0_init 16 = .ok (.newarray .int, 2) := by decide +kernel
theorem dX0_init_18 : decode cX0_init 18 = .ok (.putfield 15, 3) := by decide +kernel
theorem dX0_init_21 : decode cX0_init 21 = .ok (.aload_n 0, 1) := by decide +kernel
theorem dX0_init_22 : decode cX0_init 22 = .ok (.bipush 11, 2) := by decide +kernel
theorem dX0_init_24 : decode cX0_init 24 = .ok (.newarray .long, 2) := by decide +kernel
theorem dX0_init_26 : decode cX0_init 26 = .ok (.putfield 18, 3) := by decide +kernel
theorem dX0_init_29 : decode cX0_init 29 = .ok (.return_, 1) := by decide +kernel
theorem dX0_become_0 : decode cX0_become 0 = .ok (.aload_n 1, 1) := by decide +kernel
theorem dX0_become_1 : decode cX0_become 1 = .ok (.getfield 11, 3) := by decide +kernel
theorem dX0_become_4 : decode cX0_become 4 = .ok (.iconst 0, 1) := by decide +kernel
theorem dX0_become_5 : decode cX0_become 5 = .ok (.aload_n 0, 1) := by decide +kernel
theorem dX0_become_6 : decode cX0_become 6 = .ok (.getfield 11, 3) := by decide +kernel
theorem dX0_become_9 : decode cX0_become 9 = .ok (.iconst 0, 1) := by decide +kernel
theorem dX0_become_10 : decode cX0_become 10 = .ok (.aload_n 0, 1) := by decide +kernel
theorem dX0_become_11 : decode cX0_become 11 = .ok (.getfield 11, 3) := by decide +kernel
theorem dX0_become_14 : decode cX0_become 14 = .ok (.arraylength, 1) := by decide +kernel
theorem dX0_become_15 : decode cX0_become 15 = .ok (.invokestatic 22, 3) := by decide +kernel
theorem dX0_become_18 : decode cX0_become 18 = .ok (.aload_n 1, 1) := by decide +kernel
theorem dX0_become_19 : decode cX0_become 19 = .ok (.getfield 15, 3) := by decide +kernel
theorem dX0_become_22 : decode cX0_become 22 = .ok (.iconst 0, 1) := by decide +kernel
theorem dX0_become_23 : decode cX0_become 23 = .ok (.aload_n 0, 1) := by decide +kernel
theorem dX0_become_24 : decode cX0_become 24 = .ok (.getfield 15, 3) := by decide +kernel
theorem dX0_become_27 : decode cX0_become 27 = .ok (.iconst 0, 1) := by decide +kernel
theorem dX0_become_28 : decode cX0_become 28 = .ok (.aload_n 0, 1) := by decide +kernel
theorem dX0_become_29 : decode cX0_become 29 = .ok (.getfield 15, 3) := by decide +kernel
theorem dX0_become_32 : decode cX0_become 32 = .ok (.arraylength, 1) := by decide +kernel
theorem dX0_become_33 : decode cX0_become 33 = .ok (.invokestatic 22, 3) := by decide +kernel
theorem dX0_become_36 : decode cX0_become 36 = .ok (.aload_n 1, 1) := by decide +kernel
theorem dX0_become_37 : decode cX0_become 37 = .ok (.getfield 18, 3) := by decide +kernel
theorem dX0_become_40 : decode cX0_become 40 = .ok (.iconst 0, 1) := by decide +kernel
theorem dX0_become_41 : decode cX0_become 41 = .ok (.aload_n 0, 1) := by decide +kernel
theorem dX0_become_42 : decode cX0_become 42 = .ok (.getfield 18, 3) := by decide +kernel
theorem dX0_become_45 : decode cX0_become 45 = .ok (.iconst 0, 1) := by decide +kernel
theorem dX0_become_46 : decode cX0_become 46 = .ok (.aload_n 0, 1) := by decide +kernel
theorem dX0_become_47 : decode cX0_become 47 = .ok (.getfield 18, 3) := by decide +kernel
theorem dX0_become_50 : decode cX0_become 50 = .ok (.arraylength, 1) := by decide +kernel
theorem dX0_become_51 : decode cX0_become 51 = .ok (.invokestatic 22, 3) := by decide +kernel
theorem dX0_become_54 : decode cX0_become 54 = .ok (.return_, 1) := by decide +kernel
theorem dX0_add_0 : decode cX0_add 0 = .ok (.iload_n 2, 1) := by decide +kernel
theorem dX0_add_1 : decode cX0_add 1 = .ok (.bipush 9, 2) := by decide +kernel
theorem dX0_add_3 : decode cX0_add 3 = .ok (.if_icmp .ne 8, 3) := by decide +kernel
theorem dX0_add_6 : decode cX0_add 6 = .ok (.bipush 6, 2) := by decide +kernel
theorem dX0_add_8 : decode cX0_add 8 = .ok (.goto 4, 3) := by decide +kernel
theorem dX0_add_11 : decode cX0_add 11 = .ok (.iload_n 2, 1) := by decide +kernel
theorem dX0_add_12 : decode cX0_add 12 = .ok (.istore 4, 2) := by decide +kernel
theorem dX0_add_14 : decode cX0_add 14 = .ok (.aload_n 0, 1) := by decide +kernel
theorem dX0_add_15 : decode cX0_add 15 = .ok (.getfield 11, 3) := by decide +kernel
theorem dX0_add_18 : decode cX0_add 18 = .ok (.iload_n 1, 1) := by decide +kernel
theorem dX0_add_19 : decode cX0_add 19 = .ok (.bipush 7, 2) := by decide +kernel
theorem dX0_add_21 : decode cX0_add 21 = .ok (.imul, 1) := by decide +kernel
theorem dX0_add_22 : decode cX0_add 22 = .ok (.iload 4, 2) := by decide +kernel
theorem dX0_add_24 : decode cX0_add 24 = .ok (.iadd, 1) := by decide +kernel
theorem dX0_add_25 : decode cX0_add 25 = .ok (.dup2, 1) := by decide +kernel
theorem dX0_add_26 : decode cX0_add 26 = .ok (.iaload, 1) := by decide +kernel
theorem dX0_add_27 : decode cX0_add 27 = .ok (.iload_n 3, 1) := by decide +kernel
theorem dX0_add_28 : decode cX0_add 28 = .ok (.iadd, 1) := by decide +kernel
theorem dX0_add_29 : decode cX0_add 29 = .ok (.iastore, 1) := by decide +kernel
theorem dX0_add_30 : decode cX0_add 30 = .ok (.iload 4, 2) := by decide +kernel
theorem dX0_add_32 : decode cX0_add 32 = .ok (.bipush 6, 2) := by decide +kernel
theorem dX0_add_34 : decode cX0_add 34 = .ok (.if_icmp .eq 20, 3) := by decide +kernel
theorem dX0_add_37 : decode cX0_add 37 = .ok (.aload_n 0, 1) := by decide +kernel
theorem dX0_add_38 : decode cX0_add 38 = .ok (.getfield 18, 3) := by decide +kernel
theorem dX0_add_41 : decode cX0_add 41 = .ok (.iconst 0, 1) := by decide +kernel
theorem dX0_add_42 : decode cX0_add 42 = .ok (.dup2, 1) := by decide +kernel
theorem dX0_add_43 : decode cX0_add 43 = .ok (.laload, 1) := by decide +kernel
theorem dX0_add_44 : decode cX0_add 44 = .ok (.lconst 1, 1) := by decide +kernel
theorem dX0_add_45 : decode cX0_add 45 = .ok (.iload_n 1, 1) := by decide +kernel
theorem dX0_add_46 : decode cX0_add 46 = .ok (.bipush 6, 2) := by decide +kernel
theorem dX0_add_48 : decode cX0_add 48 = .ok (.imul, 1) := by decide +kernel
theorem dX0_add_49 : decode cX0_add 49 = .ok (.iload_n 2, 1) := by decide +kernel
theorem dX0_add_50 : decode cX0_add 50 = .ok (.iadd, 1) := by decide +kernel
theorem dX0_add_51 : decode cX0_add 51 = .ok (.lshl, 1) := by decide +kernel
theorem dX0_add_52 : decode cX0_add 52 = .ok (.lor, 1) := by decide +kernel
theorem dX0_add_53 : decode cX0_add 53 = .ok (.lastore, 1) := by decide +kernel
theorem dX0_add_54 : decode cX0_add 54 = .ok (.return_, 1) := by decide +kernel
theorem dX0_givenToday_0 : decode cX0_givenToday 0 = .ok (.iconst 0, 1) := by decide +kernel
theorem dX0_givenToday_1 : decode cX0_givenToday 1 = .ok (.istore_n 2, 1) := by decide +kernel
theorem dX0_givenToday_2 : decode cX0_givenToday 2 = .ok (.iconst 0, 1) := by decide +kernel
theorem dX0_givenToday_3 : decode cX0_givenToday 3 = .ok (.istore_n 3, 1) := by decide +kernel
theorem dX0_givenToday_4 : decode cX0_givenToday 4 = .ok (.iload_n 3, 1) := by decide +kernel
theorem dX0_givenToday_5 : decode cX0_givenToday 5 = .ok (.bipush 7, 2) := by decide +kernel
theorem dX0_givenToday_7 : decode cX0_givenToday 7 = .ok (.if_icmp .ge 23, 3) := by decide +kernel
theorem dX0_givenToday_10 : decode cX0_givenToday 10 = .ok (.iload_n 2, 1) := by decide +kernel
theorem dX0_givenToday_11 : decode cX0_givenToday 11 = .ok (.aload_n 0, 1) := by decide +kernel
theorem dX0_givenToday_12 : decode cX0_givenToday 12 = .ok (.getfield 11, 3) := by decide +kernel
theorem dX0_givenToday_15 : decode cX0_givenToday 15 = .ok (.iload_n 1, 1) := by decide +kernel
theorem dX0_givenToday_16 : decode cX0_givenToday 16 = .ok (.bipush 7, 2) := by decide +kernel
theorem dX0_givenToday_18 : decode cX0_givenToday 18 = .ok (.imul, 1) := by decide +kernel
theorem dX0_givenToday_19 : decode cX0_givenToday 19 = .ok (.iload_n 3, 1) := by decide +kernel
theorem dX0_givenToday_20 : decode cX0_givenToday 20 = .ok (.iadd, 1) := by decide +kernel
theorem dX0_givenToday_21 : decode cX0_givenToday 21 = .ok (.iaload, 1) := by decide +kernel
theorem dX0_givenToday_22 : decode cX0_givenToday 22 = .ok (.iadd, 1) := by decide +kernel
theorem dX0_givenToday_23 : decode cX0_givenToday 23 = .ok (.istore_n 2, 1) := by decide +kernel
theorem dX0_givenToday_24 : decode cX0_givenToday 24 = .ok (.iinc 3 1, 3) := by decide +kernel
theorem dX0_givenToday_27 : decode cX0_givenToday 27 = .ok (.goto (-23), 3) := by decide +kernel
theorem dX0_givenToday_30 : decode cX0_givenToday 30 = .ok (.iload_n 2, 1) := by decide +kernel
theorem dX0_givenToday_31 : decode cX0_givenToday 31 = .ok (.ireturn, 1) := by decide +kernel
theorem dX0_gotToday_0 : decode cX0_gotToday 0 = .ok (.aload_n 0, 1) := by decide +kernel
theorem dX0_gotToday_1 : decode cX0_gotToday 1 = .ok (.iconst 0, 1) := by decide +kernel
theorem dX0_gotToday_2 : decode cX0_gotToday 2 = .ok (.iload_n 1, 1) := by decide +kernel
theorem dX0_gotToday_3 : decode cX0_gotToday 3 = .ok (.invokevirtual 28, 3) := by decide +kernel
theorem dX0_gotToday_6 : decode cX0_gotToday 6 = .ok (.ireturn, 1) := by decide +kernel
theorem dX0_gotYesterday_0 : decode cX0_gotYesterday 0 = .ok (.aload_n 0, 1) := by decide +kernel
theorem dX0_gotYesterday_1 : decode cX0_gotYesterday 1 = .ok (.iconst 1, 1) := by decide +kernel
theorem dX0_gotYesterday_2 : decode cX0_gotYesterday 2 = .ok (.iload_n 1, 1) := by decide +kernel
theorem dX0_gotYesterday_3 : decode cX0_gotYesterday 3 = .ok (.invokevirtual 28, 3) := by decide +kernel
theorem dX0_gotYesterday_6 : decode cX0_gotYesterday 6 = .ok (.ireturn, 1) := by decide +kernel
theorem dX0_got_0 : decode cX0_got 0 = .ok (.iconst 0, 1) := by decide +kernel
theorem dX0_got_1 : decode cX0_got 1 = .ok (.istore_n 3, 1) := by decide +kernel
theorem dX0_got_2 : decode cX0_got 2 = .ok (.iconst 0, 1) := by decide +kernel
theorem dX0_got_3 : decode cX0_got 3 = .ok (.istore 4, 2) := by decide +kernel
theorem dX0_got_5 : decode cX0_got 5 = .ok (.iload 4, 2) := by decide +kernel
theorem dX0_got_7 : decode cX0_got 7 = .ok (.bipush 6, 2) := by decide +kernel
theorem dX0_got_9 : decode cX0_got 9 = .ok (.if_icmp .ge 29, 3) := by decide +kernel
theorem dX0_got_12 : decode cX0_got 12 = .ok (.iload_n 3, 1) := by decide +kernel
theorem dX0_got_13 : decode cX0_got 13 = .ok (.aload_n 0, 1) := by decide +kernel
theorem dX0_got_14 : decode cX0_got 14 = .ok (.getfield 11, 3) := by decide +kernel
theorem dX0_got_17 : decode cX0_got 17 = .ok (.iload_n 1, 1) := by decide +kernel
theorem dX0_got_18 : decode cX0_got 18 = .ok (.bipush 42, 2) := by decide +kernel
theorem dX0_got_20 : decode cX0_got 20 = .ok (.imul, 1) := by decide +kernel
theorem dX0_got_21 : decode cX0_got 21 = .ok (.iload 4, 2) := by decide +kernel
theorem dX0_got_23 : decode cX0_got 23 = .ok (.bipush 7, 2) := by decide +kernel
theorem dX0_got_25 : decode cX0_got 25 = .ok (.imul, 1) := by decide +kernel
theorem dX0_got_26 : decode cX0_got 26 = .ok (.iadd, 1) := by decide +kernel
theorem dX0_got_27 : decode cX0_got 27 = .ok (.iload_n 2, 1) := by decide +kernel
theorem dX0_got_28 : decode cX0_got 28 = .ok (.iadd, 1) := by decide +kernel
theorem dX0_got_29 : decode cX0_got 29 = .ok (.iaload, 1) := by decide +kernel
theorem dX0_got_30 : decode cX0_got 30 = .ok (.iadd, 1) := by decide +kernel
theorem dX0_got_31 : decode cX0_got 31 = .ok (.istore_n 3, 1) := by decide +kernel
theorem dX0_got_32 : decode cX0_got 32 = .ok (.iinc 4 1, 3) := by decide +kernel
theorem dX0_got_35 : decode cX0_got 35 = .ok (.goto (-30), 3) := by decide +kernel
theorem dX0_got_38 : decode cX0_got 38 = .ok (.iload_n 3, 1) := by decide +kernel
theorem dX0_got_39 : decode cX0_got 39 = .ok (.ireturn, 1) := by decide +kernel
theorem dX0_countedYesterday_0 : decode cX0_countedYesterday 0 = .ok (.aload_n 0, 1) := by decide +kernel
theorem dX0_countedYesterday_1 : decode cX0_countedYesterday 1 = .ok (.getfield 15, 3) := by decide +kernel
theorem dX0_countedYesterday_4 : decode cX0_countedYesterday 4 = .ok (.bipush 6, 2) := by decide +kernel
theorem dX0_countedYesterday_6 : decode cX0_countedYesterday 6 = .ok (.iload_n 1, 1) := by decide +kernel
theorem dX0_countedYesterday_7 : decode cX0_countedYesterday 7 = .ok (.iadd, 1) := by decide +kernel
theorem dX0_countedYesterday_8 : decode cX0_countedYesterday 8 = .ok (.iaload, 1) := by decide +kernel
theorem dX0_countedYesterday_9 : decode cX0_countedYesterday 9 = .ok (.ireturn, 1) := by decide +kernel
theorem dX0_countedTogether_0 : decode cX0_countedTogether 0 = .ok (.iconst 0, 1) := by decide +kernel
theorem dX0_countedTogether_1 : decode cX0_countedTogether 1 = .ok (.istore_n 3, 1) := by decide +kernel
theorem dX0_countedTogether_2 : decode cX0_countedTogether 2 = .ok (.iconst 1, 1) := by decide +kernel
theorem dX0_countedTogether_3 : decode cX0_countedTogether 3 = .ok (.istore 4, 2) := by decide +kernel
theorem dX0_countedTogether_5 : decode cX0_countedTogether 5 = .ok (.iload 4, 2) := by decide +kernel
theorem dX0_countedTogether_7 : decode cX0_countedTogether 7 = .ok (.iload_n 1, 1) := by decide +kernel
theorem dX0_countedTogether_8 : decode cX0_countedTogether 8 = .ok (.if_icmp .gt 31, 3) := by decide +kernel
theorem dX0_countedTogether_11 : decode cX0_countedTogether 11 = .ok (.iload 4, 2) := by decide +kernel
theorem dX0_countedTogether_13 : decode cX0_countedTogether 13 = .ok (.bipush 6, 2) := by decide +kernel
theorem dX0_countedTogether_15 : decode cX0_countedTogether 15 = .ok (.if_icmp .ge 24, 3) := by decide +kernel
theorem dX0_countedTogether_18 : decode cX0_countedTogether 18 = .ok (.iload_n 3, 1) := by decide +kernel
theorem dX0_countedTogether_19 : decode cX0_countedTogether 19 = .ok (.aload_n 0, 1) := by decide +kernel
theorem dX0_countedTogether_20 : decode cX0_countedTogether 20 = .ok (.getfield 15, 3) := by decide +kernel
theorem dX0_countedTogether_23 : decode cX0_countedTogether 23 = .ok (.iload 4, 2) := by decide +kernel
theorem dX0_countedTogether_25 : decode cX0_countedTogether 25 = .ok (.bipush 6, 2) := by decide +kernel
theorem dX0_countedTogether_27 : decode cX0_countedTogether 27 = .ok (.imul, 1) := by decide +kernel
theorem dX0_countedTogether_28 : decode cX0_countedTogether 28 = .ok (.iload_n 2, 1) := by decide +kernel
theorem dX0_countedTogether_29 : decode cX0_countedTogether 29 = .ok (.iadd, 1) := by decide +kernel
theorem dX0_countedTogether_30 : decode cX0_countedTogether 30 = .ok (.iaload, 1) := by decide +kernel
theorem dX0_countedTogether_31 : decode cX0_countedTogether 31 = .ok (.iadd, 1) := by decide +kernel
theorem dX0_countedTogether_32 : decode cX0_countedTogether 32 = .ok (.istore_n 3, 1) := by decide +kernel
theorem dX0_countedTogether_33 : decode cX0_countedTogether 33 = .ok (.iinc 4 1, 3) := by decide +kernel
theorem dX0_countedTogether_36 : decode cX0_countedTogether 36 = .ok (.goto (-31), 3) := by decide +kernel
theorem dX0_countedTogether_39 : decode cX0_countedTogether 39 = .ok (.iload_n 3, 1) := by decide +kernel
theorem dX0_countedTogether_40 : decode cX0_countedTogether 40 = .ok (.ireturn, 1) := by decide +kernel
theorem dX0_countedAtBest_0 : decode cX0_countedAtBest 0 = .ok (.iconst 0, 1) := by decide +kernel
theorem dX0_countedAtBest_1 : decode cX0_countedAtBest 1 = .ok (.istore_n 3, 1) := by decide +kernel
theorem dX0_countedAtBest_2 : decode cX0_countedAtBest 2 = .ok (.iconst 1, 1) := by decide +kernel
theorem dX0_countedAtBest_3 : decode cX0_countedAtBest 3 = .ok (.istore 4, 2) := by decide +kernel
theorem dX0_countedAtBest_5 : decode cX0_countedAtBest 5 = .ok (.iload 4, 2) := by decide +kernel
theorem dX0_countedAtBest_7 : decode cX0_countedAtBest 7 = .ok (.iload_n 1, 1) := by decide +kernel
theorem dX0_countedAtBest_8 : decode cX0_countedAtBest 8 = .ok (.if_icmp .gt 33, 3) := by decide +kernel
theorem dX0_countedAtBest_11 : decode cX0_countedAtBest 11 = .ok (.iload 4, 2) := by decide +kernel
theorem dX0_countedAtBest_13 : decode cX0_countedAtBest 13 = .ok (.bipush 6, 2) := by decide +kernel
theorem dX0_countedAtBest_15 : decode cX0_countedAtBest 15 = .ok (.if_icmp .ge 26, 3) := by decide +kernel
theorem dX0_countedAtBest_18 : decode cX0_countedAtBest 18 = .ok (.iload_n 3, 1) := by decide +kernel
theorem dX0_countedAtBest_19 : decode cX0_countedAtBest 19 = .ok (.aload_n 0, 1) := by decide +kernel
theorem dX0_countedAtBest_20 : decode cX0_countedAtBest 20 = .ok (.getfield 15, 3) := by decide +kernel
theorem dX0_countedAtBest_23 : decode cX0_countedAtBest 23 = .ok (.iload 4, 2) := by decide +kernel
theorem dX0_countedAtBest_25 : decode cX0_countedAtBest 25 = .ok (.bipush 6, 2) := by decide +kernel
theorem dX0_countedAtBest_27 : decode cX0_countedAtBest 27 = .ok (.imul, 1) := by decide +kernel
theorem dX0_countedAtBest_28 : decode cX0_countedAtBest 28 = .ok (.iload_n 2, 1) := by decide +kernel
theorem dX0_countedAtBest_29 : decode cX0_countedAtBest 29 = .ok (.iadd, 1) := by decide +kernel
theorem dX0_countedAtBest_30 : decode cX0_countedAtBest 30 = .ok (.iaload, 1) := by decide +kernel
theorem dX0_countedAtBest_31 : decode cX0_countedAtBest 31 = .ok (.invokestatic 32, 3) := by decide +kernel
theorem dX0_countedAtBest_34 : decode cX0_countedAtBest 34 = .ok (.istore_n 3, 1) := by decide +kernel
theorem dX0_countedAtBest_35 : decode cX0_countedAtBest 35 = .ok (.iinc 4 1, 3) := by decide +kernel
theorem dX0_countedAtBest_38 : decode cX0_countedAtBest 38 = .ok (.goto (-33), 3) := by decide +kernel
theorem dX0_countedAtBest_41 : decode cX0_countedAtBest 41 = .ok (.iload_n 3, 1) := by decide +kernel
theorem dX0_countedAtBest_42 : decode cX0_countedAtBest 42 = .ok (.ireturn, 1) := by decide +kernel
theorem dX0_countPastDays_0 : decode cX0_countPastDays 0 = .ok (.iconst 1, 1) := by decide +kernel
theorem dX0_countPastDays_1 : decode cX0_countPastDays 1 = .ok (.istore_n 2, 1) := by decide +kernel
theorem dX0_countPastDays_2 : decode cX0_countPastDays 2 = .ok (.iload_n 2, 1) := by decide +kernel
theorem dX0_countPastDays_3 : decode cX0_countPastDays 3 = .ok (.bipush 6, 2) := by decide +kernel
theorem dX0_countPastDays_5 : decode cX0_countPastDays 5 = .ok (.if_icmp .ge 15, 3) := by decide +kernel
theorem dX0_countPastDays_8 : decode cX0_countPastDays 8 = .ok (.aload_n 0, 1) := by decide +kernel
theorem dX0_countPastDays_9 : decode cX0_countPastDays 9 = .ok (.iload_n 2, 1) := by decide +kernel
theorem dX0_countPastDays_10 : decode cX0_countPastDays 10 = .ok (.iload_n 1, 1) := by decide +kernel
theorem dX0_countPastDays_11 : decode cX0_countPastDays 11 = .ok (.invokevirtual 37, 3) := by decide +kernel
theorem dX0_countPastDays_14 : decode cX0_countPastDays 14 = .ok (.iinc 2 1, 3) := by decide +kernel
theorem dX0_countPastDays_17 : decode cX0_countPastDays 17 = .ok (.goto (-15), 3) := by decide +kernel
theorem dX0_countPastDays_20 : decode cX0_countPastDays 20 = .ok (.return_, 1) := by decide +kernel
theorem dX0_countDay_0 : decode cX0_countDay 0 = .ok (.lconst 0, 1) := by decide +kernel
theorem dX0_countDay_1 : decode cX0_countDay 1 = .ok (.lstore_n 3, 1) := by decide +kernel
theorem dX0_countDay_2 : decode cX0_countDay 2 = .ok (.iload_n 2, 1) := by decide +kernel
theorem dX0_countDay_3 : decode cX0_countDay 3 = .ok (.ifCond .le 37, 3) := by decide +kernel
theorem dX0_countDay_6 : decode cX0_countDay 6 = .ok (.iload_n 1, 1) := by decide +kernel
theorem dX0_countDay_7 : decode cX0_countDay 7 = .ok (.istore 5, 2) := by decide +kernel
theorem dX0_countDay_9 : decode cX0_countDay 9 = .ok (.iload 5, 2) := by decide +kernel
theorem dX0_countDay_11 : decode cX0_countDay 11 = .ok (.iload_n 1, 1) := by decide +kernel
theorem dX0_countDay_12 : decode cX0_countDay 12 = .ok (.iload_n 2, 1) := by decide +kernel
theorem dX0_countDay_13 : decode cX0_countDay 13 = .ok (.iadd, 1) := by decide +kernel
theorem dX0_countDay_14 : decode cX0_countDay 14 = .ok (.if_icmp .gt 26, 3) := by decide +kernel
theorem dX0_countDay_17 : decode cX0_countDay 17 = .ok (.iload 5, 2) := by decide +kernel
theorem dX0_countDay_19 : decode cX0_countDay 19 = .ok (.bipush 11, 2) := by decide +kernel
theorem dX0_countDay_21 : decode cX0_countDay 21 = .ok (.if_icmp .ge 19, 3) := by decide +kernel
theorem dX0_countDay_24 : decode cX0_countDay 24 = .ok (.lload_n 3, 1) := by decide +kernel
theorem dX0_countDay_25 : decode cX0_countDay 25 = .ok (.aload_n 0, 1) := by decide +kernel
theorem dX0_countDay_26 : decode cX0_countDay 26 = .ok (.getfield 18, 3) := by decide +kernel
theorem dX0_countDay_29 : decode cX0_countDay 29 = .ok (.iload 5, 2) := by decide +kernel
theorem dX0_countDay_31 : decode cX0_countDay 31 = .ok (.laload, 1) := by decide +kernel
theorem dX0_countDay_32 : decode cX0_countDay 32 = .ok (.lor, 1) := by decide +kernel
theorem dX0_countDay_33 : decode cX0_countDay 33 = .ok (.lstore_n 3, 1) := by decide +kernel
theorem dX0_countDay_34 : decode cX0_countDay 34 = .ok (.iinc 5 1, 3) := by decide +kernel
theorem dX0_countDay_37 : decode cX0_countDay 37 = .ok (.goto (-28), 3) := by decide +kernel
theorem dX0_countDay_40 : decode cX0_countDay 40 = .ok (.iconst 0, 1) := by decide +kernel
theorem dX0_countDay_41 : decode cX0_countDay 41 = .ok (.istore 5, 2) := by decide +kernel
theorem dX0_countDay_43 : decode cX0_countDay 43 = .ok (.iload 5, 2) := by decide +kernel
theorem dX0_countDay_45 : decode cX0_countDay 45 = .ok (.bipush 6, 2) := by decide +kernel
theorem dX0_countDay_47 : decode cX0_countDay 47 = .ok (.if_icmp .ge 29, 3) := by decide +kernel
theorem dX0_countDay_50 : decode cX0_countDay 50 = .ok (.aload_n 0, 1) := by decide +kernel
theorem dX0_countDay_51 : decode cX0_countDay 51 = .ok (.getfield 15, 3) := by decide +kernel
theorem dX0_countDay_54 : decode cX0_countDay 54 = .ok (.iload_n 1, 1) := by decide +kernel
theorem dX0_countDay_55 : decode cX0_countDay 55 = .ok (.bipush 6, 2) := by decide +kernel
theorem dX0_countDay_57 : decode cX0_countDay 57 = .ok (.imul, 1) := by decide +kernel
theorem dX0_countDay_58 : decode cX0_countDay 58 = .ok (.iload 5, 2) := by decide +kernel
theorem dX0_countDay_60 : decode cX0_countDay 60 = .ok (.iadd, 1) := by decide +kernel
theorem dX0_countDay_61 : decode cX0_countDay 61 = .ok (.aload_n 0, 1) := by decide +kernel
theorem dX0_countDay_62 : decode cX0_countDay 62 = .ok (.iload_n 1, 1) := by decide +kernel
theorem dX0_countDay_63 : decode cX0_countDay 63 = .ok (.iload 5, 2) := by decide +kernel
theorem dX0_countDay_65 : decode cX0_countDay 65 = .ok (.lload_n 3, 1) := by decide +kernel
theorem dX0_countDay_66 : decode cX0_countDay 66 = .ok (.invokevirtual 41, 3) := by decide +kernel
theorem dX0_countDay_69 : decode cX0_countDay 69 = .ok (.iastore, 1) := by decide +kernel
theorem dX0_countDay_70 : decode cX0_countDay 70 = .ok (.iinc 5 1, 3) := by decide +kernel
theorem dX0_countDay_73 : decode cX0_countDay 73 = .ok (.goto (-30), 3) := by decide +kernel
theorem dX0_countDay_76 : decode cX0_countDay 76 = .ok (.return_, 1) := by decide +kernel
theorem dX0_countOf_0 : decode cX0_countOf 0 = .ok (.iload_n 1, 1) := by decide +kernel
theorem dX0_countOf_1 : decode cX0_countOf 1 = .ok (.bipush 42, 2) := by decide +kernel
theorem dX0_countOf_3 : decode cX0_countOf 3 = .ok (.imul, 1) := by decide +kernel
theorem dX0_countOf_4 : decode cX0_countOf 4 = .ok (.iload_n 2, 1) := by decide +kernel
theorem dX0_countOf_5 : decode cX0_countOf 5 = .ok (.bipush 7, 2) := by decide +kernel
theorem dX0_countOf_7 : decode cX0_countOf 7 = .ok (.imul, 1) := by decide +kernel
theorem dX0_countOf_8 : decode cX0_countOf 8 = .ok (.iadd, 1) := by decide +kernel
theorem dX0_countOf_9 : decode cX0_countOf 9 = .ok (.istore 5, 2) := by decide +kernel
theorem dX0_countOf_11 : decode cX0_countOf 11 = .ok (.aload_n 0, 1) := by decide +kernel
theorem dX0_countOf_12 : decode cX0_countOf 12 = .ok (.getfield 11, 3) := by decide +kernel
theorem dX0_countOf_15 : decode cX0_countOf 15 = .ok (.iload 5, 2) := by decide +kernel
theorem dX0_countOf_17 : decode cX0_countOf 17 = .ok (.bipush 6, 2) := by decide +kernel
theorem dX0_countOf_19 : decode cX0_countOf 19 = .ok (.iadd, 1) := by decide +kernel
theorem dX0_countOf_20 : decode cX0_countOf 20 = .ok (.iaload, 1) := by decide +kernel
theorem dX0_countOf_21 : decode cX0_countOf 21 = .ok (.istore 6, 2) := by decide +kernel
theorem dX0_countOf_23 : decode cX0_countOf 23 = .ok (.iconst 0, 1) := by decide +kernel
theorem dX0_countOf_24 : decode cX0_countOf 24 = .ok (.istore 7, 2) := by decide +kernel
theorem dX0_countOf_26 : decode cX0_countOf 26 = .ok (.iload 7, 2) := by decide +kernel
theorem dX0_countOf_28 : decode cX0_countOf 28 = .ok (.bipush 6, 2) := by decide +kernel
theorem dX0_countOf_30 : decode cX0_countOf 30 = .ok (.if_icmp .ge 40, 3) := by decide +kernel
theorem dX0_countOf_33 : decode cX0_countOf 33 = .ok (.lload_n 3, 1) := by decide +kernel
theorem dX0_countOf_34 : decode cX0_countOf 34 = .ok (.lconst 1, 1) := by decide +kernel
theorem dX0_countOf_35 : decode cX0_countOf 35 = .ok (.iload 7, 2) := by decide +kernel
theorem dX0_countOf_37 : decode cX0_countOf 37 = .ok (.bipush 6, 2) := by decide +kernel
theorem dX0_countOf_39 : decode cX0_countOf 39 = .ok (.imul, 1) := by decide +kernel
theorem dX0_countOf_40 : decode cX0_countOf 40 = .ok (.iload_n 2, 1) := by decide +kernel
theorem dX0_countOf_41 : decode cX0_countOf 41 = .ok (.iadd, 1) := by decide +kernel
theorem dX0_countOf_42 : decode cX0_countOf 42 = .ok (.lshl, 1) := by decide +kernel
theorem dX0_countOf_43 : decode cX0_countOf 43 = .ok (.land, 1) := by decide +kernel
theorem dX0_countOf_44 : decode cX0_countOf 44 = .ok (.lconst 0, 1) := by decide +kernel
theorem dX0_countOf_45 : decode cX0_countOf 45 = .ok (.lcmp, 1) := by decide +kernel
theorem dX0_countOf_46 : decode cX0_countOf 46 = .ok (.ifCond .ne 18, 3) := by decide +kernel
theorem dX0_countOf_49 : decode cX0_countOf 49 = .ok (.iload 6, 2) := by decide +kernel
theorem dX0_countOf_51 : decode cX0_countOf 51 = .ok (.aload_n 0, 1) := by decide +kernel
theorem dX0_countOf_52 : decode cX0_countOf 52 = .ok (.getfield 11, 3) := by decide +kernel
theorem dX0_countOf_55 : decode cX0_countOf 55 = .ok (.iload 5, 2) := by decide +kernel
theorem dX0_countOf_57 : decode cX0_countOf 57 = .ok (.iload 7, 2) := by decide +kernel
theorem dX0_countOf_59 : decode cX0_countOf 59 = .ok (.iadd, 1) := by decide +kernel
theorem dX0_countOf_60 : decode cX0_countOf 60 = .ok (.iaload, 1) := by decide +kernel
theorem dX0_countOf_61 : decode cX0_countOf 61 = .ok (.iadd, 1) := by decide +kernel
theorem dX0_countOf_62 : decode cX0_countOf 62 = .ok (.istore 6, 2) := by decide +kernel
theorem dX0_countOf_64 : decode cX0_countOf 64 = .ok (.iinc 7 1, 3) := by decide +kernel
theorem dX0_countOf_67 : decode cX0_countOf 67 = .ok (.goto (-41), 3) := by decide +kernel
theorem dX0_countOf_70 : decode cX0_countOf 70 = .ok (.iload 6, 2) := by decide +kernel
theorem dX0_countOf_72 : decode cX0_countOf 72 = .ok (.ireturn, 1) := by decide +kernel
theorem dX0_turnToNextDay_0 : decode cX0_turnToNextDay 0 = .ok (.aload_n 0, 1) := by decide +kernel
theorem dX0_turnToNextDay_1 : decode cX0_turnToNextDay 1 = .ok (.getfield 11, 3) := by decide +kernel
theorem dX0_turnToNextDay_4 : decode cX0_turnToNextDay 4 = .ok (.iconst 0, 1) := by decide +kernel
theorem dX0_turnToNextDay_5 : decode cX0_turnToNextDay 5 = .ok (.aload_n 0, 1) := by decide +kernel
theorem dX0_turnToNextDay_6 : decode cX0_turnToNextDay 6 = .ok (.getfield 11, 3) := by decide +kernel
theorem dX0_turnToNextDay_9 : decode cX0_turnToNextDay 9 = .ok (.bipush 42, 2) := by decide +kernel
theorem dX0_turnToNextDay_11 : decode cX0_turnToNextDay 11 = .ok (.aload_n 0, 1) := by decide +kernel
theorem dX0_turnToNextDay_12 : decode cX0_turnToNextDay 12 = .ok (.getfield 11, 3) := by decide +kernel
theorem dX0_turnToNextDay_15 : decode cX0_turnToNextDay 15 = .ok (.arraylength, 1) := by decide +kernel
theorem dX0_turnToNextDay_16 : decode cX0_turnToNextDay 16 = .ok (.bipush 42, 2) := by decide +kernel
theorem dX0_turnToNextDay_18 : decode cX0_turnToNextDay 18 = .ok (.isub, 1) := by decide +kernel
theorem dX0_turnToNextDay_19 : decode cX0_turnToNextDay 19 = .ok (.invokestatic 22, 3) := by decide +kernel
theorem dX0_turnToNextDay_22 : decode cX0_turnToNextDay 22 = .ok (.aload_n 0, 1) := by decide +kernel
theorem dX0_turnToNextDay_23 : decode cX0_turnToNextDay 23 = .ok (.getfield 15, 3) := by decide +kernel
theorem dX0_turnToNextDay_26 : decode cX0_turnToNextDay 26 = .ok (.iconst 0, 1) := by decide +kernel
theorem dX0_turnToNextDay_27 : decode cX0_turnToNextDay 27 = .ok (.aload_n 0, 1) := by decide +kernel
theorem dX0_turnToNextDay_28 : decode cX0_turnToNextDay 28 = .ok (.getfield 15, 3) := by decide +kernel
theorem dX0_turnToNextDay_31 : decode cX0_turnToNextDay 31 = .ok (.bipush 6, 2) := by decide +kernel
theorem dX0_turnToNextDay_33 : decode cX0_turnToNextDay 33 = .ok (.aload_n 0, 1) := by decide +kernel
theorem dX0_turnToNextDay_34 : decode cX0_turnToNextDay 34 = .ok (.getfield 15, 3) := by decide +kernel
theorem dX0_turnToNextDay_37 : decode cX0_turnToNextDay 37 = .ok (.arraylength, 1) := by decide +kernel
theorem dX0_turnToNextDay_38 : decode cX0_turnToNextDay 38 = .ok (.bipush 6, 2) := by decide +kernel
theorem dX0_turnToNextDay_40 : decode cX0_turnToNextDay 40 = .ok (.isub, 1) := by decide +kernel
theorem dX0_turnToNextDay_41 : decode cX0_turnToNextDay 41 = .ok (.invokestatic 22, 3) := by decide +kernel
theorem dX0_turnToNextDay_44 : decode cX0_turnToNextDay 44 = .ok (.aload_n 0, 1) := by decide +kernel
theorem dX0_turnToNextDay_45 : decode cX0_turnToNextDay 45 = .ok (.getfield 18, 3) := by decide +kernel
theorem dX0_turnToNextDay_48 : decode cX0_turnToNextDay 48 = .ok (.iconst 0, 1) := by decide +kernel
theorem dX0_turnToNextDay_49 : decode cX0_turnToNextDay 49 = .ok (.aload_n 0, 1) := by decide +kernel
theorem dX0_turnToNextDay_50 : decode cX0_turnToNextDay 50 = .ok (.getfield 18, 3) := by decide +kernel
theorem dX0_turnToNextDay_53 : decode cX0_turnToNextDay 53 = .ok (.iconst 1, 1) := by decide +kernel
theorem dX0_turnToNextDay_54 : decode cX0_turnToNextDay 54 = .ok (.aload_n 0, 1) := by decide +kernel
theorem dX0_turnToNextDay_55 : decode cX0_turnToNextDay 55 = .ok (.getfield 18, 3) := by decide +kernel
theorem dX0_turnToNextDay_58 : decode cX0_turnToNextDay 58 = .ok (.arraylength, 1) := by decide +kernel
theorem dX0_turnToNextDay_59 : decode cX0_turnToNextDay 59 = .ok (.iconst 1, 1) := by decide +kernel
theorem dX0_turnToNextDay_60 : decode cX0_turnToNextDay 60 = .ok (.isub, 1) := by decide +kernel
theorem dX0_turnToNextDay_61 : decode cX0_turnToNextDay 61 = .ok (.invokestatic 22, 3) := by decide +kernel
theorem dX0_turnToNextDay_64 : decode cX0_turnToNextDay 64 = .ok (.iconst 0, 1) := by decide +kernel
theorem dX0_turnToNextDay_65 : decode cX0_turnToNextDay 65 = .ok (.istore_n 1, 1) := by decide +kernel
theorem dX0_turnToNextDay_66 : decode cX0_turnToNextDay 66 = .ok (.iload_n 1, 1) := by decide +kernel
theorem dX0_turnToNextDay_67 : decode cX0_turnToNextDay 67 = .ok (.bipush 42, 2) := by decide +kernel
theorem dX0_turnToNextDay_69 : decode cX0_turnToNextDay 69 = .ok (.if_icmp .ge 16, 3) := by decide +kernel
theorem dX0_turnToNextDay_72 : decode cX0_turnToNextDay 72 = .ok (.aload_n 0, 1) := by decide +kernel
theorem dX0_turnToNextDay_73 : decode cX0_turnToNextDay 73 = .ok (.getfield 11, 3) := by decide +kernel
theorem dX0_turnToNextDay_76 : decode cX0_turnToNextDay 76 = .ok (.iload_n 1, 1) := by decide +kernel
theorem dX0_turnToNextDay_77 : decode cX0_turnToNextDay 77 = .ok (.iconst 0, 1) := by decide +kernel
theorem dX0_turnToNextDay_78 : decode cX0_turnToNextDay 78 = .ok (.iastore, 1) := by decide +kernel
theorem dX0_turnToNextDay_79 : decode cX0_turnToNextDay 79 = .ok (.iinc 1 1, 3) := by decide +kernel
theorem dX0_turnToNextDay_82 : decode cX0_turnToNextDay 82 = .ok (.goto (-16), 3) := by decide +kernel
theorem dX0_turnToNextDay_85 : decode cX0_turnToNextDay 85 = .ok (.aload_n 0, 1) := by decide +kernel
theorem dX0_turnToNextDay_86 : decode cX0_turnToNextDay 86 = .ok (.getfield 18, 3) := by decide +kernel
theorem dX0_turnToNextDay_89 : decode cX0_turnToNextDay 89 = .ok (.iconst 0, 1) := by decide +kernel
theorem dX0_turnToNextDay_90 : decode cX0_turnToNextDay 90 = .ok (.lconst 0, 1) := by decide +kernel
theorem dX0_turnToNextDay_91 : decode cX0_turnToNextDay 91 = .ok (.lastore, 1) := by decide +kernel
theorem dX0_turnToNextDay_92 : decode cX0_turnToNextDay 92 = .ok (.return_, 1) := by decide +kernel
theorem dX1_init_0 : decode cX1_init 0 = .ok (.aload_n 0, 1) := by decide +kernel
theorem dX1_init_1 : decode cX1_init 1 = .ok (.invokespecial 1, 3) := by decide +kernel
theorem dX1_init_4 : decode cX1_init 4 = .ok (.aload_n 0, 1) := by decide +kernel
theorem dX1_init_5 : decode cX1_init 5 = .ok (.bipush 64, 2) := by decide +kernel
theorem dX1_init_7 : decode cX1_init 7 = .ok (.newarray .int, 2) := by decide +kernel
theorem dX1_init_9 : decode cX1_init 9 = .ok (.putfield 9, 3) := by decide +kernel
theorem dX1_init_12 : decode cX1_init 12 = .ok (.return_, 1) := by decide +kernel
theorem dX1_isFull_0 : decode cX1_isFull 0 = .ok (.aload_n 0, 1) := by decide +kernel
theorem dX1_isFull_1 : decode cX1_isFull 1 = .ok (.getfield 13, 3) := by decide +kernel
theorem dX1_isFull_4 : decode cX1_isFull 4 = .ok (.bipush 64, 2) := by decide +kernel
theorem dX1_isFull_6 : decode cX1_isFull 6 = .ok (.if_icmp .lt 7, 3) := by decide +kernel
theorem dX1_isFull_9 : decode cX1_isFull 9 = .ok (.iconst 1, 1) := by decide +kernel
theorem dX1_isFull_10 : decode cX1_isFull 10 = .ok (.goto 4, 3) := by decide +kernel
theorem dX1_isFull_13 : decode cX1_isFull 13 = .ok (.iconst 0, 1) := by decide +kernel
theorem dX1_isFull_14 : decode cX1_isFull 14 = .ok (.ireturn, 1) := by decide +kernel
theorem dX1_add_0 : decode cX1_add 0 = .ok (.aload_n 0, 1) := by decide +kernel
theorem dX1_add_1 : decode cX1_add 1 = .ok (.getfield 13, 3) := by decide +kernel
theorem dX1_add_4 : decode cX1_add 4 = .ok (.bipush 64, 2) := by decide +kernel
theorem dX1_add_6 : decode cX1_add 6 = .ok (.if_icmp .ge 23, 3) := by decide +kernel
theorem dX1_add_9 : decode cX1_add 9 = .ok (.aload_n 0, 1) := by decide +kernel
theorem dX1_add_10 : decode cX1_add 10 = .ok (.getfield 9, 3) := by decide +kernel
theorem dX1_add_13 : decode cX1_add 13 = .ok (.aload_n 0, 1) := by decide +kernel
theorem dX1_add_14 : decode cX1_add 14 = .ok (.getfield 13, 3) := by decide +kernel
theorem dX1_add_17 : decode cX1_add 17 = .ok (.iload_n 1, 1) := by decide +kernel
theorem dX1_add_18 : decode cX1_add 18 = .ok (.iastore, 1) := by decide +kernel
theorem dX1_add_19 : decode cX1_add 19 = .ok (.aload_n 0, 1) := by decide +kernel
theorem dX1_add_20 : decode cX1_add 20 = .ok (.dup, 1) := by decide +kernel
theorem dX1_add_21 : decode cX1_add 21 = .ok (.getfield 13, 3) := by decide +kernel
theorem dX1_add_24 : decode cX1_add 24 = .ok (.iconst 1, 1) := by decide +kernel
theorem dX1_add_25 : decode cX1_add 25 = .ok (.iadd, 1) := by decide +kernel
theorem dX1_add_26 : decode cX1_add 26 = .ok (.putfield 13, 3) := by decide +kernel
theorem dX1_add_29 : decode cX1_add 29 = .ok (.aload_n 0, 1) := by decide +kernel
theorem dX1_add_30 : decode cX1_add 30 = .ok (.getfield 13, 3) := by decide +kernel
theorem dX1_add_33 : decode cX1_add 33 = .ok (.ireturn, 1) := by decide +kernel
theorem dX1_forget_0 : decode cX1_forget 0 = .ok (.aload_n 0, 1) := by decide +kernel
theorem dX1_forget_1 : decode cX1_forget 1 = .ok (.iconst 0, 1) := by decide +kernel
theorem dX1_forget_2 : decode cX1_forget 2 = .ok (.putfield 13, 3) := by decide +kernel
theorem dX1_forget_5 : decode cX1_forget 5 = .ok (.return_, 1) := by decide +kernel
theorem dX1_isAt_0 : decode cX1_isAt 0 = .ok (.iload_n 2, 1) := by decide +kernel
theorem dX1_isAt_1 : decode cX1_isAt 1 = .ok (.ifCond .lt 25, 3) := by decide +kernel
theorem dX1_isAt_4 : decode cX1_isAt 4 = .ok (.iload_n 2, 1) := by decide +kernel
theorem dX1_isAt_5 : decode cX1_isAt 5 = .ok (.aload_n 0, 1) := by decide +kernel
theorem dX1_isAt_6 : decode cX1_isAt 6 = .ok (.getfield 13, 3) := by decide +kernel
theorem dX1_isAt_9 : decode cX1_isAt 9 = .ok (.if_icmp .ge 17, 3) := by decide +kernel
theorem dX1_isAt_12 : decode cX1_isAt 12 = .ok (.aload_n 0, 1) := by decide +kernel
theorem dX1_isAt_13 : decode cX1_isAt 13 = .ok (.getfield 9, 3) := by decide +kernel
theorem dX1_isAt_16 : decode cX1_isAt 16 = .ok (.iload_n 2, 1) := by decide +kernel
theorem dX1_isAt_17 : decode cX1_isAt 17 = .ok (.iaload, 1) := by decide +kernel
theorem dX1_isAt_18 : decode cX1_isAt 18 = .ok (.iload_n 1, 1) := by decide +kernel
theorem dX1_isAt_19 : decode cX1_isAt 19 = .ok (.if_icmp .ne 7, 3) := by decide +kernel
theorem dX1_isAt_22 : decode cX1_isAt 22 = .ok (.iconst 1, 1) := by decide +kernel
theorem dX1_isAt_23 : decode cX1_isAt 23 = .ok (.goto 4, 3) := by decide +kernel
theorem dX1_isAt_26 : decode cX1_isAt 26 = .ok (.iconst 0, 1) := by decide +kernel
theorem dX1_isAt_27 : decode cX1_isAt 27 = .ok (.ireturn, 1) := by decide +kernel
theorem dX1_isDigitAt_0 : decode cX1_isDigitAt 0 = .ok (.iload_n 1, 1) := by decide +kernel
theorem dX1_isDigitAt_1 : decode cX1_isDigitAt 1 = .ok (.ifCond .lt 37, 3) := by decide +kernel
theorem dX1_isDigitAt_4 : decode cX1_isDigitAt 4 = .ok (.iload_n 1, 1) := by decide +kernel
theorem dX1_isDigitAt_5 : decode cX1_isDigitAt 5 = .ok (.aload_n 0, 1) := by decide +kernel
theorem dX1_isDigitAt_6 : decode cX1_isDigitAt 6 = .ok (.getfield 13, 3) := by decide +kernel
theorem dX1_isDigitAt_9 : decode cX1_isDigitAt 9 = .ok (.if_icmp .ge 29, 3) := by decide +kernel
theorem dX1_isDigitAt_12 : decode cX1_isDigitAt 12 = .ok (.aload_n 0, 1) := by decide +kernel
theorem dX1_isDigitAt_13 : decode cX1_isDigitAt 13 = .ok (.getfield 9, 3) := by decide +kernel
theorem dX1_isDigitAt_16 : decode cX1_isDigitAt 16 = .ok (.iload_n 1, 1) := by decide +kernel
theorem dX1_isDigitAt_17 : decode cX1_isDigitAt 17 = .ok (.iaload, 1) := by decide +kernel
theorem dX1_isDigitAt_18 : decode cX1_isDigitAt 18 = .ok (.bipush 48, 2) := by decide +kernel
theorem dX1_isDigitAt_20 : decode cX1_isDigitAt 20 = .ok (.if_icmp .lt 18, 3) := by decide +kernel
theorem dX1_isDigitAt_23 : decode cX1_isDigitAt 23 = .ok (.aload_n 0, 1) := by decide +kernel
theorem dX1_isDigitAt_24 : decode cX1_isDigitAt 24 = .ok (.getfield 9, 3) := by decide +kernel
theorem dX1_isDigitAt_27 : decode cX1_isDigitAt 27 = .ok (.iload_n 1, 1) := by decide +kernel
theorem dX1_isDigitAt_28 : decode cX1_isDigitAt 28 = .ok (.iaload, 1) := by decide +kernel
theorem dX1_isDigitAt_29 : decode cX1_isDigitAt 29 = .ok (.bipush 57, 2) := by decide +kernel
theorem dX1_isDigitAt_31 : decode cX1_isDigitAt 31 = .ok (.if_icmp .gt 7, 3) := by decide +kernel
theorem dX1_isDigitAt_34 : decode cX1_isDigitAt 34 = .ok (.iconst 1, 1) := by decide +kernel
theorem dX1_isDigitAt_35 : decode cX1_isDigitAt 35 = .ok (.goto 4, 3) := by decide +kernel
theorem dX1_isDigitAt_38 : decode cX1_isDigitAt 38 = .ok (.iconst 0, 1) := by decide +kernel
theorem dX1_isDigitAt_39 : decode cX1_isDigitAt 39 = .ok (.ireturn, 1) := by decide +kernel
theorem dX1_digit_0 : decode cX1_digit 0 = .ok (.aload_n 0, 1) := by decide +kernel
theorem dX1_digit_1 : decode cX1_digit 1 = .ok (.iload_n 1, 1) := by decide +kernel
theorem dX1_digit_2 : decode cX1_digit 2 = .ok (.invokevirtual 17, 3) := by decide +kernel
theorem dX1_digit_5 : decode cX1_digit 5 = .ok (.ifCond .eq 15, 3) := by decide +kernel
theorem dX1_digit_8 : decode cX1_digit 8 = .ok (.aload_n 0, 1) := by decide +kernel
theorem dX1_digit_9 : decode cX1_digit 9 = .ok (.getfield 9, 3) := by decide +kernel
theorem dX1_digit_12 : decode cX1_digit 12 = .ok (.iload_n 1, 1) := by decide +kernel
theorem dX1_digit_13 : decode cX1_digit 13 = .ok (.iaload, 1) := by decide +kernel
theorem dX1_digit_14 : decode cX1_digit 14 = .ok (.bipush 48, 2) := by decide +kernel
theorem dX1_digit_16 : decode cX1_digit 16 = .ok (.isub, 1) := by decide +kernel
theorem dX1_digit_17 : decode cX1_digit 17 = .ok (.goto 4, 3) := by decide +kernel
theorem dX1_digit_20 : decode cX1_digit 20 = .ok (.iconst 0, 1) := by decide +kernel
theorem dX1_digit_21 : decode cX1_digit 21 = .ok (.ireturn, 1) := by decide +kernel
theorem dX1_number_0 : decode cX1_number 0 = .ok (.iconst 0, 1) := by decide +kernel
theorem dX1_number_1 : decode cX1_number 1 = .ok (.istore_n 2, 1) := by decide +kernel
theorem dX1_number_2 : decode cX1_number 2 = .ok (.iload_n 1, 1) := by decide +kernel
theorem dX1_number_3 : decode cX1_number 3 = .ok (.istore_n 3, 1) := by decide +kernel
theorem dX1_number_4 : decode cX1_number 4 = .ok (.iload_n 3, 1) := by decide +kernel
theorem dX1_number_5 : decode cX1_number 5 = .ok (.aload_n 0, 1) := by decide +kernel
theorem dX1_number_6 : decode cX1_number 6 = .ok (.getfield 13, 3) := by decide +kernel
theorem dX1_number_9 : decode cX1_number 9 = .ok (.if_icmp .ge 28, 3) := by decide +kernel
theorem dX1_number_12 : decode cX1_number 12 = .ok (.aload_n 0, 1) := by decide +kernel
theorem dX1_number_13 : decode cX1_number 13 = .ok (.iload_n 3, 1) := by decide +kernel
theorem dX1_number_14 : decode cX1_number 14 = .ok (.invokevirtual 17, 3) := by decide +kernel
theorem dX1_number_17 : decode cX1_number 17 = .ok (.ifCond .eq 20, 3) := by decide +kernel
theorem dX1_number_20 : decode cX1_number 20 = .ok (.iload_n 2, 1) := by decide +kernel
theorem dX1_number_21 : decode cX1_number 21 = .ok (.bipush 10, 2) := by decide +kernel
theorem dX1_number_23 : decode cX1_number 23 = .ok (.imul, 1) := by decide +kernel
theorem dX1_number_24 : decode cX1_number 24 = .ok (.aload_n 0, 1) := by decide +kernel
theorem dX1_number_25 : decode cX1_number 25 = .ok (.iload_n 3, 1) := by decide +kernel
theorem dX1_number_26 : decode cX1_number 26 = .ok (.invokevirtual 21, 3) := by decide +kernel
theorem dX1_number_29 : decode cX1_number 29 = .ok (.iadd, 1) := by decide +kernel
theorem dX1_number_30 : decode cX1_number 30 = .ok (.istore_n 2, 1) := by decide +kernel
theorem dX1_number_31 : decode cX1_number 31 = .ok (.iinc 3 1, 3) := by decide +kernel
theorem dX1_number_34 : decode cX1_number 34 = .ok (.goto (-30), 3) := by decide +kernel
theorem dX1_number_37 : decode cX1_number 37 = .ok (.iload_n 2, 1) := by decide +kernel
theorem dX1_number_38 : decode cX1_number 38 = .ok (.ireturn, 1) := by decide +kernel
theorem dX1_next_0 : decode cX1_next 0 = .ok (.iload_n 2, 1) := by decide +kernel
theorem dX1_next_1 : decode cX1_next 1 = .ok (.istore_n 3, 1) := by decide +kernel
theorem dX1_next_2 : decode cX1_next 2 = .ok (.iload_n 3, 1) := by decide +kernel
theorem dX1_next_3 : decode cX1_next 3 = .ok (.aload_n 0, 1) := by decide +kernel
theorem dX1_next_4 : decode cX1_next 4 = .ok (.getfield 13, 3) := by decide +kernel
theorem dX1_next_7 : decode cX1_next 7 = .ok (.if_icmp .ge 18, 3) := by decide +kernel
theorem dX1_next_10 : decode cX1_next 10 = .ok (.aload_n 0, 1) := by decide +kernel
theorem dX1_next_11 : decode cX1_next 11 = .ok (.iload_n 1, 1) := by decide +kernel
theorem dX1_next_12 : decode cX1_next 12 = .ok (.iload_n 3, 1) := by decide +kernel
theorem dX1_next_13 : decode cX1_next 13 = .ok (.invokevirtual 25, 3) := by decide +kernel
theorem dX1_next_16 : decode cX1_next 16 = .ok (.ifCond .ne 9, 3) := by decide +kernel
theorem dX1_next_19 : decode cX1_next 19 = .ok (.iinc 3 1, 3) := by decide +kernel
theorem dX1_next_22 : decode cX1_next 22 = .ok (.goto (-20), 3) := by decide +kernel
theorem dX1_next_25 : decode cX1_next 25 = .ok (.iload_n 3, 1) := by decide +kernel
theorem dX1_next_26 : decode cX1_next 26 = .ok (.ireturn, 1) := by decide +kernel
theorem dX1_firstUnfit_0 : decode cX1_firstUnfit 0 = .ok (.aload_n 0, 1) := by decide +kernel
theorem dX1_firstUnfit_1 : decode cX1_firstUnfit 1 = .ok (.iconst 0, 1) := by decide +kernel
theorem dX1_firstUnfit_2 : decode cX1_firstUnfit 2 = .ok (.putfield 29, 3) := by decide +kernel
theorem dX1_firstUnfit_5 : decode cX1_firstUnfit 5 = .ok (.aload_n 0, 1) := by decide +kernel
theorem dX1_firstUnfit_6 : decode cX1_firstUnfit 6 = .ok (.getfield 13, 3) := by decide +kernel
theorem dX1_firstUnfit_9 : decode cX1_firstUnfit 9 = .ok (.ifCond .le 7, 3) := by decide +kernel
theorem dX1_firstUnfit_12 : decode cX1_firstUnfit 12 = .ok (.iconst 1, 1) := by decide +kernel
theorem dX1_firstUnfit_13 : decode cX1_firstUnfit 13 = .ok (.goto 4, 3) := by decide +kernel
theorem dX1_firstUnfit_16 : decode cX1_firstUnfit 16 = .ok (.iconst 0, 1) := by decide +kernel
theorem dX1_firstUnfit_17 : decode cX1_firstUnfit 17 = .ok (.istore_n 1, 1) := by decide +kernel
theorem dX1_firstUnfit_18 : decode cX1_firstUnfit 18 = .ok (.iconst 0, 1) := by decide +kernel
theorem dX1_firstUnfit_19 : decode cX1_firstUnfit 19 = .ok (.istore_n 2, 1) := by decide +kernel
theorem dX1_firstUnfit_20 : decode cX1_firstUnfit 20 = .ok (.iload_n 2, 1) := by decide +kernel
theorem dX1_firstUnfit_21 : decode cX1_firstUnfit 21 = .ok (.bipush 64, 2) := by decide +kernel
theorem dX1_firstUnfit_23 : decode cX1_firstUnfit 23 = .ok (.if_icmp .ge 29, 3) := by decide +kernel
theorem dX1_firstUnfit_26 : decode cX1_firstUnfit 26 = .ok (.iload_n 1, 1) := by decide +kernel
theorem dX1_firstUnfit_27 : decode cX1_firstUnfit 27 = .ok (.ifCond .eq 25, 3) := by decide +kernel
theorem dX1_firstUnfit_30 : decode cX1_firstUnfit 30 = .ok (.aload_n 0, 1) := by decide +kernel
theorem dX1_firstUnfit_31 : decode cX1_firstUnfit 31 = .ok (.getfield 29, 3) := by decide +kernel
theorem dX1_firstUnfit_34 : decode cX1_firstUnfit 34 = .ok (.aload_n 0, 1) := by decide +kernel
theorem dX1_firstUnfit_35 : decode cX1_firstUnfit 35 = .ok (.getfield 13, 3) := by decide +kernel
theorem dX1_firstUnfit_38 : decode cX1_firstUnfit 38 = .ok (.if_icmp .ge 14, 3) := by decide +kernel
theorem dX1_firstUnfit_41 : decode cX1_firstUnfit 41 = .ok (.aload_n 0, 1) := by decide +kernel
theorem dX1_firstUnfit_42 : decode cX1_firstUnfit 42 = .ok (.invokevirtual 32, 3) := by decide +kernel
theorem dX1_firstUnfit_45 : decode cX1_firstUnfit 45 = .ok (.istore_n 1, 1) := by decide +kernel
theorem dX1_firstUnfit_46 : decode cX1_firstUnfit 46 = .ok (.iinc 2 1, 3) := by decide +kernel
theorem dX1_firstUnfit_49 : decode cX1_firstUnfit 49 = .ok (.goto (-29), 3) := by decide +kernel
theorem dX1_firstUnfit_52 : decode cX1_firstUnfit 52 = .ok (.iload_n 1, 1) := by decide +kernel
theorem dX1_firstUnfit_53 : decode cX1_firstUnfit 53 = .ok (.ifCond .eq 7, 3) := by decide +kernel
theorem dX1_firstUnfit_56 : decode cX1_firstUnfit 56 = .ok (.iconst (-1), 1) := by decide +kernel
theorem dX1_firstUnfit_57 : decode cX1_firstUnfit 57 = .ok (.goto 7, 3) := by decide +kernel
theorem dX1_firstUnfit_60 : decode cX1_firstUnfit 60 = .ok (.aload_n 0, 1) := by decide +kernel
theorem dX1_firstUnfit_61 : decode cX1_firstUnfit 61 = .ok (.getfield 29, 3) := by decide +kernel
theorem dX1_firstUnfit_64 : decode cX1_firstUnfit 64 = .ok (.ireturn, 1) := by decide +kernel
theorem dX1_passesStatement_0 : decode cX1_passesStatement 0 = .ok (.aload_n 0, 1) := by decide +kernel
theorem dX1_passesStatement_1 : decode cX1_passesStatement 1 = .ok (.bipush 108, 2) := by decide +kernel
theorem dX1_passesStatement_3 : decode cX1_passesStatement 3 = .ok (.invokevirtual 36, 3) := by decide +kernel
theorem dX1_passesStatement_6 : decode cX1_passesStatement 6 = .ok (.ifCond .eq 27, 3) := by decide +kernel
theorem dX1_passesStatement_9 : decode cX1_passesStatement 9 = .ok (.aload_n 0, 1) := by decide +kernel
theorem dX1_passesStatement_10 : decode cX1_passesStatement 10 = .ok (.iconst 3, 1) := by decide +kernel
theorem dX1_passesStatement_11 : decode cX1_passesStatement 11 = .ok (.iconst 3, 1) := by decide +kernel
theorem dX1_passesStatement_12 : decode cX1_passesStatement 12 = .ok (.invokevirtual 39, 3) := by decide +kernel
theorem dX1_passesStatement_15 : decode cX1_passesStatement 15 = .ok (.ifCond .eq 16, 3) := by decide +kernel
theorem dX1_passesStatement_18 : decode cX1_passesStatement 18 = .ok (.aload_n 0, 1) := by decide +kernel
theorem dX1_passesStatement_19 : decode cX1_passesStatement 19 = .ok (.bipush 59, 2) := by decide +kernel
theorem dX1_passesStatement_21 : decode cX1_passesStatement 21 = .ok (.invokevirtual 36, 3) := by decide +kernel
theorem dX1_passesStatement_24 : decode cX1_passesStatement 24 = .ok (.ifCond .eq 7, 3) := by decide +kernel
theorem dX1_passesStatement_27 : decode cX1_passesStatement 27 = .ok (.iconst 1, 1) := by decide +kernel
theorem dX1_passesStatement_28 : decode cX1_passesStatement 28 = .ok (.goto 4, 3) := by decide +kernel
theorem dX1_passesStatement_31 : decode cX1_passesStatement 31 = .ok (.iconst 0, 1) := by decide +kernel
theorem dX1_passesStatement_32 : decode cX1_passesStatement 32 = .ok (.ireturn, 1) := by decide +kernel
theorem dX1_passesStatement_33 : decode cX1_passesStatement 33 = .ok (.aload_n 0, 1) := by decide +kernel
theorem dX1_passesStatement_34 : decode cX1_passesStatement 34 = .ok (.bipush 112, 2) := by decide +kernel
theorem dX1_passesStatement_36 : decode cX1_passesStatement 36 = .ok (.invokevirtual 36, 3) := by decide +kernel
theorem dX1_passesStatement_39 : decode cX1_passesStatement 39 = .ok (.ifCond .eq 44, 3) := by decide +kernel
theorem dX1_passesStatement_42 : decode cX1_passesStatement 42 = .ok (.aload_n 0, 1) := by decide +kernel
theorem dX1_passesStatement_43 : decode cX1_passesStatement 43 = .ok (.iconst 4, 1) := by decide +kernel
theorem dX1_passesStatement_44 : decode cX1_passesStatement 44 = .ok (.bipush 7, 2) := by decide +kernel
theorem dX1_passesStatement_46 : decode cX1_passesStatement 46 = .ok (.invokevirtual 39, 3) := by decide +kernel
theorem dX1_passesStatement_49 : decode cX1_passesStatement 49 = .ok (.ifCond .eq 34, 3) := by decide +kernel
theorem dX1_passesStatement_52 : decode cX1_passesStatement 52 = .ok (.aload_n 0, 1) := by decide +kernel
theorem dX1_passesStatement_53 : decode cX1_passesStatement 53 = .ok (.bipush 44, 2) := by decide +kernel
theorem dX1_passesStatement_55 : decode cX1_passesStatement 55 = .ok (.invokevirtual 36, 3) := by decide +kernel
theorem dX1_passesStatement_58 : decode cX1_passesStatement 58 = .ok (.ifCond .eq 25, 3) := by decide +kernel
theorem dX1_passesStatement_61 : decode cX1_passesStatement 61 = .ok (.aload_n 0, 1) := by decide +kernel
theorem dX1_passesStatement_62 : decode cX1_passesStatement 62 = .ok (.iconst 1, 1) := by decide +kernel
theorem dX1_passesStatement_63 : decode cX1_passesStatement 63 = .ok (.iconst 2, 1) := by decide +kernel
theorem dX1_passesStatement_64 : decode cX1_passesStatement 64 = .ok (.invokevirtual 39, 3) := by decide +kernel
theorem dX1_passesStatement_67 : decode cX1_passesStatement 67 = .ok (.ifCond .eq 16, 3) := by decide +kernel
theorem dX1_passesStatement_70 : decode cX1_passesStatement 70 = .ok (.aload_n 0, 1) := by decide +kernel
theorem dX1_passesStatement_71 : decode cX1_passesStatement 71 = .ok (.bipush 59, 2) := by decide +kernel
theorem dX1_passesStatement_73 : decode cX1_passesStatement 73 = .ok (.invokevirtual 36, 3) := by decide +kernel
theorem dX1_passesStatement_76 : decode cX1_passesStatement 76 = .ok (.ifCond .eq 7, 3) := by decide +kernel
theorem dX1_passesStatement_79 : decode cX1_passesStatement 79 = .ok (.iconst 1, 1) := by decide +kernel
theorem dX1_passesStatement_80 : decode cX1_passesStatement 80 = .ok (.goto 4, 3) := by decide +kernel
theorem dX1_passesStatement_83 : decode cX1_passesStatement 83 = .ok (.iconst 0, 1) := by decide +kernel
theorem dX1_passesStatement_84 : decode cX1_passesStatement 84 = .ok (.ireturn, 1) := by decide +kernel
theorem dX1_passes_0 : decode cX1_passes 0 = .ok (.aload_n 0, 1) := by decide +kernel
theorem dX1_passes_1 : decode cX1_passes 1 = .ok (.iload_n 1, 1) := by decide +kernel
theorem dX1_passes_2 : decode cX1_passes 2 = .ok (.aload_n 0, 1) := by decide +kernel
theorem dX1_passes_3 : decode cX1_passes 3 = .ok (.getfield 29, 3) := by decide +kernel
theorem dX1_passes_6 : decode cX1_passes 6 = .ok (.invokevirtual 25, 3) := by decide +kernel
theorem dX1_passes_9 : decode cX1_passes 9 = .ok (.ifCond .ne 5, 3) := by decide +kernel
theorem dX1_passes_12 : decode cX1_passes 12 = .ok (.iconst 0, 1) := by decide +kernel
theorem dX1_passes_13 : decode cX1_passes 13 = .ok (.ireturn, 1) := by decide +kernel
theorem dX1_passes_14 : decode cX1_passes 14 = .ok (.aload_n 0, 1) := by decide +kernel
theorem dX1_passes_15 : decode cX1_passes 15 = .ok (.dup, 1) := by decide +kernel
theorem dX1_passes_16 : decode cX1_passes 16 = .ok (.getfield 29, 3) := by decide +kernel
theorem dX1_passes_19 : decode cX1_passes 19 = .ok (.iconst 1, 1) := by decide +kernel
theorem dX1_passes_20 : decode cX1_passes 20 = .ok (.iadd, 1) := by decide +kernel
theorem dX1_passes_21 : decode cX1_passes 21 = .ok (.putfield 29, 3) := by decide +kernel
theorem dX1_passes_24 : decode cX1_passes 24 = .ok (.iconst 1, 1) := by decide +kernel
theorem dX1_passes_25 : decode cX1_passes 25 = .ok (.ireturn, 1) := by decide +kernel
theorem dX1_passesDigits_0 : decode cX1_passesDigits 0 = .ok (.iconst 0, 1) := by decide +kernel
theorem dX1_passesDigits_1 : decode cX1_passesDigits 1 = .ok (.istore_n 3, 1) := by decide +kernel
theorem dX1_passesDigits_2 : decode cX1_passesDigits 2 = .ok (.iload_n 3, 1) := by decide +kernel
theorem dX1_passesDigits_3 : decode cX1_passesDigits 3 = .ok (.iload_n 2, 1) := by decide +kernel
theorem dX1_passesDigits_4 : decode cX1_passesDigits 4 = .ok (.if_icmp .ge 30, 3) := by decide +kernel
theorem dX1_passesDigits_7 : decode cX1_passesDigits 7 = .ok (.aload_n 0, 1) := by decide +kernel
theorem dX1_passesDigits_8 : decode cX1_passesDigits 8 = .ok (.aload_n 0, 1) := by decide +kernel
theorem dX1_passesDigits_9 : decode cX1_passesDigits 9 = .ok (.getfield 29, 3) := by decide +kernel
theorem dX1_passesDigits_12 : decode cX1_passesDigits 12 = .ok (.invokevirtual 17, 3) := by decide +kernel
theorem dX1_passesDigits_15 : decode cX1_passesDigits 15 = .ok (.ifCond .eq 19, 3) := by decide +kernel
theorem dX1_passesDigits_18 : decode cX1_passesDigits 18 = .ok (.aload_n 0, 1) := by decide +kernel
theorem dX1_passesDigits_19 : decode cX1_passesDigits 19 = .ok (.dup, 1) := by decide +kernel
theorem dX1_passesDigits_20 : decode cX1_passesDigits 20 = .ok (.getfield 29, 3) := by decide +kernel
theorem dX1_passesDigits_23 : decode cX1_passesDigits 23 = .ok (.iconst 1, 1) := by decide +kernel
theorem dX1_passesDigits_24 : decode cX1_passesDigits 24 = .ok (.iadd, 1) := by decide +kernel
theorem dX1_passesDigits_25 : decode cX1_passesDigits 25 = .ok (.putfield 29, 3) := by decide +kernel
theorem dX1_passesDigits_28 : decode cX1_passesDigits 28 = .ok (.iinc 3 1, 3) := by decide +kernel
theorem dX1_passesDigits_31 : decode cX1_passesDigits 31 = .ok (.goto (-29), 3) := by decide +kernel
theorem dX1_passesDigits_34 : decode cX1_passesDigits 34 = .ok (.iload_n 3, 1) := by decide +kernel
theorem dX1_passesDigits_35 : decode cX1_passesDigits 35 = .ok (.iload_n 1, 1) := by decide +kernel
theorem dX1_passesDigits_36 : decode cX1_passesDigits 36 = .ok (.if_icmp .lt 7, 3) := by decide +kernel
theorem dX1_passesDigits_39 : decode cX1_passesDigits 39 = .ok (.iconst 1, 1) := by decide +kernel
theorem dX1_passesDigits_40 : decode cX1_passesDigits 40 = .ok (.goto 4, 3) := by decide +kernel
theorem dX1_passesDigits_43 : decode cX1_passesDigits 43 = .ok (.iconst 0, 1) := by decide +kernel
theorem dX1_passesDigits_44 : decode cX1_passesDigits 44 = .ok (.ireturn, 1) := by decide +kernel
theorem dX2_init_0 : decode cX2_init 0 = .ok (.aload_n 0, 1) := by decide +kernel
theorem dX2_init_1 : decode cX2_init 1 = .ok (.invokespecial 3, 3) := by decide +kernel
theorem dX2_init_4 : decode cX2_init 4 = .ok (.aload_n 0, 1) := by decide +kernel
theorem dX2_init_5 : decode cX2_init 5 = .ok (.bipush 7, 2) := by decide +kernel
theorem dX2_init_7 : decode cX2_init 7 = .ok (.anewarray 9, 3) := by decide +kernel
theorem dX2_init_10 : decode cX2_init 10 = .ok (.putfield 11, 3) := by decide +kernel
theorem dX2_init_13 : decode cX2_init 13 = .ok (.aload_n 0, 1) := by decide +kernel
theorem dX2_init_14 : decode cX2_init 14 = .ok (.bipush 6, 2) := by decide +kernel
theorem dX2_init_16 : decode cX2_init 16 = .ok (.newarray .int, 2) := by decide +kernel
theorem dX2_init_18 : decode cX2_init 18 = .ok (.putfield 17, 3) := by decide +kernel
theorem dX2_init_21 : decode cX2_init 21 = .ok (.aload_n 0, 1) := by decide +kernel
theorem dX2_init_22 : decode cX2_init 22 = .ok (.bipush 6, 2) := by decide +kernel
theorem dX2_init_24 : decode cX2_init 24 = .ok (.newarray .int, 2) := by decide +kernel
theorem dX2_init_26 : decode cX2_init 26 = .ok (.putfield 21, 3) := by decide +kernel
theorem dX2_init_29 : decode cX2_init 29 = .ok (.iconst 0, 1) := by decide +kernel
theorem dX2_init_30 : decode cX2_init 30 = .ok (.istore_n 1, 1) := by decide +kernel
theorem dX2_init_31 : decode cX2_init 31 = .ok (.iload_n 1, 1) := by decide +kernel
theorem dX2_init_32 : decode cX2_init 32 = .ok (.aload_n 0, 1) := by decide +kernel
theorem dX2_init_33 : decode cX2_init 33 = .ok (.getfield 11, 3) := by decide +kernel
theorem dX2_init_36 : decode cX2_init 36 = .ok (.arraylength, 1) := by decide +kernel
theorem dX2_init_37 : decode cX2_init 37 = .ok (.if_icmp .ge 22, 3) := by decide +kernel
theorem dX2_init_40 : decode cX2_init 40 = .ok (.aload_n 0, 1) := by decide +kernel
theorem dX2_init_41 : decode cX2_init 41 = .ok (.getfield 11, 3) := by decide +kernel
theorem dX2_init_44 : decode cX2_init 44 = .ok (.iload_n 1, 1) := by decide +kernel
theorem dX2_init_45 : decode cX2_init 45 = .ok (.new 9, 3) := by decide +kernel
theorem dX2_init_48 : decode cX2_init 48 = .ok (.dup, 1) := by decide +kernel
theorem dX2_init_49 : decode cX2_init 49 = .ok (.invokespecial 24, 3) := by decide +kernel
theorem dX2_init_52 : decode cX2_init 52 = .ok (.aastore, 1) := by decide +kernel
theorem dX2_init_53 : decode cX2_init 53 = .ok (.iinc 1 1, 3) := by decide +kernel
theorem dX2_init_56 : decode cX2_init 56 = .ok (.goto (-25), 3) := by decide +kernel
theorem dX2_init_59 : decode cX2_init 59 = .ok (.return_, 1) := by decide +kernel
theorem dX2_run_0 : decode cX2_run 0 = .ok (.aload_n 0, 1) := by decide +kernel
theorem dX2_run_1 : decode cX2_run 1 = .ok (.iload_n 2, 1) := by decide +kernel
theorem dX2_run_2 : decode cX2_run 2 = .ok (.putfield 25, 3) := by decide +kernel
theorem dX2_run_5 : decode cX2_run 5 = .ok (.aload_n 0, 1) := by decide +kernel
theorem dX2_run_6 : decode cX2_run 6 = .ok (.iload_n 3, 1) := by decide +kernel
theorem dX2_run_7 : decode cX2_run 7 = .ok (.bipush 6, 2) := by decide +kernel
theorem dX2_run_9 : decode cX2_run 9 = .ok (.invokestatic 29, 3) := by decide +kernel
theorem dX2_run_12 : decode cX2_run 12 = .ok (.putfield 35, 3) := by decide +kernel
theorem dX2_run_15 : decode cX2_run 15 = .ok (.aload_n 0, 1) := by decide +kernel
theorem dX2_run_16 : decode cX2_run 16 = .ok (.iload 4, 2) := by decide +kernel
theorem dX2_run_18 : decode cX2_run 18 = .ok (.putfield 38, 3) := by decide +kernel
theorem dX2_run_21 : decode cX2_run 21 = .ok (.aload_n 0, 1) := by decide +kernel
theorem dX2_run_22 : decode cX2_run 22 = .ok (.bipush (-9), 2) := by decide +kernel
theorem dX2_run_24 : decode cX2_run 24 = .ok (.putfield 41, 3) := by decide +kernel
theorem dX2_run_27 : decode cX2_run 27 = .ok (.aload_n 0, 1) := by decide +kernel
theorem dX2_run_28 : decode cX2_run 28 = .ok (.bipush (-9), 2) := by decide +kernel
theorem dX2_run_30 : decode cX2_run 30 = .ok (.putfield 44, 3) := by decide +kernel
theorem dX2_run_33 : decode cX2_run 33 = .ok (.aload_n 0, 1) := by decide +kernel
theorem dX2_run_34 : decode cX2_run 34 = .ok (.getfield 11, 3) := by decide +kernel
theorem dX2_run_37 : decode cX2_run 37 = .ok (.iconst 0, 1) := by decide +kernel
theorem dX2_run_38 : decode cX2_run 38 = .ok (.aaload, 1) := by decide +kernel
theorem dX2_run_39 : decode cX2_run 39 = .ok (.aload_n 1, 1) := by decide +kernel
theorem dX2_run_40 : decode cX2_run 40 = .ok (.invokevirtual 47, 3) := by decide +kernel
theorem dX2_run_43 : decode cX2_run 43 = .ok (.aload_n 0, 1) := by decide +kernel
theorem dX2_run_44 : decode cX2_run 44 = .ok (.iconst 0, 1) := by decide +kernel
theorem dX2_run_45 : decode cX2_run 45 = .ok (.iconst 0, 1) := by decide +kernel
theorem dX2_run_46 : decode cX2_run 46 = .ok (.invokestatic 51, 3) := by decide +kernel
theorem dX2_run_49 : decode cX2_run 49 = .ok (.return_, 1) := by decide +kernel
theorem dX2_explore_0 : decode cX2_explore 0 = .ok (.iload_n 1, 1) := by decide +kernel
theorem dX2_explore_1 : decode cX2_explore 1 = .ok (.aload_n 0, 1) := by decide +kernel
theorem dX2_explore_2 : decode cX2_explore 2 = .ok (.getfield 35, 3) := by decide +kernel
theorem dX2_explore_5 : decode cX2_explore 5 = .ok (.if_icmp .lt 9, 3) := by decide +kernel
theorem dX2_explore_8 : decode cX2_explore 8 = .ok (.aload_n 0, 1) := by decide +kernel
theorem dX2_explore_9 : decode cX2_explore 9 = .ok (.iload_n 2, 1) := by decide +kernel
theorem dX2_explore_10 : decode cX2_explore 10 = .ok (.invokevirtual 55, 3) := by decide +kernel
theorem dX2_explore_13 : decode cX2_explore 13 = .ok (.return_, 1) := by decide +kernel
theorem dX2_explore_14 : decode cX2_explore 14 = .ok (.aload_n 0, 1) := by decide +kernel
theorem dX2_explore_15 : decode cX2_explore 15 = .ok (.getfield 11, 3) := by decide +kernel
theorem dX2_explore_18 : decode cX2_explore 18 = .ok (.iload_n 1, 1) := by decide +kernel
theorem dX2_explore_19 : decode cX2_explore 19 = .ok (.aaload, 1) := by decide +kernel
theorem dX2_explore_20 : decode cX2_explore 20 = .ok (.astore_n 3, 1) := by decide +kernel
theorem dX2_explore_21 : decode cX2_explore 21 = .ok (.aload_n 3, 1) := by decide +kernel
theorem dX2_explore_22 : decode cX2_explore 22 = .ok (.getfield 59, 3) := by decide +kernel
theorem dX2_explore_25 : decode cX2_explore 25 = .ok (.aload_n 0, 1) := by decide +kernel
theorem dX2_explore_26 : decode cX2_explore 26 = .ok (.getfield 25, 3) := by decide +kernel
theorem dX2_explore_29 : decode cX2_explore 29 = .ok (.iaload, 1) := by decide +kernel
theorem dX2_explore_30 : decode cX2_explore 30 = .ok (.istore 4, 2) := by decide +kernel
theorem dX2_explore_32 : decode cX2_explore 32 = .ok (.iconst 0, 1) := by decide +kernel
theorem dX2_explore_33 : decode cX2_explore 33 = .ok (.istore 5, 2) := by decide +kernel
theorem dX2_explore_35 : decode cX2_explore 35 = .ok (.iload 5, 2) := by decide +kernel
theorem dX2_explore_37 : decode cX2_explore 37 = .ok (.iconst 2, 1) := by decide +kernel
theorem dX2_explore_38 : decode cX2_explore 38 = .ok (.if_icmp .gt 77, 3) := by decide +kernel
theorem dX2_explore_41 : decode cX2_explore 41 = .ok (.iload 4, 2) := by decide +kernel
theorem dX2_explore_43 : decode cX2_explore 43 = .ok (.iload 5, 2) := by decide +kernel
theorem dX2_explore_45 : decode cX2_explore 45 = .ok (.imul, 1) := by decide +kernel
theorem dX2_explore_46 : decode cX2_explore 46 = .ok (.iconst 2, 1) := by decide +kernel
theorem dX2_explore_47 : decode cX2_explore 47 = .ok (.idiv, 1) := by decide +kernel
theorem dX2_explore_48 : decode cX2_explore 48 = .ok (.istore 6, 2) := by decide +kernel
theorem dX2_explore_50 : decode cX2_explore 50 = .ok (.iload 5, 2) := by decide +kernel
theorem dX2_explore_52 : decode cX2_explore 52 = .ok (.ifCond .le 11, 3) := by decide +kernel
theorem dX2_explore_55 : decode cX2_explore 55 = .ok (.iload 6, 2) := by decide +kernel
theorem dX2_explore_57 : decode cX2_explore 57 = .ok (.ifCond .ne 6, 3) := by decide +kernel
theorem dX2_explore_60 : decode cX2_explore 60 = .ok (.goto 49, 3) := by decide +kernel
theorem dX2_explore_63 : decode cX2_explore 63 = .ok (.aload_n 0, 1) := by decide +kernel
theorem dX2_explore_64 : decode cX2_explore 64 = .ok (.getfield 17, 3) := by decide +kernel
theorem dX2_explore_67 : decode cX2_explore 67 = .ok (.iload_n 1, 1) := by decide +kernel
theorem dX2_explore_68 : decode cX2_explore 68 = .ok (.iload 5, 2) := by decide +kernel
theorem dX2_explore_70 : decode cX2_explore 70 = .ok (.iastore, 1) := by decide +kernel
theorem dX2_explore_71 : decode cX2_explore 71 = .ok (.aload_n 0, 1) := by decide +kernel
theorem dX2_explore_72 : decode cX2_explore 72 = .ok (.getfield 11, 3) := by decide +kernel
theorem dX2_explore_75 : decode cX2_explore 75 = .ok (.iload_n 1, 1) := by decide +kernel
theorem dX2_explore_76 : decode cX2_explore 76 = .ok (.iconst 1, 1) := by decide +kernel
theorem dX2_explore_77 : decode cX2_explore 77 = .ok (.iadd, 1) := by decide +kernel
theorem dX2_explore_78 : decode cX2_explore 78 = .ok (.aaload, 1) := by decide +kernel
theorem dX2_explore_79 : decode cX2_explore 79 = .ok (.astore 7, 2) := by decide +kernel
theorem dX2_explore_81 : decode cX2_explore 81 = .ok (.aload 7, 2) := by decide +kernel
theorem dX2_explore_83 : decode cX2_explore 83 = .ok (.aload_n 3, 1) := by decide +kernel
theorem dX2_explore_84 : decode cX2_explore 84 = .ok (.invokevirtual 47, 3) := by decide +kernel
theorem dX2_explore_87 : decode cX2_explore 87 = .ok (.aload 7, 2) := by decide +kernel
theorem dX2_explore_89 : decode cX2_explore 89 = .ok (.aload_n 0, 1) := by decide +kernel
theorem dX2_explore_90 : decode cX2_explore 90 = .ok (.getfield 25, 3) := by decide +kernel
theorem dX2_explore_93 : decode cX2_explore 93 = .ok (.iload 6, 2) := by decide +kernel
theorem dX2_explore_95 : decode cX2_explore 95 = .ok (.invokevirtual 62, 3) := by decide +kernel
theorem dX2_explore_98 : decode cX2_explore 98 = .ok (.aload_n 0, 1) := by decide +kernel
theorem dX2_explore_99 : decode cX2_explore 99 = .ok (.iload_n 1, 1) := by decide +kernel
theorem dX2_explore_100 : decode cX2_explore 100 = .ok (.iconst 1, 1) := by decide +kernel
theorem dX2_explore_101 : decode cX2_explore 101 = .ok (.iadd, 1) := by decide +kernel
theorem dX2_explore_102 : decode cX2_explore 102 = .ok (.iload_n 2, 1) := by decide +kernel
theorem dX2_explore_103 : decode cX2_explore 103 = .ok (.iload 6, 2) := by decide +kernel
theorem dX2_explore_105 : decode cX2_explore 105 = .ok (.iadd, 1) := by decide +kernel
theorem dX2_explore_106 : decode cX2_explore 106 = .ok (.invokestatic 51, 3) := by decide +kernel
theorem dX2_explore_109 : decode cX2_explore 109 = .ok (.iinc 5 1, 3) := by decide +kernel
theorem dX2_explore_112 : decode cX2_explore 112 = .ok (.goto (-77), 3) := by decide +kernel
theorem dX2_explore_115 : decode cX2_explore 115 = .ok (.return_, 1) := by decide +kernel
theorem dX2_look_0 : decode cX2_look 0 = .ok (.aload_n 0, 1) := by decide +kernel
theorem dX2_look_1 : decode cX2_look 1 = .ok (.getfield 11, 3) := by decide +kernel
theorem dX2_look_4 : decode cX2_look 4 = .ok (.aload_n 0, 1) := by decide +kernel
theorem dX2_look_5 : decode cX2_look 5 = .ok (.getfield 35, 3) := by decide +kernel
theorem dX2_look_8 : decode cX2_look 8 = .ok (.aaload, 1) := by decide +kernel
theorem dX2_look_9 : decode cX2_look 9 = .ok (.getfield 59, 3) := by decide +kernel
theorem dX2_look_12 : decode cX2_look 12 = .ok (.aload_n 0, 1) := by decide +kernel
theorem dX2_look_13 : decode cX2_look 13 = .ok (.getfield 25, 3) := by decide +kernel
theorem dX2_look_16 : decode cX2_look 16 = .ok (.iaload, 1) := by decide +kernel
theorem dX2_look_17 : decode cX2_look 17 = .ok (.istore_n 2, 1) := by decide +kernel
theorem dX2_look_18 : decode cX2_look 18 = .ok (.iload_n 2, 1) := by decide +kernel
theorem dX2_look_19 : decode cX2_look 19 = .ok (.aload_n 0, 1) := by decide +kernel
theorem dX2_look_20 : decode cX2_look 20 = .ok (.getfield 41, 3) := by decide +kernel
theorem dX2_look_23 : decode cX2_look 23 = .ok (.if_icmp .le 25, 3) := by decide +kernel
theorem dX2_look_26 : decode cX2_look 26 = .ok (.aload_n 0, 1) := by decide +kernel
theorem dX2_look_27 : decode cX2_look 27 = .ok (.iload_n 2, 1) := by decide +kernel
theorem dX2_look_28 : decode cX2_look 28 = .ok (.putfield 41, 3) := by decide +kernel
theorem dX2_look_31 : decode cX2_look 31 = .ok (.aload_n 0, 1) := by decide +kernel
theorem dX2_look_32 : decode cX2_look 32 = .ok (.getfield 17, 3) := by decide +kernel
theorem dX2_look_35 : decode cX2_look 35 = .ok (.iconst 0, 1) := by decide +kernel
theorem dX2_look_36 : decode cX2_look 36 = .ok (.aload_n 0, 1) := by decide +kernel
theorem dX2_look_37 : decode cX2_look 37 = .ok (.getfield 21, 3) := by decide +kernel
theorem dX2_look_40 : decode cX2_look 40 = .ok (.iconst 0, 1) := by decide +kernel
theorem dX2_look_41 : decode cX2_look 41 = .ok (.aload_n 0, 1) := by decide +kernel
theorem dX2_look_42 : decode cX2_look 42 = .ok (.getfield 35, 3) := by decide +kernel
theorem dX2_look_45 : decode cX2_look 45 = .ok (.invokestatic 66, 3) := by decide +kernel
theorem dX2_look_48 : decode cX2_look 48 = .ok (.iload_n 2, 1) := by decide +kernel
theorem dX2_look_49 : decode cX2_look 49 = .ok (.aload_n 0, 1) := by decide +kernel
theorem dX2_look_50 : decode cX2_look 50 = .ok (.getfield 38, 3) := by decide +kernel
theorem dX2_look_53 : decode cX2_look 53 = .ok (.if_icmp .lt 25, 3) := by decide +kernel
theorem dX2_look_56 : decode cX2_look 56 = .ok (.aload_n 0, 1) := by decide +kernel
theorem dX2_look_57 : decode cX2_look 57 = .ok (.getfield 44, 3) := by decide +kernel
theorem dX2_look_60 : decode cX2_look 60 = .ok (.bipush (-9), 2) := by decide +kernel
theorem dX2_look_62 : decode cX2_look 62 = .ok (.if_icmp .eq 11, 3) := by decide +kernel
theorem dX2_look_65 : decode cX2_look 65 = .ok (.iload_n 1, 1) := by decide +kernel
theorem dX2_look_66 : decode cX2_look 66 = .ok (.aload_n 0, 1) := by decide +kernel
theorem dX2_look_67 : decode cX2_look 67 = .ok (.getfield 44, 3) := by decide +kernel
theorem dX2_look_70 : decode cX2_look 70 = .ok (.if_icmp .ge 8, 3) := by decide +kernel
theorem dX2_look_73 : decode cX2_look 73 = .ok (.aload_n 0, 1) := by decide +kernel
theorem dX2_look_74 : decode cX2_look 74 = .ok (.iload_n 1, 1) := by decide +kernel
theorem dX2_look_75 : decode cX2_look 75 = .ok (.putfield 44, 3) := by decide +kernel
theorem dX2_look_78 : decode cX2_look 78 = .ok (.return_, 1) := by decide +kernel
theorem dX3_init_0 : decode cX3_init 0 = .ok (.aload_n 0, 1) := by decide +kernel
theorem dX3_init_1 : decode cX3_init 1 = .ok (.invokespecial 3, 3) := by decide +kernel
theorem dX3_init_4 : decode cX3_init 4 = .ok (.aload_n 0, 1) := by decide +kernel
theorem dX3_init_5 : decode cX3_init 5 = .ok (.bipush 6, 2) := by decide +kernel
theorem dX3_init_7 : decode cX3_init 7 = .ok (.newarray .int, 2) := by decide +kernel
theorem dX3_init_9 : decode cX3_init 9 = .ok (.putfield 9, 3) := by decide +kernel
theorem dX3_init_12 : decode cX3_init 12 = .ok (.aload_n 0, 1) := by decide +kernel
theorem dX3_init_13 : decode cX3_init 13 = .ok (.bipush 6, 2) := by decide +kernel
theorem dX3_init_15 : decode cX3_init 15 = .ok (.newarray .int, 2) := by decide +kernel
theorem dX3_init_17 : decode cX3_init 17 = .ok (.putfield 15, 3) := by decide +kernel
theorem dX3_init_20 : decode cX3_init 20 = .ok (.aload_n 0, 1) := by decide +kernel
theorem dX3_init_21 : decode cX3_init 21 = .ok (.bipush 6, 2) := by decide +kernel
theorem dX3_init_23 : decode cX3_init 23 = .ok (.newarray .int, 2) := by decide +kernel
theorem dX3_init_25 : decode cX3_init 25 = .ok (.putfield 18, 3) := by decide +kernel
theorem dX3_init_28 : decode cX3_init 28 = .ok (.aload_n 0, 1) := by decide +kernel
theorem dX3_init_29 : decode cX3_init 29 = .ok (.bipush 6, 2) := by decide +kernel
theorem dX3_init_31 : decode cX3_init 31 = .ok (.newarray .int, 2) := by decide +kernel
theorem dX3_init_33 : decode cX3_init 33 = .ok (.putfield 21, 3) := by decide +kernel
theorem dX3_init_36 : decode cX3_init 36 = .ok (.aload_n 0, 1) := by decide +kernel
theorem dX3_init_37 : decode cX3_init 37 = .ok (.bipush 6, 2) := by decide +kernel
theorem dX3_init_39 : decode cX3_init 39 = .ok (.newarray .int, 2) := by decide +kernel
theorem dX3_init_41 : decode cX3_init 41 = .ok (.putfield 24, 3) := by decide +kernel
theorem dX3_init_44 : decode cX3_init 44 = .ok (.aload_n 0, 1) := by decide +kernel
theorem dX3_init_45 : decode cX3_init 45 = .ok (.iconst 4, 1) := by decide +kernel
theorem dX3_init_46 : decode cX3_init 46 = .ok (.newarray .int, 2) := by decide +kernel
theorem dX3_init_48 : decode cX3_init 48 = .ok (.dup, 1) := by decide +kernel
theorem dX3_init_49 : decode cX3_init 49 = .ok (.iconst 0, 1) := by decide +kernel
theorem dX3_init_50 : decode cX3_init 50 = .ok (.iconst 0, 1) := by decide +kernel
theorem dX3_init_51 : decode cX3_init 51 = .ok (.iastore, 1) := by decide +kernel
theorem dX3_init_52 : decode cX3_init 52 = .ok (.dup, 1) := by decide +kernel
theorem dX3_init_53 : decode cX3_init 53 = .ok (.iconst 1, 1) := by decide +kernel
theorem dX3_init_54 : decode cX3_init 54 = .ok (.iconst 3, 1) := by decide +kernel
theorem dX3_init_55 : decode cX3_init 55 = .ok (.iastore, 1) := by decide +kernel
theorem dX3_init_56 : decode cX3_init 56 = .ok (.dup, 1) := by decide +kernel
theorem dX3_init_57 : decode cX3_init 57 = .ok (.iconst 2, 1) := by decide +kernel
theorem dX3_init_58 : decode cX3_init 58 = .ok (.iconst 0, 1) := by decide +kernel
theorem dX3_init_59 : decode cX3_init 59 = .ok (.iastore, 1) := by decide +kernel
theorem dX3_init_60 : decode cX3_init 60 = .ok (.dup, 1) := by decide +kernel
theorem dX3_init_61 : decode cX3_init 61 = .ok (.iconst 3, 1) := by decide +kernel
theorem dX3_init_62 : decode cX3_init 62 = .ok (.iconst 1, 1) := by decide +kernel
theorem dX3_init_63 : decode cX3_init 63 = .ok (.iastore, 1) := by decide +kernel
theorem dX3_init_64 : decode cX3_init 64 = .ok (.putfield 27, 3) := by decide +kernel
theorem dX3_init_67 : decode cX3_init 67 = .ok (.aload_n 0, 1) := by decide +kernel
theorem dX3_init_68 : decode cX3_init 68 = .ok (.new 30, 3) := by decide +kernel
theorem dX3_init_71 : decode cX3_init 71 = .ok (.dup, 1) := by decide +kernel
theorem dX3_init_72 : decode cX3_init 72 = .ok (.invokespecial 32, 3) := by decide +kernel
theorem dX3_init_75 : decode cX3_init 75 = .ok (.putfield 33, 3) := by decide +kernel
theorem dX3_init_78 : decode cX3_init 78 = .ok (.return_, 1) := by decide +kernel
theorem dX3_become_0 : decode cX3_become 0 = .ok (.aload_n 1, 1) := by decide +kernel
theorem dX3_become_1 : decode cX3_become 1 = .ok (.getfield 9, 3) := by decide +kernel
theorem dX3_become_4 : decode cX3_become 4 = .ok (.iconst 0, 1) := by decide +kernel
theorem dX3_become_5 : decode cX3_become 5 = .ok (.aload_n 0, 1) := by decide +kernel
theorem dX3_become_6 : decode cX3_become 6 = .ok (.getfield 9, 3) := by decide +kernel
theorem dX3_become_9 : decode cX3_become 9 = .ok (.iconst 0, 1) := by decide +kernel
theorem dX3_become_10 : decode cX3_become 10 = .ok (.bipush 6, 2) := by decide +kernel
theorem dX3_become_12 : decode cX3_become 12 = .ok (.invokestatic 37, 3) := by decide +kernel
theorem dX3_become_15 : decode cX3_become 15 = .ok (.aload_n 1, 1) := by decide +kernel
theorem dX3_become_16 : decode cX3_become 16 = .ok (.getfield 15, 3) := by decide +kernel
theorem dX3_become_19 : decode cX3_become 19 = .ok (.iconst 0, 1) := by decide +kernel
theorem dX3_become_20 : decode cX3_become 20 = .ok (.aload_n 0, 1) := by decide +kernel
theorem dX3_become_21 : decode cX3_become 21 = .ok (.getfield 15, 3) := by decide +kernel
theorem dX3_become_24 : decode cX3_become 24 = .ok (.iconst 0, 1) := by decide +kernel
theorem dX3_become_25 : decode cX3_become 25 = .ok (.bipush 6, 2) := by decide +kernel
theorem dX3_become_27 : decode cX3_become 27 = .ok (.invokestatic 37, 3) := by decide +kernel
theorem dX3_become_30 : decode cX3_become 30 = .ok (.aload_n 1, 1) := by decide +kernel
theorem dX3_become_31 : decode cX3_become 31 = .ok (.getfield 18, 3) := by decide +kernel
theorem dX3_become_34 : decode cX3_become 34 = .ok (.iconst 0, 1) := by decide +kernel
theorem dX3_become_35 : decode cX3_become 35 = .ok (.aload_n 0, 1) := by decide +kernel
theorem dX3_become_36 : decode cX3_become 36 = .ok (.getfield 18, 3) := by decide +kernel
theorem dX3_become_39 : decode cX3_become 39 = .ok (.iconst 0, 1) := by decide +kernel
theorem dX3_become_40 : decode cX3_become 40 = .ok (.bipush 6, 2) := by decide +kernel
theorem dX3_become_42 : decode cX3_become 42 = .ok (.invokestatic 37, 3) := by decide +kernel
theorem dX3_become_45 : decode cX3_become 45 = .ok (.aload_n 1, 1) := by decide +kernel
theorem dX3_become_46 : decode cX3_become 46 = .ok (.getfield 21, 3) := by decide +kernel
theorem dX3_become_49 : decode cX3_become 49 = .ok (.iconst 0, 1) := by decide +kernel
theorem dX3_become_50 : decode cX3_become 50 = .ok (.aload_n 0, 1) := by decide +kernel
theorem dX3_become_51 : decode cX3_become 51 = .ok (.getfield 21, 3) := by decide +kernel
theorem dX3_become_54 : decode cX3_become 54 = .ok (.iconst 0, 1) := by decide +kernel
theorem dX3_become_55 : decode cX3_become 55 = .ok (.bipush 6, 2) := by decide +kernel
theorem dX3_become_57 : decode cX3_become 57 = .ok (.invokestatic 37, 3) := by decide +kernel
theorem dX3_become_60 : decode cX3_become 60 = .ok (.aload_n 1, 1) := by decide +kernel
theorem dX3_become_61 : decode cX3_become 61 = .ok (.getfield 24, 3) := by decide +kernel
theorem dX3_become_64 : decode cX3_become 64 = .ok (.iconst 0, 1) := by decide +kernel
theorem dX3_become_65 : decode cX3_become 65 = .ok (.aload_n 0, 1) := by decide +kernel
theorem dX3_become_66 : decode cX3_become 66 = .ok (.getfield 24, 3) := by decide +kernel
theorem dX3_become_69 : decode cX3_become 69 = .ok (.iconst 0, 1) := by decide +kernel
theorem dX3_become_70 : decode cX3_become 70 = .ok (.bipush 6, 2) := by decide +kernel
theorem dX3_become_72 : decode cX3_become 72 = .ok (.invokestatic 37, 3) := by decide +kernel
theorem dX3_become_75 : decode cX3_become 75 = .ok (.aload_n 1, 1) := by decide +kernel
theorem dX3_become_76 : decode cX3_become 76 = .ok (.getfield 27, 3) := by decide +kernel
theorem dX3_become_79 : decode cX3_become 79 = .ok (.iconst 0, 1) := by decide +kernel
theorem dX3_become_80 : decode cX3_become 80 = .ok (.aload_n 0, 1) := by decide +kernel
theorem dX3_become_81 : decode cX3_become 81 = .ok (.getfield 27, 3) := by decide +kernel
theorem dX3_become_84 : decode cX3_become 84 = .ok (.iconst 0, 1) := by decide +kernel
theorem dX3_become_85 : decode cX3_become 85 = .ok (.aload_n 0, 1) := by decide +kernel
theorem dX3_become_86 : decode cX3_become 86 = .ok (.getfield 27, 3) := by decide +kernel
theorem dX3_become_89 : decode cX3_become 89 = .ok (.arraylength, 1) := by decide +kernel
theorem dX3_become_90 : decode cX3_become 90 = .ok (.invokestatic 37, 3) := by decide +kernel
theorem dX3_become_93 : decode cX3_become 93 = .ok (.aload_n 0, 1) := by decide +kernel
theorem dX3_become_94 : decode cX3_become 94 = .ok (.getfield 33, 3) := by decide +kernel
theorem dX3_become_97 : decode cX3_become 97 = .ok (.aload_n 1, 1) := by decide +kernel
theorem dX3_become_98 : decode cX3_become 98 = .ok (.getfield 33, 3) := by decide +kernel
theorem dX3_become_101 : decode cX3_become 101 = .ok (.invokevirtual 43, 3) := by decide +kernel
theorem dX3_become_104 : decode cX3_become 104 = .ok (.aload_n 0, 1) := by decide +kernel
theorem dX3_become_105 : decode cX3_become 105 = .ok (.aload_n 1, 1) := by decide +kernel
theorem dX3_become_106 : decode cX3_become 106 = .ok (.getfield 47, 3) := by decide +kernel
theorem dX3_become_109 : decode cX3_become 109 = .ok (.putfield 47, 3) := by decide +kernel
theorem dX3_become_112 : decode cX3_become 112 = .ok (.aload_n 0, 1) := by decide +kernel
theorem dX3_become_113 : decode cX3_become 113 = .ok (.aload_n 1, 1) := by decide +kernel
theorem dX3_become_114 : decode cX3_become 114 = .ok (.getfield 51, 3) := by decide +kernel
theorem dX3_become_117 : decode cX3_become 117 = .ok (.putfield 51, 3) := by decide +kernel
theorem dX3_become_120 : decode cX3_become 120 = .ok (.return_, 1) := by decide +kernel
theorem dX3_exists_0 : decode cX3_exists 0 = .ok (.iload_n 1, 1) := by decide +kernel
theorem dX3_exists_1 : decode cX3_exists 1 = .ok (.ifCond .lt 15, 3) := by decide +kernel
theorem dX3_exists_4 : decode cX3_exists 4 = .ok (.iload_n 1, 1) := by decide +kernel
theorem dX3_exists_5 : decode cX3_exists 5 = .ok (.aload_n 0, 1) := by decide +kernel
theorem dX3_exists_6 : decode cX3_exists 6 = .ok (.getfield 47, 3) := by decide +kernel
theorem dX3_exists_9 : decode cX3_exists 9 = .ok (.if_icmp .ge 7, 3) := by decide +kernel
theorem dX3_exists_12 : decode cX3_exists 12 = .ok (.iconst 1, 1) := by decide +kernel
theorem dX3_exists_13 : decode cX3_exists 13 = .ok (.goto 4, 3) := by decide +kernel
theorem dX3_exists_16 : decode cX3_exists 16 = .ok (.iconst 0, 1) := by decide +kernel
theorem dX3_exists_17 : decode cX3_exists 17 = .ok (.ireturn, 1) := by decide +kernel
theorem dX3_welcome_0 : decode cX3_welcome 0 = .ok (.iload_n 3, 1) := by decide +kernel
theorem dX3_welcome_1 : decode cX3_welcome 1 = .ok (.bipush 9, 2) := by decide +kernel
theorem dX3_welcome_3 : decode cX3_welcome 3 = .ok (.if_icmp .eq 11, 3) := by decide +kernel
theorem dX3_welcome_6 : decode cX3_welcome 6 = .ok (.iload_n 3, 1) := by decide +kernel
theorem dX3_welcome_7 : decode cX3_welcome 7 = .ok (.aload_n 0, 1) := by decide +kernel
theorem dX3_welcome_8 : decode cX3_welcome 8 = .ok (.getfield 47, 3) := by decide +kernel
theorem dX3_welcome_11 : decode cX3_welcome 11 = .ok (.if_icmp .gt 7, 3) := by decide +kernel
theorem dX3_welcome_14 : decode cX3_welcome 14 = .ok (.iconst 1, 1) := by decide +kernel
theorem dX3_welcome_15 : decode cX3_welcome 15 = .ok (.goto 4, 3) := by decide +kernel
theorem dX3_welcome_18 : decode cX3_welcome 18 = .ok (.iconst 0, 1) := by decide +kernel
theorem dX3_welcome_19 : decode cX3_welcome 19 = .ok (.istore 6, 2) := by decide +kernel
theorem dX3_welcome_21 : decode cX3_welcome 21 = .ok (.aload_n 0, 1) := by decide +kernel
theorem dX3_welcome_22 : decode cX3_welcome 22 = .ok (.getfield 51, 3) := by decide +kernel
theorem dX3_welcome_25 : decode cX3_welcome 25 = .ok (.ifCond .gt 23, 3) := by decide +kernel
theorem dX3_welcome_28 : decode cX3_welcome 28 = .ok (.aload_n 0, 1) := by decide +kernel
theorem dX3_welcome_29 : decode cX3_welcome 29 = .ok (.getfield 47, 3) := by decide +kernel
theorem dX3_welcome_32 : decode cX3_welcome 32 = .ok (.bipush 6, 2) := by decide +kernel
theorem dX3_welcome_34 : decode cX3_welcome 34 = .ok (.if_icmp .ge 14, 3) := by decide +kernel
theorem dX3_welcome_37 : decode cX3_welcome 37 = .ok (.iload_n 1, 1) := by decide +kernel
theorem dX3_welcome_38 : decode cX3_welcome 38 = .ok (.bipush 7, 2) := by decide +kernel
theorem dX3_welcome_40 : decode cX3_welcome 40 = .ok (.if_icmp .gt 8, 3) := by decide +kernel
theorem dX3_welcome_43 : decode cX3_welcome 43 = .ok (.iload 6, 2) := by decide +kernel
theorem dX3_welcome_45 : decode cX3_welcome 45 = .ok (.ifCond .ne 5, 3) := by decide +kernel
theorem dX3_welcome_48 : decode cX3_welcome 48 = .ok (.iconst 0, 1) := by decide +kernel
theorem dX3_welcome_49 : decode cX3_welcome 49 = .ok (.ireturn, 1) := by decide +kernel
theorem dX3_welcome_50 : decode cX3_welcome 50 = .ok (.aload_n 0, 1) := by decide +kernel
theorem dX3_welcome_51 : decode cX3_welcome 51 = .ok (.getfield 9, 3) := by decide +kernel
theorem dX3_welcome_54 : decode cX3_welcome 54 = .ok (.aload_n 0, 1) := by decide +kernel
theorem dX3_welcome_55 : decode cX3_welcome 55 = .ok (.getfield 47, 3) := by decide +kernel
theorem dX3_welcome_58 : decode cX3_welcome 58 = .ok (.iload_n 1, 1) := by decide +kernel
theorem dX3_welcome_59 : decode cX3_welcome 59 = .ok (.iastore, 1) := by decide +kernel
theorem dX3_welcome_60 : decode cX3_welcome 60 = .ok (.aload_n 0, 1) := by decide +kernel
theorem dX3_welcome_61 : decode cX3_welcome 61 = .ok (.getfield 15, 3) := by decide +kernel
theorem dX3_welcome_64 : decode cX3_welcome 64 = .ok (.aload_n 0, 1) := by decide +kernel
theorem dX3_welcome_65 : decode cX3_welcome 65 = .ok (.getfield 47, 3) := by decide +kernel
theorem dX3_welcome_68 : decode cX3_welcome 68 = .ok (.iload_n 2, 1) := by decide +kernel
theorem dX3_welcome_69 : decode cX3_welcome 69 = .ok (.iastore, 1) := by decide +kernel
theorem dX3_welcome_70 : decode cX3_welcome 70 = .ok (.aload_n 0, 1) := by decide +kernel
theorem dX3_welcome_71 : decode cX3_welcome 71 = .ok (.getfield 18, 3) := by decide +kernel
theorem dX3_welcome_74 : decode cX3_welcome 74 = .ok (.aload_n 0, 1) := by decide +kernel
theorem dX3_welcome_75 : decode cX3_welcome 75 = .ok (.getfield 47, 3) := by decide +kernel
theorem dX3_welcome_78 : decode cX3_welcome 78 = .ok (.iload_n 3, 1) := by decide +kernel
theorem dX3_welcome_79 : decode cX3_welcome 79 = .ok (.iastore, 1) := by decide +kernel
theorem dX3_welcome_80 : decode cX3_welcome 80 = .ok (.aload_n 0, 1) := by decide +kernel
theorem dX3_welcome_81 : decode cX3_welcome 81 = .ok (.getfield 21, 3) := by decide +kernel
theorem dX3_welcome_84 : decode cX3_welcome 84 = .ok (.aload_n 0, 1) := by decide +kernel
theorem dX3_welcome_85 : decode cX3_welcome 85 = .ok (.getfield 47, 3) := by decide +kernel
theorem dX3_welcome_88 : decode cX3_welcome 88 = .ok (.iload 4, 2) := by decide +kernel
theorem dX3_welcome_90 : decode cX3_welcome 90 = .ok (.iastore, 1) := by decide +kernel
theorem dX3_welcome_91 : decode cX3_welcome 91 = .ok (.aload_n 0, 1) := by decide +kernel
theorem dX3_welcome_92 : decode cX3_welcome 92 = .ok (.getfield 24, 3) := by decide +kernel
theorem dX3_welcome_95 : decode cX3_welcome 95 = .ok (.aload_n 0, 1) := by decide +kernel
theorem dX3_welcome_96 : decode cX3_welcome 96 = .ok (.getfield 47, 3) := by decide +kernel
theorem dX3_welcome_99 : decode cX3_welcome 99 = .ok (.iload 5, 2) := by decide +kernel
theorem dX3_welcome_101 : decode cX3_welcome 101 = .ok (.iastore, 1) := by decide +kernel
theorem dX3_welcome_102 : decode cX3_welcome 102 = .ok (.aload_n 0, 1) := by decide +kernel
theorem dX3_welcome_103 : decode cX3_welcome 103 = .ok (.dup, 1) := by decide +kernel
theorem dX3_welcome_104 : decode cX3_welcome 104 = .ok (.getfield 47, 3) := by decide +kernel
theorem dX3_welcome_107 : decode cX3_welcome 107 = .ok (.iconst 1, 1) := by decide +kernel
theorem dX3_welcome_108 : decode cX3_welcome 108 = .ok (.iadd, 1) := by decide +kernel
theorem dX3_welcome_109 : decode cX3_welcome 109 = .ok (.putfield 47, 3) := by decide +kernel
theorem dX3_welcome_112 : decode cX3_welcome 112 = .ok (.iconst 1, 1) := by decide +kernel
theorem dX3_welcome_113 : decode cX3_welcome 113 = .ok (.ireturn, 1) := by decide +kernel
theorem dX3_takeLaw_0 : decode cX3_takeLaw 0 = .ok (.iload_n 1, 1) := by decide +kernel
theorem dX3_takeLaw_1 : decode cX3_takeLaw 1 = .ok (.iconst 5, 1) := by decide +kernel
theorem dX3_takeLaw_2 : decode cX3_takeLaw 2 = .ok (.if_icmp .gt 25, 3) := by decide +kernel
theorem dX3_takeLaw_5 : decode cX3_takeLaw 5 = .ok (.iload_n 2, 1) := by decide +kernel
theorem dX3_takeLaw_6 : decode cX3_takeLaw 6 = .ok (.getstatic 54, 3) := by decide +kernel
theorem dX3_takeLaw_9 : decode cX3_takeLaw 9 = .ok (.iconst 1, 1) := by decide +kernel
theorem dX3_takeLaw_10 : decode cX3_takeLaw 10 = .ok (.iaload, 1) := by decide +kernel
theorem dX3_takeLaw_11 : decode cX3_takeLaw 11 = .ok (.getstatic 57, 3) := by decide +kernel
theorem dX3_takeLaw_14 : decode cX3_takeLaw 14 = .ok (.iconst 1, 1) := by decide +kernel
theorem dX3_takeLaw_15 : decode cX3_takeLaw 15 = .ok (.iaload, 1) := by decide +kernel
theorem dX3_takeLaw_16 : decode cX3_takeLaw 16 = .ok (.invokestatic 60, 3) := by decide +kernel
theorem dX3_takeLaw_19 : decode cX3_takeLaw 19 = .ok (.ifCond .ne 8, 3) := by decide +kernel
theorem dX3_takeLaw_22 : decode cX3_takeLaw 22 = .ok (.iload_n 3, 1) := by decide +kernel
theorem dX3_takeLaw_23 : decode cX3_takeLaw 23 = .ok (.iconst 5, 1) := by decide +kernel
theorem dX3_takeLaw_24 : decode cX3_takeLaw 24 = .ok (.if_icmp .le 5, 3) := by decide +kernel
theorem dX3_takeLaw_27 : decode cX3_takeLaw 27 = .ok (.iconst 0, 1) := by decide +kernel
theorem dX3_takeLaw_28 : decode cX3_takeLaw 28 = .ok (.ireturn, 1) := by decide +kernel
theorem dX3_takeLaw_29 : decode cX3_takeLaw 29 = .ok (.aload_n 0, 1) := by decide +kernel
theorem dX3_takeLaw_30 : decode cX3_takeLaw 30 = .ok (.getfield 27, 3) := by decide +kernel
theorem dX3_takeLaw_33 : decode cX3_takeLaw 33 = .ok (.iconst 0, 1) := by decide +kernel
theorem dX3_takeLaw_34 : decode cX3_takeLaw 34 = .ok (.iload_n 1, 1) := by decide +kernel
theorem dX3_takeLaw_35 : decode cX3_takeLaw 35 = .ok (.iastore, 1) := by decide +kernel
theorem dX3_takeLaw_36 : decode cX3_takeLaw 36 = .ok (.aload_n 0, 1) := by decide +kernel
theorem dX3_takeLaw_37 : decode cX3_takeLaw 37 = .ok (.getfield 27, 3) := by decide +kernel
theorem dX3_takeLaw_40 : decode cX3_takeLaw 40 = .ok (.iconst 1, 1) := by decide +kernel
theorem dX3_takeLaw_41 : decode cX3_takeLaw 41 = .ok (.iload_n 2, 1) := by decide +kernel
theorem dX3_takeLaw_42 : decode cX3_takeLaw 42 = .ok (.iastore, 1) := by decide +kernel
theorem dX3_takeLaw_43 : decode cX3_takeLaw 43 = .ok (.aload_n 0, 1) := by decide +kernel
theorem dX3_takeLaw_44 : decode cX3_takeLaw 44 = .ok (.iconst 2, 1) := by decide +kernel
theorem dX3_takeLaw_45 : decode cX3_takeLaw 45 = .ok (.iload_n 3, 1) := by decide +kernel
theorem dX3_takeLaw_46 : decode cX3_takeLaw 46 = .ok (.invokevirtual 64, 3) := by decide +kernel
theorem dX3_takeLaw_49 : decode cX3_takeLaw 49 = .ok (.pop, 1) := by decide +kernel
theorem dX3_takeLaw_50 : decode cX3_takeLaw 50 = .ok (.iconst 1, 1) := by decide +kernel
theorem dX3_takeLaw_51 : decode cX3_takeLaw 51 = .ok (.ireturn, 1) := by decide +kernel
theorem dX3_changeSetting_0 : decode cX3_changeSetting 0 = .ok (.aload_n 0, 1) := by decide +kernel
theorem dX3_changeSetting_1 : decode cX3_changeSetting 1 = .ok (.getfield 27, 3) := by decide +kernel
theorem dX3_changeSetting_4 : decode cX3_changeSetting 4 = .ok (.iload_n 1, 1) := by decide +kernel
theorem dX3_changeSetting_5 : decode cX3_changeSetting 5 = .ok (.iaload, 1) := by decide +kernel
theorem dX3_changeSetting_6 : decode cX3_changeSetting 6 = .ok (.istore_n 3, 1) := by decide +kernel
theorem dX3_changeSetting_7 : decode cX3_changeSetting 7 = .ok (.aload_n 0, 1) := by decide +kernel
theorem dX3_changeSetting_8 : decode cX3_changeSetting 8 = .ok (.getfield 27, 3) := by decide +kernel
theorem dX3_changeSetting_11 : decode cX3_changeSetting 11 = .ok (.iload_n 1, 1) := by decide +kernel
theorem dX3_changeSetting_12 : decode cX3_changeSetting 12 = .ok (.iload_n 2, 1) := by decide +kernel
theorem dX3_changeSetting_13 : decode cX3_changeSetting 13 = .ok (.iastore, 1) := by decide +kernel
theorem dX3_changeSetting_14 : decode cX3_changeSetting 14 = .ok (.iload_n 1, 1) := by decide +kernel
theorem dX3_changeSetting_15 : decode cX3_changeSetting 15 = .ok (.iconst 2, 1) := by decide +kernel
theorem dX3_changeSetting_16 : decode cX3_changeSetting 16 = .ok (.if_icmp .ne 16, 3) := by decide +kernel
theorem dX3_changeSetting_19 : decode cX3_changeSetting 19 = .ok (.iload_n 3, 1) := by decide +kernel
theorem dX3_changeSetting_20 : decode cX3_changeSetting 20 = .ok (.iload_n 2, 1) := by decide +kernel
theorem dX3_changeSetting_21 : decode cX3_changeSetting 21 = .ok (.if_icmp .eq 11, 3) := by decide +kernel
theorem dX3_changeSetting_24 : decode cX3_changeSetting 24 = .ok (.aload_n 0, 1) := by decide +kernel
theorem dX3_changeSetting_25 : decode cX3_changeSetting 25 = .ok (.getfield 33, 3) := by decide +kernel
theorem dX3_changeSetting_28 : decode cX3_changeSetting 28 = .ok (.iload_n 2, 1) := by decide +kernel
theorem dX3_changeSetting_29 : decode cX3_changeSetting 29 = .ok (.invokevirtual 68, 3) := by decide +kernel
theorem dX3_changeSetting_32 : decode cX3_changeSetting 32 = .ok (.iload_n 3, 1) := by decide +kernel
theorem dX3_changeSetting_33 : decode cX3_changeSetting 33 = .ok (.ireturn, 1) := by decide +kernel
theorem dX3_sumOfHas_0 : decode cX3_sumOfHas 0 = .ok (.iconst 0, 1) := by decide +kernel
theorem dX3_sumOfHas_1 : decode cX3_sumOfHas 1 = .ok (.istore_n 1, 1) := by decide +kernel
theorem dX3_sumOfHas_2 : decode cX3_sumOfHas 2 = .ok (.iconst 0, 1) := by decide +kernel
theorem dX3_sumOfHas_3 : decode cX3_sumOfHas 3 = .ok (.istore_n 2, 1) := by decide +kernel
theorem dX3_sumOfHas_4 : decode cX3_sumOfHas 4 = .ok (.iload_n 2, 1) := by decide +kernel
theorem dX3_sumOfHas_5 : decode cX3_sumOfHas 5 = .ok (.aload_n 0, 1) := by decide +kernel
theorem dX3_sumOfHas_6 : decode cX3_sumOfHas 6 = .ok (.getfield 47, 3) := by decide +kernel
theorem dX3_sumOfHas_9 : decode cX3_sumOfHas 9 = .ok (.if_icmp .ge 18, 3) := by decide +kernel
theorem dX3_sumOfHas_12 : decode cX3_sumOfHas 12 = .ok (.iload_n 1, 1) := by decide +kernel
theorem dX3_sumOfHas_13 : decode cX3_sumOfHas 13 = .ok (.aload_n 0, 1) := by decide +kernel
theorem dX3_sumOfHas_14 : decode cX3_sumOfHas 14 = .ok (.getfield 21, 3) := by decide +kernel
theorem dX3_sumOfHas_17 : decode cX3_sumOfHas 17 = .ok (.iload_n 2, 1) := by decide +kernel
theorem dX3_sumOfHas_18 : decode cX3_sumOfHas 18 = .ok (.iaload, 1) := by decide +kernel
theorem dX3_sumOfHas_19 : decode cX3_sumOfHas 19 = .ok (.iadd, 1) := by decide +kernel
theorem dX3_sumOfHas_20 : decode cX3_sumOfHas 20 = .ok (.istore_n 1, 1) := by decide +kernel
theorem dX3_sumOfHas_21 : decode cX3_sumOfHas 21 = .ok (.iinc 2 1, 3) := by decide +kernel
theorem dX3_sumOfHas_24 : decode cX3_sumOfHas 24 = .ok (.goto (-20), 3) := by decide +kernel
theorem dX3_sumOfHas_27 : decode cX3_sumOfHas 27 = .ok (.iload_n 1, 1) := by decide +kernel
theorem dX3_sumOfHas_28 : decode cX3_sumOfHas 28 = .ok (.ireturn, 1) := by decide +kernel
theorem dX3_sumOfLying_0 : decode cX3_sumOfLying 0 = .ok (.iconst 0, 1) := by decide +kernel
theorem dX3_sumOfLying_1 : decode cX3_sumOfLying 1 = .ok (.istore_n 1, 1) := by decide +kernel
theorem dX3_sumOfLying_2 : decode cX3_sumOfLying 2 = .ok (.iconst 0, 1) := by decide +kernel
theorem dX3_sumOfLying_3 : decode cX3_sumOfLying 3 = .ok (.istore_n 2, 1) := by decide +kernel
theorem dX3_sumOfLying_4 : decode cX3_sumOfLying 4 = .ok (.iload_n 2, 1) := by decide +kernel
theorem dX3_sumOfLying_5 : decode cX3_sumOfLying 5 = .ok (.aload_n 0, 1) := by decide +kernel
theorem dX3_sumOfLying_6 : decode cX3_sumOfLying 6 = .ok (.getfield 47, 3) := by decide +kernel
theorem dX3_sumOfLying_9 : decode cX3_sumOfLying 9 = .ok (.if_icmp .ge 20, 3) := by decide +kernel
theorem dX3_sumOfLying_12 : decode cX3_sumOfLying 12 = .ok (.iload_n 1, 1) := by decide +kernel
theorem dX3_sumOfLying_13 : decode cX3_sumOfLying 13 = .ok (.aload_n 0, 1) := by decide +kernel
theorem dX3_sumOfLying_14 : decode cX3_sumOfLying 14 = .ok (.getfield 33, 3) := by decide +kernel
theorem dX3_sumOfLying_17 : decode cX3_sumOfLying 17 = .ok (.iload_n 2, 1) := by decide +kernel
theorem dX3_sumOfLying_18 : decode cX3_sumOfLying 18 = .ok (.invokevirtual 72, 3) := by decide +kernel
theorem dX3_sumOfLying_21 : decode cX3_sumOfLying 21 = .ok (.iadd, 1) := by decide +kernel
theorem dX3_sumOfLying_22 : decode cX3_sumOfLying 22 = .ok (.istore_n 1, 1) := by decide +kernel
theorem dX3_sumOfLying_23 : decode cX3_sumOfLying 23 = .ok (.iinc 2 1, 3) := by decide +kernel
theorem dX3_sumOfLying_26 : decode cX3_sumOfLying 26 = .ok (.goto (-22), 3) := by decide +kernel
theorem dX3_sumOfLying_29 : decode cX3_sumOfLying 29 = .ok (.iload_n 1, 1) := by decide +kernel
theorem dX3_sumOfLying_30 : decode cX3_sumOfLying 30 = .ok (.ireturn, 1) := by decide +kernel
theorem dX3_sumOfGiven_0 : decode cX3_sumOfGiven 0 = .ok (.iconst 0, 1) := by decide +kernel
theorem dX3_sumOfGiven_1 : decode cX3_sumOfGiven 1 = .ok (.istore_n 1, 1) := by decide +kernel
theorem dX3_sumOfGiven_2 : decode cX3_sumOfGiven 2 = .ok (.iconst 0, 1) := by decide +kernel
theorem dX3_sumOfGiven_3 : decode cX3_sumOfGiven 3 = .ok (.istore_n 2, 1) := by decide +kernel
theorem dX3_sumOfGiven_4 : decode cX3_sumOfGiven 4 = .ok (.iload_n 2, 1) := by decide +kernel
theorem dX3_sumOfGiven_5 : decode cX3_sumOfGiven 5 = .ok (.aload_n 0, 1) := by decide +kernel
theorem dX3_sumOfGiven_6 : decode cX3_sumOfGiven 6 = .ok (.getfield 47, 3) := by decide +kernel
theorem dX3_sumOfGiven_9 : decode cX3_sumOfGiven 9 = .ok (.if_icmp .ge 20, 3) := by decide +kernel
theorem dX3_sumOfGiven_12 : decode cX3_sumOfGiven 12 = .ok (.iload_n 1, 1) := by decide +kernel
theorem dX3_sumOfGiven_13 : decode cX3_sumOfGiven 13 = .ok (.aload_n 0, 1) := by decide +kernel
theorem dX3_sumOfGiven_14 : decode cX3_sumOfGiven 14 = .ok (.getfield 33, 3) := by decide +kernel
theorem dX3_sumOfGiven_17 : decode cX3_sumOfGiven 17 = .ok (.iload_n 2, 1) := by decide +kernel
theorem dX3_sumOfGiven_18 : decode cX3_sumOfGiven 18 = .ok (.invokevirtual 76, 3) := by decide +kernel
theorem dX3_sumOfGiven_21 : decode cX3_sumOfGiven 21 = .ok (.iadd, 1) := by decide +kernel
theorem dX3_sumOfGiven_22 : decode cX3_sumOfGiven 22 = .ok (.istore_n 1, 1) := by decide +kernel
theorem dX3_sumOfGiven_23 : decode cX3_sumOfGiven 23 = .ok (.iinc 2 1, 3) := by decide +kernel
theorem dX3_sumOfGiven_26 : decode cX3_sumOfGiven 26 = .ok (.goto (-22), 3) := by decide +kernel
theorem dX3_sumOfGiven_29 : decode cX3_sumOfGiven 29 = .ok (.iload_n 1, 1) := by decide +kernel
theorem dX3_sumOfGiven_30 : decode cX3_sumOfGiven 30 = .ok (.ireturn, 1) := by decide +kernel
theorem dX3_richestAbove_0 : decode cX3_richestAbove 0 = .ok (.bipush (-9), 2) := by decide +kernel
theorem dX3_richestAbove_2 : decode cX3_richestAbove 2 = .ok (.istore_n 2, 1) := by decide +kernel
theorem dX3_richestAbove_3 : decode cX3_richestAbove 3 = .ok (.iload_n 1, 1) := by decide +kernel
theorem dX3_richestAbove_4 : decode cX3_richestAbove 4 = .ok (.istore_n 3, 1) := by decide +kernel
theorem dX3_richestAbove_5 : decode cX3_richestAbove 5 = .ok (.iconst 0, 1) := by decide +kernel
theorem dX3_richestAbove_6 : decode cX3_richestAbove 6 = .ok (.istore 4, 2) := by decide +kernel
theorem dX3_richestAbove_8 : decode cX3_richestAbove 8 = .ok (.iload 4, 2) := by decide +kernel
theorem dX3_richestAbove_10 : decode cX3_richestAbove 10 = .ok (.aload_n 0, 1) := by decide +kernel
theorem dX3_richestAbove_11 : decode cX3_richestAbove 11 = .ok (.getfield 47, 3) := by decide +kernel
theorem dX3_richestAbove_14 : decode cX3_richestAbove 14 = .ok (.if_icmp .ge 31, 3) := by decide +kernel
theorem dX3_richestAbove_17 : decode cX3_richestAbove 17 = .ok (.aload_n 0, 1) := by decide +kernel
theorem dX3_richestAbove_18 : decode cX3_richestAbove 18 = .ok (.getfield 21, 3) := by decide +kernel
theorem dX3_richestAbove_21 : decode cX3_richestAbove 21 = .ok (.iload 4, 2) := by decide +kernel
theorem dX3_richestAbove_23 : decode cX3_richestAbove 23 = .ok (.iaload, 1) := by decide +kernel
theorem dX3_richestAbove_24 : decode cX3_richestAbove 24 = .ok (.iload_n 3, 1) := by decide +kernel
theorem dX3_richestAbove_25 : decode cX3_richestAbove 25 = .ok (.if_icmp .le 14, 3) := by decide +kernel
theorem dX3_richestAbove_28 : decode cX3_richestAbove 28 = .ok (.iload 4, 2) := by decide +kernel
theorem dX3_richestAbove_30 : decode cX3_richestAbove 30 = .ok (.istore_n 2, 1) := by decide +kernel
theorem dX3_richestAbove_31 : decode cX3_richestAbove 31 = .ok (.aload_n 0, 1) := by decide +kernel
theorem dX3_richestAbove_32 : decode cX3_richestAbove 32 = .ok (.getfield 21, 3) := by decide +kernel
theorem dX3_richestAbove_35 : decode cX3_richestAbove 35 = .ok (.iload 4, 2) := by decide +kernel
theorem dX3_richestAbove_37 : decode cX3_richestAbove 37 = .ok (.iaload, 1) := by decide +kernel
theorem dX3_richestAbove_38 : decode cX3_richestAbove 38 = .ok (.istore_n 3, 1) := by decide +kernel
theorem dX3_richestAbove_39 : decode cX3_richestAbove 39 = .ok (.iinc 4 1, 3) := by decide +kernel
theorem dX3_richestAbove_42 : decode cX3_richestAbove 42 = .ok (.goto (-34), 3) := by decide +kernel
theorem dX3_richestAbove_45 : decode cX3_richestAbove 45 = .ok (.iload_n 2, 1) := by decide +kernel
theorem dX3_richestAbove_46 : decode cX3_richestAbove 46 = .ok (.ireturn, 1) := by decide +kernel
theorem dX3_leave_0 : decode cX3_leave 0 = .ok (.aload_n 0, 1) := by decide +kernel
theorem dX3_leave_1 : decode cX3_leave 1 = .ok (.getfield 9, 3) := by decide +kernel
theorem dX3_leave_4 : decode cX3_leave 4 = .ok (.iload_n 1, 1) := by decide +kernel
theorem dX3_leave_5 : decode cX3_leave 5 = .ok (.iaload, 1) := by decide +kernel
theorem dX3_leave_6 : decode cX3_leave 6 = .ok (.bipush 7, 2) := by decide +kernel
theorem dX3_leave_8 : decode cX3_leave 8 = .ok (.if_icmp .ne 7, 3) := by decide +kernel
theorem dX3_leave_11 : decode cX3_leave 11 = .ok (.sipush 9999, 3) := by decide +kernel
theorem dX3_leave_14 : decode cX3_leave 14 = .ok (.ireturn, 1) := by decide +kernel
theorem dX3_leave_15 : decode cX3_leave 15 = .ok (.aload_n 0, 1) := by decide +kernel
