theorem dX5_set_82 : decode cX5_set 82 = .ok (.iconst 1, 1) := by decide +kernel
theorem dX5_set_83 : decode cX5_set 83 = .ok (.if_icmp .ne 10, 3) := by decide +kernel
theorem dX5_set_86 : decode cX5_set 86 = .ok (.aload_n 0, 1) := by decide +kernel
theorem dX5_set_87 : decode cX5_set 87 = .ok (.getfield 7, 3) := by decide +kernel
theorem dX5_set_90 : decode cX5_set 90 = .ok (.goto 19, 3) := by decide +kernel
theorem dX5_set_93 : decode cX5_set 93 = .ok (.iload_n 1, 1) := by decide +kernel
theorem dX5_set_94 : decode cX5_set 94 = .ok (.iconst 2, 1) := by decide +kernel
theorem dX5_set_95 : decode cX5_set 95 = .ok (.if_icmp .ne 10, 3) := by decide +kernel
theorem dX5_set_98 : decode cX5_set 98 = .ok (.aload_n 0, 1) := by decide +kernel
theorem dX5_set_99 : decode cX5_set 99 = .ok (.getfield 85, 3) := by decide +kernel
theorem dX5_set_102 : decode cX5_set 102 = .ok (.goto 7, 3) := by decide +kernel
theorem dX5_set_105 : decode cX5_set 105 = .ok (.aload_n 0, 1) := by decide +kernel
theorem dX5_set_106 : decode cX5_set 106 = .ok (.getfield 13, 3) := by decide +kernel
theorem dX5_set_109 : decode cX5_set 109 = .ok (.istore_n 3, 1) := by decide +kernel
theorem dX5_set_110 : decode cX5_set 110 = .ok (.aload_n 0, 1) := by decide +kernel
theorem dX5_set_111 : decode cX5_set 111 = .ok (.iload_n 1, 1) := by decide +kernel
theorem dX5_set_112 : decode cX5_set 112 = .ok (.ifCond .ne 7, 3) := by decide +kernel
theorem dX5_set_115 : decode cX5_set 115 = .ok (.iload_n 2, 1) := by decide +kernel
theorem dX5_set_116 : decode cX5_set 116 = .ok (.goto 7, 3) := by decide +kernel
theorem dX5_set_119 : decode cX5_set 119 = .ok (.aload_n 0, 1) := by decide +kernel
theorem dX5_set_120 : decode cX5_set 120 = .ok (.getfield 96, 3) := by decide +kernel
theorem dX5_set_123 : decode cX5_set 123 = .ok (.putfield 96, 3) := by decide +kernel
theorem dX5_set_126 : decode cX5_set 126 = .ok (.aload_n 0, 1) := by decide +kernel
theorem dX5_set_127 : decode cX5_set 127 = .ok (.iload_n 1, 1) := by decide +kernel
theorem dX5_set_128 : decode cX5_set 128 = .ok (.iconst 1, 1) := by decide +kernel
theorem dX5_set_129 : decode cX5_set 129 = .ok (.if_icmp .ne 7, 3) := by decide +kernel
theorem dX5_set_132 : decode cX5_set 132 = .ok (.iload_n 2, 1) := by decide +kernel
theorem dX5_set_133 : decode cX5_set 133 = .ok (.goto 7, 3) := by decide +kernel
theorem dX5_set_136 : decode cX5_set 136 = .ok (.aload_n 0, 1) := by decide +kernel
theorem dX5_set_137 : decode cX5_set 137 = .ok (.getfield 7, 3) := by decide +kernel
theorem dX5_set_140 : decode cX5_set 140 = .ok (.putfield 7, 3) := by decide +kernel
theorem dX5_set_143 : decode cX5_set 143 = .ok (.aload_n 0, 1) := by decide +kernel
theorem dX5_set_144 : decode cX5_set 144 = .ok (.iload_n 1, 1) := by decide +kernel
theorem dX5_set_145 : decode cX5_set 145 = .ok (.iconst 2, 1) := by decide +kernel
theorem dX5_set_146 : decode cX5_set 146 = .ok (.if_icmp .ne 7, 3) := by decide +kernel
theorem dX5_set_149 : decode cX5_set 149 = .ok (.iload_n 2, 1) := by decide +kernel
theorem dX5_set_150 : decode cX5_set 150 = .ok (.goto 7, 3) := by decide +kernel
theorem dX5_set_153 : decode cX5_set 153 = .ok (.aload_n 0, 1) := by decide +kernel
theorem dX5_set_154 : decode cX5_set 154 = .ok (.getfield 85, 3) := by decide +kernel
theorem dX5_set_157 : decode cX5_set 157 = .ok (.putfield 85, 3) := by decide +kernel
theorem dX5_set_160 : decode cX5_set 160 = .ok (.aload_n 0, 1) := by decide +kernel
theorem dX5_set_161 : decode cX5_set 161 = .ok (.iload_n 1, 1) := by decide +kernel
theorem dX5_set_162 : decode cX5_set 162 = .ok (.iconst 3, 1) := by decide +kernel
theorem dX5_set_163 : decode cX5_set 163 = .ok (.if_icmp .ne 7, 3) := by decide +kernel
theorem dX5_set_166 : decode cX5_set 166 = .ok (.iload_n 2, 1) := by decide +kernel
theorem dX5_set_167 : decode cX5_set 167 = .ok (.goto 7, 3) := by decide +kernel
theorem dX5_set_170 : decode cX5_set 170 = .ok (.aload_n 0, 1) := by decide +kernel
theorem dX5_set_171 : decode cX5_set 171 = .ok (.getfield 13, 3) := by decide +kernel
theorem dX5_set_174 : decode cX5_set 174 = .ok (.putfield 13, 3) := by decide +kernel
theorem dX5_set_177 : decode cX5_set 177 = .ok (.iload_n 3, 1) := by decide +kernel
theorem dX5_set_178 : decode cX5_set 178 = .ok (.ireturn, 1) := by decide +kernel
theorem dX5_wrongGift_0 : decode cX5_wrongGift 0 = .ok (.aload_n 0, 1) := by decide +kernel
theorem dX5_wrongGift_1 : decode cX5_wrongGift 1 = .ok (.iload_n 1, 1) := by decide +kernel
theorem dX5_wrongGift_2 : decode cX5_wrongGift 2 = .ok (.invokevirtual 199, 3) := by decide +kernel
theorem dX5_wrongGift_5 : decode cX5_wrongGift 5 = .ok (.ifCond .eq 22, 3) := by decide +kernel
theorem dX5_wrongGift_8 : decode cX5_wrongGift 8 = .ok (.aload_n 0, 1) := by decide +kernel
theorem dX5_wrongGift_9 : decode cX5_wrongGift 9 = .ok (.iload_n 2, 1) := by decide +kernel
theorem dX5_wrongGift_10 : decode cX5_wrongGift 10 = .ok (.invokevirtual 199, 3) := by decide +kernel
theorem dX5_wrongGift_13 : decode cX5_wrongGift 13 = .ok (.ifCond .ne 9, 3) := by decide +kernel
theorem dX5_wrongGift_16 : decode cX5_wrongGift 16 = .ok (.iload_n 2, 1) := by decide +kernel
theorem dX5_wrongGift_17 : decode cX5_wrongGift 17 = .ok (.bipush 9, 2) := by decide +kernel
theorem dX5_wrongGift_19 : decode cX5_wrongGift 19 = .ok (.if_icmp .ne 8, 3) := by decide +kernel
theorem dX5_wrongGift_22 : decode cX5_wrongGift 22 = .ok (.iload_n 1, 1) := by decide +kernel
theorem dX5_wrongGift_23 : decode cX5_wrongGift 23 = .ok (.iload_n 2, 1) := by decide +kernel
theorem dX5_wrongGift_24 : decode cX5_wrongGift 24 = .ok (.if_icmp .ne 5, 3) := by decide +kernel
theorem dX5_wrongGift_27 : decode cX5_wrongGift 27 = .ok (.iconst (-1), 1) := by decide +kernel
theorem dX5_wrongGift_28 : decode cX5_wrongGift 28 = .ok (.ireturn, 1) := by decide +kernel
theorem dX5_wrongGift_29 : decode cX5_wrongGift 29 = .ok (.iload_n 3, 1) := by decide +kernel
theorem dX5_wrongGift_30 : decode cX5_wrongGift 30 = .ok (.iconst 1, 1) := by decide +kernel
theorem dX5_wrongGift_31 : decode cX5_wrongGift 31 = .ok (.if_icmp .ge 8, 3) := by decide +kernel
theorem dX5_wrongGift_34 : decode cX5_wrongGift 34 = .ok (.bipush (-4), 2) := by decide +kernel
theorem dX5_wrongGift_36 : decode cX5_wrongGift 36 = .ok (.goto 19, 3) := by decide +kernel
theorem dX5_wrongGift_39 : decode cX5_wrongGift 39 = .ok (.iload_n 3, 1) := by decide +kernel
theorem dX5_wrongGift_40 : decode cX5_wrongGift 40 = .ok (.aload_n 0, 1) := by decide +kernel
theorem dX5_wrongGift_41 : decode cX5_wrongGift 41 = .ok (.getfield 29, 3) := by decide +kernel
theorem dX5_wrongGift_44 : decode cX5_wrongGift 44 = .ok (.iload_n 1, 1) := by decide +kernel
theorem dX5_wrongGift_45 : decode cX5_wrongGift 45 = .ok (.iaload, 1) := by decide +kernel
theorem dX5_wrongGift_46 : decode cX5_wrongGift 46 = .ok (.if_icmp .le 8, 3) := by decide +kernel
theorem dX5_wrongGift_49 : decode cX5_wrongGift 49 = .ok (.bipush (-6), 2) := by decide +kernel
theorem dX5_wrongGift_51 : decode cX5_wrongGift 51 = .ok (.goto 4, 3) := by decide +kernel
theorem dX5_wrongGift_54 : decode cX5_wrongGift 54 = .ok (.iconst 0, 1) := by decide +kernel
theorem dX5_wrongGift_55 : decode cX5_wrongGift 55 = .ok (.ireturn, 1) := by decide +kernel
theorem dX5_give_0 : decode cX5_give 0 = .ok (.aload_n 0, 1) := by decide +kernel
theorem dX5_give_1 : decode cX5_give 1 = .ok (.iconst 0, 1) := by decide +kernel
theorem dX5_give_2 : decode cX5_give 2 = .ok (.putfield 68, 3) := by decide +kernel
theorem dX5_give_5 : decode cX5_give 5 = .ok (.aload_n 0, 1) := by decide +kernel
theorem dX5_give_6 : decode cX5_give 6 = .ok (.iload_n 1, 1) := by decide +kernel
theorem dX5_give_7 : decode cX5_give 7 = .ok (.iload_n 2, 1) := by decide +kernel
theorem dX5_give_8 : decode cX5_give 8 = .ok (.iload_n 3, 1) := by decide +kernel
theorem dX5_give_9 : decode cX5_give 9 = .ok (.invokevirtual 211, 3) := by decide +kernel
theorem dX5_give_12 : decode cX5_give 12 = .ok (.istore 4, 2) := by decide +kernel
theorem dX5_give_14 : decode cX5_give 14 = .ok (.iload 4, 2) := by decide +kernel
theorem dX5_give_16 : decode cX5_give 16 = .ok (.ifCond .ge 10, 3) := by decide +kernel
theorem dX5_give_19 : decode cX5_give 19 = .ok (.aload_n 0, 1) := by decide +kernel
theorem dX5_give_20 : decode cX5_give 20 = .ok (.iload 4, 2) := by decide +kernel
theorem dX5_give_22 : decode cX5_give 22 = .ok (.invokevirtual 152, 3) := by decide +kernel
theorem dX5_give_25 : decode cX5_give 25 = .ok (.ireturn, 1) := by decide +kernel
theorem dX5_give_26 : decode cX5_give 26 = .ok (.aload_n 0, 1) := by decide +kernel
theorem dX5_give_27 : decode cX5_give 27 = .ok (.iload_n 1, 1) := by decide +kernel
theorem dX5_give_28 : decode cX5_give 28 = .ok (.iload_n 2, 1) := by decide +kernel
theorem dX5_give_29 : decode cX5_give 29 = .ok (.bipush 9, 2) := by decide +kernel
theorem dX5_give_31 : decode cX5_give 31 = .ok (.if_icmp .ne 8, 3) := by decide +kernel
theorem dX5_give_34 : decode cX5_give 34 = .ok (.bipush 6, 2) := by decide +kernel
theorem dX5_give_36 : decode cX5_give 36 = .ok (.goto 4, 3) := by decide +kernel
theorem dX5_give_39 : decode cX5_give 39 = .ok (.iload_n 2, 1) := by decide +kernel
theorem dX5_give_40 : decode cX5_give 40 = .ok (.iload_n 3, 1) := by decide +kernel
theorem dX5_give_41 : decode cX5_give 41 = .ok (.invokevirtual 115, 3) := by decide +kernel
theorem dX5_give_44 : decode cX5_give 44 = .ok (.aload_n 0, 1) := by decide +kernel
theorem dX5_give_45 : decode cX5_give 45 = .ok (.getfield 29, 3) := by decide +kernel
theorem dX5_give_48 : decode cX5_give 48 = .ok (.iload_n 1, 1) := by decide +kernel
theorem dX5_give_49 : decode cX5_give 49 = .ok (.iaload, 1) := by decide +kernel
theorem dX5_give_50 : decode cX5_give 50 = .ok (.ireturn, 1) := by decide +kernel
theorem dX5_evening_0 : decode cX5_evening 0 = .ok (.aload_n 0, 1) := by decide +kernel
theorem dX5_evening_1 : decode cX5_evening 1 = .ok (.iconst 0, 1) := by decide +kernel
theorem dX5_evening_2 : decode cX5_evening 2 = .ok (.putfield 68, 3) := by decide +kernel
theorem dX5_evening_5 : decode cX5_evening 5 = .ok (.aload_n 0, 1) := by decide +kernel
theorem dX5_evening_6 : decode cX5_evening 6 = .ok (.getfield 78, 3) := by decide +kernel
theorem dX5_evening_9 : decode cX5_evening 9 = .ok (.sipush 999, 3) := by decide +kernel
theorem dX5_evening_12 : decode cX5_evening 12 = .ok (.if_icmp .ne 10, 3) := by decide +kernel
theorem dX5_evening_15 : decode cX5_evening 15 = .ok (.aload_n 0, 1) := by decide +kernel
theorem dX5_evening_16 : decode cX5_evening 16 = .ok (.bipush (-6), 2) := by decide +kernel
theorem dX5_evening_18 : decode cX5_evening 18 = .ok (.invokevirtual 152, 3) := by decide +kernel
theorem dX5_evening_21 : decode cX5_evening 21 = .ok (.ireturn, 1) := by decide +kernel
theorem dX5_evening_22 : decode cX5_evening 22 = .ok (.aload_n 0, 1) := by decide +kernel
theorem dX5_evening_23 : decode cX5_evening 23 = .ok (.invokevirtual 129, 3) := by decide +kernel
theorem dX5_evening_26 : decode cX5_evening 26 = .ok (.aload_n 0, 1) := by decide +kernel
theorem dX5_evening_27 : decode cX5_evening 27 = .ok (.getfield 78, 3) := by decide +kernel
theorem dX5_evening_30 : decode cX5_evening 30 = .ok (.ireturn, 1) := by decide +kernel
theorem dX5_day_0 : decode cX5_day 0 = .ok (.aload_n 0, 1) := by decide +kernel
theorem dX5_day_1 : decode cX5_day 1 = .ok (.iconst 0, 1) := by decide +kernel
theorem dX5_day_2 : decode cX5_day 2 = .ok (.putfield 68, 3) := by decide +kernel
theorem dX5_day_5 : decode cX5_day 5 = .ok (.aload_n 0, 1) := by decide +kernel
theorem dX5_day_6 : decode cX5_day 6 = .ok (.getfield 78, 3) := by decide +kernel
theorem dX5_day_9 : decode cX5_day 9 = .ok (.sipush 999, 3) := by decide +kernel
theorem dX5_day_12 : decode cX5_day 12 = .ok (.if_icmp .ne 10, 3) := by decide +kernel
theorem dX5_day_15 : decode cX5_day 15 = .ok (.aload_n 0, 1) := by decide +kernel
theorem dX5_day_16 : decode cX5_day 16 = .ok (.bipush (-6), 2) := by decide +kernel
theorem dX5_day_18 : decode cX5_day 18 = .ok (.invokevirtual 152, 3) := by decide +kernel
theorem dX5_day_21 : decode cX5_day 21 = .ok (.ireturn, 1) := by decide +kernel
theorem dX5_day_22 : decode cX5_day 22 = .ok (.aload_n 0, 1) := by decide +kernel
theorem dX5_day_23 : decode cX5_day 23 = .ok (.invokevirtual 149, 3) := by decide +kernel
theorem dX5_day_26 : decode cX5_day 26 = .ok (.aload_n 0, 1) := by decide +kernel
theorem dX5_day_27 : decode cX5_day 27 = .ok (.getfield 78, 3) := by decide +kernel
theorem dX5_day_30 : decode cX5_day 30 = .ok (.ireturn, 1) := by decide +kernel
theorem dX5_gives_0 : decode cX5_gives 0 = .ok (.aload_n 0, 1) := by decide +kernel
theorem dX5_gives_1 : decode cX5_gives 1 = .ok (.iconst 0, 1) := by decide +kernel
theorem dX5_gives_2 : decode cX5_gives 2 = .ok (.putfield 68, 3) := by decide +kernel
theorem dX5_gives_5 : decode cX5_gives 5 = .ok (.aload_n 0, 1) := by decide +kernel
theorem dX5_gives_6 : decode cX5_gives 6 = .ok (.iload_n 1, 1) := by decide +kernel
theorem dX5_gives_7 : decode cX5_gives 7 = .ok (.invokevirtual 199, 3) := by decide +kernel
theorem dX5_gives_10 : decode cX5_gives 10 = .ok (.ifCond .eq 11, 3) := by decide +kernel
theorem dX5_gives_13 : decode cX5_gives 13 = .ok (.aload_n 0, 1) := by decide +kernel
theorem dX5_gives_14 : decode cX5_gives 14 = .ok (.iload_n 1, 1) := by decide +kernel
theorem dX5_gives_15 : decode cX5_gives 15 = .ok (.invokevirtual 112, 3) := by decide +kernel
theorem dX5_gives_18 : decode cX5_gives 18 = .ok (.goto 8, 3) := by decide +kernel
theorem dX5_gives_21 : decode cX5_gives 21 = .ok (.aload_n 0, 1) := by decide +kernel
theorem dX5_gives_22 : decode cX5_gives 22 = .ok (.iconst (-1), 1) := by decide +kernel
theorem dX5_gives_23 : decode cX5_gives 23 = .ok (.invokevirtual 152, 3) := by decide +kernel
theorem dX5_gives_26 : decode cX5_gives 26 = .ok (.ireturn, 1) := by decide +kernel
theorem dX5_wrongDays_0 : decode cX5_wrongDays 0 = .ok (.iload_n 0, 1) := by decide +kernel
theorem dX5_wrongDays_1 : decode cX5_wrongDays 1 = .ok (.iload_n 1, 1) := by decide +kernel
theorem dX5_wrongDays_2 : decode cX5_wrongDays 2 = .ok (.if_icmp .ge 8, 3) := by decide +kernel
theorem dX5_wrongDays_5 : decode cX5_wrongDays 5 = .ok (.bipush (-4), 2) := by decide +kernel
theorem dX5_wrongDays_7 : decode cX5_wrongDays 7 = .ok (.goto 14, 3) := by decide +kernel
theorem dX5_wrongDays_10 : decode cX5_wrongDays 10 = .ok (.iload_n 0, 1) := by decide +kernel
theorem dX5_wrongDays_11 : decode cX5_wrongDays 11 = .ok (.iload_n 2, 1) := by decide +kernel
theorem dX5_wrongDays_12 : decode cX5_wrongDays 12 = .ok (.if_icmp .le 8, 3) := by decide +kernel
theorem dX5_wrongDays_15 : decode cX5_wrongDays 15 = .ok (.bipush (-6), 2) := by decide +kernel
theorem dX5_wrongDays_17 : decode cX5_wrongDays 17 = .ok (.goto 4, 3) := by decide +kernel
theorem dX5_wrongDays_20 : decode cX5_wrongDays 20 = .ok (.iconst 0, 1) := by decide +kernel
theorem dX5_wrongDays_21 : decode cX5_wrongDays 21 = .ok (.ireturn, 1) := by decide +kernel
theorem dX5_wrongOne_0 : decode cX5_wrongOne 0 = .ok (.aload_n 0, 1) := by decide +kernel
theorem dX5_wrongOne_1 : decode cX5_wrongOne 1 = .ok (.iload_n 1, 1) := by decide +kernel
theorem dX5_wrongOne_2 : decode cX5_wrongOne 2 = .ok (.invokevirtual 199, 3) := by decide +kernel
theorem dX5_wrongOne_5 : decode cX5_wrongOne 5 = .ok (.ifCond .ne 7, 3) := by decide +kernel
theorem dX5_wrongOne_8 : decode cX5_wrongOne 8 = .ok (.iconst (-1), 1) := by decide +kernel
theorem dX5_wrongOne_9 : decode cX5_wrongOne 9 = .ok (.goto 10, 3) := by decide +kernel
theorem dX5_wrongOne_12 : decode cX5_wrongOne 12 = .ok (.iload_n 2, 1) := by decide +kernel
theorem dX5_wrongOne_13 : decode cX5_wrongOne 13 = .ok (.iload_n 3, 1) := by decide +kernel
theorem dX5_wrongOne_14 : decode cX5_wrongOne 14 = .ok (.iload 4, 2) := by decide +kernel
theorem dX5_wrongOne_16 : decode cX5_wrongOne 16 = .ok (.invokestatic 214, 3) := by decide +kernel
theorem dX5_wrongOne_19 : decode cX5_wrongOne 19 = .ok (.ireturn, 1) := by decide +kernel
theorem dX5_hasAfter_0 : decode cX5_hasAfter 0 = .ok (.aload_n 0, 1) := by decide +kernel
theorem dX5_hasAfter_1 : decode cX5_hasAfter 1 = .ok (.invokevirtual 217, 3) := by decide +kernel
theorem dX5_hasAfter_4 : decode cX5_hasAfter 4 = .ok (.aload_n 0, 1) := by decide +kernel
theorem dX5_hasAfter_5 : decode cX5_hasAfter 5 = .ok (.iload_n 2, 1) := by decide +kernel
theorem dX5_hasAfter_6 : decode cX5_hasAfter 6 = .ok (.invokevirtual 220, 3) := by decide +kernel
theorem dX5_hasAfter_9 : decode cX5_hasAfter 9 = .ok (.aload_n 0, 1) := by decide +kernel
theorem dX5_hasAfter_10 : decode cX5_hasAfter 10 = .ok (.getfield 29, 3) := by decide +kernel
theorem dX5_hasAfter_13 : decode cX5_hasAfter 13 = .ok (.iload_n 1, 1) := by decide +kernel
theorem dX5_hasAfter_14 : decode cX5_hasAfter 14 = .ok (.iaload, 1) := by decide +kernel
theorem dX5_hasAfter_15 : decode cX5_hasAfter 15 = .ok (.istore_n 3, 1) := by decide +kernel
theorem dX5_hasAfter_16 : decode cX5_hasAfter 16 = .ok (.aload_n 0, 1) := by decide +kernel
theorem dX5_hasAfter_17 : decode cX5_hasAfter 17 = .ok (.invokevirtual 223, 3) := by decide +kernel
theorem dX5_hasAfter_20 : decode cX5_hasAfter 20 = .ok (.iload_n 3, 1) := by decide +kernel
theorem dX5_hasAfter_21 : decode cX5_hasAfter 21 = .ok (.ireturn, 1) := by decide +kernel
theorem dX5_after_0 : decode cX5_after 0 = .ok (.aload_n 0, 1) := by decide +kernel
theorem dX5_after_1 : decode cX5_after 1 = .ok (.iconst 0, 1) := by decide +kernel
theorem dX5_after_2 : decode cX5_after 2 = .ok (.putfield 68, 3) := by decide +kernel
theorem dX5_after_5 : decode cX5_after 5 = .ok (.aload_n 0, 1) := by decide +kernel
theorem dX5_after_6 : decode cX5_after 6 = .ok (.iload_n 1, 1) := by decide +kernel
theorem dX5_after_7 : decode cX5_after 7 = .ok (.iload_n 2, 1) := by decide +kernel
theorem dX5_after_8 : decode cX5_after 8 = .ok (.iconst 0, 1) := by decide +kernel
theorem dX5_after_9 : decode cX5_after 9 = .ok (.bipush 60, 2) := by decide +kernel
theorem dX5_after_11 : decode cX5_after 11 = .ok (.invokevirtual 226, 3) := by decide +kernel
theorem dX5_after_14 : decode cX5_after 14 = .ok (.istore_n 3, 1) := by decide +kernel
theorem dX5_after_15 : decode cX5_after 15 = .ok (.iload_n 3, 1) := by decide +kernel
theorem dX5_after_16 : decode cX5_after 16 = .ok (.ifCond .ge 11, 3) := by decide +kernel
theorem dX5_after_19 : decode cX5_after 19 = .ok (.aload_n 0, 1) := by decide +kernel
theorem dX5_after_20 : decode cX5_after 20 = .ok (.iload_n 3, 1) := by decide +kernel
theorem dX5_after_21 : decode cX5_after 21 = .ok (.invokevirtual 152, 3) := by decide +kernel
theorem dX5_after_24 : decode cX5_after 24 = .ok (.goto 9, 3) := by decide +kernel
theorem dX5_after_27 : decode cX5_after 27 = .ok (.aload_n 0, 1) := by decide +kernel
theorem dX5_after_28 : decode cX5_after 28 = .ok (.iload_n 1, 1) := by decide +kernel
theorem dX5_after_29 : decode cX5_after 29 = .ok (.iload_n 2, 1) := by decide +kernel
theorem dX5_after_30 : decode cX5_after 30 = .ok (.invokevirtual 230, 3) := by decide +kernel
theorem dX5_after_33 : decode cX5_after 33 = .ok (.ireturn, 1) := by decide +kernel
theorem dX5_allAfter_0 : decode cX5_allAfter 0 = .ok (.aload_n 0, 1) := by decide +kernel
theorem dX5_allAfter_1 : decode cX5_allAfter 1 = .ok (.invokevirtual 217, 3) := by decide +kernel
theorem dX5_allAfter_4 : decode cX5_allAfter 4 = .ok (.aload_n 0, 1) := by decide +kernel
theorem dX5_allAfter_5 : decode cX5_allAfter 5 = .ok (.iload_n 1, 1) := by decide +kernel
theorem dX5_allAfter_6 : decode cX5_allAfter 6 = .ok (.invokevirtual 220, 3) := by decide +kernel
theorem dX5_allAfter_9 : decode cX5_allAfter 9 = .ok (.aload_n 0, 1) := by decide +kernel
theorem dX5_allAfter_10 : decode cX5_allAfter 10 = .ok (.invokevirtual 233, 3) := by decide +kernel
theorem dX5_allAfter_13 : decode cX5_allAfter 13 = .ok (.istore_n 2, 1) := by decide +kernel
theorem dX5_allAfter_14 : decode cX5_allAfter 14 = .ok (.aload_n 0, 1) := by decide +kernel
theorem dX5_allAfter_15 : decode cX5_allAfter 15 = .ok (.invokevirtual 223, 3) := by decide +kernel
theorem dX5_allAfter_18 : decode cX5_allAfter 18 = .ok (.iload_n 2, 1) := by decide +kernel
theorem dX5_allAfter_19 : decode cX5_allAfter 19 = .ok (.ireturn, 1) := by decide +kernel
theorem dX5_all__0 : decode cX5_all_ 0 = .ok (.aload_n 0, 1) := by decide +kernel
theorem dX5_all__1 : decode cX5_all_ 1 = .ok (.iconst 0, 1) := by decide +kernel
theorem dX5_all__2 : decode cX5_all_ 2 = .ok (.putfield 68, 3) := by decide +kernel
theorem dX5_all__5 : decode cX5_all_ 5 = .ok (.iload_n 1, 1) := by decide +kernel
theorem dX5_all__6 : decode cX5_all_ 6 = .ok (.iconst 0, 1) := by decide +kernel
theorem dX5_all__7 : decode cX5_all_ 7 = .ok (.bipush 60, 2) := by decide +kernel
theorem dX5_all__9 : decode cX5_all_ 9 = .ok (.invokestatic 214, 3) := by decide +kernel
theorem dX5_all__12 : decode cX5_all_ 12 = .ok (.istore_n 2, 1) := by decide +kernel
theorem dX5_all__13 : decode cX5_all_ 13 = .ok (.iload_n 2, 1) := by decide +kernel
theorem dX5_all__14 : decode cX5_all_ 14 = .ok (.ifCond .ge 11, 3) := by decide +kernel
theorem dX5_all__17 : decode cX5_all_ 17 = .ok (.aload_n 0, 1) := by decide +kernel
theorem dX5_all__18 : decode cX5_all_ 18 = .ok (.iload_n 2, 1) := by decide +kernel
theorem dX5_all__19 : decode cX5_all_ 19 = .ok (.invokevirtual 152, 3) := by decide +kernel
theorem dX5_all__22 : decode cX5_all_ 22 = .ok (.goto 8, 3) := by decide +kernel
theorem dX5_all__25 : decode cX5_all_ 25 = .ok (.aload_n 0, 1) := by decide +kernel
theorem dX5_all__26 : decode cX5_all_ 26 = .ok (.iload_n 1, 1) := by decide +kernel
theorem dX5_all__27 : decode cX5_all_ 27 = .ok (.invokevirtual 236, 3) := by decide +kernel
theorem dX5_all__30 : decode cX5_all_ 30 = .ok (.ireturn, 1) := by decide +kernel
theorem dX5_enough_0 : decode cX5_enough 0 = .ok (.aload_n 0, 1) := by decide +kernel
theorem dX5_enough_1 : decode cX5_enough 1 = .ok (.iconst 0, 1) := by decide +kernel
theorem dX5_enough_2 : decode cX5_enough 2 = .ok (.putfield 68, 3) := by decide +kernel
theorem dX5_enough_5 : decode cX5_enough 5 = .ok (.aload_n 0, 1) := by decide +kernel
theorem dX5_enough_6 : decode cX5_enough 6 = .ok (.iload_n 1, 1) := by decide +kernel
theorem dX5_enough_7 : decode cX5_enough 7 = .ok (.iload_n 2, 1) := by decide +kernel
theorem dX5_enough_8 : decode cX5_enough 8 = .ok (.iconst 0, 1) := by decide +kernel
theorem dX5_enough_9 : decode cX5_enough 9 = .ok (.sipush 9999, 3) := by decide +kernel
theorem dX5_enough_12 : decode cX5_enough 12 = .ok (.invokevirtual 226, 3) := by decide +kernel
theorem dX5_enough_15 : decode cX5_enough 15 = .ok (.istore_n 3, 1) := by decide +kernel
theorem dX5_enough_16 : decode cX5_enough 16 = .ok (.iload_n 3, 1) := by decide +kernel
theorem dX5_enough_17 : decode cX5_enough 17 = .ok (.ifCond .ge 9, 3) := by decide +kernel
theorem dX5_enough_20 : decode cX5_enough 20 = .ok (.aload_n 0, 1) := by decide +kernel
theorem dX5_enough_21 : decode cX5_enough 21 = .ok (.iload_n 3, 1) := by decide +kernel
theorem dX5_enough_22 : decode cX5_enough 22 = .ok (.invokevirtual 152, 3) := by decide +kernel
theorem dX5_enough_25 : decode cX5_enough 25 = .ok (.ireturn, 1) := by decide +kernel
theorem dX5_enough_26 : decode cX5_enough 26 = .ok (.aload_n 0, 1) := by decide +kernel
theorem dX5_enough_27 : decode cX5_enough 27 = .ok (.invokevirtual 217, 3) := by decide +kernel
theorem dX5_enough_30 : decode cX5_enough 30 = .ok (.iconst 0, 1) := by decide +kernel
theorem dX5_enough_31 : decode cX5_enough 31 = .ok (.istore 4, 2) := by decide +kernel
theorem dX5_enough_33 : decode cX5_enough 33 = .ok (.iload 4, 2) := by decide +kernel
theorem dX5_enough_35 : decode cX5_enough 35 = .ok (.bipush 60, 2) := by decide +kernel
theorem dX5_enough_37 : decode cX5_enough 37 = .ok (.if_icmp .gt 23, 3) := by decide +kernel
theorem dX5_enough_40 : decode cX5_enough 40 = .ok (.aload_n 0, 1) := by decide +kernel
theorem dX5_enough_41 : decode cX5_enough 41 = .ok (.getfield 29, 3) := by decide +kernel
theorem dX5_enough_44 : decode cX5_enough 44 = .ok (.iload_n 1, 1) := by decide +kernel
theorem dX5_enough_45 : decode cX5_enough 45 = .ok (.iaload, 1) := by decide +kernel
theorem dX5_enough_46 : decode cX5_enough 46 = .ok (.iload_n 2, 1) := by decide +kernel
theorem dX5_enough_47 : decode cX5_enough 47 = .ok (.if_icmp .ge 13, 3) := by decide +kernel
theorem dX5_enough_50 : decode cX5_enough 50 = .ok (.aload_n 0, 1) := by decide +kernel
theorem dX5_enough_51 : decode cX5_enough 51 = .ok (.invokevirtual 149, 3) := by decide +kernel
theorem dX5_enough_54 : decode cX5_enough 54 = .ok (.iinc 4 1, 3) := by decide +kernel
theorem dX5_enough_57 : decode cX5_enough 57 = .ok (.goto (-24), 3) := by decide +kernel
theorem dX5_enough_60 : decode cX5_enough 60 = .ok (.aload_n 0, 1) := by decide +kernel
theorem dX5_enough_61 : decode cX5_enough 61 = .ok (.invokevirtual 223, 3) := by decide +kernel
theorem dX5_enough_64 : decode cX5_enough 64 = .ok (.iload 4, 2) := by decide +kernel
theorem dX5_enough_66 : decode cX5_enough 66 = .ok (.bipush 60, 2) := by decide +kernel
theorem dX5_enough_68 : decode cX5_enough 68 = .ok (.if_icmp .gt 8, 3) := by decide +kernel
theorem dX5_enough_71 : decode cX5_enough 71 = .ok (.iload 4, 2) := by decide +kernel
theorem dX5_enough_73 : decode cX5_enough 73 = .ok (.goto 5, 3) := by decide +kernel
theorem dX5_enough_76 : decode cX5_enough 76 = .ok (.bipush (-9), 2) := by decide +kernel
theorem dX5_enough_78 : decode cX5_enough 78 = .ok (.ireturn, 1) := by decide +kernel
theorem dX5_richestNow_0 : decode cX5_richestNow 0 = .ok (.bipush (-9), 2) := by decide +kernel
theorem dX5_richestNow_2 : decode cX5_richestNow 2 = .ok (.istore_n 1, 1) := by decide +kernel
theorem dX5_richestNow_3 : decode cX5_richestNow 3 = .ok (.iconst 0, 1) := by decide +kernel
theorem dX5_richestNow_4 : decode cX5_richestNow 4 = .ok (.istore_n 2, 1) := by decide +kernel
theorem dX5_richestNow_5 : decode cX5_richestNow 5 = .ok (.iload_n 2, 1) := by decide +kernel
theorem dX5_richestNow_6 : decode cX5_richestNow 6 = .ok (.aload_n 0, 1) := by decide +kernel
theorem dX5_richestNow_7 : decode cX5_richestNow 7 = .ok (.getfield 71, 3) := by decide +kernel
theorem dX5_richestNow_10 : decode cX5_richestNow 10 = .ok (.if_icmp .ge 34, 3) := by decide +kernel
theorem dX5_richestNow_13 : decode cX5_richestNow 13 = .ok (.iload_n 1, 1) := by decide +kernel
theorem dX5_richestNow_14 : decode cX5_richestNow 14 = .ok (.ifCond .lt 18, 3) := by decide +kernel
theorem dX5_richestNow_17 : decode cX5_richestNow 17 = .ok (.aload_n 0, 1) := by decide +kernel
theorem dX5_richestNow_18 : decode cX5_richestNow 18 = .ok (.getfield 29, 3) := by decide +kernel
theorem dX5_richestNow_21 : decode cX5_richestNow 21 = .ok (.iload_n 2, 1) := by decide +kernel
theorem dX5_richestNow_22 : decode cX5_richestNow 22 = .ok (.iaload, 1) := by decide +kernel
theorem dX5_richestNow_23 : decode cX5_richestNow 23 = .ok (.aload_n 0, 1) := by decide +kernel
theorem dX5_richestNow_24 : decode cX5_richestNow 24 = .ok (.getfield 29, 3) := by decide +kernel
theorem dX5_richestNow_27 : decode cX5_richestNow 27 = .ok (.iload_n 1, 1) := by decide +kernel
theorem dX5_richestNow_28 : decode cX5_richestNow 28 = .ok (.iaload, 1) := by decide +kernel
theorem dX5_richestNow_29 : decode cX5_richestNow 29 = .ok (.if_icmp .le 7, 3) := by decide +kernel
theorem dX5_richestNow_32 : decode cX5_richestNow 32 = .ok (.iload_n 2, 1) := by decide +kernel
theorem dX5_richestNow_33 : decode cX5_richestNow 33 = .ok (.goto 4, 3) := by decide +kernel
theorem dX5_richestNow_36 : decode cX5_richestNow 36 = .ok (.iload_n 1, 1) := by decide +kernel
theorem dX5_richestNow_37 : decode cX5_richestNow 37 = .ok (.istore_n 1, 1) := by decide +kernel
theorem dX5_richestNow_38 : decode cX5_richestNow 38 = .ok (.iinc 2 1, 3) := by decide +kernel
theorem dX5_richestNow_41 : decode cX5_richestNow 41 = .ok (.goto (-36), 3) := by decide +kernel
theorem dX5_richestNow_44 : decode cX5_richestNow 44 = .ok (.iload_n 1, 1) := by decide +kernel
theorem dX5_richestNow_45 : decode cX5_richestNow 45 = .ok (.ireturn, 1) := by decide +kernel
theorem dX5_richest_0 : decode cX5_richest 0 = .ok (.aload_n 0, 1) := by decide +kernel
theorem dX5_richest_1 : decode cX5_richest 1 = .ok (.iconst 0, 1) := by decide +kernel
theorem dX5_richest_2 : decode cX5_richest 2 = .ok (.putfield 68, 3) := by decide +kernel
theorem dX5_richest_5 : decode cX5_richest 5 = .ok (.iload_n 1, 1) := by decide +kernel
theorem dX5_richest_6 : decode cX5_richest 6 = .ok (.iconst 0, 1) := by decide +kernel
theorem dX5_richest_7 : decode cX5_richest 7 = .ok (.bipush 60, 2) := by decide +kernel
theorem dX5_richest_9 : decode cX5_richest 9 = .ok (.invokestatic 214, 3) := by decide +kernel
theorem dX5_richest_12 : decode cX5_richest 12 = .ok (.istore_n 2, 1) := by decide +kernel
theorem dX5_richest_13 : decode cX5_richest 13 = .ok (.iload_n 2, 1) := by decide +kernel
theorem dX5_richest_14 : decode cX5_richest 14 = .ok (.ifCond .ge 9, 3) := by decide +kernel
theorem dX5_richest_17 : decode cX5_richest 17 = .ok (.aload_n 0, 1) := by decide +kernel
theorem dX5_richest_18 : decode cX5_richest 18 = .ok (.iload_n 2, 1) := by decide +kernel
theorem dX5_richest_19 : decode cX5_richest 19 = .ok (.invokevirtual 152, 3) := by decide +kernel
theorem dX5_richest_22 : decode cX5_richest 22 = .ok (.ireturn, 1) := by decide +kernel
theorem dX5_richest_23 : decode cX5_richest 23 = .ok (.aload_n 0, 1) := by decide +kernel
theorem dX5_richest_24 : decode cX5_richest 24 = .ok (.invokevirtual 217, 3) := by decide +kernel
theorem dX5_richest_27 : decode cX5_richest 27 = .ok (.aload_n 0, 1) := by decide +kernel
theorem dX5_richest_28 : decode cX5_richest 28 = .ok (.iload_n 1, 1) := by decide +kernel
theorem dX5_richest_29 : decode cX5_richest 29 = .ok (.invokevirtual 220, 3) := by decide +kernel
theorem dX5_richest_32 : decode cX5_richest 32 = .ok (.aload_n 0, 1) := by decide +kernel
theorem dX5_richest_33 : decode cX5_richest 33 = .ok (.invokevirtual 239, 3) := by decide +kernel
theorem dX5_richest_36 : decode cX5_richest 36 = .ok (.istore_n 3, 1) := by decide +kernel
theorem dX5_richest_37 : decode cX5_richest 37 = .ok (.aload_n 0, 1) := by decide +kernel
theorem dX5_richest_38 : decode cX5_richest 38 = .ok (.invokevirtual 223, 3) := by decide +kernel
theorem dX5_richest_41 : decode cX5_richest 41 = .ok (.iload_n 3, 1) := by decide +kernel
theorem dX5_richest_42 : decode cX5_richest 42 = .ok (.ireturn, 1) := by decide +kernel
theorem dX5_lost_0 : decode cX5_lost 0 = .ok (.aload_n 0, 1) := by decide +kernel
theorem dX5_lost_1 : decode cX5_lost 1 = .ok (.iconst 0, 1) := by decide +kernel
theorem dX5_lost_2 : decode cX5_lost 2 = .ok (.putfield 68, 3) := by decide +kernel
theorem dX5_lost_5 : decode cX5_lost 5 = .ok (.iload_n 1, 1) := by decide +kernel
theorem dX5_lost_6 : decode cX5_lost 6 = .ok (.iconst 0, 1) := by decide +kernel
theorem dX5_lost_7 : decode cX5_lost 7 = .ok (.bipush 60, 2) := by decide +kernel
theorem dX5_lost_9 : decode cX5_lost 9 = .ok (.invokestatic 214, 3) := by decide +kernel
theorem dX5_lost_12 : decode cX5_lost 12 = .ok (.istore_n 2, 1) := by decide +kernel
theorem dX5_lost_13 : decode cX5_lost 13 = .ok (.iload_n 2, 1) := by decide +kernel
theorem dX5_lost_14 : decode cX5_lost 14 = .ok (.ifCond .ge 9, 3) := by decide +kernel
theorem dX5_lost_17 : decode cX5_lost 17 = .ok (.aload_n 0, 1) := by decide +kernel
theorem dX5_lost_18 : decode cX5_lost 18 = .ok (.iload_n 2, 1) := by decide +kernel
theorem dX5_lost_19 : decode cX5_lost 19 = .ok (.invokevirtual 152, 3) := by decide +kernel
theorem dX5_lost_22 : decode cX5_lost 22 = .ok (.ireturn, 1) := by decide +kernel
theorem dX5_lost_23 : decode cX5_lost 23 = .ok (.aload_n 0, 1) := by decide +kernel
theorem dX5_lost_24 : decode cX5_lost 24 = .ok (.invokevirtual 217, 3) := by decide +kernel
theorem dX5_lost_27 : decode cX5_lost 27 = .ok (.aload_n 0, 1) := by decide +kernel
theorem dX5_lost_28 : decode cX5_lost 28 = .ok (.iconst 0, 1) := by decide +kernel
theorem dX5_lost_29 : decode cX5_lost 29 = .ok (.putfield 122, 3) := by decide +kernel
theorem dX5_lost_32 : decode cX5_lost 32 = .ok (.aload_n 0, 1) := by decide +kernel
theorem dX5_lost_33 : decode cX5_lost 33 = .ok (.iload_n 1, 1) := by decide +kernel
theorem dX5_lost_34 : decode cX5_lost 34 = .ok (.invokevirtual 220, 3) := by decide +kernel
theorem dX5_lost_37 : decode cX5_lost 37 = .ok (.aload_n 0, 1) := by decide +kernel
theorem dX5_lost_38 : decode cX5_lost 38 = .ok (.getfield 122, 3) := by decide +kernel
theorem dX5_lost_41 : decode cX5_lost 41 = .ok (.istore_n 3, 1) := by decide +kernel
theorem dX5_lost_42 : decode cX5_lost 42 = .ok (.aload_n 0, 1) := by decide +kernel
theorem dX5_lost_43 : decode cX5_lost 43 = .ok (.invokevirtual 223, 3) := by decide +kernel
theorem dX5_lost_46 : decode cX5_lost 46 = .ok (.iload_n 3, 1) := by decide +kernel
theorem dX5_lost_47 : decode cX5_lost 47 = .ok (.ireturn, 1) := by decide +kernel
theorem dX5_grows_0 : decode cX5_grows 0 = .ok (.aload_n 0, 1) := by decide +kernel
theorem dX5_grows_1 : decode cX5_grows 1 = .ok (.iconst 0, 1) := by decide +kernel
theorem dX5_grows_2 : decode cX5_grows 2 = .ok (.putfield 68, 3) := by decide +kernel
theorem dX5_grows_5 : decode cX5_grows 5 = .ok (.iload_n 1, 1) := by decide +kernel
theorem dX5_grows_6 : decode cX5_grows 6 = .ok (.iconst 1, 1) := by decide +kernel
theorem dX5_grows_7 : decode cX5_grows 7 = .ok (.bipush 60, 2) := by decide +kernel
theorem dX5_grows_9 : decode cX5_grows 9 = .ok (.invokestatic 214, 3) := by decide +kernel
theorem dX5_grows_12 : decode cX5_grows 12 = .ok (.istore_n 2, 1) := by decide +kernel
theorem dX5_grows_13 : decode cX5_grows 13 = .ok (.iload_n 2, 1) := by decide +kernel
theorem dX5_grows_14 : decode cX5_grows 14 = .ok (.ifCond .ge 9, 3) := by decide +kernel
theorem dX5_grows_17 : decode cX5_grows 17 = .ok (.aload_n 0, 1) := by decide +kernel
theorem dX5_grows_18 : decode cX5_grows 18 = .ok (.iload_n 2, 1) := by decide +kernel
theorem dX5_grows_19 : decode cX5_grows 19 = .ok (.invokevirtual 152, 3) := by decide +kernel
theorem dX5_grows_22 : decode cX5_grows 22 = .ok (.ireturn, 1) := by decide +kernel
theorem dX5_grows_23 : decode cX5_grows 23 = .ok (.aload_n 0, 1) := by decide +kernel
theorem dX5_grows_24 : decode cX5_grows 24 = .ok (.invokevirtual 233, 3) := by decide +kernel
theorem dX5_grows_27 : decode cX5_grows 27 = .ok (.istore_n 3, 1) := by decide +kernel
theorem dX5_grows_28 : decode cX5_grows 28 = .ok (.aload_n 0, 1) := by decide +kernel
theorem dX5_grows_29 : decode cX5_grows 29 = .ok (.iload_n 1, 1) := by decide +kernel
theorem dX5_grows_30 : decode cX5_grows 30 = .ok (.invokevirtual 236, 3) := by decide +kernel
theorem dX5_grows_33 : decode cX5_grows 33 = .ok (.istore 4, 2) := by decide +kernel
theorem dX5_grows_35 : decode cX5_grows 35 = .ok (.iload 4, 2) := by decide +kernel
theorem dX5_grows_37 : decode cX5_grows 37 = .ok (.iload_n 3, 1) := by decide +kernel
theorem dX5_grows_38 : decode cX5_grows 38 = .ok (.if_icmp .le 7, 3) := by decide +kernel
theorem dX5_grows_41 : decode cX5_grows 41 = .ok (.iconst 1, 1) := by decide +kernel
theorem dX5_grows_42 : decode cX5_grows 42 = .ok (.goto 14, 3) := by decide +kernel
theorem dX5_grows_45 : decode cX5_grows 45 = .ok (.iload 4, 2) := by decide +kernel
theorem dX5_grows_47 : decode cX5_grows 47 = .ok (.iload_n 3, 1) := by decide +kernel
theorem dX5_grows_48 : decode cX5_grows 48 = .ok (.if_icmp .ne 7, 3) := by decide +kernel
theorem dX5_grows_51 : decode cX5_grows 51 = .ok (.iconst 0, 1) := by decide +kernel
theorem dX5_grows_52 : decode cX5_grows 52 = .ok (.goto 4, 3) := by decide +kernel
theorem dX5_grows_55 : decode cX5_grows 55 = .ok (.iconst 2, 1) := by decide +kernel
theorem dX5_grows_56 : decode cX5_grows 56 = .ok (.ireturn, 1) := by decide +kernel
theorem dX5_rest_0 : decode cX5_rest 0 = .ok (.aload_n 0, 1) := by decide +kernel
theorem dX5_rest_1 : decode cX5_rest 1 = .ok (.iconst 0, 1) := by decide +kernel
theorem dX5_rest_2 : decode cX5_rest 2 = .ok (.putfield 68, 3) := by decide +kernel
theorem dX5_rest_5 : decode cX5_rest 5 = .ok (.aload_n 0, 1) := by decide +kernel
theorem dX5_rest_6 : decode cX5_rest 6 = .ok (.invokevirtual 217, 3) := by decide +kernel
theorem dX5_rest_9 : decode cX5_rest 9 = .ok (.iconst 0, 1) := by decide +kernel
theorem dX5_rest_10 : decode cX5_rest 10 = .ok (.istore_n 1, 1) := by decide +kernel
theorem dX5_rest_11 : decode cX5_rest 11 = .ok (.bipush (-9), 2) := by decide +kernel
theorem dX5_rest_13 : decode cX5_rest 13 = .ok (.istore_n 2, 1) := by decide +kernel
theorem dX5_rest_14 : decode cX5_rest 14 = .ok (.iconst 0, 1) := by decide +kernel
theorem dX5_rest_15 : decode cX5_rest 15 = .ok (.istore_n 3, 1) := by decide +kernel
theorem dX5_rest_16 : decode cX5_rest 16 = .ok (.iload_n 3, 1) := by decide +kernel
theorem dX5_rest_17 : decode cX5_rest 17 = .ok (.bipush 60, 2) := by decide +kernel
theorem dX5_rest_19 : decode cX5_rest 19 = .ok (.if_icmp .ge 76, 3) := by decide +kernel
theorem dX5_rest_22 : decode cX5_rest 22 = .ok (.iload_n 2, 1) := by decide +kernel
theorem dX5_rest_23 : decode cX5_rest 23 = .ok (.ifCond .ge 72, 3) := by decide +kernel
theorem dX5_rest_26 : decode cX5_rest 26 = .ok (.iconst 0, 1) := by decide +kernel
theorem dX5_rest_27 : decode cX5_rest 27 = .ok (.istore 4, 2) := by decide +kernel
theorem dX5_rest_29 : decode cX5_rest 29 = .ok (.iload 4, 2) := by decide +kernel
theorem dX5_rest_31 : decode cX5_rest 31 = .ok (.bipush 6, 2) := by decide +kernel
theorem dX5_rest_33 : decode cX5_rest 33 = .ok (.if_icmp .ge 23, 3) := by decide +kernel
theorem dX5_rest_36 : decode cX5_rest 36 = .ok (.aload_n 0, 1) := by decide +kernel
theorem dX5_rest_37 : decode cX5_rest 37 = .ok (.getfield 56, 3) := by decide +kernel
theorem dX5_rest_40 : decode cX5_rest 40 = .ok (.iload 4, 2) := by decide +kernel
theorem dX5_rest_42 : decode cX5_rest 42 = .ok (.aload_n 0, 1) := by decide +kernel
theorem dX5_rest_43 : decode cX5_rest 43 = .ok (.getfield 29, 3) := by decide +kernel
theorem dX5_rest_46 : decode cX5_rest 46 = .ok (.iload 4, 2) := by decide +kernel
theorem dX5_rest_48 : decode cX5_rest 48 = .ok (.iaload, 1) := by decide +kernel
theorem dX5_rest_49 : decode cX5_rest 49 = .ok (.iastore, 1) := by decide +kernel
theorem dX5_rest_50 : decode cX5_rest 50 = .ok (.iinc 4 1, 3) := by decide +kernel
theorem dX5_rest_53 : decode cX5_rest 53 = .ok (.goto (-24), 3) := by decide +kernel
theorem dX5_rest_56 : decode cX5_rest 56 = .ok (.aload_n 0, 1) := by decide +kernel
theorem dX5_rest_57 : decode cX5_rest 57 = .ok (.invokevirtual 149, 3) := by decide +kernel
theorem dX5_rest_60 : decode cX5_rest 60 = .ok (.aload_n 0, 1) := by decide +kernel
theorem dX5_rest_61 : decode cX5_rest 61 = .ok (.invokevirtual 242, 3) := by decide +kernel
theorem dX5_rest_64 : decode cX5_rest 64 = .ok (.ifCond .eq 9, 3) := by decide +kernel
theorem dX5_rest_67 : decode cX5_rest 67 = .ok (.iload_n 1, 1) := by decide +kernel
theorem dX5_rest_68 : decode cX5_rest 68 = .ok (.iconst 1, 1) := by decide +kernel
theorem dX5_rest_69 : decode cX5_rest 69 = .ok (.iadd, 1) := by decide +kernel
theorem dX5_rest_70 : decode cX5_rest 70 = .ok (.goto 4, 3) := by decide +kernel
theorem dX5_rest_73 : decode cX5_rest 73 = .ok (.iconst 0, 1) := by decide +kernel
theorem dX5_rest_74 : decode cX5_rest 74 = .ok (.istore_n 1, 1) := by decide +kernel
theorem dX5_rest_75 : decode cX5_rest 75 = .ok (.iload_n 1, 1) := by decide +kernel
theorem dX5_rest_76 : decode cX5_rest 76 = .ok (.iconst 2, 1) := by decide +kernel
theorem dX5_rest_77 : decode cX5_rest 77 = .ok (.if_icmp .ne 9, 3) := by decide +kernel
theorem dX5_rest_80 : decode cX5_rest 80 = .ok (.iload_n 3, 1) := by decide +kernel
theorem dX5_rest_81 : decode cX5_rest 81 = .ok (.iconst 1, 1) := by decide +kernel
theorem dX5_rest_82 : decode cX5_rest 82 = .ok (.isub, 1) := by decide +kernel
theorem dX5_rest_83 : decode cX5_rest 83 = .ok (.goto 5, 3) := by decide +kernel
theorem dX5_rest_86 : decode cX5_rest 86 = .ok (.bipush (-9), 2) := by decide +kernel
theorem dX5_rest_88 : decode cX5_rest 88 = .ok (.istore_n 2, 1) := by decide +kernel
theorem dX5_rest_89 : decode cX5_rest 89 = .ok (.iinc 3 1, 3) := by decide +kernel
theorem dX5_rest_92 : decode cX5_rest 92 = .ok (.goto (-76), 3) := by decide +kernel
theorem dX5_rest_95 : decode cX5_rest 95 = .ok (.aload_n 0, 1) := by decide +kernel
theorem dX5_rest_96 : decode cX5_rest 96 = .ok (.invokevirtual 223, 3) := by decide +kernel
theorem dX5_rest_99 : decode cX5_rest 99 = .ok (.iload_n 2, 1) := by decide +kernel
theorem dX5_rest_100 : decode cX5_rest 100 = .ok (.ireturn, 1) := by decide +kernel
theorem dX5_isAsThen_0 : decode cX5_isAsThen 0 = .ok (.iconst 1, 1) := by decide +kernel
theorem dX5_isAsThen_1 : decode cX5_isAsThen 1 = .ok (.istore_n 1, 1) := by decide +kernel
theorem dX5_isAsThen_2 : decode cX5_isAsThen 2 = .ok (.iconst 0, 1) := by decide +kernel
theorem dX5_isAsThen_3 : decode cX5_isAsThen 3 = .ok (.istore_n 2, 1) := by decide +kernel
theorem dX5_isAsThen_4 : decode cX5_isAsThen 4 = .ok (.iload_n 2, 1) := by decide +kernel
theorem dX5_isAsThen_5 : decode cX5_isAsThen 5 = .ok (.bipush 6, 2) := by decide +kernel
theorem dX5_isAsThen_7 : decode cX5_isAsThen 7 = .ok (.if_icmp .ge 34, 3) := by decide +kernel
theorem dX5_isAsThen_10 : decode cX5_isAsThen 10 = .ok (.iload_n 1, 1) := by decide +kernel
theorem dX5_isAsThen_11 : decode cX5_isAsThen 11 = .ok (.ifCond .eq 22, 3) := by decide +kernel
theorem dX5_isAsThen_14 : decode cX5_isAsThen 14 = .ok (.aload_n 0, 1) := by decide +kernel
theorem dX5_isAsThen_15 : decode cX5_isAsThen 15 = .ok (.getfield 29, 3) := by decide +kernel
theorem dX5_isAsThen_18 : decode cX5_isAsThen 18 = .ok (.iload_n 2, 1) := by decide +kernel
theorem dX5_isAsThen_19 : decode cX5_isAsThen 19 = .ok (.iaload, 1) := by decide +kernel
theorem dX5_isAsThen_20 : decode cX5_isAsThen 20 = .ok (.aload_n 0, 1) := by decide +kernel
theorem dX5_isAsThen_21 : decode cX5_isAsThen 21 = .ok (.getfield 56, 3) := by decide +kernel
theorem dX5_isAsThen_24 : decode cX5_isAsThen 24 = .ok (.iload_n 2, 1) := by decide +kernel
theorem dX5_isAsThen_25 : decode cX5_isAsThen 25 = .ok (.iaload, 1) := by decide +kernel
theorem dX5_isAsThen_26 : decode cX5_isAsThen 26 = .ok (.if_icmp .ne 7, 3) := by decide +kernel
theorem dX5_isAsThen_29 : decode cX5_isAsThen 29 = .ok (.iconst 1, 1) := by decide +kernel
theorem dX5_isAsThen_30 : decode cX5_isAsThen 30 = .ok (.goto 4, 3) := by decide +kernel
theorem dX5_isAsThen_33 : decode cX5_isAsThen 33 = .ok (.iconst 0, 1) := by decide +kernel
theorem dX5_isAsThen_34 : decode cX5_isAsThen 34 = .ok (.istore_n 1, 1) := by decide +kernel
theorem dX5_isAsThen_35 : decode cX5_isAsThen 35 = .ok (.iinc 2 1, 3) := by decide +kernel
theorem dX5_isAsThen_38 : decode cX5_isAsThen 38 = .ok (.goto (-34), 3) := by decide +kernel
theorem dX5_isAsThen_41 : decode cX5_isAsThen 41 = .ok (.iload_n 1, 1) := by decide +kernel
theorem dX5_isAsThen_42 : decode cX5_isAsThen 42 = .ok (.ireturn, 1) := by decide +kernel
theorem dX5_choose_0 : decode cX5_choose 0 = .ok (.iload_n 2, 1) := by decide +kernel
theorem dX5_choose_1 : decode cX5_choose 1 = .ok (.ifCond .ne 7, 3) := by decide +kernel
theorem dX5_choose_4 : decode cX5_choose 4 = .ok (.iconst 0, 1) := by decide +kernel
theorem dX5_choose_5 : decode cX5_choose 5 = .ok (.goto 25, 3) := by decide +kernel
theorem dX5_choose_8 : decode cX5_choose 8 = .ok (.iload_n 2, 1) := by decide +kernel
theorem dX5_choose_9 : decode cX5_choose 9 = .ok (.iconst 1, 1) := by decide +kernel
theorem dX5_choose_10 : decode cX5_choose 10 = .ok (.if_icmp .ne 14, 3) := by decide +kernel
theorem dX5_choose_13 : decode cX5_choose 13 = .ok (.aload_n 0, 1) := by decide +kernel
theorem dX5_choose_14 : decode cX5_choose 14 = .ok (.getfield 29, 3) := by decide +kernel
theorem dX5_choose_17 : decode cX5_choose 17 = .ok (.iload_n 1, 1) := by decide +kernel
theorem dX5_choose_18 : decode cX5_choose 18 = .ok (.iaload, 1) := by decide +kernel
theorem dX5_choose_19 : decode cX5_choose 19 = .ok (.iconst 2, 1) := by decide +kernel
theorem dX5_choose_20 : decode cX5_choose 20 = .ok (.idiv, 1) := by decide +kernel
theorem dX5_choose_21 : decode cX5_choose 21 = .ok (.goto 9, 3) := by decide +kernel
theorem dX5_choose_24 : decode cX5_choose 24 = .ok (.aload_n 0, 1) := by decide +kernel
theorem dX5_choose_25 : decode cX5_choose 25 = .ok (.getfield 29, 3) := by decide +kernel
theorem dX5_choose_28 : decode cX5_choose 28 = .ok (.iload_n 1, 1) := by decide +kernel
theorem dX5_choose_29 : decode cX5_choose 29 = .ok (.iaload, 1) := by decide +kernel
theorem dX5_choose_30 : decode cX5_choose 30 = .ok (.istore_n 3, 1) := by decide +kernel
theorem dX5_choose_31 : decode cX5_choose 31 = .ok (.iload_n 3, 1) := by decide +kernel
theorem dX5_choose_32 : decode cX5_choose 32 = .ok (.ifCond .le 51, 3) := by decide +kernel
theorem dX5_choose_35 : decode cX5_choose 35 = .ok (.aload_n 0, 1) := by decide +kernel
theorem dX5_choose_36 : decode cX5_choose 36 = .ok (.iload_n 1, 1) := by decide +kernel
theorem dX5_choose_37 : decode cX5_choose 37 = .ok (.aload_n 0, 1) := by decide +kernel
theorem dX5_choose_38 : decode cX5_choose 38 = .ok (.getfield 26, 3) := by decide +kernel
theorem dX5_choose_41 : decode cX5_choose 41 = .ok (.iload_n 1, 1) := by decide +kernel
theorem dX5_choose_42 : decode cX5_choose 42 = .ok (.iaload, 1) := by decide +kernel
theorem dX5_choose_43 : decode cX5_choose 43 = .ok (.iload_n 1, 1) := by decide +kernel
theorem dX5_choose_44 : decode cX5_choose 44 = .ok (.if_icmp .eq 14, 3) := by decide +kernel
theorem dX5_choose_47 : decode cX5_choose 47 = .ok (.aload_n 0, 1) := by decide +kernel
theorem dX5_choose_48 : decode cX5_choose 48 = .ok (.getfield 26, 3) := by decide +kernel
theorem dX5_choose_51 : decode cX5_choose 51 = .ok (.iload_n 1, 1) := by decide +kernel
theorem dX5_choose_52 : decode cX5_choose 52 = .ok (.iaload, 1) := by decide +kernel
theorem dX5_choose_53 : decode cX5_choose 53 = .ok (.bipush 9, 2) := by decide +kernel
theorem dX5_choose_55 : decode cX5_choose 55 = .ok (.if_icmp .ne 8, 3) := by decide +kernel
theorem dX5_choose_58 : decode cX5_choose 58 = .ok (.bipush 6, 2) := by decide +kernel
theorem dX5_choose_60 : decode cX5_choose 60 = .ok (.goto 9, 3) := by decide +kernel
theorem dX5_choose_63 : decode cX5_choose 63 = .ok (.aload_n 0, 1) := by decide +kernel
theorem dX5_choose_64 : decode cX5_choose 64 = .ok (.getfield 26, 3) := by decide +kernel
theorem dX5_choose_67 : decode cX5_choose 67 = .ok (.iload_n 1, 1) := by decide +kernel
theorem dX5_choose_68 : decode cX5_choose 68 = .ok (.iaload, 1) := by decide +kernel
theorem dX5_choose_69 : decode cX5_choose 69 = .ok (.iload_n 3, 1) := by decide +kernel
theorem dX5_choose_70 : decode cX5_choose 70 = .ok (.invokevirtual 115, 3) := by decide +kernel
theorem dX5_choose_73 : decode cX5_choose 73 = .ok (.aload_n 0, 1) := by decide +kernel
theorem dX5_choose_74 : decode cX5_choose 74 = .ok (.dup, 1) := by decide +kernel
theorem dX5_choose_75 : decode cX5_choose 75 = .ok (.getfield 246, 3) := by decide +kernel
theorem dX5_choose_78 : decode cX5_choose 78 = .ok (.iload_n 3, 1) := by decide +kernel
theorem dX5_choose_79 : decode cX5_choose 79 = .ok (.iadd, 1) := by decide +kernel
theorem dX5_choose_80 : decode cX5_choose 80 = .ok (.putfield 246, 3) := by decide +kernel
theorem dX5_choose_83 : decode cX5_choose 83 = .ok (.return_, 1) := by decide +kernel
theorem dX5_power_0 : decode cX5_power 0 = .ok (.iconst 1, 1) := by decide +kernel
theorem dX5_power_1 : decode cX5_power 1 = .ok (.istore_n 1, 1) := by decide +kernel
theorem dX5_power_2 : decode cX5_power 2 = .ok (.iconst 0, 1) := by decide +kernel
theorem dX5_power_3 : decode cX5_power 3 = .ok (.istore_n 2, 1) := by decide +kernel
theorem dX5_power_4 : decode cX5_power 4 = .ok (.iload_n 2, 1) := by decide +kernel
theorem dX5_power_5 : decode cX5_power 5 = .ok (.iload_n 0, 1) := by decide +kernel
theorem dX5_power_6 : decode cX5_power 6 = .ok (.if_icmp .ge 13, 3) := by decide +kernel
theorem dX5_power_9 : decode cX5_power 9 = .ok (.iload_n 1, 1) := by decide +kernel
theorem dX5_power_10 : decode cX5_power 10 = .ok (.iconst 3, 1) := by decide +kernel
theorem dX5_power_11 : decode cX5_power 11 = .ok (.imul, 1) := by decide +kernel
theorem dX5_power_12 : decode cX5_power 12 = .ok (.istore_n 1, 1) := by decide +kernel
theorem dX5_power_13 : decode cX5_power 13 = .ok (.iinc 2 1, 3) := by decide +kernel
theorem dX5_power_16 : decode cX5_power 16 = .ok (.goto (-12), 3) := by decide +kernel
theorem dX5_power_19 : decode cX5_power 19 = .ok (.iload_n 1, 1) := by decide +kernel
theorem dX5_power_20 : decode cX5_power 20 = .ok (.ireturn, 1) := by decide +kernel
theorem dX5_byRow_0 : decode cX5_byRow 0 = .ok (.aload_n 0, 1) := by decide +kernel
theorem dX5_byRow_1 : decode cX5_byRow 1 = .ok (.invokevirtual 217, 3) := by decide +kernel
theorem dX5_byRow_4 : decode cX5_byRow 4 = .ok (.aload_n 0, 1) := by decide +kernel
theorem dX5_byRow_5 : decode cX5_byRow 5 = .ok (.iconst 0, 1) := by decide +kernel
theorem dX5_byRow_6 : decode cX5_byRow 6 = .ok (.putfield 246, 3) := by decide +kernel
theorem dX5_byRow_9 : decode cX5_byRow 9 = .ok (.iload_n 2, 1) := by decide +kernel
theorem dX5_byRow_10 : decode cX5_byRow 10 = .ok (.invokestatic 249, 3) := by decide +kernel
theorem dX5_byRow_13 : decode cX5_byRow 13 = .ok (.istore 4, 2) := by decide +kernel
theorem dX5_byRow_15 : decode cX5_byRow 15 = .ok (.iconst 0, 1) := by decide +kernel
theorem dX5_byRow_16 : decode cX5_byRow 16 = .ok (.istore 5, 2) := by decide +kernel
theorem dX5_byRow_18 : decode cX5_byRow 18 = .ok (.iload 5, 2) := by decide +kernel
theorem dX5_byRow_20 : decode cX5_byRow 20 = .ok (.iload_n 2, 1) := by decide +kernel
theorem dX5_byRow_21 : decode cX5_byRow 21 = .ok (.if_icmp .ge 63, 3) := by decide +kernel
theorem dX5_byRow_24 : decode cX5_byRow 24 = .ok (.iload 4, 2) := by decide +kernel
theorem dX5_byRow_26 : decode cX5_byRow 26 = .ok (.iconst 3, 1) := by decide +kernel
theorem dX5_byRow_27 : decode cX5_byRow 27 = .ok (.idiv, 1) := by decide +kernel
theorem dX5_byRow_28 : decode cX5_byRow 28 = .ok (.istore 4, 2) := by decide +kernel
theorem dX5_byRow_30 : decode cX5_byRow 30 = .ok (.iconst 0, 1) := by decide +kernel
theorem dX5_byRow_31 : decode cX5_byRow 31 = .ok (.istore 6, 2) := by decide +kernel
theorem dX5_byRow_33 : decode cX5_byRow 33 = .ok (.iload 6, 2) := by decide +kernel
theorem dX5_byRow_35 : decode cX5_byRow 35 = .ok (.aload_n 0, 1) := by decide +kernel
theorem dX5_byRow_36 : decode cX5_byRow 36 = .ok (.getfield 71, 3) := by decide +kernel
theorem dX5_byRow_39 : decode cX5_byRow 39 = .ok (.if_icmp .ge 35, 3) := by decide +kernel
theorem dX5_byRow_42 : decode cX5_byRow 42 = .ok (.iload 6, 2) := by decide +kernel
theorem dX5_byRow_44 : decode cX5_byRow 44 = .ok (.iload_n 1, 1) := by decide +kernel
theorem dX5_byRow_45 : decode cX5_byRow 45 = .ok (.if_icmp .ne 17, 3) := by decide +kernel
theorem dX5_byRow_48 : decode cX5_byRow 48 = .ok (.aload_n 0, 1) := by decide +kernel
theorem dX5_byRow_49 : decode cX5_byRow 49 = .ok (.iload_n 1, 1) := by decide +kernel
theorem dX5_byRow_50 : decode cX5_byRow 50 = .ok (.iload_n 3, 1) := by decide +kernel
theorem dX5_byRow_51 : decode cX5_byRow 51 = .ok (.iload 4, 2) := by decide +kernel
theorem dX5_byRow_53 : decode cX5_byRow 53 = .ok (.idiv, 1) := by decide +kernel
theorem dX5_byRow_54 : decode cX5_byRow 54 = .ok (.iconst 3, 1) := by decide +kernel
theorem dX5_byRow_55 : decode cX5_byRow 55 = .ok (.irem, 1) := by decide +kernel
theorem dX5_byRow_56 : decode cX5_byRow 56 = .ok (.invokevirtual 252, 3) := by decide +kernel
theorem dX5_byRow_59 : decode cX5_byRow 59 = .ok (.goto 9, 3) := by decide +kernel
theorem dX5_byRow_62 : decode cX5_byRow 62 = .ok (.aload_n 0, 1) := by decide +kernel
theorem dX5_byRow_63 : decode cX5_byRow 63 = .ok (.iload 6, 2) := by decide +kernel
theorem dX5_byRow_65 : decode cX5_byRow 65 = .ok (.invokevirtual 125, 3) := by decide +kernel
theorem dX5_byRow_68 : decode cX5_byRow 68 = .ok (.iinc 6 1, 3) := by decide +kernel
theorem dX5_byRow_71 : decode cX5_byRow 71 = .ok (.goto (-38), 3) := by decide +kernel
theorem dX5_byRow_74 : decode cX5_byRow 74 = .ok (.aload_n 0, 1) := by decide +kernel
theorem dX5_byRow_75 : decode cX5_byRow 75 = .ok (.invokevirtual 129, 3) := by decide +kernel
theorem dX5_byRow_78 : decode cX5_byRow 78 = .ok (.iinc 5 1, 3) := by decide +kernel
theorem dX5_byRow_81 : decode cX5_byRow 81 = .ok (.goto (-63), 3) := by decide +kernel
theorem dX5_byRow_84 : decode cX5_byRow 84 = .ok (.aload_n 0, 1) := by decide +kernel
theorem dX5_byRow_85 : decode cX5_byRow 85 = .ok (.getfield 29, 3) := by decide +kernel
theorem dX5_byRow_88 : decode cX5_byRow 88 = .ok (.iload_n 1, 1) := by decide +kernel
theorem dX5_byRow_89 : decode cX5_byRow 89 = .ok (.iaload, 1) := by decide +kernel
theorem dX5_byRow_90 : decode cX5_byRow 90 = .ok (.istore 5, 2) := by decide +kernel
theorem dX5_byRow_92 : decode cX5_byRow 92 = .ok (.aload_n 0, 1) := by decide +kernel
theorem dX5_byRow_93 : decode cX5_byRow 93 = .ok (.invokevirtual 223, 3) := by decide +kernel
theorem dX5_byRow_96 : decode cX5_byRow 96 = .ok (.iload 5, 2) := by decide +kernel
theorem dX5_byRow_98 : decode cX5_byRow 98 = .ok (.ireturn, 1) := by decide +kernel
theorem dX5_findMost_0 : decode cX5_findMost 0 = .ok (.aload_n 0, 1) := by decide +kernel
theorem dX5_findMost_1 : decode cX5_findMost 1 = .ok (.iconst 0, 1) := by decide +kernel
theorem dX5_findMost_2 : decode cX5_findMost 2 = .ok (.putfield 256, 3) := by decide +kernel
theorem dX5_findMost_5 : decode cX5_findMost 5 = .ok (.aload_n 0, 1) := by decide +kernel
theorem dX5_findMost_6 : decode cX5_findMost 6 = .ok (.iconst (-1), 1) := by decide +kernel
theorem dX5_findMost_7 : decode cX5_findMost 7 = .ok (.putfield 259, 3) := by decide +kernel
theorem dX5_findMost_10 : decode cX5_findMost 10 = .ok (.iconst 0, 1) := by decide +kernel
theorem dX5_findMost_11 : decode cX5_findMost 11 = .ok (.istore_n 3, 1) := by decide +kernel
theorem dX5_findMost_12 : decode cX5_findMost 12 = .ok (.iload_n 3, 1) := by decide +kernel
theorem dX5_findMost_13 : decode cX5_findMost 13 = .ok (.iload_n 2, 1) := by decide +kernel
theorem dX5_findMost_14 : decode cX5_findMost 14 = .ok (.invokestatic 249, 3) := by decide +kernel
theorem dX5_findMost_17 : decode cX5_findMost 17 = .ok (.if_icmp .ge 61, 3) := by decide +kernel
theorem dX5_findMost_20 : decode cX5_findMost 20 = .ok (.aload_n 0, 1) := by decide +kernel
theorem dX5_findMost_21 : decode cX5_findMost 21 = .ok (.iload_n 1, 1) := by decide +kernel
theorem dX5_findMost_22 : decode cX5_findMost 22 = .ok (.iload_n 2, 1) := by decide +kernel
theorem dX5_findMost_23 : decode cX5_findMost 23 = .ok (.iload_n 3, 1) := by decide +kernel
theorem dX5_findMost_24 : decode cX5_findMost 24 = .ok (.invokevirtual 262, 3) := by decide +kernel
theorem dX5_findMost_27 : decode cX5_findMost 27 = .ok (.istore 4, 2) := by decide +kernel
theorem dX5_findMost_29 : decode cX5_findMost 29 = .ok (.aload_n 0, 1) := by decide +kernel
theorem dX5_findMost_30 : decode cX5_findMost 30 = .ok (.iload 4, 2) := by decide +kernel
theorem dX5_findMost_32 : decode cX5_findMost 32 = .ok (.aload_n 0, 1) := by decide +kernel
theorem dX5_findMost_33 : decode cX5_findMost 33 = .ok (.getfield 259, 3) := by decide +kernel
theorem dX5_findMost_36 : decode cX5_findMost 36 = .ok (.if_icmp .le 7, 3) := by decide +kernel
theorem dX5_findMost_39 : decode cX5_findMost 39 = .ok (.iload_n 3, 1) := by decide +kernel
theorem dX5_findMost_40 : decode cX5_findMost 40 = .ok (.goto 7, 3) := by decide +kernel
theorem dX5_findMost_43 : decode cX5_findMost 43 = .ok (.aload_n 0, 1) := by decide +kernel
theorem dX5_findMost_44 : decode cX5_findMost 44 = .ok (.getfield 256, 3) := by decide +kernel
theorem dX5_findMost_47 : decode cX5_findMost 47 = .ok (.putfield 256, 3) := by decide +kernel
theorem dX5_findMost_50 : decode cX5_findMost 50 = .ok (.aload_n 0, 1) := by decide +kernel
theorem dX5_findMost_51 : decode cX5_findMost 51 = .ok (.iload 4, 2) := by decide +kernel
theorem dX5_findMost_53 : decode cX5_findMost 53 = .ok (.aload_n 0, 1) := by decide +kernel
theorem dX5_findMost_54 : decode cX5_findMost 54 = .ok (.getfield 259, 3) := by decide +kernel
theorem dX5_findMost_57 : decode cX5_findMost 57 = .ok (.if_icmp .le 8, 3) := by decide +kernel
theorem dX5_findMost_60 : decode cX5_findMost 60 = .ok (.iload 4, 2) := by decide +kernel
theorem dX5_findMost_62 : decode cX5_findMost 62 = .ok (.goto 7, 3) := by decide +kernel
theorem dX5_findMost_65 : decode cX5_findMost 65 = .ok (.aload_n 0, 1) := by decide +kernel
theorem dX5_findMost_66 : decode cX5_findMost 66 = .ok (.getfield 259, 3) := by decide +kernel
theorem dX5_findMost_69 : decode cX5_findMost 69 = .ok (.putfield 259, 3) := by decide +kernel
theorem dX5_findMost_72 : decode cX5_findMost 72 = .ok (.iinc 3 1, 3) := by decide +kernel
theorem dX5_findMost_75 : decode cX5_findMost 75 = .ok (.goto (-63), 3) := by decide +kernel
theorem dX5_findMost_78 : decode cX5_findMost 78 = .ok (.return_, 1) := by decide +kernel
theorem dX5_most_0 : decode cX5_most 0 = .ok (.aload_n 0, 1) := by decide +kernel
theorem dX5_most_1 : decode cX5_most 1 = .ok (.iconst 0, 1) := by decide +kernel
theorem dX5_most_2 : decode cX5_most 2 = .ok (.putfield 68, 3) := by decide +kernel
theorem dX5_most_5 : decode cX5_most 5 = .ok (.aload_n 0, 1) := by decide +kernel
theorem dX5_most_6 : decode cX5_most 6 = .ok (.iload_n 1, 1) := by decide +kernel
theorem dX5_most_7 : decode cX5_most 7 = .ok (.iload_n 2, 1) := by decide +kernel
theorem dX5_most_8 : decode cX5_most 8 = .ok (.iconst 1, 1) := by decide +kernel
theorem dX5_most_9 : decode cX5_most 9 = .ok (.bipush 6, 2) := by decide +kernel
theorem dX5_most_11 : decode cX5_most 11 = .ok (.invokevirtual 226, 3) := by decide +kernel
theorem dX5_most_14 : decode cX5_most 14 = .ok (.istore_n 3, 1) := by decide +kernel
theorem dX5_most_15 : decode cX5_most 15 = .ok (.iload_n 3, 1) := by decide +kernel
theorem dX5_most_16 : decode cX5_most 16 = .ok (.ifCond .ge 9, 3) := by decide +kernel
theorem dX5_most_19 : decode cX5_most 19 = .ok (.aload_n 0, 1) := by decide +kernel
theorem dX5_most_20 : decode cX5_most 20 = .ok (.iload_n 3, 1) := by decide +kernel
theorem dX5_most_21 : decode cX5_most 21 = .ok (.invokevirtual 152, 3) := by decide +kernel
theorem dX5_most_24 : decode cX5_most 24 = .ok (.ireturn, 1) := by decide +kernel
theorem dX5_most_25 : decode cX5_most 25 = .ok (.aload_n 0, 1) := by decide +kernel
theorem dX5_most_26 : decode cX5_most 26 = .ok (.iload_n 1, 1) := by decide +kernel
theorem dX5_most_27 : decode cX5_most 27 = .ok (.iload_n 2, 1) := by decide +kernel
theorem dX5_most_28 : decode cX5_most 28 = .ok (.invokevirtual 265, 3) := by decide +kernel
theorem dX5_most_31 : decode cX5_most 31 = .ok (.aload_n 0, 1) := by decide +kernel
theorem dX5_most_32 : decode cX5_most 32 = .ok (.getfield 259, 3) := by decide +kernel
theorem dX5_most_35 : decode cX5_most 35 = .ok (.ireturn, 1) := by decide +kernel
theorem dX5_choice_0 : decode cX5_choice 0 = .ok (.aload_n 0, 1) := by decide +kernel
theorem dX5_choice_1 : decode cX5_choice 1 = .ok (.iconst 0, 1) := by decide +kernel
theorem dX5_choice_2 : decode cX5_choice 2 = .ok (.putfield 68, 3) := by decide +kernel
theorem dX5_choice_5 : decode cX5_choice 5 = .ok (.aload_n 0, 1) := by decide +kernel
theorem dX5_choice_6 : decode cX5_choice 6 = .ok (.iload_n 1, 1) := by decide +kernel
theorem dX5_choice_7 : decode cX5_choice 7 = .ok (.invokevirtual 199, 3) := by decide +kernel
theorem dX5_choice_10 : decode cX5_choice 10 = .ok (.ifCond .ne 7, 3) := by decide +kernel
theorem dX5_choice_13 : decode cX5_choice 13 = .ok (.iconst (-1), 1) := by decide +kernel
theorem dX5_choice_14 : decode cX5_choice 14 = .ok (.goto 29, 3) := by decide +kernel
theorem dX5_choice_17 : decode cX5_choice 17 = .ok (.iload_n 2, 1) := by decide +kernel
theorem dX5_choice_18 : decode cX5_choice 18 = .ok (.iconst 1, 1) := by decide +kernel
theorem dX5_choice_19 : decode cX5_choice 19 = .ok (.if_icmp .lt 7, 3) := by decide +kernel
theorem dX5_choice_22 : decode cX5_choice 22 = .ok (.iload_n 3, 1) := by decide +kernel
theorem dX5_choice_23 : decode cX5_choice 23 = .ok (.ifCond .ge 8, 3) := by decide +kernel
theorem dX5_choice_26 : decode cX5_choice 26 = .ok (.bipush (-4), 2) := by decide +kernel
theorem dX5_choice_28 : decode cX5_choice 28 = .ok (.goto 15, 3) := by decide +kernel
theorem dX5_choice_31 : decode cX5_choice 31 = .ok (.iload_n 2, 1) := by decide +kernel
theorem dX5_choice_32 : decode cX5_choice 32 = .ok (.bipush 6, 2) := by decide +kernel
theorem dX5_choice_34 : decode cX5_choice 34 = .ok (.if_icmp .le 8, 3) := by decide +kernel
theorem dX5_choice_37 : decode cX5_choice 37 = .ok (.bipush (-6), 2) := by decide +kernel
theorem dX5_choice_39 : decode cX5_choice 39 = .ok (.goto 4, 3) := by decide +kernel
theorem dX5_choice_42 : decode cX5_choice 42 = .ok (.iconst 0, 1) := by decide +kernel
theorem dX5_choice_43 : decode cX5_choice 43 = .ok (.istore 4, 2) := by decide +kernel
theorem dX5_choice_45 : decode cX5_choice 45 = .ok (.iload 4, 2) := by decide +kernel
theorem dX5_choice_47 : decode cX5_choice 47 = .ok (.ifCond .ge 10, 3) := by decide +kernel
theorem dX5_choice_50 : decode cX5_choice 50 = .ok (.aload_n 0, 1) := by decide +kernel
theorem dX5_choice_51 : decode cX5_choice 51 = .ok (.iload 4, 2) := by decide +kernel
theorem dX5_choice_53 : decode cX5_choice 53 = .ok (.invokevirtual 152, 3) := by decide +kernel
theorem dX5_choice_56 : decode cX5_choice 56 = .ok (.ireturn, 1) := by decide +kernel
theorem dX5_choice_57 : decode cX5_choice 57 = .ok (.aload_n 0, 1) := by decide +kernel
theorem dX5_choice_58 : decode cX5_choice 58 = .ok (.iload_n 1, 1) := by decide +kernel
theorem dX5_choice_59 : decode cX5_choice 59 = .ok (.iload_n 2, 1) := by decide +kernel
theorem dX5_choice_60 : decode cX5_choice 60 = .ok (.invokevirtual 265, 3) := by decide +kernel
theorem dX5_choice_63 : decode cX5_choice 63 = .ok (.iload_n 3, 1) := by decide +kernel
theorem dX5_choice_64 : decode cX5_choice 64 = .ok (.iload_n 2, 1) := by decide +kernel
theorem dX5_choice_65 : decode cX5_choice 65 = .ok (.if_icmp .ge 21, 3) := by decide +kernel
theorem dX5_choice_68 : decode cX5_choice 68 = .ok (.aload_n 0, 1) := by decide +kernel
theorem dX5_choice_69 : decode cX5_choice 69 = .ok (.getfield 256, 3) := by decide +kernel
theorem dX5_choice_72 : decode cX5_choice 72 = .ok (.iload_n 2, 1) := by decide +kernel
theorem dX5_choice_73 : decode cX5_choice 73 = .ok (.iconst 1, 1) := by decide +kernel
theorem dX5_choice_74 : decode cX5_choice 74 = .ok (.isub, 1) := by decide +kernel
theorem dX5_choice_75 : decode cX5_choice 75 = .ok (.iload_n 3, 1) := by decide +kernel
theorem dX5_choice_76 : decode cX5_choice 76 = .ok (.isub, 1) := by decide +kernel
theorem dX5_choice_77 : decode cX5_choice 77 = .ok (.invokestatic 249, 3) := by decide +kernel
theorem dX5_choice_80 : decode cX5_choice 80 = .ok (.idiv, 1) := by decide +kernel
theorem dX5_choice_81 : decode cX5_choice 81 = .ok (.iconst 3, 1) := by decide +kernel
theorem dX5_choice_82 : decode cX5_choice 82 = .ok (.irem, 1) := by decide +kernel
theorem dX5_choice_83 : decode cX5_choice 83 = .ok (.goto 5, 3) := by decide +kernel
theorem dX5_choice_86 : decode cX5_choice 86 = .ok (.bipush (-9), 2) := by decide +kernel
theorem dX5_choice_88 : decode cX5_choice 88 = .ok (.ireturn, 1) := by decide +kernel
theorem dX5_gap_0 : decode cX5_gap 0 = .ok (.aload_n 0, 1) := by decide +kernel
theorem dX5_gap_1 : decode cX5_gap 1 = .ok (.iconst 0, 1) := by decide +kernel
theorem dX5_gap_2 : decode cX5_gap 2 = .ok (.putfield 68, 3) := by decide +kernel
theorem dX5_gap_5 : decode cX5_gap 5 = .ok (.aload_n 0, 1) := by decide +kernel
theorem dX5_gap_6 : decode cX5_gap 6 = .ok (.iload_n 1, 1) := by decide +kernel
theorem dX5_gap_7 : decode cX5_gap 7 = .ok (.iload_n 2, 1) := by decide +kernel
theorem dX5_gap_8 : decode cX5_gap 8 = .ok (.iconst 1, 1) := by decide +kernel
theorem dX5_gap_9 : decode cX5_gap 9 = .ok (.bipush 6, 2) := by decide +kernel
theorem dX5_gap_11 : decode cX5_gap 11 = .ok (.invokevirtual 226, 3) := by decide +kernel
theorem dX5_gap_14 : decode cX5_gap 14 = .ok (.istore_n 3, 1) := by decide +kernel
theorem dX5_gap_15 : decode cX5_gap 15 = .ok (.iload_n 3, 1) := by decide +kernel
theorem dX5_gap_16 : decode cX5_gap 16 = .ok (.ifCond .ge 13, 3) := by decide +kernel
theorem dX5_gap_19 : decode cX5_gap 19 = .ok (.ldc_w 268, 3) := by decide +kernel
theorem dX5_gap_22 : decode cX5_gap 22 = .ok (.aload_n 0, 1) := by decide +kernel
theorem dX5_gap_23 : decode cX5_gap 23 = .ok (.iload_n 3, 1) := by decide +kernel
theorem dX5_gap_24 : decode cX5_gap 24 = .ok (.invokevirtual 152, 3) := by decide +kernel
theorem dX5_gap_27 : decode cX5_gap 27 = .ok (.isub, 1) := by decide +kernel
theorem dX5_gap_28 : decode cX5_gap 28 = .ok (.ireturn, 1) := by decide +kernel
theorem dX5_gap_29 : decode cX5_gap 29 = .ok (.aload_n 0, 1) := by decide +kernel
theorem dX5_gap_30 : decode cX5_gap 30 = .ok (.iload_n 1, 1) := by decide +kernel
theorem dX5_gap_31 : decode cX5_gap 31 = .ok (.iload_n 2, 1) := by decide +kernel
theorem dX5_gap_32 : decode cX5_gap 32 = .ok (.invokevirtual 265, 3) := by decide +kernel
theorem dX5_gap_35 : decode cX5_gap 35 = .ok (.aload_n 0, 1) := by decide +kernel
theorem dX5_gap_36 : decode cX5_gap 36 = .ok (.getfield 259, 3) := by decide +kernel
theorem dX5_gap_39 : decode cX5_gap 39 = .ok (.aload_n 0, 1) := by decide +kernel
theorem dX5_gap_40 : decode cX5_gap 40 = .ok (.iload_n 1, 1) := by decide +kernel
theorem dX5_gap_41 : decode cX5_gap 41 = .ok (.iload_n 2, 1) := by decide +kernel
theorem dX5_gap_42 : decode cX5_gap 42 = .ok (.invokevirtual 230, 3) := by decide +kernel
theorem dX5_gap_45 : decode cX5_gap 45 = .ok (.isub, 1) := by decide +kernel
theorem dX5_gap_46 : decode cX5_gap 46 = .ok (.ireturn, 1) := by decide +kernel
theorem dX5_feast_0 : decode cX5_feast 0 = .ok (.aload_n 0, 1) := by decide +kernel
theorem dX5_feast_1 : decode cX5_feast 1 = .ok (.iconst 0, 1) := by decide +kernel
theorem dX5_feast_2 : decode cX5_feast 2 = .ok (.putfield 68, 3) := by decide +kernel
theorem dX5_feast_5 : decode cX5_feast 5 = .ok (.aload_n 0, 1) := by decide +kernel
theorem dX5_feast_6 : decode cX5_feast 6 = .ok (.iload_n 1, 1) := by decide +kernel
theorem dX5_feast_7 : decode cX5_feast 7 = .ok (.invokevirtual 199, 3) := by decide +kernel
theorem dX5_feast_10 : decode cX5_feast 10 = .ok (.ifCond .ne 7, 3) := by decide +kernel
theorem dX5_feast_13 : decode cX5_feast 13 = .ok (.iconst (-1), 1) := by decide +kernel
theorem dX5_feast_14 : decode cX5_feast 14 = .ok (.goto 36, 3) := by decide +kernel
theorem dX5_feast_17 : decode cX5_feast 17 = .ok (.iload_n 2, 1) := by decide +kernel
theorem dX5_feast_18 : decode cX5_feast 18 = .ok (.iconst 1, 1) := by decide +kernel
theorem dX5_feast_19 : decode cX5_feast 19 = .ok (.if_icmp .lt 7, 3) := by decide +kernel
theorem dX5_feast_22 : decode cX5_feast 22 = .ok (.iload_n 3, 1) := by decide +kernel
theorem dX5_feast_23 : decode cX5_feast 23 = .ok (.ifCond .ge 8, 3) := by decide +kernel
theorem dX5_feast_26 : decode cX5_feast 26 = .ok (.bipush (-4), 2) := by decide +kernel
theorem dX5_feast_28 : decode cX5_feast 28 = .ok (.goto 22, 3) := by decide +kernel
theorem dX5_feast_31 : decode cX5_feast 31 = .ok (.iload_n 2, 1) := by decide +kernel
theorem dX5_feast_32 : decode cX5_feast 32 = .ok (.bipush 6, 2) := by decide +kernel
theorem dX5_feast_34 : decode cX5_feast 34 = .ok (.if_icmp .gt 10, 3) := by decide +kernel
theorem dX5_feast_37 : decode cX5_feast 37 = .ok (.iload_n 3, 1) := by decide +kernel
theorem dX5_feast_38 : decode cX5_feast 38 = .ok (.sipush 9999, 3) := by decide +kernel
theorem dX5_feast_41 : decode cX5_feast 41 = .ok (.if_icmp .le 8, 3) := by decide +kernel
theorem dX5_feast_44 : decode cX5_feast 44 = .ok (.bipush (-6), 2) := by decide +kernel
theorem dX5_feast_46 : decode cX5_feast 46 = .ok (.goto 4, 3) := by decide +kernel
theorem dX5_feast_49 : decode cX5_feast 49 = .ok (.iconst 0, 1) := by decide +kernel
theorem dX5_feast_50 : decode cX5_feast 50 = .ok (.istore 4, 2) := by decide +kernel
theorem dX5_feast_52 : decode cX5_feast 52 = .ok (.iload 4, 2) := by decide +kernel
theorem dX5_feast_54 : decode cX5_feast 54 = .ok (.ifCond .ge 10, 3) := by decide +kernel
theorem dX5_feast_57 : decode cX5_feast 57 = .ok (.aload_n 0, 1) := by decide +kernel
theorem dX5_feast_58 : decode cX5_feast 58 = .ok (.iload 4, 2) := by decide +kernel
theorem dX5_feast_60 : decode cX5_feast 60 = .ok (.invokevirtual 152, 3) := by decide +kernel
theorem dX5_feast_63 : decode cX5_feast 63 = .ok (.ireturn, 1) := by decide +kernel
theorem dX5_feast_64 : decode cX5_feast 64 = .ok (.bipush (-9), 2) := by decide +kernel
theorem dX5_feast_66 : decode cX5_feast 66 = .ok (.istore 5, 2) := by decide +kernel
theorem dX5_feast_68 : decode cX5_feast 68 = .ok (.iconst 0, 1) := by decide +kernel
theorem dX5_feast_69 : decode cX5_feast 69 = .ok (.istore 6, 2) := by decide +kernel
theorem dX5_feast_71 : decode cX5_feast 71 = .ok (.iload 6, 2) := by decide +kernel
theorem dX5_feast_73 : decode cX5_feast 73 = .ok (.iload_n 2, 1) := by decide +kernel
theorem dX5_feast_74 : decode cX5_feast 74 = .ok (.invokestatic 249, 3) := by decide +kernel
theorem dX5_feast_77 : decode cX5_feast 77 = .ok (.if_icmp .ge 58, 3) := by decide +kernel
theorem dX5_feast_80 : decode cX5_feast 80 = .ok (.aload_n 0, 1) := by decide +kernel
theorem dX5_feast_81 : decode cX5_feast 81 = .ok (.iload_n 1, 1) := by decide +kernel
theorem dX5_feast_82 : decode cX5_feast 82 = .ok (.iload_n 2, 1) := by decide +kernel
theorem dX5_feast_83 : decode cX5_feast 83 = .ok (.iload 6, 2) := by decide +kernel
theorem dX5_feast_85 : decode cX5_feast 85 = .ok (.invokevirtual 262, 3) := by decide +kernel
theorem dX5_feast_88 : decode cX5_feast 88 = .ok (.iload_n 3, 1) := by decide +kernel
theorem dX5_feast_89 : decode cX5_feast 89 = .ok (.if_icmp .lt 7, 3) := by decide +kernel
theorem dX5_feast_92 : decode cX5_feast 92 = .ok (.iconst 1, 1) := by decide +kernel
theorem dX5_feast_93 : decode cX5_feast 93 = .ok (.goto 4, 3) := by decide +kernel
theorem dX5_feast_96 : decode cX5_feast 96 = .ok (.iconst 0, 1) := by decide +kernel
theorem dX5_feast_97 : decode cX5_feast 97 = .ok (.istore 7, 2) := by decide +kernel
theorem dX5_feast_99 : decode cX5_feast 99 = .ok (.iload 7, 2) := by decide +kernel
theorem dX5_feast_101 : decode cX5_feast 101 = .ok (.ifCond .eq 24, 3) := by decide +kernel
theorem dX5_feast_104 : decode cX5_feast 104 = .ok (.iload 5, 2) := by decide +kernel
theorem dX5_feast_106 : decode cX5_feast 106 = .ok (.ifCond .lt 12, 3) := by decide +kernel
theorem dX5_feast_109 : decode cX5_feast 109 = .ok (.aload_n 0, 1) := by decide +kernel
theorem dX5_feast_110 : decode cX5_feast 110 = .ok (.getfield 246, 3) := by decide +kernel
theorem dX5_feast_113 : decode cX5_feast 113 = .ok (.iload 5, 2) := by decide +kernel
theorem dX5_feast_115 : decode cX5_feast 115 = .ok (.if_icmp .ge 10, 3) := by decide +kernel
theorem dX5_feast_118 : decode cX5_feast 118 = .ok (.aload_n 0, 1) := by decide +kernel
theorem dX5_feast_119 : decode cX5_feast 119 = .ok (.getfield 246, 3) := by decide +kernel
theorem dX5_feast_122 : decode cX5_feast 122 = .ok (.goto 5, 3) := by decide +kernel
theorem dX5_feast_125 : decode cX5_feast 125 = .ok (.iload 5, 2) := by decide +kernel
theorem dX5_feast_127 : decode cX5_feast 127 = .ok (.istore 5, 2) := by decide +kernel
theorem dX5_feast_129 : decode cX5_feast 129 = .ok (.iinc 6 1, 3) := by decide +kernel
theorem dX5_feast_132 : decode cX5_feast 132 = .ok (.goto (-61), 3) := by decide +kernel
theorem dX5_feast_135 : decode cX5_feast 135 = .ok (.iload 5, 2) := by decide +kernel
theorem dX5_feast_137 : decode cX5_feast 137 = .ok (.ireturn, 1) := by decide +kernel
theorem dX5_isAimedAt_0 : decode cX5_isAimedAt 0 = .ok (.iconst 0, 1) := by decide +kernel
theorem dX5_isAimedAt_1 : decode cX5_isAimedAt 1 = .ok (.istore_n 2, 1) := by decide +kernel
theorem dX5_isAimedAt_2 : decode cX5_isAimedAt 2 = .ok (.iconst 0, 1) := by decide +kernel
theorem dX5_isAimedAt_3 : decode cX5_isAimedAt 3 = .ok (.istore_n 3, 1) := by decide +kernel
theorem dX5_isAimedAt_4 : decode cX5_isAimedAt 4 = .ok (.iload_n 3, 1) := by decide +kernel
theorem dX5_isAimedAt_5 : decode cX5_isAimedAt 5 = .ok (.aload_n 0, 1) := by decide +kernel
theorem dX5_isAimedAt_6 : decode cX5_isAimedAt 6 = .ok (.getfield 71, 3) := by decide +kernel
theorem dX5_isAimedAt_9 : decode cX5_isAimedAt 9 = .ok (.if_icmp .ge 68, 3) := by decide +kernel
theorem dX5_isAimedAt_12 : decode cX5_isAimedAt 12 = .ok (.aload_n 0, 1) := by decide +kernel
theorem dX5_isAimedAt_13 : decode cX5_isAimedAt 13 = .ok (.getfield 16, 3) := by decide +kernel
theorem dX5_isAimedAt_16 : decode cX5_isAimedAt 16 = .ok (.iload_n 3, 1) := by decide +kernel
theorem dX5_isAimedAt_17 : decode cX5_isAimedAt 17 = .ok (.iaload, 1) := by decide +kernel
theorem dX5_isAimedAt_18 : decode cX5_isAimedAt 18 = .ok (.iconst 4, 1) := by decide +kernel
theorem dX5_isAimedAt_19 : decode cX5_isAimedAt 19 = .ok (.if_icmp .ne 14, 3) := by decide +kernel
theorem dX5_isAimedAt_22 : decode cX5_isAimedAt 22 = .ok (.iload_n 3, 1) := by decide +kernel
theorem dX5_isAimedAt_23 : decode cX5_isAimedAt 23 = .ok (.iconst 1, 1) := by decide +kernel
theorem dX5_isAimedAt_24 : decode cX5_isAimedAt 24 = .ok (.iadd, 1) := by decide +kernel
theorem dX5_isAimedAt_25 : decode cX5_isAimedAt 25 = .ok (.aload_n 0, 1) := by decide +kernel
theorem dX5_isAimedAt_26 : decode cX5_isAimedAt 26 = .ok (.getfield 71, 3) := by decide +kernel
theorem dX5_isAimedAt_29 : decode cX5_isAimedAt 29 = .ok (.irem, 1) := by decide +kernel
theorem dX5_isAimedAt_30 : decode cX5_isAimedAt 30 = .ok (.goto 9, 3) := by decide +kernel
theorem dX5_isAimedAt_33 : decode cX5_isAimedAt 33 = .ok (.aload_n 0, 1) := by decide +kernel
theorem dX5_isAimedAt_34 : decode cX5_isAimedAt 34 = .ok (.getfield 26, 3) := by decide +kernel
theorem dX5_isAimedAt_37 : decode cX5_isAimedAt 37 = .ok (.iload_n 3, 1) := by decide +kernel
theorem dX5_isAimedAt_38 : decode cX5_isAimedAt 38 = .ok (.iaload, 1) := by decide +kernel
theorem dX5_isAimedAt_39 : decode cX5_isAimedAt 39 = .ok (.istore 4, 2) := by decide +kernel
theorem dX5_isAimedAt_41 : decode cX5_isAimedAt 41 = .ok (.iload_n 2, 1) := by decide +kernel
theorem dX5_isAimedAt_42 : decode cX5_isAimedAt 42 = .ok (.ifCond .ne 23, 3) := by decide +kernel
theorem dX5_isAimedAt_45 : decode cX5_isAimedAt 45 = .ok (.iload_n 3, 1) := by decide +kernel
theorem dX5_isAimedAt_46 : decode cX5_isAimedAt 46 = .ok (.iload_n 1, 1) := by decide +kernel
theorem dX5_isAimedAt_47 : decode cX5_isAimedAt 47 = .ok (.if_icmp .eq 22, 3) := by decide +kernel
theorem dX5_isAimedAt_50 : decode cX5_isAimedAt 50 = .ok (.aload_n 0, 1) := by decide +kernel
theorem dX5_isAimedAt_51 : decode cX5_isAimedAt 51 = .ok (.getfield 29, 3) := by decide +kernel
theorem dX5_isAimedAt_54 : decode cX5_isAimedAt 54 = .ok (.iload_n 3, 1) := by decide +kernel
theorem dX5_isAimedAt_55 : decode cX5_isAimedAt 55 = .ok (.iaload, 1) := by decide +kernel
theorem dX5_isAimedAt_56 : decode cX5_isAimedAt 56 = .ok (.ifCond .le 13, 3) := by decide +kernel
theorem dX5_isAimedAt_59 : decode cX5_isAimedAt 59 = .ok (.iload 4, 2) := by decide +kernel
theorem dX5_isAimedAt_61 : decode cX5_isAimedAt 61 = .ok (.iload_n 1, 1) := by decide +kernel
theorem dX5_isAimedAt_62 : decode cX5_isAimedAt 62 = .ok (.if_icmp .ne 7, 3) := by decide +kernel
theorem dX5_isAimedAt_65 : decode cX5_isAimedAt 65 = .ok (.iconst 1, 1) := by decide +kernel
theorem dX5_isAimedAt_66 : decode cX5_isAimedAt 66 = .ok (.goto 4, 3) := by decide +kernel
theorem dX5_isAimedAt_69 : decode cX5_isAimedAt 69 = .ok (.iconst 0, 1) := by decide +kernel
theorem dX5_isAimedAt_70 : decode cX5_isAimedAt 70 = .ok (.istore_n 2, 1) := by decide +kernel
theorem dX5_isAimedAt_71 : decode cX5_isAimedAt 71 = .ok (.iinc 3 1, 3) := by decide +kernel
theorem dX5_isAimedAt_74 : decode cX5_isAimedAt 74 = .ok (.goto (-70), 3) := by decide +kernel
theorem dX5_isAimedAt_77 : decode cX5_isAimedAt 77 = .ok (.iload_n 2, 1) := by decide +kernel
theorem dX5_isAimedAt_78 : decode cX5_isAimedAt 78 = .ok (.ireturn, 1) := by decide +kernel
theorem dX5_stuck_0 : decode cX5_stuck 0 = .ok (.iconst 0, 1) := by decide +kernel
theorem dX5_stuck_1 : decode cX5_stuck 1 = .ok (.istore_n 1, 1) := by decide +kernel
theorem dX5_stuck_2 : decode cX5_stuck 2 = .ok (.iconst 0, 1) := by decide +kernel
theorem dX5_stuck_3 : decode cX5_stuck 3 = .ok (.istore_n 2, 1) := by decide +kernel
theorem dX5_stuck_4 : decode cX5_stuck 4 = .ok (.iload_n 2, 1) := by decide +kernel
theorem dX5_stuck_5 : decode cX5_stuck 5 = .ok (.aload_n 0, 1) := by decide +kernel
theorem dX5_stuck_6 : decode cX5_stuck 6 = .ok (.getfield 71, 3) := by decide +kernel
theorem dX5_stuck_9 : decode cX5_stuck 9 = .ok (.if_icmp .ge 63, 3) := by decide +kernel
theorem dX5_stuck_12 : decode cX5_stuck 12 = .ok (.aload_n 0, 1) := by decide +kernel
theorem dX5_stuck_13 : decode cX5_stuck 13 = .ok (.getfield 29, 3) := by decide +kernel
theorem dX5_stuck_16 : decode cX5_stuck 16 = .ok (.iload_n 2, 1) := by decide +kernel
theorem dX5_stuck_17 : decode cX5_stuck 17 = .ok (.iaload, 1) := by decide +kernel
theorem dX5_stuck_18 : decode cX5_stuck 18 = .ok (.ifCond .ne 32, 3) := by decide +kernel
theorem dX5_stuck_21 : decode cX5_stuck 21 = .ok (.aload_n 0, 1) := by decide +kernel
theorem dX5_stuck_22 : decode cX5_stuck 22 = .ok (.getfield 23, 3) := by decide +kernel
theorem dX5_stuck_25 : decode cX5_stuck 25 = .ok (.iload_n 2, 1) := by decide +kernel
theorem dX5_stuck_26 : decode cX5_stuck 26 = .ok (.iaload, 1) := by decide +kernel
theorem dX5_stuck_27 : decode cX5_stuck 27 = .ok (.ifCond .eq 11, 3) := by decide +kernel
theorem dX5_stuck_30 : decode cX5_stuck 30 = .ok (.aload_n 0, 1) := by decide +kernel
theorem dX5_stuck_31 : decode cX5_stuck 31 = .ok (.iload_n 2, 1) := by decide +kernel
theorem dX5_stuck_32 : decode cX5_stuck 32 = .ok (.invokevirtual 119, 3) := by decide +kernel
theorem dX5_stuck_35 : decode cX5_stuck 35 = .ok (.ifCond .ne 15, 3) := by decide +kernel
theorem dX5_stuck_38 : decode cX5_stuck 38 = .ok (.aload_n 0, 1) := by decide +kernel
theorem dX5_stuck_39 : decode cX5_stuck 39 = .ok (.iload_n 2, 1) := by decide +kernel
theorem dX5_stuck_40 : decode cX5_stuck 40 = .ok (.invokevirtual 269, 3) := by decide +kernel
theorem dX5_stuck_43 : decode cX5_stuck 43 = .ok (.ifCond .ne 7, 3) := by decide +kernel
theorem dX5_stuck_46 : decode cX5_stuck 46 = .ok (.iconst 1, 1) := by decide +kernel
theorem dX5_stuck_47 : decode cX5_stuck 47 = .ok (.goto 4, 3) := by decide +kernel
theorem dX5_stuck_50 : decode cX5_stuck 50 = .ok (.iconst 0, 1) := by decide +kernel
theorem dX5_stuck_51 : decode cX5_stuck 51 = .ok (.istore_n 3, 1) := by decide +kernel
theorem dX5_stuck_52 : decode cX5_stuck 52 = .ok (.iload_n 3, 1) := by decide +kernel
theorem dX5_stuck_53 : decode cX5_stuck 53 = .ok (.ifCond .eq 11, 3) := by decide +kernel
theorem dX5_stuck_56 : decode cX5_stuck 56 = .ok (.iload_n 1, 1) := by decide +kernel
theorem dX5_stuck_57 : decode cX5_stuck 57 = .ok (.iconst 1, 1) := by decide +kernel
theorem dX5_stuck_58 : decode cX5_stuck 58 = .ok (.iload_n 2, 1) := by decide +kernel
theorem dX5_stuck_59 : decode cX5_stuck 59 = .ok (.ishl, 1) := by decide +kernel
theorem dX5_stuck_60 : decode cX5_stuck 60 = .ok (.ior, 1) := by decide +kernel
theorem dX5_stuck_61 : decode cX5_stuck 61 = .ok (.goto 4, 3) := by decide +kernel
theorem dX5_stuck_64 : decode cX5_stuck 64 = .ok (.iload_n 1, 1) := by decide +kernel
theorem dX5_stuck_65 : decode cX5_stuck 65 = .ok (.istore_n 1, 1) := by decide +kernel
theorem dX5_stuck_66 : decode cX5_stuck 66 = .ok (.iinc 2 1, 3) := by decide +kernel
theorem dX5_stuck_69 : decode cX5_stuck 69 = .ok (.goto (-65), 3) := by decide +kernel
theorem dX5_stuck_72 : decode cX5_stuck 72 = .ok (.iload_n 1, 1) := by decide +kernel
theorem dX5_stuck_73 : decode cX5_stuck 73 = .ok (.ireturn, 1) := by decide +kernel
theorem dX5_begins_0 : decode cX5_begins 0 = .ok (.aload_n 0, 1) := by decide +kernel
theorem dX5_begins_1 : decode cX5_begins 1 = .ok (.iconst 0, 1) := by decide +kernel
theorem dX5_begins_2 : decode cX5_begins 2 = .ok (.putfield 68, 3) := by decide +kernel
theorem dX5_begins_5 : decode cX5_begins 5 = .ok (.aload_n 0, 1) := by decide +kernel
theorem dX5_begins_6 : decode cX5_begins 6 = .ok (.invokevirtual 272, 3) := by decide +kernel
theorem dX5_begins_9 : decode cX5_begins 9 = .ok (.ireturn, 1) := by decide +kernel
theorem dX5_helps_0 : decode cX5_helps 0 = .ok (.aload_n 0, 1) := by decide +kernel
theorem dX5_helps_1 : decode cX5_helps 1 = .ok (.iconst 0, 1) := by decide +kernel
theorem dX5_helps_2 : decode cX5_helps 2 = .ok (.putfield 68, 3) := by decide +kernel
theorem dX5_helps_5 : decode cX5_helps 5 = .ok (.aload_n 0, 1) := by decide +kernel
theorem dX5_helps_6 : decode cX5_helps 6 = .ok (.invokevirtual 272, 3) := by decide +kernel
theorem dX5_helps_9 : decode cX5_helps 9 = .ok (.istore_n 1, 1) := by decide +kernel
theorem dX5_helps_10 : decode cX5_helps 10 = .ok (.iconst 0, 1) := by decide +kernel
theorem dX5_helps_11 : decode cX5_helps 11 = .ok (.istore_n 2, 1) := by decide +kernel
theorem dX5_helps_12 : decode cX5_helps 12 = .ok (.iconst 0, 1) := by decide +kernel
theorem dX5_helps_13 : decode cX5_helps 13 = .ok (.istore_n 3, 1) := by decide +kernel
theorem dX5_helps_14 : decode cX5_helps 14 = .ok (.iload_n 3, 1) := by decide +kernel
theorem dX5_helps_15 : decode cX5_helps 15 = .ok (.bipush 6, 2) := by decide +kernel
theorem dX5_helps_17 : decode cX5_helps 17 = .ok (.if_icmp .ge 17, 3) := by decide +kernel
theorem dX5_helps_20 : decode cX5_helps 20 = .ok (.iload_n 2, 1) := by decide +kernel
theorem dX5_helps_21 : decode cX5_helps 21 = .ok (.iload_n 1, 1) := by decide +kernel
theorem dX5_helps_22 : decode cX5_helps 22 = .ok (.iload_n 3, 1) := by decide +kernel
theorem dX5_helps_23 : decode cX5_helps 23 = .ok (.ishr, 1) := by decide +kernel
theorem dX5_helps_24 : decode cX5_helps 24 = .ok (.iconst 1, 1) := by decide +kernel
theorem dX5_helps_25 : decode cX5_helps 25 = .ok (.iand, 1) := by decide +kernel
theorem dX5_helps_26 : decode cX5_helps 26 = .ok (.iadd, 1) := by decide +kernel
theorem dX5_helps_27 : decode cX5_helps 27 = .ok (.istore_n 2, 1) := by decide +kernel
theorem dX5_helps_28 : decode cX5_helps 28 = .ok (.iinc 3 1, 3) := by decide +kernel
theorem dX5_helps_31 : decode cX5_helps 31 = .ok (.goto (-17), 3) := by decide +kernel
theorem dX5_helps_34 : decode cX5_helps 34 = .ok (.aload_n 0, 1) := by decide +kernel
theorem dX5_helps_35 : decode cX5_helps 35 = .ok (.invokevirtual 239, 3) := by decide +kernel
theorem dX5_helps_38 : decode cX5_helps 38 = .ok (.istore_n 3, 1) := by decide +kernel
theorem dX5_helps_39 : decode cX5_helps 39 = .ok (.iload_n 2, 1) := by decide +kernel
theorem dX5_helps_40 : decode cX5_helps 40 = .ok (.ifCond .le 21, 3) := by decide +kernel
theorem dX5_helps_43 : decode cX5_helps 43 = .ok (.iload_n 3, 1) := by decide +kernel
theorem dX5_helps_44 : decode cX5_helps 44 = .ok (.ifCond .lt 17, 3) := by decide +kernel
theorem dX5_helps_47 : decode cX5_helps 47 = .ok (.aload_n 0, 1) := by decide +kernel
theorem dX5_helps_48 : decode cX5_helps 48 = .ok (.getfield 29, 3) := by decide +kernel
theorem dX5_helps_51 : decode cX5_helps 51 = .ok (.iload_n 3, 1) := by decide +kernel
theorem dX5_helps_52 : decode cX5_helps 52 = .ok (.iaload, 1) := by decide +kernel
theorem dX5_helps_53 : decode cX5_helps 53 = .ok (.iload_n 2, 1) := by decide +kernel
theorem dX5_helps_54 : decode cX5_helps 54 = .ok (.if_icmp .le 7, 3) := by decide +kernel
theorem dX5_helps_57 : decode cX5_helps 57 = .ok (.iload_n 3, 1) := by decide +kernel
theorem dX5_helps_58 : decode cX5_helps 58 = .ok (.goto 5, 3) := by decide +kernel
theorem dX5_helps_61 : decode cX5_helps 61 = .ok (.bipush (-9), 2) := by decide +kernel
theorem dX5_helps_63 : decode cX5_helps 63 = .ok (.ireturn, 1) := by decide +kernel
theorem dX5_hasBy_0 : decode cX5_hasBy 0 = .ok (.aload_n 0, 1) := by decide +kernel
theorem dX5_hasBy_1 : decode cX5_hasBy 1 = .ok (.invokevirtual 217, 3) := by decide +kernel
theorem dX5_hasBy_4 : decode cX5_hasBy 4 = .ok (.aload_n 0, 1) := by decide +kernel
theorem dX5_hasBy_5 : decode cX5_hasBy 5 = .ok (.iload_n 3, 1) := by decide +kernel
theorem dX5_hasBy_6 : decode cX5_hasBy 6 = .ok (.putfield 96, 3) := by decide +kernel
theorem dX5_hasBy_9 : decode cX5_hasBy 9 = .ok (.aload_n 0, 1) := by decide +kernel
theorem dX5_hasBy_10 : decode cX5_hasBy 10 = .ok (.iload 4, 2) := by decide +kernel
theorem dX5_hasBy_12 : decode cX5_hasBy 12 = .ok (.putfield 85, 3) := by decide +kernel
theorem dX5_hasBy_15 : decode cX5_hasBy 15 = .ok (.aload_n 0, 1) := by decide +kernel
theorem dX5_hasBy_16 : decode cX5_hasBy 16 = .ok (.iload_n 2, 1) := by decide +kernel
theorem dX5_hasBy_17 : decode cX5_hasBy 17 = .ok (.invokevirtual 220, 3) := by decide +kernel
theorem dX5_hasBy_20 : decode cX5_hasBy 20 = .ok (.aload_n 0, 1) := by decide +kernel
theorem dX5_hasBy_21 : decode cX5_hasBy 21 = .ok (.getfield 29, 3) := by decide +kernel
theorem dX5_hasBy_24 : decode cX5_hasBy 24 = .ok (.iload_n 1, 1) := by decide +kernel
theorem dX5_hasBy_25 : decode cX5_hasBy 25 = .ok (.iaload, 1) := by decide +kernel
theorem dX5_hasBy_26 : decode cX5_hasBy 26 = .ok (.istore 5, 2) := by decide +kernel
theorem dX5_hasBy_28 : decode cX5_hasBy 28 = .ok (.aload_n 0, 1) := by decide +kernel
theorem dX5_hasBy_29 : decode cX5_hasBy 29 = .ok (.invokevirtual 223, 3) := by decide +kernel
theorem dX5_hasBy_32 : decode cX5_hasBy 32 = .ok (.iload 5, 2) := by decide +kernel
theorem dX5_hasBy_34 : decode cX5_hasBy 34 = .ok (.ireturn, 1) := by decide +kernel
theorem dX5_byLaw_0 : decode cX5_byLaw 0 = .ok (.aload_n 0, 1) := by decide +kernel
theorem dX5_byLaw_1 : decode cX5_byLaw 1 = .ok (.iconst 0, 1) := by decide +kernel
theorem dX5_byLaw_2 : decode cX5_byLaw 2 = .ok (.putfield 68, 3) := by decide +kernel
theorem dX5_byLaw_5 : decode cX5_byLaw 5 = .ok (.iload_n 1, 1) := by decide +kernel
theorem dX5_byLaw_6 : decode cX5_byLaw 6 = .ok (.i2l, 1) := by decide +kernel
theorem dX5_byLaw_7 : decode cX5_byLaw 7 = .ok (.lconst 0, 1) := by decide +kernel
theorem dX5_byLaw_8 : decode cX5_byLaw 8 = .ok (.ldc2_w 184, 3) := by decide +kernel
theorem dX5_byLaw_11 : decode cX5_byLaw 11 = .ok (.invokestatic 74, 3) := by decide +kernel
theorem dX5_byLaw_14 : decode cX5_byLaw 14 = .ok (.ifCond .ne 8, 3) := by decide +kernel
theorem dX5_byLaw_17 : decode cX5_byLaw 17 = .ok (.bipush (-2), 2) := by decide +kernel
theorem dX5_byLaw_19 : decode cX5_byLaw 19 = .ok (.goto 12, 3) := by decide +kernel
theorem dX5_byLaw_22 : decode cX5_byLaw 22 = .ok (.aload_n 0, 1) := by decide +kernel
theorem dX5_byLaw_23 : decode cX5_byLaw 23 = .ok (.iload_n 2, 1) := by decide +kernel
theorem dX5_byLaw_24 : decode cX5_byLaw 24 = .ok (.iload_n 3, 1) := by decide +kernel
theorem dX5_byLaw_25 : decode cX5_byLaw 25 = .ok (.iconst 0, 1) := by decide +kernel
theorem dX5_byLaw_26 : decode cX5_byLaw 26 = .ok (.bipush 60, 2) := by decide +kernel
theorem dX5_byLaw_28 : decode cX5_byLaw 28 = .ok (.invokevirtual 226, 3) := by decide +kernel
theorem dX5_byLaw_31 : decode cX5_byLaw 31 = .ok (.istore 4, 2) := by decide +kernel
theorem dX5_byLaw_33 : decode cX5_byLaw 33 = .ok (.iload 4, 2) := by decide +kernel
theorem dX5_byLaw_35 : decode cX5_byLaw 35 = .ok (.ifCond .ge 12, 3) := by decide +kernel
theorem dX5_byLaw_38 : decode cX5_byLaw 38 = .ok (.aload_n 0, 1) := by decide +kernel
theorem dX5_byLaw_39 : decode cX5_byLaw 39 = .ok (.iload 4, 2) := by decide +kernel
theorem dX5_byLaw_41 : decode cX5_byLaw 41 = .ok (.invokevirtual 152, 3) := by decide +kernel
theorem dX5_byLaw_44 : decode cX5_byLaw 44 = .ok (.goto 14, 3) := by decide +kernel
theorem dX5_byLaw_47 : decode cX5_byLaw 47 = .ok (.aload_n 0, 1) := by decide +kernel
theorem dX5_byLaw_48 : decode cX5_byLaw 48 = .ok (.iload_n 2, 1) := by decide +kernel
theorem dX5_byLaw_49 : decode cX5_byLaw 49 = .ok (.iload_n 3, 1) := by decide +kernel
theorem dX5_byLaw_50 : decode cX5_byLaw 50 = .ok (.iload_n 1, 1) := by decide +kernel
theorem dX5_byLaw_51 : decode cX5_byLaw 51 = .ok (.aload_n 0, 1) := by decide +kernel
theorem dX5_byLaw_52 : decode cX5_byLaw 52 = .ok (.getfield 85, 3) := by decide +kernel
theorem dX5_byLaw_55 : decode cX5_byLaw 55 = .ok (.invokevirtual 275, 3) := by decide +kernel
theorem dX5_byLaw_58 : decode cX5_byLaw 58 = .ok (.ireturn, 1) := by decide +kernel
theorem dX5_byBack_0 : decode cX5_byBack 0 = .ok (.aload_n 0, 1) := by decide +kernel
theorem dX5_byBack_1 : decode cX5_byBack 1 = .ok (.iconst 0, 1) := by decide +kernel
theorem dX5_byBack_2 : decode cX5_byBack 2 = .ok (.putfield 68, 3) := by decide +kernel
theorem dX5_byBack_5 : decode cX5_byBack 5 = .ok (.aload_n 0, 1) := by decide +kernel
theorem dX5_byBack_6 : decode cX5_byBack 6 = .ok (.iload_n 2, 1) := by decide +kernel
theorem dX5_byBack_7 : decode cX5_byBack 7 = .ok (.invokevirtual 199, 3) := by decide +kernel
theorem dX5_byBack_10 : decode cX5_byBack 10 = .ok (.ifCond .ne 7, 3) := by decide +kernel
theorem dX5_byBack_13 : decode cX5_byBack 13 = .ok (.iconst (-1), 1) := by decide +kernel
theorem dX5_byBack_14 : decode cX5_byBack 14 = .ok (.goto 33, 3) := by decide +kernel
theorem dX5_byBack_17 : decode cX5_byBack 17 = .ok (.iload_n 1, 1) := by decide +kernel
theorem dX5_byBack_18 : decode cX5_byBack 18 = .ok (.ifCond .lt 7, 3) := by decide +kernel
theorem dX5_byBack_21 : decode cX5_byBack 21 = .ok (.iload_n 3, 1) := by decide +kernel
theorem dX5_byBack_22 : decode cX5_byBack 22 = .ok (.ifCond .ge 8, 3) := by decide +kernel
theorem dX5_byBack_25 : decode cX5_byBack 25 = .ok (.bipush (-4), 2) := by decide +kernel
theorem dX5_byBack_27 : decode cX5_byBack 27 = .ok (.goto 20, 3) := by decide +kernel
theorem dX5_byBack_30 : decode cX5_byBack 30 = .ok (.iload_n 1, 1) := by decide +kernel
theorem dX5_byBack_31 : decode cX5_byBack 31 = .ok (.iconst 5, 1) := by decide +kernel
theorem dX5_byBack_32 : decode cX5_byBack 32 = .ok (.if_icmp .gt 9, 3) := by decide +kernel
theorem dX5_byBack_35 : decode cX5_byBack 35 = .ok (.iload_n 3, 1) := by decide +kernel
theorem dX5_byBack_36 : decode cX5_byBack 36 = .ok (.bipush 60, 2) := by decide +kernel
theorem dX5_byBack_38 : decode cX5_byBack 38 = .ok (.if_icmp .le 8, 3) := by decide +kernel
theorem dX5_byBack_41 : decode cX5_byBack 41 = .ok (.bipush (-6), 2) := by decide +kernel
theorem dX5_byBack_43 : decode cX5_byBack 43 = .ok (.goto 4, 3) := by decide +kernel
theorem dX5_byBack_46 : decode cX5_byBack 46 = .ok (.iconst 0, 1) := by decide +kernel
theorem dX5_byBack_47 : decode cX5_byBack 47 = .ok (.istore 4, 2) := by decide +kernel
theorem dX5_byBack_49 : decode cX5_byBack 49 = .ok (.iload 4, 2) := by decide +kernel
theorem dX5_byBack_51 : decode cX5_byBack 51 = .ok (.ifCond .ge 12, 3) := by decide +kernel
theorem dX5_byBack_54 : decode cX5_byBack 54 = .ok (.aload_n 0, 1) := by decide +kernel
theorem dX5_byBack_55 : decode cX5_byBack 55 = .ok (.iload 4, 2) := by decide +kernel
theorem dX5_byBack_57 : decode cX5_byBack 57 = .ok (.invokevirtual 152, 3) := by decide +kernel
theorem dX5_byBack_60 : decode cX5_byBack 60 = .ok (.goto 14, 3) := by decide +kernel
theorem dX5_byBack_63 : decode cX5_byBack 63 = .ok (.aload_n 0, 1) := by decide +kernel
theorem dX5_byBack_64 : decode cX5_byBack 64 = .ok (.iload_n 2, 1) := by decide +kernel
theorem dX5_byBack_65 : decode cX5_byBack 65 = .ok (.iload_n 3, 1) := by decide +kernel
theorem dX5_byBack_66 : decode cX5_byBack 66 = .ok (.aload_n 0, 1) := by decide +kernel
theorem dX5_byBack_67 : decode cX5_byBack 67 = .ok (.getfield 96, 3) := by decide +kernel
theorem dX5_byBack_70 : decode cX5_byBack 70 = .ok (.iload_n 1, 1) := by decide +kernel
theorem dX5_byBack_71 : decode cX5_byBack 71 = .ok (.invokevirtual 275, 3) := by decide +kernel
theorem dX5_byBack_74 : decode cX5_byBack 74 = .ok (.ireturn, 1) := by decide +kernel
theorem dX5_leastLaw_0 : decode cX5_leastLaw 0 = .ok (.aload_n 0, 1) := by decide +kernel
theorem dX5_leastLaw_1 : decode cX5_leastLaw 1 = .ok (.iconst 0, 1) := by decide +kernel
theorem dX5_leastLaw_2 : decode cX5_leastLaw 2 = .ok (.putfield 68, 3) := by decide +kernel
theorem dX5_leastLaw_5 : decode cX5_leastLaw 5 = .ok (.aload_n 0, 1) := by decide +kernel
theorem dX5_leastLaw_6 : decode cX5_leastLaw 6 = .ok (.iload_n 1, 1) := by decide +kernel
theorem dX5_leastLaw_7 : decode cX5_leastLaw 7 = .ok (.iload_n 2, 1) := by decide +kernel
theorem dX5_leastLaw_8 : decode cX5_leastLaw 8 = .ok (.iconst 0, 1) := by decide +kernel
theorem dX5_leastLaw_9 : decode cX5_leastLaw 9 = .ok (.bipush 60, 2) := by decide +kernel
theorem dX5_leastLaw_11 : decode cX5_leastLaw 11 = .ok (.invokevirtual 226, 3) := by decide +kernel
theorem dX5_leastLaw_14 : decode cX5_leastLaw 14 = .ok (.istore_n 3, 1) := by decide +kernel
theorem dX5_leastLaw_15 : decode cX5_leastLaw 15 = .ok (.iload_n 3, 1) := by decide +kernel
theorem dX5_leastLaw_16 : decode cX5_leastLaw 16 = .ok (.ifCond .ge 9, 3) := by decide +kernel
theorem dX5_leastLaw_19 : decode cX5_leastLaw 19 = .ok (.aload_n 0, 1) := by decide +kernel
theorem dX5_leastLaw_20 : decode cX5_leastLaw 20 = .ok (.iload_n 3, 1) := by decide +kernel
theorem dX5_leastLaw_21 : decode cX5_leastLaw 21 = .ok (.invokevirtual 152, 3) := by decide +kernel
theorem dX5_leastLaw_24 : decode cX5_leastLaw 24 = .ok (.ireturn, 1) := by decide +kernel
theorem dX5_leastLaw_25 : decode cX5_leastLaw 25 = .ok (.iconst 0, 1) := by decide +kernel
theorem dX5_leastLaw_26 : decode cX5_leastLaw 26 = .ok (.istore 4, 2) := by decide +kernel
theorem dX5_leastLaw_28 : decode cX5_leastLaw 28 = .ok (.aload_n 0, 1) := by decide +kernel
theorem dX5_leastLaw_29 : decode cX5_leastLaw 29 = .ok (.iload_n 1, 1) := by decide +kernel
theorem dX5_leastLaw_30 : decode cX5_leastLaw 30 = .ok (.iload_n 2, 1) := by decide +kernel
theorem dX5_leastLaw_31 : decode cX5_leastLaw 31 = .ok (.iconst 0, 1) := by decide +kernel
theorem dX5_leastLaw_32 : decode cX5_leastLaw 32 = .ok (.aload_n 0, 1) := by decide +kernel
theorem dX5_leastLaw_33 : decode cX5_leastLaw 33 = .ok (.getfield 85, 3) := by decide +kernel
theorem dX5_leastLaw_36 : decode cX5_leastLaw 36 = .ok (.invokevirtual 275, 3) := by decide +kernel
theorem dX5_leastLaw_39 : decode cX5_leastLaw 39 = .ok (.istore 5, 2) := by decide +kernel
theorem dX5_leastLaw_41 : decode cX5_leastLaw 41 = .ok (.iconst 1, 1) := by decide +kernel
theorem dX5_leastLaw_42 : decode cX5_leastLaw 42 = .ok (.istore 6, 2) := by decide +kernel
theorem dX5_leastLaw_44 : decode cX5_leastLaw 44 = .ok (.iload 6, 2) := by decide +kernel
theorem dX5_leastLaw_46 : decode cX5_leastLaw 46 = .ok (.bipush 6, 2) := by decide +kernel
theorem dX5_leastLaw_48 : decode cX5_leastLaw 48 = .ok (.if_icmp .ge 55, 3) := by decide +kernel
theorem dX5_leastLaw_51 : decode cX5_leastLaw 51 = .ok (.aload_n 0, 1) := by decide +kernel
theorem dX5_leastLaw_52 : decode cX5_leastLaw 52 = .ok (.iload_n 1, 1) := by decide +kernel
theorem dX5_leastLaw_53 : decode cX5_leastLaw 53 = .ok (.iload_n 2, 1) := by decide +kernel
theorem dX5_leastLaw_54 : decode cX5_leastLaw 54 = .ok (.iload 6, 2) := by decide +kernel
theorem dX5_leastLaw_56 : decode cX5_leastLaw 56 = .ok (.aload_n 0, 1) := by decide +kernel
theorem dX5_leastLaw_57 : decode cX5_leastLaw 57 = .ok (.getfield 85, 3) := by decide +kernel
theorem dX5_leastLaw_60 : decode cX5_leastLaw 60 = .ok (.invokevirtual 275, 3) := by decide +kernel
theorem dX5_leastLaw_63 : decode cX5_leastLaw 63 = .ok (.istore 7, 2) := by decide +kernel
theorem dX5_leastLaw_65 : decode cX5_leastLaw 65 = .ok (.iload 7, 2) := by decide +kernel
theorem dX5_leastLaw_67 : decode cX5_leastLaw 67 = .ok (.iload 5, 2) := by decide +kernel
theorem dX5_leastLaw_69 : decode cX5_leastLaw 69 = .ok (.if_icmp .ge 8, 3) := by decide +kernel
theorem dX5_leastLaw_72 : decode cX5_leastLaw 72 = .ok (.iload 6, 2) := by decide +kernel
theorem dX5_leastLaw_74 : decode cX5_leastLaw 74 = .ok (.goto 5, 3) := by decide +kernel
theorem dX5_leastLaw_77 : decode cX5_leastLaw 77 = .ok (.iload 4, 2) := by decide +kernel
theorem dX5_leastLaw_79 : decode cX5_leastLaw 79 = .ok (.istore 4, 2) := by decide +kernel
theorem dX5_leastLaw_81 : decode cX5_leastLaw 81 = .ok (.iload 7, 2) := by decide +kernel
theorem dX5_leastLaw_83 : decode cX5_leastLaw 83 = .ok (.iload 5, 2) := by decide +kernel
theorem dX5_leastLaw_85 : decode cX5_leastLaw 85 = .ok (.if_icmp .ge 8, 3) := by decide +kernel
theorem dX5_leastLaw_88 : decode cX5_leastLaw 88 = .ok (.iload 7, 2) := by decide +kernel
theorem dX5_leastLaw_90 : decode cX5_leastLaw 90 = .ok (.goto 5, 3) := by decide +kernel
theorem dX5_leastLaw_93 : decode cX5_leastLaw 93 = .ok (.iload 5, 2) := by decide +kernel
theorem dX5_leastLaw_95 : decode cX5_leastLaw 95 = .ok (.istore 5, 2) := by decide +kernel
theorem dX5_leastLaw_97 : decode cX5_leastLaw 97 = .ok (.iinc 6 1, 3) := by decide +kernel
theorem dX5_leastLaw_100 : decode cX5_leastLaw 100 = .ok (.goto (-56), 3) := by decide +kernel
