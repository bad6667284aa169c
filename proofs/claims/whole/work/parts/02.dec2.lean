theorem dX3_leave_16 : decode cX3_leave 16 = .ok (.getfield 33, 3) := by decide +kernel
theorem dX3_leave_19 : decode cX3_leave 19 = .ok (.iload_n 1, 1) := by decide +kernel
theorem dX3_leave_20 : decode cX3_leave 20 = .ok (.invokevirtual 79, 3) := by decide +kernel
theorem dX3_leave_23 : decode cX3_leave 23 = .ok (.istore_n 2, 1) := by decide +kernel
theorem dX3_leave_24 : decode cX3_leave 24 = .ok (.aload_n 0, 1) := by decide +kernel
theorem dX3_leave_25 : decode cX3_leave 25 = .ok (.getfield 27, 3) := by decide +kernel
theorem dX3_leave_28 : decode cX3_leave 28 = .ok (.iconst 0, 1) := by decide +kernel
theorem dX3_leave_29 : decode cX3_leave 29 = .ok (.iaload, 1) := by decide +kernel
theorem dX3_leave_30 : decode cX3_leave 30 = .ok (.tableswitch 111 0 5 #[111, 38, 48, 56, 75, 94], 38) := by decide +kernel
theorem dX3_leave_68 : decode cX3_leave 68 = .ok (.aload_n 0, 1) := by decide +kernel
theorem dX3_leave_69 : decode cX3_leave 69 = .ok (.iload_n 2, 1) := by decide +kernel
theorem dX3_leave_70 : decode cX3_leave 70 = .ok (.iconst 1, 1) := by decide +kernel
theorem dX3_leave_71 : decode cX3_leave 71 = .ok (.iadd, 1) := by decide +kernel
theorem dX3_leave_72 : decode cX3_leave 72 = .ok (.iconst 2, 1) := by decide +kernel
theorem dX3_leave_73 : decode cX3_leave 73 = .ok (.idiv, 1) := by decide +kernel
theorem dX3_leave_74 : decode cX3_leave 74 = .ok (.invokevirtual 82, 3) := by decide +kernel
theorem dX3_leave_77 : decode cX3_leave 77 = .ok (.ireturn, 1) := by decide +kernel
theorem dX3_leave_78 : decode cX3_leave 78 = .ok (.aload_n 0, 1) := by decide +kernel
theorem dX3_leave_79 : decode cX3_leave 79 = .ok (.iload_n 2, 1) := by decide +kernel
theorem dX3_leave_80 : decode cX3_leave 80 = .ok (.iconst 2, 1) := by decide +kernel
theorem dX3_leave_81 : decode cX3_leave 81 = .ok (.imul, 1) := by decide +kernel
theorem dX3_leave_82 : decode cX3_leave 82 = .ok (.invokevirtual 82, 3) := by decide +kernel
theorem dX3_leave_85 : decode cX3_leave 85 = .ok (.ireturn, 1) := by decide +kernel
theorem dX3_leave_86 : decode cX3_leave 86 = .ok (.aload_n 0, 1) := by decide +kernel
theorem dX3_leave_87 : decode cX3_leave 87 = .ok (.aload_n 0, 1) := by decide +kernel
theorem dX3_leave_88 : decode cX3_leave 88 = .ok (.getfield 33, 3) := by decide +kernel
theorem dX3_leave_91 : decode cX3_leave 91 = .ok (.aload_n 0, 1) := by decide +kernel
theorem dX3_leave_92 : decode cX3_leave 92 = .ok (.getfield 27, 3) := by decide +kernel
theorem dX3_leave_95 : decode cX3_leave 95 = .ok (.iconst 1, 1) := by decide +kernel
theorem dX3_leave_96 : decode cX3_leave 96 = .ok (.iaload, 1) := by decide +kernel
theorem dX3_leave_97 : decode cX3_leave 97 = .ok (.iload_n 1, 1) := by decide +kernel
theorem dX3_leave_98 : decode cX3_leave 98 = .ok (.invokevirtual 85, 3) := by decide +kernel
theorem dX3_leave_101 : decode cX3_leave 101 = .ok (.invokevirtual 82, 3) := by decide +kernel
theorem dX3_leave_104 : decode cX3_leave 104 = .ok (.ireturn, 1) := by decide +kernel
theorem dX3_leave_105 : decode cX3_leave 105 = .ok (.aload_n 0, 1) := by decide +kernel
theorem dX3_leave_106 : decode cX3_leave 106 = .ok (.aload_n 0, 1) := by decide +kernel
theorem dX3_leave_107 : decode cX3_leave 107 = .ok (.getfield 33, 3) := by decide +kernel
theorem dX3_leave_110 : decode cX3_leave 110 = .ok (.aload_n 0, 1) := by decide +kernel
theorem dX3_leave_111 : decode cX3_leave 111 = .ok (.getfield 27, 3) := by decide +kernel
theorem dX3_leave_114 : decode cX3_leave 114 = .ok (.iconst 1, 1) := by decide +kernel
theorem dX3_leave_115 : decode cX3_leave 115 = .ok (.iaload, 1) := by decide +kernel
theorem dX3_leave_116 : decode cX3_leave 116 = .ok (.iload_n 1, 1) := by decide +kernel
theorem dX3_leave_117 : decode cX3_leave 117 = .ok (.invokevirtual 88, 3) := by decide +kernel
theorem dX3_leave_120 : decode cX3_leave 120 = .ok (.invokevirtual 82, 3) := by decide +kernel
theorem dX3_leave_123 : decode cX3_leave 123 = .ok (.ireturn, 1) := by decide +kernel
theorem dX3_leave_124 : decode cX3_leave 124 = .ok (.aload_n 0, 1) := by decide +kernel
theorem dX3_leave_125 : decode cX3_leave 125 = .ok (.iload_n 2, 1) := by decide +kernel
theorem dX3_leave_126 : decode cX3_leave 126 = .ok (.iconst 1, 1) := by decide +kernel
theorem dX3_leave_127 : decode cX3_leave 127 = .ok (.iadd, 1) := by decide +kernel
theorem dX3_leave_128 : decode cX3_leave 128 = .ok (.iconst 2, 1) := by decide +kernel
theorem dX3_leave_129 : decode cX3_leave 129 = .ok (.idiv, 1) := by decide +kernel
theorem dX3_leave_130 : decode cX3_leave 130 = .ok (.aload_n 0, 1) := by decide +kernel
theorem dX3_leave_131 : decode cX3_leave 131 = .ok (.getfield 15, 3) := by decide +kernel
theorem dX3_leave_134 : decode cX3_leave 134 = .ok (.iload_n 1, 1) := by decide +kernel
theorem dX3_leave_135 : decode cX3_leave 135 = .ok (.iaload, 1) := by decide +kernel
theorem dX3_leave_136 : decode cX3_leave 136 = .ok (.iadd, 1) := by decide +kernel
theorem dX3_leave_137 : decode cX3_leave 137 = .ok (.invokevirtual 82, 3) := by decide +kernel
theorem dX3_leave_140 : decode cX3_leave 140 = .ok (.ireturn, 1) := by decide +kernel
theorem dX3_leave_141 : decode cX3_leave 141 = .ok (.aload_n 0, 1) := by decide +kernel
theorem dX3_leave_142 : decode cX3_leave 142 = .ok (.iload_n 2, 1) := by decide +kernel
theorem dX3_leave_143 : decode cX3_leave 143 = .ok (.invokevirtual 82, 3) := by decide +kernel
theorem dX3_leave_146 : decode cX3_leave 146 = .ok (.ireturn, 1) := by decide +kernel
theorem dX3_bounded_0 : decode cX3_bounded 0 = .ok (.aload_n 0, 1) := by decide +kernel
theorem dX3_bounded_1 : decode cX3_bounded 1 = .ok (.getfield 27, 3) := by decide +kernel
theorem dX3_bounded_4 : decode cX3_bounded 4 = .ok (.iconst 3, 1) := by decide +kernel
theorem dX3_bounded_5 : decode cX3_bounded 5 = .ok (.iaload, 1) := by decide +kernel
theorem dX3_bounded_6 : decode cX3_bounded 6 = .ok (.sipush 9999, 3) := by decide +kernel
theorem dX3_bounded_9 : decode cX3_bounded 9 = .ok (.iload_n 1, 1) := by decide +kernel
theorem dX3_bounded_10 : decode cX3_bounded 10 = .ok (.invokestatic 91, 3) := by decide +kernel
theorem dX3_bounded_13 : decode cX3_bounded 13 = .ok (.invokestatic 96, 3) := by decide +kernel
theorem dX3_bounded_16 : decode cX3_bounded 16 = .ok (.ireturn, 1) := by decide +kernel
theorem dX3_amountByKind_0 : decode cX3_amountByKind 0 = .ok (.aload_n 0, 1) := by decide +kernel
theorem dX3_amountByKind_1 : decode cX3_amountByKind 1 = .ok (.getfield 9, 3) := by decide +kernel
theorem dX3_amountByKind_4 : decode cX3_amountByKind 4 = .ok (.iload_n 1, 1) := by decide +kernel
theorem dX3_amountByKind_5 : decode cX3_amountByKind 5 = .ok (.iaload, 1) := by decide +kernel
theorem dX3_amountByKind_6 : decode cX3_amountByKind 6 = .ok (.tableswitch 125 0 7 #[125, 46, 53, 62, 46, 68, 46, 94], 46) := by decide +kernel
theorem dX3_amountByKind_52 : decode cX3_amountByKind 52 = .ok (.aload_n 0, 1) := by decide +kernel
theorem dX3_amountByKind_53 : decode cX3_amountByKind 53 = .ok (.getfield 21, 3) := by decide +kernel
theorem dX3_amountByKind_56 : decode cX3_amountByKind 56 = .ok (.iload_n 1, 1) := by decide +kernel
theorem dX3_amountByKind_57 : decode cX3_amountByKind 57 = .ok (.iaload, 1) := by decide +kernel
theorem dX3_amountByKind_58 : decode cX3_amountByKind 58 = .ok (.ireturn, 1) := by decide +kernel
theorem dX3_amountByKind_59 : decode cX3_amountByKind 59 = .ok (.aload_n 0, 1) := by decide +kernel
theorem dX3_amountByKind_60 : decode cX3_amountByKind 60 = .ok (.getfield 21, 3) := by decide +kernel
theorem dX3_amountByKind_63 : decode cX3_amountByKind 63 = .ok (.iload_n 1, 1) := by decide +kernel
theorem dX3_amountByKind_64 : decode cX3_amountByKind 64 = .ok (.iaload, 1) := by decide +kernel
theorem dX3_amountByKind_65 : decode cX3_amountByKind 65 = .ok (.iconst 2, 1) := by decide +kernel
theorem dX3_amountByKind_66 : decode cX3_amountByKind 66 = .ok (.idiv, 1) := by decide +kernel
theorem dX3_amountByKind_67 : decode cX3_amountByKind 67 = .ok (.ireturn, 1) := by decide +kernel
theorem dX3_amountByKind_68 : decode cX3_amountByKind 68 = .ok (.aload_n 0, 1) := by decide +kernel
theorem dX3_amountByKind_69 : decode cX3_amountByKind 69 = .ok (.iload_n 1, 1) := by decide +kernel
theorem dX3_amountByKind_70 : decode cX3_amountByKind 70 = .ok (.invokevirtual 99, 3) := by decide +kernel
theorem dX3_amountByKind_73 : decode cX3_amountByKind 73 = .ok (.ireturn, 1) := by decide +kernel
theorem dX3_amountByKind_74 : decode cX3_amountByKind 74 = .ok (.aload_n 0, 1) := by decide +kernel
theorem dX3_amountByKind_75 : decode cX3_amountByKind 75 = .ok (.getfield 51, 3) := by decide +kernel
theorem dX3_amountByKind_78 : decode cX3_amountByKind 78 = .ok (.bipush 10, 2) := by decide +kernel
theorem dX3_amountByKind_80 : decode cX3_amountByKind 80 = .ok (.aload_n 0, 1) := by decide +kernel
theorem dX3_amountByKind_81 : decode cX3_amountByKind 81 = .ok (.getfield 15, 3) := by decide +kernel
theorem dX3_amountByKind_84 : decode cX3_amountByKind 84 = .ok (.iload_n 1, 1) := by decide +kernel
theorem dX3_amountByKind_85 : decode cX3_amountByKind 85 = .ok (.iaload, 1) := by decide +kernel
theorem dX3_amountByKind_86 : decode cX3_amountByKind 86 = .ok (.imul, 1) := by decide +kernel
theorem dX3_amountByKind_87 : decode cX3_amountByKind 87 = .ok (.if_icmp .ge 11, 3) := by decide +kernel
theorem dX3_amountByKind_90 : decode cX3_amountByKind 90 = .ok (.aload_n 0, 1) := by decide +kernel
theorem dX3_amountByKind_91 : decode cX3_amountByKind 91 = .ok (.iload_n 1, 1) := by decide +kernel
theorem dX3_amountByKind_92 : decode cX3_amountByKind 92 = .ok (.invokevirtual 99, 3) := by decide +kernel
theorem dX3_amountByKind_95 : decode cX3_amountByKind 95 = .ok (.goto 4, 3) := by decide +kernel
theorem dX3_amountByKind_98 : decode cX3_amountByKind 98 = .ok (.iconst 0, 1) := by decide +kernel
theorem dX3_amountByKind_99 : decode cX3_amountByKind 99 = .ok (.ireturn, 1) := by decide +kernel
theorem dX3_amountByKind_100 : decode cX3_amountByKind 100 = .ok (.aload_n 0, 1) := by decide +kernel
theorem dX3_amountByKind_101 : decode cX3_amountByKind 101 = .ok (.getfield 15, 3) := by decide +kernel
theorem dX3_amountByKind_104 : decode cX3_amountByKind 104 = .ok (.iload_n 1, 1) := by decide +kernel
theorem dX3_amountByKind_105 : decode cX3_amountByKind 105 = .ok (.iaload, 1) := by decide +kernel
theorem dX3_amountByKind_106 : decode cX3_amountByKind 106 = .ok (.iconst 1, 1) := by decide +kernel
theorem dX3_amountByKind_107 : decode cX3_amountByKind 107 = .ok (.iadd, 1) := by decide +kernel
theorem dX3_amountByKind_108 : decode cX3_amountByKind 108 = .ok (.aload_n 0, 1) := by decide +kernel
theorem dX3_amountByKind_109 : decode cX3_amountByKind 109 = .ok (.getfield 51, 3) := by decide +kernel
theorem dX3_amountByKind_112 : decode cX3_amountByKind 112 = .ok (.invokestatic 102, 3) := by decide +kernel
theorem dX3_amountByKind_115 : decode cX3_amountByKind 115 = .ok (.ifCond .eq 14, 3) := by decide +kernel
theorem dX3_amountByKind_118 : decode cX3_amountByKind 118 = .ok (.aload_n 0, 1) := by decide +kernel
theorem dX3_amountByKind_119 : decode cX3_amountByKind 119 = .ok (.getfield 21, 3) := by decide +kernel
theorem dX3_amountByKind_122 : decode cX3_amountByKind 122 = .ok (.iload_n 1, 1) := by decide +kernel
theorem dX3_amountByKind_123 : decode cX3_amountByKind 123 = .ok (.iaload, 1) := by decide +kernel
theorem dX3_amountByKind_124 : decode cX3_amountByKind 124 = .ok (.iconst 2, 1) := by decide +kernel
theorem dX3_amountByKind_125 : decode cX3_amountByKind 125 = .ok (.idiv, 1) := by decide +kernel
theorem dX3_amountByKind_126 : decode cX3_amountByKind 126 = .ok (.goto 4, 3) := by decide +kernel
theorem dX3_amountByKind_129 : decode cX3_amountByKind 129 = .ok (.iconst 0, 1) := by decide +kernel
theorem dX3_amountByKind_130 : decode cX3_amountByKind 130 = .ok (.ireturn, 1) := by decide +kernel
theorem dX3_amountByKind_131 : decode cX3_amountByKind 131 = .ok (.iconst 0, 1) := by decide +kernel
theorem dX3_amountByKind_132 : decode cX3_amountByKind 132 = .ok (.ireturn, 1) := by decide +kernel
theorem dX3_whatGrew_0 : decode cX3_whatGrew 0 = .ok (.aload_n 0, 1) := by decide +kernel
theorem dX3_whatGrew_1 : decode cX3_whatGrew 1 = .ok (.getfield 21, 3) := by decide +kernel
theorem dX3_whatGrew_4 : decode cX3_whatGrew 4 = .ok (.iload_n 1, 1) := by decide +kernel
theorem dX3_whatGrew_5 : decode cX3_whatGrew 5 = .ok (.iaload, 1) := by decide +kernel
theorem dX3_whatGrew_6 : decode cX3_whatGrew 6 = .ok (.aload_n 0, 1) := by decide +kernel
theorem dX3_whatGrew_7 : decode cX3_whatGrew 7 = .ok (.getfield 24, 3) := by decide +kernel
theorem dX3_whatGrew_10 : decode cX3_whatGrew 10 = .ok (.iload_n 1, 1) := by decide +kernel
theorem dX3_whatGrew_11 : decode cX3_whatGrew 11 = .ok (.iaload, 1) := by decide +kernel
theorem dX3_whatGrew_12 : decode cX3_whatGrew 12 = .ok (.aload_n 0, 1) := by decide +kernel
theorem dX3_whatGrew_13 : decode cX3_whatGrew 13 = .ok (.getfield 33, 3) := by decide +kernel
theorem dX3_whatGrew_16 : decode cX3_whatGrew 16 = .ok (.iload_n 1, 1) := by decide +kernel
theorem dX3_whatGrew_17 : decode cX3_whatGrew 17 = .ok (.invokevirtual 106, 3) := by decide +kernel
theorem dX3_whatGrew_20 : decode cX3_whatGrew 20 = .ok (.iadd, 1) := by decide +kernel
theorem dX3_whatGrew_21 : decode cX3_whatGrew 21 = .ok (.invokestatic 91, 3) := by decide +kernel
theorem dX3_whatGrew_24 : decode cX3_whatGrew 24 = .ok (.ireturn, 1) := by decide +kernel
theorem dX3_divides_0 : decode cX3_divides 0 = .ok (.iload_n 0, 1) := by decide +kernel
theorem dX3_divides_1 : decode cX3_divides 1 = .ok (.ifCond .le 13, 3) := by decide +kernel
theorem dX3_divides_4 : decode cX3_divides 4 = .ok (.iload_n 1, 1) := by decide +kernel
theorem dX3_divides_5 : decode cX3_divides 5 = .ok (.iload_n 0, 1) := by decide +kernel
theorem dX3_divides_6 : decode cX3_divides 6 = .ok (.irem, 1) := by decide +kernel
theorem dX3_divides_7 : decode cX3_divides 7 = .ok (.ifCond .ne 7, 3) := by decide +kernel
theorem dX3_divides_10 : decode cX3_divides 10 = .ok (.iconst 1, 1) := by decide +kernel
theorem dX3_divides_11 : decode cX3_divides 11 = .ok (.goto 4, 3) := by decide +kernel
theorem dX3_divides_14 : decode cX3_divides 14 = .ok (.iconst 0, 1) := by decide +kernel
theorem dX3_divides_15 : decode cX3_divides 15 = .ok (.ireturn, 1) := by decide +kernel
theorem dX3_takerByKind_0 : decode cX3_takerByKind 0 = .ok (.aload_n 0, 1) := by decide +kernel
theorem dX3_takerByKind_1 : decode cX3_takerByKind 1 = .ok (.getfield 9, 3) := by decide +kernel
theorem dX3_takerByKind_4 : decode cX3_takerByKind 4 = .ok (.iload_n 1, 1) := by decide +kernel
theorem dX3_takerByKind_5 : decode cX3_takerByKind 5 = .ok (.iaload, 1) := by decide +kernel
theorem dX3_takerByKind_6 : decode cX3_takerByKind 6 = .ok (.iconst 4, 1) := by decide +kernel
theorem dX3_takerByKind_7 : decode cX3_takerByKind 7 = .ok (.if_icmp .ne 9, 3) := by decide +kernel
theorem dX3_takerByKind_10 : decode cX3_takerByKind 10 = .ok (.aload_n 0, 1) := by decide +kernel
theorem dX3_takerByKind_11 : decode cX3_takerByKind 11 = .ok (.iload_n 1, 1) := by decide +kernel
theorem dX3_takerByKind_12 : decode cX3_takerByKind 12 = .ok (.invokevirtual 109, 3) := by decide +kernel
theorem dX3_takerByKind_15 : decode cX3_takerByKind 15 = .ok (.ireturn, 1) := by decide +kernel
theorem dX3_takerByKind_16 : decode cX3_takerByKind 16 = .ok (.aload_n 0, 1) := by decide +kernel
theorem dX3_takerByKind_17 : decode cX3_takerByKind 17 = .ok (.getfield 9, 3) := by decide +kernel
theorem dX3_takerByKind_20 : decode cX3_takerByKind 20 = .ok (.iload_n 1, 1) := by decide +kernel
theorem dX3_takerByKind_21 : decode cX3_takerByKind 21 = .ok (.iaload, 1) := by decide +kernel
theorem dX3_takerByKind_22 : decode cX3_takerByKind 22 = .ok (.bipush 6, 2) := by decide +kernel
theorem dX3_takerByKind_24 : decode cX3_takerByKind 24 = .ok (.if_icmp .ne 18, 3) := by decide +kernel
theorem dX3_takerByKind_27 : decode cX3_takerByKind 27 = .ok (.aload_n 0, 1) := by decide +kernel
theorem dX3_takerByKind_28 : decode cX3_takerByKind 28 = .ok (.getfield 51, 3) := by decide +kernel
theorem dX3_takerByKind_31 : decode cX3_takerByKind 31 = .ok (.iconst 2, 1) := by decide +kernel
theorem dX3_takerByKind_32 : decode cX3_takerByKind 32 = .ok (.irem, 1) := by decide +kernel
theorem dX3_takerByKind_33 : decode cX3_takerByKind 33 = .ok (.iconst 1, 1) := by decide +kernel
theorem dX3_takerByKind_34 : decode cX3_takerByKind 34 = .ok (.if_icmp .ne 8, 3) := by decide +kernel
theorem dX3_takerByKind_37 : decode cX3_takerByKind 37 = .ok (.bipush 9, 2) := by decide +kernel
theorem dX3_takerByKind_39 : decode cX3_takerByKind 39 = .ok (.goto 9, 3) := by decide +kernel
theorem dX3_takerByKind_42 : decode cX3_takerByKind 42 = .ok (.aload_n 0, 1) := by decide +kernel
theorem dX3_takerByKind_43 : decode cX3_takerByKind 43 = .ok (.getfield 18, 3) := by decide +kernel
theorem dX3_takerByKind_46 : decode cX3_takerByKind 46 = .ok (.iload_n 1, 1) := by decide +kernel
theorem dX3_takerByKind_47 : decode cX3_takerByKind 47 = .ok (.iaload, 1) := by decide +kernel
theorem dX3_takerByKind_48 : decode cX3_takerByKind 48 = .ok (.ireturn, 1) := by decide +kernel
theorem dX3_giftByKind_0 : decode cX3_giftByKind 0 = .ok (.aload_n 0, 1) := by decide +kernel
theorem dX3_giftByKind_1 : decode cX3_giftByKind 1 = .ok (.iload_n 1, 1) := by decide +kernel
theorem dX3_giftByKind_2 : decode cX3_giftByKind 2 = .ok (.invokevirtual 112, 3) := by decide +kernel
theorem dX3_giftByKind_5 : decode cX3_giftByKind 5 = .ok (.iload_n 1, 1) := by decide +kernel
theorem dX3_giftByKind_6 : decode cX3_giftByKind 6 = .ok (.if_icmp .ne 7, 3) := by decide +kernel
theorem dX3_giftByKind_9 : decode cX3_giftByKind 9 = .ok (.iconst 0, 1) := by decide +kernel
theorem dX3_giftByKind_10 : decode cX3_giftByKind 10 = .ok (.goto 8, 3) := by decide +kernel
theorem dX3_giftByKind_13 : decode cX3_giftByKind 13 = .ok (.aload_n 0, 1) := by decide +kernel
theorem dX3_giftByKind_14 : decode cX3_giftByKind 14 = .ok (.iload_n 1, 1) := by decide +kernel
theorem dX3_giftByKind_15 : decode cX3_giftByKind 15 = .ok (.invokevirtual 115, 3) := by decide +kernel
theorem dX3_giftByKind_18 : decode cX3_giftByKind 18 = .ok (.ireturn, 1) := by decide +kernel
theorem dX3_nextOne_0 : decode cX3_nextOne 0 = .ok (.iload_n 1, 1) := by decide +kernel
theorem dX3_nextOne_1 : decode cX3_nextOne 1 = .ok (.iconst 1, 1) := by decide +kernel
theorem dX3_nextOne_2 : decode cX3_nextOne 2 = .ok (.iadd, 1) := by decide +kernel
theorem dX3_nextOne_3 : decode cX3_nextOne 3 = .ok (.aload_n 0, 1) := by decide +kernel
theorem dX3_nextOne_4 : decode cX3_nextOne 4 = .ok (.getfield 47, 3) := by decide +kernel
theorem dX3_nextOne_7 : decode cX3_nextOne 7 = .ok (.if_icmp .ge 9, 3) := by decide +kernel
theorem dX3_nextOne_10 : decode cX3_nextOne 10 = .ok (.iload_n 1, 1) := by decide +kernel
theorem dX3_nextOne_11 : decode cX3_nextOne 11 = .ok (.iconst 1, 1) := by decide +kernel
theorem dX3_nextOne_12 : decode cX3_nextOne 12 = .ok (.iadd, 1) := by decide +kernel
theorem dX3_nextOne_13 : decode cX3_nextOne 13 = .ok (.goto 4, 3) := by decide +kernel
theorem dX3_nextOne_16 : decode cX3_nextOne 16 = .ok (.iconst 0, 1) := by decide +kernel
theorem dX3_nextOne_17 : decode cX3_nextOne 17 = .ok (.ireturn, 1) := by decide +kernel
theorem dX3_giftRefusal_0 : decode cX3_giftRefusal 0 = .ok (.aload_n 0, 1) := by decide +kernel
theorem dX3_giftRefusal_1 : decode cX3_giftRefusal 1 = .ok (.iload_n 1, 1) := by decide +kernel
theorem dX3_giftRefusal_2 : decode cX3_giftRefusal 2 = .ok (.invokevirtual 118, 3) := by decide +kernel
theorem dX3_giftRefusal_5 : decode cX3_giftRefusal 5 = .ok (.ifCond .eq 22, 3) := by decide +kernel
theorem dX3_giftRefusal_8 : decode cX3_giftRefusal 8 = .ok (.iload_n 2, 1) := by decide +kernel
theorem dX3_giftRefusal_9 : decode cX3_giftRefusal 9 = .ok (.iload_n 1, 1) := by decide +kernel
theorem dX3_giftRefusal_10 : decode cX3_giftRefusal 10 = .ok (.if_icmp .eq 17, 3) := by decide +kernel
theorem dX3_giftRefusal_13 : decode cX3_giftRefusal 13 = .ok (.iload_n 2, 1) := by decide +kernel
theorem dX3_giftRefusal_14 : decode cX3_giftRefusal 14 = .ok (.bipush 9, 2) := by decide +kernel
theorem dX3_giftRefusal_16 : decode cX3_giftRefusal 16 = .ok (.if_icmp .eq 13, 3) := by decide +kernel
theorem dX3_giftRefusal_19 : decode cX3_giftRefusal 19 = .ok (.aload_n 0, 1) := by decide +kernel
theorem dX3_giftRefusal_20 : decode cX3_giftRefusal 20 = .ok (.iload_n 2, 1) := by decide +kernel
theorem dX3_giftRefusal_21 : decode cX3_giftRefusal 21 = .ok (.invokevirtual 118, 3) := by decide +kernel
theorem dX3_giftRefusal_24 : decode cX3_giftRefusal 24 = .ok (.ifCond .ne 5, 3) := by decide +kernel
theorem dX3_giftRefusal_27 : decode cX3_giftRefusal 27 = .ok (.iconst (-1), 1) := by decide +kernel
theorem dX3_giftRefusal_28 : decode cX3_giftRefusal 28 = .ok (.ireturn, 1) := by decide +kernel
theorem dX3_giftRefusal_29 : decode cX3_giftRefusal 29 = .ok (.iload_n 3, 1) := by decide +kernel
theorem dX3_giftRefusal_30 : decode cX3_giftRefusal 30 = .ok (.iconst 1, 1) := by decide +kernel
theorem dX3_giftRefusal_31 : decode cX3_giftRefusal 31 = .ok (.aload_n 0, 1) := by decide +kernel
theorem dX3_giftRefusal_32 : decode cX3_giftRefusal 32 = .ok (.getfield 21, 3) := by decide +kernel
theorem dX3_giftRefusal_35 : decode cX3_giftRefusal 35 = .ok (.iload_n 1, 1) := by decide +kernel
theorem dX3_giftRefusal_36 : decode cX3_giftRefusal 36 = .ok (.iaload, 1) := by decide +kernel
theorem dX3_giftRefusal_37 : decode cX3_giftRefusal 37 = .ok (.invokestatic 60, 3) := by decide +kernel
theorem dX3_giftRefusal_40 : decode cX3_giftRefusal 40 = .ok (.ireturn, 1) := by decide +kernel
theorem dX3_hand_0 : decode cX3_hand 0 = .ok (.aload_n 0, 1) := by decide +kernel
theorem dX3_hand_1 : decode cX3_hand 1 = .ok (.getfield 21, 3) := by decide +kernel
theorem dX3_hand_4 : decode cX3_hand 4 = .ok (.iload_n 1, 1) := by decide +kernel
theorem dX3_hand_5 : decode cX3_hand 5 = .ok (.dup2, 1) := by decide +kernel
theorem dX3_hand_6 : decode cX3_hand 6 = .ok (.iaload, 1) := by decide +kernel
theorem dX3_hand_7 : decode cX3_hand 7 = .ok (.iload_n 3, 1) := by decide +kernel
theorem dX3_hand_8 : decode cX3_hand 8 = .ok (.isub, 1) := by decide +kernel
theorem dX3_hand_9 : decode cX3_hand 9 = .ok (.iastore, 1) := by decide +kernel
theorem dX3_hand_10 : decode cX3_hand 10 = .ok (.aload_n 0, 1) := by decide +kernel
theorem dX3_hand_11 : decode cX3_hand 11 = .ok (.getfield 33, 3) := by decide +kernel
theorem dX3_hand_14 : decode cX3_hand 14 = .ok (.iload_n 1, 1) := by decide +kernel
theorem dX3_hand_15 : decode cX3_hand 15 = .ok (.iload_n 2, 1) := by decide +kernel
theorem dX3_hand_16 : decode cX3_hand 16 = .ok (.iload_n 3, 1) := by decide +kernel
theorem dX3_hand_17 : decode cX3_hand 17 = .ok (.invokevirtual 122, 3) := by decide +kernel
theorem dX3_hand_20 : decode cX3_hand 20 = .ok (.return_, 1) := by decide +kernel
theorem dX3_handIfAny_0 : decode cX3_handIfAny 0 = .ok (.iload_n 2, 1) := by decide +kernel
theorem dX3_handIfAny_1 : decode cX3_handIfAny 1 = .ok (.iload_n 1, 1) := by decide +kernel
theorem dX3_handIfAny_2 : decode cX3_handIfAny 2 = .ok (.if_icmp .eq 14, 3) := by decide +kernel
theorem dX3_handIfAny_5 : decode cX3_handIfAny 5 = .ok (.iload_n 3, 1) := by decide +kernel
theorem dX3_handIfAny_6 : decode cX3_handIfAny 6 = .ok (.ifCond .le 10, 3) := by decide +kernel
theorem dX3_handIfAny_9 : decode cX3_handIfAny 9 = .ok (.aload_n 0, 1) := by decide +kernel
theorem dX3_handIfAny_10 : decode cX3_handIfAny 10 = .ok (.iload_n 1, 1) := by decide +kernel
theorem dX3_handIfAny_11 : decode cX3_handIfAny 11 = .ok (.iload_n 2, 1) := by decide +kernel
theorem dX3_handIfAny_12 : decode cX3_handIfAny 12 = .ok (.iload_n 3, 1) := by decide +kernel
theorem dX3_handIfAny_13 : decode cX3_handIfAny 13 = .ok (.invokevirtual 126, 3) := by decide +kernel
theorem dX3_handIfAny_16 : decode cX3_handIfAny 16 = .ok (.return_, 1) := by decide +kernel
theorem dX3_passDays_0 : decode cX3_passDays 0 = .ok (.iconst 0, 1) := by decide +kernel
theorem dX3_passDays_1 : decode cX3_passDays 1 = .ok (.istore_n 2, 1) := by decide +kernel
theorem dX3_passDays_2 : decode cX3_passDays 2 = .ok (.iload_n 2, 1) := by decide +kernel
theorem dX3_passDays_3 : decode cX3_passDays 3 = .ok (.iload_n 1, 1) := by decide +kernel
theorem dX3_passDays_4 : decode cX3_passDays 4 = .ok (.if_icmp .ge 14, 3) := by decide +kernel
theorem dX3_passDays_7 : decode cX3_passDays 7 = .ok (.aload_n 0, 1) := by decide +kernel
theorem dX3_passDays_8 : decode cX3_passDays 8 = .ok (.invokevirtual 129, 3) := by decide +kernel
theorem dX3_passDays_11 : decode cX3_passDays 11 = .ok (.pop, 1) := by decide +kernel
theorem dX3_passDays_12 : decode cX3_passDays 12 = .ok (.iinc 2 1, 3) := by decide +kernel
theorem dX3_passDays_15 : decode cX3_passDays 15 = .ok (.goto (-13), 3) := by decide +kernel
theorem dX3_passDays_18 : decode cX3_passDays 18 = .ok (.return_, 1) := by decide +kernel
theorem dX3_passDay_0 : decode cX3_passDay 0 = .ok (.iconst 0, 1) := by decide +kernel
theorem dX3_passDay_1 : decode cX3_passDay 1 = .ok (.istore_n 1, 1) := by decide +kernel
theorem dX3_passDay_2 : decode cX3_passDay 2 = .ok (.iload_n 1, 1) := by decide +kernel
theorem dX3_passDay_3 : decode cX3_passDay 3 = .ok (.aload_n 0, 1) := by decide +kernel
theorem dX3_passDay_4 : decode cX3_passDay 4 = .ok (.getfield 47, 3) := by decide +kernel
theorem dX3_passDay_7 : decode cX3_passDay 7 = .ok (.if_icmp .ge 24, 3) := by decide +kernel
theorem dX3_passDay_10 : decode cX3_passDay 10 = .ok (.aload_n 0, 1) := by decide +kernel
theorem dX3_passDay_11 : decode cX3_passDay 11 = .ok (.iload_n 1, 1) := by decide +kernel
theorem dX3_passDay_12 : decode cX3_passDay 12 = .ok (.aload_n 0, 1) := by decide +kernel
theorem dX3_passDay_13 : decode cX3_passDay 13 = .ok (.iload_n 1, 1) := by decide +kernel
theorem dX3_passDay_14 : decode cX3_passDay 14 = .ok (.invokevirtual 112, 3) := by decide +kernel
theorem dX3_passDay_17 : decode cX3_passDay 17 = .ok (.aload_n 0, 1) := by decide +kernel
theorem dX3_passDay_18 : decode cX3_passDay 18 = .ok (.iload_n 1, 1) := by decide +kernel
theorem dX3_passDay_19 : decode cX3_passDay 19 = .ok (.invokevirtual 115, 3) := by decide +kernel
theorem dX3_passDay_22 : decode cX3_passDay 22 = .ok (.invokevirtual 133, 3) := by decide +kernel
theorem dX3_passDay_25 : decode cX3_passDay 25 = .ok (.iinc 1 1, 3) := by decide +kernel
theorem dX3_passDay_28 : decode cX3_passDay 28 = .ok (.goto (-26), 3) := by decide +kernel
theorem dX3_passDay_31 : decode cX3_passDay 31 = .ok (.aload_n 0, 1) := by decide +kernel
theorem dX3_passDay_32 : decode cX3_passDay 32 = .ok (.invokevirtual 136, 3) := by decide +kernel
theorem dX3_passDay_35 : decode cX3_passDay 35 = .ok (.ireturn, 1) := by decide +kernel
theorem dX3_passDayOfOne_0 : decode cX3_passDayOfOne 0 = .ok (.iconst 0, 1) := by decide +kernel
theorem dX3_passDayOfOne_1 : decode cX3_passDayOfOne 1 = .ok (.istore_n 3, 1) := by decide +kernel
theorem dX3_passDayOfOne_2 : decode cX3_passDayOfOne 2 = .ok (.iload_n 3, 1) := by decide +kernel
theorem dX3_passDayOfOne_3 : decode cX3_passDayOfOne 3 = .ok (.aload_n 0, 1) := by decide +kernel
theorem dX3_passDayOfOne_4 : decode cX3_passDayOfOne 4 = .ok (.getfield 47, 3) := by decide +kernel
theorem dX3_passDayOfOne_7 : decode cX3_passDayOfOne 7 = .ok (.if_icmp .ge 59, 3) := by decide +kernel
theorem dX3_passDayOfOne_10 : decode cX3_passDayOfOne 10 = .ok (.iload_n 3, 1) := by decide +kernel
theorem dX3_passDayOfOne_11 : decode cX3_passDayOfOne 11 = .ok (.iload_n 1, 1) := by decide +kernel
theorem dX3_passDayOfOne_12 : decode cX3_passDayOfOne 12 = .ok (.if_icmp .ne 33, 3) := by decide +kernel
theorem dX3_passDayOfOne_15 : decode cX3_passDayOfOne 15 = .ok (.aload_n 0, 1) := by decide +kernel
theorem dX3_passDayOfOne_16 : decode cX3_passDayOfOne 16 = .ok (.iload_n 3, 1) := by decide +kernel
theorem dX3_passDayOfOne_17 : decode cX3_passDayOfOne 17 = .ok (.aload_n 0, 1) := by decide +kernel
theorem dX3_passDayOfOne_18 : decode cX3_passDayOfOne 18 = .ok (.getfield 18, 3) := by decide +kernel
theorem dX3_passDayOfOne_21 : decode cX3_passDayOfOne 21 = .ok (.iload_n 3, 1) := by decide +kernel
theorem dX3_passDayOfOne_22 : decode cX3_passDayOfOne 22 = .ok (.iaload, 1) := by decide +kernel
theorem dX3_passDayOfOne_23 : decode cX3_passDayOfOne 23 = .ok (.iload_n 3, 1) := by decide +kernel
theorem dX3_passDayOfOne_24 : decode cX3_passDayOfOne 24 = .ok (.if_icmp .ne 8, 3) := by decide +kernel
theorem dX3_passDayOfOne_27 : decode cX3_passDayOfOne 27 = .ok (.bipush 9, 2) := by decide +kernel
theorem dX3_passDayOfOne_29 : decode cX3_passDayOfOne 29 = .ok (.goto 9, 3) := by decide +kernel
theorem dX3_passDayOfOne_32 : decode cX3_passDayOfOne 32 = .ok (.aload_n 0, 1) := by decide +kernel
theorem dX3_passDayOfOne_33 : decode cX3_passDayOfOne 33 = .ok (.getfield 18, 3) := by decide +kernel
theorem dX3_passDayOfOne_36 : decode cX3_passDayOfOne 36 = .ok (.iload_n 3, 1) := by decide +kernel
theorem dX3_passDayOfOne_37 : decode cX3_passDayOfOne 37 = .ok (.iaload, 1) := by decide +kernel
theorem dX3_passDayOfOne_38 : decode cX3_passDayOfOne 38 = .ok (.iload_n 2, 1) := by decide +kernel
theorem dX3_passDayOfOne_39 : decode cX3_passDayOfOne 39 = .ok (.invokevirtual 133, 3) := by decide +kernel
theorem dX3_passDayOfOne_42 : decode cX3_passDayOfOne 42 = .ok (.goto 18, 3) := by decide +kernel
theorem dX3_passDayOfOne_45 : decode cX3_passDayOfOne 45 = .ok (.aload_n 0, 1) := by decide +kernel
theorem dX3_passDayOfOne_46 : decode cX3_passDayOfOne 46 = .ok (.iload_n 3, 1) := by decide +kernel
theorem dX3_passDayOfOne_47 : decode cX3_passDayOfOne 47 = .ok (.aload_n 0, 1) := by decide +kernel
theorem dX3_passDayOfOne_48 : decode cX3_passDayOfOne 48 = .ok (.iload_n 3, 1) := by decide +kernel
theorem dX3_passDayOfOne_49 : decode cX3_passDayOfOne 49 = .ok (.invokevirtual 112, 3) := by decide +kernel
theorem dX3_passDayOfOne_52 : decode cX3_passDayOfOne 52 = .ok (.aload_n 0, 1) := by decide +kernel
theorem dX3_passDayOfOne_53 : decode cX3_passDayOfOne 53 = .ok (.iload_n 3, 1) := by decide +kernel
theorem dX3_passDayOfOne_54 : decode cX3_passDayOfOne 54 = .ok (.invokevirtual 115, 3) := by decide +kernel
theorem dX3_passDayOfOne_57 : decode cX3_passDayOfOne 57 = .ok (.invokevirtual 133, 3) := by decide +kernel
theorem dX3_passDayOfOne_60 : decode cX3_passDayOfOne 60 = .ok (.iinc 3 1, 3) := by decide +kernel
theorem dX3_passDayOfOne_63 : decode cX3_passDayOfOne 63 = .ok (.goto (-61), 3) := by decide +kernel
theorem dX3_passDayOfOne_66 : decode cX3_passDayOfOne 66 = .ok (.aload_n 0, 1) := by decide +kernel
theorem dX3_passDayOfOne_67 : decode cX3_passDayOfOne 67 = .ok (.invokevirtual 136, 3) := by decide +kernel
theorem dX3_passDayOfOne_70 : decode cX3_passDayOfOne 70 = .ok (.pop, 1) := by decide +kernel
theorem dX3_passDayOfOne_71 : decode cX3_passDayOfOne 71 = .ok (.return_, 1) := by decide +kernel
theorem dX3_endDay_0 : decode cX3_endDay 0 = .ok (.iconst 0, 1) := by decide +kernel
theorem dX3_endDay_1 : decode cX3_endDay 1 = .ok (.istore_n 1, 1) := by decide +kernel
theorem dX3_endDay_2 : decode cX3_endDay 2 = .ok (.iconst 0, 1) := by decide +kernel
theorem dX3_endDay_3 : decode cX3_endDay 3 = .ok (.istore_n 2, 1) := by decide +kernel
theorem dX3_endDay_4 : decode cX3_endDay 4 = .ok (.iload_n 2, 1) := by decide +kernel
theorem dX3_endDay_5 : decode cX3_endDay 5 = .ok (.aload_n 0, 1) := by decide +kernel
theorem dX3_endDay_6 : decode cX3_endDay 6 = .ok (.getfield 47, 3) := by decide +kernel
theorem dX3_endDay_9 : decode cX3_endDay 9 = .ok (.if_icmp .ge 71, 3) := by decide +kernel
theorem dX3_endDay_12 : decode cX3_endDay 12 = .ok (.aload_n 0, 1) := by decide +kernel
theorem dX3_endDay_13 : decode cX3_endDay 13 = .ok (.getfield 33, 3) := by decide +kernel
theorem dX3_endDay_16 : decode cX3_endDay 16 = .ok (.iload_n 2, 1) := by decide +kernel
theorem dX3_endDay_17 : decode cX3_endDay 17 = .ok (.invokevirtual 72, 3) := by decide +kernel
theorem dX3_endDay_20 : decode cX3_endDay 20 = .ok (.aload_n 0, 1) := by decide +kernel
theorem dX3_endDay_21 : decode cX3_endDay 21 = .ok (.getfield 24, 3) := by decide +kernel
theorem dX3_endDay_24 : decode cX3_endDay 24 = .ok (.iload_n 2, 1) := by decide +kernel
theorem dX3_endDay_25 : decode cX3_endDay 25 = .ok (.iaload, 1) := by decide +kernel
theorem dX3_endDay_26 : decode cX3_endDay 26 = .ok (.iadd, 1) := by decide +kernel
theorem dX3_endDay_27 : decode cX3_endDay 27 = .ok (.istore_n 3, 1) := by decide +kernel
theorem dX3_endDay_28 : decode cX3_endDay 28 = .ok (.aload_n 0, 1) := by decide +kernel
theorem dX3_endDay_29 : decode cX3_endDay 29 = .ok (.getfield 21, 3) := by decide +kernel
theorem dX3_endDay_32 : decode cX3_endDay 32 = .ok (.iload_n 2, 1) := by decide +kernel
theorem dX3_endDay_33 : decode cX3_endDay 33 = .ok (.iaload, 1) := by decide +kernel
theorem dX3_endDay_34 : decode cX3_endDay 34 = .ok (.iload_n 3, 1) := by decide +kernel
theorem dX3_endDay_35 : decode cX3_endDay 35 = .ok (.aload_n 0, 1) := by decide +kernel
theorem dX3_endDay_36 : decode cX3_endDay 36 = .ok (.iload_n 2, 1) := by decide +kernel
theorem dX3_endDay_37 : decode cX3_endDay 37 = .ok (.invokevirtual 139, 3) := by decide +kernel
theorem dX3_endDay_40 : decode cX3_endDay 40 = .ok (.invokestatic 91, 3) := by decide +kernel
theorem dX3_endDay_43 : decode cX3_endDay 43 = .ok (.iadd, 1) := by decide +kernel
theorem dX3_endDay_44 : decode cX3_endDay 44 = .ok (.sipush 9999, 3) := by decide +kernel
theorem dX3_endDay_47 : decode cX3_endDay 47 = .ok (.invokestatic 91, 3) := by decide +kernel
theorem dX3_endDay_50 : decode cX3_endDay 50 = .ok (.istore 4, 2) := by decide +kernel
theorem dX3_endDay_52 : decode cX3_endDay 52 = .ok (.iload_n 1, 1) := by decide +kernel
theorem dX3_endDay_53 : decode cX3_endDay 53 = .ok (.iload_n 3, 1) := by decide +kernel
theorem dX3_endDay_54 : decode cX3_endDay 54 = .ok (.iload 4, 2) := by decide +kernel
theorem dX3_endDay_56 : decode cX3_endDay 56 = .ok (.aload_n 0, 1) := by decide +kernel
theorem dX3_endDay_57 : decode cX3_endDay 57 = .ok (.getfield 21, 3) := by decide +kernel
theorem dX3_endDay_60 : decode cX3_endDay 60 = .ok (.iload_n 2, 1) := by decide +kernel
theorem dX3_endDay_61 : decode cX3_endDay 61 = .ok (.iaload, 1) := by decide +kernel
theorem dX3_endDay_62 : decode cX3_endDay 62 = .ok (.isub, 1) := by decide +kernel
theorem dX3_endDay_63 : decode cX3_endDay 63 = .ok (.isub, 1) := by decide +kernel
theorem dX3_endDay_64 : decode cX3_endDay 64 = .ok (.iadd, 1) := by decide +kernel
theorem dX3_endDay_65 : decode cX3_endDay 65 = .ok (.istore_n 1, 1) := by decide +kernel
theorem dX3_endDay_66 : decode cX3_endDay 66 = .ok (.aload_n 0, 1) := by decide +kernel
theorem dX3_endDay_67 : decode cX3_endDay 67 = .ok (.getfield 21, 3) := by decide +kernel
theorem dX3_endDay_70 : decode cX3_endDay 70 = .ok (.iload_n 2, 1) := by decide +kernel
theorem dX3_endDay_71 : decode cX3_endDay 71 = .ok (.iload 4, 2) := by decide +kernel
theorem dX3_endDay_73 : decode cX3_endDay 73 = .ok (.iastore, 1) := by decide +kernel
theorem dX3_endDay_74 : decode cX3_endDay 74 = .ok (.iinc 2 1, 3) := by decide +kernel
theorem dX3_endDay_77 : decode cX3_endDay 77 = .ok (.goto (-73), 3) := by decide +kernel
theorem dX3_endDay_80 : decode cX3_endDay 80 = .ok (.aload_n 0, 1) := by decide +kernel
theorem dX3_endDay_81 : decode cX3_endDay 81 = .ok (.getfield 33, 3) := by decide +kernel
theorem dX3_endDay_84 : decode cX3_endDay 84 = .ok (.iconst 0, 1) := by decide +kernel
theorem dX3_endDay_85 : decode cX3_endDay 85 = .ok (.aload_n 0, 1) := by decide +kernel
theorem dX3_endDay_86 : decode cX3_endDay 86 = .ok (.getfield 27, 3) := by decide +kernel
theorem dX3_endDay_89 : decode cX3_endDay 89 = .ok (.iconst 2, 1) := by decide +kernel
theorem dX3_endDay_90 : decode cX3_endDay 90 = .ok (.iaload, 1) := by decide +kernel
theorem dX3_endDay_91 : decode cX3_endDay 91 = .ok (.invokevirtual 142, 3) := by decide +kernel
theorem dX3_endDay_94 : decode cX3_endDay 94 = .ok (.aload_n 0, 1) := by decide +kernel
theorem dX3_endDay_95 : decode cX3_endDay 95 = .ok (.getfield 33, 3) := by decide +kernel
theorem dX3_endDay_98 : decode cX3_endDay 98 = .ok (.invokevirtual 146, 3) := by decide +kernel
theorem dX3_endDay_101 : decode cX3_endDay 101 = .ok (.aload_n 0, 1) := by decide +kernel
theorem dX3_endDay_102 : decode cX3_endDay 102 = .ok (.dup, 1) := by decide +kernel
theorem dX3_endDay_103 : decode cX3_endDay 103 = .ok (.getfield 51, 3) := by decide +kernel
theorem dX3_endDay_106 : decode cX3_endDay 106 = .ok (.iconst 1, 1) := by decide +kernel
theorem dX3_endDay_107 : decode cX3_endDay 107 = .ok (.iadd, 1) := by decide +kernel
theorem dX3_endDay_108 : decode cX3_endDay 108 = .ok (.putfield 51, 3) := by decide +kernel
theorem dX3_endDay_111 : decode cX3_endDay 111 = .ok (.iload_n 1, 1) := by decide +kernel
theorem dX3_endDay_112 : decode cX3_endDay 112 = .ok (.ireturn, 1) := by decide +kernel
theorem dX3_whoCannotBegin_0 : decode cX3_whoCannotBegin 0 = .ok (.iconst 0, 1) := by decide +kernel
theorem dX3_whoCannotBegin_1 : decode cX3_whoCannotBegin 1 = .ok (.istore_n 1, 1) := by decide +kernel
theorem dX3_whoCannotBegin_2 : decode cX3_whoCannotBegin 2 = .ok (.iconst 0, 1) := by decide +kernel
theorem dX3_whoCannotBegin_3 : decode cX3_whoCannotBegin 3 = .ok (.istore_n 2, 1) := by decide +kernel
theorem dX3_whoCannotBegin_4 : decode cX3_whoCannotBegin 4 = .ok (.iload_n 2, 1) := by decide +kernel
theorem dX3_whoCannotBegin_5 : decode cX3_whoCannotBegin 5 = .ok (.aload_n 0, 1) := by decide +kernel
theorem dX3_whoCannotBegin_6 : decode cX3_whoCannotBegin 6 = .ok (.getfield 47, 3) := by decide +kernel
theorem dX3_whoCannotBegin_9 : decode cX3_whoCannotBegin 9 = .ok (.if_icmp .ge 59, 3) := by decide +kernel
theorem dX3_whoCannotBegin_12 : decode cX3_whoCannotBegin 12 = .ok (.aload_n 0, 1) := by decide +kernel
theorem dX3_whoCannotBegin_13 : decode cX3_whoCannotBegin 13 = .ok (.getfield 24, 3) := by decide +kernel
theorem dX3_whoCannotBegin_16 : decode cX3_whoCannotBegin 16 = .ok (.iload_n 2, 1) := by decide +kernel
theorem dX3_whoCannotBegin_17 : decode cX3_whoCannotBegin 17 = .ok (.iaload, 1) := by decide +kernel
theorem dX3_whoCannotBegin_18 : decode cX3_whoCannotBegin 18 = .ok (.ifCond .eq 11, 3) := by decide +kernel
theorem dX3_whoCannotBegin_21 : decode cX3_whoCannotBegin 21 = .ok (.aload_n 0, 1) := by decide +kernel
theorem dX3_whoCannotBegin_22 : decode cX3_whoCannotBegin 22 = .ok (.iload_n 2, 1) := by decide +kernel
theorem dX3_whoCannotBegin_23 : decode cX3_whoCannotBegin 23 = .ok (.invokevirtual 139, 3) := by decide +kernel
theorem dX3_whoCannotBegin_26 : decode cX3_whoCannotBegin 26 = .ok (.ifCond .ne 7, 3) := by decide +kernel
theorem dX3_whoCannotBegin_29 : decode cX3_whoCannotBegin 29 = .ok (.iconst 1, 1) := by decide +kernel
theorem dX3_whoCannotBegin_30 : decode cX3_whoCannotBegin 30 = .ok (.goto 4, 3) := by decide +kernel
theorem dX3_whoCannotBegin_33 : decode cX3_whoCannotBegin 33 = .ok (.iconst 0, 1) := by decide +kernel
theorem dX3_whoCannotBegin_34 : decode cX3_whoCannotBegin 34 = .ok (.istore_n 3, 1) := by decide +kernel
theorem dX3_whoCannotBegin_35 : decode cX3_whoCannotBegin 35 = .ok (.aload_n 0, 1) := by decide +kernel
theorem dX3_whoCannotBegin_36 : decode cX3_whoCannotBegin 36 = .ok (.getfield 21, 3) := by decide +kernel
theorem dX3_whoCannotBegin_39 : decode cX3_whoCannotBegin 39 = .ok (.iload_n 2, 1) := by decide +kernel
theorem dX3_whoCannotBegin_40 : decode cX3_whoCannotBegin 40 = .ok (.iaload, 1) := by decide +kernel
theorem dX3_whoCannotBegin_41 : decode cX3_whoCannotBegin 41 = .ok (.ifCond .ne 21, 3) := by decide +kernel
theorem dX3_whoCannotBegin_44 : decode cX3_whoCannotBegin 44 = .ok (.iload_n 3, 1) := by decide +kernel
theorem dX3_whoCannotBegin_45 : decode cX3_whoCannotBegin 45 = .ok (.ifCond .eq 17, 3) := by decide +kernel
theorem dX3_whoCannotBegin_48 : decode cX3_whoCannotBegin 48 = .ok (.aload_n 0, 1) := by decide +kernel
theorem dX3_whoCannotBegin_49 : decode cX3_whoCannotBegin 49 = .ok (.iload_n 2, 1) := by decide +kernel
theorem dX3_whoCannotBegin_50 : decode cX3_whoCannotBegin 50 = .ok (.invokevirtual 149, 3) := by decide +kernel
theorem dX3_whoCannotBegin_53 : decode cX3_whoCannotBegin 53 = .ok (.ifCond .ne 9, 3) := by decide +kernel
theorem dX3_whoCannotBegin_56 : decode cX3_whoCannotBegin 56 = .ok (.iload_n 1, 1) := by decide +kernel
theorem dX3_whoCannotBegin_57 : decode cX3_whoCannotBegin 57 = .ok (.iconst 1, 1) := by decide +kernel
theorem dX3_whoCannotBegin_58 : decode cX3_whoCannotBegin 58 = .ok (.iload_n 2, 1) := by decide +kernel
theorem dX3_whoCannotBegin_59 : decode cX3_whoCannotBegin 59 = .ok (.ishl, 1) := by decide +kernel
theorem dX3_whoCannotBegin_60 : decode cX3_whoCannotBegin 60 = .ok (.ior, 1) := by decide +kernel
theorem dX3_whoCannotBegin_61 : decode cX3_whoCannotBegin 61 = .ok (.istore_n 1, 1) := by decide +kernel
theorem dX3_whoCannotBegin_62 : decode cX3_whoCannotBegin 62 = .ok (.iinc 2 1, 3) := by decide +kernel
theorem dX3_whoCannotBegin_65 : decode cX3_whoCannotBegin 65 = .ok (.goto (-61), 3) := by decide +kernel
theorem dX3_whoCannotBegin_68 : decode cX3_whoCannotBegin 68 = .ok (.iload_n 1, 1) := by decide +kernel
theorem dX3_whoCannotBegin_69 : decode cX3_whoCannotBegin 69 = .ok (.ireturn, 1) := by decide +kernel
theorem dX3_isSomebodysTaker_0 : decode cX3_isSomebodysTaker 0 = .ok (.iconst 0, 1) := by decide +kernel
theorem dX3_isSomebodysTaker_1 : decode cX3_isSomebodysTaker 1 = .ok (.istore_n 2, 1) := by decide +kernel
theorem dX3_isSomebodysTaker_2 : decode cX3_isSomebodysTaker 2 = .ok (.iload_n 2, 1) := by decide +kernel
theorem dX3_isSomebodysTaker_3 : decode cX3_isSomebodysTaker 3 = .ok (.aload_n 0, 1) := by decide +kernel
theorem dX3_isSomebodysTaker_4 : decode cX3_isSomebodysTaker 4 = .ok (.getfield 47, 3) := by decide +kernel
theorem dX3_isSomebodysTaker_7 : decode cX3_isSomebodysTaker 7 = .ok (.if_icmp .ge 55, 3) := by decide +kernel
theorem dX3_isSomebodysTaker_10 : decode cX3_isSomebodysTaker 10 = .ok (.aload_n 0, 1) := by decide +kernel
theorem dX3_isSomebodysTaker_11 : decode cX3_isSomebodysTaker 11 = .ok (.getfield 9, 3) := by decide +kernel
theorem dX3_isSomebodysTaker_14 : decode cX3_isSomebodysTaker 14 = .ok (.iload_n 2, 1) := by decide +kernel
theorem dX3_isSomebodysTaker_15 : decode cX3_isSomebodysTaker 15 = .ok (.iaload, 1) := by decide +kernel
theorem dX3_isSomebodysTaker_16 : decode cX3_isSomebodysTaker 16 = .ok (.iconst 4, 1) := by decide +kernel
theorem dX3_isSomebodysTaker_17 : decode cX3_isSomebodysTaker 17 = .ok (.if_icmp .ne 11, 3) := by decide +kernel
theorem dX3_isSomebodysTaker_20 : decode cX3_isSomebodysTaker 20 = .ok (.aload_n 0, 1) := by decide +kernel
theorem dX3_isSomebodysTaker_21 : decode cX3_isSomebodysTaker 21 = .ok (.iload_n 2, 1) := by decide +kernel
theorem dX3_isSomebodysTaker_22 : decode cX3_isSomebodysTaker 22 = .ok (.invokevirtual 109, 3) := by decide +kernel
theorem dX3_isSomebodysTaker_25 : decode cX3_isSomebodysTaker 25 = .ok (.goto 9, 3) := by decide +kernel
theorem dX3_isSomebodysTaker_28 : decode cX3_isSomebodysTaker 28 = .ok (.aload_n 0, 1) := by decide +kernel
theorem dX3_isSomebodysTaker_29 : decode cX3_isSomebodysTaker 29 = .ok (.getfield 18, 3) := by decide +kernel
theorem dX3_isSomebodysTaker_32 : decode cX3_isSomebodysTaker 32 = .ok (.iload_n 2, 1) := by decide +kernel
theorem dX3_isSomebodysTaker_33 : decode cX3_isSomebodysTaker 33 = .ok (.iaload, 1) := by decide +kernel
theorem dX3_isSomebodysTaker_34 : decode cX3_isSomebodysTaker 34 = .ok (.istore_n 3, 1) := by decide +kernel
theorem dX3_isSomebodysTaker_35 : decode cX3_isSomebodysTaker 35 = .ok (.iload_n 2, 1) := by decide +kernel
theorem dX3_isSomebodysTaker_36 : decode cX3_isSomebodysTaker 36 = .ok (.iload_n 1, 1) := by decide +kernel
theorem dX3_isSomebodysTaker_37 : decode cX3_isSomebodysTaker 37 = .ok (.if_icmp .eq 19, 3) := by decide +kernel
theorem dX3_isSomebodysTaker_40 : decode cX3_isSomebodysTaker 40 = .ok (.aload_n 0, 1) := by decide +kernel
theorem dX3_isSomebodysTaker_41 : decode cX3_isSomebodysTaker 41 = .ok (.getfield 21, 3) := by decide +kernel
theorem dX3_isSomebodysTaker_44 : decode cX3_isSomebodysTaker 44 = .ok (.iload_n 2, 1) := by decide +kernel
theorem dX3_isSomebodysTaker_45 : decode cX3_isSomebodysTaker 45 = .ok (.iaload, 1) := by decide +kernel
theorem dX3_isSomebodysTaker_46 : decode cX3_isSomebodysTaker 46 = .ok (.ifCond .le 10, 3) := by decide +kernel
theorem dX3_isSomebodysTaker_49 : decode cX3_isSomebodysTaker 49 = .ok (.iload_n 3, 1) := by decide +kernel
theorem dX3_isSomebodysTaker_50 : decode cX3_isSomebodysTaker 50 = .ok (.iload_n 1, 1) := by decide +kernel
theorem dX3_isSomebodysTaker_51 : decode cX3_isSomebodysTaker 51 = .ok (.if_icmp .ne 5, 3) := by decide +kernel
theorem dX3_isSomebodysTaker_54 : decode cX3_isSomebodysTaker 54 = .ok (.iconst 1, 1) := by decide +kernel
theorem dX3_isSomebodysTaker_55 : decode cX3_isSomebodysTaker 55 = .ok (.ireturn, 1) := by decide +kernel
theorem dX3_isSomebodysTaker_56 : decode cX3_isSomebodysTaker 56 = .ok (.iinc 2 1, 3) := by decide +kernel
theorem dX3_isSomebodysTaker_59 : decode cX3_isSomebodysTaker 59 = .ok (.goto (-57), 3) := by decide +kernel
theorem dX3_isSomebodysTaker_62 : decode cX3_isSomebodysTaker 62 = .ok (.iconst 0, 1) := by decide +kernel
theorem dX3_isSomebodysTaker_63 : decode cX3_isSomebodysTaker 63 = .ok (.ireturn, 1) := by decide +kernel
theorem dX3_find_0 : decode cX3_find 0 = .ok (.aload_n 0, 1) := by decide +kernel
theorem dX3_find_1 : decode cX3_find 1 = .ok (.iload_n 1, 1) := by decide +kernel
theorem dX3_find_2 : decode cX3_find 2 = .ok (.invokevirtual 118, 3) := by decide +kernel
theorem dX3_find_5 : decode cX3_find 5 = .ok (.ifCond .eq 23, 3) := by decide +kernel
theorem dX3_find_8 : decode cX3_find 8 = .ok (.aload_n 0, 1) := by decide +kernel
theorem dX3_find_9 : decode cX3_find 9 = .ok (.getfield 21, 3) := by decide +kernel
theorem dX3_find_12 : decode cX3_find 12 = .ok (.iload_n 1, 1) := by decide +kernel
theorem dX3_find_13 : decode cX3_find 13 = .ok (.sipush 9999, 3) := by decide +kernel
theorem dX3_find_16 : decode cX3_find 16 = .ok (.aload_n 0, 1) := by decide +kernel
theorem dX3_find_17 : decode cX3_find 17 = .ok (.getfield 21, 3) := by decide +kernel
theorem dX3_find_20 : decode cX3_find 20 = .ok (.iload_n 1, 1) := by decide +kernel
theorem dX3_find_21 : decode cX3_find 21 = .ok (.iaload, 1) := by decide +kernel
theorem dX3_find_22 : decode cX3_find 22 = .ok (.iload_n 2, 1) := by decide +kernel
theorem dX3_find_23 : decode cX3_find 23 = .ok (.iadd, 1) := by decide +kernel
theorem dX3_find_24 : decode cX3_find 24 = .ok (.invokestatic 91, 3) := by decide +kernel
theorem dX3_find_27 : decode cX3_find 27 = .ok (.iastore, 1) := by decide +kernel
theorem dX3_find_28 : decode cX3_find 28 = .ok (.return_, 1) := by decide +kernel
theorem dX4_init_0 : decode cX4_init 0 = .ok (.aload_n 0, 1) := by decide +kernel
theorem dX4_init_1 : decode cX4_init 1 = .ok (.invokespecial 1, 3) := by decide +kernel
theorem dX4_init_4 : decode cX4_init 4 = .ok (.aload_n 0, 1) := by decide +kernel
theorem dX4_init_5 : decode cX4_init 5 = .ok (.new 7, 3) := by decide +kernel
theorem dX4_init_8 : decode cX4_init 8 = .ok (.dup, 1) := by decide +kernel
theorem dX4_init_9 : decode cX4_init 9 = .ok (.invokespecial 9, 3) := by decide +kernel
theorem dX4_init_12 : decode cX4_init 12 = .ok (.putfield 10, 3) := by decide +kernel
theorem dX4_init_15 : decode cX4_init 15 = .ok (.aload_n 0, 1) := by decide +kernel
theorem dX4_init_16 : decode cX4_init 16 = .ok (.new 7, 3) := by decide +kernel
theorem dX4_init_19 : decode cX4_init 19 = .ok (.dup, 1) := by decide +kernel
theorem dX4_init_20 : decode cX4_init 20 = .ok (.invokespecial 9, 3) := by decide +kernel
theorem dX4_init_23 : decode cX4_init 23 = .ok (.putfield 16, 3) := by decide +kernel
theorem dX4_init_26 : decode cX4_init 26 = .ok (.aload_n 0, 1) := by decide +kernel
theorem dX4_init_27 : decode cX4_init 27 = .ok (.new 7, 3) := by decide +kernel
theorem dX4_init_30 : decode cX4_init 30 = .ok (.dup, 1) := by decide +kernel
theorem dX4_init_31 : decode cX4_init 31 = .ok (.invokespecial 9, 3) := by decide +kernel
theorem dX4_init_34 : decode cX4_init 34 = .ok (.putfield 19, 3) := by decide +kernel
theorem dX4_init_37 : decode cX4_init 37 = .ok (.aload_n 0, 1) := by decide +kernel
theorem dX4_init_38 : decode cX4_init 38 = .ok (.new 22, 3) := by decide +kernel
theorem dX4_init_41 : decode cX4_init 41 = .ok (.dup, 1) := by decide +kernel
theorem dX4_init_42 : decode cX4_init 42 = .ok (.invokespecial 24, 3) := by decide +kernel
theorem dX4_init_45 : decode cX4_init 45 = .ok (.putfield 25, 3) := by decide +kernel
theorem dX4_init_48 : decode cX4_init 48 = .ok (.aload_n 0, 1) := by decide +kernel
theorem dX4_init_49 : decode cX4_init 49 = .ok (.new 29, 3) := by decide +kernel
theorem dX4_init_52 : decode cX4_init 52 = .ok (.dup, 1) := by decide +kernel
theorem dX4_init_53 : decode cX4_init 53 = .ok (.invokespecial 31, 3) := by decide +kernel
theorem dX4_init_56 : decode cX4_init 56 = .ok (.putfield 32, 3) := by decide +kernel
theorem dX4_init_59 : decode cX4_init 59 = .ok (.aload_n 0, 1) := by decide +kernel
theorem dX4_init_60 : decode cX4_init 60 = .ok (.bipush 6, 2) := by decide +kernel
theorem dX4_init_62 : decode cX4_init 62 = .ok (.newarray .int, 2) := by decide +kernel
theorem dX4_init_64 : decode cX4_init 64 = .ok (.putfield 36, 3) := by decide +kernel
theorem dX4_init_67 : decode cX4_init 67 = .ok (.aload_n 0, 1) := by decide +kernel
theorem dX4_init_68 : decode cX4_init 68 = .ok (.bipush 12, 2) := by decide +kernel
theorem dX4_init_70 : decode cX4_init 70 = .ok (.newarray .int, 2) := by decide +kernel
theorem dX4_init_72 : decode cX4_init 72 = .ok (.putfield 40, 3) := by decide +kernel
theorem dX4_init_75 : decode cX4_init 75 = .ok (.aload_n 0, 1) := by decide +kernel
theorem dX4_init_76 : decode cX4_init 76 = .ok (.bipush 7, 2) := by decide +kernel
theorem dX4_init_78 : decode cX4_init 78 = .ok (.newarray .int, 2) := by decide +kernel
theorem dX4_init_80 : decode cX4_init 80 = .ok (.putfield 43, 3) := by decide +kernel
theorem dX4_init_83 : decode cX4_init 83 = .ok (.return_, 1) := by decide +kernel
theorem dX4_feed_0 : decode cX4_feed 0 = .ok (.iload_n 1, 1) := by decide +kernel
theorem dX4_feed_1 : decode cX4_feed 1 = .ok (.ifCond .ge 10, 3) := by decide +kernel
theorem dX4_feed_4 : decode cX4_feed 4 = .ok (.aload_n 0, 1) := by decide +kernel
theorem dX4_feed_5 : decode cX4_feed 5 = .ok (.bipush (-4), 2) := by decide +kernel
theorem dX4_feed_7 : decode cX4_feed 7 = .ok (.invokevirtual 46, 3) := by decide +kernel
theorem dX4_feed_10 : decode cX4_feed 10 = .ok (.ireturn, 1) := by decide +kernel
theorem dX4_feed_11 : decode cX4_feed 11 = .ok (.iload_n 1, 1) := by decide +kernel
theorem dX4_feed_12 : decode cX4_feed 12 = .ok (.sipush 255, 3) := by decide +kernel
theorem dX4_feed_15 : decode cX4_feed 15 = .ok (.if_icmp .gt 13, 3) := by decide +kernel
theorem dX4_feed_18 : decode cX4_feed 18 = .ok (.aload_n 0, 1) := by decide +kernel
theorem dX4_feed_19 : decode cX4_feed 19 = .ok (.getfield 32, 3) := by decide +kernel
theorem dX4_feed_22 : decode cX4_feed 22 = .ok (.invokevirtual 50, 3) := by decide +kernel
theorem dX4_feed_25 : decode cX4_feed 25 = .ok (.ifCond .eq 10, 3) := by decide +kernel
theorem dX4_feed_28 : decode cX4_feed 28 = .ok (.aload_n 0, 1) := by decide +kernel
theorem dX4_feed_29 : decode cX4_feed 29 = .ok (.bipush (-6), 2) := by decide +kernel
theorem dX4_feed_31 : decode cX4_feed 31 = .ok (.invokevirtual 46, 3) := by decide +kernel
theorem dX4_feed_34 : decode cX4_feed 34 = .ok (.ireturn, 1) := by decide +kernel
theorem dX4_feed_35 : decode cX4_feed 35 = .ok (.aload_n 0, 1) := by decide +kernel
theorem dX4_feed_36 : decode cX4_feed 36 = .ok (.getfield 32, 3) := by decide +kernel
theorem dX4_feed_39 : decode cX4_feed 39 = .ok (.iload_n 1, 1) := by decide +kernel
theorem dX4_feed_40 : decode cX4_feed 40 = .ok (.invokevirtual 54, 3) := by decide +kernel
theorem dX4_feed_43 : decode cX4_feed 43 = .ok (.ireturn, 1) := by decide +kernel
theorem dX4_land_0 : decode cX4_land 0 = .ok (.aload_n 0, 1) := by decide +kernel
theorem dX4_land_1 : decode cX4_land 1 = .ok (.invokevirtual 57, 3) := by decide +kernel
theorem dX4_land_4 : decode cX4_land 4 = .ok (.istore_n 1, 1) := by decide +kernel
theorem dX4_land_5 : decode cX4_land 5 = .ok (.aload_n 0, 1) := by decide +kernel
theorem dX4_land_6 : decode cX4_land 6 = .ok (.getfield 32, 3) := by decide +kernel
theorem dX4_land_9 : decode cX4_land 9 = .ok (.invokevirtual 61, 3) := by decide +kernel
theorem dX4_land_12 : decode cX4_land 12 = .ok (.iload_n 1, 1) := by decide +kernel
theorem dX4_land_13 : decode cX4_land 13 = .ok (.ireturn, 1) := by decide +kernel
theorem dX4_person_0 : decode cX4_person 0 = .ok (.aload_n 0, 1) := by decide +kernel
theorem dX4_person_1 : decode cX4_person 1 = .ok (.getfield 10, 3) := by decide +kernel
theorem dX4_person_4 : decode cX4_person 4 = .ok (.iload_n 1, 1) := by decide +kernel
theorem dX4_person_5 : decode cX4_person 5 = .ok (.invokevirtual 64, 3) := by decide +kernel
theorem dX4_person_8 : decode cX4_person 8 = .ok (.ifCond .ne 9, 3) := by decide +kernel
theorem dX4_person_11 : decode cX4_person 11 = .ok (.aload_n 0, 1) := by decide +kernel
theorem dX4_person_12 : decode cX4_person 12 = .ok (.iconst (-1), 1) := by decide +kernel
theorem dX4_person_13 : decode cX4_person 13 = .ok (.invokevirtual 46, 3) := by decide +kernel
theorem dX4_person_16 : decode cX4_person 16 = .ok (.ireturn, 1) := by decide +kernel
theorem dX4_person_17 : decode cX4_person 17 = .ok (.iload_n 2, 1) := by decide +kernel
theorem dX4_person_18 : decode cX4_person 18 = .ok (.tableswitch 145 0 8 #[50, 60, 70, 80, 90, 100, 112, 121, 133], 50) := by decide +kernel
theorem dX4_person_68 : decode cX4_person 68 = .ok (.aload_n 0, 1) := by decide +kernel
theorem dX4_person_69 : decode cX4_person 69 = .ok (.getfield 10, 3) := by decide +kernel
theorem dX4_person_72 : decode cX4_person 72 = .ok (.getfield 68, 3) := by decide +kernel
theorem dX4_person_75 : decode cX4_person 75 = .ok (.iload_n 1, 1) := by decide +kernel
theorem dX4_person_76 : decode cX4_person 76 = .ok (.iaload, 1) := by decide +kernel
theorem dX4_person_77 : decode cX4_person 77 = .ok (.ireturn, 1) := by decide +kernel
theorem dX4_person_78 : decode cX4_person 78 = .ok (.aload_n 0, 1) := by decide +kernel
theorem dX4_person_79 : decode cX4_person 79 = .ok (.getfield 10, 3) := by decide +kernel
theorem dX4_person_82 : decode cX4_person 82 = .ok (.getfield 71, 3) := by decide +kernel
theorem dX4_person_85 : decode cX4_person 85 = .ok (.iload_n 1, 1) := by decide +kernel
theorem dX4_person_86 : decode cX4_person 86 = .ok (.iaload, 1) := by decide +kernel
theorem dX4_person_87 : decode cX4_person 87 = .ok (.ireturn, 1) := by decide +kernel
theorem dX4_person_88 : decode cX4_person 88 = .ok (.aload_n 0, 1) := by decide +kernel
theorem dX4_person_89 : decode cX4_person 89 = .ok (.getfield 10, 3) := by decide +kernel
theorem dX4_person_92 : decode cX4_person 92 = .ok (.getfield 74, 3) := by decide +kernel
theorem dX4_person_95 : decode cX4_person 95 = .ok (.iload_n 1, 1) := by decide +kernel
theorem dX4_person_96 : decode cX4_person 96 = .ok (.iaload, 1) := by decide +kernel
theorem dX4_person_97 : decode cX4_person 97 = .ok (.ireturn, 1) := by decide +kernel
theorem dX4_person_98 : decode cX4_person 98 = .ok (.aload_n 0, 1) := by decide +kernel
theorem dX4_person_99 : decode cX4_person 99 = .ok (.getfield 10, 3) := by decide +kernel
theorem dX4_person_102 : decode cX4_person 102 = .ok (.getfield 77, 3) := by decide +kernel
theorem dX4_person_105 : decode cX4_person 105 = .ok (.iload_n 1, 1) := by decide +kernel
theorem dX4_person_106 : decode cX4_person 106 = .ok (.iaload, 1) := by decide +kernel
theorem dX4_person_107 : decode cX4_person 107 = .ok (.ireturn, 1) := by decide +kernel
theorem dX4_person_108 : decode cX4_person 108 = .ok (.aload_n 0, 1) := by decide +kernel
theorem dX4_person_109 : decode cX4_person 109 = .ok (.getfield 10, 3) := by decide +kernel
theorem dX4_person_112 : decode cX4_person 112 = .ok (.getfield 80, 3) := by decide +kernel
theorem dX4_person_115 : decode cX4_person 115 = .ok (.iload_n 1, 1) := by decide +kernel
theorem dX4_person_116 : decode cX4_person 116 = .ok (.iaload, 1) := by decide +kernel
theorem dX4_person_117 : decode cX4_person 117 = .ok (.ireturn, 1) := by decide +kernel
theorem dX4_person_118 : decode cX4_person 118 = .ok (.aload_n 0, 1) := by decide +kernel
theorem dX4_person_119 : decode cX4_person 119 = .ok (.getfield 10, 3) := by decide +kernel
theorem dX4_person_122 : decode cX4_person 122 = .ok (.getfield 83, 3) := by decide +kernel
theorem dX4_person_125 : decode cX4_person 125 = .ok (.iload_n 1, 1) := by decide +kernel
theorem dX4_person_126 : decode cX4_person 126 = .ok (.invokevirtual 87, 3) := by decide +kernel
theorem dX4_person_129 : decode cX4_person 129 = .ok (.ireturn, 1) := by decide +kernel
theorem dX4_person_130 : decode cX4_person 130 = .ok (.aload_n 0, 1) := by decide +kernel
theorem dX4_person_131 : decode cX4_person 131 = .ok (.getfield 10, 3) := by decide +kernel
theorem dX4_person_134 : decode cX4_person 134 = .ok (.iload_n 1, 1) := by decide +kernel
theorem dX4_person_135 : decode cX4_person 135 = .ok (.invokevirtual 92, 3) := by decide +kernel
theorem dX4_person_138 : decode cX4_person 138 = .ok (.ireturn, 1) := by decide +kernel
theorem dX4_person_139 : decode cX4_person 139 = .ok (.aload_n 0, 1) := by decide +kernel
theorem dX4_person_140 : decode cX4_person 140 = .ok (.getfield 10, 3) := by decide +kernel
theorem dX4_person_143 : decode cX4_person 143 = .ok (.getfield 83, 3) := by decide +kernel
theorem dX4_person_146 : decode cX4_person 146 = .ok (.iload_n 1, 1) := by decide +kernel
theorem dX4_person_147 : decode cX4_person 147 = .ok (.invokevirtual 95, 3) := by decide +kernel
theorem dX4_person_150 : decode cX4_person 150 = .ok (.ireturn, 1) := by decide +kernel
theorem dX4_person_151 : decode cX4_person 151 = .ok (.aload_n 0, 1) := by decide +kernel
theorem dX4_person_152 : decode cX4_person 152 = .ok (.getfield 10, 3) := by decide +kernel
theorem dX4_person_155 : decode cX4_person 155 = .ok (.getfield 83, 3) := by decide +kernel
theorem dX4_person_158 : decode cX4_person 158 = .ok (.iload_n 1, 1) := by decide +kernel
theorem dX4_person_159 : decode cX4_person 159 = .ok (.invokevirtual 98, 3) := by decide +kernel
theorem dX4_person_162 : decode cX4_person 162 = .ok (.ireturn, 1) := by decide +kernel
theorem dX4_person_163 : decode cX4_person 163 = .ok (.aload_n 0, 1) := by decide +kernel
theorem dX4_person_164 : decode cX4_person 164 = .ok (.bipush (-2), 2) := by decide +kernel
theorem dX4_person_166 : decode cX4_person 166 = .ok (.invokevirtual 46, 3) := by decide +kernel
theorem dX4_person_169 : decode cX4_person 169 = .ok (.ireturn, 1) := by decide +kernel
theorem dX4_put_0 : decode cX4_put 0 = .ok (.aload_n 0, 1) := by decide +kernel
theorem dX4_put_1 : decode cX4_put 1 = .ok (.iload_n 1, 1) := by decide +kernel
theorem dX4_put_2 : decode cX4_put 2 = .ok (.iload_n 2, 1) := by decide +kernel
theorem dX4_put_3 : decode cX4_put 3 = .ok (.iload_n 3, 1) := by decide +kernel
theorem dX4_put_4 : decode cX4_put 4 = .ok (.invokevirtual 101, 3) := by decide +kernel
theorem dX4_put_7 : decode cX4_put 7 = .ok (.istore 4, 2) := by decide +kernel
theorem dX4_put_9 : decode cX4_put 9 = .ok (.iload 4, 2) := by decide +kernel
theorem dX4_put_11 : decode cX4_put 11 = .ok (.ifCond .eq 10, 3) := by decide +kernel
theorem dX4_put_14 : decode cX4_put 14 = .ok (.aload_n 0, 1) := by decide +kernel
theorem dX4_put_15 : decode cX4_put 15 = .ok (.iload 4, 2) := by decide +kernel
theorem dX4_put_17 : decode cX4_put 17 = .ok (.invokevirtual 46, 3) := by decide +kernel
theorem dX4_put_20 : decode cX4_put 20 = .ok (.ireturn, 1) := by decide +kernel
theorem dX4_put_21 : decode cX4_put 21 = .ok (.iload_n 2, 1) := by decide +kernel
theorem dX4_put_22 : decode cX4_put 22 = .ok (.ifCond .ne 13, 3) := by decide +kernel
theorem dX4_put_25 : decode cX4_put 25 = .ok (.aload_n 0, 1) := by decide +kernel
theorem dX4_put_26 : decode cX4_put 26 = .ok (.getfield 10, 3) := by decide +kernel
theorem dX4_put_29 : decode cX4_put 29 = .ok (.getfield 77, 3) := by decide +kernel
theorem dX4_put_32 : decode cX4_put 32 = .ok (.goto 25, 3) := by decide +kernel
theorem dX4_put_35 : decode cX4_put 35 = .ok (.iload_n 2, 1) := by decide +kernel
theorem dX4_put_36 : decode cX4_put 36 = .ok (.iconst 1, 1) := by decide +kernel
theorem dX4_put_37 : decode cX4_put 37 = .ok (.if_icmp .ne 13, 3) := by decide +kernel
theorem dX4_put_40 : decode cX4_put 40 = .ok (.aload_n 0, 1) := by decide +kernel
theorem dX4_put_41 : decode cX4_put 41 = .ok (.getfield 10, 3) := by decide +kernel
theorem dX4_put_44 : decode cX4_put 44 = .ok (.getfield 80, 3) := by decide +kernel
theorem dX4_put_47 : decode cX4_put 47 = .ok (.goto 10, 3) := by decide +kernel
theorem dX4_put_50 : decode cX4_put 50 = .ok (.aload_n 0, 1) := by decide +kernel
theorem dX4_put_51 : decode cX4_put 51 = .ok (.getfield 10, 3) := by decide +kernel
theorem dX4_put_54 : decode cX4_put 54 = .ok (.getfield 74, 3) := by decide +kernel
theorem dX4_put_57 : decode cX4_put 57 = .ok (.astore 5, 2) := by decide +kernel
theorem dX4_put_59 : decode cX4_put 59 = .ok (.aload 5, 2) := by decide +kernel
theorem dX4_put_61 : decode cX4_put 61 = .ok (.iload_n 1, 1) := by decide +kernel
theorem dX4_put_62 : decode cX4_put 62 = .ok (.iaload, 1) := by decide +kernel
theorem dX4_put_63 : decode cX4_put 63 = .ok (.istore 6, 2) := by decide +kernel
theorem dX4_put_65 : decode cX4_put 65 = .ok (.aload 5, 2) := by decide +kernel
theorem dX4_put_67 : decode cX4_put 67 = .ok (.iload_n 1, 1) := by decide +kernel
theorem dX4_put_68 : decode cX4_put 68 = .ok (.iload_n 3, 1) := by decide +kernel
theorem dX4_put_69 : decode cX4_put 69 = .ok (.iastore, 1) := by decide +kernel
theorem dX4_put_70 : decode cX4_put 70 = .ok (.iload 6, 2) := by decide +kernel
theorem dX4_put_72 : decode cX4_put 72 = .ok (.ireturn, 1) := by decide +kernel
theorem dX4_set_0 : decode cX4_set 0 = .ok (.iload_n 1, 1) := by decide +kernel
theorem dX4_set_1 : decode cX4_set 1 = .ok (.ifCond .lt 11, 3) := by decide +kernel
theorem dX4_set_4 : decode cX4_set 4 = .ok (.iload_n 1, 1) := by decide +kernel
theorem dX4_set_5 : decode cX4_set 5 = .ok (.getstatic 105, 3) := by decide +kernel
theorem dX4_set_8 : decode cX4_set 8 = .ok (.arraylength, 1) := by decide +kernel
theorem dX4_set_9 : decode cX4_set 9 = .ok (.if_icmp .lt 10, 3) := by decide +kernel
theorem dX4_set_12 : decode cX4_set 12 = .ok (.aload_n 0, 1) := by decide +kernel
theorem dX4_set_13 : decode cX4_set 13 = .ok (.bipush (-2), 2) := by decide +kernel
theorem dX4_set_15 : decode cX4_set 15 = .ok (.invokevirtual 46, 3) := by decide +kernel
theorem dX4_set_18 : decode cX4_set 18 = .ok (.ireturn, 1) := by decide +kernel
theorem dX4_set_19 : decode cX4_set 19 = .ok (.iload_n 2, 1) := by decide +kernel
theorem dX4_set_20 : decode cX4_set 20 = .ok (.getstatic 105, 3) := by decide +kernel
theorem dX4_set_23 : decode cX4_set 23 = .ok (.iload_n 1, 1) := by decide +kernel
theorem dX4_set_24 : decode cX4_set 24 = .ok (.iaload, 1) := by decide +kernel
theorem dX4_set_25 : decode cX4_set 25 = .ok (.getstatic 108, 3) := by decide +kernel
theorem dX4_set_28 : decode cX4_set 28 = .ok (.iload_n 1, 1) := by decide +kernel
theorem dX4_set_29 : decode cX4_set 29 = .ok (.iaload, 1) := by decide +kernel
theorem dX4_set_30 : decode cX4_set 30 = .ok (.invokestatic 111, 3) := by decide +kernel
theorem dX4_set_33 : decode cX4_set 33 = .ok (.istore_n 3, 1) := by decide +kernel
theorem dX4_set_34 : decode cX4_set 34 = .ok (.iload_n 3, 1) := by decide +kernel
theorem dX4_set_35 : decode cX4_set 35 = .ok (.ifCond .eq 9, 3) := by decide +kernel
theorem dX4_set_38 : decode cX4_set 38 = .ok (.aload_n 0, 1) := by decide +kernel
theorem dX4_set_39 : decode cX4_set 39 = .ok (.iload_n 3, 1) := by decide +kernel
theorem dX4_set_40 : decode cX4_set 40 = .ok (.invokevirtual 46, 3) := by decide +kernel
theorem dX4_set_43 : decode cX4_set 43 = .ok (.ireturn, 1) := by decide +kernel
theorem dX4_set_44 : decode cX4_set 44 = .ok (.aload_n 0, 1) := by decide +kernel
theorem dX4_set_45 : decode cX4_set 45 = .ok (.getfield 10, 3) := by decide +kernel
theorem dX4_set_48 : decode cX4_set 48 = .ok (.iload_n 1, 1) := by decide +kernel
theorem dX4_set_49 : decode cX4_set 49 = .ok (.iload_n 2, 1) := by decide +kernel
theorem dX4_set_50 : decode cX4_set 50 = .ok (.invokevirtual 114, 3) := by decide +kernel
theorem dX4_set_53 : decode cX4_set 53 = .ok (.ireturn, 1) := by decide +kernel
theorem dX4_give_0 : decode cX4_give 0 = .ok (.aload_n 0, 1) := by decide +kernel
theorem dX4_give_1 : decode cX4_give 1 = .ok (.getfield 10, 3) := by decide +kernel
theorem dX4_give_4 : decode cX4_give 4 = .ok (.iload_n 1, 1) := by decide +kernel
theorem dX4_give_5 : decode cX4_give 5 = .ok (.iload_n 2, 1) := by decide +kernel
theorem dX4_give_6 : decode cX4_give 6 = .ok (.iload_n 3, 1) := by decide +kernel
theorem dX4_give_7 : decode cX4_give 7 = .ok (.invokevirtual 118, 3) := by decide +kernel
theorem dX4_give_10 : decode cX4_give 10 = .ok (.istore 4, 2) := by decide +kernel
theorem dX4_give_12 : decode cX4_give 12 = .ok (.iload 4, 2) := by decide +kernel
theorem dX4_give_14 : decode cX4_give 14 = .ok (.ifCond .eq 10, 3) := by decide +kernel
theorem dX4_give_17 : decode cX4_give 17 = .ok (.aload_n 0, 1) := by decide +kernel
theorem dX4_give_18 : decode cX4_give 18 = .ok (.iload 4, 2) := by decide +kernel
theorem dX4_give_20 : decode cX4_give 20 = .ok (.invokevirtual 46, 3) := by decide +kernel
theorem dX4_give_23 : decode cX4_give 23 = .ok (.ireturn, 1) := by decide +kernel
theorem dX4_give_24 : decode cX4_give 24 = .ok (.aload_n 0, 1) := by decide +kernel
theorem dX4_give_25 : decode cX4_give 25 = .ok (.getfield 10, 3) := by decide +kernel
theorem dX4_give_28 : decode cX4_give 28 = .ok (.iload_n 1, 1) := by decide +kernel
theorem dX4_give_29 : decode cX4_give 29 = .ok (.iload_n 2, 1) := by decide +kernel
theorem dX4_give_30 : decode cX4_give 30 = .ok (.iload_n 3, 1) := by decide +kernel
theorem dX4_give_31 : decode cX4_give 31 = .ok (.invokevirtual 121, 3) := by decide +kernel
theorem dX4_give_34 : decode cX4_give 34 = .ok (.aload_n 0, 1) := by decide +kernel
theorem dX4_give_35 : decode cX4_give 35 = .ok (.getfield 10, 3) := by decide +kernel
theorem dX4_give_38 : decode cX4_give 38 = .ok (.getfield 77, 3) := by decide +kernel
theorem dX4_give_41 : decode cX4_give 41 = .ok (.iload_n 1, 1) := by decide +kernel
theorem dX4_give_42 : decode cX4_give 42 = .ok (.iaload, 1) := by decide +kernel
theorem dX4_give_43 : decode cX4_give 43 = .ok (.ireturn, 1) := by decide +kernel
theorem dX4_evening_0 : decode cX4_evening 0 = .ok (.aload_n 0, 1) := by decide +kernel
theorem dX4_evening_1 : decode cX4_evening 1 = .ok (.getfield 10, 3) := by decide +kernel
theorem dX4_evening_4 : decode cX4_evening 4 = .ok (.getfield 125, 3) := by decide +kernel
theorem dX4_evening_7 : decode cX4_evening 7 = .ok (.sipush 999, 3) := by decide +kernel
theorem dX4_evening_10 : decode cX4_evening 10 = .ok (.if_icmp .lt 10, 3) := by decide +kernel
theorem dX4_evening_13 : decode cX4_evening 13 = .ok (.aload_n 0, 1) := by decide +kernel
theorem dX4_evening_14 : decode cX4_evening 14 = .ok (.bipush (-6), 2) := by decide +kernel
theorem dX4_evening_16 : decode cX4_evening 16 = .ok (.invokevirtual 46, 3) := by decide +kernel
theorem dX4_evening_19 : decode cX4_evening 19 = .ok (.ireturn, 1) := by decide +kernel
theorem dX4_evening_20 : decode cX4_evening 20 = .ok (.aload_n 0, 1) := by decide +kernel
theorem dX4_evening_21 : decode cX4_evening 21 = .ok (.getfield 10, 3) := by decide +kernel
theorem dX4_evening_24 : decode cX4_evening 24 = .ok (.invokevirtual 129, 3) := by decide +kernel
theorem dX4_evening_27 : decode cX4_evening 27 = .ok (.pop, 1) := by decide +kernel
theorem dX4_evening_28 : decode cX4_evening 28 = .ok (.aload_n 0, 1) := by decide +kernel
theorem dX4_evening_29 : decode cX4_evening 29 = .ok (.getfield 10, 3) := by decide +kernel
theorem dX4_evening_32 : decode cX4_evening 32 = .ok (.getfield 125, 3) := by decide +kernel
theorem dX4_evening_35 : decode cX4_evening 35 = .ok (.ireturn, 1) := by decide +kernel
theorem dX4_day_0 : decode cX4_day 0 = .ok (.aload_n 0, 1) := by decide +kernel
theorem dX4_day_1 : decode cX4_day 1 = .ok (.getfield 10, 3) := by decide +kernel
theorem dX4_day_4 : decode cX4_day 4 = .ok (.getfield 125, 3) := by decide +kernel
theorem dX4_day_7 : decode cX4_day 7 = .ok (.sipush 999, 3) := by decide +kernel
theorem dX4_day_10 : decode cX4_day 10 = .ok (.if_icmp .lt 10, 3) := by decide +kernel
theorem dX4_day_13 : decode cX4_day 13 = .ok (.aload_n 0, 1) := by decide +kernel
theorem dX4_day_14 : decode cX4_day 14 = .ok (.bipush (-6), 2) := by decide +kernel
theorem dX4_day_16 : decode cX4_day 16 = .ok (.invokevirtual 46, 3) := by decide +kernel
theorem dX4_day_19 : decode cX4_day 19 = .ok (.ireturn, 1) := by decide +kernel
theorem dX4_day_20 : decode cX4_day 20 = .ok (.aload_n 0, 1) := by decide +kernel
theorem dX4_day_21 : decode cX4_day 21 = .ok (.getfield 10, 3) := by decide +kernel
theorem dX4_day_24 : decode cX4_day 24 = .ok (.invokevirtual 132, 3) := by decide +kernel
theorem dX4_day_27 : decode cX4_day 27 = .ok (.pop, 1) := by decide +kernel
theorem dX4_day_28 : decode cX4_day 28 = .ok (.aload_n 0, 1) := by decide +kernel
theorem dX4_day_29 : decode cX4_day 29 = .ok (.getfield 10, 3) := by decide +kernel
theorem dX4_day_32 : decode cX4_day 32 = .ok (.getfield 125, 3) := by decide +kernel
theorem dX4_day_35 : decode cX4_day 35 = .ok (.ireturn, 1) := by decide +kernel
theorem dX4_gives_0 : decode cX4_gives 0 = .ok (.aload_n 0, 1) := by decide +kernel
theorem dX4_gives_1 : decode cX4_gives 1 = .ok (.getfield 10, 3) := by decide +kernel
theorem dX4_gives_4 : decode cX4_gives 4 = .ok (.iload_n 1, 1) := by decide +kernel
theorem dX4_gives_5 : decode cX4_gives 5 = .ok (.invokevirtual 64, 3) := by decide +kernel
theorem dX4_gives_8 : decode cX4_gives 8 = .ok (.ifCond .eq 14, 3) := by decide +kernel
theorem dX4_gives_11 : decode cX4_gives 11 = .ok (.aload_n 0, 1) := by decide +kernel
theorem dX4_gives_12 : decode cX4_gives 12 = .ok (.getfield 10, 3) := by decide +kernel
theorem dX4_gives_15 : decode cX4_gives 15 = .ok (.iload_n 1, 1) := by decide +kernel
theorem dX4_gives_16 : decode cX4_gives 16 = .ok (.invokevirtual 135, 3) := by decide +kernel
theorem dX4_gives_19 : decode cX4_gives 19 = .ok (.goto 8, 3) := by decide +kernel
theorem dX4_gives_22 : decode cX4_gives 22 = .ok (.aload_n 0, 1) := by decide +kernel
theorem dX4_gives_23 : decode cX4_gives 23 = .ok (.iconst (-1), 1) := by decide +kernel
theorem dX4_gives_24 : decode cX4_gives 24 = .ok (.invokevirtual 46, 3) := by decide +kernel
theorem dX4_gives_27 : decode cX4_gives 27 = .ok (.ireturn, 1) := by decide +kernel
theorem dX4_after_0 : decode cX4_after 0 = .ok (.aload_n 0, 1) := by decide +kernel
theorem dX4_after_1 : decode cX4_after 1 = .ok (.iload_n 1, 1) := by decide +kernel
theorem dX4_after_2 : decode cX4_after 2 = .ok (.iload_n 2, 1) := by decide +kernel
theorem dX4_after_3 : decode cX4_after 3 = .ok (.iconst 0, 1) := by decide +kernel
theorem dX4_after_4 : decode cX4_after 4 = .ok (.bipush 60, 2) := by decide +kernel
theorem dX4_after_6 : decode cX4_after 6 = .ok (.invokevirtual 138, 3) := by decide +kernel
theorem dX4_after_9 : decode cX4_after 9 = .ok (.istore_n 3, 1) := by decide +kernel
theorem dX4_after_10 : decode cX4_after 10 = .ok (.iload_n 3, 1) := by decide +kernel
theorem dX4_after_11 : decode cX4_after 11 = .ok (.ifCond .eq 9, 3) := by decide +kernel
theorem dX4_after_14 : decode cX4_after 14 = .ok (.aload_n 0, 1) := by decide +kernel
theorem dX4_after_15 : decode cX4_after 15 = .ok (.iload_n 3, 1) := by decide +kernel
theorem dX4_after_16 : decode cX4_after 16 = .ok (.invokevirtual 46, 3) := by decide +kernel
theorem dX4_after_19 : decode cX4_after 19 = .ok (.ireturn, 1) := by decide +kernel
theorem dX4_after_20 : decode cX4_after 20 = .ok (.aload_n 0, 1) := by decide +kernel
theorem dX4_after_21 : decode cX4_after 21 = .ok (.iload_n 2, 1) := by decide +kernel
theorem dX4_after_22 : decode cX4_after 22 = .ok (.invokevirtual 142, 3) := by decide +kernel
theorem dX4_after_25 : decode cX4_after 25 = .ok (.aload_n 0, 1) := by decide +kernel
theorem dX4_after_26 : decode cX4_after 26 = .ok (.getfield 19, 3) := by decide +kernel
theorem dX4_after_29 : decode cX4_after 29 = .ok (.getfield 77, 3) := by decide +kernel
theorem dX4_after_32 : decode cX4_after 32 = .ok (.iload_n 1, 1) := by decide +kernel
theorem dX4_after_33 : decode cX4_after 33 = .ok (.iaload, 1) := by decide +kernel
theorem dX4_after_34 : decode cX4_after 34 = .ok (.ireturn, 1) := by decide +kernel
theorem dX4_all_0 : decode cX4_all 0 = .ok (.iload_n 1, 1) := by decide +kernel
theorem dX4_all_1 : decode cX4_all 1 = .ok (.iconst 0, 1) := by decide +kernel
theorem dX4_all_2 : decode cX4_all 2 = .ok (.bipush 60, 2) := by decide +kernel
theorem dX4_all_4 : decode cX4_all 4 = .ok (.invokestatic 111, 3) := by decide +kernel
theorem dX4_all_7 : decode cX4_all 7 = .ok (.istore_n 2, 1) := by decide +kernel
theorem dX4_all_8 : decode cX4_all 8 = .ok (.iload_n 2, 1) := by decide +kernel
theorem dX4_all_9 : decode cX4_all 9 = .ok (.ifCond .eq 9, 3) := by decide +kernel
theorem dX4_all_12 : decode cX4_all 12 = .ok (.aload_n 0, 1) := by decide +kernel
theorem dX4_all_13 : decode cX4_all 13 = .ok (.iload_n 2, 1) := by decide +kernel
theorem dX4_all_14 : decode cX4_all 14 = .ok (.invokevirtual 46, 3) := by decide +kernel
theorem dX4_all_17 : decode cX4_all 17 = .ok (.ireturn, 1) := by decide +kernel
theorem dX4_all_18 : decode cX4_all 18 = .ok (.aload_n 0, 1) := by decide +kernel
theorem dX4_all_19 : decode cX4_all 19 = .ok (.iload_n 1, 1) := by decide +kernel
theorem dX4_all_20 : decode cX4_all 20 = .ok (.invokevirtual 142, 3) := by decide +kernel
theorem dX4_all_23 : decode cX4_all 23 = .ok (.aload_n 0, 1) := by decide +kernel
theorem dX4_all_24 : decode cX4_all 24 = .ok (.getfield 19, 3) := by decide +kernel
theorem dX4_all_27 : decode cX4_all 27 = .ok (.invokevirtual 146, 3) := by decide +kernel
theorem dX4_all_30 : decode cX4_all 30 = .ok (.ireturn, 1) := by decide +kernel
theorem dX4_enough_0 : decode cX4_enough 0 = .ok (.aload_n 0, 1) := by decide +kernel
theorem dX4_enough_1 : decode cX4_enough 1 = .ok (.iload_n 1, 1) := by decide +kernel
theorem dX4_enough_2 : decode cX4_enough 2 = .ok (.iload_n 2, 1) := by decide +kernel
theorem dX4_enough_3 : decode cX4_enough 3 = .ok (.iconst 0, 1) := by decide +kernel
theorem dX4_enough_4 : decode cX4_enough 4 = .ok (.sipush 9999, 3) := by decide +kernel
theorem dX4_enough_7 : decode cX4_enough 7 = .ok (.invokevirtual 138, 3) := by decide +kernel
theorem dX4_enough_10 : decode cX4_enough 10 = .ok (.istore_n 3, 1) := by decide +kernel
theorem dX4_enough_11 : decode cX4_enough 11 = .ok (.iload_n 3, 1) := by decide +kernel
theorem dX4_enough_12 : decode cX4_enough 12 = .ok (.ifCond .eq 9, 3) := by decide +kernel
theorem dX4_enough_15 : decode cX4_enough 15 = .ok (.aload_n 0, 1) := by decide +kernel
theorem dX4_enough_16 : decode cX4_enough 16 = .ok (.iload_n 3, 1) := by decide +kernel
theorem dX4_enough_17 : decode cX4_enough 17 = .ok (.invokevirtual 46, 3) := by decide +kernel
theorem dX4_enough_20 : decode cX4_enough 20 = .ok (.ireturn, 1) := by decide +kernel
theorem dX4_enough_21 : decode cX4_enough 21 = .ok (.aload_n 0, 1) := by decide +kernel
theorem dX4_enough_22 : decode cX4_enough 22 = .ok (.getfield 19, 3) := by decide +kernel
theorem dX4_enough_25 : decode cX4_enough 25 = .ok (.aload_n 0, 1) := by decide +kernel
theorem dX4_enough_26 : decode cX4_enough 26 = .ok (.getfield 10, 3) := by decide +kernel
theorem dX4_enough_29 : decode cX4_enough 29 = .ok (.invokevirtual 149, 3) := by decide +kernel
theorem dX4_enough_32 : decode cX4_enough 32 = .ok (.iconst 0, 1) := by decide +kernel
theorem dX4_enough_33 : decode cX4_enough 33 = .ok (.istore 4, 2) := by decide +kernel
theorem dX4_enough_35 : decode cX4_enough 35 = .ok (.iload 4, 2) := by decide +kernel
theorem dX4_enough_37 : decode cX4_enough 37 = .ok (.bipush 60, 2) := by decide +kernel
theorem dX4_enough_39 : decode cX4_enough 39 = .ok (.if_icmp .gt 33, 3) := by decide +kernel
theorem dX4_enough_42 : decode cX4_enough 42 = .ok (.aload_n 0, 1) := by decide +kernel
theorem dX4_enough_43 : decode cX4_enough 43 = .ok (.getfield 19, 3) := by decide +kernel
theorem dX4_enough_46 : decode cX4_enough 46 = .ok (.getfield 77, 3) := by decide +kernel
theorem dX4_enough_49 : decode cX4_enough 49 = .ok (.iload_n 1, 1) := by decide +kernel
theorem dX4_enough_50 : decode cX4_enough 50 = .ok (.iaload, 1) := by decide +kernel
theorem dX4_enough_51 : decode cX4_enough 51 = .ok (.iload_n 2, 1) := by decide +kernel
theorem dX4_enough_52 : decode cX4_enough 52 = .ok (.if_icmp .lt 6, 3) := by decide +kernel
theorem dX4_enough_55 : decode cX4_enough 55 = .ok (.iload 4, 2) := by decide +kernel
theorem dX4_enough_57 : decode cX4_enough 57 = .ok (.ireturn, 1) := by decide +kernel
theorem dX4_enough_58 : decode cX4_enough 58 = .ok (.aload_n 0, 1) := by decide +kernel
theorem dX4_enough_59 : decode cX4_enough 59 = .ok (.getfield 19, 3) := by decide +kernel
theorem dX4_enough_62 : decode cX4_enough 62 = .ok (.invokevirtual 132, 3) := by decide +kernel
theorem dX4_enough_65 : decode cX4_enough 65 = .ok (.pop, 1) := by decide +kernel
theorem dX4_enough_66 : decode cX4_enough 66 = .ok (.iinc 4 1, 3) := by decide +kernel
theorem dX4_enough_69 : decode cX4_enough 69 = .ok (.goto (-34), 3) := by decide +kernel
theorem dX4_enough_72 : decode cX4_enough 72 = .ok (.bipush (-9), 2) := by decide +kernel
theorem dX4_enough_74 : decode cX4_enough 74 = .ok (.ireturn, 1) := by decide +kernel
theorem dX4_richest_0 : decode cX4_richest 0 = .ok (.iload_n 1, 1) := by decide +kernel
theorem dX4_richest_1 : decode cX4_richest 1 = .ok (.iconst 0, 1) := by decide +kernel
theorem dX4_richest_2 : decode cX4_richest 2 = .ok (.bipush 60, 2) := by decide +kernel
theorem dX4_richest_4 : decode cX4_richest 4 = .ok (.invokestatic 111, 3) := by decide +kernel
theorem dX4_richest_7 : decode cX4_richest 7 = .ok (.istore_n 2, 1) := by decide +kernel
theorem dX4_richest_8 : decode cX4_richest 8 = .ok (.iload_n 2, 1) := by decide +kernel
theorem dX4_richest_9 : decode cX4_richest 9 = .ok (.ifCond .eq 9, 3) := by decide +kernel
theorem dX4_richest_12 : decode cX4_richest 12 = .ok (.aload_n 0, 1) := by decide +kernel
theorem dX4_richest_13 : decode cX4_richest 13 = .ok (.iload_n 2, 1) := by decide +kernel
theorem dX4_richest_14 : decode cX4_richest 14 = .ok (.invokevirtual 46, 3) := by decide +kernel
theorem dX4_richest_17 : decode cX4_richest 17 = .ok (.ireturn, 1) := by decide +kernel
theorem dX4_richest_18 : decode cX4_richest 18 = .ok (.aload_n 0, 1) := by decide +kernel
theorem dX4_richest_19 : decode cX4_richest 19 = .ok (.iload_n 1, 1) := by decide +kernel
theorem dX4_richest_20 : decode cX4_richest 20 = .ok (.invokevirtual 142, 3) := by decide +kernel
theorem dX4_richest_23 : decode cX4_richest 23 = .ok (.aload_n 0, 1) := by decide +kernel
theorem dX4_richest_24 : decode cX4_richest 24 = .ok (.getfield 19, 3) := by decide +kernel
theorem dX4_richest_27 : decode cX4_richest 27 = .ok (.iconst (-1), 1) := by decide +kernel
theorem dX4_richest_28 : decode cX4_richest 28 = .ok (.invokevirtual 153, 3) := by decide +kernel
theorem dX4_richest_31 : decode cX4_richest 31 = .ok (.ireturn, 1) := by decide +kernel
theorem dX4_lost_0 : decode cX4_lost 0 = .ok (.iload_n 1, 1) := by decide +kernel
theorem dX4_lost_1 : decode cX4_lost 1 = .ok (.iconst 0, 1) := by decide +kernel
theorem dX4_lost_2 : decode cX4_lost 2 = .ok (.bipush 60, 2) := by decide +kernel
theorem dX4_lost_4 : decode cX4_lost 4 = .ok (.invokestatic 111, 3) := by decide +kernel
theorem dX4_lost_7 : decode cX4_lost 7 = .ok (.istore_n 2, 1) := by decide +kernel
theorem dX4_lost_8 : decode cX4_lost 8 = .ok (.iload_n 2, 1) := by decide +kernel
theorem dX4_lost_9 : decode cX4_lost 9 = .ok (.ifCond .eq 9, 3) := by decide +kernel
theorem dX4_lost_12 : decode cX4_lost 12 = .ok (.aload_n 0, 1) := by decide +kernel
theorem dX4_lost_13 : decode cX4_lost 13 = .ok (.iload_n 2, 1) := by decide +kernel
theorem dX4_lost_14 : decode cX4_lost 14 = .ok (.invokevirtual 46, 3) := by decide +kernel
theorem dX4_lost_17 : decode cX4_lost 17 = .ok (.ireturn, 1) := by decide +kernel
theorem dX4_lost_18 : decode cX4_lost 18 = .ok (.aload_n 0, 1) := by decide +kernel
theorem dX4_lost_19 : decode cX4_lost 19 = .ok (.getfield 19, 3) := by decide +kernel
theorem dX4_lost_22 : decode cX4_lost 22 = .ok (.aload_n 0, 1) := by decide +kernel
theorem dX4_lost_23 : decode cX4_lost 23 = .ok (.getfield 10, 3) := by decide +kernel
theorem dX4_lost_26 : decode cX4_lost 26 = .ok (.invokevirtual 149, 3) := by decide +kernel
theorem dX4_lost_29 : decode cX4_lost 29 = .ok (.iconst 0, 1) := by decide +kernel
theorem dX4_lost_30 : decode cX4_lost 30 = .ok (.istore_n 3, 1) := by decide +kernel
theorem dX4_lost_31 : decode cX4_lost 31 = .ok (.iconst 0, 1) := by decide +kernel
theorem dX4_lost_32 : decode cX4_lost 32 = .ok (.istore 4, 2) := by decide +kernel
theorem dX4_lost_34 : decode cX4_lost 34 = .ok (.iload 4, 2) := by decide +kernel
theorem dX4_lost_36 : decode cX4_lost 36 = .ok (.iload_n 1, 1) := by decide +kernel
theorem dX4_lost_37 : decode cX4_lost 37 = .ok (.if_icmp .ge 19, 3) := by decide +kernel
theorem dX4_lost_40 : decode cX4_lost 40 = .ok (.iload_n 3, 1) := by decide +kernel
theorem dX4_lost_41 : decode cX4_lost 41 = .ok (.aload_n 0, 1) := by decide +kernel
theorem dX4_lost_42 : decode cX4_lost 42 = .ok (.getfield 19, 3) := by decide +kernel
theorem dX4_lost_45 : decode cX4_lost 45 = .ok (.invokevirtual 132, 3) := by decide +kernel
theorem dX4_lost_48 : decode cX4_lost 48 = .ok (.iadd, 1) := by decide +kernel
theorem dX4_lost_49 : decode cX4_lost 49 = .ok (.istore_n 3, 1) := by decide +kernel
theorem dX4_lost_50 : decode cX4_lost 50 = .ok (.iinc 4 1, 3) := by decide +kernel
theorem dX4_lost_53 : decode cX4_lost 53 = .ok (.goto (-19), 3) := by decide +kernel
theorem dX4_lost_56 : decode cX4_lost 56 = .ok (.iload_n 3, 1) := by decide +kernel
theorem dX4_lost_57 : decode cX4_lost 57 = .ok (.ireturn, 1) := by decide +kernel
theorem dX4_grows_0 : decode cX4_grows 0 = .ok (.iload_n 1, 1) := by decide +kernel
theorem dX4_grows_1 : decode cX4_grows 1 = .ok (.iconst 1, 1) := by decide +kernel
theorem dX4_grows_2 : decode cX4_grows 2 = .ok (.bipush 60, 2) := by decide +kernel
theorem dX4_grows_4 : decode cX4_grows 4 = .ok (.invokestatic 111, 3) := by decide +kernel
theorem dX4_grows_7 : decode cX4_grows 7 = .ok (.istore_n 2, 1) := by decide +kernel
theorem dX4_grows_8 : decode cX4_grows 8 = .ok (.iload_n 2, 1) := by decide +kernel
theorem dX4_grows_9 : decode cX4_grows 9 = .ok (.ifCond .eq 9, 3) := by decide +kernel
theorem dX4_grows_12 : decode cX4_grows 12 = .ok (.aload_n 0, 1) := by decide +kernel
theorem dX4_grows_13 : decode cX4_grows 13 = .ok (.iload_n 2, 1) := by decide +kernel
theorem dX4_grows_14 : decode cX4_grows 14 = .ok (.invokevirtual 46, 3) := by decide +kernel
theorem dX4_grows_17 : decode cX4_grows 17 = .ok (.ireturn, 1) := by decide +kernel
theorem dX4_grows_18 : decode cX4_grows 18 = .ok (.aload_n 0, 1) := by decide +kernel
theorem dX4_grows_19 : decode cX4_grows 19 = .ok (.iload_n 1, 1) := by decide +kernel
theorem dX4_grows_20 : decode cX4_grows 20 = .ok (.invokevirtual 142, 3) := by decide +kernel
theorem dX4_grows_23 : decode cX4_grows 23 = .ok (.aload_n 0, 1) := by decide +kernel
theorem dX4_grows_24 : decode cX4_grows 24 = .ok (.getfield 19, 3) := by decide +kernel
theorem dX4_grows_27 : decode cX4_grows 27 = .ok (.invokevirtual 146, 3) := by decide +kernel
theorem dX4_grows_30 : decode cX4_grows 30 = .ok (.aload_n 0, 1) := by decide +kernel
theorem dX4_grows_31 : decode cX4_grows 31 = .ok (.getfield 10, 3) := by decide +kernel
theorem dX4_grows_34 : decode cX4_grows 34 = .ok (.invokevirtual 146, 3) := by decide +kernel
theorem dX4_grows_37 : decode cX4_grows 37 = .ok (.isub, 1) := by decide +kernel
theorem dX4_grows_38 : decode cX4_grows 38 = .ok (.istore_n 3, 1) := by decide +kernel
theorem dX4_grows_39 : decode cX4_grows 39 = .ok (.iload_n 3, 1) := by decide +kernel
theorem dX4_grows_40 : decode cX4_grows 40 = .ok (.ifCond .le 7, 3) := by decide +kernel
theorem dX4_grows_43 : decode cX4_grows 43 = .ok (.iconst 1, 1) := by decide +kernel
theorem dX4_grows_44 : decode cX4_grows 44 = .ok (.goto 12, 3) := by decide +kernel
theorem dX4_grows_47 : decode cX4_grows 47 = .ok (.iload_n 3, 1) := by decide +kernel
theorem dX4_grows_48 : decode cX4_grows 48 = .ok (.ifCond .ne 7, 3) := by decide +kernel
theorem dX4_grows_51 : decode cX4_grows 51 = .ok (.iconst 0, 1) := by decide +kernel
theorem dX4_grows_52 : decode cX4_grows 52 = .ok (.goto 4, 3) := by decide +kernel
theorem dX4_grows_55 : decode cX4_grows 55 = .ok (.iconst 2, 1) := by decide +kernel
theorem dX4_grows_56 : decode cX4_grows 56 = .ok (.ireturn, 1) := by decide +kernel
theorem dX4_rest_0 : decode cX4_rest 0 = .ok (.aload_n 0, 1) := by decide +kernel
theorem dX4_rest_1 : decode cX4_rest 1 = .ok (.getfield 19, 3) := by decide +kernel
theorem dX4_rest_4 : decode cX4_rest 4 = .ok (.aload_n 0, 1) := by decide +kernel
theorem dX4_rest_5 : decode cX4_rest 5 = .ok (.getfield 10, 3) := by decide +kernel
theorem dX4_rest_8 : decode cX4_rest 8 = .ok (.invokevirtual 149, 3) := by decide +kernel
theorem dX4_rest_11 : decode cX4_rest 11 = .ok (.iconst 0, 1) := by decide +kernel
theorem dX4_rest_12 : decode cX4_rest 12 = .ok (.istore_n 1, 1) := by decide +kernel
theorem dX4_rest_13 : decode cX4_rest 13 = .ok (.iconst 1, 1) := by decide +kernel
theorem dX4_rest_14 : decode cX4_rest 14 = .ok (.istore_n 2, 1) := by decide +kernel
theorem dX4_rest_15 : decode cX4_rest 15 = .ok (.iload_n 2, 1) := by decide +kernel
theorem dX4_rest_16 : decode cX4_rest 16 = .ok (.bipush 60, 2) := by decide +kernel
theorem dX4_rest_18 : decode cX4_rest 18 = .ok (.if_icmp .gt 33, 3) := by decide +kernel
theorem dX4_rest_21 : decode cX4_rest 21 = .ok (.aload_n 0, 1) := by decide +kernel
theorem dX4_rest_22 : decode cX4_rest 22 = .ok (.invokevirtual 156, 3) := by decide +kernel
theorem dX4_rest_25 : decode cX4_rest 25 = .ok (.ifCond .eq 9, 3) := by decide +kernel
theorem dX4_rest_28 : decode cX4_rest 28 = .ok (.iload_n 1, 1) := by decide +kernel
theorem dX4_rest_29 : decode cX4_rest 29 = .ok (.iconst 1, 1) := by decide +kernel
theorem dX4_rest_30 : decode cX4_rest 30 = .ok (.iadd, 1) := by decide +kernel
theorem dX4_rest_31 : decode cX4_rest 31 = .ok (.goto 4, 3) := by decide +kernel
theorem dX4_rest_34 : decode cX4_rest 34 = .ok (.iconst 0, 1) := by decide +kernel
theorem dX4_rest_35 : decode cX4_rest 35 = .ok (.istore_n 1, 1) := by decide +kernel
theorem dX4_rest_36 : decode cX4_rest 36 = .ok (.iload_n 1, 1) := by decide +kernel
theorem dX4_rest_37 : decode cX4_rest 37 = .ok (.iconst 2, 1) := by decide +kernel
theorem dX4_rest_38 : decode cX4_rest 38 = .ok (.if_icmp .ne 7, 3) := by decide +kernel
theorem dX4_rest_41 : decode cX4_rest 41 = .ok (.iload_n 2, 1) := by decide +kernel
theorem dX4_rest_42 : decode cX4_rest 42 = .ok (.iconst 2, 1) := by decide +kernel
theorem dX4_rest_43 : decode cX4_rest 43 = .ok (.isub, 1) := by decide +kernel
theorem dX4_rest_44 : decode cX4_rest 44 = .ok (.ireturn, 1) := by decide +kernel
theorem dX4_rest_45 : decode cX4_rest 45 = .ok (.iinc 2 1, 3) := by decide +kernel
theorem dX4_rest_48 : decode cX4_rest 48 = .ok (.goto (-33), 3) := by decide +kernel
theorem dX4_rest_51 : decode cX4_rest 51 = .ok (.bipush (-9), 2) := by decide +kernel
theorem dX4_rest_53 : decode cX4_rest 53 = .ok (.ireturn, 1) := by decide +kernel
theorem dX4_most_0 : decode cX4_most 0 = .ok (.aload_n 0, 1) := by decide +kernel
theorem dX4_most_1 : decode cX4_most 1 = .ok (.iload_n 1, 1) := by decide +kernel
theorem dX4_most_2 : decode cX4_most 2 = .ok (.iload_n 2, 1) := by decide +kernel
theorem dX4_most_3 : decode cX4_most 3 = .ok (.iconst 1, 1) := by decide +kernel
theorem dX4_most_4 : decode cX4_most 4 = .ok (.bipush 6, 2) := by decide +kernel
theorem dX4_most_6 : decode cX4_most 6 = .ok (.invokevirtual 138, 3) := by decide +kernel
theorem dX4_most_9 : decode cX4_most 9 = .ok (.istore_n 3, 1) := by decide +kernel
theorem dX4_most_10 : decode cX4_most 10 = .ok (.iload_n 3, 1) := by decide +kernel
theorem dX4_most_11 : decode cX4_most 11 = .ok (.ifCond .eq 9, 3) := by decide +kernel
theorem dX4_most_14 : decode cX4_most 14 = .ok (.aload_n 0, 1) := by decide +kernel
theorem dX4_most_15 : decode cX4_most 15 = .ok (.iload_n 3, 1) := by decide +kernel
theorem dX4_most_16 : decode cX4_most 16 = .ok (.invokevirtual 46, 3) := by decide +kernel
theorem dX4_most_19 : decode cX4_most 19 = .ok (.ireturn, 1) := by decide +kernel
theorem dX4_most_20 : decode cX4_most 20 = .ok (.aload_n 0, 1) := by decide +kernel
theorem dX4_most_21 : decode cX4_most 21 = .ok (.getfield 25, 3) := by decide +kernel
theorem dX4_most_24 : decode cX4_most 24 = .ok (.aload_n 0, 1) := by decide +kernel
theorem dX4_most_25 : decode cX4_most 25 = .ok (.getfield 10, 3) := by decide +kernel
theorem dX4_most_28 : decode cX4_most 28 = .ok (.iload_n 1, 1) := by decide +kernel
theorem dX4_most_29 : decode cX4_most 29 = .ok (.iload_n 2, 1) := by decide +kernel
theorem dX4_most_30 : decode cX4_most 30 = .ok (.iconst 0, 1) := by decide +kernel
theorem dX4_most_31 : decode cX4_most 31 = .ok (.invokevirtual 159, 3) := by decide +kernel
theorem dX4_most_34 : decode cX4_most 34 = .ok (.aload_n 0, 1) := by decide +kernel
theorem dX4_most_35 : decode cX4_most 35 = .ok (.getfield 25, 3) := by decide +kernel
theorem dX4_most_38 : decode cX4_most 38 = .ok (.getfield 163, 3) := by decide +kernel
theorem dX4_most_41 : decode cX4_most 41 = .ok (.ireturn, 1) := by decide +kernel
theorem dX4_choice_0 : decode cX4_choice 0 = .ok (.aload_n 0, 1) := by decide +kernel
theorem dX4_choice_1 : decode cX4_choice 1 = .ok (.iload_n 1, 1) := by decide +kernel
theorem dX4_choice_2 : decode cX4_choice 2 = .ok (.iload_n 2, 1) := by decide +kernel
theorem dX4_choice_3 : decode cX4_choice 3 = .ok (.iconst 1, 1) := by decide +kernel
theorem dX4_choice_4 : decode cX4_choice 4 = .ok (.bipush 6, 2) := by decide +kernel
theorem dX4_choice_6 : decode cX4_choice 6 = .ok (.invokevirtual 138, 3) := by decide +kernel
theorem dX4_choice_9 : decode cX4_choice 9 = .ok (.istore 4, 2) := by decide +kernel
theorem dX4_choice_11 : decode cX4_choice 11 = .ok (.iload 4, 2) := by decide +kernel
theorem dX4_choice_13 : decode cX4_choice 13 = .ok (.iconst (-1), 1) := by decide +kernel
theorem dX4_choice_14 : decode cX4_choice 14 = .ok (.if_icmp .eq 11, 3) := by decide +kernel
theorem dX4_choice_17 : decode cX4_choice 17 = .ok (.iload_n 3, 1) := by decide +kernel
theorem dX4_choice_18 : decode cX4_choice 18 = .ok (.ifCond .ge 7, 3) := by decide +kernel
theorem dX4_choice_21 : decode cX4_choice 21 = .ok (.bipush (-4), 2) := by decide +kernel
theorem dX4_choice_23 : decode cX4_choice 23 = .ok (.istore 4, 2) := by decide +kernel
theorem dX4_choice_25 : decode cX4_choice 25 = .ok (.iload 4, 2) := by decide +kernel
theorem dX4_choice_27 : decode cX4_choice 27 = .ok (.ifCond .eq 10, 3) := by decide +kernel
theorem dX4_choice_30 : decode cX4_choice 30 = .ok (.aload_n 0, 1) := by decide +kernel
theorem dX4_choice_31 : decode cX4_choice 31 = .ok (.iload 4, 2) := by decide +kernel
theorem dX4_choice_33 : decode cX4_choice 33 = .ok (.invokevirtual 46, 3) := by decide +kernel
theorem dX4_choice_36 : decode cX4_choice 36 = .ok (.ireturn, 1) := by decide +kernel
theorem dX4_choice_37 : decode cX4_choice 37 = .ok (.iload_n 3, 1) := by decide +kernel
theorem dX4_choice_38 : decode cX4_choice 38 = .ok (.iload_n 2, 1) := by decide +kernel
theorem dX4_choice_39 : decode cX4_choice 39 = .ok (.if_icmp .lt 6, 3) := by decide +kernel
theorem dX4_choice_42 : decode cX4_choice 42 = .ok (.bipush (-9), 2) := by decide +kernel
theorem dX4_choice_44 : decode cX4_choice 44 = .ok (.ireturn, 1) := by decide +kernel
theorem dX4_choice_45 : decode cX4_choice 45 = .ok (.aload_n 0, 1) := by decide +kernel
theorem dX4_choice_46 : decode cX4_choice 46 = .ok (.getfield 25, 3) := by decide +kernel
theorem dX4_choice_49 : decode cX4_choice 49 = .ok (.aload_n 0, 1) := by decide +kernel
theorem dX4_choice_50 : decode cX4_choice 50 = .ok (.getfield 10, 3) := by decide +kernel
theorem dX4_choice_53 : decode cX4_choice 53 = .ok (.iload_n 1, 1) := by decide +kernel
theorem dX4_choice_54 : decode cX4_choice 54 = .ok (.iload_n 2, 1) := by decide +kernel
theorem dX4_choice_55 : decode cX4_choice 55 = .ok (.iconst 0, 1) := by decide +kernel
theorem dX4_choice_56 : decode cX4_choice 56 = .ok (.invokevirtual 159, 3) := by decide +kernel
theorem dX4_choice_59 : decode cX4_choice 59 = .ok (.aload_n 0, 1) := by decide +kernel
theorem dX4_choice_60 : decode cX4_choice 60 = .ok (.getfield 25, 3) := by decide +kernel
theorem dX4_choice_63 : decode cX4_choice 63 = .ok (.getfield 166, 3) := by decide +kernel
theorem dX4_choice_66 : decode cX4_choice 66 = .ok (.iload_n 3, 1) := by decide +kernel
theorem dX4_choice_67 : decode cX4_choice 67 = .ok (.iaload, 1) := by decide +kernel
theorem dX4_choice_68 : decode cX4_choice 68 = .ok (.ireturn, 1) := by decide +kernel
theorem dX4_gap_0 : decode cX4_gap 0 = .ok (.aload_n 0, 1) := by decide +kernel
theorem dX4_gap_1 : decode cX4_gap 1 = .ok (.iload_n 1, 1) := by decide +kernel
theorem dX4_gap_2 : decode cX4_gap 2 = .ok (.iload_n 2, 1) := by decide +kernel
theorem dX4_gap_3 : decode cX4_gap 3 = .ok (.iconst 1, 1) := by decide +kernel
theorem dX4_gap_4 : decode cX4_gap 4 = .ok (.bipush 6, 2) := by decide +kernel
theorem dX4_gap_6 : decode cX4_gap 6 = .ok (.invokevirtual 138, 3) := by decide +kernel
theorem dX4_gap_9 : decode cX4_gap 9 = .ok (.istore_n 3, 1) := by decide +kernel
theorem dX4_gap_10 : decode cX4_gap 10 = .ok (.iload_n 3, 1) := by decide +kernel
theorem dX4_gap_11 : decode cX4_gap 11 = .ok (.ifCond .eq 12, 3) := by decide +kernel
theorem dX4_gap_14 : decode cX4_gap 14 = .ok (.ldc 169, 2) := by decide +kernel
theorem dX4_gap_16 : decode cX4_gap 16 = .ok (.aload_n 0, 1) := by decide +kernel
theorem dX4_gap_17 : decode cX4_gap 17 = .ok (.iload_n 3, 1) := by decide +kernel
theorem dX4_gap_18 : decode cX4_gap 18 = .ok (.invokevirtual 46, 3) := by decide +kernel
theorem dX4_gap_21 : decode cX4_gap 21 = .ok (.isub, 1) := by decide +kernel
theorem dX4_gap_22 : decode cX4_gap 22 = .ok (.ireturn, 1) := by decide +kernel
theorem dX4_gap_23 : decode cX4_gap 23 = .ok (.aload_n 0, 1) := by decide +kernel
theorem dX4_gap_24 : decode cX4_gap 24 = .ok (.getfield 25, 3) := by decide +kernel
theorem dX4_gap_27 : decode cX4_gap 27 = .ok (.aload_n 0, 1) := by decide +kernel
theorem dX4_gap_28 : decode cX4_gap 28 = .ok (.getfield 10, 3) := by decide +kernel
theorem dX4_gap_31 : decode cX4_gap 31 = .ok (.iload_n 1, 1) := by decide +kernel
theorem dX4_gap_32 : decode cX4_gap 32 = .ok (.iload_n 2, 1) := by decide +kernel
theorem dX4_gap_33 : decode cX4_gap 33 = .ok (.iconst 0, 1) := by decide +kernel
theorem dX4_gap_34 : decode cX4_gap 34 = .ok (.invokevirtual 159, 3) := by decide +kernel
theorem dX4_gap_37 : decode cX4_gap 37 = .ok (.aload_n 0, 1) := by decide +kernel
theorem dX4_gap_38 : decode cX4_gap 38 = .ok (.iload_n 2, 1) := by decide +kernel
theorem dX4_gap_39 : decode cX4_gap 39 = .ok (.invokevirtual 142, 3) := by decide +kernel
theorem dX4_gap_42 : decode cX4_gap 42 = .ok (.aload_n 0, 1) := by decide +kernel
theorem dX4_gap_43 : decode cX4_gap 43 = .ok (.getfield 25, 3) := by decide +kernel
theorem dX4_gap_46 : decode cX4_gap 46 = .ok (.getfield 163, 3) := by decide +kernel
theorem dX4_gap_49 : decode cX4_gap 49 = .ok (.aload_n 0, 1) := by decide +kernel
theorem dX4_gap_50 : decode cX4_gap 50 = .ok (.getfield 19, 3) := by decide +kernel
theorem dX4_gap_53 : decode cX4_gap 53 = .ok (.getfield 77, 3) := by decide +kernel
theorem dX4_gap_56 : decode cX4_gap 56 = .ok (.iload_n 1, 1) := by decide +kernel
theorem dX4_gap_57 : decode cX4_gap 57 = .ok (.iaload, 1) := by decide +kernel
theorem dX4_gap_58 : decode cX4_gap 58 = .ok (.isub, 1) := by decide +kernel
theorem dX4_gap_59 : decode cX4_gap 59 = .ok (.ireturn, 1) := by decide +kernel
theorem dX4_feast_0 : decode cX4_feast 0 = .ok (.aload_n 0, 1) := by decide +kernel
theorem dX4_feast_1 : decode cX4_feast 1 = .ok (.iload_n 1, 1) := by decide +kernel
theorem dX4_feast_2 : decode cX4_feast 2 = .ok (.iload_n 2, 1) := by decide +kernel
theorem dX4_feast_3 : decode cX4_feast 3 = .ok (.iconst 1, 1) := by decide +kernel
theorem dX4_feast_4 : decode cX4_feast 4 = .ok (.bipush 6, 2) := by decide +kernel
theorem dX4_feast_6 : decode cX4_feast 6 = .ok (.invokestatic 111, 3) := by decide +kernel
theorem dX4_feast_9 : decode cX4_feast 9 = .ok (.iload_n 3, 1) := by decide +kernel
theorem dX4_feast_10 : decode cX4_feast 10 = .ok (.iconst 0, 1) := by decide +kernel
theorem dX4_feast_11 : decode cX4_feast 11 = .ok (.sipush 9999, 3) := by decide +kernel
theorem dX4_feast_14 : decode cX4_feast 14 = .ok (.invokestatic 111, 3) := by decide +kernel
theorem dX4_feast_17 : decode cX4_feast 17 = .ok (.invokevirtual 170, 3) := by decide +kernel
theorem dX4_feast_20 : decode cX4_feast 20 = .ok (.istore 4, 2) := by decide +kernel
theorem dX4_feast_22 : decode cX4_feast 22 = .ok (.iload 4, 2) := by decide +kernel
theorem dX4_feast_24 : decode cX4_feast 24 = .ok (.ifCond .eq 10, 3) := by decide +kernel
theorem dX4_feast_27 : decode cX4_feast 27 = .ok (.aload_n 0, 1) := by decide +kernel
theorem dX4_feast_28 : decode cX4_feast 28 = .ok (.iload 4, 2) := by decide +kernel
theorem dX4_feast_30 : decode cX4_feast 30 = .ok (.invokevirtual 46, 3) := by decide +kernel
theorem dX4_feast_33 : decode cX4_feast 33 = .ok (.ireturn, 1) := by decide +kernel
theorem dX4_feast_34 : decode cX4_feast 34 = .ok (.aload_n 0, 1) := by decide +kernel
theorem dX4_feast_35 : decode cX4_feast 35 = .ok (.getfield 25, 3) := by decide +kernel
theorem dX4_feast_38 : decode cX4_feast 38 = .ok (.aload_n 0, 1) := by decide +kernel
theorem dX4_feast_39 : decode cX4_feast 39 = .ok (.getfield 10, 3) := by decide +kernel
theorem dX4_feast_42 : decode cX4_feast 42 = .ok (.iload_n 1, 1) := by decide +kernel
theorem dX4_feast_43 : decode cX4_feast 43 = .ok (.iload_n 2, 1) := by decide +kernel
theorem dX4_feast_44 : decode cX4_feast 44 = .ok (.iload_n 3, 1) := by decide +kernel
theorem dX4_feast_45 : decode cX4_feast 45 = .ok (.invokevirtual 159, 3) := by decide +kernel
theorem dX4_feast_48 : decode cX4_feast 48 = .ok (.aload_n 0, 1) := by decide +kernel
theorem dX4_feast_49 : decode cX4_feast 49 = .ok (.getfield 25, 3) := by decide +kernel
theorem dX4_feast_52 : decode cX4_feast 52 = .ok (.getfield 173, 3) := by decide +kernel
theorem dX4_feast_55 : decode cX4_feast 55 = .ok (.ireturn, 1) := by decide +kernel
theorem dX4_begins_0 : decode cX4_begins 0 = .ok (.aload_n 0, 1) := by decide +kernel
