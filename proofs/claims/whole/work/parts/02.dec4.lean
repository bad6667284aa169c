theorem dX5_leave_166 : decode cX5_leave 166 = .ok (.iload 6, 2) := by decide +kernel
theorem dX5_leave_168 : decode cX5_leave 168 = .ok (.aload_n 0, 1) := by decide +kernel
theorem dX5_leave_169 : decode cX5_leave 169 = .ok (.getfield 13, 3) := by decide +kernel
theorem dX5_leave_172 : decode cX5_leave 172 = .ok (.if_icmp .ge 10, 3) := by decide +kernel
theorem dX5_leave_175 : decode cX5_leave 175 = .ok (.aload_n 0, 1) := by decide +kernel
theorem dX5_leave_176 : decode cX5_leave 176 = .ok (.getfield 13, 3) := by decide +kernel
theorem dX5_leave_179 : decode cX5_leave 179 = .ok (.goto 5, 3) := by decide +kernel
theorem dX5_leave_182 : decode cX5_leave 182 = .ok (.iload 6, 2) := by decide +kernel
theorem dX5_leave_184 : decode cX5_leave 184 = .ok (.istore 6, 2) := by decide +kernel
theorem dX5_leave_186 : decode cX5_leave 186 = .ok (.iload 6, 2) := by decide +kernel
theorem dX5_leave_188 : decode cX5_leave 188 = .ok (.sipush 9999, 3) := by decide +kernel
theorem dX5_leave_191 : decode cX5_leave 191 = .ok (.invokestatic 99, 3) := by decide +kernel
theorem dX5_leave_194 : decode cX5_leave 194 = .ok (.ireturn, 1) := by decide +kernel
theorem dX5_target_0 : decode cX5_target 0 = .ok (.aload_n 0, 1) := by decide +kernel
theorem dX5_target_1 : decode cX5_target 1 = .ok (.getfield 16, 3) := by decide +kernel
theorem dX5_target_4 : decode cX5_target 4 = .ok (.iload_n 1, 1) := by decide +kernel
theorem dX5_target_5 : decode cX5_target 5 = .ok (.iaload, 1) := by decide +kernel
theorem dX5_target_6 : decode cX5_target 6 = .ok (.iconst 4, 1) := by decide +kernel
theorem dX5_target_7 : decode cX5_target 7 = .ok (.if_icmp .ne 14, 3) := by decide +kernel
theorem dX5_target_10 : decode cX5_target 10 = .ok (.iload_n 1, 1) := by decide +kernel
theorem dX5_target_11 : decode cX5_target 11 = .ok (.iconst 1, 1) := by decide +kernel
theorem dX5_target_12 : decode cX5_target 12 = .ok (.iadd, 1) := by decide +kernel
theorem dX5_target_13 : decode cX5_target 13 = .ok (.aload_n 0, 1) := by decide +kernel
theorem dX5_target_14 : decode cX5_target 14 = .ok (.getfield 71, 3) := by decide +kernel
theorem dX5_target_17 : decode cX5_target 17 = .ok (.irem, 1) := by decide +kernel
theorem dX5_target_18 : decode cX5_target 18 = .ok (.goto 35, 3) := by decide +kernel
theorem dX5_target_21 : decode cX5_target 21 = .ok (.aload_n 0, 1) := by decide +kernel
theorem dX5_target_22 : decode cX5_target 22 = .ok (.getfield 16, 3) := by decide +kernel
theorem dX5_target_25 : decode cX5_target 25 = .ok (.iload_n 1, 1) := by decide +kernel
theorem dX5_target_26 : decode cX5_target 26 = .ok (.iaload, 1) := by decide +kernel
theorem dX5_target_27 : decode cX5_target 27 = .ok (.bipush 6, 2) := by decide +kernel
theorem dX5_target_29 : decode cX5_target 29 = .ok (.if_icmp .ne 18, 3) := by decide +kernel
theorem dX5_target_32 : decode cX5_target 32 = .ok (.aload_n 0, 1) := by decide +kernel
theorem dX5_target_33 : decode cX5_target 33 = .ok (.getfield 78, 3) := by decide +kernel
theorem dX5_target_36 : decode cX5_target 36 = .ok (.iconst 2, 1) := by decide +kernel
theorem dX5_target_37 : decode cX5_target 37 = .ok (.irem, 1) := by decide +kernel
theorem dX5_target_38 : decode cX5_target 38 = .ok (.iconst 1, 1) := by decide +kernel
theorem dX5_target_39 : decode cX5_target 39 = .ok (.if_icmp .ne 8, 3) := by decide +kernel
theorem dX5_target_42 : decode cX5_target 42 = .ok (.bipush 9, 2) := by decide +kernel
theorem dX5_target_44 : decode cX5_target 44 = .ok (.goto 9, 3) := by decide +kernel
theorem dX5_target_47 : decode cX5_target 47 = .ok (.aload_n 0, 1) := by decide +kernel
theorem dX5_target_48 : decode cX5_target 48 = .ok (.getfield 26, 3) := by decide +kernel
theorem dX5_target_51 : decode cX5_target 51 = .ok (.iload_n 1, 1) := by decide +kernel
theorem dX5_target_52 : decode cX5_target 52 = .ok (.iaload, 1) := by decide +kernel
theorem dX5_target_53 : decode cX5_target 53 = .ok (.ireturn, 1) := by decide +kernel
theorem dX5_grown_0 : decode cX5_grown 0 = .ok (.aload_n 0, 1) := by decide +kernel
theorem dX5_grown_1 : decode cX5_grown 1 = .ok (.getfield 29, 3) := by decide +kernel
theorem dX5_grown_4 : decode cX5_grown 4 = .ok (.iload_n 1, 1) := by decide +kernel
theorem dX5_grown_5 : decode cX5_grown 5 = .ok (.iaload, 1) := by decide +kernel
theorem dX5_grown_6 : decode cX5_grown 6 = .ok (.aload_n 0, 1) := by decide +kernel
theorem dX5_grown_7 : decode cX5_grown 7 = .ok (.getfield 23, 3) := by decide +kernel
theorem dX5_grown_10 : decode cX5_grown 10 = .ok (.iload_n 1, 1) := by decide +kernel
theorem dX5_grown_11 : decode cX5_grown 11 = .ok (.iaload, 1) := by decide +kernel
theorem dX5_grown_12 : decode cX5_grown 12 = .ok (.aload_n 0, 1) := by decide +kernel
theorem dX5_grown_13 : decode cX5_grown 13 = .ok (.aload_n 0, 1) := by decide +kernel
theorem dX5_grown_14 : decode cX5_grown 14 = .ok (.getfield 78, 3) := by decide +kernel
theorem dX5_grown_17 : decode cX5_grown 17 = .ok (.iconst 1, 1) := by decide +kernel
theorem dX5_grown_18 : decode cX5_grown 18 = .ok (.isub, 1) := by decide +kernel
theorem dX5_grown_19 : decode cX5_grown 19 = .ok (.iload_n 1, 1) := by decide +kernel
theorem dX5_grown_20 : decode cX5_grown 20 = .ok (.invokevirtual 102, 3) := by decide +kernel
theorem dX5_grown_23 : decode cX5_grown 23 = .ok (.iadd, 1) := by decide +kernel
theorem dX5_grown_24 : decode cX5_grown 24 = .ok (.invokestatic 99, 3) := by decide +kernel
theorem dX5_grown_27 : decode cX5_grown 27 = .ok (.ireturn, 1) := by decide +kernel
theorem dX5_byKind_0 : decode cX5_byKind 0 = .ok (.aload_n 0, 1) := by decide +kernel
theorem dX5_byKind_1 : decode cX5_byKind 1 = .ok (.iload_n 1, 1) := by decide +kernel
theorem dX5_byKind_2 : decode cX5_byKind 2 = .ok (.invokevirtual 105, 3) := by decide +kernel
theorem dX5_byKind_5 : decode cX5_byKind 5 = .ok (.iload_n 1, 1) := by decide +kernel
theorem dX5_byKind_6 : decode cX5_byKind 6 = .ok (.if_icmp .ne 5, 3) := by decide +kernel
theorem dX5_byKind_9 : decode cX5_byKind 9 = .ok (.iconst 0, 1) := by decide +kernel
theorem dX5_byKind_10 : decode cX5_byKind 10 = .ok (.ireturn, 1) := by decide +kernel
theorem dX5_byKind_11 : decode cX5_byKind 11 = .ok (.aload_n 0, 1) := by decide +kernel
theorem dX5_byKind_12 : decode cX5_byKind 12 = .ok (.getfield 16, 3) := by decide +kernel
theorem dX5_byKind_15 : decode cX5_byKind 15 = .ok (.iload_n 1, 1) := by decide +kernel
theorem dX5_byKind_16 : decode cX5_byKind 16 = .ok (.iaload, 1) := by decide +kernel
theorem dX5_byKind_17 : decode cX5_byKind 17 = .ok (.tableswitch 120 1 7 #[43, 50, 59, 43, 65, 43, 91], 43) := by decide +kernel
theorem dX5_byKind_60 : decode cX5_byKind 60 = .ok (.aload_n 0, 1) := by decide +kernel
theorem dX5_byKind_61 : decode cX5_byKind 61 = .ok (.getfield 29, 3) := by decide +kernel
theorem dX5_byKind_64 : decode cX5_byKind 64 = .ok (.iload_n 1, 1) := by decide +kernel
theorem dX5_byKind_65 : decode cX5_byKind 65 = .ok (.iaload, 1) := by decide +kernel
theorem dX5_byKind_66 : decode cX5_byKind 66 = .ok (.ireturn, 1) := by decide +kernel
theorem dX5_byKind_67 : decode cX5_byKind 67 = .ok (.aload_n 0, 1) := by decide +kernel
theorem dX5_byKind_68 : decode cX5_byKind 68 = .ok (.getfield 29, 3) := by decide +kernel
theorem dX5_byKind_71 : decode cX5_byKind 71 = .ok (.iload_n 1, 1) := by decide +kernel
theorem dX5_byKind_72 : decode cX5_byKind 72 = .ok (.iaload, 1) := by decide +kernel
theorem dX5_byKind_73 : decode cX5_byKind 73 = .ok (.iconst 2, 1) := by decide +kernel
theorem dX5_byKind_74 : decode cX5_byKind 74 = .ok (.idiv, 1) := by decide +kernel
theorem dX5_byKind_75 : decode cX5_byKind 75 = .ok (.ireturn, 1) := by decide +kernel
theorem dX5_byKind_76 : decode cX5_byKind 76 = .ok (.aload_n 0, 1) := by decide +kernel
theorem dX5_byKind_77 : decode cX5_byKind 77 = .ok (.iload_n 1, 1) := by decide +kernel
theorem dX5_byKind_78 : decode cX5_byKind 78 = .ok (.invokevirtual 109, 3) := by decide +kernel
theorem dX5_byKind_81 : decode cX5_byKind 81 = .ok (.ireturn, 1) := by decide +kernel
theorem dX5_byKind_82 : decode cX5_byKind 82 = .ok (.aload_n 0, 1) := by decide +kernel
theorem dX5_byKind_83 : decode cX5_byKind 83 = .ok (.getfield 78, 3) := by decide +kernel
theorem dX5_byKind_86 : decode cX5_byKind 86 = .ok (.bipush 10, 2) := by decide +kernel
theorem dX5_byKind_88 : decode cX5_byKind 88 = .ok (.aload_n 0, 1) := by decide +kernel
theorem dX5_byKind_89 : decode cX5_byKind 89 = .ok (.getfield 20, 3) := by decide +kernel
theorem dX5_byKind_92 : decode cX5_byKind 92 = .ok (.iload_n 1, 1) := by decide +kernel
theorem dX5_byKind_93 : decode cX5_byKind 93 = .ok (.iaload, 1) := by decide +kernel
theorem dX5_byKind_94 : decode cX5_byKind 94 = .ok (.imul, 1) := by decide +kernel
theorem dX5_byKind_95 : decode cX5_byKind 95 = .ok (.if_icmp .ge 11, 3) := by decide +kernel
theorem dX5_byKind_98 : decode cX5_byKind 98 = .ok (.aload_n 0, 1) := by decide +kernel
theorem dX5_byKind_99 : decode cX5_byKind 99 = .ok (.iload_n 1, 1) := by decide +kernel
theorem dX5_byKind_100 : decode cX5_byKind 100 = .ok (.invokevirtual 109, 3) := by decide +kernel
theorem dX5_byKind_103 : decode cX5_byKind 103 = .ok (.goto 4, 3) := by decide +kernel
theorem dX5_byKind_106 : decode cX5_byKind 106 = .ok (.iconst 0, 1) := by decide +kernel
theorem dX5_byKind_107 : decode cX5_byKind 107 = .ok (.ireturn, 1) := by decide +kernel
theorem dX5_byKind_108 : decode cX5_byKind 108 = .ok (.aload_n 0, 1) := by decide +kernel
theorem dX5_byKind_109 : decode cX5_byKind 109 = .ok (.getfield 78, 3) := by decide +kernel
theorem dX5_byKind_112 : decode cX5_byKind 112 = .ok (.aload_n 0, 1) := by decide +kernel
theorem dX5_byKind_113 : decode cX5_byKind 113 = .ok (.getfield 20, 3) := by decide +kernel
theorem dX5_byKind_116 : decode cX5_byKind 116 = .ok (.iload_n 1, 1) := by decide +kernel
theorem dX5_byKind_117 : decode cX5_byKind 117 = .ok (.iaload, 1) := by decide +kernel
theorem dX5_byKind_118 : decode cX5_byKind 118 = .ok (.iconst 1, 1) := by decide +kernel
theorem dX5_byKind_119 : decode cX5_byKind 119 = .ok (.iadd, 1) := by decide +kernel
theorem dX5_byKind_120 : decode cX5_byKind 120 = .ok (.irem, 1) := by decide +kernel
theorem dX5_byKind_121 : decode cX5_byKind 121 = .ok (.ifCond .ne 14, 3) := by decide +kernel
theorem dX5_byKind_124 : decode cX5_byKind 124 = .ok (.aload_n 0, 1) := by decide +kernel
theorem dX5_byKind_125 : decode cX5_byKind 125 = .ok (.getfield 29, 3) := by decide +kernel
theorem dX5_byKind_128 : decode cX5_byKind 128 = .ok (.iload_n 1, 1) := by decide +kernel
theorem dX5_byKind_129 : decode cX5_byKind 129 = .ok (.iaload, 1) := by decide +kernel
theorem dX5_byKind_130 : decode cX5_byKind 130 = .ok (.iconst 2, 1) := by decide +kernel
theorem dX5_byKind_131 : decode cX5_byKind 131 = .ok (.idiv, 1) := by decide +kernel
theorem dX5_byKind_132 : decode cX5_byKind 132 = .ok (.goto 4, 3) := by decide +kernel
theorem dX5_byKind_135 : decode cX5_byKind 135 = .ok (.iconst 0, 1) := by decide +kernel
theorem dX5_byKind_136 : decode cX5_byKind 136 = .ok (.ireturn, 1) := by decide +kernel
theorem dX5_byKind_137 : decode cX5_byKind 137 = .ok (.iconst 0, 1) := by decide +kernel
theorem dX5_byKind_138 : decode cX5_byKind 138 = .ok (.ireturn, 1) := by decide +kernel
theorem dX5_giveByKind_0 : decode cX5_giveByKind 0 = .ok (.aload_n 0, 1) := by decide +kernel
theorem dX5_giveByKind_1 : decode cX5_giveByKind 1 = .ok (.iload_n 1, 1) := by decide +kernel
theorem dX5_giveByKind_2 : decode cX5_giveByKind 2 = .ok (.invokevirtual 112, 3) := by decide +kernel
theorem dX5_giveByKind_5 : decode cX5_giveByKind 5 = .ok (.istore_n 2, 1) := by decide +kernel
theorem dX5_giveByKind_6 : decode cX5_giveByKind 6 = .ok (.iload_n 2, 1) := by decide +kernel
theorem dX5_giveByKind_7 : decode cX5_giveByKind 7 = .ok (.ifCond .le 29, 3) := by decide +kernel
theorem dX5_giveByKind_10 : decode cX5_giveByKind 10 = .ok (.aload_n 0, 1) := by decide +kernel
theorem dX5_giveByKind_11 : decode cX5_giveByKind 11 = .ok (.iload_n 1, 1) := by decide +kernel
theorem dX5_giveByKind_12 : decode cX5_giveByKind 12 = .ok (.aload_n 0, 1) := by decide +kernel
theorem dX5_giveByKind_13 : decode cX5_giveByKind 13 = .ok (.iload_n 1, 1) := by decide +kernel
theorem dX5_giveByKind_14 : decode cX5_giveByKind 14 = .ok (.invokevirtual 105, 3) := by decide +kernel
theorem dX5_giveByKind_17 : decode cX5_giveByKind 17 = .ok (.bipush 9, 2) := by decide +kernel
theorem dX5_giveByKind_19 : decode cX5_giveByKind 19 = .ok (.if_icmp .ne 8, 3) := by decide +kernel
theorem dX5_giveByKind_22 : decode cX5_giveByKind 22 = .ok (.bipush 6, 2) := by decide +kernel
theorem dX5_giveByKind_24 : decode cX5_giveByKind 24 = .ok (.goto 8, 3) := by decide +kernel
theorem dX5_giveByKind_27 : decode cX5_giveByKind 27 = .ok (.aload_n 0, 1) := by decide +kernel
theorem dX5_giveByKind_28 : decode cX5_giveByKind 28 = .ok (.iload_n 1, 1) := by decide +kernel
theorem dX5_giveByKind_29 : decode cX5_giveByKind 29 = .ok (.invokevirtual 105, 3) := by decide +kernel
theorem dX5_giveByKind_32 : decode cX5_giveByKind 32 = .ok (.iload_n 2, 1) := by decide +kernel
theorem dX5_giveByKind_33 : decode cX5_giveByKind 33 = .ok (.invokevirtual 115, 3) := by decide +kernel
theorem dX5_giveByKind_36 : decode cX5_giveByKind 36 = .ok (.return_, 1) := by decide +kernel
theorem dX5_endDay_0 : decode cX5_endDay 0 = .ok (.iconst 0, 1) := by decide +kernel
theorem dX5_endDay_1 : decode cX5_endDay 1 = .ok (.istore_n 1, 1) := by decide +kernel
theorem dX5_endDay_2 : decode cX5_endDay 2 = .ok (.iload_n 1, 1) := by decide +kernel
theorem dX5_endDay_3 : decode cX5_endDay 3 = .ok (.aload_n 0, 1) := by decide +kernel
theorem dX5_endDay_4 : decode cX5_endDay 4 = .ok (.getfield 71, 3) := by decide +kernel
theorem dX5_endDay_7 : decode cX5_endDay 7 = .ok (.if_icmp .ge 71, 3) := by decide +kernel
theorem dX5_endDay_10 : decode cX5_endDay 10 = .ok (.aload_n 0, 1) := by decide +kernel
theorem dX5_endDay_11 : decode cX5_endDay 11 = .ok (.aload_n 0, 1) := by decide +kernel
theorem dX5_endDay_12 : decode cX5_endDay 12 = .ok (.getfield 78, 3) := by decide +kernel
theorem dX5_endDay_15 : decode cX5_endDay 15 = .ok (.iload_n 1, 1) := by decide +kernel
theorem dX5_endDay_16 : decode cX5_endDay 16 = .ok (.invokevirtual 102, 3) := by decide +kernel
theorem dX5_endDay_19 : decode cX5_endDay 19 = .ok (.aload_n 0, 1) := by decide +kernel
theorem dX5_endDay_20 : decode cX5_endDay 20 = .ok (.getfield 23, 3) := by decide +kernel
theorem dX5_endDay_23 : decode cX5_endDay 23 = .ok (.iload_n 1, 1) := by decide +kernel
theorem dX5_endDay_24 : decode cX5_endDay 24 = .ok (.iaload, 1) := by decide +kernel
theorem dX5_endDay_25 : decode cX5_endDay 25 = .ok (.iadd, 1) := by decide +kernel
theorem dX5_endDay_26 : decode cX5_endDay 26 = .ok (.istore_n 2, 1) := by decide +kernel
theorem dX5_endDay_27 : decode cX5_endDay 27 = .ok (.aload_n 0, 1) := by decide +kernel
theorem dX5_endDay_28 : decode cX5_endDay 28 = .ok (.getfield 38, 3) := by decide +kernel
theorem dX5_endDay_31 : decode cX5_endDay 31 = .ok (.iload_n 1, 1) := by decide +kernel
theorem dX5_endDay_32 : decode cX5_endDay 32 = .ok (.aload_n 0, 1) := by decide +kernel
theorem dX5_endDay_33 : decode cX5_endDay 33 = .ok (.iload_n 1, 1) := by decide +kernel
theorem dX5_endDay_34 : decode cX5_endDay 34 = .ok (.invokevirtual 119, 3) := by decide +kernel
theorem dX5_endDay_37 : decode cX5_endDay 37 = .ok (.iload_n 2, 1) := by decide +kernel
theorem dX5_endDay_38 : decode cX5_endDay 38 = .ok (.invokestatic 99, 3) := by decide +kernel
theorem dX5_endDay_41 : decode cX5_endDay 41 = .ok (.sipush 9999, 3) := by decide +kernel
theorem dX5_endDay_44 : decode cX5_endDay 44 = .ok (.aload_n 0, 1) := by decide +kernel
theorem dX5_endDay_45 : decode cX5_endDay 45 = .ok (.getfield 29, 3) := by decide +kernel
theorem dX5_endDay_48 : decode cX5_endDay 48 = .ok (.iload_n 1, 1) := by decide +kernel
theorem dX5_endDay_49 : decode cX5_endDay 49 = .ok (.iaload, 1) := by decide +kernel
theorem dX5_endDay_50 : decode cX5_endDay 50 = .ok (.isub, 1) := by decide +kernel
theorem dX5_endDay_51 : decode cX5_endDay 51 = .ok (.invokestatic 99, 3) := by decide +kernel
theorem dX5_endDay_54 : decode cX5_endDay 54 = .ok (.iastore, 1) := by decide +kernel
theorem dX5_endDay_55 : decode cX5_endDay 55 = .ok (.aload_n 0, 1) := by decide +kernel
theorem dX5_endDay_56 : decode cX5_endDay 56 = .ok (.dup, 1) := by decide +kernel
theorem dX5_endDay_57 : decode cX5_endDay 57 = .ok (.getfield 122, 3) := by decide +kernel
theorem dX5_endDay_60 : decode cX5_endDay 60 = .ok (.iload_n 2, 1) := by decide +kernel
theorem dX5_endDay_61 : decode cX5_endDay 61 = .ok (.aload_n 0, 1) := by decide +kernel
theorem dX5_endDay_62 : decode cX5_endDay 62 = .ok (.getfield 38, 3) := by decide +kernel
theorem dX5_endDay_65 : decode cX5_endDay 65 = .ok (.iload_n 1, 1) := by decide +kernel
theorem dX5_endDay_66 : decode cX5_endDay 66 = .ok (.iaload, 1) := by decide +kernel
theorem dX5_endDay_67 : decode cX5_endDay 67 = .ok (.isub, 1) := by decide +kernel
theorem dX5_endDay_68 : decode cX5_endDay 68 = .ok (.iadd, 1) := by decide +kernel
theorem dX5_endDay_69 : decode cX5_endDay 69 = .ok (.putfield 122, 3) := by decide +kernel
theorem dX5_endDay_72 : decode cX5_endDay 72 = .ok (.iinc 1 1, 3) := by decide +kernel
theorem dX5_endDay_75 : decode cX5_endDay 75 = .ok (.goto (-73), 3) := by decide +kernel
theorem dX5_endDay_78 : decode cX5_endDay 78 = .ok (.iconst 0, 1) := by decide +kernel
theorem dX5_endDay_79 : decode cX5_endDay 79 = .ok (.istore_n 1, 1) := by decide +kernel
theorem dX5_endDay_80 : decode cX5_endDay 80 = .ok (.iload_n 1, 1) := by decide +kernel
theorem dX5_endDay_81 : decode cX5_endDay 81 = .ok (.aload_n 0, 1) := by decide +kernel
theorem dX5_endDay_82 : decode cX5_endDay 82 = .ok (.getfield 71, 3) := by decide +kernel
theorem dX5_endDay_85 : decode cX5_endDay 85 = .ok (.if_icmp .ge 24, 3) := by decide +kernel
theorem dX5_endDay_88 : decode cX5_endDay 88 = .ok (.aload_n 0, 1) := by decide +kernel
theorem dX5_endDay_89 : decode cX5_endDay 89 = .ok (.getfield 29, 3) := by decide +kernel
theorem dX5_endDay_92 : decode cX5_endDay 92 = .ok (.iload_n 1, 1) := by decide +kernel
theorem dX5_endDay_93 : decode cX5_endDay 93 = .ok (.dup2, 1) := by decide +kernel
theorem dX5_endDay_94 : decode cX5_endDay 94 = .ok (.iaload, 1) := by decide +kernel
theorem dX5_endDay_95 : decode cX5_endDay 95 = .ok (.aload_n 0, 1) := by decide +kernel
theorem dX5_endDay_96 : decode cX5_endDay 96 = .ok (.getfield 38, 3) := by decide +kernel
theorem dX5_endDay_99 : decode cX5_endDay 99 = .ok (.iload_n 1, 1) := by decide +kernel
theorem dX5_endDay_100 : decode cX5_endDay 100 = .ok (.iaload, 1) := by decide +kernel
theorem dX5_endDay_101 : decode cX5_endDay 101 = .ok (.iadd, 1) := by decide +kernel
theorem dX5_endDay_102 : decode cX5_endDay 102 = .ok (.iastore, 1) := by decide +kernel
theorem dX5_endDay_103 : decode cX5_endDay 103 = .ok (.iinc 1 1, 3) := by decide +kernel
theorem dX5_endDay_106 : decode cX5_endDay 106 = .ok (.goto (-26), 3) := by decide +kernel
theorem dX5_endDay_109 : decode cX5_endDay 109 = .ok (.aload_n 0, 1) := by decide +kernel
theorem dX5_endDay_110 : decode cX5_endDay 110 = .ok (.dup, 1) := by decide +kernel
theorem dX5_endDay_111 : decode cX5_endDay 111 = .ok (.getfield 78, 3) := by decide +kernel
theorem dX5_endDay_114 : decode cX5_endDay 114 = .ok (.iconst 1, 1) := by decide +kernel
theorem dX5_endDay_115 : decode cX5_endDay 115 = .ok (.iadd, 1) := by decide +kernel
theorem dX5_endDay_116 : decode cX5_endDay 116 = .ok (.putfield 78, 3) := by decide +kernel
theorem dX5_endDay_119 : decode cX5_endDay 119 = .ok (.iconst 0, 1) := by decide +kernel
theorem dX5_endDay_120 : decode cX5_endDay 120 = .ok (.istore_n 1, 1) := by decide +kernel
theorem dX5_endDay_121 : decode cX5_endDay 121 = .ok (.iload_n 1, 1) := by decide +kernel
theorem dX5_endDay_122 : decode cX5_endDay 122 = .ok (.bipush 42, 2) := by decide +kernel
theorem dX5_endDay_124 : decode cX5_endDay 124 = .ok (.if_icmp .ge 27, 3) := by decide +kernel
theorem dX5_endDay_127 : decode cX5_endDay 127 = .ok (.aload_n 0, 1) := by decide +kernel
theorem dX5_endDay_128 : decode cX5_endDay 128 = .ok (.getfield 32, 3) := by decide +kernel
theorem dX5_endDay_131 : decode cX5_endDay 131 = .ok (.bipush 42, 2) := by decide +kernel
theorem dX5_endDay_133 : decode cX5_endDay 133 = .ok (.aload_n 0, 1) := by decide +kernel
theorem dX5_endDay_134 : decode cX5_endDay 134 = .ok (.getfield 78, 3) := by decide +kernel
theorem dX5_endDay_137 : decode cX5_endDay 137 = .ok (.bipush 11, 2) := by decide +kernel
theorem dX5_endDay_139 : decode cX5_endDay 139 = .ok (.irem, 1) := by decide +kernel
theorem dX5_endDay_140 : decode cX5_endDay 140 = .ok (.imul, 1) := by decide +kernel
theorem dX5_endDay_141 : decode cX5_endDay 141 = .ok (.iload_n 1, 1) := by decide +kernel
theorem dX5_endDay_142 : decode cX5_endDay 142 = .ok (.iadd, 1) := by decide +kernel
theorem dX5_endDay_143 : decode cX5_endDay 143 = .ok (.iconst 0, 1) := by decide +kernel
theorem dX5_endDay_144 : decode cX5_endDay 144 = .ok (.iastore, 1) := by decide +kernel
theorem dX5_endDay_145 : decode cX5_endDay 145 = .ok (.iinc 1 1, 3) := by decide +kernel
theorem dX5_endDay_148 : decode cX5_endDay 148 = .ok (.goto (-27), 3) := by decide +kernel
theorem dX5_endDay_151 : decode cX5_endDay 151 = .ok (.return_, 1) := by decide +kernel
theorem dX5_dayOn_0 : decode cX5_dayOn 0 = .ok (.iconst 0, 1) := by decide +kernel
theorem dX5_dayOn_1 : decode cX5_dayOn 1 = .ok (.istore_n 1, 1) := by decide +kernel
theorem dX5_dayOn_2 : decode cX5_dayOn 2 = .ok (.iload_n 1, 1) := by decide +kernel
theorem dX5_dayOn_3 : decode cX5_dayOn 3 = .ok (.aload_n 0, 1) := by decide +kernel
theorem dX5_dayOn_4 : decode cX5_dayOn 4 = .ok (.getfield 71, 3) := by decide +kernel
theorem dX5_dayOn_7 : decode cX5_dayOn 7 = .ok (.if_icmp .ge 14, 3) := by decide +kernel
theorem dX5_dayOn_10 : decode cX5_dayOn 10 = .ok (.aload_n 0, 1) := by decide +kernel
theorem dX5_dayOn_11 : decode cX5_dayOn 11 = .ok (.iload_n 1, 1) := by decide +kernel
theorem dX5_dayOn_12 : decode cX5_dayOn 12 = .ok (.invokevirtual 125, 3) := by decide +kernel
theorem dX5_dayOn_15 : decode cX5_dayOn 15 = .ok (.iinc 1 1, 3) := by decide +kernel
theorem dX5_dayOn_18 : decode cX5_dayOn 18 = .ok (.goto (-16), 3) := by decide +kernel
theorem dX5_dayOn_21 : decode cX5_dayOn 21 = .ok (.aload_n 0, 1) := by decide +kernel
theorem dX5_dayOn_22 : decode cX5_dayOn 22 = .ok (.invokevirtual 129, 3) := by decide +kernel
theorem dX5_dayOn_25 : decode cX5_dayOn 25 = .ok (.return_, 1) := by decide +kernel
theorem dX5_carry_0 : decode cX5_carry 0 = .ok (.aload_n 0, 1) := by decide +kernel
theorem dX5_carry_1 : decode cX5_carry 1 = .ok (.getfield 132, 3) := by decide +kernel
theorem dX5_carry_4 : decode cX5_carry 4 = .ok (.ifCond .eq 13, 3) := by decide +kernel
theorem dX5_carry_7 : decode cX5_carry 7 = .ok (.aload_n 0, 1) := by decide +kernel
theorem dX5_carry_8 : decode cX5_carry 8 = .ok (.getfield 136, 3) := by decide +kernel
theorem dX5_carry_11 : decode cX5_carry 11 = .ok (.aload_n 0, 1) := by decide +kernel
theorem dX5_carry_12 : decode cX5_carry 12 = .ok (.getfield 139, 3) := by decide +kernel
theorem dX5_carry_15 : decode cX5_carry 15 = .ok (.iload_n 1, 1) := by decide +kernel
theorem dX5_carry_16 : decode cX5_carry 16 = .ok (.iastore, 1) := by decide +kernel
theorem dX5_carry_17 : decode cX5_carry 17 = .ok (.aload_n 0, 1) := by decide +kernel
theorem dX5_carry_18 : decode cX5_carry 18 = .ok (.dup, 1) := by decide +kernel
theorem dX5_carry_19 : decode cX5_carry 19 = .ok (.getfield 139, 3) := by decide +kernel
theorem dX5_carry_22 : decode cX5_carry 22 = .ok (.iconst 1, 1) := by decide +kernel
theorem dX5_carry_23 : decode cX5_carry 23 = .ok (.iadd, 1) := by decide +kernel
theorem dX5_carry_24 : decode cX5_carry 24 = .ok (.putfield 139, 3) := by decide +kernel
theorem dX5_carry_27 : decode cX5_carry 27 = .ok (.aload_n 0, 1) := by decide +kernel
theorem dX5_carry_28 : decode cX5_carry 28 = .ok (.getfield 136, 3) := by decide +kernel
theorem dX5_carry_31 : decode cX5_carry 31 = .ok (.aload_n 0, 1) := by decide +kernel
theorem dX5_carry_32 : decode cX5_carry 32 = .ok (.getfield 139, 3) := by decide +kernel
theorem dX5_carry_35 : decode cX5_carry 35 = .ok (.iconst 1, 1) := by decide +kernel
theorem dX5_carry_36 : decode cX5_carry 36 = .ok (.isub, 1) := by decide +kernel
theorem dX5_carry_37 : decode cX5_carry 37 = .ok (.iaload, 1) := by decide +kernel
theorem dX5_carry_38 : decode cX5_carry 38 = .ok (.ireturn, 1) := by decide +kernel
theorem dX5_carryDays_0 : decode cX5_carryDays 0 = .ok (.aload_n 0, 1) := by decide +kernel
theorem dX5_carryDays_1 : decode cX5_carryDays 1 = .ok (.aload_n 1, 1) := by decide +kernel
theorem dX5_carryDays_2 : decode cX5_carryDays 2 = .ok (.putfield 136, 3) := by decide +kernel
theorem dX5_carryDays_5 : decode cX5_carryDays 5 = .ok (.aload_n 0, 1) := by decide +kernel
theorem dX5_carryDays_6 : decode cX5_carryDays 6 = .ok (.iload_n 2, 1) := by decide +kernel
theorem dX5_carryDays_7 : decode cX5_carryDays 7 = .ok (.putfield 132, 3) := by decide +kernel
theorem dX5_carryDays_10 : decode cX5_carryDays 10 = .ok (.aload_n 0, 1) := by decide +kernel
theorem dX5_carryDays_11 : decode cX5_carryDays 11 = .ok (.iconst 0, 1) := by decide +kernel
theorem dX5_carryDays_12 : decode cX5_carryDays 12 = .ok (.putfield 139, 3) := by decide +kernel
theorem dX5_carryDays_15 : decode cX5_carryDays 15 = .ok (.aload_n 0, 1) := by decide +kernel
theorem dX5_carryDays_16 : decode cX5_carryDays 16 = .ok (.aload_n 0, 1) := by decide +kernel
theorem dX5_carryDays_17 : decode cX5_carryDays 17 = .ok (.aload_n 0, 1) := by decide +kernel
theorem dX5_carryDays_18 : decode cX5_carryDays 18 = .ok (.getfield 78, 3) := by decide +kernel
theorem dX5_carryDays_21 : decode cX5_carryDays 21 = .ok (.invokevirtual 142, 3) := by decide +kernel
theorem dX5_carryDays_24 : decode cX5_carryDays 24 = .ok (.putfield 78, 3) := by decide +kernel
theorem dX5_carryDays_27 : decode cX5_carryDays 27 = .ok (.aload_n 0, 1) := by decide +kernel
theorem dX5_carryDays_28 : decode cX5_carryDays 28 = .ok (.aload_n 0, 1) := by decide +kernel
theorem dX5_carryDays_29 : decode cX5_carryDays 29 = .ok (.aload_n 0, 1) := by decide +kernel
theorem dX5_carryDays_30 : decode cX5_carryDays 30 = .ok (.getfield 96, 3) := by decide +kernel
theorem dX5_carryDays_33 : decode cX5_carryDays 33 = .ok (.invokevirtual 142, 3) := by decide +kernel
theorem dX5_carryDays_36 : decode cX5_carryDays 36 = .ok (.putfield 96, 3) := by decide +kernel
theorem dX5_carryDays_39 : decode cX5_carryDays 39 = .ok (.aload_n 0, 1) := by decide +kernel
theorem dX5_carryDays_40 : decode cX5_carryDays 40 = .ok (.aload_n 0, 1) := by decide +kernel
theorem dX5_carryDays_41 : decode cX5_carryDays 41 = .ok (.aload_n 0, 1) := by decide +kernel
theorem dX5_carryDays_42 : decode cX5_carryDays 42 = .ok (.getfield 85, 3) := by decide +kernel
theorem dX5_carryDays_45 : decode cX5_carryDays 45 = .ok (.invokevirtual 142, 3) := by decide +kernel
theorem dX5_carryDays_48 : decode cX5_carryDays 48 = .ok (.putfield 85, 3) := by decide +kernel
theorem dX5_carryDays_51 : decode cX5_carryDays 51 = .ok (.aload_n 0, 1) := by decide +kernel
theorem dX5_carryDays_52 : decode cX5_carryDays 52 = .ok (.aload_n 0, 1) := by decide +kernel
theorem dX5_carryDays_53 : decode cX5_carryDays 53 = .ok (.aload_n 0, 1) := by decide +kernel
theorem dX5_carryDays_54 : decode cX5_carryDays 54 = .ok (.getfield 122, 3) := by decide +kernel
theorem dX5_carryDays_57 : decode cX5_carryDays 57 = .ok (.invokevirtual 142, 3) := by decide +kernel
theorem dX5_carryDays_60 : decode cX5_carryDays 60 = .ok (.putfield 122, 3) := by decide +kernel
theorem dX5_carryDays_63 : decode cX5_carryDays 63 = .ok (.iconst 0, 1) := by decide +kernel
theorem dX5_carryDays_64 : decode cX5_carryDays 64 = .ok (.istore_n 3, 1) := by decide +kernel
theorem dX5_carryDays_65 : decode cX5_carryDays 65 = .ok (.iload_n 3, 1) := by decide +kernel
theorem dX5_carryDays_66 : decode cX5_carryDays 66 = .ok (.bipush 6, 2) := by decide +kernel
theorem dX5_carryDays_68 : decode cX5_carryDays 68 = .ok (.if_icmp .ge 25, 3) := by decide +kernel
theorem dX5_carryDays_71 : decode cX5_carryDays 71 = .ok (.aload_n 0, 1) := by decide +kernel
theorem dX5_carryDays_72 : decode cX5_carryDays 72 = .ok (.getfield 29, 3) := by decide +kernel
theorem dX5_carryDays_75 : decode cX5_carryDays 75 = .ok (.iload_n 3, 1) := by decide +kernel
theorem dX5_carryDays_76 : decode cX5_carryDays 76 = .ok (.aload_n 0, 1) := by decide +kernel
theorem dX5_carryDays_77 : decode cX5_carryDays 77 = .ok (.aload_n 0, 1) := by decide +kernel
theorem dX5_carryDays_78 : decode cX5_carryDays 78 = .ok (.getfield 29, 3) := by decide +kernel
theorem dX5_carryDays_81 : decode cX5_carryDays 81 = .ok (.iload_n 3, 1) := by decide +kernel
theorem dX5_carryDays_82 : decode cX5_carryDays 82 = .ok (.iaload, 1) := by decide +kernel
theorem dX5_carryDays_83 : decode cX5_carryDays 83 = .ok (.invokevirtual 142, 3) := by decide +kernel
theorem dX5_carryDays_86 : decode cX5_carryDays 86 = .ok (.iastore, 1) := by decide +kernel
theorem dX5_carryDays_87 : decode cX5_carryDays 87 = .ok (.iinc 3 1, 3) := by decide +kernel
theorem dX5_carryDays_90 : decode cX5_carryDays 90 = .ok (.goto (-25), 3) := by decide +kernel
theorem dX5_carryDays_93 : decode cX5_carryDays 93 = .ok (.iconst 0, 1) := by decide +kernel
theorem dX5_carryDays_94 : decode cX5_carryDays 94 = .ok (.istore_n 3, 1) := by decide +kernel
theorem dX5_carryDays_95 : decode cX5_carryDays 95 = .ok (.iload_n 3, 1) := by decide +kernel
theorem dX5_carryDays_96 : decode cX5_carryDays 96 = .ok (.sipush 462, 3) := by decide +kernel
theorem dX5_carryDays_99 : decode cX5_carryDays 99 = .ok (.if_icmp .ge 25, 3) := by decide +kernel
theorem dX5_carryDays_102 : decode cX5_carryDays 102 = .ok (.aload_n 0, 1) := by decide +kernel
theorem dX5_carryDays_103 : decode cX5_carryDays 103 = .ok (.getfield 32, 3) := by decide +kernel
theorem dX5_carryDays_106 : decode cX5_carryDays 106 = .ok (.iload_n 3, 1) := by decide +kernel
theorem dX5_carryDays_107 : decode cX5_carryDays 107 = .ok (.aload_n 0, 1) := by decide +kernel
theorem dX5_carryDays_108 : decode cX5_carryDays 108 = .ok (.aload_n 0, 1) := by decide +kernel
theorem dX5_carryDays_109 : decode cX5_carryDays 109 = .ok (.getfield 32, 3) := by decide +kernel
theorem dX5_carryDays_112 : decode cX5_carryDays 112 = .ok (.iload_n 3, 1) := by decide +kernel
theorem dX5_carryDays_113 : decode cX5_carryDays 113 = .ok (.iaload, 1) := by decide +kernel
theorem dX5_carryDays_114 : decode cX5_carryDays 114 = .ok (.invokevirtual 142, 3) := by decide +kernel
theorem dX5_carryDays_117 : decode cX5_carryDays 117 = .ok (.iastore, 1) := by decide +kernel
theorem dX5_carryDays_118 : decode cX5_carryDays 118 = .ok (.iinc 3 1, 3) := by decide +kernel
theorem dX5_carryDays_121 : decode cX5_carryDays 121 = .ok (.goto (-26), 3) := by decide +kernel
theorem dX5_carryDays_124 : decode cX5_carryDays 124 = .ok (.return_, 1) := by decide +kernel
theorem dX5_open_0 : decode cX5_open 0 = .ok (.aload_n 0, 1) := by decide +kernel
theorem dX5_open_1 : decode cX5_open 1 = .ok (.aload_n 0, 1) := by decide +kernel
theorem dX5_open_2 : decode cX5_open 2 = .ok (.getfield 41, 3) := by decide +kernel
theorem dX5_open_5 : decode cX5_open 5 = .ok (.iconst 1, 1) := by decide +kernel
theorem dX5_open_6 : decode cX5_open 6 = .ok (.invokevirtual 145, 3) := by decide +kernel
theorem dX5_open_9 : decode cX5_open 9 = .ok (.return_, 1) := by decide +kernel
theorem dX5_close_0 : decode cX5_close 0 = .ok (.aload_n 0, 1) := by decide +kernel
theorem dX5_close_1 : decode cX5_close 1 = .ok (.aload_n 0, 1) := by decide +kernel
theorem dX5_close_2 : decode cX5_close 2 = .ok (.getfield 41, 3) := by decide +kernel
theorem dX5_close_5 : decode cX5_close 5 = .ok (.iconst 0, 1) := by decide +kernel
theorem dX5_close_6 : decode cX5_close 6 = .ok (.invokevirtual 145, 3) := by decide +kernel
theorem dX5_close_9 : decode cX5_close 9 = .ok (.return_, 1) := by decide +kernel
theorem dX5_run_0 : decode cX5_run 0 = .ok (.iconst 0, 1) := by decide +kernel
theorem dX5_run_1 : decode cX5_run 1 = .ok (.istore_n 2, 1) := by decide +kernel
theorem dX5_run_2 : decode cX5_run 2 = .ok (.iload_n 2, 1) := by decide +kernel
theorem dX5_run_3 : decode cX5_run 3 = .ok (.iload_n 1, 1) := by decide +kernel
theorem dX5_run_4 : decode cX5_run 4 = .ok (.if_icmp .ge 13, 3) := by decide +kernel
theorem dX5_run_7 : decode cX5_run 7 = .ok (.aload_n 0, 1) := by decide +kernel
theorem dX5_run_8 : decode cX5_run 8 = .ok (.invokevirtual 149, 3) := by decide +kernel
theorem dX5_run_11 : decode cX5_run 11 = .ok (.iinc 2 1, 3) := by decide +kernel
theorem dX5_run_14 : decode cX5_run 14 = .ok (.goto (-12), 3) := by decide +kernel
theorem dX5_run_17 : decode cX5_run 17 = .ok (.return_, 1) := by decide +kernel
theorem dX5_all_0 : decode cX5_all 0 = .ok (.iconst 0, 1) := by decide +kernel
theorem dX5_all_1 : decode cX5_all 1 = .ok (.istore_n 1, 1) := by decide +kernel
theorem dX5_all_2 : decode cX5_all 2 = .ok (.iconst 0, 1) := by decide +kernel
theorem dX5_all_3 : decode cX5_all 3 = .ok (.istore_n 2, 1) := by decide +kernel
theorem dX5_all_4 : decode cX5_all 4 = .ok (.iload_n 2, 1) := by decide +kernel
theorem dX5_all_5 : decode cX5_all 5 = .ok (.aload_n 0, 1) := by decide +kernel
theorem dX5_all_6 : decode cX5_all 6 = .ok (.getfield 71, 3) := by decide +kernel
theorem dX5_all_9 : decode cX5_all 9 = .ok (.if_icmp .ge 18, 3) := by decide +kernel
theorem dX5_all_12 : decode cX5_all 12 = .ok (.iload_n 1, 1) := by decide +kernel
theorem dX5_all_13 : decode cX5_all 13 = .ok (.aload_n 0, 1) := by decide +kernel
theorem dX5_all_14 : decode cX5_all 14 = .ok (.getfield 29, 3) := by decide +kernel
theorem dX5_all_17 : decode cX5_all 17 = .ok (.iload_n 2, 1) := by decide +kernel
theorem dX5_all_18 : decode cX5_all 18 = .ok (.iaload, 1) := by decide +kernel
theorem dX5_all_19 : decode cX5_all 19 = .ok (.iadd, 1) := by decide +kernel
theorem dX5_all_20 : decode cX5_all 20 = .ok (.istore_n 1, 1) := by decide +kernel
theorem dX5_all_21 : decode cX5_all 21 = .ok (.iinc 2 1, 3) := by decide +kernel
theorem dX5_all_24 : decode cX5_all 24 = .ok (.goto (-20), 3) := by decide +kernel
theorem dX5_all_27 : decode cX5_all 27 = .ok (.iload_n 1, 1) := by decide +kernel
theorem dX5_all_28 : decode cX5_all 28 = .ok (.ireturn, 1) := by decide +kernel
theorem dX5_feed_0 : decode cX5_feed 0 = .ok (.aload_n 0, 1) := by decide +kernel
theorem dX5_feed_1 : decode cX5_feed 1 = .ok (.iconst 0, 1) := by decide +kernel
theorem dX5_feed_2 : decode cX5_feed 2 = .ok (.putfield 68, 3) := by decide +kernel
theorem dX5_feed_5 : decode cX5_feed 5 = .ok (.iload_n 1, 1) := by decide +kernel
theorem dX5_feed_6 : decode cX5_feed 6 = .ok (.ifCond .ge 10, 3) := by decide +kernel
theorem dX5_feed_9 : decode cX5_feed 9 = .ok (.aload_n 0, 1) := by decide +kernel
theorem dX5_feed_10 : decode cX5_feed 10 = .ok (.bipush (-4), 2) := by decide +kernel
theorem dX5_feed_12 : decode cX5_feed 12 = .ok (.invokevirtual 152, 3) := by decide +kernel
theorem dX5_feed_15 : decode cX5_feed 15 = .ok (.ireturn, 1) := by decide +kernel
theorem dX5_feed_16 : decode cX5_feed 16 = .ok (.iload_n 1, 1) := by decide +kernel
theorem dX5_feed_17 : decode cX5_feed 17 = .ok (.sipush 255, 3) := by decide +kernel
theorem dX5_feed_20 : decode cX5_feed 20 = .ok (.if_icmp .gt 12, 3) := by decide +kernel
theorem dX5_feed_23 : decode cX5_feed 23 = .ok (.aload_n 0, 1) := by decide +kernel
theorem dX5_feed_24 : decode cX5_feed 24 = .ok (.getfield 155, 3) := by decide +kernel
theorem dX5_feed_27 : decode cX5_feed 27 = .ok (.bipush 64, 2) := by decide +kernel
theorem dX5_feed_29 : decode cX5_feed 29 = .ok (.if_icmp .ne 10, 3) := by decide +kernel
theorem dX5_feed_32 : decode cX5_feed 32 = .ok (.aload_n 0, 1) := by decide +kernel
theorem dX5_feed_33 : decode cX5_feed 33 = .ok (.bipush (-6), 2) := by decide +kernel
theorem dX5_feed_35 : decode cX5_feed 35 = .ok (.invokevirtual 152, 3) := by decide +kernel
theorem dX5_feed_38 : decode cX5_feed 38 = .ok (.ireturn, 1) := by decide +kernel
theorem dX5_feed_39 : decode cX5_feed 39 = .ok (.aload_n 0, 1) := by decide +kernel
theorem dX5_feed_40 : decode cX5_feed 40 = .ok (.getfield 44, 3) := by decide +kernel
theorem dX5_feed_43 : decode cX5_feed 43 = .ok (.aload_n 0, 1) := by decide +kernel
theorem dX5_feed_44 : decode cX5_feed 44 = .ok (.getfield 155, 3) := by decide +kernel
theorem dX5_feed_47 : decode cX5_feed 47 = .ok (.iload_n 1, 1) := by decide +kernel
theorem dX5_feed_48 : decode cX5_feed 48 = .ok (.iastore, 1) := by decide +kernel
theorem dX5_feed_49 : decode cX5_feed 49 = .ok (.aload_n 0, 1) := by decide +kernel
theorem dX5_feed_50 : decode cX5_feed 50 = .ok (.dup, 1) := by decide +kernel
theorem dX5_feed_51 : decode cX5_feed 51 = .ok (.getfield 155, 3) := by decide +kernel
theorem dX5_feed_54 : decode cX5_feed 54 = .ok (.iconst 1, 1) := by decide +kernel
theorem dX5_feed_55 : decode cX5_feed 55 = .ok (.iadd, 1) := by decide +kernel
theorem dX5_feed_56 : decode cX5_feed 56 = .ok (.putfield 155, 3) := by decide +kernel
theorem dX5_feed_59 : decode cX5_feed 59 = .ok (.aload_n 0, 1) := by decide +kernel
theorem dX5_feed_60 : decode cX5_feed 60 = .ok (.getfield 155, 3) := by decide +kernel
theorem dX5_feed_63 : decode cX5_feed 63 = .ok (.ireturn, 1) := by decide +kernel
theorem dX5_here_0 : decode cX5_here 0 = .ok (.aload_n 0, 1) := by decide +kernel
theorem dX5_here_1 : decode cX5_here 1 = .ok (.getfield 158, 3) := by decide +kernel
theorem dX5_here_4 : decode cX5_here 4 = .ok (.aload_n 0, 1) := by decide +kernel
theorem dX5_here_5 : decode cX5_here 5 = .ok (.getfield 155, 3) := by decide +kernel
theorem dX5_here_8 : decode cX5_here 8 = .ok (.if_icmp .ge 15, 3) := by decide +kernel
theorem dX5_here_11 : decode cX5_here 11 = .ok (.aload_n 0, 1) := by decide +kernel
theorem dX5_here_12 : decode cX5_here 12 = .ok (.getfield 44, 3) := by decide +kernel
theorem dX5_here_15 : decode cX5_here 15 = .ok (.aload_n 0, 1) := by decide +kernel
theorem dX5_here_16 : decode cX5_here 16 = .ok (.getfield 158, 3) := by decide +kernel
theorem dX5_here_19 : decode cX5_here 19 = .ok (.iaload, 1) := by decide +kernel
theorem dX5_here_20 : decode cX5_here 20 = .ok (.goto 4, 3) := by decide +kernel
theorem dX5_here_23 : decode cX5_here 23 = .ok (.iconst (-1), 1) := by decide +kernel
theorem dX5_here_24 : decode cX5_here 24 = .ok (.ireturn, 1) := by decide +kernel
theorem dX5_readDigit_0 : decode cX5_readDigit 0 = .ok (.aload_n 0, 1) := by decide +kernel
theorem dX5_readDigit_1 : decode cX5_readDigit 1 = .ok (.aload_n 0, 1) := by decide +kernel
theorem dX5_readDigit_2 : decode cX5_readDigit 2 = .ok (.getfield 161, 3) := by decide +kernel
theorem dX5_readDigit_5 : decode cX5_readDigit 5 = .ok (.ifCond .ne 20, 3) := by decide +kernel
theorem dX5_readDigit_8 : decode cX5_readDigit 8 = .ok (.aload_n 0, 1) := by decide +kernel
theorem dX5_readDigit_9 : decode cX5_readDigit 9 = .ok (.invokevirtual 164, 3) := by decide +kernel
theorem dX5_readDigit_12 : decode cX5_readDigit 12 = .ok (.i2l, 1) := by decide +kernel
theorem dX5_readDigit_13 : decode cX5_readDigit 13 = .ok (.ldc2_w 168, 3) := by decide +kernel
theorem dX5_readDigit_16 : decode cX5_readDigit 16 = .ok (.ldc2_w 170, 3) := by decide +kernel
theorem dX5_readDigit_19 : decode cX5_readDigit 19 = .ok (.invokestatic 74, 3) := by decide +kernel
theorem dX5_readDigit_22 : decode cX5_readDigit 22 = .ok (.ifCond .ne 7, 3) := by decide +kernel
theorem dX5_readDigit_25 : decode cX5_readDigit 25 = .ok (.iconst 1, 1) := by decide +kernel
theorem dX5_readDigit_26 : decode cX5_readDigit 26 = .ok (.goto 4, 3) := by decide +kernel
theorem dX5_readDigit_29 : decode cX5_readDigit 29 = .ok (.iconst 0, 1) := by decide +kernel
theorem dX5_readDigit_30 : decode cX5_readDigit 30 = .ok (.putfield 161, 3) := by decide +kernel
theorem dX5_readDigit_33 : decode cX5_readDigit 33 = .ok (.aload_n 0, 1) := by decide +kernel
theorem dX5_readDigit_34 : decode cX5_readDigit 34 = .ok (.getfield 161, 3) := by decide +kernel
theorem dX5_readDigit_37 : decode cX5_readDigit 37 = .ok (.ifCond .eq 5, 3) := by decide +kernel
theorem dX5_readDigit_40 : decode cX5_readDigit 40 = .ok (.iconst 0, 1) := by decide +kernel
theorem dX5_readDigit_41 : decode cX5_readDigit 41 = .ok (.ireturn, 1) := by decide +kernel
theorem dX5_readDigit_42 : decode cX5_readDigit 42 = .ok (.aload_n 0, 1) := by decide +kernel
theorem dX5_readDigit_43 : decode cX5_readDigit 43 = .ok (.dup, 1) := by decide +kernel
theorem dX5_readDigit_44 : decode cX5_readDigit 44 = .ok (.getfield 158, 3) := by decide +kernel
theorem dX5_readDigit_47 : decode cX5_readDigit 47 = .ok (.iconst 1, 1) := by decide +kernel
theorem dX5_readDigit_48 : decode cX5_readDigit 48 = .ok (.iadd, 1) := by decide +kernel
theorem dX5_readDigit_49 : decode cX5_readDigit 49 = .ok (.putfield 158, 3) := by decide +kernel
theorem dX5_readDigit_52 : decode cX5_readDigit 52 = .ok (.aload_n 0, 1) := by decide +kernel
theorem dX5_readDigit_53 : decode cX5_readDigit 53 = .ok (.getfield 44, 3) := by decide +kernel
theorem dX5_readDigit_56 : decode cX5_readDigit 56 = .ok (.aload_n 0, 1) := by decide +kernel
theorem dX5_readDigit_57 : decode cX5_readDigit 57 = .ok (.getfield 158, 3) := by decide +kernel
theorem dX5_readDigit_60 : decode cX5_readDigit 60 = .ok (.iconst 1, 1) := by decide +kernel
theorem dX5_readDigit_61 : decode cX5_readDigit 61 = .ok (.isub, 1) := by decide +kernel
theorem dX5_readDigit_62 : decode cX5_readDigit 62 = .ok (.iaload, 1) := by decide +kernel
theorem dX5_readDigit_63 : decode cX5_readDigit 63 = .ok (.bipush 48, 2) := by decide +kernel
theorem dX5_readDigit_65 : decode cX5_readDigit 65 = .ok (.isub, 1) := by decide +kernel
theorem dX5_readDigit_66 : decode cX5_readDigit 66 = .ok (.ireturn, 1) := by decide +kernel
theorem dX5_readNumber_0 : decode cX5_readNumber 0 = .ok (.aload_n 0, 1) := by decide +kernel
theorem dX5_readNumber_1 : decode cX5_readNumber 1 = .ok (.invokevirtual 172, 3) := by decide +kernel
theorem dX5_readNumber_4 : decode cX5_readNumber 4 = .ok (.istore_n 2, 1) := by decide +kernel
theorem dX5_readNumber_5 : decode cX5_readNumber 5 = .ok (.iconst 1, 1) := by decide +kernel
theorem dX5_readNumber_6 : decode cX5_readNumber 6 = .ok (.istore_n 3, 1) := by decide +kernel
theorem dX5_readNumber_7 : decode cX5_readNumber 7 = .ok (.iload_n 3, 1) := by decide +kernel
theorem dX5_readNumber_8 : decode cX5_readNumber 8 = .ok (.iload_n 1, 1) := by decide +kernel
theorem dX5_readNumber_9 : decode cX5_readNumber 9 = .ok (.if_icmp .ge 56, 3) := by decide +kernel
theorem dX5_readNumber_12 : decode cX5_readNumber 12 = .ok (.aload_n 0, 1) := by decide +kernel
theorem dX5_readNumber_13 : decode cX5_readNumber 13 = .ok (.getfield 161, 3) := by decide +kernel
theorem dX5_readNumber_16 : decode cX5_readNumber 16 = .ok (.ifCond .ne 49, 3) := by decide +kernel
theorem dX5_readNumber_19 : decode cX5_readNumber 19 = .ok (.aload_n 0, 1) := by decide +kernel
theorem dX5_readNumber_20 : decode cX5_readNumber 20 = .ok (.invokevirtual 164, 3) := by decide +kernel
theorem dX5_readNumber_23 : decode cX5_readNumber 23 = .ok (.i2l, 1) := by decide +kernel
theorem dX5_readNumber_24 : decode cX5_readNumber 24 = .ok (.ldc2_w 168, 3) := by decide +kernel
theorem dX5_readNumber_27 : decode cX5_readNumber 27 = .ok (.ldc2_w 170, 3) := by decide +kernel
theorem dX5_readNumber_30 : decode cX5_readNumber 30 = .ok (.invokestatic 74, 3) := by decide +kernel
theorem dX5_readNumber_33 : decode cX5_readNumber 33 = .ok (.ifCond .eq 32, 3) := by decide +kernel
theorem dX5_readNumber_36 : decode cX5_readNumber 36 = .ok (.bipush 10, 2) := by decide +kernel
theorem dX5_readNumber_38 : decode cX5_readNumber 38 = .ok (.iload_n 2, 1) := by decide +kernel
theorem dX5_readNumber_39 : decode cX5_readNumber 39 = .ok (.imul, 1) := by decide +kernel
theorem dX5_readNumber_40 : decode cX5_readNumber 40 = .ok (.aload_n 0, 1) := by decide +kernel
theorem dX5_readNumber_41 : decode cX5_readNumber 41 = .ok (.invokevirtual 164, 3) := by decide +kernel
theorem dX5_readNumber_44 : decode cX5_readNumber 44 = .ok (.iadd, 1) := by decide +kernel
theorem dX5_readNumber_45 : decode cX5_readNumber 45 = .ok (.bipush 48, 2) := by decide +kernel
theorem dX5_readNumber_47 : decode cX5_readNumber 47 = .ok (.isub, 1) := by decide +kernel
theorem dX5_readNumber_48 : decode cX5_readNumber 48 = .ok (.istore_n 2, 1) := by decide +kernel
theorem dX5_readNumber_49 : decode cX5_readNumber 49 = .ok (.aload_n 0, 1) := by decide +kernel
theorem dX5_readNumber_50 : decode cX5_readNumber 50 = .ok (.dup, 1) := by decide +kernel
theorem dX5_readNumber_51 : decode cX5_readNumber 51 = .ok (.getfield 158, 3) := by decide +kernel
theorem dX5_readNumber_54 : decode cX5_readNumber 54 = .ok (.iconst 1, 1) := by decide +kernel
theorem dX5_readNumber_55 : decode cX5_readNumber 55 = .ok (.iadd, 1) := by decide +kernel
theorem dX5_readNumber_56 : decode cX5_readNumber 56 = .ok (.putfield 158, 3) := by decide +kernel
theorem dX5_readNumber_59 : decode cX5_readNumber 59 = .ok (.iinc 3 1, 3) := by decide +kernel
theorem dX5_readNumber_62 : decode cX5_readNumber 62 = .ok (.goto (-55), 3) := by decide +kernel
theorem dX5_readNumber_65 : decode cX5_readNumber 65 = .ok (.iload_n 2, 1) := by decide +kernel
theorem dX5_readNumber_66 : decode cX5_readNumber 66 = .ok (.ireturn, 1) := by decide +kernel
theorem dX5_take_0 : decode cX5_take 0 = .ok (.aload_n 0, 1) := by decide +kernel
theorem dX5_take_1 : decode cX5_take 1 = .ok (.aload_n 0, 1) := by decide +kernel
theorem dX5_take_2 : decode cX5_take 2 = .ok (.getfield 161, 3) := by decide +kernel
theorem dX5_take_5 : decode cX5_take 5 = .ok (.ifCond .ne 11, 3) := by decide +kernel
theorem dX5_take_8 : decode cX5_take 8 = .ok (.aload_n 0, 1) := by decide +kernel
theorem dX5_take_9 : decode cX5_take 9 = .ok (.invokevirtual 164, 3) := by decide +kernel
theorem dX5_take_12 : decode cX5_take 12 = .ok (.iload_n 1, 1) := by decide +kernel
theorem dX5_take_13 : decode cX5_take 13 = .ok (.if_icmp .eq 7, 3) := by decide +kernel
theorem dX5_take_16 : decode cX5_take 16 = .ok (.iconst 1, 1) := by decide +kernel
theorem dX5_take_17 : decode cX5_take 17 = .ok (.goto 4, 3) := by decide +kernel
theorem dX5_take_20 : decode cX5_take 20 = .ok (.iconst 0, 1) := by decide +kernel
theorem dX5_take_21 : decode cX5_take 21 = .ok (.putfield 161, 3) := by decide +kernel
theorem dX5_take_24 : decode cX5_take 24 = .ok (.aload_n 0, 1) := by decide +kernel
theorem dX5_take_25 : decode cX5_take 25 = .ok (.dup, 1) := by decide +kernel
theorem dX5_take_26 : decode cX5_take 26 = .ok (.getfield 158, 3) := by decide +kernel
theorem dX5_take_29 : decode cX5_take 29 = .ok (.aload_n 0, 1) := by decide +kernel
theorem dX5_take_30 : decode cX5_take 30 = .ok (.getfield 161, 3) := by decide +kernel
theorem dX5_take_33 : decode cX5_take 33 = .ok (.ifCond .eq 7, 3) := by decide +kernel
theorem dX5_take_36 : decode cX5_take 36 = .ok (.iconst 0, 1) := by decide +kernel
theorem dX5_take_37 : decode cX5_take 37 = .ok (.goto 4, 3) := by decide +kernel
theorem dX5_take_40 : decode cX5_take 40 = .ok (.iconst 1, 1) := by decide +kernel
theorem dX5_take_41 : decode cX5_take 41 = .ok (.iadd, 1) := by decide +kernel
theorem dX5_take_42 : decode cX5_take 42 = .ok (.putfield 158, 3) := by decide +kernel
theorem dX5_take_45 : decode cX5_take 45 = .ok (.return_, 1) := by decide +kernel
theorem dX5_readStatement_0 : decode cX5_readStatement 0 = .ok (.iconst 5, 1) := by decide +kernel
theorem dX5_readStatement_1 : decode cX5_readStatement 1 = .ok (.aload_n 0, 1) := by decide +kernel
theorem dX5_readStatement_2 : decode cX5_readStatement 2 = .ok (.getfield 175, 3) := by decide +kernel
theorem dX5_readStatement_5 : decode cX5_readStatement 5 = .ok (.imul, 1) := by decide +kernel
theorem dX5_readStatement_6 : decode cX5_readStatement 6 = .ok (.istore_n 1, 1) := by decide +kernel
theorem dX5_readStatement_7 : decode cX5_readStatement 7 = .ok (.aload_n 0, 1) := by decide +kernel
theorem dX5_readStatement_8 : decode cX5_readStatement 8 = .ok (.invokevirtual 164, 3) := by decide +kernel
theorem dX5_readStatement_11 : decode cX5_readStatement 11 = .ok (.istore_n 2, 1) := by decide +kernel
theorem dX5_readStatement_12 : decode cX5_readStatement 12 = .ok (.aload_n 0, 1) := by decide +kernel
theorem dX5_readStatement_13 : decode cX5_readStatement 13 = .ok (.getfield 47, 3) := by decide +kernel
theorem dX5_readStatement_16 : decode cX5_readStatement 16 = .ok (.aload_n 0, 1) := by decide +kernel
theorem dX5_readStatement_17 : decode cX5_readStatement 17 = .ok (.getfield 175, 3) := by decide +kernel
theorem dX5_readStatement_20 : decode cX5_readStatement 20 = .ok (.aload_n 0, 1) := by decide +kernel
theorem dX5_readStatement_21 : decode cX5_readStatement 21 = .ok (.getfield 158, 3) := by decide +kernel
theorem dX5_readStatement_24 : decode cX5_readStatement 24 = .ok (.iastore, 1) := by decide +kernel
theorem dX5_readStatement_25 : decode cX5_readStatement 25 = .ok (.aload_n 0, 1) := by decide +kernel
theorem dX5_readStatement_26 : decode cX5_readStatement 26 = .ok (.getfield 50, 3) := by decide +kernel
theorem dX5_readStatement_29 : decode cX5_readStatement 29 = .ok (.aload_n 0, 1) := by decide +kernel
theorem dX5_readStatement_30 : decode cX5_readStatement 30 = .ok (.getfield 175, 3) := by decide +kernel
theorem dX5_readStatement_33 : decode cX5_readStatement 33 = .ok (.iload_n 2, 1) := by decide +kernel
theorem dX5_readStatement_34 : decode cX5_readStatement 34 = .ok (.iastore, 1) := by decide +kernel
theorem dX5_readStatement_35 : decode cX5_readStatement 35 = .ok (.aload_n 0, 1) := by decide +kernel
theorem dX5_readStatement_36 : decode cX5_readStatement 36 = .ok (.aload_n 0, 1) := by decide +kernel
theorem dX5_readStatement_37 : decode cX5_readStatement 37 = .ok (.getfield 161, 3) := by decide +kernel
theorem dX5_readStatement_40 : decode cX5_readStatement 40 = .ok (.ifCond .ne 15, 3) := by decide +kernel
theorem dX5_readStatement_43 : decode cX5_readStatement 43 = .ok (.iload_n 2, 1) := by decide +kernel
theorem dX5_readStatement_44 : decode cX5_readStatement 44 = .ok (.bipush 112, 2) := by decide +kernel
theorem dX5_readStatement_46 : decode cX5_readStatement 46 = .ok (.if_icmp .eq 13, 3) := by decide +kernel
theorem dX5_readStatement_49 : decode cX5_readStatement 49 = .ok (.iload_n 2, 1) := by decide +kernel
theorem dX5_readStatement_50 : decode cX5_readStatement 50 = .ok (.bipush 108, 2) := by decide +kernel
theorem dX5_readStatement_52 : decode cX5_readStatement 52 = .ok (.if_icmp .eq 7, 3) := by decide +kernel
theorem dX5_readStatement_55 : decode cX5_readStatement 55 = .ok (.iconst 1, 1) := by decide +kernel
theorem dX5_readStatement_56 : decode cX5_readStatement 56 = .ok (.goto 4, 3) := by decide +kernel
theorem dX5_readStatement_59 : decode cX5_readStatement 59 = .ok (.iconst 0, 1) := by decide +kernel
theorem dX5_readStatement_60 : decode cX5_readStatement 60 = .ok (.putfield 161, 3) := by decide +kernel
theorem dX5_readStatement_63 : decode cX5_readStatement 63 = .ok (.aload_n 0, 1) := by decide +kernel
theorem dX5_readStatement_64 : decode cX5_readStatement 64 = .ok (.dup, 1) := by decide +kernel
theorem dX5_readStatement_65 : decode cX5_readStatement 65 = .ok (.getfield 158, 3) := by decide +kernel
theorem dX5_readStatement_68 : decode cX5_readStatement 68 = .ok (.aload_n 0, 1) := by decide +kernel
theorem dX5_readStatement_69 : decode cX5_readStatement 69 = .ok (.getfield 161, 3) := by decide +kernel
theorem dX5_readStatement_72 : decode cX5_readStatement 72 = .ok (.ifCond .eq 7, 3) := by decide +kernel
theorem dX5_readStatement_75 : decode cX5_readStatement 75 = .ok (.iconst 0, 1) := by decide +kernel
theorem dX5_readStatement_76 : decode cX5_readStatement 76 = .ok (.goto 4, 3) := by decide +kernel
theorem dX5_readStatement_79 : decode cX5_readStatement 79 = .ok (.iconst 1, 1) := by decide +kernel
theorem dX5_readStatement_80 : decode cX5_readStatement 80 = .ok (.iadd, 1) := by decide +kernel
theorem dX5_readStatement_81 : decode cX5_readStatement 81 = .ok (.putfield 158, 3) := by decide +kernel
theorem dX5_readStatement_84 : decode cX5_readStatement 84 = .ok (.iconst 0, 1) := by decide +kernel
theorem dX5_readStatement_85 : decode cX5_readStatement 85 = .ok (.istore_n 3, 1) := by decide +kernel
theorem dX5_readStatement_86 : decode cX5_readStatement 86 = .ok (.iload_n 3, 1) := by decide +kernel
theorem dX5_readStatement_87 : decode cX5_readStatement 87 = .ok (.iconst 3, 1) := by decide +kernel
theorem dX5_readStatement_88 : decode cX5_readStatement 88 = .ok (.if_icmp .ge 28, 3) := by decide +kernel
theorem dX5_readStatement_91 : decode cX5_readStatement 91 = .ok (.aload_n 0, 1) := by decide +kernel
theorem dX5_readStatement_92 : decode cX5_readStatement 92 = .ok (.getfield 161, 3) := by decide +kernel
theorem dX5_readStatement_95 : decode cX5_readStatement 95 = .ok (.ifCond .ne 21, 3) := by decide +kernel
theorem dX5_readStatement_98 : decode cX5_readStatement 98 = .ok (.aload_n 0, 1) := by decide +kernel
theorem dX5_readStatement_99 : decode cX5_readStatement 99 = .ok (.getfield 53, 3) := by decide +kernel
theorem dX5_readStatement_102 : decode cX5_readStatement 102 = .ok (.iload_n 1, 1) := by decide +kernel
theorem dX5_readStatement_103 : decode cX5_readStatement 103 = .ok (.iload_n 3, 1) := by decide +kernel
theorem dX5_readStatement_104 : decode cX5_readStatement 104 = .ok (.iadd, 1) := by decide +kernel
theorem dX5_readStatement_105 : decode cX5_readStatement 105 = .ok (.aload_n 0, 1) := by decide +kernel
theorem dX5_readStatement_106 : decode cX5_readStatement 106 = .ok (.invokevirtual 172, 3) := by decide +kernel
theorem dX5_readStatement_109 : decode cX5_readStatement 109 = .ok (.iastore, 1) := by decide +kernel
theorem dX5_readStatement_110 : decode cX5_readStatement 110 = .ok (.iinc 3 1, 3) := by decide +kernel
theorem dX5_readStatement_113 : decode cX5_readStatement 113 = .ok (.goto (-27), 3) := by decide +kernel
theorem dX5_readStatement_116 : decode cX5_readStatement 116 = .ok (.aload_n 0, 1) := by decide +kernel
theorem dX5_readStatement_117 : decode cX5_readStatement 117 = .ok (.getfield 161, 3) := by decide +kernel
theorem dX5_readStatement_120 : decode cX5_readStatement 120 = .ok (.ifCond .ne 52, 3) := by decide +kernel
theorem dX5_readStatement_123 : decode cX5_readStatement 123 = .ok (.iload_n 2, 1) := by decide +kernel
theorem dX5_readStatement_124 : decode cX5_readStatement 124 = .ok (.bipush 112, 2) := by decide +kernel
theorem dX5_readStatement_126 : decode cX5_readStatement 126 = .ok (.if_icmp .ne 46, 3) := by decide +kernel
theorem dX5_readStatement_129 : decode cX5_readStatement 129 = .ok (.aload_n 0, 1) := by decide +kernel
theorem dX5_readStatement_130 : decode cX5_readStatement 130 = .ok (.getfield 53, 3) := by decide +kernel
theorem dX5_readStatement_133 : decode cX5_readStatement 133 = .ok (.iload_n 1, 1) := by decide +kernel
theorem dX5_readStatement_134 : decode cX5_readStatement 134 = .ok (.iconst 3, 1) := by decide +kernel
theorem dX5_readStatement_135 : decode cX5_readStatement 135 = .ok (.iadd, 1) := by decide +kernel
theorem dX5_readStatement_136 : decode cX5_readStatement 136 = .ok (.aload_n 0, 1) := by decide +kernel
theorem dX5_readStatement_137 : decode cX5_readStatement 137 = .ok (.iconst 4, 1) := by decide +kernel
theorem dX5_readStatement_138 : decode cX5_readStatement 138 = .ok (.invokevirtual 178, 3) := by decide +kernel
theorem dX5_readStatement_141 : decode cX5_readStatement 141 = .ok (.iastore, 1) := by decide +kernel
theorem dX5_readStatement_142 : decode cX5_readStatement 142 = .ok (.aload_n 0, 1) := by decide +kernel
theorem dX5_readStatement_143 : decode cX5_readStatement 143 = .ok (.bipush 44, 2) := by decide +kernel
theorem dX5_readStatement_145 : decode cX5_readStatement 145 = .ok (.invokevirtual 181, 3) := by decide +kernel
theorem dX5_readStatement_148 : decode cX5_readStatement 148 = .ok (.aload_n 0, 1) := by decide +kernel
theorem dX5_readStatement_149 : decode cX5_readStatement 149 = .ok (.getfield 53, 3) := by decide +kernel
theorem dX5_readStatement_152 : decode cX5_readStatement 152 = .ok (.iload_n 1, 1) := by decide +kernel
theorem dX5_readStatement_153 : decode cX5_readStatement 153 = .ok (.iconst 4, 1) := by decide +kernel
theorem dX5_readStatement_154 : decode cX5_readStatement 154 = .ok (.iadd, 1) := by decide +kernel
theorem dX5_readStatement_155 : decode cX5_readStatement 155 = .ok (.aload_n 0, 1) := by decide +kernel
theorem dX5_readStatement_156 : decode cX5_readStatement 156 = .ok (.getfield 161, 3) := by decide +kernel
theorem dX5_readStatement_159 : decode cX5_readStatement 159 = .ok (.ifCond .eq 7, 3) := by decide +kernel
theorem dX5_readStatement_162 : decode cX5_readStatement 162 = .ok (.iconst 0, 1) := by decide +kernel
theorem dX5_readStatement_163 : decode cX5_readStatement 163 = .ok (.goto 8, 3) := by decide +kernel
theorem dX5_readStatement_166 : decode cX5_readStatement 166 = .ok (.aload_n 0, 1) := by decide +kernel
theorem dX5_readStatement_167 : decode cX5_readStatement 167 = .ok (.iconst 2, 1) := by decide +kernel
theorem dX5_readStatement_168 : decode cX5_readStatement 168 = .ok (.invokevirtual 178, 3) := by decide +kernel
theorem dX5_readStatement_171 : decode cX5_readStatement 171 = .ok (.iastore, 1) := by decide +kernel
theorem dX5_readStatement_172 : decode cX5_readStatement 172 = .ok (.aload_n 0, 1) := by decide +kernel
theorem dX5_readStatement_173 : decode cX5_readStatement 173 = .ok (.bipush 59, 2) := by decide +kernel
theorem dX5_readStatement_175 : decode cX5_readStatement 175 = .ok (.invokevirtual 181, 3) := by decide +kernel
theorem dX5_readStatement_178 : decode cX5_readStatement 178 = .ok (.aload_n 0, 1) := by decide +kernel
theorem dX5_readStatement_179 : decode cX5_readStatement 179 = .ok (.dup, 1) := by decide +kernel
theorem dX5_readStatement_180 : decode cX5_readStatement 180 = .ok (.getfield 175, 3) := by decide +kernel
theorem dX5_readStatement_183 : decode cX5_readStatement 183 = .ok (.iconst 1, 1) := by decide +kernel
theorem dX5_readStatement_184 : decode cX5_readStatement 184 = .ok (.iadd, 1) := by decide +kernel
theorem dX5_readStatement_185 : decode cX5_readStatement 185 = .ok (.putfield 175, 3) := by decide +kernel
theorem dX5_readStatement_188 : decode cX5_readStatement 188 = .ok (.return_, 1) := by decide +kernel
theorem dX5_isGood_0 : decode cX5_isGood 0 = .ok (.iconst 5, 1) := by decide +kernel
theorem dX5_isGood_1 : decode cX5_isGood 1 = .ok (.iload_n 1, 1) := by decide +kernel
theorem dX5_isGood_2 : decode cX5_isGood 2 = .ok (.imul, 1) := by decide +kernel
theorem dX5_isGood_3 : decode cX5_isGood 3 = .ok (.istore_n 2, 1) := by decide +kernel
theorem dX5_isGood_4 : decode cX5_isGood 4 = .ok (.aload_n 0, 1) := by decide +kernel
theorem dX5_isGood_5 : decode cX5_isGood 5 = .ok (.getfield 53, 3) := by decide +kernel
theorem dX5_isGood_8 : decode cX5_isGood 8 = .ok (.iload_n 2, 1) := by decide +kernel
theorem dX5_isGood_9 : decode cX5_isGood 9 = .ok (.iaload, 1) := by decide +kernel
theorem dX5_isGood_10 : decode cX5_isGood 10 = .ok (.istore_n 3, 1) := by decide +kernel
theorem dX5_isGood_11 : decode cX5_isGood 11 = .ok (.aload_n 0, 1) := by decide +kernel
theorem dX5_isGood_12 : decode cX5_isGood 12 = .ok (.getfield 53, 3) := by decide +kernel
theorem dX5_isGood_15 : decode cX5_isGood 15 = .ok (.iload_n 2, 1) := by decide +kernel
theorem dX5_isGood_16 : decode cX5_isGood 16 = .ok (.iconst 1, 1) := by decide +kernel
theorem dX5_isGood_17 : decode cX5_isGood 17 = .ok (.iadd, 1) := by decide +kernel
theorem dX5_isGood_18 : decode cX5_isGood 18 = .ok (.iaload, 1) := by decide +kernel
theorem dX5_isGood_19 : decode cX5_isGood 19 = .ok (.istore 4, 2) := by decide +kernel
theorem dX5_isGood_21 : decode cX5_isGood 21 = .ok (.aload_n 0, 1) := by decide +kernel
theorem dX5_isGood_22 : decode cX5_isGood 22 = .ok (.getfield 53, 3) := by decide +kernel
theorem dX5_isGood_25 : decode cX5_isGood 25 = .ok (.iload_n 2, 1) := by decide +kernel
theorem dX5_isGood_26 : decode cX5_isGood 26 = .ok (.iconst 2, 1) := by decide +kernel
theorem dX5_isGood_27 : decode cX5_isGood 27 = .ok (.iadd, 1) := by decide +kernel
theorem dX5_isGood_28 : decode cX5_isGood 28 = .ok (.iaload, 1) := by decide +kernel
theorem dX5_isGood_29 : decode cX5_isGood 29 = .ok (.istore 5, 2) := by decide +kernel
theorem dX5_isGood_31 : decode cX5_isGood 31 = .ok (.aload_n 0, 1) := by decide +kernel
theorem dX5_isGood_32 : decode cX5_isGood 32 = .ok (.getfield 50, 3) := by decide +kernel
theorem dX5_isGood_35 : decode cX5_isGood 35 = .ok (.iload_n 1, 1) := by decide +kernel
theorem dX5_isGood_36 : decode cX5_isGood 36 = .ok (.iaload, 1) := by decide +kernel
theorem dX5_isGood_37 : decode cX5_isGood 37 = .ok (.bipush 108, 2) := by decide +kernel
theorem dX5_isGood_39 : decode cX5_isGood 39 = .ok (.if_icmp .ne 35, 3) := by decide +kernel
theorem dX5_isGood_42 : decode cX5_isGood 42 = .ok (.iload_n 3, 1) := by decide +kernel
theorem dX5_isGood_43 : decode cX5_isGood 43 = .ok (.bipush 6, 2) := by decide +kernel
theorem dX5_isGood_45 : decode cX5_isGood 45 = .ok (.if_icmp .ge 27, 3) := by decide +kernel
theorem dX5_isGood_48 : decode cX5_isGood 48 = .ok (.iload 4, 2) := by decide +kernel
theorem dX5_isGood_50 : decode cX5_isGood 50 = .ok (.i2l, 1) := by decide +kernel
theorem dX5_isGood_51 : decode cX5_isGood 51 = .ok (.lconst 1, 1) := by decide +kernel
theorem dX5_isGood_52 : decode cX5_isGood 52 = .ok (.ldc2_w 184, 3) := by decide +kernel
theorem dX5_isGood_55 : decode cX5_isGood 55 = .ok (.invokestatic 74, 3) := by decide +kernel
theorem dX5_isGood_58 : decode cX5_isGood 58 = .ok (.ifCond .eq 14, 3) := by decide +kernel
theorem dX5_isGood_61 : decode cX5_isGood 61 = .ok (.iload 5, 2) := by decide +kernel
theorem dX5_isGood_63 : decode cX5_isGood 63 = .ok (.bipush 6, 2) := by decide +kernel
theorem dX5_isGood_65 : decode cX5_isGood 65 = .ok (.if_icmp .ge 7, 3) := by decide +kernel
theorem dX5_isGood_68 : decode cX5_isGood 68 = .ok (.iconst 1, 1) := by decide +kernel
theorem dX5_isGood_69 : decode cX5_isGood 69 = .ok (.goto 4, 3) := by decide +kernel
theorem dX5_isGood_72 : decode cX5_isGood 72 = .ok (.iconst 0, 1) := by decide +kernel
theorem dX5_isGood_73 : decode cX5_isGood 73 = .ok (.ireturn, 1) := by decide +kernel
theorem dX5_isGood_74 : decode cX5_isGood 74 = .ok (.iload_n 3, 1) := by decide +kernel
theorem dX5_isGood_75 : decode cX5_isGood 75 = .ok (.bipush 8, 2) := by decide +kernel
theorem dX5_isGood_77 : decode cX5_isGood 77 = .ok (.if_icmp .ge 39, 3) := by decide +kernel
theorem dX5_isGood_80 : decode cX5_isGood 80 = .ok (.iload 5, 2) := by decide +kernel
theorem dX5_isGood_82 : decode cX5_isGood 82 = .ok (.bipush 9, 2) := by decide +kernel
theorem dX5_isGood_84 : decode cX5_isGood 84 = .ok (.if_icmp .eq 12, 3) := by decide +kernel
theorem dX5_isGood_87 : decode cX5_isGood 87 = .ok (.iload 5, 2) := by decide +kernel
theorem dX5_isGood_89 : decode cX5_isGood 89 = .ok (.aload_n 0, 1) := by decide +kernel
theorem dX5_isGood_90 : decode cX5_isGood 90 = .ok (.getfield 186, 3) := by decide +kernel
theorem dX5_isGood_93 : decode cX5_isGood 93 = .ok (.if_icmp .gt 23, 3) := by decide +kernel
theorem dX5_isGood_96 : decode cX5_isGood 96 = .ok (.aload_n 0, 1) := by decide +kernel
theorem dX5_isGood_97 : decode cX5_isGood 97 = .ok (.getfield 186, 3) := by decide +kernel
theorem dX5_isGood_100 : decode cX5_isGood 100 = .ok (.bipush 6, 2) := by decide +kernel
theorem dX5_isGood_102 : decode cX5_isGood 102 = .ok (.if_icmp .ge 14, 3) := by decide +kernel
theorem dX5_isGood_105 : decode cX5_isGood 105 = .ok (.aload_n 0, 1) := by decide +kernel
theorem dX5_isGood_106 : decode cX5_isGood 106 = .ok (.getfield 78, 3) := by decide +kernel
theorem dX5_isGood_109 : decode cX5_isGood 109 = .ok (.ifCond .ne 7, 3) := by decide +kernel
theorem dX5_isGood_112 : decode cX5_isGood 112 = .ok (.iconst 1, 1) := by decide +kernel
theorem dX5_isGood_113 : decode cX5_isGood 113 = .ok (.goto 4, 3) := by decide +kernel
theorem dX5_isGood_116 : decode cX5_isGood 116 = .ok (.iconst 0, 1) := by decide +kernel
theorem dX5_isGood_117 : decode cX5_isGood 117 = .ok (.istore 6, 2) := by decide +kernel
theorem dX5_isGood_119 : decode cX5_isGood 119 = .ok (.aload_n 0, 1) := by decide +kernel
theorem dX5_isGood_120 : decode cX5_isGood 120 = .ok (.dup, 1) := by decide +kernel
theorem dX5_isGood_121 : decode cX5_isGood 121 = .ok (.getfield 186, 3) := by decide +kernel
theorem dX5_isGood_124 : decode cX5_isGood 124 = .ok (.iconst 1, 1) := by decide +kernel
theorem dX5_isGood_125 : decode cX5_isGood 125 = .ok (.iadd, 1) := by decide +kernel
theorem dX5_isGood_126 : decode cX5_isGood 126 = .ok (.putfield 186, 3) := by decide +kernel
theorem dX5_isGood_129 : decode cX5_isGood 129 = .ok (.iload 6, 2) := by decide +kernel
theorem dX5_isGood_131 : decode cX5_isGood 131 = .ok (.ireturn, 1) := by decide +kernel
theorem dX5_comes_0 : decode cX5_comes 0 = .ok (.iconst 5, 1) := by decide +kernel
theorem dX5_comes_1 : decode cX5_comes 1 = .ok (.iload_n 1, 1) := by decide +kernel
theorem dX5_comes_2 : decode cX5_comes 2 = .ok (.imul, 1) := by decide +kernel
theorem dX5_comes_3 : decode cX5_comes 3 = .ok (.istore_n 2, 1) := by decide +kernel
theorem dX5_comes_4 : decode cX5_comes 4 = .ok (.aload_n 0, 1) := by decide +kernel
theorem dX5_comes_5 : decode cX5_comes 5 = .ok (.getfield 50, 3) := by decide +kernel
theorem dX5_comes_8 : decode cX5_comes 8 = .ok (.iload_n 1, 1) := by decide +kernel
theorem dX5_comes_9 : decode cX5_comes 9 = .ok (.iaload, 1) := by decide +kernel
theorem dX5_comes_10 : decode cX5_comes 10 = .ok (.bipush 108, 2) := by decide +kernel
theorem dX5_comes_12 : decode cX5_comes 12 = .ok (.if_icmp .ne 38, 3) := by decide +kernel
theorem dX5_comes_15 : decode cX5_comes 15 = .ok (.aload_n 0, 1) := by decide +kernel
theorem dX5_comes_16 : decode cX5_comes 16 = .ok (.aload_n 0, 1) := by decide +kernel
theorem dX5_comes_17 : decode cX5_comes 17 = .ok (.getfield 53, 3) := by decide +kernel
theorem dX5_comes_20 : decode cX5_comes 20 = .ok (.iload_n 2, 1) := by decide +kernel
theorem dX5_comes_21 : decode cX5_comes 21 = .ok (.iaload, 1) := by decide +kernel
theorem dX5_comes_22 : decode cX5_comes 22 = .ok (.putfield 96, 3) := by decide +kernel
theorem dX5_comes_25 : decode cX5_comes 25 = .ok (.aload_n 0, 1) := by decide +kernel
theorem dX5_comes_26 : decode cX5_comes 26 = .ok (.aload_n 0, 1) := by decide +kernel
theorem dX5_comes_27 : decode cX5_comes 27 = .ok (.getfield 53, 3) := by decide +kernel
theorem dX5_comes_30 : decode cX5_comes 30 = .ok (.iload_n 2, 1) := by decide +kernel
theorem dX5_comes_31 : decode cX5_comes 31 = .ok (.iconst 1, 1) := by decide +kernel
theorem dX5_comes_32 : decode cX5_comes 32 = .ok (.iadd, 1) := by decide +kernel
theorem dX5_comes_33 : decode cX5_comes 33 = .ok (.iaload, 1) := by decide +kernel
theorem dX5_comes_34 : decode cX5_comes 34 = .ok (.putfield 7, 3) := by decide +kernel
theorem dX5_comes_37 : decode cX5_comes 37 = .ok (.aload_n 0, 1) := by decide +kernel
theorem dX5_comes_38 : decode cX5_comes 38 = .ok (.aload_n 0, 1) := by decide +kernel
theorem dX5_comes_39 : decode cX5_comes 39 = .ok (.getfield 53, 3) := by decide +kernel
theorem dX5_comes_42 : decode cX5_comes 42 = .ok (.iload_n 2, 1) := by decide +kernel
theorem dX5_comes_43 : decode cX5_comes 43 = .ok (.iconst 2, 1) := by decide +kernel
theorem dX5_comes_44 : decode cX5_comes 44 = .ok (.iadd, 1) := by decide +kernel
theorem dX5_comes_45 : decode cX5_comes 45 = .ok (.iaload, 1) := by decide +kernel
theorem dX5_comes_46 : decode cX5_comes 46 = .ok (.putfield 85, 3) := by decide +kernel
theorem dX5_comes_49 : decode cX5_comes 49 = .ok (.return_, 1) := by decide +kernel
theorem dX5_comes_50 : decode cX5_comes 50 = .ok (.aload_n 0, 1) := by decide +kernel
theorem dX5_comes_51 : decode cX5_comes 51 = .ok (.getfield 16, 3) := by decide +kernel
theorem dX5_comes_54 : decode cX5_comes 54 = .ok (.aload_n 0, 1) := by decide +kernel
theorem dX5_comes_55 : decode cX5_comes 55 = .ok (.getfield 71, 3) := by decide +kernel
theorem dX5_comes_58 : decode cX5_comes 58 = .ok (.aload_n 0, 1) := by decide +kernel
theorem dX5_comes_59 : decode cX5_comes 59 = .ok (.getfield 53, 3) := by decide +kernel
theorem dX5_comes_62 : decode cX5_comes 62 = .ok (.iload_n 2, 1) := by decide +kernel
theorem dX5_comes_63 : decode cX5_comes 63 = .ok (.iaload, 1) := by decide +kernel
theorem dX5_comes_64 : decode cX5_comes 64 = .ok (.iastore, 1) := by decide +kernel
theorem dX5_comes_65 : decode cX5_comes 65 = .ok (.aload_n 0, 1) := by decide +kernel
theorem dX5_comes_66 : decode cX5_comes 66 = .ok (.getfield 20, 3) := by decide +kernel
theorem dX5_comes_69 : decode cX5_comes 69 = .ok (.aload_n 0, 1) := by decide +kernel
theorem dX5_comes_70 : decode cX5_comes 70 = .ok (.getfield 71, 3) := by decide +kernel
theorem dX5_comes_73 : decode cX5_comes 73 = .ok (.aload_n 0, 1) := by decide +kernel
theorem dX5_comes_74 : decode cX5_comes 74 = .ok (.getfield 53, 3) := by decide +kernel
theorem dX5_comes_77 : decode cX5_comes 77 = .ok (.iload_n 2, 1) := by decide +kernel
theorem dX5_comes_78 : decode cX5_comes 78 = .ok (.iconst 1, 1) := by decide +kernel
theorem dX5_comes_79 : decode cX5_comes 79 = .ok (.iadd, 1) := by decide +kernel
theorem dX5_comes_80 : decode cX5_comes 80 = .ok (.iaload, 1) := by decide +kernel
theorem dX5_comes_81 : decode cX5_comes 81 = .ok (.iastore, 1) := by decide +kernel
theorem dX5_comes_82 : decode cX5_comes 82 = .ok (.aload_n 0, 1) := by decide +kernel
theorem dX5_comes_83 : decode cX5_comes 83 = .ok (.getfield 26, 3) := by decide +kernel
theorem dX5_comes_86 : decode cX5_comes 86 = .ok (.aload_n 0, 1) := by decide +kernel
theorem dX5_comes_87 : decode cX5_comes 87 = .ok (.getfield 71, 3) := by decide +kernel
theorem dX5_comes_90 : decode cX5_comes 90 = .ok (.aload_n 0, 1) := by decide +kernel
theorem dX5_comes_91 : decode cX5_comes 91 = .ok (.getfield 53, 3) := by decide +kernel
theorem dX5_comes_94 : decode cX5_comes 94 = .ok (.iload_n 2, 1) := by decide +kernel
theorem dX5_comes_95 : decode cX5_comes 95 = .ok (.iconst 2, 1) := by decide +kernel
theorem dX5_comes_96 : decode cX5_comes 96 = .ok (.iadd, 1) := by decide +kernel
theorem dX5_comes_97 : decode cX5_comes 97 = .ok (.iaload, 1) := by decide +kernel
theorem dX5_comes_98 : decode cX5_comes 98 = .ok (.iastore, 1) := by decide +kernel
theorem dX5_comes_99 : decode cX5_comes 99 = .ok (.aload_n 0, 1) := by decide +kernel
theorem dX5_comes_100 : decode cX5_comes 100 = .ok (.getfield 29, 3) := by decide +kernel
theorem dX5_comes_103 : decode cX5_comes 103 = .ok (.aload_n 0, 1) := by decide +kernel
theorem dX5_comes_104 : decode cX5_comes 104 = .ok (.getfield 71, 3) := by decide +kernel
theorem dX5_comes_107 : decode cX5_comes 107 = .ok (.aload_n 0, 1) := by decide +kernel
theorem dX5_comes_108 : decode cX5_comes 108 = .ok (.getfield 53, 3) := by decide +kernel
theorem dX5_comes_111 : decode cX5_comes 111 = .ok (.iload_n 2, 1) := by decide +kernel
theorem dX5_comes_112 : decode cX5_comes 112 = .ok (.iconst 3, 1) := by decide +kernel
theorem dX5_comes_113 : decode cX5_comes 113 = .ok (.iadd, 1) := by decide +kernel
theorem dX5_comes_114 : decode cX5_comes 114 = .ok (.iaload, 1) := by decide +kernel
theorem dX5_comes_115 : decode cX5_comes 115 = .ok (.iastore, 1) := by decide +kernel
theorem dX5_comes_116 : decode cX5_comes 116 = .ok (.aload_n 0, 1) := by decide +kernel
theorem dX5_comes_117 : decode cX5_comes 117 = .ok (.getfield 23, 3) := by decide +kernel
theorem dX5_comes_120 : decode cX5_comes 120 = .ok (.aload_n 0, 1) := by decide +kernel
theorem dX5_comes_121 : decode cX5_comes 121 = .ok (.getfield 71, 3) := by decide +kernel
theorem dX5_comes_124 : decode cX5_comes 124 = .ok (.aload_n 0, 1) := by decide +kernel
theorem dX5_comes_125 : decode cX5_comes 125 = .ok (.getfield 53, 3) := by decide +kernel
theorem dX5_comes_128 : decode cX5_comes 128 = .ok (.iload_n 2, 1) := by decide +kernel
theorem dX5_comes_129 : decode cX5_comes 129 = .ok (.iconst 4, 1) := by decide +kernel
theorem dX5_comes_130 : decode cX5_comes 130 = .ok (.iadd, 1) := by decide +kernel
theorem dX5_comes_131 : decode cX5_comes 131 = .ok (.iaload, 1) := by decide +kernel
theorem dX5_comes_132 : decode cX5_comes 132 = .ok (.iastore, 1) := by decide +kernel
theorem dX5_comes_133 : decode cX5_comes 133 = .ok (.aload_n 0, 1) := by decide +kernel
theorem dX5_comes_134 : decode cX5_comes 134 = .ok (.dup, 1) := by decide +kernel
theorem dX5_comes_135 : decode cX5_comes 135 = .ok (.getfield 71, 3) := by decide +kernel
theorem dX5_comes_138 : decode cX5_comes 138 = .ok (.iconst 1, 1) := by decide +kernel
theorem dX5_comes_139 : decode cX5_comes 139 = .ok (.iadd, 1) := by decide +kernel
theorem dX5_comes_140 : decode cX5_comes 140 = .ok (.putfield 71, 3) := by decide +kernel
theorem dX5_comes_143 : decode cX5_comes 143 = .ok (.return_, 1) := by decide +kernel
theorem dX5_land_0 : decode cX5_land 0 = .ok (.aload_n 0, 1) := by decide +kernel
theorem dX5_land_1 : decode cX5_land 1 = .ok (.iconst 0, 1) := by decide +kernel
theorem dX5_land_2 : decode cX5_land 2 = .ok (.putfield 68, 3) := by decide +kernel
theorem dX5_land_5 : decode cX5_land 5 = .ok (.aload_n 0, 1) := by decide +kernel
theorem dX5_land_6 : decode cX5_land 6 = .ok (.iconst 0, 1) := by decide +kernel
theorem dX5_land_7 : decode cX5_land 7 = .ok (.putfield 158, 3) := by decide +kernel
theorem dX5_land_10 : decode cX5_land 10 = .ok (.aload_n 0, 1) := by decide +kernel
theorem dX5_land_11 : decode cX5_land 11 = .ok (.iconst 0, 1) := by decide +kernel
theorem dX5_land_12 : decode cX5_land 12 = .ok (.putfield 161, 3) := by decide +kernel
theorem dX5_land_15 : decode cX5_land 15 = .ok (.aload_n 0, 1) := by decide +kernel
theorem dX5_land_16 : decode cX5_land 16 = .ok (.iconst 0, 1) := by decide +kernel
theorem dX5_land_17 : decode cX5_land 17 = .ok (.putfield 175, 3) := by decide +kernel
theorem dX5_land_20 : decode cX5_land 20 = .ok (.aload_n 0, 1) := by decide +kernel
theorem dX5_land_21 : decode cX5_land 21 = .ok (.getfield 161, 3) := by decide +kernel
theorem dX5_land_24 : decode cX5_land 24 = .ok (.ifCond .ne 28, 3) := by decide +kernel
theorem dX5_land_27 : decode cX5_land 27 = .ok (.aload_n 0, 1) := by decide +kernel
theorem dX5_land_28 : decode cX5_land 28 = .ok (.getfield 175, 3) := by decide +kernel
theorem dX5_land_31 : decode cX5_land 31 = .ok (.ifCond .eq 14, 3) := by decide +kernel
theorem dX5_land_34 : decode cX5_land 34 = .ok (.aload_n 0, 1) := by decide +kernel
theorem dX5_land_35 : decode cX5_land 35 = .ok (.getfield 158, 3) := by decide +kernel
theorem dX5_land_38 : decode cX5_land 38 = .ok (.aload_n 0, 1) := by decide +kernel
theorem dX5_land_39 : decode cX5_land 39 = .ok (.getfield 155, 3) := by decide +kernel
theorem dX5_land_42 : decode cX5_land 42 = .ok (.if_icmp .ge 10, 3) := by decide +kernel
theorem dX5_land_45 : decode cX5_land 45 = .ok (.aload_n 0, 1) := by decide +kernel
theorem dX5_land_46 : decode cX5_land 46 = .ok (.invokevirtual 189, 3) := by decide +kernel
theorem dX5_land_49 : decode cX5_land 49 = .ok (.goto (-29), 3) := by decide +kernel
theorem dX5_land_52 : decode cX5_land 52 = .ok (.aload_n 0, 1) := by decide +kernel
theorem dX5_land_53 : decode cX5_land 53 = .ok (.iconst 0, 1) := by decide +kernel
theorem dX5_land_54 : decode cX5_land 54 = .ok (.putfield 155, 3) := by decide +kernel
theorem dX5_land_57 : decode cX5_land 57 = .ok (.aload_n 0, 1) := by decide +kernel
theorem dX5_land_58 : decode cX5_land 58 = .ok (.getfield 161, 3) := by decide +kernel
theorem dX5_land_61 : decode cX5_land 61 = .ok (.ifCond .eq 12, 3) := by decide +kernel
theorem dX5_land_64 : decode cX5_land 64 = .ok (.sipush (-1000), 3) := by decide +kernel
theorem dX5_land_67 : decode cX5_land 67 = .ok (.aload_n 0, 1) := by decide +kernel
theorem dX5_land_68 : decode cX5_land 68 = .ok (.getfield 158, 3) := by decide +kernel
theorem dX5_land_71 : decode cX5_land 71 = .ok (.isub, 1) := by decide +kernel
theorem dX5_land_72 : decode cX5_land 72 = .ok (.ireturn, 1) := by decide +kernel
theorem dX5_land_73 : decode cX5_land 73 = .ok (.aload_n 0, 1) := by decide +kernel
theorem dX5_land_74 : decode cX5_land 74 = .ok (.aload_n 0, 1) := by decide +kernel
theorem dX5_land_75 : decode cX5_land 75 = .ok (.getfield 71, 3) := by decide +kernel
theorem dX5_land_78 : decode cX5_land 78 = .ok (.putfield 186, 3) := by decide +kernel
theorem dX5_land_81 : decode cX5_land 81 = .ok (.iconst 0, 1) := by decide +kernel
theorem dX5_land_82 : decode cX5_land 82 = .ok (.istore_n 1, 1) := by decide +kernel
theorem dX5_land_83 : decode cX5_land 83 = .ok (.iload_n 1, 1) := by decide +kernel
theorem dX5_land_84 : decode cX5_land 84 = .ok (.aload_n 0, 1) := by decide +kernel
theorem dX5_land_85 : decode cX5_land 85 = .ok (.getfield 175, 3) := by decide +kernel
theorem dX5_land_88 : decode cX5_land 88 = .ok (.if_icmp .ge 28, 3) := by decide +kernel
theorem dX5_land_91 : decode cX5_land 91 = .ok (.aload_n 0, 1) := by decide +kernel
theorem dX5_land_92 : decode cX5_land 92 = .ok (.iload_n 1, 1) := by decide +kernel
theorem dX5_land_93 : decode cX5_land 93 = .ok (.invokevirtual 192, 3) := by decide +kernel
theorem dX5_land_96 : decode cX5_land 96 = .ok (.ifCond .ne 14, 3) := by decide +kernel
theorem dX5_land_99 : decode cX5_land 99 = .ok (.sipush (-2000), 3) := by decide +kernel
theorem dX5_land_102 : decode cX5_land 102 = .ok (.aload_n 0, 1) := by decide +kernel
theorem dX5_land_103 : decode cX5_land 103 = .ok (.getfield 47, 3) := by decide +kernel
theorem dX5_land_106 : decode cX5_land 106 = .ok (.iload_n 1, 1) := by decide +kernel
theorem dX5_land_107 : decode cX5_land 107 = .ok (.iaload, 1) := by decide +kernel
theorem dX5_land_108 : decode cX5_land 108 = .ok (.isub, 1) := by decide +kernel
theorem dX5_land_109 : decode cX5_land 109 = .ok (.ireturn, 1) := by decide +kernel
theorem dX5_land_110 : decode cX5_land 110 = .ok (.iinc 1 1, 3) := by decide +kernel
theorem dX5_land_113 : decode cX5_land 113 = .ok (.goto (-30), 3) := by decide +kernel
theorem dX5_land_116 : decode cX5_land 116 = .ok (.iconst 0, 1) := by decide +kernel
theorem dX5_land_117 : decode cX5_land 117 = .ok (.istore_n 1, 1) := by decide +kernel
theorem dX5_land_118 : decode cX5_land 118 = .ok (.iload_n 1, 1) := by decide +kernel
theorem dX5_land_119 : decode cX5_land 119 = .ok (.aload_n 0, 1) := by decide +kernel
theorem dX5_land_120 : decode cX5_land 120 = .ok (.getfield 175, 3) := by decide +kernel
theorem dX5_land_123 : decode cX5_land 123 = .ok (.if_icmp .ge 14, 3) := by decide +kernel
theorem dX5_land_126 : decode cX5_land 126 = .ok (.aload_n 0, 1) := by decide +kernel
theorem dX5_land_127 : decode cX5_land 127 = .ok (.iload_n 1, 1) := by decide +kernel
theorem dX5_land_128 : decode cX5_land 128 = .ok (.invokevirtual 196, 3) := by decide +kernel
theorem dX5_land_131 : decode cX5_land 131 = .ok (.iinc 1 1, 3) := by decide +kernel
theorem dX5_land_134 : decode cX5_land 134 = .ok (.goto (-16), 3) := by decide +kernel
theorem dX5_land_137 : decode cX5_land 137 = .ok (.aload_n 0, 1) := by decide +kernel
theorem dX5_land_138 : decode cX5_land 138 = .ok (.getfield 175, 3) := by decide +kernel
theorem dX5_land_141 : decode cX5_land 141 = .ok (.ireturn, 1) := by decide +kernel
theorem dX5_person_0 : decode cX5_person 0 = .ok (.aload_n 0, 1) := by decide +kernel
theorem dX5_person_1 : decode cX5_person 1 = .ok (.iconst 0, 1) := by decide +kernel
theorem dX5_person_2 : decode cX5_person 2 = .ok (.putfield 68, 3) := by decide +kernel
theorem dX5_person_5 : decode cX5_person 5 = .ok (.aload_n 0, 1) := by decide +kernel
theorem dX5_person_6 : decode cX5_person 6 = .ok (.iload_n 1, 1) := by decide +kernel
theorem dX5_person_7 : decode cX5_person 7 = .ok (.invokevirtual 199, 3) := by decide +kernel
theorem dX5_person_10 : decode cX5_person 10 = .ok (.ifCond .eq 15, 3) := by decide +kernel
theorem dX5_person_13 : decode cX5_person 13 = .ok (.iload_n 2, 1) := by decide +kernel
theorem dX5_person_14 : decode cX5_person 14 = .ok (.i2l, 1) := by decide +kernel
theorem dX5_person_15 : decode cX5_person 15 = .ok (.lconst 0, 1) := by decide +kernel
theorem dX5_person_16 : decode cX5_person 16 = .ok (.ldc2_w 202, 3) := by decide +kernel
theorem dX5_person_19 : decode cX5_person 19 = .ok (.invokestatic 74, 3) := by decide +kernel
theorem dX5_person_22 : decode cX5_person 22 = .ok (.ifCond .ne 22, 3) := by decide +kernel
theorem dX5_person_25 : decode cX5_person 25 = .ok (.aload_n 0, 1) := by decide +kernel
theorem dX5_person_26 : decode cX5_person 26 = .ok (.aload_n 0, 1) := by decide +kernel
theorem dX5_person_27 : decode cX5_person 27 = .ok (.iload_n 1, 1) := by decide +kernel
theorem dX5_person_28 : decode cX5_person 28 = .ok (.invokevirtual 199, 3) := by decide +kernel
theorem dX5_person_31 : decode cX5_person 31 = .ok (.ifCond .ne 7, 3) := by decide +kernel
theorem dX5_person_34 : decode cX5_person 34 = .ok (.iconst (-1), 1) := by decide +kernel
theorem dX5_person_35 : decode cX5_person 35 = .ok (.goto 5, 3) := by decide +kernel
theorem dX5_person_38 : decode cX5_person 38 = .ok (.bipush (-2), 2) := by decide +kernel
theorem dX5_person_40 : decode cX5_person 40 = .ok (.invokevirtual 152, 3) := by decide +kernel
theorem dX5_person_43 : decode cX5_person 43 = .ok (.ireturn, 1) := by decide +kernel
theorem dX5_person_44 : decode cX5_person 44 = .ok (.iload_n 2, 1) := by decide +kernel
theorem dX5_person_45 : decode cX5_person 45 = .ok (.tableswitch 108 0 7 #[47, 54, 61, 68, 75, 82, 92, 98], 47) := by decide +kernel
theorem dX5_person_92 : decode cX5_person 92 = .ok (.aload_n 0, 1) := by decide +kernel
theorem dX5_person_93 : decode cX5_person 93 = .ok (.getfield 16, 3) := by decide +kernel
theorem dX5_person_96 : decode cX5_person 96 = .ok (.iload_n 1, 1) := by decide +kernel
theorem dX5_person_97 : decode cX5_person 97 = .ok (.iaload, 1) := by decide +kernel
theorem dX5_person_98 : decode cX5_person 98 = .ok (.ireturn, 1) := by decide +kernel
theorem dX5_person_99 : decode cX5_person 99 = .ok (.aload_n 0, 1) := by decide +kernel
theorem dX5_person_100 : decode cX5_person 100 = .ok (.getfield 20, 3) := by decide +kernel
theorem dX5_person_103 : decode cX5_person 103 = .ok (.iload_n 1, 1) := by decide +kernel
theorem dX5_person_104 : decode cX5_person 104 = .ok (.iaload, 1) := by decide +kernel
theorem dX5_person_105 : decode cX5_person 105 = .ok (.ireturn, 1) := by decide +kernel
theorem dX5_person_106 : decode cX5_person 106 = .ok (.aload_n 0, 1) := by decide +kernel
theorem dX5_person_107 : decode cX5_person 107 = .ok (.getfield 26, 3) := by decide +kernel
theorem dX5_person_110 : decode cX5_person 110 = .ok (.iload_n 1, 1) := by decide +kernel
theorem dX5_person_111 : decode cX5_person 111 = .ok (.iaload, 1) := by decide +kernel
theorem dX5_person_112 : decode cX5_person 112 = .ok (.ireturn, 1) := by decide +kernel
theorem dX5_person_113 : decode cX5_person 113 = .ok (.aload_n 0, 1) := by decide +kernel
theorem dX5_person_114 : decode cX5_person 114 = .ok (.getfield 29, 3) := by decide +kernel
theorem dX5_person_117 : decode cX5_person 117 = .ok (.iload_n 1, 1) := by decide +kernel
theorem dX5_person_118 : decode cX5_person 118 = .ok (.iaload, 1) := by decide +kernel
theorem dX5_person_119 : decode cX5_person 119 = .ok (.ireturn, 1) := by decide +kernel
theorem dX5_person_120 : decode cX5_person 120 = .ok (.aload_n 0, 1) := by decide +kernel
theorem dX5_person_121 : decode cX5_person 121 = .ok (.getfield 23, 3) := by decide +kernel
theorem dX5_person_124 : decode cX5_person 124 = .ok (.iload_n 1, 1) := by decide +kernel
theorem dX5_person_125 : decode cX5_person 125 = .ok (.iaload, 1) := by decide +kernel
theorem dX5_person_126 : decode cX5_person 126 = .ok (.ireturn, 1) := by decide +kernel
theorem dX5_person_127 : decode cX5_person 127 = .ok (.aload_n 0, 1) := by decide +kernel
theorem dX5_person_128 : decode cX5_person 128 = .ok (.aload_n 0, 1) := by decide +kernel
theorem dX5_person_129 : decode cX5_person 129 = .ok (.getfield 78, 3) := by decide +kernel
theorem dX5_person_132 : decode cX5_person 132 = .ok (.iload_n 1, 1) := by decide +kernel
theorem dX5_person_133 : decode cX5_person 133 = .ok (.invokevirtual 102, 3) := by decide +kernel
theorem dX5_person_136 : decode cX5_person 136 = .ok (.ireturn, 1) := by decide +kernel
theorem dX5_person_137 : decode cX5_person 137 = .ok (.aload_n 0, 1) := by decide +kernel
theorem dX5_person_138 : decode cX5_person 138 = .ok (.iload_n 1, 1) := by decide +kernel
theorem dX5_person_139 : decode cX5_person 139 = .ok (.invokevirtual 119, 3) := by decide +kernel
theorem dX5_person_142 : decode cX5_person 142 = .ok (.ireturn, 1) := by decide +kernel
theorem dX5_person_143 : decode cX5_person 143 = .ok (.aload_n 0, 1) := by decide +kernel
theorem dX5_person_144 : decode cX5_person 144 = .ok (.aload_n 0, 1) := by decide +kernel
theorem dX5_person_145 : decode cX5_person 145 = .ok (.getfield 78, 3) := by decide +kernel
theorem dX5_person_148 : decode cX5_person 148 = .ok (.iload_n 1, 1) := by decide +kernel
theorem dX5_person_149 : decode cX5_person 149 = .ok (.invokevirtual 204, 3) := by decide +kernel
theorem dX5_person_152 : decode cX5_person 152 = .ok (.ireturn, 1) := by decide +kernel
theorem dX5_person_153 : decode cX5_person 153 = .ok (.aload_n 0, 1) := by decide +kernel
theorem dX5_person_154 : decode cX5_person 154 = .ok (.aload_n 0, 1) := by decide +kernel
theorem dX5_person_155 : decode cX5_person 155 = .ok (.getfield 78, 3) := by decide +kernel
theorem dX5_person_158 : decode cX5_person 158 = .ok (.iconst 1, 1) := by decide +kernel
theorem dX5_person_159 : decode cX5_person 159 = .ok (.isub, 1) := by decide +kernel
theorem dX5_person_160 : decode cX5_person 160 = .ok (.iload_n 1, 1) := by decide +kernel
theorem dX5_person_161 : decode cX5_person 161 = .ok (.invokevirtual 92, 3) := by decide +kernel
theorem dX5_person_164 : decode cX5_person 164 = .ok (.ireturn, 1) := by decide +kernel
theorem dX5_put_0 : decode cX5_put 0 = .ok (.aload_n 0, 1) := by decide +kernel
theorem dX5_put_1 : decode cX5_put 1 = .ok (.iconst 0, 1) := by decide +kernel
theorem dX5_put_2 : decode cX5_put 2 = .ok (.putfield 68, 3) := by decide +kernel
theorem dX5_put_5 : decode cX5_put 5 = .ok (.aload_n 0, 1) := by decide +kernel
theorem dX5_put_6 : decode cX5_put 6 = .ok (.iload_n 1, 1) := by decide +kernel
theorem dX5_put_7 : decode cX5_put 7 = .ok (.invokevirtual 199, 3) := by decide +kernel
theorem dX5_put_10 : decode cX5_put 10 = .ok (.ifCond .eq 15, 3) := by decide +kernel
theorem dX5_put_13 : decode cX5_put 13 = .ok (.iload_n 2, 1) := by decide +kernel
theorem dX5_put_14 : decode cX5_put 14 = .ok (.i2l, 1) := by decide +kernel
theorem dX5_put_15 : decode cX5_put 15 = .ok (.lconst 0, 1) := by decide +kernel
theorem dX5_put_16 : decode cX5_put 16 = .ok (.ldc2_w 207, 3) := by decide +kernel
theorem dX5_put_19 : decode cX5_put 19 = .ok (.invokestatic 74, 3) := by decide +kernel
theorem dX5_put_22 : decode cX5_put 22 = .ok (.ifCond .ne 22, 3) := by decide +kernel
theorem dX5_put_25 : decode cX5_put 25 = .ok (.aload_n 0, 1) := by decide +kernel
theorem dX5_put_26 : decode cX5_put 26 = .ok (.aload_n 0, 1) := by decide +kernel
theorem dX5_put_27 : decode cX5_put 27 = .ok (.iload_n 1, 1) := by decide +kernel
theorem dX5_put_28 : decode cX5_put 28 = .ok (.invokevirtual 199, 3) := by decide +kernel
theorem dX5_put_31 : decode cX5_put 31 = .ok (.ifCond .ne 7, 3) := by decide +kernel
theorem dX5_put_34 : decode cX5_put 34 = .ok (.iconst (-1), 1) := by decide +kernel
theorem dX5_put_35 : decode cX5_put 35 = .ok (.goto 5, 3) := by decide +kernel
theorem dX5_put_38 : decode cX5_put 38 = .ok (.bipush (-2), 2) := by decide +kernel
theorem dX5_put_40 : decode cX5_put 40 = .ok (.invokevirtual 152, 3) := by decide +kernel
theorem dX5_put_43 : decode cX5_put 43 = .ok (.ireturn, 1) := by decide +kernel
theorem dX5_put_44 : decode cX5_put 44 = .ok (.iload_n 2, 1) := by decide +kernel
theorem dX5_put_45 : decode cX5_put 45 = .ok (.iconst 2, 1) := by decide +kernel
theorem dX5_put_46 : decode cX5_put 46 = .ok (.if_icmp .ne 41, 3) := by decide +kernel
theorem dX5_put_49 : decode cX5_put 49 = .ok (.aload_n 0, 1) := by decide +kernel
theorem dX5_put_50 : decode cX5_put 50 = .ok (.iload_n 3, 1) := by decide +kernel
theorem dX5_put_51 : decode cX5_put 51 = .ok (.invokevirtual 199, 3) := by decide +kernel
theorem dX5_put_54 : decode cX5_put 54 = .ok (.ifCond .ne 15, 3) := by decide +kernel
theorem dX5_put_57 : decode cX5_put 57 = .ok (.iload_n 3, 1) := by decide +kernel
theorem dX5_put_58 : decode cX5_put 58 = .ok (.bipush 9, 2) := by decide +kernel
theorem dX5_put_60 : decode cX5_put 60 = .ok (.if_icmp .eq 9, 3) := by decide +kernel
theorem dX5_put_63 : decode cX5_put 63 = .ok (.aload_n 0, 1) := by decide +kernel
theorem dX5_put_64 : decode cX5_put 64 = .ok (.iconst (-1), 1) := by decide +kernel
theorem dX5_put_65 : decode cX5_put 65 = .ok (.invokevirtual 152, 3) := by decide +kernel
theorem dX5_put_68 : decode cX5_put 68 = .ok (.ireturn, 1) := by decide +kernel
theorem dX5_put_69 : decode cX5_put 69 = .ok (.aload_n 0, 1) := by decide +kernel
theorem dX5_put_70 : decode cX5_put 70 = .ok (.getfield 26, 3) := by decide +kernel
theorem dX5_put_73 : decode cX5_put 73 = .ok (.iload_n 1, 1) := by decide +kernel
theorem dX5_put_74 : decode cX5_put 74 = .ok (.iaload, 1) := by decide +kernel
theorem dX5_put_75 : decode cX5_put 75 = .ok (.istore 4, 2) := by decide +kernel
theorem dX5_put_77 : decode cX5_put 77 = .ok (.aload_n 0, 1) := by decide +kernel
theorem dX5_put_78 : decode cX5_put 78 = .ok (.getfield 26, 3) := by decide +kernel
theorem dX5_put_81 : decode cX5_put 81 = .ok (.iload_n 1, 1) := by decide +kernel
theorem dX5_put_82 : decode cX5_put 82 = .ok (.iload_n 3, 1) := by decide +kernel
theorem dX5_put_83 : decode cX5_put 83 = .ok (.iastore, 1) := by decide +kernel
theorem dX5_put_84 : decode cX5_put 84 = .ok (.iload 4, 2) := by decide +kernel
theorem dX5_put_86 : decode cX5_put 86 = .ok (.ireturn, 1) := by decide +kernel
theorem dX5_put_87 : decode cX5_put 87 = .ok (.iload_n 3, 1) := by decide +kernel
theorem dX5_put_88 : decode cX5_put 88 = .ok (.ifCond .lt 19, 3) := by decide +kernel
theorem dX5_put_91 : decode cX5_put 91 = .ok (.iload_n 3, 1) := by decide +kernel
theorem dX5_put_92 : decode cX5_put 92 = .ok (.iload_n 2, 1) := by decide +kernel
theorem dX5_put_93 : decode cX5_put 93 = .ok (.ifCond .ne 9, 3) := by decide +kernel
theorem dX5_put_96 : decode cX5_put 96 = .ok (.sipush 9999, 3) := by decide +kernel
theorem dX5_put_99 : decode cX5_put 99 = .ok (.goto 5, 3) := by decide +kernel
theorem dX5_put_102 : decode cX5_put 102 = .ok (.bipush 99, 2) := by decide +kernel
theorem dX5_put_104 : decode cX5_put 104 = .ok (.if_icmp .le 19, 3) := by decide +kernel
theorem dX5_put_107 : decode cX5_put 107 = .ok (.aload_n 0, 1) := by decide +kernel
theorem dX5_put_108 : decode cX5_put 108 = .ok (.iload_n 3, 1) := by decide +kernel
theorem dX5_put_109 : decode cX5_put 109 = .ok (.ifCond .ge 8, 3) := by decide +kernel
theorem dX5_put_112 : decode cX5_put 112 = .ok (.bipush (-4), 2) := by decide +kernel
theorem dX5_put_114 : decode cX5_put 114 = .ok (.goto 5, 3) := by decide +kernel
theorem dX5_put_117 : decode cX5_put 117 = .ok (.bipush (-6), 2) := by decide +kernel
theorem dX5_put_119 : decode cX5_put 119 = .ok (.invokevirtual 152, 3) := by decide +kernel
theorem dX5_put_122 : decode cX5_put 122 = .ok (.ireturn, 1) := by decide +kernel
theorem dX5_put_123 : decode cX5_put 123 = .ok (.iload_n 2, 1) := by decide +kernel
theorem dX5_put_124 : decode cX5_put 124 = .ok (.ifCond .ne 12, 3) := by decide +kernel
theorem dX5_put_127 : decode cX5_put 127 = .ok (.aload_n 0, 1) := by decide +kernel
theorem dX5_put_128 : decode cX5_put 128 = .ok (.getfield 29, 3) := by decide +kernel
theorem dX5_put_131 : decode cX5_put 131 = .ok (.iload_n 1, 1) := by decide +kernel
theorem dX5_put_132 : decode cX5_put 132 = .ok (.iaload, 1) := by decide +kernel
theorem dX5_put_133 : decode cX5_put 133 = .ok (.goto 9, 3) := by decide +kernel
theorem dX5_put_136 : decode cX5_put 136 = .ok (.aload_n 0, 1) := by decide +kernel
theorem dX5_put_137 : decode cX5_put 137 = .ok (.getfield 23, 3) := by decide +kernel
theorem dX5_put_140 : decode cX5_put 140 = .ok (.iload_n 1, 1) := by decide +kernel
theorem dX5_put_141 : decode cX5_put 141 = .ok (.iaload, 1) := by decide +kernel
theorem dX5_put_142 : decode cX5_put 142 = .ok (.istore 4, 2) := by decide +kernel
theorem dX5_put_144 : decode cX5_put 144 = .ok (.aload_n 0, 1) := by decide +kernel
theorem dX5_put_145 : decode cX5_put 145 = .ok (.getfield 29, 3) := by decide +kernel
theorem dX5_put_148 : decode cX5_put 148 = .ok (.iload_n 1, 1) := by decide +kernel
theorem dX5_put_149 : decode cX5_put 149 = .ok (.iload_n 2, 1) := by decide +kernel
theorem dX5_put_150 : decode cX5_put 150 = .ok (.ifCond .ne 7, 3) := by decide +kernel
theorem dX5_put_153 : decode cX5_put 153 = .ok (.iload_n 3, 1) := by decide +kernel
theorem dX5_put_154 : decode cX5_put 154 = .ok (.goto 9, 3) := by decide +kernel
theorem dX5_put_157 : decode cX5_put 157 = .ok (.aload_n 0, 1) := by decide +kernel
theorem dX5_put_158 : decode cX5_put 158 = .ok (.getfield 29, 3) := by decide +kernel
theorem dX5_put_161 : decode cX5_put 161 = .ok (.iload_n 1, 1) := by decide +kernel
theorem dX5_put_162 : decode cX5_put 162 = .ok (.iaload, 1) := by decide +kernel
theorem dX5_put_163 : decode cX5_put 163 = .ok (.iastore, 1) := by decide +kernel
theorem dX5_put_164 : decode cX5_put 164 = .ok (.aload_n 0, 1) := by decide +kernel
theorem dX5_put_165 : decode cX5_put 165 = .ok (.getfield 23, 3) := by decide +kernel
theorem dX5_put_168 : decode cX5_put 168 = .ok (.iload_n 1, 1) := by decide +kernel
theorem dX5_put_169 : decode cX5_put 169 = .ok (.iload_n 2, 1) := by decide +kernel
theorem dX5_put_170 : decode cX5_put 170 = .ok (.iconst 1, 1) := by decide +kernel
theorem dX5_put_171 : decode cX5_put 171 = .ok (.if_icmp .ne 7, 3) := by decide +kernel
theorem dX5_put_174 : decode cX5_put 174 = .ok (.iload_n 3, 1) := by decide +kernel
theorem dX5_put_175 : decode cX5_put 175 = .ok (.goto 9, 3) := by decide +kernel
theorem dX5_put_178 : decode cX5_put 178 = .ok (.aload_n 0, 1) := by decide +kernel
theorem dX5_put_179 : decode cX5_put 179 = .ok (.getfield 23, 3) := by decide +kernel
theorem dX5_put_182 : decode cX5_put 182 = .ok (.iload_n 1, 1) := by decide +kernel
theorem dX5_put_183 : decode cX5_put 183 = .ok (.iaload, 1) := by decide +kernel
theorem dX5_put_184 : decode cX5_put 184 = .ok (.iastore, 1) := by decide +kernel
theorem dX5_put_185 : decode cX5_put 185 = .ok (.iload 4, 2) := by decide +kernel
theorem dX5_put_187 : decode cX5_put 187 = .ok (.ireturn, 1) := by decide +kernel
theorem dX5_set_0 : decode cX5_set 0 = .ok (.aload_n 0, 1) := by decide +kernel
theorem dX5_set_1 : decode cX5_set 1 = .ok (.iconst 0, 1) := by decide +kernel
theorem dX5_set_2 : decode cX5_set 2 = .ok (.putfield 68, 3) := by decide +kernel
theorem dX5_set_5 : decode cX5_set 5 = .ok (.iload_n 1, 1) := by decide +kernel
theorem dX5_set_6 : decode cX5_set 6 = .ok (.i2l, 1) := by decide +kernel
theorem dX5_set_7 : decode cX5_set 7 = .ok (.lconst 0, 1) := by decide +kernel
theorem dX5_set_8 : decode cX5_set 8 = .ok (.ldc2_w 209, 3) := by decide +kernel
theorem dX5_set_11 : decode cX5_set 11 = .ok (.invokestatic 74, 3) := by decide +kernel
theorem dX5_set_14 : decode cX5_set 14 = .ok (.ifCond .ne 10, 3) := by decide +kernel
theorem dX5_set_17 : decode cX5_set 17 = .ok (.aload_n 0, 1) := by decide +kernel
theorem dX5_set_18 : decode cX5_set 18 = .ok (.bipush (-2), 2) := by decide +kernel
theorem dX5_set_20 : decode cX5_set 20 = .ok (.invokevirtual 152, 3) := by decide +kernel
theorem dX5_set_23 : decode cX5_set 23 = .ok (.ireturn, 1) := by decide +kernel
theorem dX5_set_24 : decode cX5_set 24 = .ok (.iload_n 2, 1) := by decide +kernel
theorem dX5_set_25 : decode cX5_set 25 = .ok (.iload_n 1, 1) := by decide +kernel
theorem dX5_set_26 : decode cX5_set 26 = .ok (.iconst 1, 1) := by decide +kernel
theorem dX5_set_27 : decode cX5_set 27 = .ok (.if_icmp .ne 7, 3) := by decide +kernel
theorem dX5_set_30 : decode cX5_set 30 = .ok (.iconst 1, 1) := by decide +kernel
theorem dX5_set_31 : decode cX5_set 31 = .ok (.goto 4, 3) := by decide +kernel
theorem dX5_set_34 : decode cX5_set 34 = .ok (.iconst 0, 1) := by decide +kernel
theorem dX5_set_35 : decode cX5_set 35 = .ok (.if_icmp .lt 18, 3) := by decide +kernel
theorem dX5_set_38 : decode cX5_set 38 = .ok (.iload_n 2, 1) := by decide +kernel
theorem dX5_set_39 : decode cX5_set 39 = .ok (.iload_n 1, 1) := by decide +kernel
theorem dX5_set_40 : decode cX5_set 40 = .ok (.iconst 3, 1) := by decide +kernel
theorem dX5_set_41 : decode cX5_set 41 = .ok (.if_icmp .ne 8, 3) := by decide +kernel
theorem dX5_set_44 : decode cX5_set 44 = .ok (.bipush 99, 2) := by decide +kernel
theorem dX5_set_46 : decode cX5_set 46 = .ok (.goto 4, 3) := by decide +kernel
theorem dX5_set_49 : decode cX5_set 49 = .ok (.iconst 5, 1) := by decide +kernel
theorem dX5_set_50 : decode cX5_set 50 = .ok (.if_icmp .le 20, 3) := by decide +kernel
theorem dX5_set_53 : decode cX5_set 53 = .ok (.aload_n 0, 1) := by decide +kernel
theorem dX5_set_54 : decode cX5_set 54 = .ok (.iload_n 2, 1) := by decide +kernel
theorem dX5_set_55 : decode cX5_set 55 = .ok (.iconst 1, 1) := by decide +kernel
theorem dX5_set_56 : decode cX5_set 56 = .ok (.if_icmp .ge 8, 3) := by decide +kernel
theorem dX5_set_59 : decode cX5_set 59 = .ok (.bipush (-4), 2) := by decide +kernel
theorem dX5_set_61 : decode cX5_set 61 = .ok (.goto 5, 3) := by decide +kernel
theorem dX5_set_64 : decode cX5_set 64 = .ok (.bipush (-6), 2) := by decide +kernel
theorem dX5_set_66 : decode cX5_set 66 = .ok (.invokevirtual 152, 3) := by decide +kernel
theorem dX5_set_69 : decode cX5_set 69 = .ok (.ireturn, 1) := by decide +kernel
theorem dX5_set_70 : decode cX5_set 70 = .ok (.iload_n 1, 1) := by decide +kernel
theorem dX5_set_71 : decode cX5_set 71 = .ok (.ifCond .ne 10, 3) := by decide +kernel
theorem dX5_set_74 : decode cX5_set 74 = .ok (.aload_n 0, 1) := by decide +kernel
theorem dX5_set_75 : decode cX5_set 75 = .ok (.getfield 96, 3) := by decide +kernel
theorem dX5_set_78 : decode cX5_set 78 = .ok (.goto 31, 3) := by decide +kernel
theorem dX5_set_81 : decode cX5_set 81 = .ok (.iload_n 1, 1) := by decide +kernel
