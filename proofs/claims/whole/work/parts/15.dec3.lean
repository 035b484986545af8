theorem DM_X8_isPart_30 : decode (mC M_X8_isPart) 30 = .ok (.iconst 1, 1) := by decide +kernel
theorem DM_X8_isPart_31 : decode (mC M_X8_isPart) 31 = .ok (.goto 4, 3) := by decide +kernel
theorem DM_X8_isPart_34 : decode (mC M_X8_isPart) 34 = .ok (.iconst 0, 1) := by decide +kernel
theorem DM_X8_isPart_35 : decode (mC M_X8_isPart) 35 = .ok (.ireturn, 1) := by decide +kernel
theorem DM_X8_copy_0 : decode (mC M_X8_copy) 0 = .ok (.iload_n 1, 1) := by decide +kernel
theorem DM_X8_copy_1 : decode (mC M_X8_copy) 1 = .ok (.invokestatic 69, 3) := by decide +kernel
theorem DM_X8_copy_4 : decode (mC M_X8_copy) 4 = .ok (.ifCond .eq 10, 3) := by decide +kernel
theorem DM_X8_copy_7 : decode (mC M_X8_copy) 7 = .ok (.iload_n 3, 1) := by decide +kernel
theorem DM_X8_copy_8 : decode (mC M_X8_copy) 8 = .ok (.invokestatic 69, 3) := by decide +kernel
theorem DM_X8_copy_11 : decode (mC M_X8_copy) 11 = .ok (.ifCond .ne 6, 3) := by decide +kernel
theorem DM_X8_copy_14 : decode (mC M_X8_copy) 14 = .ok (.ldc 73, 2) := by decide +kernel
theorem DM_X8_copy_16 : decode (mC M_X8_copy) 16 = .ok (.ireturn, 1) := by decide +kernel
theorem DM_X8_copy_17 : decode (mC M_X8_copy) 17 = .ok (.aload_n 0, 1) := by decide +kernel
theorem DM_X8_copy_18 : decode (mC M_X8_copy) 18 = .ok (.iload_n 1, 1) := by decide +kernel
theorem DM_X8_copy_19 : decode (mC M_X8_copy) 19 = .ok (.invokevirtual 81, 3) := by decide +kernel
theorem DM_X8_copy_22 : decode (mC M_X8_copy) 22 = .ok (.ifCond .ne 11, 3) := by decide +kernel
theorem DM_X8_copy_25 : decode (mC M_X8_copy) 25 = .ok (.aload_n 0, 1) := by decide +kernel
theorem DM_X8_copy_26 : decode (mC M_X8_copy) 26 = .ok (.iload_n 3, 1) := by decide +kernel
theorem DM_X8_copy_27 : decode (mC M_X8_copy) 27 = .ok (.invokevirtual 81, 3) := by decide +kernel
theorem DM_X8_copy_30 : decode (mC M_X8_copy) 30 = .ok (.ifCond .eq 9, 3) := by decide +kernel
theorem DM_X8_copy_33 : decode (mC M_X8_copy) 33 = .ok (.aload_n 0, 1) := by decide +kernel
theorem DM_X8_copy_34 : decode (mC M_X8_copy) 34 = .ok (.iconst 1, 1) := by decide +kernel
theorem DM_X8_copy_35 : decode (mC M_X8_copy) 35 = .ok (.invokevirtual 74, 3) := by decide +kernel
theorem DM_X8_copy_38 : decode (mC M_X8_copy) 38 = .ok (.ireturn, 1) := by decide +kernel
theorem DM_X8_copy_39 : decode (mC M_X8_copy) 39 = .ok (.aload_n 0, 1) := by decide +kernel
theorem DM_X8_copy_40 : decode (mC M_X8_copy) 40 = .ok (.getfield 7, 3) := by decide +kernel
theorem DM_X8_copy_43 : decode (mC M_X8_copy) 43 = .ok (.iload_n 1, 1) := by decide +kernel
theorem DM_X8_copy_44 : decode (mC M_X8_copy) 44 = .ok (.iaload, 1) := by decide +kernel
theorem DM_X8_copy_45 : decode (mC M_X8_copy) 45 = .ok (.aload_n 0, 1) := by decide +kernel
theorem DM_X8_copy_46 : decode (mC M_X8_copy) 46 = .ok (.getfield 7, 3) := by decide +kernel
theorem DM_X8_copy_49 : decode (mC M_X8_copy) 49 = .ok (.iload_n 3, 1) := by decide +kernel
theorem DM_X8_copy_50 : decode (mC M_X8_copy) 50 = .ok (.iaload, 1) := by decide +kernel
theorem DM_X8_copy_51 : decode (mC M_X8_copy) 51 = .ok (.if_icmp .eq 9, 3) := by decide +kernel
theorem DM_X8_copy_54 : decode (mC M_X8_copy) 54 = .ok (.aload_n 0, 1) := by decide +kernel
theorem DM_X8_copy_55 : decode (mC M_X8_copy) 55 = .ok (.iconst 5, 1) := by decide +kernel
theorem DM_X8_copy_56 : decode (mC M_X8_copy) 56 = .ok (.invokevirtual 74, 3) := by decide +kernel
theorem DM_X8_copy_59 : decode (mC M_X8_copy) 59 = .ok (.ireturn, 1) := by decide +kernel
theorem DM_X8_copy_60 : decode (mC M_X8_copy) 60 = .ok (.aload_n 0, 1) := by decide +kernel
theorem DM_X8_copy_61 : decode (mC M_X8_copy) 61 = .ok (.iload_n 1, 1) := by decide +kernel
theorem DM_X8_copy_62 : decode (mC M_X8_copy) 62 = .ok (.iload_n 2, 1) := by decide +kernel
theorem DM_X8_copy_63 : decode (mC M_X8_copy) 63 = .ok (.iload 5, 2) := by decide +kernel
theorem DM_X8_copy_65 : decode (mC M_X8_copy) 65 = .ok (.invokevirtual 88, 3) := by decide +kernel
theorem DM_X8_copy_68 : decode (mC M_X8_copy) 68 = .ok (.ifCond .eq 15, 3) := by decide +kernel
theorem DM_X8_copy_71 : decode (mC M_X8_copy) 71 = .ok (.aload_n 0, 1) := by decide +kernel
theorem DM_X8_copy_72 : decode (mC M_X8_copy) 72 = .ok (.iload_n 3, 1) := by decide +kernel
theorem DM_X8_copy_73 : decode (mC M_X8_copy) 73 = .ok (.iload 4, 2) := by decide +kernel
theorem DM_X8_copy_75 : decode (mC M_X8_copy) 75 = .ok (.iload 5, 2) := by decide +kernel
theorem DM_X8_copy_77 : decode (mC M_X8_copy) 77 = .ok (.invokevirtual 88, 3) := by decide +kernel
theorem DM_X8_copy_80 : decode (mC M_X8_copy) 80 = .ok (.ifCond .ne 9, 3) := by decide +kernel
theorem DM_X8_copy_83 : decode (mC M_X8_copy) 83 = .ok (.aload_n 0, 1) := by decide +kernel
theorem DM_X8_copy_84 : decode (mC M_X8_copy) 84 = .ok (.iconst 2, 1) := by decide +kernel
theorem DM_X8_copy_85 : decode (mC M_X8_copy) 85 = .ok (.invokevirtual 74, 3) := by decide +kernel
theorem DM_X8_copy_88 : decode (mC M_X8_copy) 88 = .ok (.ireturn, 1) := by decide +kernel
theorem DM_X8_copy_89 : decode (mC M_X8_copy) 89 = .ok (.iconst 0, 1) := by decide +kernel
theorem DM_X8_copy_90 : decode (mC M_X8_copy) 90 = .ok (.istore 6, 2) := by decide +kernel
theorem DM_X8_copy_92 : decode (mC M_X8_copy) 92 = .ok (.iload 6, 2) := by decide +kernel
theorem DM_X8_copy_94 : decode (mC M_X8_copy) 94 = .ok (.iload 5, 2) := by decide +kernel
theorem DM_X8_copy_96 : decode (mC M_X8_copy) 96 = .ok (.if_icmp .ge 30, 3) := by decide +kernel
theorem DM_X8_copy_99 : decode (mC M_X8_copy) 99 = .ok (.aload_n 0, 1) := by decide +kernel
theorem DM_X8_copy_100 : decode (mC M_X8_copy) 100 = .ok (.getfield 19, 3) := by decide +kernel
theorem DM_X8_copy_103 : decode (mC M_X8_copy) 103 = .ok (.iload 6, 2) := by decide +kernel
theorem DM_X8_copy_105 : decode (mC M_X8_copy) 105 = .ok (.aload_n 0, 1) := by decide +kernel
theorem DM_X8_copy_106 : decode (mC M_X8_copy) 106 = .ok (.getfield 16, 3) := by decide +kernel
theorem DM_X8_copy_109 : decode (mC M_X8_copy) 109 = .ok (.bipush 40, 2) := by decide +kernel
theorem DM_X8_copy_111 : decode (mC M_X8_copy) 111 = .ok (.iload_n 1, 1) := by decide +kernel
theorem DM_X8_copy_112 : decode (mC M_X8_copy) 112 = .ok (.imul, 1) := by decide +kernel
theorem DM_X8_copy_113 : decode (mC M_X8_copy) 113 = .ok (.iload_n 2, 1) := by decide +kernel
theorem DM_X8_copy_114 : decode (mC M_X8_copy) 114 = .ok (.iadd, 1) := by decide +kernel
theorem DM_X8_copy_115 : decode (mC M_X8_copy) 115 = .ok (.iload 6, 2) := by decide +kernel
theorem DM_X8_copy_117 : decode (mC M_X8_copy) 117 = .ok (.iadd, 1) := by decide +kernel
theorem DM_X8_copy_118 : decode (mC M_X8_copy) 118 = .ok (.iaload, 1) := by decide +kernel
theorem DM_X8_copy_119 : decode (mC M_X8_copy) 119 = .ok (.iastore, 1) := by decide +kernel
theorem DM_X8_copy_120 : decode (mC M_X8_copy) 120 = .ok (.iinc 6 1, 3) := by decide +kernel
theorem DM_X8_copy_123 : decode (mC M_X8_copy) 123 = .ok (.goto (-31), 3) := by decide +kernel
theorem DM_X8_copy_126 : decode (mC M_X8_copy) 126 = .ok (.iconst 0, 1) := by decide +kernel
theorem DM_X8_copy_127 : decode (mC M_X8_copy) 127 = .ok (.istore 6, 2) := by decide +kernel
theorem DM_X8_copy_129 : decode (mC M_X8_copy) 129 = .ok (.iload 6, 2) := by decide +kernel
theorem DM_X8_copy_131 : decode (mC M_X8_copy) 131 = .ok (.iload 5, 2) := by decide +kernel
theorem DM_X8_copy_133 : decode (mC M_X8_copy) 133 = .ok (.if_icmp .ge 31, 3) := by decide +kernel
theorem DM_X8_copy_136 : decode (mC M_X8_copy) 136 = .ok (.aload_n 0, 1) := by decide +kernel
theorem DM_X8_copy_137 : decode (mC M_X8_copy) 137 = .ok (.getfield 16, 3) := by decide +kernel
theorem DM_X8_copy_140 : decode (mC M_X8_copy) 140 = .ok (.bipush 40, 2) := by decide +kernel
theorem DM_X8_copy_142 : decode (mC M_X8_copy) 142 = .ok (.iload_n 3, 1) := by decide +kernel
theorem DM_X8_copy_143 : decode (mC M_X8_copy) 143 = .ok (.imul, 1) := by decide +kernel
theorem DM_X8_copy_144 : decode (mC M_X8_copy) 144 = .ok (.iload 4, 2) := by decide +kernel
theorem DM_X8_copy_146 : decode (mC M_X8_copy) 146 = .ok (.iadd, 1) := by decide +kernel
theorem DM_X8_copy_147 : decode (mC M_X8_copy) 147 = .ok (.iload 6, 2) := by decide +kernel
theorem DM_X8_copy_149 : decode (mC M_X8_copy) 149 = .ok (.iadd, 1) := by decide +kernel
theorem DM_X8_copy_150 : decode (mC M_X8_copy) 150 = .ok (.aload_n 0, 1) := by decide +kernel
theorem DM_X8_copy_151 : decode (mC M_X8_copy) 151 = .ok (.getfield 19, 3) := by decide +kernel
theorem DM_X8_copy_154 : decode (mC M_X8_copy) 154 = .ok (.iload 6, 2) := by decide +kernel
theorem DM_X8_copy_156 : decode (mC M_X8_copy) 156 = .ok (.iaload, 1) := by decide +kernel
theorem DM_X8_copy_157 : decode (mC M_X8_copy) 157 = .ok (.iastore, 1) := by decide +kernel
theorem DM_X8_copy_158 : decode (mC M_X8_copy) 158 = .ok (.iinc 6 1, 3) := by decide +kernel
theorem DM_X8_copy_161 : decode (mC M_X8_copy) 161 = .ok (.goto (-32), 3) := by decide +kernel
theorem DM_X8_copy_164 : decode (mC M_X8_copy) 164 = .ok (.aload_n 0, 1) := by decide +kernel
theorem DM_X8_copy_165 : decode (mC M_X8_copy) 165 = .ok (.iload 5, 2) := by decide +kernel
theorem DM_X8_copy_167 : decode (mC M_X8_copy) 167 = .ok (.invokevirtual 78, 3) := by decide +kernel
theorem DM_X8_copy_170 : decode (mC M_X8_copy) 170 = .ok (.ireturn, 1) := by decide +kernel
theorem DM_X8_drop_0 : decode (mC M_X8_drop) 0 = .ok (.iload_n 1, 1) := by decide +kernel
theorem DM_X8_drop_1 : decode (mC M_X8_drop) 1 = .ok (.invokestatic 69, 3) := by decide +kernel
theorem DM_X8_drop_4 : decode (mC M_X8_drop) 4 = .ok (.ifCond .ne 6, 3) := by decide +kernel
theorem DM_X8_drop_7 : decode (mC M_X8_drop) 7 = .ok (.ldc 73, 2) := by decide +kernel
theorem DM_X8_drop_9 : decode (mC M_X8_drop) 9 = .ok (.ireturn, 1) := by decide +kernel
theorem DM_X8_drop_10 : decode (mC M_X8_drop) 10 = .ok (.aload_n 0, 1) := by decide +kernel
theorem DM_X8_drop_11 : decode (mC M_X8_drop) 11 = .ok (.iload_n 1, 1) := by decide +kernel
theorem DM_X8_drop_12 : decode (mC M_X8_drop) 12 = .ok (.invokevirtual 81, 3) := by decide +kernel
theorem DM_X8_drop_15 : decode (mC M_X8_drop) 15 = .ok (.ifCond .eq 9, 3) := by decide +kernel
theorem DM_X8_drop_18 : decode (mC M_X8_drop) 18 = .ok (.aload_n 0, 1) := by decide +kernel
theorem DM_X8_drop_19 : decode (mC M_X8_drop) 19 = .ok (.iconst 1, 1) := by decide +kernel
theorem DM_X8_drop_20 : decode (mC M_X8_drop) 20 = .ok (.invokevirtual 74, 3) := by decide +kernel
theorem DM_X8_drop_23 : decode (mC M_X8_drop) 23 = .ok (.ireturn, 1) := by decide +kernel
theorem DM_X8_drop_24 : decode (mC M_X8_drop) 24 = .ok (.aload_n 0, 1) := by decide +kernel
theorem DM_X8_drop_25 : decode (mC M_X8_drop) 25 = .ok (.getfield 7, 3) := by decide +kernel
theorem DM_X8_drop_28 : decode (mC M_X8_drop) 28 = .ok (.iload_n 1, 1) := by decide +kernel
theorem DM_X8_drop_29 : decode (mC M_X8_drop) 29 = .ok (.ldc 59, 2) := by decide +kernel
theorem DM_X8_drop_31 : decode (mC M_X8_drop) 31 = .ok (.iastore, 1) := by decide +kernel
theorem DM_X8_drop_32 : decode (mC M_X8_drop) 32 = .ok (.aload_n 0, 1) := by decide +kernel
theorem DM_X8_drop_33 : decode (mC M_X8_drop) 33 = .ok (.aload_n 0, 1) := by decide +kernel
theorem DM_X8_drop_34 : decode (mC M_X8_drop) 34 = .ok (.getfield 13, 3) := by decide +kernel
theorem DM_X8_drop_37 : decode (mC M_X8_drop) 37 = .ok (.iload_n 1, 1) := by decide +kernel
theorem DM_X8_drop_38 : decode (mC M_X8_drop) 38 = .ok (.iaload, 1) := by decide +kernel
theorem DM_X8_drop_39 : decode (mC M_X8_drop) 39 = .ok (.invokevirtual 78, 3) := by decide +kernel
theorem DM_X8_drop_42 : decode (mC M_X8_drop) 42 = .ok (.ireturn, 1) := by decide +kernel
theorem DM_X8_feed_0 : decode (mC M_X8_feed) 0 = .ok (.iload_n 1, 1) := by decide +kernel
theorem DM_X8_feed_1 : decode (mC M_X8_feed) 1 = .ok (.iconst 0, 1) := by decide +kernel
theorem DM_X8_feed_2 : decode (mC M_X8_feed) 2 = .ok (.sipush 255, 3) := by decide +kernel
theorem DM_X8_feed_5 : decode (mC M_X8_feed) 5 = .ok (.invokestatic 65, 3) := by decide +kernel
theorem DM_X8_feed_8 : decode (mC M_X8_feed) 8 = .ok (.ifCond .ne 6, 3) := by decide +kernel
theorem DM_X8_feed_11 : decode (mC M_X8_feed) 11 = .ok (.ldc 73, 2) := by decide +kernel
theorem DM_X8_feed_13 : decode (mC M_X8_feed) 13 = .ok (.ireturn, 1) := by decide +kernel
theorem DM_X8_feed_14 : decode (mC M_X8_feed) 14 = .ok (.aload_n 0, 1) := by decide +kernel
theorem DM_X8_feed_15 : decode (mC M_X8_feed) 15 = .ok (.getfield 91, 3) := by decide +kernel
theorem DM_X8_feed_18 : decode (mC M_X8_feed) 18 = .ok (.bipush 120, 2) := by decide +kernel
theorem DM_X8_feed_20 : decode (mC M_X8_feed) 20 = .ok (.if_icmp .ne 6, 3) := by decide +kernel
theorem DM_X8_feed_23 : decode (mC M_X8_feed) 23 = .ok (.ldc 94, 2) := by decide +kernel
theorem DM_X8_feed_25 : decode (mC M_X8_feed) 25 = .ok (.ireturn, 1) := by decide +kernel
theorem DM_X8_feed_26 : decode (mC M_X8_feed) 26 = .ok (.aload_n 0, 1) := by decide +kernel
theorem DM_X8_feed_27 : decode (mC M_X8_feed) 27 = .ok (.getfield 22, 3) := by decide +kernel
theorem DM_X8_feed_30 : decode (mC M_X8_feed) 30 = .ok (.aload_n 0, 1) := by decide +kernel
theorem DM_X8_feed_31 : decode (mC M_X8_feed) 31 = .ok (.getfield 91, 3) := by decide +kernel
theorem DM_X8_feed_34 : decode (mC M_X8_feed) 34 = .ok (.iload_n 1, 1) := by decide +kernel
theorem DM_X8_feed_35 : decode (mC M_X8_feed) 35 = .ok (.iastore, 1) := by decide +kernel
theorem DM_X8_feed_36 : decode (mC M_X8_feed) 36 = .ok (.aload_n 0, 1) := by decide +kernel
theorem DM_X8_feed_37 : decode (mC M_X8_feed) 37 = .ok (.dup, 1) := by decide +kernel
theorem DM_X8_feed_38 : decode (mC M_X8_feed) 38 = .ok (.getfield 91, 3) := by decide +kernel
theorem DM_X8_feed_41 : decode (mC M_X8_feed) 41 = .ok (.iconst 1, 1) := by decide +kernel
theorem DM_X8_feed_42 : decode (mC M_X8_feed) 42 = .ok (.iadd, 1) := by decide +kernel
theorem DM_X8_feed_43 : decode (mC M_X8_feed) 43 = .ok (.putfield 91, 3) := by decide +kernel
theorem DM_X8_feed_46 : decode (mC M_X8_feed) 46 = .ok (.aload_n 0, 1) := by decide +kernel
theorem DM_X8_feed_47 : decode (mC M_X8_feed) 47 = .ok (.getfield 91, 3) := by decide +kernel
theorem DM_X8_feed_50 : decode (mC M_X8_feed) 50 = .ok (.ireturn, 1) := by decide +kernel
theorem DM_X8_byteAt_0 : decode (mC M_X8_byteAt) 0 = .ok (.iload_n 1, 1) := by decide +kernel
theorem DM_X8_byteAt_1 : decode (mC M_X8_byteAt) 1 = .ok (.aload_n 0, 1) := by decide +kernel
theorem DM_X8_byteAt_2 : decode (mC M_X8_byteAt) 2 = .ok (.getfield 91, 3) := by decide +kernel
theorem DM_X8_byteAt_5 : decode (mC M_X8_byteAt) 5 = .ok (.if_icmp .ge 12, 3) := by decide +kernel
theorem DM_X8_byteAt_8 : decode (mC M_X8_byteAt) 8 = .ok (.aload_n 0, 1) := by decide +kernel
theorem DM_X8_byteAt_9 : decode (mC M_X8_byteAt) 9 = .ok (.getfield 22, 3) := by decide +kernel
theorem DM_X8_byteAt_12 : decode (mC M_X8_byteAt) 12 = .ok (.iload_n 1, 1) := by decide +kernel
theorem DM_X8_byteAt_13 : decode (mC M_X8_byteAt) 13 = .ok (.iaload, 1) := by decide +kernel
theorem DM_X8_byteAt_14 : decode (mC M_X8_byteAt) 14 = .ok (.goto 4, 3) := by decide +kernel
theorem DM_X8_byteAt_17 : decode (mC M_X8_byteAt) 17 = .ok (.iconst (-1), 1) := by decide +kernel
theorem DM_X8_byteAt_18 : decode (mC M_X8_byteAt) 18 = .ok (.ireturn, 1) := by decide +kernel
theorem DM_X8_advances_0 : decode (mC M_X8_advances) 0 = .ok (.aload_n 0, 1) := by decide +kernel
theorem DM_X8_advances_1 : decode (mC M_X8_advances) 1 = .ok (.aload_n 0, 1) := by decide +kernel
theorem DM_X8_advances_2 : decode (mC M_X8_advances) 2 = .ok (.getfield 95, 3) := by decide +kernel
theorem DM_X8_advances_5 : decode (mC M_X8_advances) 5 = .ok (.putfield 98, 3) := by decide +kernel
theorem DM_X8_advances_8 : decode (mC M_X8_advances) 8 = .ok (.aload_n 0, 1) := by decide +kernel
theorem DM_X8_advances_9 : decode (mC M_X8_advances) 9 = .ok (.aload_n 0, 1) := by decide +kernel
theorem DM_X8_advances_10 : decode (mC M_X8_advances) 10 = .ok (.getfield 95, 3) := by decide +kernel
theorem DM_X8_advances_13 : decode (mC M_X8_advances) 13 = .ok (.invokevirtual 101, 3) := by decide +kernel
theorem DM_X8_advances_16 : decode (mC M_X8_advances) 16 = .ok (.istore_n 1, 1) := by decide +kernel
theorem DM_X8_advances_17 : decode (mC M_X8_advances) 17 = .ok (.aload_n 0, 1) := by decide +kernel
theorem DM_X8_advances_18 : decode (mC M_X8_advances) 18 = .ok (.iload_n 1, 1) := by decide +kernel
theorem DM_X8_advances_19 : decode (mC M_X8_advances) 19 = .ok (.putfield 104, 3) := by decide +kernel
theorem DM_X8_advances_22 : decode (mC M_X8_advances) 22 = .ok (.iload_n 1, 1) := by decide +kernel
theorem DM_X8_advances_23 : decode (mC M_X8_advances) 23 = .ok (.bipush 48, 2) := by decide +kernel
theorem DM_X8_advances_25 : decode (mC M_X8_advances) 25 = .ok (.bipush 57, 2) := by decide +kernel
theorem DM_X8_advances_27 : decode (mC M_X8_advances) 27 = .ok (.invokestatic 65, 3) := by decide +kernel
theorem DM_X8_advances_30 : decode (mC M_X8_advances) 30 = .ok (.ifCond .eq 105, 3) := by decide +kernel
theorem DM_X8_advances_33 : decode (mC M_X8_advances) 33 = .ok (.aload_n 0, 1) := by decide +kernel
theorem DM_X8_advances_34 : decode (mC M_X8_advances) 34 = .ok (.iconst 0, 1) := by decide +kernel
theorem DM_X8_advances_35 : decode (mC M_X8_advances) 35 = .ok (.putfield 104, 3) := by decide +kernel
theorem DM_X8_advances_38 : decode (mC M_X8_advances) 38 = .ok (.aload_n 0, 1) := by decide +kernel
theorem DM_X8_advances_39 : decode (mC M_X8_advances) 39 = .ok (.aload_n 0, 1) := by decide +kernel
theorem DM_X8_advances_40 : decode (mC M_X8_advances) 40 = .ok (.getfield 95, 3) := by decide +kernel
theorem DM_X8_advances_43 : decode (mC M_X8_advances) 43 = .ok (.invokevirtual 101, 3) := by decide +kernel
theorem DM_X8_advances_46 : decode (mC M_X8_advances) 46 = .ok (.bipush 48, 2) := by decide +kernel
theorem DM_X8_advances_48 : decode (mC M_X8_advances) 48 = .ok (.bipush 57, 2) := by decide +kernel
theorem DM_X8_advances_50 : decode (mC M_X8_advances) 50 = .ok (.invokestatic 65, 3) := by decide +kernel
theorem DM_X8_advances_53 : decode (mC M_X8_advances) 53 = .ok (.ifCond .eq 59, 3) := by decide +kernel
theorem DM_X8_advances_56 : decode (mC M_X8_advances) 56 = .ok (.aload_n 0, 1) := by decide +kernel
theorem DM_X8_advances_57 : decode (mC M_X8_advances) 57 = .ok (.aload_n 0, 1) := by decide +kernel
theorem DM_X8_advances_58 : decode (mC M_X8_advances) 58 = .ok (.getfield 95, 3) := by decide +kernel
theorem DM_X8_advances_61 : decode (mC M_X8_advances) 61 = .ok (.aload_n 0, 1) := by decide +kernel
theorem DM_X8_advances_62 : decode (mC M_X8_advances) 62 = .ok (.getfield 98, 3) := by decide +kernel
theorem DM_X8_advances_65 : decode (mC M_X8_advances) 65 = .ok (.isub, 1) := by decide +kernel
theorem DM_X8_advances_66 : decode (mC M_X8_advances) 66 = .ok (.iconst 2, 1) := by decide +kernel
theorem DM_X8_advances_67 : decode (mC M_X8_advances) 67 = .ok (.if_icmp .ge 25, 3) := by decide +kernel
theorem DM_X8_advances_70 : decode (mC M_X8_advances) 70 = .ok (.bipush 10, 2) := by decide +kernel
theorem DM_X8_advances_72 : decode (mC M_X8_advances) 72 = .ok (.aload_n 0, 1) := by decide +kernel
theorem DM_X8_advances_73 : decode (mC M_X8_advances) 73 = .ok (.getfield 104, 3) := by decide +kernel
theorem DM_X8_advances_76 : decode (mC M_X8_advances) 76 = .ok (.imul, 1) := by decide +kernel
theorem DM_X8_advances_77 : decode (mC M_X8_advances) 77 = .ok (.aload_n 0, 1) := by decide +kernel
theorem DM_X8_advances_78 : decode (mC M_X8_advances) 78 = .ok (.aload_n 0, 1) := by decide +kernel
theorem DM_X8_advances_79 : decode (mC M_X8_advances) 79 = .ok (.getfield 95, 3) := by decide +kernel
theorem DM_X8_advances_82 : decode (mC M_X8_advances) 82 = .ok (.invokevirtual 101, 3) := by decide +kernel
theorem DM_X8_advances_85 : decode (mC M_X8_advances) 85 = .ok (.iadd, 1) := by decide +kernel
theorem DM_X8_advances_86 : decode (mC M_X8_advances) 86 = .ok (.bipush 48, 2) := by decide +kernel
theorem DM_X8_advances_88 : decode (mC M_X8_advances) 88 = .ok (.isub, 1) := by decide +kernel
theorem DM_X8_advances_89 : decode (mC M_X8_advances) 89 = .ok (.goto 7, 3) := by decide +kernel
theorem DM_X8_advances_92 : decode (mC M_X8_advances) 92 = .ok (.aload_n 0, 1) := by decide +kernel
theorem DM_X8_advances_93 : decode (mC M_X8_advances) 93 = .ok (.getfield 104, 3) := by decide +kernel
theorem DM_X8_advances_96 : decode (mC M_X8_advances) 96 = .ok (.putfield 104, 3) := by decide +kernel
theorem DM_X8_advances_99 : decode (mC M_X8_advances) 99 = .ok (.aload_n 0, 1) := by decide +kernel
theorem DM_X8_advances_100 : decode (mC M_X8_advances) 100 = .ok (.dup, 1) := by decide +kernel
theorem DM_X8_advances_101 : decode (mC M_X8_advances) 101 = .ok (.getfield 95, 3) := by decide +kernel
theorem DM_X8_advances_104 : decode (mC M_X8_advances) 104 = .ok (.iconst 1, 1) := by decide +kernel
theorem DM_X8_advances_105 : decode (mC M_X8_advances) 105 = .ok (.iadd, 1) := by decide +kernel
theorem DM_X8_advances_106 : decode (mC M_X8_advances) 106 = .ok (.putfield 95, 3) := by decide +kernel
theorem DM_X8_advances_109 : decode (mC M_X8_advances) 109 = .ok (.goto (-71), 3) := by decide +kernel
theorem DM_X8_advances_112 : decode (mC M_X8_advances) 112 = .ok (.aload_n 0, 1) := by decide +kernel
theorem DM_X8_advances_113 : decode (mC M_X8_advances) 113 = .ok (.aload_n 0, 1) := by decide +kernel
theorem DM_X8_advances_114 : decode (mC M_X8_advances) 114 = .ok (.getfield 95, 3) := by decide +kernel
theorem DM_X8_advances_117 : decode (mC M_X8_advances) 117 = .ok (.aload_n 0, 1) := by decide +kernel
theorem DM_X8_advances_118 : decode (mC M_X8_advances) 118 = .ok (.getfield 98, 3) := by decide +kernel
theorem DM_X8_advances_121 : decode (mC M_X8_advances) 121 = .ok (.isub, 1) := by decide +kernel
theorem DM_X8_advances_122 : decode (mC M_X8_advances) 122 = .ok (.iconst 3, 1) := by decide +kernel
theorem DM_X8_advances_123 : decode (mC M_X8_advances) 123 = .ok (.if_icmp .ge 7, 3) := by decide +kernel
theorem DM_X8_advances_126 : decode (mC M_X8_advances) 126 = .ok (.iconst 2, 1) := by decide +kernel
theorem DM_X8_advances_127 : decode (mC M_X8_advances) 127 = .ok (.goto 4, 3) := by decide +kernel
theorem DM_X8_advances_130 : decode (mC M_X8_advances) 130 = .ok (.iconst 5, 1) := by decide +kernel
theorem DM_X8_advances_131 : decode (mC M_X8_advances) 131 = .ok (.putfield 107, 3) := by decide +kernel
theorem DM_X8_advances_134 : decode (mC M_X8_advances) 134 = .ok (.return_, 1) := by decide +kernel
theorem DM_X8_advances_135 : decode (mC M_X8_advances) 135 = .ok (.aload_n 0, 1) := by decide +kernel
theorem DM_X8_advances_136 : decode (mC M_X8_advances) 136 = .ok (.iload_n 1, 1) := by decide +kernel
theorem DM_X8_advances_137 : decode (mC M_X8_advances) 137 = .ok (.ifCond .ge 7, 3) := by decide +kernel
theorem DM_X8_advances_140 : decode (mC M_X8_advances) 140 = .ok (.iconst 0, 1) := by decide +kernel
theorem DM_X8_advances_141 : decode (mC M_X8_advances) 141 = .ok (.goto 39, 3) := by decide +kernel
theorem DM_X8_advances_144 : decode (mC M_X8_advances) 144 = .ok (.iload_n 1, 1) := by decide +kernel
theorem DM_X8_advances_145 : decode (mC M_X8_advances) 145 = .ok (.bipush 97, 2) := by decide +kernel
theorem DM_X8_advances_147 : decode (mC M_X8_advances) 147 = .ok (.bipush 122, 2) := by decide +kernel
theorem DM_X8_advances_149 : decode (mC M_X8_advances) 149 = .ok (.invokestatic 65, 3) := by decide +kernel
theorem DM_X8_advances_152 : decode (mC M_X8_advances) 152 = .ok (.ifCond .eq 7, 3) := by decide +kernel
theorem DM_X8_advances_155 : decode (mC M_X8_advances) 155 = .ok (.iconst 1, 1) := by decide +kernel
theorem DM_X8_advances_156 : decode (mC M_X8_advances) 156 = .ok (.goto 24, 3) := by decide +kernel
theorem DM_X8_advances_159 : decode (mC M_X8_advances) 159 = .ok (.iload_n 1, 1) := by decide +kernel
theorem DM_X8_advances_160 : decode (mC M_X8_advances) 160 = .ok (.bipush 44, 2) := by decide +kernel
theorem DM_X8_advances_162 : decode (mC M_X8_advances) 162 = .ok (.if_icmp .ne 7, 3) := by decide +kernel
theorem DM_X8_advances_165 : decode (mC M_X8_advances) 165 = .ok (.iconst 3, 1) := by decide +kernel
theorem DM_X8_advances_166 : decode (mC M_X8_advances) 166 = .ok (.goto 14, 3) := by decide +kernel
theorem DM_X8_advances_169 : decode (mC M_X8_advances) 169 = .ok (.iload_n 1, 1) := by decide +kernel
theorem DM_X8_advances_170 : decode (mC M_X8_advances) 170 = .ok (.bipush 59, 2) := by decide +kernel
theorem DM_X8_advances_172 : decode (mC M_X8_advances) 172 = .ok (.if_icmp .ne 7, 3) := by decide +kernel
theorem DM_X8_advances_175 : decode (mC M_X8_advances) 175 = .ok (.iconst 4, 1) := by decide +kernel
theorem DM_X8_advances_176 : decode (mC M_X8_advances) 176 = .ok (.goto 4, 3) := by decide +kernel
theorem DM_X8_advances_179 : decode (mC M_X8_advances) 179 = .ok (.iconst 5, 1) := by decide +kernel
theorem DM_X8_advances_180 : decode (mC M_X8_advances) 180 = .ok (.putfield 107, 3) := by decide +kernel
theorem DM_X8_advances_183 : decode (mC M_X8_advances) 183 = .ok (.aload_n 0, 1) := by decide +kernel
theorem DM_X8_advances_184 : decode (mC M_X8_advances) 184 = .ok (.dup, 1) := by decide +kernel
theorem DM_X8_advances_185 : decode (mC M_X8_advances) 185 = .ok (.getfield 95, 3) := by decide +kernel
theorem DM_X8_advances_188 : decode (mC M_X8_advances) 188 = .ok (.aload_n 0, 1) := by decide +kernel
theorem DM_X8_advances_189 : decode (mC M_X8_advances) 189 = .ok (.getfield 107, 3) := by decide +kernel
theorem DM_X8_advances_192 : decode (mC M_X8_advances) 192 = .ok (.ifCond .ne 7, 3) := by decide +kernel
theorem DM_X8_advances_195 : decode (mC M_X8_advances) 195 = .ok (.iconst 0, 1) := by decide +kernel
theorem DM_X8_advances_196 : decode (mC M_X8_advances) 196 = .ok (.goto 4, 3) := by decide +kernel
theorem DM_X8_advances_199 : decode (mC M_X8_advances) 199 = .ok (.iconst 1, 1) := by decide +kernel
theorem DM_X8_advances_200 : decode (mC M_X8_advances) 200 = .ok (.iadd, 1) := by decide +kernel
theorem DM_X8_advances_201 : decode (mC M_X8_advances) 201 = .ok (.putfield 95, 3) := by decide +kernel
theorem DM_X8_advances_204 : decode (mC M_X8_advances) 204 = .ok (.return_, 1) := by decide +kernel
theorem DM_X8_isWell_0 : decode (mC M_X8_isWell) 0 = .ok (.aload_n 0, 1) := by decide +kernel
theorem DM_X8_isWell_1 : decode (mC M_X8_isWell) 1 = .ok (.getfield 110, 3) := by decide +kernel
theorem DM_X8_isWell_4 : decode (mC M_X8_isWell) 4 = .ok (.ifCond .ge 7, 3) := by decide +kernel
theorem DM_X8_isWell_7 : decode (mC M_X8_isWell) 7 = .ok (.iconst 1, 1) := by decide +kernel
theorem DM_X8_isWell_8 : decode (mC M_X8_isWell) 8 = .ok (.goto 4, 3) := by decide +kernel
theorem DM_X8_isWell_11 : decode (mC M_X8_isWell) 11 = .ok (.iconst 0, 1) := by decide +kernel
theorem DM_X8_isWell_12 : decode (mC M_X8_isWell) 12 = .ok (.ireturn, 1) := by decide +kernel
theorem DM_X8_takes_0 : decode (mC M_X8_takes) 0 = .ok (.aload_n 0, 1) := by decide +kernel
theorem DM_X8_takes_1 : decode (mC M_X8_takes) 1 = .ok (.invokevirtual 113, 3) := by decide +kernel
theorem DM_X8_takes_4 : decode (mC M_X8_takes) 4 = .ok (.ifCond .ne 5, 3) := by decide +kernel
theorem DM_X8_takes_7 : decode (mC M_X8_takes) 7 = .ok (.iconst 0, 1) := by decide +kernel
theorem DM_X8_takes_8 : decode (mC M_X8_takes) 8 = .ok (.ireturn, 1) := by decide +kernel
theorem DM_X8_takes_9 : decode (mC M_X8_takes) 9 = .ok (.iload_n 1, 1) := by decide +kernel
theorem DM_X8_takes_10 : decode (mC M_X8_takes) 10 = .ok (.ifCond .ne 18, 3) := by decide +kernel
theorem DM_X8_takes_13 : decode (mC M_X8_takes) 13 = .ok (.aload_n 0, 1) := by decide +kernel
theorem DM_X8_takes_14 : decode (mC M_X8_takes) 14 = .ok (.aload_n 0, 1) := by decide +kernel
theorem DM_X8_takes_15 : decode (mC M_X8_takes) 15 = .ok (.getfield 98, 3) := by decide +kernel
theorem DM_X8_takes_18 : decode (mC M_X8_takes) 18 = .ok (.putfield 110, 3) := by decide +kernel
theorem DM_X8_takes_21 : decode (mC M_X8_takes) 21 = .ok (.aload_n 0, 1) := by decide +kernel
theorem DM_X8_takes_22 : decode (mC M_X8_takes) 22 = .ok (.iload_n 2, 1) := by decide +kernel
theorem DM_X8_takes_23 : decode (mC M_X8_takes) 23 = .ok (.putfield 117, 3) := by decide +kernel
theorem DM_X8_takes_26 : decode (mC M_X8_takes) 26 = .ok (.iconst 0, 1) := by decide +kernel
theorem DM_X8_takes_27 : decode (mC M_X8_takes) 27 = .ok (.ireturn, 1) := by decide +kernel
theorem DM_X8_takes_28 : decode (mC M_X8_takes) 28 = .ok (.aload_n 0, 1) := by decide +kernel
theorem DM_X8_takes_29 : decode (mC M_X8_takes) 29 = .ok (.getfield 104, 3) := by decide +kernel
theorem DM_X8_takes_32 : decode (mC M_X8_takes) 32 = .ok (.istore_n 3, 1) := by decide +kernel
theorem DM_X8_takes_33 : decode (mC M_X8_takes) 33 = .ok (.aload_n 0, 1) := by decide +kernel
theorem DM_X8_takes_34 : decode (mC M_X8_takes) 34 = .ok (.invokevirtual 120, 3) := by decide +kernel
theorem DM_X8_takes_37 : decode (mC M_X8_takes) 37 = .ok (.iload_n 3, 1) := by decide +kernel
theorem DM_X8_takes_38 : decode (mC M_X8_takes) 38 = .ok (.ireturn, 1) := by decide +kernel
theorem DM_X8_figure_0 : decode (mC M_X8_figure) 0 = .ok (.aload_n 0, 1) := by decide +kernel
theorem DM_X8_figure_1 : decode (mC M_X8_figure) 1 = .ok (.invokevirtual 113, 3) := by decide +kernel
theorem DM_X8_figure_4 : decode (mC M_X8_figure) 4 = .ok (.ifCond .eq 18, 3) := by decide +kernel
theorem DM_X8_figure_7 : decode (mC M_X8_figure) 7 = .ok (.aload_n 0, 1) := by decide +kernel
theorem DM_X8_figure_8 : decode (mC M_X8_figure) 8 = .ok (.getfield 107, 3) := by decide +kernel
theorem DM_X8_figure_11 : decode (mC M_X8_figure) 11 = .ok (.iconst 2, 1) := by decide +kernel
theorem DM_X8_figure_12 : decode (mC M_X8_figure) 12 = .ok (.if_icmp .eq 10, 3) := by decide +kernel
theorem DM_X8_figure_15 : decode (mC M_X8_figure) 15 = .ok (.aload_n 0, 1) := by decide +kernel
theorem DM_X8_figure_16 : decode (mC M_X8_figure) 16 = .ok (.iconst 0, 1) := by decide +kernel
theorem DM_X8_figure_17 : decode (mC M_X8_figure) 17 = .ok (.iconst 1, 1) := by decide +kernel
theorem DM_X8_figure_18 : decode (mC M_X8_figure) 18 = .ok (.invokevirtual 123, 3) := by decide +kernel
theorem DM_X8_figure_21 : decode (mC M_X8_figure) 21 = .ok (.ireturn, 1) := by decide +kernel
theorem DM_X8_figure_22 : decode (mC M_X8_figure) 22 = .ok (.aload_n 0, 1) := by decide +kernel
theorem DM_X8_figure_23 : decode (mC M_X8_figure) 23 = .ok (.aload_n 0, 1) := by decide +kernel
theorem DM_X8_figure_24 : decode (mC M_X8_figure) 24 = .ok (.getfield 104, 3) := by decide +kernel
theorem DM_X8_figure_27 : decode (mC M_X8_figure) 27 = .ok (.iload_n 1, 1) := by decide +kernel
theorem DM_X8_figure_28 : decode (mC M_X8_figure) 28 = .ok (.iload_n 2, 1) := by decide +kernel
theorem DM_X8_figure_29 : decode (mC M_X8_figure) 29 = .ok (.invokestatic 65, 3) := by decide +kernel
theorem DM_X8_figure_32 : decode (mC M_X8_figure) 32 = .ok (.iconst 2, 1) := by decide +kernel
theorem DM_X8_figure_33 : decode (mC M_X8_figure) 33 = .ok (.invokevirtual 123, 3) := by decide +kernel
theorem DM_X8_figure_36 : decode (mC M_X8_figure) 36 = .ok (.ireturn, 1) := by decide +kernel
theorem DM_X8_isName_0 : decode (mC M_X8_isName) 0 = .ok (.aload_n 0, 1) := by decide +kernel
theorem DM_X8_isName_1 : decode (mC M_X8_isName) 1 = .ok (.invokevirtual 113, 3) := by decide +kernel
theorem DM_X8_isName_4 : decode (mC M_X8_isName) 4 = .ok (.ifCond .eq 24, 3) := by decide +kernel
theorem DM_X8_isName_7 : decode (mC M_X8_isName) 7 = .ok (.aload_n 0, 1) := by decide +kernel
theorem DM_X8_isName_8 : decode (mC M_X8_isName) 8 = .ok (.getfield 107, 3) := by decide +kernel
theorem DM_X8_isName_11 : decode (mC M_X8_isName) 11 = .ok (.iconst 1, 1) := by decide +kernel
theorem DM_X8_isName_12 : decode (mC M_X8_isName) 12 = .ok (.if_icmp .ne 16, 3) := by decide +kernel
theorem DM_X8_isName_15 : decode (mC M_X8_isName) 15 = .ok (.aload_n 0, 1) := by decide +kernel
theorem DM_X8_isName_16 : decode (mC M_X8_isName) 16 = .ok (.getfield 104, 3) := by decide +kernel
theorem DM_X8_isName_19 : decode (mC M_X8_isName) 19 = .ok (.bipush 104, 2) := by decide +kernel
theorem DM_X8_isName_21 : decode (mC M_X8_isName) 21 = .ok (.if_icmp .gt 7, 3) := by decide +kernel
theorem DM_X8_isName_24 : decode (mC M_X8_isName) 24 = .ok (.iconst 1, 1) := by decide +kernel
theorem DM_X8_isName_25 : decode (mC M_X8_isName) 25 = .ok (.goto 4, 3) := by decide +kernel
theorem DM_X8_isName_28 : decode (mC M_X8_isName) 28 = .ok (.iconst 0, 1) := by decide +kernel
theorem DM_X8_isName_29 : decode (mC M_X8_isName) 29 = .ok (.ireturn, 1) := by decide +kernel
theorem DM_X8_readsOrder_0 : decode (mC M_X8_readsOrder) 0 = .ok (.aload_n 0, 1) := by decide +kernel
theorem DM_X8_readsOrder_1 : decode (mC M_X8_readsOrder) 1 = .ok (.aload_n 0, 1) := by decide +kernel
theorem DM_X8_readsOrder_2 : decode (mC M_X8_readsOrder) 2 = .ok (.getfield 107, 3) := by decide +kernel
theorem DM_X8_readsOrder_5 : decode (mC M_X8_readsOrder) 5 = .ok (.iconst 1, 1) := by decide +kernel
theorem DM_X8_readsOrder_6 : decode (mC M_X8_readsOrder) 6 = .ok (.if_icmp .ne 16, 3) := by decide +kernel
theorem DM_X8_readsOrder_9 : decode (mC M_X8_readsOrder) 9 = .ok (.aload_n 0, 1) := by decide +kernel
theorem DM_X8_readsOrder_10 : decode (mC M_X8_readsOrder) 10 = .ok (.getfield 104, 3) := by decide +kernel
theorem DM_X8_readsOrder_13 : decode (mC M_X8_readsOrder) 13 = .ok (.bipush 111, 2) := by decide +kernel
theorem DM_X8_readsOrder_15 : decode (mC M_X8_readsOrder) 15 = .ok (.if_icmp .ne 7, 3) := by decide +kernel
theorem DM_X8_readsOrder_18 : decode (mC M_X8_readsOrder) 18 = .ok (.iconst 1, 1) := by decide +kernel
theorem DM_X8_readsOrder_19 : decode (mC M_X8_readsOrder) 19 = .ok (.goto 4, 3) := by decide +kernel
theorem DM_X8_readsOrder_22 : decode (mC M_X8_readsOrder) 22 = .ok (.iconst 0, 1) := by decide +kernel
theorem DM_X8_readsOrder_23 : decode (mC M_X8_readsOrder) 23 = .ok (.iconst 1, 1) := by decide +kernel
theorem DM_X8_readsOrder_24 : decode (mC M_X8_readsOrder) 24 = .ok (.invokevirtual 123, 3) := by decide +kernel
theorem DM_X8_readsOrder_27 : decode (mC M_X8_readsOrder) 27 = .ok (.pop, 1) := by decide +kernel
theorem DM_X8_readsOrder_28 : decode (mC M_X8_readsOrder) 28 = .ok (.iconst 0, 1) := by decide +kernel
theorem DM_X8_readsOrder_29 : decode (mC M_X8_readsOrder) 29 = .ok (.istore_n 1, 1) := by decide +kernel
theorem DM_X8_readsOrder_30 : decode (mC M_X8_readsOrder) 30 = .ok (.iconst 0, 1) := by decide +kernel
theorem DM_X8_readsOrder_31 : decode (mC M_X8_readsOrder) 31 = .ok (.istore_n 2, 1) := by decide +kernel
theorem DM_X8_readsOrder_32 : decode (mC M_X8_readsOrder) 32 = .ok (.aload_n 0, 1) := by decide +kernel
theorem DM_X8_readsOrder_33 : decode (mC M_X8_readsOrder) 33 = .ok (.invokevirtual 127, 3) := by decide +kernel
theorem DM_X8_readsOrder_36 : decode (mC M_X8_readsOrder) 36 = .ok (.ifCond .eq 62, 3) := by decide +kernel
theorem DM_X8_readsOrder_39 : decode (mC M_X8_readsOrder) 39 = .ok (.aload_n 0, 1) := by decide +kernel
theorem DM_X8_readsOrder_40 : decode (mC M_X8_readsOrder) 40 = .ok (.getfield 104, 3) := by decide +kernel
theorem DM_X8_readsOrder_43 : decode (mC M_X8_readsOrder) 43 = .ok (.bipush 97, 2) := by decide +kernel
theorem DM_X8_readsOrder_45 : decode (mC M_X8_readsOrder) 45 = .ok (.isub, 1) := by decide +kernel
theorem DM_X8_readsOrder_46 : decode (mC M_X8_readsOrder) 46 = .ok (.istore_n 3, 1) := by decide +kernel
theorem DM_X8_readsOrder_47 : decode (mC M_X8_readsOrder) 47 = .ok (.aload_n 0, 1) := by decide +kernel
theorem DM_X8_readsOrder_48 : decode (mC M_X8_readsOrder) 48 = .ok (.iload_n 1, 1) := by decide +kernel
theorem DM_X8_readsOrder_49 : decode (mC M_X8_readsOrder) 49 = .ok (.iload_n 3, 1) := by decide +kernel
theorem DM_X8_readsOrder_50 : decode (mC M_X8_readsOrder) 50 = .ok (.invokestatic 130, 3) := by decide +kernel
theorem DM_X8_readsOrder_53 : decode (mC M_X8_readsOrder) 53 = .ok (.ifCond .ne 7, 3) := by decide +kernel
theorem DM_X8_readsOrder_56 : decode (mC M_X8_readsOrder) 56 = .ok (.iconst 1, 1) := by decide +kernel
theorem DM_X8_readsOrder_57 : decode (mC M_X8_readsOrder) 57 = .ok (.goto 4, 3) := by decide +kernel
theorem DM_X8_readsOrder_60 : decode (mC M_X8_readsOrder) 60 = .ok (.iconst 0, 1) := by decide +kernel
theorem DM_X8_readsOrder_61 : decode (mC M_X8_readsOrder) 61 = .ok (.iconst 2, 1) := by decide +kernel
theorem DM_X8_readsOrder_62 : decode (mC M_X8_readsOrder) 62 = .ok (.invokevirtual 123, 3) := by decide +kernel
theorem DM_X8_readsOrder_65 : decode (mC M_X8_readsOrder) 65 = .ok (.pop, 1) := by decide +kernel
theorem DM_X8_readsOrder_66 : decode (mC M_X8_readsOrder) 66 = .ok (.iload_n 1, 1) := by decide +kernel
theorem DM_X8_readsOrder_67 : decode (mC M_X8_readsOrder) 67 = .ok (.iconst 1, 1) := by decide +kernel
theorem DM_X8_readsOrder_68 : decode (mC M_X8_readsOrder) 68 = .ok (.iload_n 3, 1) := by decide +kernel
theorem DM_X8_readsOrder_69 : decode (mC M_X8_readsOrder) 69 = .ok (.ishl, 1) := by decide +kernel
theorem DM_X8_readsOrder_70 : decode (mC M_X8_readsOrder) 70 = .ok (.ior, 1) := by decide +kernel
theorem DM_X8_readsOrder_71 : decode (mC M_X8_readsOrder) 71 = .ok (.istore_n 1, 1) := by decide +kernel
theorem DM_X8_readsOrder_72 : decode (mC M_X8_readsOrder) 72 = .ok (.aload_n 0, 1) := by decide +kernel
theorem DM_X8_readsOrder_73 : decode (mC M_X8_readsOrder) 73 = .ok (.getfield 28, 3) := by decide +kernel
theorem DM_X8_readsOrder_76 : decode (mC M_X8_readsOrder) 76 = .ok (.iconst 5, 1) := by decide +kernel
theorem DM_X8_readsOrder_77 : decode (mC M_X8_readsOrder) 77 = .ok (.iload_n 2, 1) := by decide +kernel
theorem DM_X8_readsOrder_78 : decode (mC M_X8_readsOrder) 78 = .ok (.bipush 8, 2) := by decide +kernel
theorem DM_X8_readsOrder_80 : decode (mC M_X8_readsOrder) 80 = .ok (.if_icmp .ge 7, 3) := by decide +kernel
theorem DM_X8_readsOrder_83 : decode (mC M_X8_readsOrder) 83 = .ok (.iload_n 2, 1) := by decide +kernel
theorem DM_X8_readsOrder_84 : decode (mC M_X8_readsOrder) 84 = .ok (.goto 5, 3) := by decide +kernel
theorem DM_X8_readsOrder_87 : decode (mC M_X8_readsOrder) 87 = .ok (.bipush 7, 2) := by decide +kernel
theorem DM_X8_readsOrder_89 : decode (mC M_X8_readsOrder) 89 = .ok (.iadd, 1) := by decide +kernel
theorem DM_X8_readsOrder_90 : decode (mC M_X8_readsOrder) 90 = .ok (.iload_n 3, 1) := by decide +kernel
theorem DM_X8_readsOrder_91 : decode (mC M_X8_readsOrder) 91 = .ok (.iastore, 1) := by decide +kernel
theorem DM_X8_readsOrder_92 : decode (mC M_X8_readsOrder) 92 = .ok (.iinc 2 1, 3) := by decide +kernel
theorem DM_X8_readsOrder_95 : decode (mC M_X8_readsOrder) 95 = .ok (.goto (-63), 3) := by decide +kernel
theorem DM_X8_readsOrder_98 : decode (mC M_X8_readsOrder) 98 = .ok (.aload_n 0, 1) := by decide +kernel
theorem DM_X8_readsOrder_99 : decode (mC M_X8_readsOrder) 99 = .ok (.aload_n 0, 1) := by decide +kernel
theorem DM_X8_readsOrder_100 : decode (mC M_X8_readsOrder) 100 = .ok (.getfield 107, 3) := by decide +kernel
theorem DM_X8_readsOrder_103 : decode (mC M_X8_readsOrder) 103 = .ok (.iconst 4, 1) := by decide +kernel
theorem DM_X8_readsOrder_104 : decode (mC M_X8_readsOrder) 104 = .ok (.if_icmp .ne 7, 3) := by decide +kernel
theorem DM_X8_readsOrder_107 : decode (mC M_X8_readsOrder) 107 = .ok (.iconst 1, 1) := by decide +kernel
theorem DM_X8_readsOrder_108 : decode (mC M_X8_readsOrder) 108 = .ok (.goto 4, 3) := by decide +kernel
theorem DM_X8_readsOrder_111 : decode (mC M_X8_readsOrder) 111 = .ok (.iconst 0, 1) := by decide +kernel
theorem DM_X8_readsOrder_112 : decode (mC M_X8_readsOrder) 112 = .ok (.iconst 1, 1) := by decide +kernel
theorem DM_X8_readsOrder_113 : decode (mC M_X8_readsOrder) 113 = .ok (.invokevirtual 123, 3) := by decide +kernel
theorem DM_X8_readsOrder_116 : decode (mC M_X8_readsOrder) 116 = .ok (.pop, 1) := by decide +kernel
theorem DM_X8_readsOrder_117 : decode (mC M_X8_readsOrder) 117 = .ok (.iconst 0, 1) := by decide +kernel
theorem DM_X8_readsOrder_118 : decode (mC M_X8_readsOrder) 118 = .ok (.istore_n 3, 1) := by decide +kernel
theorem DM_X8_readsOrder_119 : decode (mC M_X8_readsOrder) 119 = .ok (.iload_n 3, 1) := by decide +kernel
theorem DM_X8_readsOrder_120 : decode (mC M_X8_readsOrder) 120 = .ok (.bipush 8, 2) := by decide +kernel
theorem DM_X8_readsOrder_122 : decode (mC M_X8_readsOrder) 122 = .ok (.if_icmp .ge 36, 3) := by decide +kernel
theorem DM_X8_readsOrder_125 : decode (mC M_X8_readsOrder) 125 = .ok (.aload_n 0, 1) := by decide +kernel
theorem DM_X8_readsOrder_126 : decode (mC M_X8_readsOrder) 126 = .ok (.invokevirtual 113, 3) := by decide +kernel
theorem DM_X8_readsOrder_129 : decode (mC M_X8_readsOrder) 129 = .ok (.ifCond .eq 29, 3) := by decide +kernel
theorem DM_X8_readsOrder_132 : decode (mC M_X8_readsOrder) 132 = .ok (.iload_n 1, 1) := by decide +kernel
theorem DM_X8_readsOrder_133 : decode (mC M_X8_readsOrder) 133 = .ok (.iload_n 3, 1) := by decide +kernel
theorem DM_X8_readsOrder_134 : decode (mC M_X8_readsOrder) 134 = .ok (.invokestatic 130, 3) := by decide +kernel
theorem DM_X8_readsOrder_137 : decode (mC M_X8_readsOrder) 137 = .ok (.ifCond .ne 15, 3) := by decide +kernel
theorem DM_X8_readsOrder_140 : decode (mC M_X8_readsOrder) 140 = .ok (.aload_n 0, 1) := by decide +kernel
theorem DM_X8_readsOrder_141 : decode (mC M_X8_readsOrder) 141 = .ok (.getfield 28, 3) := by decide +kernel
theorem DM_X8_readsOrder_144 : decode (mC M_X8_readsOrder) 144 = .ok (.iconst 5, 1) := by decide +kernel
theorem DM_X8_readsOrder_145 : decode (mC M_X8_readsOrder) 145 = .ok (.iload_n 2, 1) := by decide +kernel
theorem DM_X8_readsOrder_146 : decode (mC M_X8_readsOrder) 146 = .ok (.iadd, 1) := by decide +kernel
theorem DM_X8_readsOrder_147 : decode (mC M_X8_readsOrder) 147 = .ok (.iload_n 3, 1) := by decide +kernel
theorem DM_X8_readsOrder_148 : decode (mC M_X8_readsOrder) 148 = .ok (.iastore, 1) := by decide +kernel
theorem DM_X8_readsOrder_149 : decode (mC M_X8_readsOrder) 149 = .ok (.iinc 2 1, 3) := by decide +kernel
theorem DM_X8_readsOrder_152 : decode (mC M_X8_readsOrder) 152 = .ok (.iinc 3 1, 3) := by decide +kernel
theorem DM_X8_readsOrder_155 : decode (mC M_X8_readsOrder) 155 = .ok (.goto (-36), 3) := by decide +kernel
theorem DM_X8_readsOrder_158 : decode (mC M_X8_readsOrder) 158 = .ok (.return_, 1) := by decide +kernel
theorem DM_X8_kindOf_0 : decode (mC M_X8_kindOf) 0 = .ok (.iload_n 0, 1) := by decide +kernel
theorem DM_X8_kindOf_1 : decode (mC M_X8_kindOf) 1 = .ok (.bipush 112, 2) := by decide +kernel
theorem DM_X8_kindOf_3 : decode (mC M_X8_kindOf) 3 = .ok (.if_icmp .ne 7, 3) := by decide +kernel
theorem DM_X8_kindOf_6 : decode (mC M_X8_kindOf) 6 = .ok (.iconst 1, 1) := by decide +kernel
theorem DM_X8_kindOf_7 : decode (mC M_X8_kindOf) 7 = .ok (.goto 44, 3) := by decide +kernel
theorem DM_X8_kindOf_10 : decode (mC M_X8_kindOf) 10 = .ok (.iload_n 0, 1) := by decide +kernel
theorem DM_X8_kindOf_11 : decode (mC M_X8_kindOf) 11 = .ok (.bipush 113, 2) := by decide +kernel
theorem DM_X8_kindOf_13 : decode (mC M_X8_kindOf) 13 = .ok (.if_icmp .ne 7, 3) := by decide +kernel
theorem DM_X8_kindOf_16 : decode (mC M_X8_kindOf) 16 = .ok (.iconst 2, 1) := by decide +kernel
theorem DM_X8_kindOf_17 : decode (mC M_X8_kindOf) 17 = .ok (.goto 34, 3) := by decide +kernel
theorem DM_X8_kindOf_20 : decode (mC M_X8_kindOf) 20 = .ok (.iload_n 0, 1) := by decide +kernel
theorem DM_X8_kindOf_21 : decode (mC M_X8_kindOf) 21 = .ok (.bipush 114, 2) := by decide +kernel
theorem DM_X8_kindOf_23 : decode (mC M_X8_kindOf) 23 = .ok (.if_icmp .ne 7, 3) := by decide +kernel
theorem DM_X8_kindOf_26 : decode (mC M_X8_kindOf) 26 = .ok (.iconst 3, 1) := by decide +kernel
theorem DM_X8_kindOf_27 : decode (mC M_X8_kindOf) 27 = .ok (.goto 24, 3) := by decide +kernel
theorem DM_X8_kindOf_30 : decode (mC M_X8_kindOf) 30 = .ok (.iload_n 0, 1) := by decide +kernel
theorem DM_X8_kindOf_31 : decode (mC M_X8_kindOf) 31 = .ok (.bipush 115, 2) := by decide +kernel
theorem DM_X8_kindOf_33 : decode (mC M_X8_kindOf) 33 = .ok (.if_icmp .ne 7, 3) := by decide +kernel
theorem DM_X8_kindOf_36 : decode (mC M_X8_kindOf) 36 = .ok (.iconst 4, 1) := by decide +kernel
theorem DM_X8_kindOf_37 : decode (mC M_X8_kindOf) 37 = .ok (.goto 14, 3) := by decide +kernel
theorem DM_X8_kindOf_40 : decode (mC M_X8_kindOf) 40 = .ok (.iload_n 0, 1) := by decide +kernel
theorem DM_X8_kindOf_41 : decode (mC M_X8_kindOf) 41 = .ok (.bipush 116, 2) := by decide +kernel
theorem DM_X8_kindOf_43 : decode (mC M_X8_kindOf) 43 = .ok (.if_icmp .ne 7, 3) := by decide +kernel
theorem DM_X8_kindOf_46 : decode (mC M_X8_kindOf) 46 = .ok (.iconst 5, 1) := by decide +kernel
theorem DM_X8_kindOf_47 : decode (mC M_X8_kindOf) 47 = .ok (.goto 4, 3) := by decide +kernel
theorem DM_X8_kindOf_50 : decode (mC M_X8_kindOf) 50 = .ok (.iconst 0, 1) := by decide +kernel
theorem DM_X8_kindOf_51 : decode (mC M_X8_kindOf) 51 = .ok (.ireturn, 1) := by decide +kernel
theorem DM_X8_readsPerson_0 : decode (mC M_X8_readsPerson) 0 = .ok (.aload_n 0, 1) := by decide +kernel
theorem DM_X8_readsPerson_1 : decode (mC M_X8_readsPerson) 1 = .ok (.getfield 104, 3) := by decide +kernel
theorem DM_X8_readsPerson_4 : decode (mC M_X8_readsPerson) 4 = .ok (.invokestatic 134, 3) := by decide +kernel
theorem DM_X8_readsPerson_7 : decode (mC M_X8_readsPerson) 7 = .ok (.istore_n 1, 1) := by decide +kernel
theorem DM_X8_readsPerson_8 : decode (mC M_X8_readsPerson) 8 = .ok (.aload_n 0, 1) := by decide +kernel
theorem DM_X8_readsPerson_9 : decode (mC M_X8_readsPerson) 9 = .ok (.aload_n 0, 1) := by decide +kernel
theorem DM_X8_readsPerson_10 : decode (mC M_X8_readsPerson) 10 = .ok (.getfield 28, 3) := by decide +kernel
theorem DM_X8_readsPerson_13 : decode (mC M_X8_readsPerson) 13 = .ok (.iconst 2, 1) := by decide +kernel
theorem DM_X8_readsPerson_14 : decode (mC M_X8_readsPerson) 14 = .ok (.iaload, 1) := by decide +kernel
theorem DM_X8_readsPerson_15 : decode (mC M_X8_readsPerson) 15 = .ok (.bipush 6, 2) := by decide +kernel
theorem DM_X8_readsPerson_17 : decode (mC M_X8_readsPerson) 17 = .ok (.if_icmp .ge 7, 3) := by decide +kernel
theorem DM_X8_readsPerson_20 : decode (mC M_X8_readsPerson) 20 = .ok (.iconst 1, 1) := by decide +kernel
theorem DM_X8_readsPerson_21 : decode (mC M_X8_readsPerson) 21 = .ok (.goto 4, 3) := by decide +kernel
theorem DM_X8_readsPerson_24 : decode (mC M_X8_readsPerson) 24 = .ok (.iconst 0, 1) := by decide +kernel
theorem DM_X8_readsPerson_25 : decode (mC M_X8_readsPerson) 25 = .ok (.iconst 3, 1) := by decide +kernel
theorem DM_X8_readsPerson_26 : decode (mC M_X8_readsPerson) 26 = .ok (.invokevirtual 123, 3) := by decide +kernel
theorem DM_X8_readsPerson_29 : decode (mC M_X8_readsPerson) 29 = .ok (.pop, 1) := by decide +kernel
theorem DM_X8_readsPerson_30 : decode (mC M_X8_readsPerson) 30 = .ok (.bipush 13, 2) := by decide +kernel
theorem DM_X8_readsPerson_32 : decode (mC M_X8_readsPerson) 32 = .ok (.bipush 13, 2) := by decide +kernel
theorem DM_X8_readsPerson_34 : decode (mC M_X8_readsPerson) 34 = .ok (.aload_n 0, 1) := by decide +kernel
theorem DM_X8_readsPerson_35 : decode (mC M_X8_readsPerson) 35 = .ok (.getfield 28, 3) := by decide +kernel
theorem DM_X8_readsPerson_38 : decode (mC M_X8_readsPerson) 38 = .ok (.iconst 2, 1) := by decide +kernel
theorem DM_X8_readsPerson_39 : decode (mC M_X8_readsPerson) 39 = .ok (.iaload, 1) := by decide +kernel
theorem DM_X8_readsPerson_40 : decode (mC M_X8_readsPerson) 40 = .ok (.bipush 6, 2) := by decide +kernel
theorem DM_X8_readsPerson_42 : decode (mC M_X8_readsPerson) 42 = .ok (.if_icmp .ge 12, 3) := by decide +kernel
theorem DM_X8_readsPerson_45 : decode (mC M_X8_readsPerson) 45 = .ok (.aload_n 0, 1) := by decide +kernel
theorem DM_X8_readsPerson_46 : decode (mC M_X8_readsPerson) 46 = .ok (.getfield 28, 3) := by decide +kernel
theorem DM_X8_readsPerson_49 : decode (mC M_X8_readsPerson) 49 = .ok (.iconst 2, 1) := by decide +kernel
theorem DM_X8_readsPerson_50 : decode (mC M_X8_readsPerson) 50 = .ok (.iaload, 1) := by decide +kernel
theorem DM_X8_readsPerson_51 : decode (mC M_X8_readsPerson) 51 = .ok (.goto 4, 3) := by decide +kernel
theorem DM_X8_readsPerson_54 : decode (mC M_X8_readsPerson) 54 = .ok (.iconst 0, 1) := by decide +kernel
theorem DM_X8_readsPerson_55 : decode (mC M_X8_readsPerson) 55 = .ok (.imul, 1) := by decide +kernel
theorem DM_X8_readsPerson_56 : decode (mC M_X8_readsPerson) 56 = .ok (.iadd, 1) := by decide +kernel
theorem DM_X8_readsPerson_57 : decode (mC M_X8_readsPerson) 57 = .ok (.istore_n 2, 1) := by decide +kernel
theorem DM_X8_readsPerson_58 : decode (mC M_X8_readsPerson) 58 = .ok (.iconst 0, 1) := by decide +kernel
theorem DM_X8_readsPerson_59 : decode (mC M_X8_readsPerson) 59 = .ok (.istore_n 3, 1) := by decide +kernel
theorem DM_X8_readsPerson_60 : decode (mC M_X8_readsPerson) 60 = .ok (.aload_n 0, 1) := by decide +kernel
theorem DM_X8_readsPerson_61 : decode (mC M_X8_readsPerson) 61 = .ok (.invokevirtual 127, 3) := by decide +kernel
theorem DM_X8_readsPerson_64 : decode (mC M_X8_readsPerson) 64 = .ok (.ifCond .eq 35, 3) := by decide +kernel
theorem DM_X8_readsPerson_67 : decode (mC M_X8_readsPerson) 67 = .ok (.iload_n 3, 1) := by decide +kernel
theorem DM_X8_readsPerson_68 : decode (mC M_X8_readsPerson) 68 = .ok (.iconst 4, 1) := by decide +kernel
theorem DM_X8_readsPerson_69 : decode (mC M_X8_readsPerson) 69 = .ok (.if_icmp .ge 30, 3) := by decide +kernel
theorem DM_X8_readsPerson_72 : decode (mC M_X8_readsPerson) 72 = .ok (.aload_n 0, 1) := by decide +kernel
theorem DM_X8_readsPerson_73 : decode (mC M_X8_readsPerson) 73 = .ok (.getfield 28, 3) := by decide +kernel
theorem DM_X8_readsPerson_76 : decode (mC M_X8_readsPerson) 76 = .ok (.iload_n 2, 1) := by decide +kernel
theorem DM_X8_readsPerson_77 : decode (mC M_X8_readsPerson) 77 = .ok (.iconst 4, 1) := by decide +kernel
theorem DM_X8_readsPerson_78 : decode (mC M_X8_readsPerson) 78 = .ok (.iadd, 1) := by decide +kernel
theorem DM_X8_readsPerson_79 : decode (mC M_X8_readsPerson) 79 = .ok (.iload_n 3, 1) := by decide +kernel
theorem DM_X8_readsPerson_80 : decode (mC M_X8_readsPerson) 80 = .ok (.iadd, 1) := by decide +kernel
theorem DM_X8_readsPerson_81 : decode (mC M_X8_readsPerson) 81 = .ok (.aload_n 0, 1) := by decide +kernel
theorem DM_X8_readsPerson_82 : decode (mC M_X8_readsPerson) 82 = .ok (.getfield 104, 3) := by decide +kernel
theorem DM_X8_readsPerson_85 : decode (mC M_X8_readsPerson) 85 = .ok (.bipush 97, 2) := by decide +kernel
theorem DM_X8_readsPerson_87 : decode (mC M_X8_readsPerson) 87 = .ok (.isub, 1) := by decide +kernel
theorem DM_X8_readsPerson_88 : decode (mC M_X8_readsPerson) 88 = .ok (.iastore, 1) := by decide +kernel
theorem DM_X8_readsPerson_89 : decode (mC M_X8_readsPerson) 89 = .ok (.iinc 3 1, 3) := by decide +kernel
theorem DM_X8_readsPerson_92 : decode (mC M_X8_readsPerson) 92 = .ok (.aload_n 0, 1) := by decide +kernel
theorem DM_X8_readsPerson_93 : decode (mC M_X8_readsPerson) 93 = .ok (.invokevirtual 120, 3) := by decide +kernel
theorem DM_X8_readsPerson_96 : decode (mC M_X8_readsPerson) 96 = .ok (.goto (-36), 3) := by decide +kernel
theorem DM_X8_readsPerson_99 : decode (mC M_X8_readsPerson) 99 = .ok (.aload_n 0, 1) := by decide +kernel
theorem DM_X8_readsPerson_100 : decode (mC M_X8_readsPerson) 100 = .ok (.iload_n 3, 1) := by decide +kernel
theorem DM_X8_readsPerson_101 : decode (mC M_X8_readsPerson) 101 = .ok (.ifCond .le 7, 3) := by decide +kernel
theorem DM_X8_readsPerson_104 : decode (mC M_X8_readsPerson) 104 = .ok (.iconst 1, 1) := by decide +kernel
theorem DM_X8_readsPerson_105 : decode (mC M_X8_readsPerson) 105 = .ok (.goto 4, 3) := by decide +kernel
theorem DM_X8_readsPerson_108 : decode (mC M_X8_readsPerson) 108 = .ok (.iconst 0, 1) := by decide +kernel
theorem DM_X8_readsPerson_109 : decode (mC M_X8_readsPerson) 109 = .ok (.invokevirtual 137, 3) := by decide +kernel
theorem DM_X8_readsPerson_112 : decode (mC M_X8_readsPerson) 112 = .ok (.aload_n 0, 1) := by decide +kernel
theorem DM_X8_readsPerson_113 : decode (mC M_X8_readsPerson) 113 = .ok (.iconst 1, 1) := by decide +kernel
theorem DM_X8_readsPerson_114 : decode (mC M_X8_readsPerson) 114 = .ok (.bipush 30, 2) := by decide +kernel
theorem DM_X8_readsPerson_116 : decode (mC M_X8_readsPerson) 116 = .ok (.invokevirtual 141, 3) := by decide +kernel
theorem DM_X8_readsPerson_119 : decode (mC M_X8_readsPerson) 119 = .ok (.istore 4, 2) := by decide +kernel
theorem DM_X8_readsPerson_121 : decode (mC M_X8_readsPerson) 121 = .ok (.aload_n 0, 1) := by decide +kernel
theorem DM_X8_readsPerson_122 : decode (mC M_X8_readsPerson) 122 = .ok (.aload_n 0, 1) := by decide +kernel
theorem DM_X8_readsPerson_123 : decode (mC M_X8_readsPerson) 123 = .ok (.getfield 107, 3) := by decide +kernel
theorem DM_X8_readsPerson_126 : decode (mC M_X8_readsPerson) 126 = .ok (.iconst 3, 1) := by decide +kernel
theorem DM_X8_readsPerson_127 : decode (mC M_X8_readsPerson) 127 = .ok (.if_icmp .ne 7, 3) := by decide +kernel
theorem DM_X8_readsPerson_130 : decode (mC M_X8_readsPerson) 130 = .ok (.iconst 1, 1) := by decide +kernel
theorem DM_X8_readsPerson_131 : decode (mC M_X8_readsPerson) 131 = .ok (.goto 4, 3) := by decide +kernel
theorem DM_X8_readsPerson_134 : decode (mC M_X8_readsPerson) 134 = .ok (.iconst 0, 1) := by decide +kernel
theorem DM_X8_readsPerson_135 : decode (mC M_X8_readsPerson) 135 = .ok (.iconst 1, 1) := by decide +kernel
theorem DM_X8_readsPerson_136 : decode (mC M_X8_readsPerson) 136 = .ok (.invokevirtual 123, 3) := by decide +kernel
theorem DM_X8_readsPerson_139 : decode (mC M_X8_readsPerson) 139 = .ok (.pop, 1) := by decide +kernel
theorem DM_X8_readsPerson_140 : decode (mC M_X8_readsPerson) 140 = .ok (.aload_n 0, 1) := by decide +kernel
theorem DM_X8_readsPerson_141 : decode (mC M_X8_readsPerson) 141 = .ok (.iconst 1, 1) := by decide +kernel
theorem DM_X8_readsPerson_142 : decode (mC M_X8_readsPerson) 142 = .ok (.bipush 99, 2) := by decide +kernel
theorem DM_X8_readsPerson_144 : decode (mC M_X8_readsPerson) 144 = .ok (.invokevirtual 141, 3) := by decide +kernel
theorem DM_X8_readsPerson_147 : decode (mC M_X8_readsPerson) 147 = .ok (.istore 5, 2) := by decide +kernel
theorem DM_X8_readsPerson_149 : decode (mC M_X8_readsPerson) 149 = .ok (.aload_n 0, 1) := by decide +kernel
theorem DM_X8_readsPerson_150 : decode (mC M_X8_readsPerson) 150 = .ok (.aload_n 0, 1) := by decide +kernel
theorem DM_X8_readsPerson_151 : decode (mC M_X8_readsPerson) 151 = .ok (.getfield 107, 3) := by decide +kernel
theorem DM_X8_readsPerson_154 : decode (mC M_X8_readsPerson) 154 = .ok (.iconst 4, 1) := by decide +kernel
theorem DM_X8_readsPerson_155 : decode (mC M_X8_readsPerson) 155 = .ok (.if_icmp .ne 7, 3) := by decide +kernel
theorem DM_X8_readsPerson_158 : decode (mC M_X8_readsPerson) 158 = .ok (.iconst 1, 1) := by decide +kernel
theorem DM_X8_readsPerson_159 : decode (mC M_X8_readsPerson) 159 = .ok (.goto 4, 3) := by decide +kernel
theorem DM_X8_readsPerson_162 : decode (mC M_X8_readsPerson) 162 = .ok (.iconst 0, 1) := by decide +kernel
theorem DM_X8_readsPerson_163 : decode (mC M_X8_readsPerson) 163 = .ok (.iconst 1, 1) := by decide +kernel
theorem DM_X8_readsPerson_164 : decode (mC M_X8_readsPerson) 164 = .ok (.invokevirtual 123, 3) := by decide +kernel
theorem DM_X8_readsPerson_167 : decode (mC M_X8_readsPerson) 167 = .ok (.pop, 1) := by decide +kernel
theorem DM_X8_readsPerson_168 : decode (mC M_X8_readsPerson) 168 = .ok (.aload_n 0, 1) := by decide +kernel
theorem DM_X8_readsPerson_169 : decode (mC M_X8_readsPerson) 169 = .ok (.invokevirtual 113, 3) := by decide +kernel
theorem DM_X8_readsPerson_172 : decode (mC M_X8_readsPerson) 172 = .ok (.ifCond .eq 102, 3) := by decide +kernel
theorem DM_X8_readsPerson_175 : decode (mC M_X8_readsPerson) 175 = .ok (.aload_n 0, 1) := by decide +kernel
theorem DM_X8_readsPerson_176 : decode (mC M_X8_readsPerson) 176 = .ok (.getfield 28, 3) := by decide +kernel
theorem DM_X8_readsPerson_179 : decode (mC M_X8_readsPerson) 179 = .ok (.iload_n 2, 1) := by decide +kernel
theorem DM_X8_readsPerson_180 : decode (mC M_X8_readsPerson) 180 = .ok (.iload_n 1, 1) := by decide +kernel
theorem DM_X8_readsPerson_181 : decode (mC M_X8_readsPerson) 181 = .ok (.iastore, 1) := by decide +kernel
theorem DM_X8_readsPerson_182 : decode (mC M_X8_readsPerson) 182 = .ok (.aload_n 0, 1) := by decide +kernel
theorem DM_X8_readsPerson_183 : decode (mC M_X8_readsPerson) 183 = .ok (.getfield 28, 3) := by decide +kernel
theorem DM_X8_readsPerson_186 : decode (mC M_X8_readsPerson) 186 = .ok (.iload_n 2, 1) := by decide +kernel
theorem DM_X8_readsPerson_187 : decode (mC M_X8_readsPerson) 187 = .ok (.iconst 1, 1) := by decide +kernel
theorem DM_X8_readsPerson_188 : decode (mC M_X8_readsPerson) 188 = .ok (.iadd, 1) := by decide +kernel
theorem DM_X8_readsPerson_189 : decode (mC M_X8_readsPerson) 189 = .ok (.iload 4, 2) := by decide +kernel
theorem DM_X8_readsPerson_191 : decode (mC M_X8_readsPerson) 191 = .ok (.iastore, 1) := by decide +kernel
theorem DM_X8_readsPerson_192 : decode (mC M_X8_readsPerson) 192 = .ok (.aload_n 0, 1) := by decide +kernel
theorem DM_X8_readsPerson_193 : decode (mC M_X8_readsPerson) 193 = .ok (.getfield 28, 3) := by decide +kernel
theorem DM_X8_readsPerson_196 : decode (mC M_X8_readsPerson) 196 = .ok (.iload_n 2, 1) := by decide +kernel
theorem DM_X8_readsPerson_197 : decode (mC M_X8_readsPerson) 197 = .ok (.iconst 2, 1) := by decide +kernel
theorem DM_X8_readsPerson_198 : decode (mC M_X8_readsPerson) 198 = .ok (.iadd, 1) := by decide +kernel
theorem DM_X8_readsPerson_199 : decode (mC M_X8_readsPerson) 199 = .ok (.iload 5, 2) := by decide +kernel
theorem DM_X8_readsPerson_201 : decode (mC M_X8_readsPerson) 201 = .ok (.iastore, 1) := by decide +kernel
theorem DM_X8_readsPerson_202 : decode (mC M_X8_readsPerson) 202 = .ok (.aload_n 0, 1) := by decide +kernel
theorem DM_X8_readsPerson_203 : decode (mC M_X8_readsPerson) 203 = .ok (.getfield 28, 3) := by decide +kernel
theorem DM_X8_readsPerson_206 : decode (mC M_X8_readsPerson) 206 = .ok (.iload_n 2, 1) := by decide +kernel
theorem DM_X8_readsPerson_207 : decode (mC M_X8_readsPerson) 207 = .ok (.iconst 3, 1) := by decide +kernel
theorem DM_X8_readsPerson_208 : decode (mC M_X8_readsPerson) 208 = .ok (.iadd, 1) := by decide +kernel
theorem DM_X8_readsPerson_209 : decode (mC M_X8_readsPerson) 209 = .ok (.iload_n 3, 1) := by decide +kernel
theorem DM_X8_readsPerson_210 : decode (mC M_X8_readsPerson) 210 = .ok (.iastore, 1) := by decide +kernel
theorem DM_X8_readsPerson_211 : decode (mC M_X8_readsPerson) 211 = .ok (.aload_n 0, 1) := by decide +kernel
theorem DM_X8_readsPerson_212 : decode (mC M_X8_readsPerson) 212 = .ok (.getfield 28, 3) := by decide +kernel
theorem DM_X8_readsPerson_215 : decode (mC M_X8_readsPerson) 215 = .ok (.iload_n 2, 1) := by decide +kernel
theorem DM_X8_readsPerson_216 : decode (mC M_X8_readsPerson) 216 = .ok (.bipush 8, 2) := by decide +kernel
theorem DM_X8_readsPerson_218 : decode (mC M_X8_readsPerson) 218 = .ok (.iadd, 1) := by decide +kernel
theorem DM_X8_readsPerson_219 : decode (mC M_X8_readsPerson) 219 = .ok (.iconst 0, 1) := by decide +kernel
theorem DM_X8_readsPerson_220 : decode (mC M_X8_readsPerson) 220 = .ok (.iastore, 1) := by decide +kernel
theorem DM_X8_readsPerson_221 : decode (mC M_X8_readsPerson) 221 = .ok (.aload_n 0, 1) := by decide +kernel
theorem DM_X8_readsPerson_222 : decode (mC M_X8_readsPerson) 222 = .ok (.getfield 28, 3) := by decide +kernel
theorem DM_X8_readsPerson_225 : decode (mC M_X8_readsPerson) 225 = .ok (.iload_n 2, 1) := by decide +kernel
theorem DM_X8_readsPerson_226 : decode (mC M_X8_readsPerson) 226 = .ok (.bipush 9, 2) := by decide +kernel
theorem DM_X8_readsPerson_228 : decode (mC M_X8_readsPerson) 228 = .ok (.iadd, 1) := by decide +kernel
theorem DM_X8_readsPerson_229 : decode (mC M_X8_readsPerson) 229 = .ok (.iconst 0, 1) := by decide +kernel
theorem DM_X8_readsPerson_230 : decode (mC M_X8_readsPerson) 230 = .ok (.iastore, 1) := by decide +kernel
theorem DM_X8_readsPerson_231 : decode (mC M_X8_readsPerson) 231 = .ok (.aload_n 0, 1) := by decide +kernel
theorem DM_X8_readsPerson_232 : decode (mC M_X8_readsPerson) 232 = .ok (.getfield 28, 3) := by decide +kernel
theorem DM_X8_readsPerson_235 : decode (mC M_X8_readsPerson) 235 = .ok (.iload_n 2, 1) := by decide +kernel
theorem DM_X8_readsPerson_236 : decode (mC M_X8_readsPerson) 236 = .ok (.bipush 10, 2) := by decide +kernel
theorem DM_X8_readsPerson_238 : decode (mC M_X8_readsPerson) 238 = .ok (.iadd, 1) := by decide +kernel
theorem DM_X8_readsPerson_239 : decode (mC M_X8_readsPerson) 239 = .ok (.ldc 59, 2) := by decide +kernel
theorem DM_X8_readsPerson_241 : decode (mC M_X8_readsPerson) 241 = .ok (.iastore, 1) := by decide +kernel
theorem DM_X8_readsPerson_242 : decode (mC M_X8_readsPerson) 242 = .ok (.aload_n 0, 1) := by decide +kernel
theorem DM_X8_readsPerson_243 : decode (mC M_X8_readsPerson) 243 = .ok (.getfield 28, 3) := by decide +kernel
theorem DM_X8_readsPerson_246 : decode (mC M_X8_readsPerson) 246 = .ok (.iload_n 2, 1) := by decide +kernel
theorem DM_X8_readsPerson_247 : decode (mC M_X8_readsPerson) 247 = .ok (.bipush 11, 2) := by decide +kernel
theorem DM_X8_readsPerson_249 : decode (mC M_X8_readsPerson) 249 = .ok (.iadd, 1) := by decide +kernel
theorem DM_X8_readsPerson_250 : decode (mC M_X8_readsPerson) 250 = .ok (.ldc 59, 2) := by decide +kernel
theorem DM_X8_readsPerson_252 : decode (mC M_X8_readsPerson) 252 = .ok (.iastore, 1) := by decide +kernel
theorem DM_X8_readsPerson_253 : decode (mC M_X8_readsPerson) 253 = .ok (.aload_n 0, 1) := by decide +kernel
theorem DM_X8_readsPerson_254 : decode (mC M_X8_readsPerson) 254 = .ok (.getfield 28, 3) := by decide +kernel
theorem DM_X8_readsPerson_257 : decode (mC M_X8_readsPerson) 257 = .ok (.iload_n 2, 1) := by decide +kernel
theorem DM_X8_readsPerson_258 : decode (mC M_X8_readsPerson) 258 = .ok (.bipush 12, 2) := by decide +kernel
theorem DM_X8_readsPerson_260 : decode (mC M_X8_readsPerson) 260 = .ok (.iadd, 1) := by decide +kernel
theorem DM_X8_readsPerson_261 : decode (mC M_X8_readsPerson) 261 = .ok (.ldc 59, 2) := by decide +kernel
theorem DM_X8_readsPerson_263 : decode (mC M_X8_readsPerson) 263 = .ok (.iastore, 1) := by decide +kernel
theorem DM_X8_readsPerson_264 : decode (mC M_X8_readsPerson) 264 = .ok (.aload_n 0, 1) := by decide +kernel
theorem DM_X8_readsPerson_265 : decode (mC M_X8_readsPerson) 265 = .ok (.getfield 28, 3) := by decide +kernel
theorem DM_X8_readsPerson_268 : decode (mC M_X8_readsPerson) 268 = .ok (.iconst 2, 1) := by decide +kernel
theorem DM_X8_readsPerson_269 : decode (mC M_X8_readsPerson) 269 = .ok (.dup2, 1) := by decide +kernel
theorem DM_X8_readsPerson_270 : decode (mC M_X8_readsPerson) 270 = .ok (.iaload, 1) := by decide +kernel
theorem DM_X8_readsPerson_271 : decode (mC M_X8_readsPerson) 271 = .ok (.iconst 1, 1) := by decide +kernel
theorem DM_X8_readsPerson_272 : decode (mC M_X8_readsPerson) 272 = .ok (.iadd, 1) := by decide +kernel
theorem DM_X8_readsPerson_273 : decode (mC M_X8_readsPerson) 273 = .ok (.iastore, 1) := by decide +kernel
theorem DM_X8_readsPerson_274 : decode (mC M_X8_readsPerson) 274 = .ok (.return_, 1) := by decide +kernel
theorem DM_X8_takes2_0 : decode (mC M_X8_takes2) 0 = .ok (.aload_n 0, 1) := by decide +kernel
theorem DM_X8_takes2_1 : decode (mC M_X8_takes2) 1 = .ok (.invokevirtual 113, 3) := by decide +kernel
theorem DM_X8_takes2_4 : decode (mC M_X8_takes2) 4 = .ok (.ifCond .eq 20, 3) := by decide +kernel
theorem DM_X8_takes2_7 : decode (mC M_X8_takes2) 7 = .ok (.iload_n 1, 1) := by decide +kernel
theorem DM_X8_takes2_8 : decode (mC M_X8_takes2) 8 = .ok (.ifCond .ne 16, 3) := by decide +kernel
theorem DM_X8_takes2_11 : decode (mC M_X8_takes2) 11 = .ok (.aload_n 0, 1) := by decide +kernel
theorem DM_X8_takes2_12 : decode (mC M_X8_takes2) 12 = .ok (.aload_n 0, 1) := by decide +kernel
theorem DM_X8_takes2_13 : decode (mC M_X8_takes2) 13 = .ok (.getfield 98, 3) := by decide +kernel
theorem DM_X8_takes2_16 : decode (mC M_X8_takes2) 16 = .ok (.putfield 110, 3) := by decide +kernel
theorem DM_X8_takes2_19 : decode (mC M_X8_takes2) 19 = .ok (.aload_n 0, 1) := by decide +kernel
theorem DM_X8_takes2_20 : decode (mC M_X8_takes2) 20 = .ok (.iconst 1, 1) := by decide +kernel
theorem DM_X8_takes2_21 : decode (mC M_X8_takes2) 21 = .ok (.putfield 117, 3) := by decide +kernel
theorem DM_X8_takes2_24 : decode (mC M_X8_takes2) 24 = .ok (.return_, 1) := by decide +kernel
theorem DM_X8_court_0 : decode (mC M_X8_court) 0 = .ok (.iconst 0, 1) := by decide +kernel
theorem DM_X8_court_1 : decode (mC M_X8_court) 1 = .ok (.istore_n 1, 1) := by decide +kernel
theorem DM_X8_court_2 : decode (mC M_X8_court) 2 = .ok (.iload_n 1, 1) := by decide +kernel
theorem DM_X8_court_3 : decode (mC M_X8_court) 3 = .ok (.bipush 91, 2) := by decide +kernel
theorem DM_X8_court_5 : decode (mC M_X8_court) 5 = .ok (.if_icmp .ge 16, 3) := by decide +kernel
theorem DM_X8_court_8 : decode (mC M_X8_court) 8 = .ok (.aload_n 0, 1) := by decide +kernel
theorem DM_X8_court_9 : decode (mC M_X8_court) 9 = .ok (.getfield 28, 3) := by decide +kernel
theorem DM_X8_court_12 : decode (mC M_X8_court) 12 = .ok (.iload_n 1, 1) := by decide +kernel
theorem DM_X8_court_13 : decode (mC M_X8_court) 13 = .ok (.iconst 0, 1) := by decide +kernel
theorem DM_X8_court_14 : decode (mC M_X8_court) 14 = .ok (.iastore, 1) := by decide +kernel
theorem DM_X8_court_15 : decode (mC M_X8_court) 15 = .ok (.iinc 1 1, 3) := by decide +kernel
theorem DM_X8_court_18 : decode (mC M_X8_court) 18 = .ok (.goto (-16), 3) := by decide +kernel
theorem DM_X8_court_21 : decode (mC M_X8_court) 21 = .ok (.aload_n 0, 1) := by decide +kernel
theorem DM_X8_court_22 : decode (mC M_X8_court) 22 = .ok (.iconst 0, 1) := by decide +kernel
theorem DM_X8_court_23 : decode (mC M_X8_court) 23 = .ok (.putfield 95, 3) := by decide +kernel
theorem DM_X8_court_26 : decode (mC M_X8_court) 26 = .ok (.aload_n 0, 1) := by decide +kernel
theorem DM_X8_court_27 : decode (mC M_X8_court) 27 = .ok (.iconst (-1), 1) := by decide +kernel
theorem DM_X8_court_28 : decode (mC M_X8_court) 28 = .ok (.putfield 110, 3) := by decide +kernel
theorem DM_X8_court_31 : decode (mC M_X8_court) 31 = .ok (.aload_n 0, 1) := by decide +kernel
theorem DM_X8_court_32 : decode (mC M_X8_court) 32 = .ok (.invokevirtual 120, 3) := by decide +kernel
theorem DM_X8_court_35 : decode (mC M_X8_court) 35 = .ok (.aload_n 0, 1) := by decide +kernel
theorem DM_X8_court_36 : decode (mC M_X8_court) 36 = .ok (.aload_n 0, 1) := by decide +kernel
theorem DM_X8_court_37 : decode (mC M_X8_court) 37 = .ok (.getfield 107, 3) := by decide +kernel
theorem DM_X8_court_40 : decode (mC M_X8_court) 40 = .ok (.iconst 1, 1) := by decide +kernel
theorem DM_X8_court_41 : decode (mC M_X8_court) 41 = .ok (.if_icmp .ne 16, 3) := by decide +kernel
theorem DM_X8_court_44 : decode (mC M_X8_court) 44 = .ok (.aload_n 0, 1) := by decide +kernel
theorem DM_X8_court_45 : decode (mC M_X8_court) 45 = .ok (.getfield 104, 3) := by decide +kernel
theorem DM_X8_court_48 : decode (mC M_X8_court) 48 = .ok (.bipush 119, 2) := by decide +kernel
theorem DM_X8_court_50 : decode (mC M_X8_court) 50 = .ok (.if_icmp .ne 7, 3) := by decide +kernel
theorem DM_X8_court_53 : decode (mC M_X8_court) 53 = .ok (.iconst 1, 1) := by decide +kernel
theorem DM_X8_court_54 : decode (mC M_X8_court) 54 = .ok (.goto 4, 3) := by decide +kernel
theorem DM_X8_court_57 : decode (mC M_X8_court) 57 = .ok (.iconst 0, 1) := by decide +kernel
theorem DM_X8_court_58 : decode (mC M_X8_court) 58 = .ok (.iconst 1, 1) := by decide +kernel
theorem DM_X8_court_59 : decode (mC M_X8_court) 59 = .ok (.invokevirtual 123, 3) := by decide +kernel
theorem DM_X8_court_62 : decode (mC M_X8_court) 62 = .ok (.pop, 1) := by decide +kernel
theorem DM_X8_court_63 : decode (mC M_X8_court) 63 = .ok (.aload_n 0, 1) := by decide +kernel
theorem DM_X8_court_64 : decode (mC M_X8_court) 64 = .ok (.getfield 28, 3) := by decide +kernel
theorem DM_X8_court_67 : decode (mC M_X8_court) 67 = .ok (.iconst 0, 1) := by decide +kernel
theorem DM_X8_court_68 : decode (mC M_X8_court) 68 = .ok (.aload_n 0, 1) := by decide +kernel
theorem DM_X8_court_69 : decode (mC M_X8_court) 69 = .ok (.iconst 1, 1) := by decide +kernel
theorem DM_X8_court_70 : decode (mC M_X8_court) 70 = .ok (.iconst 4, 1) := by decide +kernel
theorem DM_X8_court_71 : decode (mC M_X8_court) 71 = .ok (.invokevirtual 141, 3) := by decide +kernel
theorem DM_X8_court_74 : decode (mC M_X8_court) 74 = .ok (.iastore, 1) := by decide +kernel
theorem DM_X8_court_75 : decode (mC M_X8_court) 75 = .ok (.aload_n 0, 1) := by decide +kernel
theorem DM_X8_court_76 : decode (mC M_X8_court) 76 = .ok (.aload_n 0, 1) := by decide +kernel
theorem DM_X8_court_77 : decode (mC M_X8_court) 77 = .ok (.getfield 107, 3) := by decide +kernel
theorem DM_X8_court_80 : decode (mC M_X8_court) 80 = .ok (.iconst 3, 1) := by decide +kernel
theorem DM_X8_court_81 : decode (mC M_X8_court) 81 = .ok (.if_icmp .ne 7, 3) := by decide +kernel
theorem DM_X8_court_84 : decode (mC M_X8_court) 84 = .ok (.iconst 1, 1) := by decide +kernel
theorem DM_X8_court_85 : decode (mC M_X8_court) 85 = .ok (.goto 4, 3) := by decide +kernel
theorem DM_X8_court_88 : decode (mC M_X8_court) 88 = .ok (.iconst 0, 1) := by decide +kernel
theorem DM_X8_court_89 : decode (mC M_X8_court) 89 = .ok (.iconst 1, 1) := by decide +kernel
theorem DM_X8_court_90 : decode (mC M_X8_court) 90 = .ok (.invokevirtual 123, 3) := by decide +kernel
theorem DM_X8_court_93 : decode (mC M_X8_court) 93 = .ok (.pop, 1) := by decide +kernel
theorem DM_X8_court_94 : decode (mC M_X8_court) 94 = .ok (.aload_n 0, 1) := by decide +kernel
theorem DM_X8_court_95 : decode (mC M_X8_court) 95 = .ok (.getfield 28, 3) := by decide +kernel
theorem DM_X8_court_98 : decode (mC M_X8_court) 98 = .ok (.iconst 1, 1) := by decide +kernel
theorem DM_X8_court_99 : decode (mC M_X8_court) 99 = .ok (.aload_n 0, 1) := by decide +kernel
theorem DM_X8_court_100 : decode (mC M_X8_court) 100 = .ok (.iconst 0, 1) := by decide +kernel
theorem DM_X8_court_101 : decode (mC M_X8_court) 101 = .ok (.bipush 30, 2) := by decide +kernel
theorem DM_X8_court_103 : decode (mC M_X8_court) 103 = .ok (.invokevirtual 141, 3) := by decide +kernel
theorem DM_X8_court_106 : decode (mC M_X8_court) 106 = .ok (.iastore, 1) := by decide +kernel
theorem DM_X8_court_107 : decode (mC M_X8_court) 107 = .ok (.aload_n 0, 1) := by decide +kernel
theorem DM_X8_court_108 : decode (mC M_X8_court) 108 = .ok (.aload_n 0, 1) := by decide +kernel
theorem DM_X8_court_109 : decode (mC M_X8_court) 109 = .ok (.getfield 107, 3) := by decide +kernel
theorem DM_X8_court_112 : decode (mC M_X8_court) 112 = .ok (.iconst 4, 1) := by decide +kernel
theorem DM_X8_court_113 : decode (mC M_X8_court) 113 = .ok (.if_icmp .ne 7, 3) := by decide +kernel
theorem DM_X8_court_116 : decode (mC M_X8_court) 116 = .ok (.iconst 1, 1) := by decide +kernel
theorem DM_X8_court_117 : decode (mC M_X8_court) 117 = .ok (.goto 4, 3) := by decide +kernel
theorem DM_X8_court_120 : decode (mC M_X8_court) 120 = .ok (.iconst 0, 1) := by decide +kernel
theorem DM_X8_court_121 : decode (mC M_X8_court) 121 = .ok (.iconst 1, 1) := by decide +kernel
theorem DM_X8_court_122 : decode (mC M_X8_court) 122 = .ok (.invokevirtual 123, 3) := by decide +kernel
theorem DM_X8_court_125 : decode (mC M_X8_court) 125 = .ok (.pop, 1) := by decide +kernel
theorem DM_X8_court_126 : decode (mC M_X8_court) 126 = .ok (.aload_n 0, 1) := by decide +kernel
theorem DM_X8_court_127 : decode (mC M_X8_court) 127 = .ok (.invokevirtual 144, 3) := by decide +kernel
theorem DM_X8_court_130 : decode (mC M_X8_court) 130 = .ok (.aload_n 0, 1) := by decide +kernel
theorem DM_X8_court_131 : decode (mC M_X8_court) 131 = .ok (.invokevirtual 113, 3) := by decide +kernel
theorem DM_X8_court_134 : decode (mC M_X8_court) 134 = .ok (.ifCond .eq 28, 3) := by decide +kernel
theorem DM_X8_court_137 : decode (mC M_X8_court) 137 = .ok (.aload_n 0, 1) := by decide +kernel
theorem DM_X8_court_138 : decode (mC M_X8_court) 138 = .ok (.getfield 107, 3) := by decide +kernel
theorem DM_X8_court_141 : decode (mC M_X8_court) 141 = .ok (.iconst 1, 1) := by decide +kernel
theorem DM_X8_court_142 : decode (mC M_X8_court) 142 = .ok (.if_icmp .ne 20, 3) := by decide +kernel
theorem DM_X8_court_145 : decode (mC M_X8_court) 145 = .ok (.aload_n 0, 1) := by decide +kernel
theorem DM_X8_court_146 : decode (mC M_X8_court) 146 = .ok (.getfield 104, 3) := by decide +kernel
theorem DM_X8_court_149 : decode (mC M_X8_court) 149 = .ok (.invokestatic 134, 3) := by decide +kernel
theorem DM_X8_court_152 : decode (mC M_X8_court) 152 = .ok (.ifCond .le 10, 3) := by decide +kernel
theorem DM_X8_court_155 : decode (mC M_X8_court) 155 = .ok (.aload_n 0, 1) := by decide +kernel
theorem DM_X8_court_156 : decode (mC M_X8_court) 156 = .ok (.invokevirtual 147, 3) := by decide +kernel
theorem DM_X8_court_159 : decode (mC M_X8_court) 159 = .ok (.goto (-29), 3) := by decide +kernel
theorem DM_X8_court_162 : decode (mC M_X8_court) 162 = .ok (.aload_n 0, 1) := by decide +kernel
theorem DM_X8_court_163 : decode (mC M_X8_court) 163 = .ok (.aload_n 0, 1) := by decide +kernel
theorem DM_X8_court_164 : decode (mC M_X8_court) 164 = .ok (.getfield 107, 3) := by decide +kernel
theorem DM_X8_court_167 : decode (mC M_X8_court) 167 = .ok (.ifCond .ne 7, 3) := by decide +kernel
theorem DM_X8_court_170 : decode (mC M_X8_court) 170 = .ok (.iconst 1, 1) := by decide +kernel
theorem DM_X8_court_171 : decode (mC M_X8_court) 171 = .ok (.goto 4, 3) := by decide +kernel
theorem DM_X8_court_174 : decode (mC M_X8_court) 174 = .ok (.iconst 0, 1) := by decide +kernel
theorem DM_X8_court_175 : decode (mC M_X8_court) 175 = .ok (.invokevirtual 137, 3) := by decide +kernel
theorem DM_X8_court_178 : decode (mC M_X8_court) 178 = .ok (.aload_n 0, 1) := by decide +kernel
theorem DM_X8_court_179 : decode (mC M_X8_court) 179 = .ok (.iconst 0, 1) := by decide +kernel
theorem DM_X8_court_180 : decode (mC M_X8_court) 180 = .ok (.putfield 91, 3) := by decide +kernel
theorem DM_X8_court_183 : decode (mC M_X8_court) 183 = .ok (.aload_n 0, 1) := by decide +kernel
theorem DM_X8_court_184 : decode (mC M_X8_court) 184 = .ok (.invokevirtual 113, 3) := by decide +kernel
theorem DM_X8_court_187 : decode (mC M_X8_court) 187 = .ok (.ifCond .ne 11, 3) := by decide +kernel
theorem DM_X8_court_190 : decode (mC M_X8_court) 190 = .ok (.ldc 150, 2) := by decide +kernel
theorem DM_X8_court_192 : decode (mC M_X8_court) 192 = .ok (.aload_n 0, 1) := by decide +kernel
theorem DM_X8_court_193 : decode (mC M_X8_court) 193 = .ok (.getfield 110, 3) := by decide +kernel
theorem DM_X8_court_196 : decode (mC M_X8_court) 196 = .ok (.isub, 1) := by decide +kernel
theorem DM_X8_court_197 : decode (mC M_X8_court) 197 = .ok (.ireturn, 1) := by decide +kernel
theorem DM_X8_court_198 : decode (mC M_X8_court) 198 = .ok (.aload_n 0, 1) := by decide +kernel
theorem DM_X8_court_199 : decode (mC M_X8_court) 199 = .ok (.getfield 28, 3) := by decide +kernel
theorem DM_X8_court_202 : decode (mC M_X8_court) 202 = .ok (.iconst 0, 1) := by decide +kernel
theorem DM_X8_court_203 : decode (mC M_X8_court) 203 = .ok (.aload_n 0, 1) := by decide +kernel
theorem DM_X8_court_204 : decode (mC M_X8_court) 204 = .ok (.getfield 25, 3) := by decide +kernel
theorem DM_X8_court_207 : decode (mC M_X8_court) 207 = .ok (.iconst 0, 1) := by decide +kernel
theorem DM_X8_court_208 : decode (mC M_X8_court) 208 = .ok (.invokestatic 151, 3) := by decide +kernel
theorem DM_X8_court_211 : decode (mC M_X8_court) 211 = .ok (.aload_n 0, 1) := by decide +kernel
theorem DM_X8_court_212 : decode (mC M_X8_court) 212 = .ok (.iconst 0, 1) := by decide +kernel
theorem DM_X8_court_213 : decode (mC M_X8_court) 213 = .ok (.putfield 155, 3) := by decide +kernel
theorem DM_X8_court_216 : decode (mC M_X8_court) 216 = .ok (.aload_n 0, 1) := by decide +kernel
theorem DM_X8_court_217 : decode (mC M_X8_court) 217 = .ok (.getfield 25, 3) := by decide +kernel
theorem DM_X8_court_220 : decode (mC M_X8_court) 220 = .ok (.iconst 2, 1) := by decide +kernel
theorem DM_X8_court_221 : decode (mC M_X8_court) 221 = .ok (.iaload, 1) := by decide +kernel
theorem DM_X8_court_222 : decode (mC M_X8_court) 222 = .ok (.ireturn, 1) := by decide +kernel
theorem DM_X8_fault_0 : decode (mC M_X8_fault) 0 = .ok (.aload_n 0, 1) := by decide +kernel
theorem DM_X8_fault_1 : decode (mC M_X8_fault) 1 = .ok (.getfield 117, 3) := by decide +kernel
theorem DM_X8_fault_4 : decode (mC M_X8_fault) 4 = .ok (.ireturn, 1) := by decide +kernel
theorem DM_X8_isCourt_0 : decode (mC M_X8_isCourt) 0 = .ok (.aload_n 0, 1) := by decide +kernel
theorem DM_X8_isCourt_1 : decode (mC M_X8_isCourt) 1 = .ok (.getfield 25, 3) := by decide +kernel
theorem DM_X8_isCourt_4 : decode (mC M_X8_isCourt) 4 = .ok (.iconst 0, 1) := by decide +kernel
theorem DM_X8_isCourt_5 : decode (mC M_X8_isCourt) 5 = .ok (.iaload, 1) := by decide +kernel
theorem DM_X8_isCourt_6 : decode (mC M_X8_isCourt) 6 = .ok (.ifCond .le 7, 3) := by decide +kernel
theorem DM_X8_isCourt_9 : decode (mC M_X8_isCourt) 9 = .ok (.iconst 1, 1) := by decide +kernel
theorem DM_X8_isCourt_10 : decode (mC M_X8_isCourt) 10 = .ok (.goto 4, 3) := by decide +kernel
theorem DM_X8_isCourt_13 : decode (mC M_X8_isCourt) 13 = .ok (.iconst 0, 1) := by decide +kernel
theorem DM_X8_isCourt_14 : decode (mC M_X8_isCourt) 14 = .ok (.ireturn, 1) := by decide +kernel
theorem DM_X8_isPerson_0 : decode (mC M_X8_isPerson) 0 = .ok (.iload_n 1, 1) := by decide +kernel
theorem DM_X8_isPerson_1 : decode (mC M_X8_isPerson) 1 = .ok (.iconst 0, 1) := by decide +kernel
theorem DM_X8_isPerson_2 : decode (mC M_X8_isPerson) 2 = .ok (.aload_n 0, 1) := by decide +kernel
theorem DM_X8_isPerson_3 : decode (mC M_X8_isPerson) 3 = .ok (.getfield 25, 3) := by decide +kernel
theorem DM_X8_isPerson_6 : decode (mC M_X8_isPerson) 6 = .ok (.iconst 2, 1) := by decide +kernel
theorem DM_X8_isPerson_7 : decode (mC M_X8_isPerson) 7 = .ok (.iaload, 1) := by decide +kernel
theorem DM_X8_isPerson_8 : decode (mC M_X8_isPerson) 8 = .ok (.iconst 1, 1) := by decide +kernel
theorem DM_X8_isPerson_9 : decode (mC M_X8_isPerson) 9 = .ok (.isub, 1) := by decide +kernel
theorem DM_X8_isPerson_10 : decode (mC M_X8_isPerson) 10 = .ok (.invokestatic 65, 3) := by decide +kernel
theorem DM_X8_isPerson_13 : decode (mC M_X8_isPerson) 13 = .ok (.ireturn, 1) := by decide +kernel
theorem DM_X8_of_0 : decode (mC M_X8_of) 0 = .ok (.aload_n 0, 1) := by decide +kernel
theorem DM_X8_of_1 : decode (mC M_X8_of) 1 = .ok (.bipush 13, 2) := by decide +kernel
theorem DM_X8_of_3 : decode (mC M_X8_of) 3 = .ok (.bipush 13, 2) := by decide +kernel
theorem DM_X8_of_5 : decode (mC M_X8_of) 5 = .ok (.iload_n 1, 1) := by decide +kernel
theorem DM_X8_of_6 : decode (mC M_X8_of) 6 = .ok (.imul, 1) := by decide +kernel
theorem DM_X8_of_7 : decode (mC M_X8_of) 7 = .ok (.iadd, 1) := by decide +kernel
theorem DM_X8_of_8 : decode (mC M_X8_of) 8 = .ok (.iload_n 2, 1) := by decide +kernel
theorem DM_X8_of_9 : decode (mC M_X8_of) 9 = .ok (.iadd, 1) := by decide +kernel
theorem DM_X8_of_10 : decode (mC M_X8_of) 10 = .ok (.iaload, 1) := by decide +kernel
theorem DM_X8_of_11 : decode (mC M_X8_of) 11 = .ok (.ireturn, 1) := by decide +kernel
theorem DM_X8_rank_0 : decode (mC M_X8_rank) 0 = .ok (.aload_n 0, 1) := by decide +kernel
theorem DM_X8_rank_1 : decode (mC M_X8_rank) 1 = .ok (.iconst 1, 1) := by decide +kernel
theorem DM_X8_rank_2 : decode (mC M_X8_rank) 2 = .ok (.iaload, 1) := by decide +kernel
theorem DM_X8_rank_3 : decode (mC M_X8_rank) 3 = .ok (.ifCond .ne 7, 3) := by decide +kernel
theorem DM_X8_rank_6 : decode (mC M_X8_rank) 6 = .ok (.iconst 0, 1) := by decide +kernel
theorem DM_X8_rank_7 : decode (mC M_X8_rank) 7 = .ok (.goto 10, 3) := by decide +kernel
theorem DM_X8_rank_10 : decode (mC M_X8_rank) 10 = .ok (.aload_n 0, 1) := by decide +kernel
theorem DM_X8_rank_11 : decode (mC M_X8_rank) 11 = .ok (.iconst 3, 1) := by decide +kernel
theorem DM_X8_rank_12 : decode (mC M_X8_rank) 12 = .ok (.iaload, 1) := by decide +kernel
theorem DM_X8_rank_13 : decode (mC M_X8_rank) 13 = .ok (.aload_n 0, 1) := by decide +kernel
theorem DM_X8_rank_14 : decode (mC M_X8_rank) 14 = .ok (.iconst 1, 1) := by decide +kernel
theorem DM_X8_rank_15 : decode (mC M_X8_rank) 15 = .ok (.iaload, 1) := by decide +kernel
theorem DM_X8_rank_16 : decode (mC M_X8_rank) 16 = .ok (.idiv, 1) := by decide +kernel
theorem DM_X8_rank_17 : decode (mC M_X8_rank) 17 = .ok (.iload_n 2, 1) := by decide +kernel
theorem DM_X8_rank_18 : decode (mC M_X8_rank) 18 = .ok (.iadd, 1) := by decide +kernel
theorem DM_X8_rank_19 : decode (mC M_X8_rank) 19 = .ok (.istore_n 3, 1) := by decide +kernel
theorem DM_X8_rank_20 : decode (mC M_X8_rank) 20 = .ok (.iconst 0, 1) := by decide +kernel
theorem DM_X8_rank_21 : decode (mC M_X8_rank) 21 = .ok (.istore 4, 2) := by decide +kernel
theorem DM_X8_rank_23 : decode (mC M_X8_rank) 23 = .ok (.iload 4, 2) := by decide +kernel
theorem DM_X8_rank_25 : decode (mC M_X8_rank) 25 = .ok (.bipush 8, 2) := by decide +kernel
theorem DM_X8_rank_27 : decode (mC M_X8_rank) 27 = .ok (.if_icmp .ge 27, 3) := by decide +kernel
theorem DM_X8_rank_30 : decode (mC M_X8_rank) 30 = .ok (.aload_n 0, 1) := by decide +kernel
theorem DM_X8_rank_31 : decode (mC M_X8_rank) 31 = .ok (.iconst 5, 1) := by decide +kernel
theorem DM_X8_rank_32 : decode (mC M_X8_rank) 32 = .ok (.iload 4, 2) := by decide +kernel
theorem DM_X8_rank_34 : decode (mC M_X8_rank) 34 = .ok (.iload_n 3, 1) := by decide +kernel
theorem DM_X8_rank_35 : decode (mC M_X8_rank) 35 = .ok (.iadd, 1) := by decide +kernel
theorem DM_X8_rank_36 : decode (mC M_X8_rank) 36 = .ok (.bipush 8, 2) := by decide +kernel
theorem DM_X8_rank_38 : decode (mC M_X8_rank) 38 = .ok (.irem, 1) := by decide +kernel
theorem DM_X8_rank_39 : decode (mC M_X8_rank) 39 = .ok (.iadd, 1) := by decide +kernel
theorem DM_X8_rank_40 : decode (mC M_X8_rank) 40 = .ok (.iaload, 1) := by decide +kernel
theorem DM_X8_rank_41 : decode (mC M_X8_rank) 41 = .ok (.iload_n 1, 1) := by decide +kernel
theorem DM_X8_rank_42 : decode (mC M_X8_rank) 42 = .ok (.if_icmp .ne 6, 3) := by decide +kernel
theorem DM_X8_rank_45 : decode (mC M_X8_rank) 45 = .ok (.iload 4, 2) := by decide +kernel
theorem DM_X8_rank_47 : decode (mC M_X8_rank) 47 = .ok (.ireturn, 1) := by decide +kernel
theorem DM_X8_rank_48 : decode (mC M_X8_rank) 48 = .ok (.iinc 4 1, 3) := by decide +kernel
theorem DM_X8_rank_51 : decode (mC M_X8_rank) 51 = .ok (.goto (-28), 3) := by decide +kernel
theorem DM_X8_rank_54 : decode (mC M_X8_rank) 54 = .ok (.bipush 8, 2) := by decide +kernel
theorem DM_X8_rank_56 : decode (mC M_X8_rank) 56 = .ok (.ireturn, 1) := by decide +kernel
theorem DM_X8_letterOf_0 : decode (mC M_X8_letterOf) 0 = .ok (.aload_n 0, 1) := by decide +kernel
theorem DM_X8_letterOf_1 : decode (mC M_X8_letterOf) 1 = .ok (.iload_n 1, 1) := by decide +kernel
theorem DM_X8_letterOf_2 : decode (mC M_X8_letterOf) 2 = .ok (.iconst 3, 1) := by decide +kernel
theorem DM_X8_letterOf_3 : decode (mC M_X8_letterOf) 3 = .ok (.invokestatic 158, 3) := by decide +kernel
theorem DM_X8_letterOf_6 : decode (mC M_X8_letterOf) 6 = .ok (.istore_n 3, 1) := by decide +kernel
theorem DM_X8_letterOf_7 : decode (mC M_X8_letterOf) 7 = .ok (.iload_n 2, 1) := by decide +kernel
theorem DM_X8_letterOf_8 : decode (mC M_X8_letterOf) 8 = .ok (.iload_n 3, 1) := by decide +kernel
theorem DM_X8_letterOf_9 : decode (mC M_X8_letterOf) 9 = .ok (.if_icmp .lt 5, 3) := by decide +kernel
theorem DM_X8_letterOf_12 : decode (mC M_X8_letterOf) 12 = .ok (.iconst (-1), 1) := by decide +kernel
theorem DM_X8_letterOf_13 : decode (mC M_X8_letterOf) 13 = .ok (.ireturn, 1) := by decide +kernel
theorem DM_X8_letterOf_14 : decode (mC M_X8_letterOf) 14 = .ok (.aload_n 0, 1) := by decide +kernel
theorem DM_X8_letterOf_15 : decode (mC M_X8_letterOf) 15 = .ok (.iload_n 1, 1) := by decide +kernel
theorem DM_X8_letterOf_16 : decode (mC M_X8_letterOf) 16 = .ok (.iconst 4, 1) := by decide +kernel
theorem DM_X8_letterOf_17 : decode (mC M_X8_letterOf) 17 = .ok (.aload_n 0, 1) := by decide +kernel
theorem DM_X8_letterOf_18 : decode (mC M_X8_letterOf) 18 = .ok (.iload_n 1, 1) := by decide +kernel
theorem DM_X8_letterOf_19 : decode (mC M_X8_letterOf) 19 = .ok (.iconst 0, 1) := by decide +kernel
theorem DM_X8_letterOf_20 : decode (mC M_X8_letterOf) 20 = .ok (.invokestatic 158, 3) := by decide +kernel
theorem DM_X8_letterOf_23 : decode (mC M_X8_letterOf) 23 = .ok (.iconst 2, 1) := by decide +kernel
theorem DM_X8_letterOf_24 : decode (mC M_X8_letterOf) 24 = .ok (.if_icmp .ne 11, 3) := by decide +kernel
theorem DM_X8_letterOf_27 : decode (mC M_X8_letterOf) 27 = .ok (.iload_n 3, 1) := by decide +kernel
theorem DM_X8_letterOf_28 : decode (mC M_X8_letterOf) 28 = .ok (.iconst 1, 1) := by decide +kernel
theorem DM_X8_letterOf_29 : decode (mC M_X8_letterOf) 29 = .ok (.isub, 1) := by decide +kernel
theorem DM_X8_letterOf_30 : decode (mC M_X8_letterOf) 30 = .ok (.iload_n 2, 1) := by decide +kernel
theorem DM_X8_letterOf_31 : decode (mC M_X8_letterOf) 31 = .ok (.isub, 1) := by decide +kernel
theorem DM_X8_letterOf_32 : decode (mC M_X8_letterOf) 32 = .ok (.goto 4, 3) := by decide +kernel
theorem DM_X8_letterOf_35 : decode (mC M_X8_letterOf) 35 = .ok (.iload_n 2, 1) := by decide +kernel
theorem DM_X8_letterOf_36 : decode (mC M_X8_letterOf) 36 = .ok (.iadd, 1) := by decide +kernel
theorem DM_X8_letterOf_37 : decode (mC M_X8_letterOf) 37 = .ok (.invokestatic 158, 3) := by decide +kernel
theorem DM_X8_letterOf_40 : decode (mC M_X8_letterOf) 40 = .ok (.ireturn, 1) := by decide +kernel
theorem DM_X8_classOf_0 : decode (mC M_X8_classOf) 0 = .ok (.aload_n 0, 1) := by decide +kernel
theorem DM_X8_classOf_1 : decode (mC M_X8_classOf) 1 = .ok (.iload_n 1, 1) := by decide +kernel
theorem DM_X8_classOf_2 : decode (mC M_X8_classOf) 2 = .ok (.iconst 0, 1) := by decide +kernel
theorem DM_X8_classOf_3 : decode (mC M_X8_classOf) 3 = .ok (.invokestatic 158, 3) := by decide +kernel
theorem DM_X8_classOf_6 : decode (mC M_X8_classOf) 6 = .ok (.istore_n 2, 1) := by decide +kernel
theorem DM_X8_classOf_7 : decode (mC M_X8_classOf) 7 = .ok (.iload_n 2, 1) := by decide +kernel
theorem DM_X8_classOf_8 : decode (mC M_X8_classOf) 8 = .ok (.iconst 5, 1) := by decide +kernel
theorem DM_X8_classOf_9 : decode (mC M_X8_classOf) 9 = .ok (.if_icmp .ne 7, 3) := by decide +kernel
theorem DM_X8_classOf_12 : decode (mC M_X8_classOf) 12 = .ok (.iconst 0, 1) := by decide +kernel
theorem DM_X8_classOf_13 : decode (mC M_X8_classOf) 13 = .ok (.goto 13, 3) := by decide +kernel
theorem DM_X8_classOf_16 : decode (mC M_X8_classOf) 16 = .ok (.iload_n 2, 1) := by decide +kernel
theorem DM_X8_classOf_17 : decode (mC M_X8_classOf) 17 = .ok (.iconst 4, 1) := by decide +kernel
theorem DM_X8_classOf_18 : decode (mC M_X8_classOf) 18 = .ok (.if_icmp .ne 7, 3) := by decide +kernel
theorem DM_X8_classOf_21 : decode (mC M_X8_classOf) 21 = .ok (.iconst 2, 1) := by decide +kernel
theorem DM_X8_classOf_22 : decode (mC M_X8_classOf) 22 = .ok (.goto 4, 3) := by decide +kernel
theorem DM_X8_classOf_25 : decode (mC M_X8_classOf) 25 = .ok (.iconst 1, 1) := by decide +kernel
theorem DM_X8_classOf_26 : decode (mC M_X8_classOf) 26 = .ok (.ireturn, 1) := by decide +kernel
theorem DM_X8_isBefore_0 : decode (mC M_X8_isBefore) 0 = .ok (.aload_n 0, 1) := by decide +kernel
theorem DM_X8_isBefore_1 : decode (mC M_X8_isBefore) 1 = .ok (.iload_n 1, 1) := by decide +kernel
theorem DM_X8_isBefore_2 : decode (mC M_X8_isBefore) 2 = .ok (.invokestatic 162, 3) := by decide +kernel
theorem DM_X8_isBefore_5 : decode (mC M_X8_isBefore) 5 = .ok (.aload_n 0, 1) := by decide +kernel
theorem DM_X8_isBefore_6 : decode (mC M_X8_isBefore) 6 = .ok (.iload_n 2, 1) := by decide +kernel
theorem DM_X8_isBefore_7 : decode (mC M_X8_isBefore) 7 = .ok (.invokestatic 162, 3) := by decide +kernel
theorem DM_X8_isBefore_10 : decode (mC M_X8_isBefore) 10 = .ok (.if_icmp .eq 22, 3) := by decide +kernel
theorem DM_X8_isBefore_13 : decode (mC M_X8_isBefore) 13 = .ok (.aload_n 0, 1) := by decide +kernel
theorem DM_X8_isBefore_14 : decode (mC M_X8_isBefore) 14 = .ok (.iload_n 1, 1) := by decide +kernel
theorem DM_X8_isBefore_15 : decode (mC M_X8_isBefore) 15 = .ok (.invokestatic 162, 3) := by decide +kernel
theorem DM_X8_isBefore_18 : decode (mC M_X8_isBefore) 18 = .ok (.aload_n 0, 1) := by decide +kernel
theorem DM_X8_isBefore_19 : decode (mC M_X8_isBefore) 19 = .ok (.iload_n 2, 1) := by decide +kernel
theorem DM_X8_isBefore_20 : decode (mC M_X8_isBefore) 20 = .ok (.invokestatic 162, 3) := by decide +kernel
theorem DM_X8_isBefore_23 : decode (mC M_X8_isBefore) 23 = .ok (.if_icmp .ge 7, 3) := by decide +kernel
theorem DM_X8_isBefore_26 : decode (mC M_X8_isBefore) 26 = .ok (.iconst 1, 1) := by decide +kernel
theorem DM_X8_isBefore_27 : decode (mC M_X8_isBefore) 27 = .ok (.goto 4, 3) := by decide +kernel
theorem DM_X8_isBefore_30 : decode (mC M_X8_isBefore) 30 = .ok (.iconst 0, 1) := by decide +kernel
theorem DM_X8_isBefore_31 : decode (mC M_X8_isBefore) 31 = .ok (.ireturn, 1) := by decide +kernel
theorem DM_X8_isBefore_32 : decode (mC M_X8_isBefore) 32 = .ok (.iconst 0, 1) := by decide +kernel
theorem DM_X8_isBefore_33 : decode (mC M_X8_isBefore) 33 = .ok (.istore 4, 2) := by decide +kernel
theorem DM_X8_isBefore_35 : decode (mC M_X8_isBefore) 35 = .ok (.iload 4, 2) := by decide +kernel
theorem DM_X8_isBefore_37 : decode (mC M_X8_isBefore) 37 = .ok (.iconst 4, 1) := by decide +kernel
theorem DM_X8_isBefore_38 : decode (mC M_X8_isBefore) 38 = .ok (.if_icmp .ge 67, 3) := by decide +kernel
theorem DM_X8_isBefore_41 : decode (mC M_X8_isBefore) 41 = .ok (.aload_n 0, 1) := by decide +kernel
theorem DM_X8_isBefore_42 : decode (mC M_X8_isBefore) 42 = .ok (.iload_n 1, 1) := by decide +kernel
theorem DM_X8_isBefore_43 : decode (mC M_X8_isBefore) 43 = .ok (.iload 4, 2) := by decide +kernel
theorem DM_X8_isBefore_45 : decode (mC M_X8_isBefore) 45 = .ok (.invokestatic 166, 3) := by decide +kernel
theorem DM_X8_isBefore_48 : decode (mC M_X8_isBefore) 48 = .ok (.istore 5, 2) := by decide +kernel
theorem DM_X8_isBefore_50 : decode (mC M_X8_isBefore) 50 = .ok (.aload_n 0, 1) := by decide +kernel
theorem DM_X8_isBefore_51 : decode (mC M_X8_isBefore) 51 = .ok (.iload_n 2, 1) := by decide +kernel
theorem DM_X8_isBefore_52 : decode (mC M_X8_isBefore) 52 = .ok (.iload 4, 2) := by decide +kernel
theorem DM_X8_isBefore_54 : decode (mC M_X8_isBefore) 54 = .ok (.invokestatic 166, 3) := by decide +kernel
theorem DM_X8_isBefore_57 : decode (mC M_X8_isBefore) 57 = .ok (.istore 6, 2) := by decide +kernel
theorem DM_X8_isBefore_59 : decode (mC M_X8_isBefore) 59 = .ok (.iload 5, 2) := by decide +kernel
theorem DM_X8_isBefore_61 : decode (mC M_X8_isBefore) 61 = .ok (.iload 6, 2) := by decide +kernel
theorem DM_X8_isBefore_63 : decode (mC M_X8_isBefore) 63 = .ok (.if_icmp .eq 36, 3) := by decide +kernel
theorem DM_X8_isBefore_66 : decode (mC M_X8_isBefore) 66 = .ok (.iload 5, 2) := by decide +kernel
theorem DM_X8_isBefore_68 : decode (mC M_X8_isBefore) 68 = .ok (.ifCond .lt 25, 3) := by decide +kernel
theorem DM_X8_isBefore_71 : decode (mC M_X8_isBefore) 71 = .ok (.iload 6, 2) := by decide +kernel
theorem DM_X8_isBefore_73 : decode (mC M_X8_isBefore) 73 = .ok (.ifCond .lt 24, 3) := by decide +kernel
theorem DM_X8_isBefore_76 : decode (mC M_X8_isBefore) 76 = .ok (.aload_n 0, 1) := by decide +kernel
theorem DM_X8_isBefore_77 : decode (mC M_X8_isBefore) 77 = .ok (.iload 5, 2) := by decide +kernel
theorem DM_X8_isBefore_79 : decode (mC M_X8_isBefore) 79 = .ok (.iload_n 3, 1) := by decide +kernel
theorem DM_X8_isBefore_80 : decode (mC M_X8_isBefore) 80 = .ok (.invokestatic 169, 3) := by decide +kernel
theorem DM_X8_isBefore_83 : decode (mC M_X8_isBefore) 83 = .ok (.aload_n 0, 1) := by decide +kernel
theorem DM_X8_isBefore_84 : decode (mC M_X8_isBefore) 84 = .ok (.iload 6, 2) := by decide +kernel
theorem DM_X8_isBefore_86 : decode (mC M_X8_isBefore) 86 = .ok (.iload_n 3, 1) := by decide +kernel
theorem DM_X8_isBefore_87 : decode (mC M_X8_isBefore) 87 = .ok (.invokestatic 169, 3) := by decide +kernel
theorem DM_X8_isBefore_90 : decode (mC M_X8_isBefore) 90 = .ok (.if_icmp .ge 7, 3) := by decide +kernel
theorem DM_X8_isBefore_93 : decode (mC M_X8_isBefore) 93 = .ok (.iconst 1, 1) := by decide +kernel
theorem DM_X8_isBefore_94 : decode (mC M_X8_isBefore) 94 = .ok (.goto 4, 3) := by decide +kernel
theorem DM_X8_isBefore_97 : decode (mC M_X8_isBefore) 97 = .ok (.iconst 0, 1) := by decide +kernel
theorem DM_X8_isBefore_98 : decode (mC M_X8_isBefore) 98 = .ok (.ireturn, 1) := by decide +kernel
theorem DM_X8_isBefore_99 : decode (mC M_X8_isBefore) 99 = .ok (.iinc 4 1, 3) := by decide +kernel
theorem DM_X8_isBefore_102 : decode (mC M_X8_isBefore) 102 = .ok (.goto (-67), 3) := by decide +kernel
theorem DM_X8_isBefore_105 : decode (mC M_X8_isBefore) 105 = .ok (.iload_n 1, 1) := by decide +kernel
theorem DM_X8_isBefore_106 : decode (mC M_X8_isBefore) 106 = .ok (.iload_n 2, 1) := by decide +kernel
theorem DM_X8_isBefore_107 : decode (mC M_X8_isBefore) 107 = .ok (.if_icmp .ge 7, 3) := by decide +kernel
theorem DM_X8_isBefore_110 : decode (mC M_X8_isBefore) 110 = .ok (.iconst 1, 1) := by decide +kernel
theorem DM_X8_isBefore_111 : decode (mC M_X8_isBefore) 111 = .ok (.goto 4, 3) := by decide +kernel
theorem DM_X8_isBefore_114 : decode (mC M_X8_isBefore) 114 = .ok (.iconst 0, 1) := by decide +kernel
theorem DM_X8_isBefore_115 : decode (mC M_X8_isBefore) 115 = .ok (.ireturn, 1) := by decide +kernel
theorem DM_X8_waits_0 : decode (mC M_X8_waits) 0 = .ok (.aload_n 0, 1) := by decide +kernel
theorem DM_X8_waits_1 : decode (mC M_X8_waits) 1 = .ok (.iload_n 1, 1) := by decide +kernel
theorem DM_X8_waits_2 : decode (mC M_X8_waits) 2 = .ok (.bipush 8, 2) := by decide +kernel
theorem DM_X8_waits_4 : decode (mC M_X8_waits) 4 = .ok (.invokestatic 158, 3) := by decide +kernel
theorem DM_X8_waits_7 : decode (mC M_X8_waits) 7 = .ok (.ifCond .ne 7, 3) := by decide +kernel
theorem DM_X8_waits_10 : decode (mC M_X8_waits) 10 = .ok (.iconst 1, 1) := by decide +kernel
theorem DM_X8_waits_11 : decode (mC M_X8_waits) 11 = .ok (.goto 4, 3) := by decide +kernel
theorem DM_X8_waits_14 : decode (mC M_X8_waits) 14 = .ok (.iconst 0, 1) := by decide +kernel
theorem DM_X8_waits_15 : decode (mC M_X8_waits) 15 = .ok (.ireturn, 1) := by decide +kernel
theorem DM_X8_manySo_0 : decode (mC M_X8_manySo) 0 = .ok (.iconst 0, 1) := by decide +kernel
theorem DM_X8_manySo_1 : decode (mC M_X8_manySo) 1 = .ok (.istore_n 2, 1) := by decide +kernel
theorem DM_X8_manySo_2 : decode (mC M_X8_manySo) 2 = .ok (.iconst 0, 1) := by decide +kernel
theorem DM_X8_manySo_3 : decode (mC M_X8_manySo) 3 = .ok (.istore_n 3, 1) := by decide +kernel
theorem DM_X8_manySo_4 : decode (mC M_X8_manySo) 4 = .ok (.iload_n 3, 1) := by decide +kernel
theorem DM_X8_manySo_5 : decode (mC M_X8_manySo) 5 = .ok (.aload_n 0, 1) := by decide +kernel
theorem DM_X8_manySo_6 : decode (mC M_X8_manySo) 6 = .ok (.iconst 2, 1) := by decide +kernel
theorem DM_X8_manySo_7 : decode (mC M_X8_manySo) 7 = .ok (.iaload, 1) := by decide +kernel
theorem DM_X8_manySo_8 : decode (mC M_X8_manySo) 8 = .ok (.if_icmp .ge 28, 3) := by decide +kernel
theorem DM_X8_manySo_11 : decode (mC M_X8_manySo) 11 = .ok (.iload_n 2, 1) := by decide +kernel
theorem DM_X8_manySo_12 : decode (mC M_X8_manySo) 12 = .ok (.aload_n 0, 1) := by decide +kernel
theorem DM_X8_manySo_13 : decode (mC M_X8_manySo) 13 = .ok (.iload_n 3, 1) := by decide +kernel
theorem DM_X8_manySo_14 : decode (mC M_X8_manySo) 14 = .ok (.bipush 8, 2) := by decide +kernel
theorem DM_X8_manySo_16 : decode (mC M_X8_manySo) 16 = .ok (.invokestatic 158, 3) := by decide +kernel
theorem DM_X8_manySo_19 : decode (mC M_X8_manySo) 19 = .ok (.iload_n 1, 1) := by decide +kernel
theorem DM_X8_manySo_20 : decode (mC M_X8_manySo) 20 = .ok (.if_icmp .ne 7, 3) := by decide +kernel
theorem DM_X8_manySo_23 : decode (mC M_X8_manySo) 23 = .ok (.iconst 1, 1) := by decide +kernel
theorem DM_X8_manySo_24 : decode (mC M_X8_manySo) 24 = .ok (.goto 4, 3) := by decide +kernel
theorem DM_X8_manySo_27 : decode (mC M_X8_manySo) 27 = .ok (.iconst 0, 1) := by decide +kernel
theorem DM_X8_manySo_28 : decode (mC M_X8_manySo) 28 = .ok (.iadd, 1) := by decide +kernel
theorem DM_X8_manySo_29 : decode (mC M_X8_manySo) 29 = .ok (.istore_n 2, 1) := by decide +kernel
theorem DM_X8_manySo_30 : decode (mC M_X8_manySo) 30 = .ok (.iinc 3 1, 3) := by decide +kernel
theorem DM_X8_manySo_33 : decode (mC M_X8_manySo) 33 = .ok (.goto (-29), 3) := by decide +kernel
theorem DM_X8_manySo_36 : decode (mC M_X8_manySo) 36 = .ok (.iload_n 2, 1) := by decide +kernel
theorem DM_X8_manySo_37 : decode (mC M_X8_manySo) 37 = .ok (.ireturn, 1) := by decide +kernel
theorem DM_X8_isLost_0 : decode (mC M_X8_isLost) 0 = .ok (.iconst 0, 1) := by decide +kernel
theorem DM_X8_isLost_1 : decode (mC M_X8_isLost) 1 = .ok (.istore_n 2, 1) := by decide +kernel
theorem DM_X8_isLost_2 : decode (mC M_X8_isLost) 2 = .ok (.iconst 0, 1) := by decide +kernel
theorem DM_X8_isLost_3 : decode (mC M_X8_isLost) 3 = .ok (.istore_n 3, 1) := by decide +kernel
theorem DM_X8_isLost_4 : decode (mC M_X8_isLost) 4 = .ok (.iload_n 3, 1) := by decide +kernel
theorem DM_X8_isLost_5 : decode (mC M_X8_isLost) 5 = .ok (.aload_n 0, 1) := by decide +kernel
theorem DM_X8_isLost_6 : decode (mC M_X8_isLost) 6 = .ok (.iload_n 1, 1) := by decide +kernel
theorem DM_X8_isLost_7 : decode (mC M_X8_isLost) 7 = .ok (.iconst 3, 1) := by decide +kernel
theorem DM_X8_isLost_8 : decode (mC M_X8_isLost) 8 = .ok (.invokestatic 158, 3) := by decide +kernel
theorem DM_X8_isLost_11 : decode (mC M_X8_isLost) 11 = .ok (.if_icmp .ge 36, 3) := by decide +kernel
theorem DM_X8_isLost_14 : decode (mC M_X8_isLost) 14 = .ok (.iload_n 2, 1) := by decide +kernel
theorem DM_X8_isLost_15 : decode (mC M_X8_isLost) 15 = .ok (.ifCond .ne 20, 3) := by decide +kernel
theorem DM_X8_isLost_18 : decode (mC M_X8_isLost) 18 = .ok (.aload_n 0, 1) := by decide +kernel
theorem DM_X8_isLost_19 : decode (mC M_X8_isLost) 19 = .ok (.iconst 4, 1) := by decide +kernel
theorem DM_X8_isLost_20 : decode (mC M_X8_isLost) 20 = .ok (.iaload, 1) := by decide +kernel
theorem DM_X8_isLost_21 : decode (mC M_X8_isLost) 21 = .ok (.aload_n 0, 1) := by decide +kernel
theorem DM_X8_isLost_22 : decode (mC M_X8_isLost) 22 = .ok (.iload_n 1, 1) := by decide +kernel
theorem DM_X8_isLost_23 : decode (mC M_X8_isLost) 23 = .ok (.iconst 4, 1) := by decide +kernel
theorem DM_X8_isLost_24 : decode (mC M_X8_isLost) 24 = .ok (.iload_n 3, 1) := by decide +kernel
theorem DM_X8_isLost_25 : decode (mC M_X8_isLost) 25 = .ok (.iadd, 1) := by decide +kernel
theorem DM_X8_isLost_26 : decode (mC M_X8_isLost) 26 = .ok (.invokestatic 158, 3) := by decide +kernel
theorem DM_X8_isLost_29 : decode (mC M_X8_isLost) 29 = .ok (.invokestatic 130, 3) := by decide +kernel
theorem DM_X8_isLost_32 : decode (mC M_X8_isLost) 32 = .ok (.ifCond .eq 7, 3) := by decide +kernel
theorem DM_X8_isLost_35 : decode (mC M_X8_isLost) 35 = .ok (.iconst 1, 1) := by decide +kernel
theorem DM_X8_isLost_36 : decode (mC M_X8_isLost) 36 = .ok (.goto 4, 3) := by decide +kernel
theorem DM_X8_isLost_39 : decode (mC M_X8_isLost) 39 = .ok (.iconst 0, 1) := by decide +kernel
theorem DM_X8_isLost_40 : decode (mC M_X8_isLost) 40 = .ok (.istore_n 2, 1) := by decide +kernel
theorem DM_X8_isLost_41 : decode (mC M_X8_isLost) 41 = .ok (.iinc 3 1, 3) := by decide +kernel
theorem DM_X8_isLost_44 : decode (mC M_X8_isLost) 44 = .ok (.goto (-40), 3) := by decide +kernel
theorem DM_X8_isLost_47 : decode (mC M_X8_isLost) 47 = .ok (.iload_n 2, 1) := by decide +kernel
theorem DM_X8_isLost_48 : decode (mC M_X8_isLost) 48 = .ok (.ireturn, 1) := by decide +kernel
theorem DM_X8_nextBy_0 : decode (mC M_X8_nextBy) 0 = .ok (.ldc 59, 2) := by decide +kernel
theorem DM_X8_nextBy_2 : decode (mC M_X8_nextBy) 2 = .ok (.istore_n 2, 1) := by decide +kernel
theorem DM_X8_nextBy_3 : decode (mC M_X8_nextBy) 3 = .ok (.iconst 0, 1) := by decide +kernel
theorem DM_X8_nextBy_4 : decode (mC M_X8_nextBy) 4 = .ok (.istore_n 3, 1) := by decide +kernel
theorem DM_X8_nextBy_5 : decode (mC M_X8_nextBy) 5 = .ok (.iload_n 3, 1) := by decide +kernel
theorem DM_X8_nextBy_6 : decode (mC M_X8_nextBy) 6 = .ok (.aload_n 0, 1) := by decide +kernel
theorem DM_X8_nextBy_7 : decode (mC M_X8_nextBy) 7 = .ok (.iconst 2, 1) := by decide +kernel
theorem DM_X8_nextBy_8 : decode (mC M_X8_nextBy) 8 = .ok (.iaload, 1) := by decide +kernel
theorem DM_X8_nextBy_9 : decode (mC M_X8_nextBy) 9 = .ok (.if_icmp .ge 43, 3) := by decide +kernel
theorem DM_X8_nextBy_12 : decode (mC M_X8_nextBy) 12 = .ok (.aload_n 0, 1) := by decide +kernel
theorem DM_X8_nextBy_13 : decode (mC M_X8_nextBy) 13 = .ok (.iload_n 3, 1) := by decide +kernel
theorem DM_X8_nextBy_14 : decode (mC M_X8_nextBy) 14 = .ok (.invokestatic 172, 3) := by decide +kernel
theorem DM_X8_nextBy_17 : decode (mC M_X8_nextBy) 17 = .ok (.ifCond .eq 29, 3) := by decide +kernel
theorem DM_X8_nextBy_20 : decode (mC M_X8_nextBy) 20 = .ok (.aload_n 0, 1) := by decide +kernel
theorem DM_X8_nextBy_21 : decode (mC M_X8_nextBy) 21 = .ok (.iload_n 3, 1) := by decide +kernel
theorem DM_X8_nextBy_22 : decode (mC M_X8_nextBy) 22 = .ok (.invokestatic 176, 3) := by decide +kernel
theorem DM_X8_nextBy_25 : decode (mC M_X8_nextBy) 25 = .ok (.ifCond .ne 21, 3) := by decide +kernel
theorem DM_X8_nextBy_28 : decode (mC M_X8_nextBy) 28 = .ok (.iload_n 2, 1) := by decide +kernel
theorem DM_X8_nextBy_29 : decode (mC M_X8_nextBy) 29 = .ok (.ldc 59, 2) := by decide +kernel
theorem DM_X8_nextBy_31 : decode (mC M_X8_nextBy) 31 = .ok (.if_icmp .eq 13, 3) := by decide +kernel
theorem DM_X8_nextBy_34 : decode (mC M_X8_nextBy) 34 = .ok (.aload_n 0, 1) := by decide +kernel
theorem DM_X8_nextBy_35 : decode (mC M_X8_nextBy) 35 = .ok (.iload_n 3, 1) := by decide +kernel
theorem DM_X8_nextBy_36 : decode (mC M_X8_nextBy) 36 = .ok (.iload_n 2, 1) := by decide +kernel
theorem DM_X8_nextBy_37 : decode (mC M_X8_nextBy) 37 = .ok (.iload_n 1, 1) := by decide +kernel
theorem DM_X8_nextBy_38 : decode (mC M_X8_nextBy) 38 = .ok (.invokestatic 179, 3) := by decide +kernel
theorem DM_X8_nextBy_41 : decode (mC M_X8_nextBy) 41 = .ok (.ifCond .eq 5, 3) := by decide +kernel
theorem DM_X8_nextBy_44 : decode (mC M_X8_nextBy) 44 = .ok (.iload_n 3, 1) := by decide +kernel
theorem DM_X8_nextBy_45 : decode (mC M_X8_nextBy) 45 = .ok (.istore_n 2, 1) := by decide +kernel
theorem DM_X8_nextBy_46 : decode (mC M_X8_nextBy) 46 = .ok (.iinc 3 1, 3) := by decide +kernel
theorem DM_X8_nextBy_49 : decode (mC M_X8_nextBy) 49 = .ok (.goto (-44), 3) := by decide +kernel
theorem DM_X8_nextBy_52 : decode (mC M_X8_nextBy) 52 = .ok (.iload_n 2, 1) := by decide +kernel
theorem DM_X8_nextBy_53 : decode (mC M_X8_nextBy) 53 = .ok (.ireturn, 1) := by decide +kernel
theorem DM_X8_ages_0 : decode (mC M_X8_ages) 0 = .ok (.aload_n 0, 1) := by decide +kernel
theorem DM_X8_ages_1 : decode (mC M_X8_ages) 1 = .ok (.iconst 3, 1) := by decide +kernel
theorem DM_X8_ages_2 : decode (mC M_X8_ages) 2 = .ok (.dup2, 1) := by decide +kernel
theorem DM_X8_ages_3 : decode (mC M_X8_ages) 3 = .ok (.iaload, 1) := by decide +kernel
theorem DM_X8_ages_4 : decode (mC M_X8_ages) 4 = .ok (.iconst 1, 1) := by decide +kernel
theorem DM_X8_ages_5 : decode (mC M_X8_ages) 5 = .ok (.iadd, 1) := by decide +kernel
theorem DM_X8_ages_6 : decode (mC M_X8_ages) 6 = .ok (.iastore, 1) := by decide +kernel
theorem DM_X8_ages_7 : decode (mC M_X8_ages) 7 = .ok (.iconst 0, 1) := by decide +kernel
theorem DM_X8_ages_8 : decode (mC M_X8_ages) 8 = .ok (.istore_n 1, 1) := by decide +kernel
theorem DM_X8_ages_9 : decode (mC M_X8_ages) 9 = .ok (.iload_n 1, 1) := by decide +kernel
theorem DM_X8_ages_10 : decode (mC M_X8_ages) 10 = .ok (.aload_n 0, 1) := by decide +kernel
theorem DM_X8_ages_11 : decode (mC M_X8_ages) 11 = .ok (.iconst 2, 1) := by decide +kernel
theorem DM_X8_ages_12 : decode (mC M_X8_ages) 12 = .ok (.iaload, 1) := by decide +kernel
theorem DM_X8_ages_13 : decode (mC M_X8_ages) 13 = .ok (.if_icmp .ge 101, 3) := by decide +kernel
theorem DM_X8_ages_16 : decode (mC M_X8_ages) 16 = .ok (.bipush 13, 2) := by decide +kernel
theorem DM_X8_ages_18 : decode (mC M_X8_ages) 18 = .ok (.bipush 13, 2) := by decide +kernel
theorem DM_X8_ages_20 : decode (mC M_X8_ages) 20 = .ok (.iload_n 1, 1) := by decide +kernel
theorem DM_X8_ages_21 : decode (mC M_X8_ages) 21 = .ok (.imul, 1) := by decide +kernel
theorem DM_X8_ages_22 : decode (mC M_X8_ages) 22 = .ok (.iadd, 1) := by decide +kernel
theorem DM_X8_ages_23 : decode (mC M_X8_ages) 23 = .ok (.istore_n 2, 1) := by decide +kernel
theorem DM_X8_ages_24 : decode (mC M_X8_ages) 24 = .ok (.aload_n 0, 1) := by decide +kernel
theorem DM_X8_ages_25 : decode (mC M_X8_ages) 25 = .ok (.iload_n 2, 1) := by decide +kernel
theorem DM_X8_ages_26 : decode (mC M_X8_ages) 26 = .ok (.bipush 8, 2) := by decide +kernel
theorem DM_X8_ages_28 : decode (mC M_X8_ages) 28 = .ok (.iadd, 1) := by decide +kernel
theorem DM_X8_ages_29 : decode (mC M_X8_ages) 29 = .ok (.iaload, 1) := by decide +kernel
theorem DM_X8_ages_30 : decode (mC M_X8_ages) 30 = .ok (.iconst 1, 1) := by decide +kernel
theorem DM_X8_ages_31 : decode (mC M_X8_ages) 31 = .ok (.if_icmp .ne 41, 3) := by decide +kernel
theorem DM_X8_ages_34 : decode (mC M_X8_ages) 34 = .ok (.aload_n 0, 1) := by decide +kernel
theorem DM_X8_ages_35 : decode (mC M_X8_ages) 35 = .ok (.iload_n 2, 1) := by decide +kernel
theorem DM_X8_ages_36 : decode (mC M_X8_ages) 36 = .ok (.bipush 9, 2) := by decide +kernel
theorem DM_X8_ages_38 : decode (mC M_X8_ages) 38 = .ok (.iadd, 1) := by decide +kernel
theorem DM_X8_ages_39 : decode (mC M_X8_ages) 39 = .ok (.dup2, 1) := by decide +kernel
theorem DM_X8_ages_40 : decode (mC M_X8_ages) 40 = .ok (.iaload, 1) := by decide +kernel
theorem DM_X8_ages_41 : decode (mC M_X8_ages) 41 = .ok (.iconst 1, 1) := by decide +kernel
theorem DM_X8_ages_42 : decode (mC M_X8_ages) 42 = .ok (.isub, 1) := by decide +kernel
theorem DM_X8_ages_43 : decode (mC M_X8_ages) 43 = .ok (.iastore, 1) := by decide +kernel
theorem DM_X8_ages_44 : decode (mC M_X8_ages) 44 = .ok (.aload_n 0, 1) := by decide +kernel
theorem DM_X8_ages_45 : decode (mC M_X8_ages) 45 = .ok (.iload_n 2, 1) := by decide +kernel
theorem DM_X8_ages_46 : decode (mC M_X8_ages) 46 = .ok (.bipush 9, 2) := by decide +kernel
theorem DM_X8_ages_48 : decode (mC M_X8_ages) 48 = .ok (.iadd, 1) := by decide +kernel
theorem DM_X8_ages_49 : decode (mC M_X8_ages) 49 = .ok (.iaload, 1) := by decide +kernel
theorem DM_X8_ages_50 : decode (mC M_X8_ages) 50 = .ok (.ifCond .ne 58, 3) := by decide +kernel
theorem DM_X8_ages_53 : decode (mC M_X8_ages) 53 = .ok (.aload_n 0, 1) := by decide +kernel
theorem DM_X8_ages_54 : decode (mC M_X8_ages) 54 = .ok (.iload_n 2, 1) := by decide +kernel
theorem DM_X8_ages_55 : decode (mC M_X8_ages) 55 = .ok (.bipush 8, 2) := by decide +kernel
theorem DM_X8_ages_57 : decode (mC M_X8_ages) 57 = .ok (.iadd, 1) := by decide +kernel
theorem DM_X8_ages_58 : decode (mC M_X8_ages) 58 = .ok (.iconst 2, 1) := by decide +kernel
theorem DM_X8_ages_59 : decode (mC M_X8_ages) 59 = .ok (.iastore, 1) := by decide +kernel
theorem DM_X8_ages_60 : decode (mC M_X8_ages) 60 = .ok (.aload_n 0, 1) := by decide +kernel
theorem DM_X8_ages_61 : decode (mC M_X8_ages) 61 = .ok (.iload_n 2, 1) := by decide +kernel
theorem DM_X8_ages_62 : decode (mC M_X8_ages) 62 = .ok (.bipush 11, 2) := by decide +kernel
theorem DM_X8_ages_64 : decode (mC M_X8_ages) 64 = .ok (.iadd, 1) := by decide +kernel
theorem DM_X8_ages_65 : decode (mC M_X8_ages) 65 = .ok (.aload_n 0, 1) := by decide +kernel
theorem DM_X8_ages_66 : decode (mC M_X8_ages) 66 = .ok (.iconst 3, 1) := by decide +kernel
theorem DM_X8_ages_67 : decode (mC M_X8_ages) 67 = .ok (.iaload, 1) := by decide +kernel
theorem DM_X8_ages_68 : decode (mC M_X8_ages) 68 = .ok (.iastore, 1) := by decide +kernel
theorem DM_X8_ages_69 : decode (mC M_X8_ages) 69 = .ok (.goto 39, 3) := by decide +kernel
theorem DM_X8_ages_72 : decode (mC M_X8_ages) 72 = .ok (.aload_n 0, 1) := by decide +kernel
theorem DM_X8_ages_73 : decode (mC M_X8_ages) 73 = .ok (.iload_n 2, 1) := by decide +kernel
theorem DM_X8_ages_74 : decode (mC M_X8_ages) 74 = .ok (.bipush 8, 2) := by decide +kernel
theorem DM_X8_ages_76 : decode (mC M_X8_ages) 76 = .ok (.iadd, 1) := by decide +kernel
theorem DM_X8_ages_77 : decode (mC M_X8_ages) 77 = .ok (.iaload, 1) := by decide +kernel
theorem DM_X8_ages_78 : decode (mC M_X8_ages) 78 = .ok (.ifCond .ne 30, 3) := by decide +kernel
theorem DM_X8_ages_81 : decode (mC M_X8_ages) 81 = .ok (.aload_n 0, 1) := by decide +kernel
theorem DM_X8_ages_82 : decode (mC M_X8_ages) 82 = .ok (.iconst 3, 1) := by decide +kernel
theorem DM_X8_ages_83 : decode (mC M_X8_ages) 83 = .ok (.iaload, 1) := by decide +kernel
theorem DM_X8_ages_84 : decode (mC M_X8_ages) 84 = .ok (.aload_n 0, 1) := by decide +kernel
theorem DM_X8_ages_85 : decode (mC M_X8_ages) 85 = .ok (.iload_n 2, 1) := by decide +kernel
theorem DM_X8_ages_86 : decode (mC M_X8_ages) 86 = .ok (.iconst 2, 1) := by decide +kernel
theorem DM_X8_ages_87 : decode (mC M_X8_ages) 87 = .ok (.iadd, 1) := by decide +kernel
theorem DM_X8_ages_88 : decode (mC M_X8_ages) 88 = .ok (.iaload, 1) := by decide +kernel
theorem DM_X8_ages_89 : decode (mC M_X8_ages) 89 = .ok (.if_icmp .lt 19, 3) := by decide +kernel
theorem DM_X8_ages_92 : decode (mC M_X8_ages) 92 = .ok (.aload_n 0, 1) := by decide +kernel
theorem DM_X8_ages_93 : decode (mC M_X8_ages) 93 = .ok (.iload_n 2, 1) := by decide +kernel
theorem DM_X8_ages_94 : decode (mC M_X8_ages) 94 = .ok (.bipush 8, 2) := by decide +kernel
theorem DM_X8_ages_96 : decode (mC M_X8_ages) 96 = .ok (.iadd, 1) := by decide +kernel
theorem DM_X8_ages_97 : decode (mC M_X8_ages) 97 = .ok (.iconst 3, 1) := by decide +kernel
theorem DM_X8_ages_98 : decode (mC M_X8_ages) 98 = .ok (.iastore, 1) := by decide +kernel
theorem DM_X8_ages_99 : decode (mC M_X8_ages) 99 = .ok (.aload_n 0, 1) := by decide +kernel
theorem DM_X8_ages_100 : decode (mC M_X8_ages) 100 = .ok (.iload_n 2, 1) := by decide +kernel
theorem DM_X8_ages_101 : decode (mC M_X8_ages) 101 = .ok (.bipush 12, 2) := by decide +kernel
theorem DM_X8_ages_103 : decode (mC M_X8_ages) 103 = .ok (.iadd, 1) := by decide +kernel
theorem DM_X8_ages_104 : decode (mC M_X8_ages) 104 = .ok (.aload_n 0, 1) := by decide +kernel
theorem DM_X8_ages_105 : decode (mC M_X8_ages) 105 = .ok (.iconst 3, 1) := by decide +kernel
theorem DM_X8_ages_106 : decode (mC M_X8_ages) 106 = .ok (.iaload, 1) := by decide +kernel
theorem DM_X8_ages_107 : decode (mC M_X8_ages) 107 = .ok (.iastore, 1) := by decide +kernel
theorem DM_X8_ages_108 : decode (mC M_X8_ages) 108 = .ok (.iinc 1 1, 3) := by decide +kernel
theorem DM_X8_ages_111 : decode (mC M_X8_ages) 111 = .ok (.goto (-102), 3) := by decide +kernel
theorem DM_X8_ages_114 : decode (mC M_X8_ages) 114 = .ok (.return_, 1) := by decide +kernel
theorem DM_X8_seats_0 : decode (mC M_X8_seats) 0 = .ok (.bipush 13, 2) := by decide +kernel
theorem DM_X8_seats_2 : decode (mC M_X8_seats) 2 = .ok (.bipush 13, 2) := by decide +kernel
theorem DM_X8_seats_4 : decode (mC M_X8_seats) 4 = .ok (.iload_n 1, 1) := by decide +kernel
theorem DM_X8_seats_5 : decode (mC M_X8_seats) 5 = .ok (.imul, 1) := by decide +kernel
theorem DM_X8_seats_6 : decode (mC M_X8_seats) 6 = .ok (.iadd, 1) := by decide +kernel
theorem DM_X8_seats_7 : decode (mC M_X8_seats) 7 = .ok (.istore_n 2, 1) := by decide +kernel
theorem DM_X8_seats_8 : decode (mC M_X8_seats) 8 = .ok (.aload_n 0, 1) := by decide +kernel
theorem DM_X8_seats_9 : decode (mC M_X8_seats) 9 = .ok (.iload_n 2, 1) := by decide +kernel
theorem DM_X8_seats_10 : decode (mC M_X8_seats) 10 = .ok (.bipush 8, 2) := by decide +kernel
theorem DM_X8_seats_12 : decode (mC M_X8_seats) 12 = .ok (.iadd, 1) := by decide +kernel
theorem DM_X8_seats_13 : decode (mC M_X8_seats) 13 = .ok (.iconst 1, 1) := by decide +kernel
theorem DM_X8_seats_14 : decode (mC M_X8_seats) 14 = .ok (.iastore, 1) := by decide +kernel
theorem DM_X8_seats_15 : decode (mC M_X8_seats) 15 = .ok (.aload_n 0, 1) := by decide +kernel
theorem DM_X8_seats_16 : decode (mC M_X8_seats) 16 = .ok (.iload_n 2, 1) := by decide +kernel
theorem DM_X8_seats_17 : decode (mC M_X8_seats) 17 = .ok (.bipush 9, 2) := by decide +kernel
theorem DM_X8_seats_19 : decode (mC M_X8_seats) 19 = .ok (.iadd, 1) := by decide +kernel
theorem DM_X8_seats_20 : decode (mC M_X8_seats) 20 = .ok (.aload_n 0, 1) := by decide +kernel
theorem DM_X8_seats_21 : decode (mC M_X8_seats) 21 = .ok (.iload_n 2, 1) := by decide +kernel
theorem DM_X8_seats_22 : decode (mC M_X8_seats) 22 = .ok (.iconst 1, 1) := by decide +kernel
theorem DM_X8_seats_23 : decode (mC M_X8_seats) 23 = .ok (.iadd, 1) := by decide +kernel
theorem DM_X8_seats_24 : decode (mC M_X8_seats) 24 = .ok (.iaload, 1) := by decide +kernel
theorem DM_X8_seats_25 : decode (mC M_X8_seats) 25 = .ok (.iastore, 1) := by decide +kernel
