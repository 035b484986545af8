theorem DM_X8_ledger_126 : decode (mC M_X8_ledger) 126 = .ok (.aload_n 0, 1) := by decide +kernel
theorem DM_X8_ledger_127 : decode (mC M_X8_ledger) 127 = .ok (.getfield 31, 3) := by decide +kernel
theorem DM_X8_ledger_130 : decode (mC M_X8_ledger) 130 = .ok (.iload 5, 2) := by decide +kernel
theorem DM_X8_ledger_132 : decode (mC M_X8_ledger) 132 = .ok (.invokevirtual 207, 3) := by decide +kernel
theorem DM_X8_ledger_135 : decode (mC M_X8_ledger) 135 = .ok (.aload_n 0, 1) := by decide +kernel
theorem DM_X8_ledger_136 : decode (mC M_X8_ledger) 136 = .ok (.getfield 187, 3) := by decide +kernel
theorem DM_X8_ledger_139 : decode (mC M_X8_ledger) 139 = .ok (.iload_n 3, 1) := by decide +kernel
theorem DM_X8_ledger_140 : decode (mC M_X8_ledger) 140 = .ok (.if_icmp .ne 7, 3) := by decide +kernel
theorem DM_X8_ledger_143 : decode (mC M_X8_ledger) 143 = .ok (.iconst 1, 1) := by decide +kernel
theorem DM_X8_ledger_144 : decode (mC M_X8_ledger) 144 = .ok (.goto 4, 3) := by decide +kernel
theorem DM_X8_ledger_147 : decode (mC M_X8_ledger) 147 = .ok (.iconst 0, 1) := by decide +kernel
theorem DM_X8_ledger_148 : decode (mC M_X8_ledger) 148 = .ok (.istore 6, 2) := by decide +kernel
theorem DM_X8_ledger_150 : decode (mC M_X8_ledger) 150 = .ok (.iconst 0, 1) := by decide +kernel
theorem DM_X8_ledger_151 : decode (mC M_X8_ledger) 151 = .ok (.istore 7, 2) := by decide +kernel
theorem DM_X8_ledger_153 : decode (mC M_X8_ledger) 153 = .ok (.iload 7, 2) := by decide +kernel
theorem DM_X8_ledger_155 : decode (mC M_X8_ledger) 155 = .ok (.iload_n 3, 1) := by decide +kernel
theorem DM_X8_ledger_156 : decode (mC M_X8_ledger) 156 = .ok (.if_icmp .ge 45, 3) := by decide +kernel
theorem DM_X8_ledger_159 : decode (mC M_X8_ledger) 159 = .ok (.iload 6, 2) := by decide +kernel
theorem DM_X8_ledger_161 : decode (mC M_X8_ledger) 161 = .ok (.ifCond .eq 40, 3) := by decide +kernel
theorem DM_X8_ledger_164 : decode (mC M_X8_ledger) 164 = .ok (.aload_n 0, 1) := by decide +kernel
theorem DM_X8_ledger_165 : decode (mC M_X8_ledger) 165 = .ok (.getfield 47, 3) := by decide +kernel
theorem DM_X8_ledger_168 : decode (mC M_X8_ledger) 168 = .ok (.iload 7, 2) := by decide +kernel
theorem DM_X8_ledger_170 : decode (mC M_X8_ledger) 170 = .ok (.iaload, 1) := by decide +kernel
theorem DM_X8_ledger_171 : decode (mC M_X8_ledger) 171 = .ok (.aload_n 0, 1) := by decide +kernel
theorem DM_X8_ledger_172 : decode (mC M_X8_ledger) 172 = .ok (.getfield 16, 3) := by decide +kernel
theorem DM_X8_ledger_175 : decode (mC M_X8_ledger) 175 = .ok (.bipush 40, 2) := by decide +kernel
theorem DM_X8_ledger_177 : decode (mC M_X8_ledger) 177 = .ok (.iload_n 1, 1) := by decide +kernel
theorem DM_X8_ledger_178 : decode (mC M_X8_ledger) 178 = .ok (.imul, 1) := by decide +kernel
theorem DM_X8_ledger_179 : decode (mC M_X8_ledger) 179 = .ok (.iload_n 2, 1) := by decide +kernel
theorem DM_X8_ledger_180 : decode (mC M_X8_ledger) 180 = .ok (.iadd, 1) := by decide +kernel
theorem DM_X8_ledger_181 : decode (mC M_X8_ledger) 181 = .ok (.iload 7, 2) := by decide +kernel
theorem DM_X8_ledger_183 : decode (mC M_X8_ledger) 183 = .ok (.iadd, 1) := by decide +kernel
theorem DM_X8_ledger_184 : decode (mC M_X8_ledger) 184 = .ok (.iaload, 1) := by decide +kernel
theorem DM_X8_ledger_185 : decode (mC M_X8_ledger) 185 = .ok (.if_icmp .ne 7, 3) := by decide +kernel
theorem DM_X8_ledger_188 : decode (mC M_X8_ledger) 188 = .ok (.iconst 1, 1) := by decide +kernel
theorem DM_X8_ledger_189 : decode (mC M_X8_ledger) 189 = .ok (.goto 4, 3) := by decide +kernel
theorem DM_X8_ledger_192 : decode (mC M_X8_ledger) 192 = .ok (.iconst 0, 1) := by decide +kernel
theorem DM_X8_ledger_193 : decode (mC M_X8_ledger) 193 = .ok (.istore 6, 2) := by decide +kernel
theorem DM_X8_ledger_195 : decode (mC M_X8_ledger) 195 = .ok (.iinc 7 1, 3) := by decide +kernel
theorem DM_X8_ledger_198 : decode (mC M_X8_ledger) 198 = .ok (.goto (-45), 3) := by decide +kernel
theorem DM_X8_ledger_201 : decode (mC M_X8_ledger) 201 = .ok (.iload 4, 2) := by decide +kernel
theorem DM_X8_ledger_203 : decode (mC M_X8_ledger) 203 = .ok (.iload 6, 2) := by decide +kernel
theorem DM_X8_ledger_205 : decode (mC M_X8_ledger) 205 = .ok (.ifCond .eq 10, 3) := by decide +kernel
theorem DM_X8_ledger_208 : decode (mC M_X8_ledger) 208 = .ok (.iconst 1, 1) := by decide +kernel
theorem DM_X8_ledger_209 : decode (mC M_X8_ledger) 209 = .ok (.iload 5, 2) := by decide +kernel
theorem DM_X8_ledger_211 : decode (mC M_X8_ledger) 211 = .ok (.ishl, 1) := by decide +kernel
theorem DM_X8_ledger_212 : decode (mC M_X8_ledger) 212 = .ok (.goto 4, 3) := by decide +kernel
theorem DM_X8_ledger_215 : decode (mC M_X8_ledger) 215 = .ok (.iconst 0, 1) := by decide +kernel
theorem DM_X8_ledger_216 : decode (mC M_X8_ledger) 216 = .ok (.ior, 1) := by decide +kernel
theorem DM_X8_ledger_217 : decode (mC M_X8_ledger) 217 = .ok (.istore 4, 2) := by decide +kernel
theorem DM_X8_ledger_219 : decode (mC M_X8_ledger) 219 = .ok (.iinc 5 1, 3) := by decide +kernel
theorem DM_X8_ledger_222 : decode (mC M_X8_ledger) 222 = .ok (.goto (-117), 3) := by decide +kernel
theorem DM_X8_ledger_225 : decode (mC M_X8_ledger) 225 = .ok (.aload_n 0, 1) := by decide +kernel
theorem DM_X8_ledger_226 : decode (mC M_X8_ledger) 226 = .ok (.iload 4, 2) := by decide +kernel
theorem DM_X8_ledger_228 : decode (mC M_X8_ledger) 228 = .ok (.invokevirtual 78, 3) := by decide +kernel
theorem DM_X8_ledger_231 : decode (mC M_X8_ledger) 231 = .ok (.ireturn, 1) := by decide +kernel
theorem DM_X8_image_0 : decode (mC M_X8_image) 0 = .ok (.iload_n 1, 1) := by decide +kernel
theorem DM_X8_image_1 : decode (mC M_X8_image) 1 = .ok (.iconst 0, 1) := by decide +kernel
theorem DM_X8_image_2 : decode (mC M_X8_image) 2 = .ok (.iconst 1, 1) := by decide +kernel
theorem DM_X8_image_3 : decode (mC M_X8_image) 3 = .ok (.invokestatic 65, 3) := by decide +kernel
theorem DM_X8_image_6 : decode (mC M_X8_image) 6 = .ok (.ifCond .ne 6, 3) := by decide +kernel
theorem DM_X8_image_9 : decode (mC M_X8_image) 9 = .ok (.ldc 73, 2) := by decide +kernel
theorem DM_X8_image_11 : decode (mC M_X8_image) 11 = .ok (.ireturn, 1) := by decide +kernel
theorem DM_X8_image_12 : decode (mC M_X8_image) 12 = .ok (.aload_n 0, 1) := by decide +kernel
theorem DM_X8_image_13 : decode (mC M_X8_image) 13 = .ok (.invokevirtual 200, 3) := by decide +kernel
theorem DM_X8_image_16 : decode (mC M_X8_image) 16 = .ok (.ifCond .ne 6, 3) := by decide +kernel
theorem DM_X8_image_19 : decode (mC M_X8_image) 19 = .ok (.ldc 203, 2) := by decide +kernel
theorem DM_X8_image_21 : decode (mC M_X8_image) 21 = .ok (.ireturn, 1) := by decide +kernel
theorem DM_X8_image_22 : decode (mC M_X8_image) 22 = .ok (.aload_n 0, 1) := by decide +kernel
theorem DM_X8_image_23 : decode (mC M_X8_image) 23 = .ok (.getfield 25, 3) := by decide +kernel
theorem DM_X8_image_26 : decode (mC M_X8_image) 26 = .ok (.iconst 0, 1) := by decide +kernel
theorem DM_X8_image_27 : decode (mC M_X8_image) 27 = .ok (.aload_n 0, 1) := by decide +kernel
theorem DM_X8_image_28 : decode (mC M_X8_image) 28 = .ok (.getfield 37, 3) := by decide +kernel
theorem DM_X8_image_31 : decode (mC M_X8_image) 31 = .ok (.bipush 91, 2) := by decide +kernel
theorem DM_X8_image_33 : decode (mC M_X8_image) 33 = .ok (.iload_n 1, 1) := by decide +kernel
theorem DM_X8_image_34 : decode (mC M_X8_image) 34 = .ok (.imul, 1) := by decide +kernel
theorem DM_X8_image_35 : decode (mC M_X8_image) 35 = .ok (.invokestatic 151, 3) := by decide +kernel
theorem DM_X8_image_38 : decode (mC M_X8_image) 38 = .ok (.aload_n 0, 1) := by decide +kernel
theorem DM_X8_image_39 : decode (mC M_X8_image) 39 = .ok (.getfield 40, 3) := by decide +kernel
theorem DM_X8_image_42 : decode (mC M_X8_image) 42 = .ok (.iload_n 1, 1) := by decide +kernel
theorem DM_X8_image_43 : decode (mC M_X8_image) 43 = .ok (.iconst 1, 1) := by decide +kernel
theorem DM_X8_image_44 : decode (mC M_X8_image) 44 = .ok (.bastore, 1) := by decide +kernel
theorem DM_X8_image_45 : decode (mC M_X8_image) 45 = .ok (.iconst 1, 1) := by decide +kernel
theorem DM_X8_image_46 : decode (mC M_X8_image) 46 = .ok (.ireturn, 1) := by decide +kernel
theorem DM_X8_restore_0 : decode (mC M_X8_restore) 0 = .ok (.iload_n 1, 1) := by decide +kernel
theorem DM_X8_restore_1 : decode (mC M_X8_restore) 1 = .ok (.iconst 0, 1) := by decide +kernel
theorem DM_X8_restore_2 : decode (mC M_X8_restore) 2 = .ok (.iconst 1, 1) := by decide +kernel
theorem DM_X8_restore_3 : decode (mC M_X8_restore) 3 = .ok (.invokestatic 65, 3) := by decide +kernel
theorem DM_X8_restore_6 : decode (mC M_X8_restore) 6 = .ok (.ifCond .ne 6, 3) := by decide +kernel
theorem DM_X8_restore_9 : decode (mC M_X8_restore) 9 = .ok (.ldc 73, 2) := by decide +kernel
theorem DM_X8_restore_11 : decode (mC M_X8_restore) 11 = .ok (.ireturn, 1) := by decide +kernel
theorem DM_X8_restore_12 : decode (mC M_X8_restore) 12 = .ok (.aload_n 0, 1) := by decide +kernel
theorem DM_X8_restore_13 : decode (mC M_X8_restore) 13 = .ok (.getfield 40, 3) := by decide +kernel
theorem DM_X8_restore_16 : decode (mC M_X8_restore) 16 = .ok (.iload_n 1, 1) := by decide +kernel
theorem DM_X8_restore_17 : decode (mC M_X8_restore) 17 = .ok (.baload, 1) := by decide +kernel
theorem DM_X8_restore_18 : decode (mC M_X8_restore) 18 = .ok (.ifCond .ne 6, 3) := by decide +kernel
theorem DM_X8_restore_21 : decode (mC M_X8_restore) 21 = .ok (.ldc 203, 2) := by decide +kernel
theorem DM_X8_restore_23 : decode (mC M_X8_restore) 23 = .ok (.ireturn, 1) := by decide +kernel
theorem DM_X8_restore_24 : decode (mC M_X8_restore) 24 = .ok (.aload_n 0, 1) := by decide +kernel
theorem DM_X8_restore_25 : decode (mC M_X8_restore) 25 = .ok (.getfield 37, 3) := by decide +kernel
theorem DM_X8_restore_28 : decode (mC M_X8_restore) 28 = .ok (.bipush 91, 2) := by decide +kernel
theorem DM_X8_restore_30 : decode (mC M_X8_restore) 30 = .ok (.iload_n 1, 1) := by decide +kernel
theorem DM_X8_restore_31 : decode (mC M_X8_restore) 31 = .ok (.imul, 1) := by decide +kernel
theorem DM_X8_restore_32 : decode (mC M_X8_restore) 32 = .ok (.aload_n 0, 1) := by decide +kernel
theorem DM_X8_restore_33 : decode (mC M_X8_restore) 33 = .ok (.getfield 25, 3) := by decide +kernel
theorem DM_X8_restore_36 : decode (mC M_X8_restore) 36 = .ok (.iconst 0, 1) := by decide +kernel
theorem DM_X8_restore_37 : decode (mC M_X8_restore) 37 = .ok (.invokestatic 151, 3) := by decide +kernel
theorem DM_X8_restore_40 : decode (mC M_X8_restore) 40 = .ok (.aload_n 0, 1) := by decide +kernel
theorem DM_X8_restore_41 : decode (mC M_X8_restore) 41 = .ok (.iconst 0, 1) := by decide +kernel
theorem DM_X8_restore_42 : decode (mC M_X8_restore) 42 = .ok (.putfield 155, 3) := by decide +kernel
theorem DM_X8_restore_45 : decode (mC M_X8_restore) 45 = .ok (.iconst 1, 1) := by decide +kernel
theorem DM_X8_restore_46 : decode (mC M_X8_restore) 46 = .ok (.ireturn, 1) := by decide +kernel
theorem DM_X8_kind_0 : decode (mC M_X8_kind) 0 = .ok (.aload_n 0, 1) := by decide +kernel
theorem DM_X8_kind_1 : decode (mC M_X8_kind) 1 = .ok (.iload_n 1, 1) := by decide +kernel
theorem DM_X8_kind_2 : decode (mC M_X8_kind) 2 = .ok (.invokevirtual 210, 3) := by decide +kernel
theorem DM_X8_kind_5 : decode (mC M_X8_kind) 5 = .ok (.ifCond .eq 15, 3) := by decide +kernel
theorem DM_X8_kind_8 : decode (mC M_X8_kind) 8 = .ok (.aload_n 0, 1) := by decide +kernel
theorem DM_X8_kind_9 : decode (mC M_X8_kind) 9 = .ok (.getfield 25, 3) := by decide +kernel
theorem DM_X8_kind_12 : decode (mC M_X8_kind) 12 = .ok (.iload_n 1, 1) := by decide +kernel
theorem DM_X8_kind_13 : decode (mC M_X8_kind) 13 = .ok (.iconst 0, 1) := by decide +kernel
theorem DM_X8_kind_14 : decode (mC M_X8_kind) 14 = .ok (.invokestatic 158, 3) := by decide +kernel
theorem DM_X8_kind_17 : decode (mC M_X8_kind) 17 = .ok (.goto 5, 3) := by decide +kernel
theorem DM_X8_kind_20 : decode (mC M_X8_kind) 20 = .ok (.ldc 73, 2) := by decide +kernel
theorem DM_X8_kind_22 : decode (mC M_X8_kind) 22 = .ok (.ireturn, 1) := by decide +kernel
theorem DM_X8_as_0 : decode (mC M_X8_as) 0 = .ok (.aload_n 0, 1) := by decide +kernel
theorem DM_X8_as_1 : decode (mC M_X8_as) 1 = .ok (.iload_n 1, 1) := by decide +kernel
theorem DM_X8_as_2 : decode (mC M_X8_as) 2 = .ok (.invokevirtual 210, 3) := by decide +kernel
theorem DM_X8_as_5 : decode (mC M_X8_as) 5 = .ok (.ifCond .eq 12, 3) := by decide +kernel
theorem DM_X8_as_8 : decode (mC M_X8_as) 8 = .ok (.iload_n 2, 1) := by decide +kernel
theorem DM_X8_as_9 : decode (mC M_X8_as) 9 = .ok (.iconst 0, 1) := by decide +kernel
theorem DM_X8_as_10 : decode (mC M_X8_as) 10 = .ok (.iconst 5, 1) := by decide +kernel
theorem DM_X8_as_11 : decode (mC M_X8_as) 11 = .ok (.invokestatic 65, 3) := by decide +kernel
theorem DM_X8_as_14 : decode (mC M_X8_as) 14 = .ok (.ifCond .ne 6, 3) := by decide +kernel
theorem DM_X8_as_17 : decode (mC M_X8_as) 17 = .ok (.ldc 73, 2) := by decide +kernel
theorem DM_X8_as_19 : decode (mC M_X8_as) 19 = .ok (.ireturn, 1) := by decide +kernel
theorem DM_X8_as_20 : decode (mC M_X8_as) 20 = .ok (.aload_n 0, 1) := by decide +kernel
theorem DM_X8_as_21 : decode (mC M_X8_as) 21 = .ok (.getfield 25, 3) := by decide +kernel
theorem DM_X8_as_24 : decode (mC M_X8_as) 24 = .ok (.iload_n 1, 1) := by decide +kernel
theorem DM_X8_as_25 : decode (mC M_X8_as) 25 = .ok (.iconst 0, 1) := by decide +kernel
theorem DM_X8_as_26 : decode (mC M_X8_as) 26 = .ok (.invokestatic 158, 3) := by decide +kernel
theorem DM_X8_as_29 : decode (mC M_X8_as) 29 = .ok (.istore_n 3, 1) := by decide +kernel
theorem DM_X8_as_30 : decode (mC M_X8_as) 30 = .ok (.iload_n 2, 1) := by decide +kernel
theorem DM_X8_as_31 : decode (mC M_X8_as) 31 = .ok (.ifCond .eq 28, 3) := by decide +kernel
theorem DM_X8_as_34 : decode (mC M_X8_as) 34 = .ok (.iload_n 2, 1) := by decide +kernel
theorem DM_X8_as_35 : decode (mC M_X8_as) 35 = .ok (.iload_n 3, 1) := by decide +kernel
theorem DM_X8_as_36 : decode (mC M_X8_as) 36 = .ok (.if_icmp .eq 23, 3) := by decide +kernel
theorem DM_X8_as_39 : decode (mC M_X8_as) 39 = .ok (.iload_n 2, 1) := by decide +kernel
theorem DM_X8_as_40 : decode (mC M_X8_as) 40 = .ok (.iconst 1, 1) := by decide +kernel
theorem DM_X8_as_41 : decode (mC M_X8_as) 41 = .ok (.if_icmp .ne 8, 3) := by decide +kernel
theorem DM_X8_as_44 : decode (mC M_X8_as) 44 = .ok (.iload_n 3, 1) := by decide +kernel
theorem DM_X8_as_45 : decode (mC M_X8_as) 45 = .ok (.iconst 4, 1) := by decide +kernel
theorem DM_X8_as_46 : decode (mC M_X8_as) 46 = .ok (.if_icmp .lt 13, 3) := by decide +kernel
theorem DM_X8_as_49 : decode (mC M_X8_as) 49 = .ok (.iload_n 2, 1) := by decide +kernel
theorem DM_X8_as_50 : decode (mC M_X8_as) 50 = .ok (.iconst 4, 1) := by decide +kernel
theorem DM_X8_as_51 : decode (mC M_X8_as) 51 = .ok (.if_icmp .ne 12, 3) := by decide +kernel
theorem DM_X8_as_54 : decode (mC M_X8_as) 54 = .ok (.iload_n 3, 1) := by decide +kernel
theorem DM_X8_as_55 : decode (mC M_X8_as) 55 = .ok (.iconst 5, 1) := by decide +kernel
theorem DM_X8_as_56 : decode (mC M_X8_as) 56 = .ok (.if_icmp .ne 7, 3) := by decide +kernel
theorem DM_X8_as_59 : decode (mC M_X8_as) 59 = .ok (.iconst 1, 1) := by decide +kernel
theorem DM_X8_as_60 : decode (mC M_X8_as) 60 = .ok (.goto 4, 3) := by decide +kernel
theorem DM_X8_as_63 : decode (mC M_X8_as) 63 = .ok (.iconst 0, 1) := by decide +kernel
theorem DM_X8_as_64 : decode (mC M_X8_as) 64 = .ok (.istore 4, 2) := by decide +kernel
theorem DM_X8_as_66 : decode (mC M_X8_as) 66 = .ok (.iload 4, 2) := by decide +kernel
theorem DM_X8_as_68 : decode (mC M_X8_as) 68 = .ok (.ifCond .eq 11, 3) := by decide +kernel
theorem DM_X8_as_71 : decode (mC M_X8_as) 71 = .ok (.aload_n 0, 1) := by decide +kernel
theorem DM_X8_as_72 : decode (mC M_X8_as) 72 = .ok (.iload_n 1, 1) := by decide +kernel
theorem DM_X8_as_73 : decode (mC M_X8_as) 73 = .ok (.invokevirtual 78, 3) := by decide +kernel
theorem DM_X8_as_76 : decode (mC M_X8_as) 76 = .ok (.goto 8, 3) := by decide +kernel
theorem DM_X8_as_79 : decode (mC M_X8_as) 79 = .ok (.aload_n 0, 1) := by decide +kernel
theorem DM_X8_as_80 : decode (mC M_X8_as) 80 = .ok (.iconst 3, 1) := by decide +kernel
theorem DM_X8_as_81 : decode (mC M_X8_as) 81 = .ok (.invokevirtual 74, 3) := by decide +kernel
theorem DM_X8_as_84 : decode (mC M_X8_as) 84 = .ok (.ireturn, 1) := by decide +kernel
theorem DM_X8_begins_0 : decode (mC M_X8_begins) 0 = .ok (.aload_n 0, 1) := by decide +kernel
theorem DM_X8_begins_1 : decode (mC M_X8_begins) 1 = .ok (.getfield 248, 3) := by decide +kernel
theorem DM_X8_begins_4 : decode (mC M_X8_begins) 4 = .ok (.bipush 16, 2) := by decide +kernel
theorem DM_X8_begins_6 : decode (mC M_X8_begins) 6 = .ok (.if_icmp .ge 23, 3) := by decide +kernel
theorem DM_X8_begins_9 : decode (mC M_X8_begins) 9 = .ok (.aload_n 0, 1) := by decide +kernel
theorem DM_X8_begins_10 : decode (mC M_X8_begins) 10 = .ok (.getfield 44, 3) := by decide +kernel
theorem DM_X8_begins_13 : decode (mC M_X8_begins) 13 = .ok (.aload_n 0, 1) := by decide +kernel
theorem DM_X8_begins_14 : decode (mC M_X8_begins) 14 = .ok (.getfield 248, 3) := by decide +kernel
theorem DM_X8_begins_17 : decode (mC M_X8_begins) 17 = .ok (.iload_n 1, 1) := by decide +kernel
theorem DM_X8_begins_18 : decode (mC M_X8_begins) 18 = .ok (.iastore, 1) := by decide +kernel
theorem DM_X8_begins_19 : decode (mC M_X8_begins) 19 = .ok (.aload_n 0, 1) := by decide +kernel
theorem DM_X8_begins_20 : decode (mC M_X8_begins) 20 = .ok (.dup, 1) := by decide +kernel
theorem DM_X8_begins_21 : decode (mC M_X8_begins) 21 = .ok (.getfield 248, 3) := by decide +kernel
theorem DM_X8_begins_24 : decode (mC M_X8_begins) 24 = .ok (.iconst 1, 1) := by decide +kernel
theorem DM_X8_begins_25 : decode (mC M_X8_begins) 25 = .ok (.iadd, 1) := by decide +kernel
theorem DM_X8_begins_26 : decode (mC M_X8_begins) 26 = .ok (.putfield 248, 3) := by decide +kernel
theorem DM_X8_begins_29 : decode (mC M_X8_begins) 29 = .ok (.return_, 1) := by decide +kernel
theorem DM_X8_plainMark_0 : decode (mC M_X8_plainMark) 0 = .ok (.aload_n 0, 1) := by decide +kernel
theorem DM_X8_plainMark_1 : decode (mC M_X8_plainMark) 1 = .ok (.getfield 25, 3) := by decide +kernel
theorem DM_X8_plainMark_4 : decode (mC M_X8_plainMark) 4 = .ok (.iload_n 1, 1) := by decide +kernel
theorem DM_X8_plainMark_5 : decode (mC M_X8_plainMark) 5 = .ok (.iconst 0, 1) := by decide +kernel
theorem DM_X8_plainMark_6 : decode (mC M_X8_plainMark) 6 = .ok (.invokestatic 158, 3) := by decide +kernel
theorem DM_X8_plainMark_9 : decode (mC M_X8_plainMark) 9 = .ok (.istore_n 2, 1) := by decide +kernel
theorem DM_X8_plainMark_10 : decode (mC M_X8_plainMark) 10 = .ok (.iload_n 2, 1) := by decide +kernel
theorem DM_X8_plainMark_11 : decode (mC M_X8_plainMark) 11 = .ok (.iconst 1, 1) := by decide +kernel
theorem DM_X8_plainMark_12 : decode (mC M_X8_plainMark) 12 = .ok (.if_icmp .eq 19, 3) := by decide +kernel
theorem DM_X8_plainMark_15 : decode (mC M_X8_plainMark) 15 = .ok (.aload_n 0, 1) := by decide +kernel
theorem DM_X8_plainMark_16 : decode (mC M_X8_plainMark) 16 = .ok (.iload_n 2, 1) := by decide +kernel
theorem DM_X8_plainMark_17 : decode (mC M_X8_plainMark) 17 = .ok (.iconst 2, 1) := by decide +kernel
theorem DM_X8_plainMark_18 : decode (mC M_X8_plainMark) 18 = .ok (.if_icmp .ne 8, 3) := by decide +kernel
theorem DM_X8_plainMark_21 : decode (mC M_X8_plainMark) 21 = .ok (.bipush 24, 2) := by decide +kernel
theorem DM_X8_plainMark_23 : decode (mC M_X8_plainMark) 23 = .ok (.goto 5, 3) := by decide +kernel
theorem DM_X8_plainMark_26 : decode (mC M_X8_plainMark) 26 = .ok (.bipush 22, 2) := by decide +kernel
theorem DM_X8_plainMark_28 : decode (mC M_X8_plainMark) 28 = .ok (.invokevirtual 251, 3) := by decide +kernel
theorem DM_X8_plainMark_31 : decode (mC M_X8_plainMark) 31 = .ok (.aload_n 0, 1) := by decide +kernel
theorem DM_X8_plainMark_32 : decode (mC M_X8_plainMark) 32 = .ok (.bipush 21, 2) := by decide +kernel
theorem DM_X8_plainMark_34 : decode (mC M_X8_plainMark) 34 = .ok (.invokevirtual 251, 3) := by decide +kernel
theorem DM_X8_plainMark_37 : decode (mC M_X8_plainMark) 37 = .ok (.aload_n 0, 1) := by decide +kernel
theorem DM_X8_plainMark_38 : decode (mC M_X8_plainMark) 38 = .ok (.bipush 20, 2) := by decide +kernel
theorem DM_X8_plainMark_40 : decode (mC M_X8_plainMark) 40 = .ok (.invokevirtual 251, 3) := by decide +kernel
theorem DM_X8_plainMark_43 : decode (mC M_X8_plainMark) 43 = .ok (.iload_n 1, 1) := by decide +kernel
theorem DM_X8_plainMark_44 : decode (mC M_X8_plainMark) 44 = .ok (.aload_n 0, 1) := by decide +kernel
theorem DM_X8_plainMark_45 : decode (mC M_X8_plainMark) 45 = .ok (.getfield 25, 3) := by decide +kernel
theorem DM_X8_plainMark_48 : decode (mC M_X8_plainMark) 48 = .ok (.iload_n 1, 1) := by decide +kernel
theorem DM_X8_plainMark_49 : decode (mC M_X8_plainMark) 49 = .ok (.iconst 3, 1) := by decide +kernel
theorem DM_X8_plainMark_50 : decode (mC M_X8_plainMark) 50 = .ok (.invokestatic 158, 3) := by decide +kernel
theorem DM_X8_plainMark_53 : decode (mC M_X8_plainMark) 53 = .ok (.iadd, 1) := by decide +kernel
theorem DM_X8_plainMark_54 : decode (mC M_X8_plainMark) 54 = .ok (.istore_n 3, 1) := by decide +kernel
theorem DM_X8_plainMark_55 : decode (mC M_X8_plainMark) 55 = .ok (.iload_n 2, 1) := by decide +kernel
theorem DM_X8_plainMark_56 : decode (mC M_X8_plainMark) 56 = .ok (.iconst 2, 1) := by decide +kernel
theorem DM_X8_plainMark_57 : decode (mC M_X8_plainMark) 57 = .ok (.if_icmp .ne 9, 3) := by decide +kernel
theorem DM_X8_plainMark_60 : decode (mC M_X8_plainMark) 60 = .ok (.iconst 2, 1) := by decide +kernel
theorem DM_X8_plainMark_61 : decode (mC M_X8_plainMark) 61 = .ok (.iload_n 3, 1) := by decide +kernel
theorem DM_X8_plainMark_62 : decode (mC M_X8_plainMark) 62 = .ok (.imul, 1) := by decide +kernel
theorem DM_X8_plainMark_63 : decode (mC M_X8_plainMark) 63 = .ok (.goto 17, 3) := by decide +kernel
theorem DM_X8_plainMark_66 : decode (mC M_X8_plainMark) 66 = .ok (.iload_n 2, 1) := by decide +kernel
theorem DM_X8_plainMark_67 : decode (mC M_X8_plainMark) 67 = .ok (.iconst 3, 1) := by decide +kernel
theorem DM_X8_plainMark_68 : decode (mC M_X8_plainMark) 68 = .ok (.if_icmp .ne 11, 3) := by decide +kernel
theorem DM_X8_plainMark_71 : decode (mC M_X8_plainMark) 71 = .ok (.iload_n 3, 1) := by decide +kernel
theorem DM_X8_plainMark_72 : decode (mC M_X8_plainMark) 72 = .ok (.sipush 1000, 3) := by decide +kernel
theorem DM_X8_plainMark_75 : decode (mC M_X8_plainMark) 75 = .ok (.isub, 1) := by decide +kernel
theorem DM_X8_plainMark_76 : decode (mC M_X8_plainMark) 76 = .ok (.goto 4, 3) := by decide +kernel
theorem DM_X8_plainMark_79 : decode (mC M_X8_plainMark) 79 = .ok (.iload_n 3, 1) := by decide +kernel
theorem DM_X8_plainMark_80 : decode (mC M_X8_plainMark) 80 = .ok (.ireturn, 1) := by decide +kernel
theorem DM_X8_saintSize_0 : decode (mC M_X8_saintSize) 0 = .ok (.aload_n 0, 1) := by decide +kernel
theorem DM_X8_saintSize_1 : decode (mC M_X8_saintSize) 1 = .ok (.getfield 25, 3) := by decide +kernel
theorem DM_X8_saintSize_4 : decode (mC M_X8_saintSize) 4 = .ok (.iload_n 1, 1) := by decide +kernel
theorem DM_X8_saintSize_5 : decode (mC M_X8_saintSize) 5 = .ok (.iconst 0, 1) := by decide +kernel
theorem DM_X8_saintSize_6 : decode (mC M_X8_saintSize) 6 = .ok (.invokestatic 158, 3) := by decide +kernel
theorem DM_X8_saintSize_9 : decode (mC M_X8_saintSize) 9 = .ok (.iconst 5, 1) := by decide +kernel
theorem DM_X8_saintSize_10 : decode (mC M_X8_saintSize) 10 = .ok (.if_icmp .ne 7, 3) := by decide +kernel
theorem DM_X8_saintSize_13 : decode (mC M_X8_saintSize) 13 = .ok (.iconst 1, 1) := by decide +kernel
theorem DM_X8_saintSize_14 : decode (mC M_X8_saintSize) 14 = .ok (.goto 4, 3) := by decide +kernel
theorem DM_X8_saintSize_17 : decode (mC M_X8_saintSize) 17 = .ok (.iconst 0, 1) := by decide +kernel
theorem DM_X8_saintSize_18 : decode (mC M_X8_saintSize) 18 = .ok (.istore_n 2, 1) := by decide +kernel
theorem DM_X8_saintSize_19 : decode (mC M_X8_saintSize) 19 = .ok (.iload_n 2, 1) := by decide +kernel
theorem DM_X8_saintSize_20 : decode (mC M_X8_saintSize) 20 = .ok (.ifCond .eq 9, 3) := by decide +kernel
theorem DM_X8_saintSize_23 : decode (mC M_X8_saintSize) 23 = .ok (.aload_n 0, 1) := by decide +kernel
theorem DM_X8_saintSize_24 : decode (mC M_X8_saintSize) 24 = .ok (.bipush 14, 2) := by decide +kernel
theorem DM_X8_saintSize_26 : decode (mC M_X8_saintSize) 26 = .ok (.invokevirtual 251, 3) := by decide +kernel
theorem DM_X8_saintSize_29 : decode (mC M_X8_saintSize) 29 = .ok (.aload_n 0, 1) := by decide +kernel
theorem DM_X8_saintSize_30 : decode (mC M_X8_saintSize) 30 = .ok (.bipush 13, 2) := by decide +kernel
theorem DM_X8_saintSize_32 : decode (mC M_X8_saintSize) 32 = .ok (.invokevirtual 251, 3) := by decide +kernel
theorem DM_X8_saintSize_35 : decode (mC M_X8_saintSize) 35 = .ok (.aload_n 0, 1) := by decide +kernel
theorem DM_X8_saintSize_36 : decode (mC M_X8_saintSize) 36 = .ok (.bipush 10, 2) := by decide +kernel
theorem DM_X8_saintSize_38 : decode (mC M_X8_saintSize) 38 = .ok (.invokevirtual 251, 3) := by decide +kernel
theorem DM_X8_saintSize_41 : decode (mC M_X8_saintSize) 41 = .ok (.aload_n 0, 1) := by decide +kernel
theorem DM_X8_saintSize_42 : decode (mC M_X8_saintSize) 42 = .ok (.getfield 25, 3) := by decide +kernel
theorem DM_X8_saintSize_45 : decode (mC M_X8_saintSize) 45 = .ok (.iload_n 1, 1) := by decide +kernel
theorem DM_X8_saintSize_46 : decode (mC M_X8_saintSize) 46 = .ok (.iconst 1, 1) := by decide +kernel
theorem DM_X8_saintSize_47 : decode (mC M_X8_saintSize) 47 = .ok (.invokestatic 158, 3) := by decide +kernel
theorem DM_X8_saintSize_50 : decode (mC M_X8_saintSize) 50 = .ok (.bipush 100, 2) := by decide +kernel
theorem DM_X8_saintSize_52 : decode (mC M_X8_saintSize) 52 = .ok (.isub, 1) := by decide +kernel
theorem DM_X8_saintSize_53 : decode (mC M_X8_saintSize) 53 = .ok (.istore_n 3, 1) := by decide +kernel
theorem DM_X8_saintSize_54 : decode (mC M_X8_saintSize) 54 = .ok (.iload_n 2, 1) := by decide +kernel
theorem DM_X8_saintSize_55 : decode (mC M_X8_saintSize) 55 = .ok (.ifCond .eq 9, 3) := by decide +kernel
theorem DM_X8_saintSize_58 : decode (mC M_X8_saintSize) 58 = .ok (.iconst 2, 1) := by decide +kernel
theorem DM_X8_saintSize_59 : decode (mC M_X8_saintSize) 59 = .ok (.iload_n 3, 1) := by decide +kernel
theorem DM_X8_saintSize_60 : decode (mC M_X8_saintSize) 60 = .ok (.imul, 1) := by decide +kernel
theorem DM_X8_saintSize_61 : decode (mC M_X8_saintSize) 61 = .ok (.goto 4, 3) := by decide +kernel
theorem DM_X8_saintSize_64 : decode (mC M_X8_saintSize) 64 = .ok (.iload_n 3, 1) := by decide +kernel
theorem DM_X8_saintSize_65 : decode (mC M_X8_saintSize) 65 = .ok (.ireturn, 1) := by decide +kernel
theorem DM_X8_plainSize_0 : decode (mC M_X8_plainSize) 0 = .ok (.aload_n 0, 1) := by decide +kernel
theorem DM_X8_plainSize_1 : decode (mC M_X8_plainSize) 1 = .ok (.getfield 25, 3) := by decide +kernel
theorem DM_X8_plainSize_4 : decode (mC M_X8_plainSize) 4 = .ok (.iload_n 1, 1) := by decide +kernel
theorem DM_X8_plainSize_5 : decode (mC M_X8_plainSize) 5 = .ok (.iconst 0, 1) := by decide +kernel
theorem DM_X8_plainSize_6 : decode (mC M_X8_plainSize) 6 = .ok (.invokestatic 158, 3) := by decide +kernel
theorem DM_X8_plainSize_9 : decode (mC M_X8_plainSize) 9 = .ok (.iconst 2, 1) := by decide +kernel
theorem DM_X8_plainSize_10 : decode (mC M_X8_plainSize) 10 = .ok (.if_icmp .ne 7, 3) := by decide +kernel
theorem DM_X8_plainSize_13 : decode (mC M_X8_plainSize) 13 = .ok (.iconst 1, 1) := by decide +kernel
theorem DM_X8_plainSize_14 : decode (mC M_X8_plainSize) 14 = .ok (.goto 4, 3) := by decide +kernel
theorem DM_X8_plainSize_17 : decode (mC M_X8_plainSize) 17 = .ok (.iconst 0, 1) := by decide +kernel
theorem DM_X8_plainSize_18 : decode (mC M_X8_plainSize) 18 = .ok (.istore_n 2, 1) := by decide +kernel
theorem DM_X8_plainSize_19 : decode (mC M_X8_plainSize) 19 = .ok (.iload_n 2, 1) := by decide +kernel
theorem DM_X8_plainSize_20 : decode (mC M_X8_plainSize) 20 = .ok (.ifCond .eq 9, 3) := by decide +kernel
theorem DM_X8_plainSize_23 : decode (mC M_X8_plainSize) 23 = .ok (.aload_n 0, 1) := by decide +kernel
theorem DM_X8_plainSize_24 : decode (mC M_X8_plainSize) 24 = .ok (.bipush 12, 2) := by decide +kernel
theorem DM_X8_plainSize_26 : decode (mC M_X8_plainSize) 26 = .ok (.invokevirtual 251, 3) := by decide +kernel
theorem DM_X8_plainSize_29 : decode (mC M_X8_plainSize) 29 = .ok (.aload_n 0, 1) := by decide +kernel
theorem DM_X8_plainSize_30 : decode (mC M_X8_plainSize) 30 = .ok (.bipush 11, 2) := by decide +kernel
theorem DM_X8_plainSize_32 : decode (mC M_X8_plainSize) 32 = .ok (.invokevirtual 251, 3) := by decide +kernel
theorem DM_X8_plainSize_35 : decode (mC M_X8_plainSize) 35 = .ok (.aload_n 0, 1) := by decide +kernel
theorem DM_X8_plainSize_36 : decode (mC M_X8_plainSize) 36 = .ok (.bipush 10, 2) := by decide +kernel
theorem DM_X8_plainSize_38 : decode (mC M_X8_plainSize) 38 = .ok (.invokevirtual 251, 3) := by decide +kernel
theorem DM_X8_plainSize_41 : decode (mC M_X8_plainSize) 41 = .ok (.aload_n 0, 1) := by decide +kernel
theorem DM_X8_plainSize_42 : decode (mC M_X8_plainSize) 42 = .ok (.getfield 25, 3) := by decide +kernel
theorem DM_X8_plainSize_45 : decode (mC M_X8_plainSize) 45 = .ok (.iload_n 1, 1) := by decide +kernel
theorem DM_X8_plainSize_46 : decode (mC M_X8_plainSize) 46 = .ok (.iconst 1, 1) := by decide +kernel
theorem DM_X8_plainSize_47 : decode (mC M_X8_plainSize) 47 = .ok (.invokestatic 158, 3) := by decide +kernel
theorem DM_X8_plainSize_50 : decode (mC M_X8_plainSize) 50 = .ok (.aload_n 0, 1) := by decide +kernel
theorem DM_X8_plainSize_51 : decode (mC M_X8_plainSize) 51 = .ok (.iload_n 1, 1) := by decide +kernel
theorem DM_X8_plainSize_52 : decode (mC M_X8_plainSize) 52 = .ok (.invokevirtual 254, 3) := by decide +kernel
theorem DM_X8_plainSize_55 : decode (mC M_X8_plainSize) 55 = .ok (.iadd, 1) := by decide +kernel
theorem DM_X8_plainSize_56 : decode (mC M_X8_plainSize) 56 = .ok (.istore_n 3, 1) := by decide +kernel
theorem DM_X8_plainSize_57 : decode (mC M_X8_plainSize) 57 = .ok (.iload_n 2, 1) := by decide +kernel
theorem DM_X8_plainSize_58 : decode (mC M_X8_plainSize) 58 = .ok (.ifCond .eq 8, 3) := by decide +kernel
theorem DM_X8_plainSize_61 : decode (mC M_X8_plainSize) 61 = .ok (.iload_n 3, 1) := by decide +kernel
theorem DM_X8_plainSize_62 : decode (mC M_X8_plainSize) 62 = .ok (.ineg, 1) := by decide +kernel
theorem DM_X8_plainSize_63 : decode (mC M_X8_plainSize) 63 = .ok (.goto 4, 3) := by decide +kernel
theorem DM_X8_plainSize_66 : decode (mC M_X8_plainSize) 66 = .ok (.iload_n 3, 1) := by decide +kernel
theorem DM_X8_plainSize_67 : decode (mC M_X8_plainSize) 67 = .ok (.ireturn, 1) := by decide +kernel
theorem DM_X8_saintMark_0 : decode (mC M_X8_saintMark) 0 = .ok (.aload_n 0, 1) := by decide +kernel
theorem DM_X8_saintMark_1 : decode (mC M_X8_saintMark) 1 = .ok (.bipush 23, 2) := by decide +kernel
theorem DM_X8_saintMark_3 : decode (mC M_X8_saintMark) 3 = .ok (.invokevirtual 251, 3) := by decide +kernel
theorem DM_X8_saintMark_6 : decode (mC M_X8_saintMark) 6 = .ok (.aload_n 0, 1) := by decide +kernel
theorem DM_X8_saintMark_7 : decode (mC M_X8_saintMark) 7 = .ok (.bipush 20, 2) := by decide +kernel
theorem DM_X8_saintMark_9 : decode (mC M_X8_saintMark) 9 = .ok (.invokevirtual 251, 3) := by decide +kernel
theorem DM_X8_saintMark_12 : decode (mC M_X8_saintMark) 12 = .ok (.iload_n 1, 1) := by decide +kernel
theorem DM_X8_saintMark_13 : decode (mC M_X8_saintMark) 13 = .ok (.aload_n 0, 1) := by decide +kernel
theorem DM_X8_saintMark_14 : decode (mC M_X8_saintMark) 14 = .ok (.iload_n 1, 1) := by decide +kernel
theorem DM_X8_saintMark_15 : decode (mC M_X8_saintMark) 15 = .ok (.invokevirtual 257, 3) := by decide +kernel
theorem DM_X8_saintMark_18 : decode (mC M_X8_saintMark) 18 = .ok (.isub, 1) := by decide +kernel
theorem DM_X8_saintMark_19 : decode (mC M_X8_saintMark) 19 = .ok (.ireturn, 1) := by decide +kernel
theorem DM_X8_ask_0 : decode (mC M_X8_ask) 0 = .ok (.aload_n 0, 1) := by decide +kernel
theorem DM_X8_ask_1 : decode (mC M_X8_ask) 1 = .ok (.iload_n 1, 1) := by decide +kernel
theorem DM_X8_ask_2 : decode (mC M_X8_ask) 2 = .ok (.invokevirtual 210, 3) := by decide +kernel
theorem DM_X8_ask_5 : decode (mC M_X8_ask) 5 = .ok (.ifCond .eq 12, 3) := by decide +kernel
theorem DM_X8_ask_8 : decode (mC M_X8_ask) 8 = .ok (.iload_n 2, 1) := by decide +kernel
theorem DM_X8_ask_9 : decode (mC M_X8_ask) 9 = .ok (.iconst 0, 1) := by decide +kernel
theorem DM_X8_ask_10 : decode (mC M_X8_ask) 10 = .ok (.iconst 1, 1) := by decide +kernel
theorem DM_X8_ask_11 : decode (mC M_X8_ask) 11 = .ok (.invokestatic 65, 3) := by decide +kernel
theorem DM_X8_ask_14 : decode (mC M_X8_ask) 14 = .ok (.ifCond .ne 6, 3) := by decide +kernel
theorem DM_X8_ask_17 : decode (mC M_X8_ask) 17 = .ok (.ldc 73, 2) := by decide +kernel
theorem DM_X8_ask_19 : decode (mC M_X8_ask) 19 = .ok (.ireturn, 1) := by decide +kernel
theorem DM_X8_ask_20 : decode (mC M_X8_ask) 20 = .ok (.aload_n 0, 1) := by decide +kernel
theorem DM_X8_ask_21 : decode (mC M_X8_ask) 21 = .ok (.iconst 0, 1) := by decide +kernel
theorem DM_X8_ask_22 : decode (mC M_X8_ask) 22 = .ok (.putfield 248, 3) := by decide +kernel
theorem DM_X8_ask_25 : decode (mC M_X8_ask) 25 = .ok (.aload_n 0, 1) := by decide +kernel
theorem DM_X8_ask_26 : decode (mC M_X8_ask) 26 = .ok (.getfield 25, 3) := by decide +kernel
theorem DM_X8_ask_29 : decode (mC M_X8_ask) 29 = .ok (.iload_n 1, 1) := by decide +kernel
theorem DM_X8_ask_30 : decode (mC M_X8_ask) 30 = .ok (.iconst 0, 1) := by decide +kernel
theorem DM_X8_ask_31 : decode (mC M_X8_ask) 31 = .ok (.invokestatic 158, 3) := by decide +kernel
theorem DM_X8_ask_34 : decode (mC M_X8_ask) 34 = .ok (.iconst 4, 1) := by decide +kernel
theorem DM_X8_ask_35 : decode (mC M_X8_ask) 35 = .ok (.if_icmp .lt 7, 3) := by decide +kernel
theorem DM_X8_ask_38 : decode (mC M_X8_ask) 38 = .ok (.iconst 1, 1) := by decide +kernel
theorem DM_X8_ask_39 : decode (mC M_X8_ask) 39 = .ok (.goto 4, 3) := by decide +kernel
theorem DM_X8_ask_42 : decode (mC M_X8_ask) 42 = .ok (.iconst 0, 1) := by decide +kernel
theorem DM_X8_ask_43 : decode (mC M_X8_ask) 43 = .ok (.istore_n 3, 1) := by decide +kernel
theorem DM_X8_ask_44 : decode (mC M_X8_ask) 44 = .ok (.iload_n 2, 1) := by decide +kernel
theorem DM_X8_ask_45 : decode (mC M_X8_ask) 45 = .ok (.ifCond .ne 21, 3) := by decide +kernel
theorem DM_X8_ask_48 : decode (mC M_X8_ask) 48 = .ok (.iload_n 3, 1) := by decide +kernel
theorem DM_X8_ask_49 : decode (mC M_X8_ask) 49 = .ok (.ifCond .eq 11, 3) := by decide +kernel
theorem DM_X8_ask_52 : decode (mC M_X8_ask) 52 = .ok (.aload_n 0, 1) := by decide +kernel
theorem DM_X8_ask_53 : decode (mC M_X8_ask) 53 = .ok (.iload_n 1, 1) := by decide +kernel
theorem DM_X8_ask_54 : decode (mC M_X8_ask) 54 = .ok (.invokevirtual 257, 3) := by decide +kernel
theorem DM_X8_ask_57 : decode (mC M_X8_ask) 57 = .ok (.goto 8, 3) := by decide +kernel
theorem DM_X8_ask_60 : decode (mC M_X8_ask) 60 = .ok (.aload_n 0, 1) := by decide +kernel
theorem DM_X8_ask_61 : decode (mC M_X8_ask) 61 = .ok (.iload_n 1, 1) := by decide +kernel
theorem DM_X8_ask_62 : decode (mC M_X8_ask) 62 = .ok (.invokevirtual 260, 3) := by decide +kernel
theorem DM_X8_ask_65 : decode (mC M_X8_ask) 65 = .ok (.ireturn, 1) := by decide +kernel
theorem DM_X8_ask_66 : decode (mC M_X8_ask) 66 = .ok (.iload_n 3, 1) := by decide +kernel
theorem DM_X8_ask_67 : decode (mC M_X8_ask) 67 = .ok (.ifCond .eq 11, 3) := by decide +kernel
theorem DM_X8_ask_70 : decode (mC M_X8_ask) 70 = .ok (.aload_n 0, 1) := by decide +kernel
theorem DM_X8_ask_71 : decode (mC M_X8_ask) 71 = .ok (.iload_n 1, 1) := by decide +kernel
theorem DM_X8_ask_72 : decode (mC M_X8_ask) 72 = .ok (.invokevirtual 263, 3) := by decide +kernel
theorem DM_X8_ask_75 : decode (mC M_X8_ask) 75 = .ok (.goto 8, 3) := by decide +kernel
theorem DM_X8_ask_78 : decode (mC M_X8_ask) 78 = .ok (.aload_n 0, 1) := by decide +kernel
theorem DM_X8_ask_79 : decode (mC M_X8_ask) 79 = .ok (.iload_n 1, 1) := by decide +kernel
theorem DM_X8_ask_80 : decode (mC M_X8_ask) 80 = .ok (.invokevirtual 254, 3) := by decide +kernel
theorem DM_X8_ask_83 : decode (mC M_X8_ask) 83 = .ok (.ireturn, 1) := by decide +kernel
theorem DM_X8_trace_0 : decode (mC M_X8_trace) 0 = .ok (.iload_n 1, 1) := by decide +kernel
theorem DM_X8_trace_1 : decode (mC M_X8_trace) 1 = .ok (.iconst 0, 1) := by decide +kernel
theorem DM_X8_trace_2 : decode (mC M_X8_trace) 2 = .ok (.aload_n 0, 1) := by decide +kernel
theorem DM_X8_trace_3 : decode (mC M_X8_trace) 3 = .ok (.getfield 248, 3) := by decide +kernel
theorem DM_X8_trace_6 : decode (mC M_X8_trace) 6 = .ok (.iconst 1, 1) := by decide +kernel
theorem DM_X8_trace_7 : decode (mC M_X8_trace) 7 = .ok (.isub, 1) := by decide +kernel
theorem DM_X8_trace_8 : decode (mC M_X8_trace) 8 = .ok (.invokestatic 65, 3) := by decide +kernel
theorem DM_X8_trace_11 : decode (mC M_X8_trace) 11 = .ok (.ifCond .eq 12, 3) := by decide +kernel
theorem DM_X8_trace_14 : decode (mC M_X8_trace) 14 = .ok (.aload_n 0, 1) := by decide +kernel
theorem DM_X8_trace_15 : decode (mC M_X8_trace) 15 = .ok (.getfield 44, 3) := by decide +kernel
theorem DM_X8_trace_18 : decode (mC M_X8_trace) 18 = .ok (.iload_n 1, 1) := by decide +kernel
theorem DM_X8_trace_19 : decode (mC M_X8_trace) 19 = .ok (.iaload, 1) := by decide +kernel
theorem DM_X8_trace_20 : decode (mC M_X8_trace) 20 = .ok (.goto 5, 3) := by decide +kernel
theorem DM_X8_trace_23 : decode (mC M_X8_trace) 23 = .ok (.ldc 59, 2) := by decide +kernel
theorem DM_X8_trace_25 : decode (mC M_X8_trace) 25 = .ok (.ireturn, 1) := by decide +kernel
theorem DM_X8_count_0 : decode (mC M_X8_count) 0 = .ok (.iload_n 1, 1) := by decide +kernel
theorem DM_X8_count_1 : decode (mC M_X8_count) 1 = .ok (.ifCond .ne 37, 3) := by decide +kernel
theorem DM_X8_count_4 : decode (mC M_X8_count) 4 = .ok (.iconst 0, 1) := by decide +kernel
theorem DM_X8_count_5 : decode (mC M_X8_count) 5 = .ok (.istore_n 2, 1) := by decide +kernel
theorem DM_X8_count_6 : decode (mC M_X8_count) 6 = .ok (.iconst 0, 1) := by decide +kernel
theorem DM_X8_count_7 : decode (mC M_X8_count) 7 = .ok (.istore_n 3, 1) := by decide +kernel
theorem DM_X8_count_8 : decode (mC M_X8_count) 8 = .ok (.iload_n 3, 1) := by decide +kernel
theorem DM_X8_count_9 : decode (mC M_X8_count) 9 = .ok (.bipush 8, 2) := by decide +kernel
theorem DM_X8_count_11 : decode (mC M_X8_count) 11 = .ok (.if_icmp .ge 25, 3) := by decide +kernel
theorem DM_X8_count_14 : decode (mC M_X8_count) 14 = .ok (.iload_n 2, 1) := by decide +kernel
theorem DM_X8_count_15 : decode (mC M_X8_count) 15 = .ok (.aload_n 0, 1) := by decide +kernel
theorem DM_X8_count_16 : decode (mC M_X8_count) 16 = .ok (.iload_n 3, 1) := by decide +kernel
theorem DM_X8_count_17 : decode (mC M_X8_count) 17 = .ok (.invokevirtual 81, 3) := by decide +kernel
theorem DM_X8_count_20 : decode (mC M_X8_count) 20 = .ok (.ifCond .eq 7, 3) := by decide +kernel
theorem DM_X8_count_23 : decode (mC M_X8_count) 23 = .ok (.iconst 0, 1) := by decide +kernel
theorem DM_X8_count_24 : decode (mC M_X8_count) 24 = .ok (.goto 4, 3) := by decide +kernel
theorem DM_X8_count_27 : decode (mC M_X8_count) 27 = .ok (.iconst 1, 1) := by decide +kernel
theorem DM_X8_count_28 : decode (mC M_X8_count) 28 = .ok (.iadd, 1) := by decide +kernel
theorem DM_X8_count_29 : decode (mC M_X8_count) 29 = .ok (.istore_n 2, 1) := by decide +kernel
theorem DM_X8_count_30 : decode (mC M_X8_count) 30 = .ok (.iinc 3 1, 3) := by decide +kernel
theorem DM_X8_count_33 : decode (mC M_X8_count) 33 = .ok (.goto (-25), 3) := by decide +kernel
theorem DM_X8_count_36 : decode (mC M_X8_count) 36 = .ok (.iload_n 2, 1) := by decide +kernel
theorem DM_X8_count_37 : decode (mC M_X8_count) 37 = .ok (.ireturn, 1) := by decide +kernel
theorem DM_X8_count_38 : decode (mC M_X8_count) 38 = .ok (.iload_n 1, 1) := by decide +kernel
theorem DM_X8_count_39 : decode (mC M_X8_count) 39 = .ok (.iconst 1, 1) := by decide +kernel
theorem DM_X8_count_40 : decode (mC M_X8_count) 40 = .ok (.bipush 9, 2) := by decide +kernel
theorem DM_X8_count_42 : decode (mC M_X8_count) 42 = .ok (.invokestatic 65, 3) := by decide +kernel
theorem DM_X8_count_45 : decode (mC M_X8_count) 45 = .ok (.ifCond .ne 6, 3) := by decide +kernel
theorem DM_X8_count_48 : decode (mC M_X8_count) 48 = .ok (.ldc 73, 2) := by decide +kernel
theorem DM_X8_count_50 : decode (mC M_X8_count) 50 = .ok (.ireturn, 1) := by decide +kernel
theorem DM_X8_count_51 : decode (mC M_X8_count) 51 = .ok (.iload_n 1, 1) := by decide +kernel
theorem DM_X8_count_52 : decode (mC M_X8_count) 52 = .ok (.iconst 1, 1) := by decide +kernel
theorem DM_X8_count_53 : decode (mC M_X8_count) 53 = .ok (.if_icmp .ne 12, 3) := by decide +kernel
theorem DM_X8_count_56 : decode (mC M_X8_count) 56 = .ok (.aload_n 0, 1) := by decide +kernel
theorem DM_X8_count_57 : decode (mC M_X8_count) 57 = .ok (.getfield 25, 3) := by decide +kernel
theorem DM_X8_count_60 : decode (mC M_X8_count) 60 = .ok (.iconst 2, 1) := by decide +kernel
theorem DM_X8_count_61 : decode (mC M_X8_count) 61 = .ok (.iaload, 1) := by decide +kernel
theorem DM_X8_count_62 : decode (mC M_X8_count) 62 = .ok (.goto 110, 3) := by decide +kernel
theorem DM_X8_count_65 : decode (mC M_X8_count) 65 = .ok (.iload_n 1, 1) := by decide +kernel
theorem DM_X8_count_66 : decode (mC M_X8_count) 66 = .ok (.iconst 2, 1) := by decide +kernel
theorem DM_X8_count_67 : decode (mC M_X8_count) 67 = .ok (.if_icmp .ne 12, 3) := by decide +kernel
theorem DM_X8_count_70 : decode (mC M_X8_count) 70 = .ok (.aload_n 0, 1) := by decide +kernel
theorem DM_X8_count_71 : decode (mC M_X8_count) 71 = .ok (.getfield 25, 3) := by decide +kernel
theorem DM_X8_count_74 : decode (mC M_X8_count) 74 = .ok (.iconst 0, 1) := by decide +kernel
theorem DM_X8_count_75 : decode (mC M_X8_count) 75 = .ok (.iaload, 1) := by decide +kernel
theorem DM_X8_count_76 : decode (mC M_X8_count) 76 = .ok (.goto 96, 3) := by decide +kernel
theorem DM_X8_count_79 : decode (mC M_X8_count) 79 = .ok (.iload_n 1, 1) := by decide +kernel
theorem DM_X8_count_80 : decode (mC M_X8_count) 80 = .ok (.iconst 3, 1) := by decide +kernel
theorem DM_X8_count_81 : decode (mC M_X8_count) 81 = .ok (.if_icmp .ne 12, 3) := by decide +kernel
theorem DM_X8_count_84 : decode (mC M_X8_count) 84 = .ok (.aload_n 0, 1) := by decide +kernel
theorem DM_X8_count_85 : decode (mC M_X8_count) 85 = .ok (.getfield 25, 3) := by decide +kernel
theorem DM_X8_count_88 : decode (mC M_X8_count) 88 = .ok (.iconst 1, 1) := by decide +kernel
theorem DM_X8_count_89 : decode (mC M_X8_count) 89 = .ok (.iaload, 1) := by decide +kernel
theorem DM_X8_count_90 : decode (mC M_X8_count) 90 = .ok (.goto 82, 3) := by decide +kernel
theorem DM_X8_count_93 : decode (mC M_X8_count) 93 = .ok (.iload_n 1, 1) := by decide +kernel
theorem DM_X8_count_94 : decode (mC M_X8_count) 94 = .ok (.iconst 4, 1) := by decide +kernel
theorem DM_X8_count_95 : decode (mC M_X8_count) 95 = .ok (.if_icmp .ne 12, 3) := by decide +kernel
theorem DM_X8_count_98 : decode (mC M_X8_count) 98 = .ok (.aload_n 0, 1) := by decide +kernel
theorem DM_X8_count_99 : decode (mC M_X8_count) 99 = .ok (.getfield 25, 3) := by decide +kernel
theorem DM_X8_count_102 : decode (mC M_X8_count) 102 = .ok (.iconst 3, 1) := by decide +kernel
theorem DM_X8_count_103 : decode (mC M_X8_count) 103 = .ok (.iaload, 1) := by decide +kernel
theorem DM_X8_count_104 : decode (mC M_X8_count) 104 = .ok (.goto 68, 3) := by decide +kernel
theorem DM_X8_count_107 : decode (mC M_X8_count) 107 = .ok (.iload_n 1, 1) := by decide +kernel
theorem DM_X8_count_108 : decode (mC M_X8_count) 108 = .ok (.iconst 5, 1) := by decide +kernel
theorem DM_X8_count_109 : decode (mC M_X8_count) 109 = .ok (.if_icmp .ne 14, 3) := by decide +kernel
theorem DM_X8_count_112 : decode (mC M_X8_count) 112 = .ok (.aload_n 0, 1) := by decide +kernel
theorem DM_X8_count_113 : decode (mC M_X8_count) 113 = .ok (.getfield 25, 3) := by decide +kernel
theorem DM_X8_count_116 : decode (mC M_X8_count) 116 = .ok (.iconst 0, 1) := by decide +kernel
theorem DM_X8_count_117 : decode (mC M_X8_count) 117 = .ok (.invokestatic 193, 3) := by decide +kernel
theorem DM_X8_count_120 : decode (mC M_X8_count) 120 = .ok (.goto 52, 3) := by decide +kernel
theorem DM_X8_count_123 : decode (mC M_X8_count) 123 = .ok (.iload_n 1, 1) := by decide +kernel
theorem DM_X8_count_124 : decode (mC M_X8_count) 124 = .ok (.bipush 6, 2) := by decide +kernel
theorem DM_X8_count_126 : decode (mC M_X8_count) 126 = .ok (.if_icmp .ne 14, 3) := by decide +kernel
theorem DM_X8_count_129 : decode (mC M_X8_count) 129 = .ok (.aload_n 0, 1) := by decide +kernel
theorem DM_X8_count_130 : decode (mC M_X8_count) 130 = .ok (.getfield 25, 3) := by decide +kernel
theorem DM_X8_count_133 : decode (mC M_X8_count) 133 = .ok (.iconst 1, 1) := by decide +kernel
theorem DM_X8_count_134 : decode (mC M_X8_count) 134 = .ok (.invokestatic 193, 3) := by decide +kernel
theorem DM_X8_count_137 : decode (mC M_X8_count) 137 = .ok (.goto 35, 3) := by decide +kernel
theorem DM_X8_count_140 : decode (mC M_X8_count) 140 = .ok (.iload_n 1, 1) := by decide +kernel
theorem DM_X8_count_141 : decode (mC M_X8_count) 141 = .ok (.bipush 7, 2) := by decide +kernel
theorem DM_X8_count_143 : decode (mC M_X8_count) 143 = .ok (.if_icmp .ne 12, 3) := by decide +kernel
theorem DM_X8_count_146 : decode (mC M_X8_count) 146 = .ok (.aload_n 0, 1) := by decide +kernel
theorem DM_X8_count_147 : decode (mC M_X8_count) 147 = .ok (.getfield 25, 3) := by decide +kernel
theorem DM_X8_count_150 : decode (mC M_X8_count) 150 = .ok (.iconst 4, 1) := by decide +kernel
theorem DM_X8_count_151 : decode (mC M_X8_count) 151 = .ok (.iaload, 1) := by decide +kernel
theorem DM_X8_count_152 : decode (mC M_X8_count) 152 = .ok (.goto 20, 3) := by decide +kernel
theorem DM_X8_count_155 : decode (mC M_X8_count) 155 = .ok (.iload_n 1, 1) := by decide +kernel
theorem DM_X8_count_156 : decode (mC M_X8_count) 156 = .ok (.bipush 8, 2) := by decide +kernel
theorem DM_X8_count_158 : decode (mC M_X8_count) 158 = .ok (.if_icmp .ne 10, 3) := by decide +kernel
theorem DM_X8_count_161 : decode (mC M_X8_count) 161 = .ok (.aload_n 0, 1) := by decide +kernel
theorem DM_X8_count_162 : decode (mC M_X8_count) 162 = .ok (.getfield 155, 3) := by decide +kernel
theorem DM_X8_count_165 : decode (mC M_X8_count) 165 = .ok (.goto 7, 3) := by decide +kernel
theorem DM_X8_count_168 : decode (mC M_X8_count) 168 = .ok (.aload_n 0, 1) := by decide +kernel
theorem DM_X8_count_169 : decode (mC M_X8_count) 169 = .ok (.getfield 91, 3) := by decide +kernel
theorem DM_X8_count_172 : decode (mC M_X8_count) 172 = .ok (.ireturn, 1) := by decide +kernel
theorem DM_X8_status_0 : decode (mC M_X8_status) 0 = .ok (.aload_n 0, 1) := by decide +kernel
theorem DM_X8_status_1 : decode (mC M_X8_status) 1 = .ok (.getfield 60, 3) := by decide +kernel
theorem DM_X8_status_4 : decode (mC M_X8_status) 4 = .ok (.ireturn, 1) := by decide +kernel
theorem DM_law_0 : decode (mC M_law) 0 = .ok (.new 7, 3) := by decide +kernel
theorem DM_law_3 : decode (mC M_law) 3 = .ok (.dup, 1) := by decide +kernel
theorem DM_law_4 : decode (mC M_law) 4 = .ok (.invokespecial 9, 3) := by decide +kernel
theorem DM_law_7 : decode (mC M_law) 7 = .ok (.astore_n 1, 1) := by decide +kernel
theorem DM_law_8 : decode (mC M_law) 8 = .ok (.new 10, 3) := by decide +kernel
theorem DM_law_11 : decode (mC M_law) 11 = .ok (.dup, 1) := by decide +kernel
theorem DM_law_12 : decode (mC M_law) 12 = .ok (.invokespecial 12, 3) := by decide +kernel
theorem DM_law_15 : decode (mC M_law) 15 = .ok (.astore_n 2, 1) := by decide +kernel
theorem DM_law_16 : decode (mC M_law) 16 = .ok (.iconst 0, 1) := by decide +kernel
theorem DM_law_17 : decode (mC M_law) 17 = .ok (.istore_n 3, 1) := by decide +kernel
theorem DM_law_18 : decode (mC M_law) 18 = .ok (.iload_n 3, 1) := by decide +kernel
theorem DM_law_19 : decode (mC M_law) 19 = .ok (.aload_n 0, 1) := by decide +kernel
theorem DM_law_20 : decode (mC M_law) 20 = .ok (.arraylength, 1) := by decide +kernel
theorem DM_law_21 : decode (mC M_law) 21 = .ok (.bipush 6, 2) := by decide +kernel
theorem DM_law_23 : decode (mC M_law) 23 = .ok (.isub, 1) := by decide +kernel
theorem DM_law_24 : decode (mC M_law) 24 = .ok (.if_icmp .gt 953, 3) := by decide +kernel
theorem DM_law_27 : decode (mC M_law) 27 = .ok (.aload_n 0, 1) := by decide +kernel
theorem DM_law_28 : decode (mC M_law) 28 = .ok (.iload_n 3, 1) := by decide +kernel
theorem DM_law_29 : decode (mC M_law) 29 = .ok (.iaload, 1) := by decide +kernel
theorem DM_law_30 : decode (mC M_law) 30 = .ok (.bipush 31, 2) := by decide +kernel
theorem DM_law_32 : decode (mC M_law) 32 = .ok (.iand, 1) := by decide +kernel
theorem DM_law_33 : decode (mC M_law) 33 = .ok (.tableswitch 938 0 28 #[131, 174, 217, 280, 303, 326, 339, 352, 375, 418, 451, 464, 497, 530, 553, 586, 599, 632, 655, 678, 701, 744, 767, 790, 813, 846, 879, 902, 925], 131) := by decide +kernel
theorem DM_law_164 : decode (mC M_law) 164 = .ok (.aload_n 1, 1) := by decide +kernel
theorem DM_law_165 : decode (mC M_law) 165 = .ok (.aload_n 0, 1) := by decide +kernel
theorem DM_law_166 : decode (mC M_law) 166 = .ok (.iload_n 3, 1) := by decide +kernel
theorem DM_law_167 : decode (mC M_law) 167 = .ok (.iconst 1, 1) := by decide +kernel
theorem DM_law_168 : decode (mC M_law) 168 = .ok (.iadd, 1) := by decide +kernel
theorem DM_law_169 : decode (mC M_law) 169 = .ok (.iaload, 1) := by decide +kernel
theorem DM_law_170 : decode (mC M_law) 170 = .ok (.aload_n 0, 1) := by decide +kernel
theorem DM_law_171 : decode (mC M_law) 171 = .ok (.iload_n 3, 1) := by decide +kernel
theorem DM_law_172 : decode (mC M_law) 172 = .ok (.iconst 2, 1) := by decide +kernel
theorem DM_law_173 : decode (mC M_law) 173 = .ok (.iadd, 1) := by decide +kernel
theorem DM_law_174 : decode (mC M_law) 174 = .ok (.iaload, 1) := by decide +kernel
theorem DM_law_175 : decode (mC M_law) 175 = .ok (.aload_n 0, 1) := by decide +kernel
theorem DM_law_176 : decode (mC M_law) 176 = .ok (.iload_n 3, 1) := by decide +kernel
theorem DM_law_177 : decode (mC M_law) 177 = .ok (.iconst 3, 1) := by decide +kernel
theorem DM_law_178 : decode (mC M_law) 178 = .ok (.iadd, 1) := by decide +kernel
theorem DM_law_179 : decode (mC M_law) 179 = .ok (.iaload, 1) := by decide +kernel
theorem DM_law_180 : decode (mC M_law) 180 = .ok (.invokevirtual 13, 3) := by decide +kernel
theorem DM_law_183 : decode (mC M_law) 183 = .ok (.aload_n 2, 1) := by decide +kernel
theorem DM_law_184 : decode (mC M_law) 184 = .ok (.aload_n 0, 1) := by decide +kernel
theorem DM_law_185 : decode (mC M_law) 185 = .ok (.iload_n 3, 1) := by decide +kernel
theorem DM_law_186 : decode (mC M_law) 186 = .ok (.iconst 1, 1) := by decide +kernel
theorem DM_law_187 : decode (mC M_law) 187 = .ok (.iadd, 1) := by decide +kernel
theorem DM_law_188 : decode (mC M_law) 188 = .ok (.iaload, 1) := by decide +kernel
theorem DM_law_189 : decode (mC M_law) 189 = .ok (.aload_n 0, 1) := by decide +kernel
theorem DM_law_190 : decode (mC M_law) 190 = .ok (.iload_n 3, 1) := by decide +kernel
theorem DM_law_191 : decode (mC M_law) 191 = .ok (.iconst 2, 1) := by decide +kernel
theorem DM_law_192 : decode (mC M_law) 192 = .ok (.iadd, 1) := by decide +kernel
theorem DM_law_193 : decode (mC M_law) 193 = .ok (.iaload, 1) := by decide +kernel
theorem DM_law_194 : decode (mC M_law) 194 = .ok (.aload_n 0, 1) := by decide +kernel
theorem DM_law_195 : decode (mC M_law) 195 = .ok (.iload_n 3, 1) := by decide +kernel
theorem DM_law_196 : decode (mC M_law) 196 = .ok (.iconst 3, 1) := by decide +kernel
theorem DM_law_197 : decode (mC M_law) 197 = .ok (.iadd, 1) := by decide +kernel
theorem DM_law_198 : decode (mC M_law) 198 = .ok (.iaload, 1) := by decide +kernel
theorem DM_law_199 : decode (mC M_law) 199 = .ok (.invokevirtual 17, 3) := by decide +kernel
theorem DM_law_202 : decode (mC M_law) 202 = .ok (.if_icmp .eq 769, 3) := by decide +kernel
theorem DM_law_205 : decode (mC M_law) 205 = .ok (.iconst 0, 1) := by decide +kernel
theorem DM_law_206 : decode (mC M_law) 206 = .ok (.ireturn, 1) := by decide +kernel
theorem DM_law_207 : decode (mC M_law) 207 = .ok (.aload_n 1, 1) := by decide +kernel
theorem DM_law_208 : decode (mC M_law) 208 = .ok (.aload_n 0, 1) := by decide +kernel
theorem DM_law_209 : decode (mC M_law) 209 = .ok (.iload_n 3, 1) := by decide +kernel
theorem DM_law_210 : decode (mC M_law) 210 = .ok (.iconst 1, 1) := by decide +kernel
theorem DM_law_211 : decode (mC M_law) 211 = .ok (.iadd, 1) := by decide +kernel
theorem DM_law_212 : decode (mC M_law) 212 = .ok (.iaload, 1) := by decide +kernel
theorem DM_law_213 : decode (mC M_law) 213 = .ok (.aload_n 0, 1) := by decide +kernel
theorem DM_law_214 : decode (mC M_law) 214 = .ok (.iload_n 3, 1) := by decide +kernel
theorem DM_law_215 : decode (mC M_law) 215 = .ok (.iconst 2, 1) := by decide +kernel
theorem DM_law_216 : decode (mC M_law) 216 = .ok (.iadd, 1) := by decide +kernel
theorem DM_law_217 : decode (mC M_law) 217 = .ok (.iaload, 1) := by decide +kernel
theorem DM_law_218 : decode (mC M_law) 218 = .ok (.aload_n 0, 1) := by decide +kernel
theorem DM_law_219 : decode (mC M_law) 219 = .ok (.iload_n 3, 1) := by decide +kernel
theorem DM_law_220 : decode (mC M_law) 220 = .ok (.iconst 3, 1) := by decide +kernel
theorem DM_law_221 : decode (mC M_law) 221 = .ok (.iadd, 1) := by decide +kernel
theorem DM_law_222 : decode (mC M_law) 222 = .ok (.iaload, 1) := by decide +kernel
theorem DM_law_223 : decode (mC M_law) 223 = .ok (.invokevirtual 18, 3) := by decide +kernel
theorem DM_law_226 : decode (mC M_law) 226 = .ok (.aload_n 2, 1) := by decide +kernel
theorem DM_law_227 : decode (mC M_law) 227 = .ok (.aload_n 0, 1) := by decide +kernel
theorem DM_law_228 : decode (mC M_law) 228 = .ok (.iload_n 3, 1) := by decide +kernel
theorem DM_law_229 : decode (mC M_law) 229 = .ok (.iconst 1, 1) := by decide +kernel
theorem DM_law_230 : decode (mC M_law) 230 = .ok (.iadd, 1) := by decide +kernel
theorem DM_law_231 : decode (mC M_law) 231 = .ok (.iaload, 1) := by decide +kernel
theorem DM_law_232 : decode (mC M_law) 232 = .ok (.aload_n 0, 1) := by decide +kernel
theorem DM_law_233 : decode (mC M_law) 233 = .ok (.iload_n 3, 1) := by decide +kernel
theorem DM_law_234 : decode (mC M_law) 234 = .ok (.iconst 2, 1) := by decide +kernel
theorem DM_law_235 : decode (mC M_law) 235 = .ok (.iadd, 1) := by decide +kernel
theorem DM_law_236 : decode (mC M_law) 236 = .ok (.iaload, 1) := by decide +kernel
theorem DM_law_237 : decode (mC M_law) 237 = .ok (.aload_n 0, 1) := by decide +kernel
theorem DM_law_238 : decode (mC M_law) 238 = .ok (.iload_n 3, 1) := by decide +kernel
theorem DM_law_239 : decode (mC M_law) 239 = .ok (.iconst 3, 1) := by decide +kernel
theorem DM_law_240 : decode (mC M_law) 240 = .ok (.iadd, 1) := by decide +kernel
theorem DM_law_241 : decode (mC M_law) 241 = .ok (.iaload, 1) := by decide +kernel
theorem DM_law_242 : decode (mC M_law) 242 = .ok (.invokevirtual 21, 3) := by decide +kernel
theorem DM_law_245 : decode (mC M_law) 245 = .ok (.if_icmp .eq 726, 3) := by decide +kernel
theorem DM_law_248 : decode (mC M_law) 248 = .ok (.iconst 0, 1) := by decide +kernel
theorem DM_law_249 : decode (mC M_law) 249 = .ok (.ireturn, 1) := by decide +kernel
theorem DM_law_250 : decode (mC M_law) 250 = .ok (.aload_n 1, 1) := by decide +kernel
theorem DM_law_251 : decode (mC M_law) 251 = .ok (.aload_n 0, 1) := by decide +kernel
theorem DM_law_252 : decode (mC M_law) 252 = .ok (.iload_n 3, 1) := by decide +kernel
theorem DM_law_253 : decode (mC M_law) 253 = .ok (.iconst 1, 1) := by decide +kernel
theorem DM_law_254 : decode (mC M_law) 254 = .ok (.iadd, 1) := by decide +kernel
theorem DM_law_255 : decode (mC M_law) 255 = .ok (.iaload, 1) := by decide +kernel
theorem DM_law_256 : decode (mC M_law) 256 = .ok (.aload_n 0, 1) := by decide +kernel
theorem DM_law_257 : decode (mC M_law) 257 = .ok (.iload_n 3, 1) := by decide +kernel
theorem DM_law_258 : decode (mC M_law) 258 = .ok (.iconst 2, 1) := by decide +kernel
theorem DM_law_259 : decode (mC M_law) 259 = .ok (.iadd, 1) := by decide +kernel
theorem DM_law_260 : decode (mC M_law) 260 = .ok (.iaload, 1) := by decide +kernel
theorem DM_law_261 : decode (mC M_law) 261 = .ok (.aload_n 0, 1) := by decide +kernel
theorem DM_law_262 : decode (mC M_law) 262 = .ok (.iload_n 3, 1) := by decide +kernel
theorem DM_law_263 : decode (mC M_law) 263 = .ok (.iconst 3, 1) := by decide +kernel
theorem DM_law_264 : decode (mC M_law) 264 = .ok (.iadd, 1) := by decide +kernel
theorem DM_law_265 : decode (mC M_law) 265 = .ok (.iaload, 1) := by decide +kernel
theorem DM_law_266 : decode (mC M_law) 266 = .ok (.aload_n 0, 1) := by decide +kernel
theorem DM_law_267 : decode (mC M_law) 267 = .ok (.iload_n 3, 1) := by decide +kernel
theorem DM_law_268 : decode (mC M_law) 268 = .ok (.iconst 4, 1) := by decide +kernel
theorem DM_law_269 : decode (mC M_law) 269 = .ok (.iadd, 1) := by decide +kernel
theorem DM_law_270 : decode (mC M_law) 270 = .ok (.iaload, 1) := by decide +kernel
theorem DM_law_271 : decode (mC M_law) 271 = .ok (.aload_n 0, 1) := by decide +kernel
theorem DM_law_272 : decode (mC M_law) 272 = .ok (.iload_n 3, 1) := by decide +kernel
theorem DM_law_273 : decode (mC M_law) 273 = .ok (.iconst 5, 1) := by decide +kernel
theorem DM_law_274 : decode (mC M_law) 274 = .ok (.iadd, 1) := by decide +kernel
theorem DM_law_275 : decode (mC M_law) 275 = .ok (.iaload, 1) := by decide +kernel
theorem DM_law_276 : decode (mC M_law) 276 = .ok (.invokevirtual 22, 3) := by decide +kernel
theorem DM_law_279 : decode (mC M_law) 279 = .ok (.aload_n 2, 1) := by decide +kernel
theorem DM_law_280 : decode (mC M_law) 280 = .ok (.aload_n 0, 1) := by decide +kernel
theorem DM_law_281 : decode (mC M_law) 281 = .ok (.iload_n 3, 1) := by decide +kernel
theorem DM_law_282 : decode (mC M_law) 282 = .ok (.iconst 1, 1) := by decide +kernel
theorem DM_law_283 : decode (mC M_law) 283 = .ok (.iadd, 1) := by decide +kernel
theorem DM_law_284 : decode (mC M_law) 284 = .ok (.iaload, 1) := by decide +kernel
theorem DM_law_285 : decode (mC M_law) 285 = .ok (.aload_n 0, 1) := by decide +kernel
theorem DM_law_286 : decode (mC M_law) 286 = .ok (.iload_n 3, 1) := by decide +kernel
theorem DM_law_287 : decode (mC M_law) 287 = .ok (.iconst 2, 1) := by decide +kernel
theorem DM_law_288 : decode (mC M_law) 288 = .ok (.iadd, 1) := by decide +kernel
theorem DM_law_289 : decode (mC M_law) 289 = .ok (.iaload, 1) := by decide +kernel
theorem DM_law_290 : decode (mC M_law) 290 = .ok (.aload_n 0, 1) := by decide +kernel
theorem DM_law_291 : decode (mC M_law) 291 = .ok (.iload_n 3, 1) := by decide +kernel
theorem DM_law_292 : decode (mC M_law) 292 = .ok (.iconst 3, 1) := by decide +kernel
theorem DM_law_293 : decode (mC M_law) 293 = .ok (.iadd, 1) := by decide +kernel
theorem DM_law_294 : decode (mC M_law) 294 = .ok (.iaload, 1) := by decide +kernel
theorem DM_law_295 : decode (mC M_law) 295 = .ok (.aload_n 0, 1) := by decide +kernel
theorem DM_law_296 : decode (mC M_law) 296 = .ok (.iload_n 3, 1) := by decide +kernel
theorem DM_law_297 : decode (mC M_law) 297 = .ok (.iconst 4, 1) := by decide +kernel
theorem DM_law_298 : decode (mC M_law) 298 = .ok (.iadd, 1) := by decide +kernel
theorem DM_law_299 : decode (mC M_law) 299 = .ok (.iaload, 1) := by decide +kernel
theorem DM_law_300 : decode (mC M_law) 300 = .ok (.aload_n 0, 1) := by decide +kernel
theorem DM_law_301 : decode (mC M_law) 301 = .ok (.iload_n 3, 1) := by decide +kernel
theorem DM_law_302 : decode (mC M_law) 302 = .ok (.iconst 5, 1) := by decide +kernel
theorem DM_law_303 : decode (mC M_law) 303 = .ok (.iadd, 1) := by decide +kernel
theorem DM_law_304 : decode (mC M_law) 304 = .ok (.iaload, 1) := by decide +kernel
theorem DM_law_305 : decode (mC M_law) 305 = .ok (.invokevirtual 26, 3) := by decide +kernel
theorem DM_law_308 : decode (mC M_law) 308 = .ok (.if_icmp .eq 663, 3) := by decide +kernel
theorem DM_law_311 : decode (mC M_law) 311 = .ok (.iconst 0, 1) := by decide +kernel
theorem DM_law_312 : decode (mC M_law) 312 = .ok (.ireturn, 1) := by decide +kernel
theorem DM_law_313 : decode (mC M_law) 313 = .ok (.aload_n 1, 1) := by decide +kernel
theorem DM_law_314 : decode (mC M_law) 314 = .ok (.aload_n 0, 1) := by decide +kernel
theorem DM_law_315 : decode (mC M_law) 315 = .ok (.iload_n 3, 1) := by decide +kernel
theorem DM_law_316 : decode (mC M_law) 316 = .ok (.iconst 1, 1) := by decide +kernel
theorem DM_law_317 : decode (mC M_law) 317 = .ok (.iadd, 1) := by decide +kernel
theorem DM_law_318 : decode (mC M_law) 318 = .ok (.iaload, 1) := by decide +kernel
theorem DM_law_319 : decode (mC M_law) 319 = .ok (.invokevirtual 27, 3) := by decide +kernel
theorem DM_law_322 : decode (mC M_law) 322 = .ok (.aload_n 2, 1) := by decide +kernel
theorem DM_law_323 : decode (mC M_law) 323 = .ok (.aload_n 0, 1) := by decide +kernel
theorem DM_law_324 : decode (mC M_law) 324 = .ok (.iload_n 3, 1) := by decide +kernel
theorem DM_law_325 : decode (mC M_law) 325 = .ok (.iconst 1, 1) := by decide +kernel
theorem DM_law_326 : decode (mC M_law) 326 = .ok (.iadd, 1) := by decide +kernel
theorem DM_law_327 : decode (mC M_law) 327 = .ok (.iaload, 1) := by decide +kernel
theorem DM_law_328 : decode (mC M_law) 328 = .ok (.invokevirtual 31, 3) := by decide +kernel
theorem DM_law_331 : decode (mC M_law) 331 = .ok (.if_icmp .eq 640, 3) := by decide +kernel
theorem DM_law_334 : decode (mC M_law) 334 = .ok (.iconst 0, 1) := by decide +kernel
theorem DM_law_335 : decode (mC M_law) 335 = .ok (.ireturn, 1) := by decide +kernel
theorem DM_law_336 : decode (mC M_law) 336 = .ok (.aload_n 1, 1) := by decide +kernel
theorem DM_law_337 : decode (mC M_law) 337 = .ok (.aload_n 0, 1) := by decide +kernel
theorem DM_law_338 : decode (mC M_law) 338 = .ok (.iload_n 3, 1) := by decide +kernel
theorem DM_law_339 : decode (mC M_law) 339 = .ok (.iconst 1, 1) := by decide +kernel
theorem DM_law_340 : decode (mC M_law) 340 = .ok (.iadd, 1) := by decide +kernel
theorem DM_law_341 : decode (mC M_law) 341 = .ok (.iaload, 1) := by decide +kernel
theorem DM_law_342 : decode (mC M_law) 342 = .ok (.invokevirtual 32, 3) := by decide +kernel
theorem DM_law_345 : decode (mC M_law) 345 = .ok (.aload_n 2, 1) := by decide +kernel
theorem DM_law_346 : decode (mC M_law) 346 = .ok (.aload_n 0, 1) := by decide +kernel
theorem DM_law_347 : decode (mC M_law) 347 = .ok (.iload_n 3, 1) := by decide +kernel
theorem DM_law_348 : decode (mC M_law) 348 = .ok (.iconst 1, 1) := by decide +kernel
theorem DM_law_349 : decode (mC M_law) 349 = .ok (.iadd, 1) := by decide +kernel
theorem DM_law_350 : decode (mC M_law) 350 = .ok (.iaload, 1) := by decide +kernel
theorem DM_law_351 : decode (mC M_law) 351 = .ok (.invokevirtual 35, 3) := by decide +kernel
theorem DM_law_354 : decode (mC M_law) 354 = .ok (.if_icmp .eq 617, 3) := by decide +kernel
theorem DM_law_357 : decode (mC M_law) 357 = .ok (.iconst 0, 1) := by decide +kernel
theorem DM_law_358 : decode (mC M_law) 358 = .ok (.ireturn, 1) := by decide +kernel
theorem DM_law_359 : decode (mC M_law) 359 = .ok (.aload_n 1, 1) := by decide +kernel
theorem DM_law_360 : decode (mC M_law) 360 = .ok (.invokevirtual 36, 3) := by decide +kernel
theorem DM_law_363 : decode (mC M_law) 363 = .ok (.aload_n 2, 1) := by decide +kernel
theorem DM_law_364 : decode (mC M_law) 364 = .ok (.invokevirtual 40, 3) := by decide +kernel
theorem DM_law_367 : decode (mC M_law) 367 = .ok (.if_icmp .eq 604, 3) := by decide +kernel
theorem DM_law_370 : decode (mC M_law) 370 = .ok (.iconst 0, 1) := by decide +kernel
theorem DM_law_371 : decode (mC M_law) 371 = .ok (.ireturn, 1) := by decide +kernel
theorem DM_law_372 : decode (mC M_law) 372 = .ok (.aload_n 1, 1) := by decide +kernel
theorem DM_law_373 : decode (mC M_law) 373 = .ok (.invokevirtual 41, 3) := by decide +kernel
theorem DM_law_376 : decode (mC M_law) 376 = .ok (.aload_n 2, 1) := by decide +kernel
theorem DM_law_377 : decode (mC M_law) 377 = .ok (.invokevirtual 44, 3) := by decide +kernel
theorem DM_law_380 : decode (mC M_law) 380 = .ok (.if_icmp .eq 591, 3) := by decide +kernel
theorem DM_law_383 : decode (mC M_law) 383 = .ok (.iconst 0, 1) := by decide +kernel
theorem DM_law_384 : decode (mC M_law) 384 = .ok (.ireturn, 1) := by decide +kernel
theorem DM_law_385 : decode (mC M_law) 385 = .ok (.aload_n 1, 1) := by decide +kernel
theorem DM_law_386 : decode (mC M_law) 386 = .ok (.aload_n 0, 1) := by decide +kernel
theorem DM_law_387 : decode (mC M_law) 387 = .ok (.iload_n 3, 1) := by decide +kernel
theorem DM_law_388 : decode (mC M_law) 388 = .ok (.iconst 1, 1) := by decide +kernel
theorem DM_law_389 : decode (mC M_law) 389 = .ok (.iadd, 1) := by decide +kernel
theorem DM_law_390 : decode (mC M_law) 390 = .ok (.iaload, 1) := by decide +kernel
theorem DM_law_391 : decode (mC M_law) 391 = .ok (.invokevirtual 45, 3) := by decide +kernel
theorem DM_law_394 : decode (mC M_law) 394 = .ok (.aload_n 2, 1) := by decide +kernel
theorem DM_law_395 : decode (mC M_law) 395 = .ok (.aload_n 0, 1) := by decide +kernel
theorem DM_law_396 : decode (mC M_law) 396 = .ok (.iload_n 3, 1) := by decide +kernel
theorem DM_law_397 : decode (mC M_law) 397 = .ok (.iconst 1, 1) := by decide +kernel
theorem DM_law_398 : decode (mC M_law) 398 = .ok (.iadd, 1) := by decide +kernel
theorem DM_law_399 : decode (mC M_law) 399 = .ok (.iaload, 1) := by decide +kernel
theorem DM_law_400 : decode (mC M_law) 400 = .ok (.invokevirtual 48, 3) := by decide +kernel
theorem DM_law_403 : decode (mC M_law) 403 = .ok (.if_icmp .eq 568, 3) := by decide +kernel
theorem DM_law_406 : decode (mC M_law) 406 = .ok (.iconst 0, 1) := by decide +kernel
theorem DM_law_407 : decode (mC M_law) 407 = .ok (.ireturn, 1) := by decide +kernel
theorem DM_law_408 : decode (mC M_law) 408 = .ok (.aload_n 1, 1) := by decide +kernel
theorem DM_law_409 : decode (mC M_law) 409 = .ok (.aload_n 0, 1) := by decide +kernel
theorem DM_law_410 : decode (mC M_law) 410 = .ok (.iload_n 3, 1) := by decide +kernel
theorem DM_law_411 : decode (mC M_law) 411 = .ok (.iconst 1, 1) := by decide +kernel
theorem DM_law_412 : decode (mC M_law) 412 = .ok (.iadd, 1) := by decide +kernel
theorem DM_law_413 : decode (mC M_law) 413 = .ok (.iaload, 1) := by decide +kernel
theorem DM_law_414 : decode (mC M_law) 414 = .ok (.aload_n 0, 1) := by decide +kernel
theorem DM_law_415 : decode (mC M_law) 415 = .ok (.iload_n 3, 1) := by decide +kernel
theorem DM_law_416 : decode (mC M_law) 416 = .ok (.iconst 2, 1) := by decide +kernel
theorem DM_law_417 : decode (mC M_law) 417 = .ok (.iadd, 1) := by decide +kernel
theorem DM_law_418 : decode (mC M_law) 418 = .ok (.iaload, 1) := by decide +kernel
theorem DM_law_419 : decode (mC M_law) 419 = .ok (.aload_n 0, 1) := by decide +kernel
theorem DM_law_420 : decode (mC M_law) 420 = .ok (.iload_n 3, 1) := by decide +kernel
theorem DM_law_421 : decode (mC M_law) 421 = .ok (.iconst 3, 1) := by decide +kernel
theorem DM_law_422 : decode (mC M_law) 422 = .ok (.iadd, 1) := by decide +kernel
theorem DM_law_423 : decode (mC M_law) 423 = .ok (.iaload, 1) := by decide +kernel
theorem DM_law_424 : decode (mC M_law) 424 = .ok (.invokevirtual 49, 3) := by decide +kernel
theorem DM_law_427 : decode (mC M_law) 427 = .ok (.aload_n 2, 1) := by decide +kernel
theorem DM_law_428 : decode (mC M_law) 428 = .ok (.aload_n 0, 1) := by decide +kernel
theorem DM_law_429 : decode (mC M_law) 429 = .ok (.iload_n 3, 1) := by decide +kernel
theorem DM_law_430 : decode (mC M_law) 430 = .ok (.iconst 1, 1) := by decide +kernel
theorem DM_law_431 : decode (mC M_law) 431 = .ok (.iadd, 1) := by decide +kernel
theorem DM_law_432 : decode (mC M_law) 432 = .ok (.iaload, 1) := by decide +kernel
theorem DM_law_433 : decode (mC M_law) 433 = .ok (.aload_n 0, 1) := by decide +kernel
theorem DM_law_434 : decode (mC M_law) 434 = .ok (.iload_n 3, 1) := by decide +kernel
theorem DM_law_435 : decode (mC M_law) 435 = .ok (.iconst 2, 1) := by decide +kernel
theorem DM_law_436 : decode (mC M_law) 436 = .ok (.iadd, 1) := by decide +kernel
theorem DM_law_437 : decode (mC M_law) 437 = .ok (.iaload, 1) := by decide +kernel
theorem DM_law_438 : decode (mC M_law) 438 = .ok (.aload_n 0, 1) := by decide +kernel
theorem DM_law_439 : decode (mC M_law) 439 = .ok (.iload_n 3, 1) := by decide +kernel
theorem DM_law_440 : decode (mC M_law) 440 = .ok (.iconst 3, 1) := by decide +kernel
theorem DM_law_441 : decode (mC M_law) 441 = .ok (.iadd, 1) := by decide +kernel
theorem DM_law_442 : decode (mC M_law) 442 = .ok (.iaload, 1) := by decide +kernel
theorem DM_law_443 : decode (mC M_law) 443 = .ok (.invokevirtual 52, 3) := by decide +kernel
theorem DM_law_446 : decode (mC M_law) 446 = .ok (.if_icmp .eq 525, 3) := by decide +kernel
theorem DM_law_449 : decode (mC M_law) 449 = .ok (.iconst 0, 1) := by decide +kernel
theorem DM_law_450 : decode (mC M_law) 450 = .ok (.ireturn, 1) := by decide +kernel
theorem DM_law_451 : decode (mC M_law) 451 = .ok (.aload_n 1, 1) := by decide +kernel
theorem DM_law_452 : decode (mC M_law) 452 = .ok (.aload_n 0, 1) := by decide +kernel
theorem DM_law_453 : decode (mC M_law) 453 = .ok (.iload_n 3, 1) := by decide +kernel
theorem DM_law_454 : decode (mC M_law) 454 = .ok (.iconst 1, 1) := by decide +kernel
theorem DM_law_455 : decode (mC M_law) 455 = .ok (.iadd, 1) := by decide +kernel
theorem DM_law_456 : decode (mC M_law) 456 = .ok (.iaload, 1) := by decide +kernel
theorem DM_law_457 : decode (mC M_law) 457 = .ok (.aload_n 0, 1) := by decide +kernel
theorem DM_law_458 : decode (mC M_law) 458 = .ok (.iload_n 3, 1) := by decide +kernel
theorem DM_law_459 : decode (mC M_law) 459 = .ok (.iconst 2, 1) := by decide +kernel
theorem DM_law_460 : decode (mC M_law) 460 = .ok (.iadd, 1) := by decide +kernel
theorem DM_law_461 : decode (mC M_law) 461 = .ok (.iaload, 1) := by decide +kernel
theorem DM_law_462 : decode (mC M_law) 462 = .ok (.invokevirtual 53, 3) := by decide +kernel
theorem DM_law_465 : decode (mC M_law) 465 = .ok (.aload_n 2, 1) := by decide +kernel
theorem DM_law_466 : decode (mC M_law) 466 = .ok (.aload_n 0, 1) := by decide +kernel
theorem DM_law_467 : decode (mC M_law) 467 = .ok (.iload_n 3, 1) := by decide +kernel
theorem DM_law_468 : decode (mC M_law) 468 = .ok (.iconst 1, 1) := by decide +kernel
theorem DM_law_469 : decode (mC M_law) 469 = .ok (.iadd, 1) := by decide +kernel
theorem DM_law_470 : decode (mC M_law) 470 = .ok (.iaload, 1) := by decide +kernel
theorem DM_law_471 : decode (mC M_law) 471 = .ok (.aload_n 0, 1) := by decide +kernel
theorem DM_law_472 : decode (mC M_law) 472 = .ok (.iload_n 3, 1) := by decide +kernel
theorem DM_law_473 : decode (mC M_law) 473 = .ok (.iconst 2, 1) := by decide +kernel
theorem DM_law_474 : decode (mC M_law) 474 = .ok (.iadd, 1) := by decide +kernel
theorem DM_law_475 : decode (mC M_law) 475 = .ok (.iaload, 1) := by decide +kernel
theorem DM_law_476 : decode (mC M_law) 476 = .ok (.invokevirtual 57, 3) := by decide +kernel
theorem DM_law_479 : decode (mC M_law) 479 = .ok (.if_icmp .eq 492, 3) := by decide +kernel
theorem DM_law_482 : decode (mC M_law) 482 = .ok (.iconst 0, 1) := by decide +kernel
theorem DM_law_483 : decode (mC M_law) 483 = .ok (.ireturn, 1) := by decide +kernel
theorem DM_law_484 : decode (mC M_law) 484 = .ok (.aload_n 1, 1) := by decide +kernel
theorem DM_law_485 : decode (mC M_law) 485 = .ok (.invokevirtual 58, 3) := by decide +kernel
theorem DM_law_488 : decode (mC M_law) 488 = .ok (.aload_n 2, 1) := by decide +kernel
theorem DM_law_489 : decode (mC M_law) 489 = .ok (.invokevirtual 61, 3) := by decide +kernel
theorem DM_law_492 : decode (mC M_law) 492 = .ok (.if_icmp .eq 479, 3) := by decide +kernel
theorem DM_law_495 : decode (mC M_law) 495 = .ok (.iconst 0, 1) := by decide +kernel
theorem DM_law_496 : decode (mC M_law) 496 = .ok (.ireturn, 1) := by decide +kernel
theorem DM_law_497 : decode (mC M_law) 497 = .ok (.aload_n 1, 1) := by decide +kernel
theorem DM_law_498 : decode (mC M_law) 498 = .ok (.aload_n 0, 1) := by decide +kernel
theorem DM_law_499 : decode (mC M_law) 499 = .ok (.iload_n 3, 1) := by decide +kernel
theorem DM_law_500 : decode (mC M_law) 500 = .ok (.iconst 1, 1) := by decide +kernel
theorem DM_law_501 : decode (mC M_law) 501 = .ok (.iadd, 1) := by decide +kernel
theorem DM_law_502 : decode (mC M_law) 502 = .ok (.iaload, 1) := by decide +kernel
theorem DM_law_503 : decode (mC M_law) 503 = .ok (.aload_n 0, 1) := by decide +kernel
theorem DM_law_504 : decode (mC M_law) 504 = .ok (.iload_n 3, 1) := by decide +kernel
theorem DM_law_505 : decode (mC M_law) 505 = .ok (.iconst 2, 1) := by decide +kernel
theorem DM_law_506 : decode (mC M_law) 506 = .ok (.iadd, 1) := by decide +kernel
theorem DM_law_507 : decode (mC M_law) 507 = .ok (.iaload, 1) := by decide +kernel
theorem DM_law_508 : decode (mC M_law) 508 = .ok (.invokevirtual 62, 3) := by decide +kernel
theorem DM_law_511 : decode (mC M_law) 511 = .ok (.aload_n 2, 1) := by decide +kernel
theorem DM_law_512 : decode (mC M_law) 512 = .ok (.aload_n 0, 1) := by decide +kernel
theorem DM_law_513 : decode (mC M_law) 513 = .ok (.iload_n 3, 1) := by decide +kernel
theorem DM_law_514 : decode (mC M_law) 514 = .ok (.iconst 1, 1) := by decide +kernel
theorem DM_law_515 : decode (mC M_law) 515 = .ok (.iadd, 1) := by decide +kernel
theorem DM_law_516 : decode (mC M_law) 516 = .ok (.iaload, 1) := by decide +kernel
theorem DM_law_517 : decode (mC M_law) 517 = .ok (.aload_n 0, 1) := by decide +kernel
theorem DM_law_518 : decode (mC M_law) 518 = .ok (.iload_n 3, 1) := by decide +kernel
theorem DM_law_519 : decode (mC M_law) 519 = .ok (.iconst 2, 1) := by decide +kernel
theorem DM_law_520 : decode (mC M_law) 520 = .ok (.iadd, 1) := by decide +kernel
theorem DM_law_521 : decode (mC M_law) 521 = .ok (.iaload, 1) := by decide +kernel
theorem DM_law_522 : decode (mC M_law) 522 = .ok (.invokevirtual 65, 3) := by decide +kernel
theorem DM_law_525 : decode (mC M_law) 525 = .ok (.if_icmp .eq 446, 3) := by decide +kernel
theorem DM_law_528 : decode (mC M_law) 528 = .ok (.iconst 0, 1) := by decide +kernel
theorem DM_law_529 : decode (mC M_law) 529 = .ok (.ireturn, 1) := by decide +kernel
theorem DM_law_530 : decode (mC M_law) 530 = .ok (.aload_n 1, 1) := by decide +kernel
theorem DM_law_531 : decode (mC M_law) 531 = .ok (.aload_n 0, 1) := by decide +kernel
theorem DM_law_532 : decode (mC M_law) 532 = .ok (.iload_n 3, 1) := by decide +kernel
theorem DM_law_533 : decode (mC M_law) 533 = .ok (.iconst 1, 1) := by decide +kernel
theorem DM_law_534 : decode (mC M_law) 534 = .ok (.iadd, 1) := by decide +kernel
theorem DM_law_535 : decode (mC M_law) 535 = .ok (.iaload, 1) := by decide +kernel
theorem DM_law_536 : decode (mC M_law) 536 = .ok (.aload_n 0, 1) := by decide +kernel
theorem DM_law_537 : decode (mC M_law) 537 = .ok (.iload_n 3, 1) := by decide +kernel
theorem DM_law_538 : decode (mC M_law) 538 = .ok (.iconst 2, 1) := by decide +kernel
theorem DM_law_539 : decode (mC M_law) 539 = .ok (.iadd, 1) := by decide +kernel
theorem DM_law_540 : decode (mC M_law) 540 = .ok (.iaload, 1) := by decide +kernel
theorem DM_law_541 : decode (mC M_law) 541 = .ok (.invokevirtual 66, 3) := by decide +kernel
theorem DM_law_544 : decode (mC M_law) 544 = .ok (.aload_n 2, 1) := by decide +kernel
theorem DM_law_545 : decode (mC M_law) 545 = .ok (.aload_n 0, 1) := by decide +kernel
theorem DM_law_546 : decode (mC M_law) 546 = .ok (.iload_n 3, 1) := by decide +kernel
theorem DM_law_547 : decode (mC M_law) 547 = .ok (.iconst 1, 1) := by decide +kernel
theorem DM_law_548 : decode (mC M_law) 548 = .ok (.iadd, 1) := by decide +kernel
theorem DM_law_549 : decode (mC M_law) 549 = .ok (.iaload, 1) := by decide +kernel
theorem DM_law_550 : decode (mC M_law) 550 = .ok (.aload_n 0, 1) := by decide +kernel
theorem DM_law_551 : decode (mC M_law) 551 = .ok (.iload_n 3, 1) := by decide +kernel
theorem DM_law_552 : decode (mC M_law) 552 = .ok (.iconst 2, 1) := by decide +kernel
theorem DM_law_553 : decode (mC M_law) 553 = .ok (.iadd, 1) := by decide +kernel
theorem DM_law_554 : decode (mC M_law) 554 = .ok (.iaload, 1) := by decide +kernel
theorem DM_law_555 : decode (mC M_law) 555 = .ok (.invokevirtual 69, 3) := by decide +kernel
theorem DM_law_558 : decode (mC M_law) 558 = .ok (.if_icmp .eq 413, 3) := by decide +kernel
theorem DM_law_561 : decode (mC M_law) 561 = .ok (.iconst 0, 1) := by decide +kernel
theorem DM_law_562 : decode (mC M_law) 562 = .ok (.ireturn, 1) := by decide +kernel
theorem DM_law_563 : decode (mC M_law) 563 = .ok (.aload_n 1, 1) := by decide +kernel
theorem DM_law_564 : decode (mC M_law) 564 = .ok (.aload_n 0, 1) := by decide +kernel
theorem DM_law_565 : decode (mC M_law) 565 = .ok (.iload_n 3, 1) := by decide +kernel
theorem DM_law_566 : decode (mC M_law) 566 = .ok (.iconst 1, 1) := by decide +kernel
theorem DM_law_567 : decode (mC M_law) 567 = .ok (.iadd, 1) := by decide +kernel
theorem DM_law_568 : decode (mC M_law) 568 = .ok (.iaload, 1) := by decide +kernel
theorem DM_law_569 : decode (mC M_law) 569 = .ok (.invokevirtual 70, 3) := by decide +kernel
theorem DM_law_572 : decode (mC M_law) 572 = .ok (.aload_n 2, 1) := by decide +kernel
theorem DM_law_573 : decode (mC M_law) 573 = .ok (.aload_n 0, 1) := by decide +kernel
theorem DM_law_574 : decode (mC M_law) 574 = .ok (.iload_n 3, 1) := by decide +kernel
theorem DM_law_575 : decode (mC M_law) 575 = .ok (.iconst 1, 1) := by decide +kernel
theorem DM_law_576 : decode (mC M_law) 576 = .ok (.iadd, 1) := by decide +kernel
theorem DM_law_577 : decode (mC M_law) 577 = .ok (.iaload, 1) := by decide +kernel
theorem DM_law_578 : decode (mC M_law) 578 = .ok (.invokevirtual 73, 3) := by decide +kernel
theorem DM_law_581 : decode (mC M_law) 581 = .ok (.if_icmp .eq 390, 3) := by decide +kernel
theorem DM_law_584 : decode (mC M_law) 584 = .ok (.iconst 0, 1) := by decide +kernel
theorem DM_law_585 : decode (mC M_law) 585 = .ok (.ireturn, 1) := by decide +kernel
theorem DM_law_586 : decode (mC M_law) 586 = .ok (.aload_n 1, 1) := by decide +kernel
theorem DM_law_587 : decode (mC M_law) 587 = .ok (.aload_n 0, 1) := by decide +kernel
theorem DM_law_588 : decode (mC M_law) 588 = .ok (.iload_n 3, 1) := by decide +kernel
theorem DM_law_589 : decode (mC M_law) 589 = .ok (.iconst 1, 1) := by decide +kernel
theorem DM_law_590 : decode (mC M_law) 590 = .ok (.iadd, 1) := by decide +kernel
theorem DM_law_591 : decode (mC M_law) 591 = .ok (.iaload, 1) := by decide +kernel
theorem DM_law_592 : decode (mC M_law) 592 = .ok (.aload_n 0, 1) := by decide +kernel
theorem DM_law_593 : decode (mC M_law) 593 = .ok (.iload_n 3, 1) := by decide +kernel
theorem DM_law_594 : decode (mC M_law) 594 = .ok (.iconst 2, 1) := by decide +kernel
theorem DM_law_595 : decode (mC M_law) 595 = .ok (.iadd, 1) := by decide +kernel
theorem DM_law_596 : decode (mC M_law) 596 = .ok (.iaload, 1) := by decide +kernel
theorem DM_law_597 : decode (mC M_law) 597 = .ok (.invokevirtual 74, 3) := by decide +kernel
theorem DM_law_600 : decode (mC M_law) 600 = .ok (.aload_n 2, 1) := by decide +kernel
theorem DM_law_601 : decode (mC M_law) 601 = .ok (.aload_n 0, 1) := by decide +kernel
theorem DM_law_602 : decode (mC M_law) 602 = .ok (.iload_n 3, 1) := by decide +kernel
theorem DM_law_603 : decode (mC M_law) 603 = .ok (.iconst 1, 1) := by decide +kernel
theorem DM_law_604 : decode (mC M_law) 604 = .ok (.iadd, 1) := by decide +kernel
theorem DM_law_605 : decode (mC M_law) 605 = .ok (.iaload, 1) := by decide +kernel
theorem DM_law_606 : decode (mC M_law) 606 = .ok (.aload_n 0, 1) := by decide +kernel
theorem DM_law_607 : decode (mC M_law) 607 = .ok (.iload_n 3, 1) := by decide +kernel
theorem DM_law_608 : decode (mC M_law) 608 = .ok (.iconst 2, 1) := by decide +kernel
theorem DM_law_609 : decode (mC M_law) 609 = .ok (.iadd, 1) := by decide +kernel
theorem DM_law_610 : decode (mC M_law) 610 = .ok (.iaload, 1) := by decide +kernel
theorem DM_law_611 : decode (mC M_law) 611 = .ok (.invokevirtual 77, 3) := by decide +kernel
theorem DM_law_614 : decode (mC M_law) 614 = .ok (.if_icmp .eq 357, 3) := by decide +kernel
theorem DM_law_617 : decode (mC M_law) 617 = .ok (.iconst 0, 1) := by decide +kernel
theorem DM_law_618 : decode (mC M_law) 618 = .ok (.ireturn, 1) := by decide +kernel
theorem DM_law_619 : decode (mC M_law) 619 = .ok (.aload_n 1, 1) := by decide +kernel
theorem DM_law_620 : decode (mC M_law) 620 = .ok (.invokevirtual 78, 3) := by decide +kernel
theorem DM_law_623 : decode (mC M_law) 623 = .ok (.aload_n 2, 1) := by decide +kernel
theorem DM_law_624 : decode (mC M_law) 624 = .ok (.invokevirtual 81, 3) := by decide +kernel
theorem DM_law_627 : decode (mC M_law) 627 = .ok (.if_icmp .eq 344, 3) := by decide +kernel
theorem DM_law_630 : decode (mC M_law) 630 = .ok (.iconst 0, 1) := by decide +kernel
theorem DM_law_631 : decode (mC M_law) 631 = .ok (.ireturn, 1) := by decide +kernel
theorem DM_law_632 : decode (mC M_law) 632 = .ok (.aload_n 1, 1) := by decide +kernel
theorem DM_law_633 : decode (mC M_law) 633 = .ok (.aload_n 0, 1) := by decide +kernel
theorem DM_law_634 : decode (mC M_law) 634 = .ok (.iload_n 3, 1) := by decide +kernel
theorem DM_law_635 : decode (mC M_law) 635 = .ok (.iconst 1, 1) := by decide +kernel
theorem DM_law_636 : decode (mC M_law) 636 = .ok (.iadd, 1) := by decide +kernel
theorem DM_law_637 : decode (mC M_law) 637 = .ok (.iaload, 1) := by decide +kernel
theorem DM_law_638 : decode (mC M_law) 638 = .ok (.aload_n 0, 1) := by decide +kernel
theorem DM_law_639 : decode (mC M_law) 639 = .ok (.iload_n 3, 1) := by decide +kernel
theorem DM_law_640 : decode (mC M_law) 640 = .ok (.iconst 2, 1) := by decide +kernel
theorem DM_law_641 : decode (mC M_law) 641 = .ok (.iadd, 1) := by decide +kernel
theorem DM_law_642 : decode (mC M_law) 642 = .ok (.iaload, 1) := by decide +kernel
theorem DM_law_643 : decode (mC M_law) 643 = .ok (.invokevirtual 82, 3) := by decide +kernel
theorem DM_law_646 : decode (mC M_law) 646 = .ok (.aload_n 2, 1) := by decide +kernel
theorem DM_law_647 : decode (mC M_law) 647 = .ok (.aload_n 0, 1) := by decide +kernel
theorem DM_law_648 : decode (mC M_law) 648 = .ok (.iload_n 3, 1) := by decide +kernel
theorem DM_law_649 : decode (mC M_law) 649 = .ok (.iconst 1, 1) := by decide +kernel
theorem DM_law_650 : decode (mC M_law) 650 = .ok (.iadd, 1) := by decide +kernel
theorem DM_law_651 : decode (mC M_law) 651 = .ok (.iaload, 1) := by decide +kernel
theorem DM_law_652 : decode (mC M_law) 652 = .ok (.aload_n 0, 1) := by decide +kernel
theorem DM_law_653 : decode (mC M_law) 653 = .ok (.iload_n 3, 1) := by decide +kernel
theorem DM_law_654 : decode (mC M_law) 654 = .ok (.iconst 2, 1) := by decide +kernel
theorem DM_law_655 : decode (mC M_law) 655 = .ok (.iadd, 1) := by decide +kernel
theorem DM_law_656 : decode (mC M_law) 656 = .ok (.iaload, 1) := by decide +kernel
theorem DM_law_657 : decode (mC M_law) 657 = .ok (.invokevirtual 85, 3) := by decide +kernel
theorem DM_law_660 : decode (mC M_law) 660 = .ok (.if_icmp .eq 311, 3) := by decide +kernel
theorem DM_law_663 : decode (mC M_law) 663 = .ok (.iconst 0, 1) := by decide +kernel
theorem DM_law_664 : decode (mC M_law) 664 = .ok (.ireturn, 1) := by decide +kernel
theorem DM_law_665 : decode (mC M_law) 665 = .ok (.aload_n 1, 1) := by decide +kernel
theorem DM_law_666 : decode (mC M_law) 666 = .ok (.aload_n 0, 1) := by decide +kernel
theorem DM_law_667 : decode (mC M_law) 667 = .ok (.iload_n 3, 1) := by decide +kernel
theorem DM_law_668 : decode (mC M_law) 668 = .ok (.iconst 1, 1) := by decide +kernel
theorem DM_law_669 : decode (mC M_law) 669 = .ok (.iadd, 1) := by decide +kernel
theorem DM_law_670 : decode (mC M_law) 670 = .ok (.iaload, 1) := by decide +kernel
theorem DM_law_671 : decode (mC M_law) 671 = .ok (.invokevirtual 86, 3) := by decide +kernel
theorem DM_law_674 : decode (mC M_law) 674 = .ok (.aload_n 2, 1) := by decide +kernel
theorem DM_law_675 : decode (mC M_law) 675 = .ok (.aload_n 0, 1) := by decide +kernel
theorem DM_law_676 : decode (mC M_law) 676 = .ok (.iload_n 3, 1) := by decide +kernel
theorem DM_law_677 : decode (mC M_law) 677 = .ok (.iconst 1, 1) := by decide +kernel
theorem DM_law_678 : decode (mC M_law) 678 = .ok (.iadd, 1) := by decide +kernel
theorem DM_law_679 : decode (mC M_law) 679 = .ok (.iaload, 1) := by decide +kernel
theorem DM_law_680 : decode (mC M_law) 680 = .ok (.invokevirtual 89, 3) := by decide +kernel
theorem DM_law_683 : decode (mC M_law) 683 = .ok (.if_icmp .eq 288, 3) := by decide +kernel
theorem DM_law_686 : decode (mC M_law) 686 = .ok (.iconst 0, 1) := by decide +kernel
theorem DM_law_687 : decode (mC M_law) 687 = .ok (.ireturn, 1) := by decide +kernel
theorem DM_law_688 : decode (mC M_law) 688 = .ok (.aload_n 1, 1) := by decide +kernel
theorem DM_law_689 : decode (mC M_law) 689 = .ok (.aload_n 0, 1) := by decide +kernel
theorem DM_law_690 : decode (mC M_law) 690 = .ok (.iload_n 3, 1) := by decide +kernel
theorem DM_law_691 : decode (mC M_law) 691 = .ok (.iconst 1, 1) := by decide +kernel
theorem DM_law_692 : decode (mC M_law) 692 = .ok (.iadd, 1) := by decide +kernel
theorem DM_law_693 : decode (mC M_law) 693 = .ok (.iaload, 1) := by decide +kernel
theorem DM_law_694 : decode (mC M_law) 694 = .ok (.invokevirtual 90, 3) := by decide +kernel
theorem DM_law_697 : decode (mC M_law) 697 = .ok (.aload_n 2, 1) := by decide +kernel
theorem DM_law_698 : decode (mC M_law) 698 = .ok (.aload_n 0, 1) := by decide +kernel
theorem DM_law_699 : decode (mC M_law) 699 = .ok (.iload_n 3, 1) := by decide +kernel
theorem DM_law_700 : decode (mC M_law) 700 = .ok (.iconst 1, 1) := by decide +kernel
theorem DM_law_701 : decode (mC M_law) 701 = .ok (.iadd, 1) := by decide +kernel
theorem DM_law_702 : decode (mC M_law) 702 = .ok (.iaload, 1) := by decide +kernel
theorem DM_law_703 : decode (mC M_law) 703 = .ok (.invokevirtual 93, 3) := by decide +kernel
theorem DM_law_706 : decode (mC M_law) 706 = .ok (.if_icmp .eq 265, 3) := by decide +kernel
theorem DM_law_709 : decode (mC M_law) 709 = .ok (.iconst 0, 1) := by decide +kernel
theorem DM_law_710 : decode (mC M_law) 710 = .ok (.ireturn, 1) := by decide +kernel
theorem DM_law_711 : decode (mC M_law) 711 = .ok (.aload_n 1, 1) := by decide +kernel
theorem DM_law_712 : decode (mC M_law) 712 = .ok (.aload_n 0, 1) := by decide +kernel
theorem DM_law_713 : decode (mC M_law) 713 = .ok (.iload_n 3, 1) := by decide +kernel
theorem DM_law_714 : decode (mC M_law) 714 = .ok (.iconst 1, 1) := by decide +kernel
theorem DM_law_715 : decode (mC M_law) 715 = .ok (.iadd, 1) := by decide +kernel
theorem DM_law_716 : decode (mC M_law) 716 = .ok (.iaload, 1) := by decide +kernel
theorem DM_law_717 : decode (mC M_law) 717 = .ok (.invokevirtual 94, 3) := by decide +kernel
theorem DM_law_720 : decode (mC M_law) 720 = .ok (.aload_n 2, 1) := by decide +kernel
theorem DM_law_721 : decode (mC M_law) 721 = .ok (.aload_n 0, 1) := by decide +kernel
theorem DM_law_722 : decode (mC M_law) 722 = .ok (.iload_n 3, 1) := by decide +kernel
theorem DM_law_723 : decode (mC M_law) 723 = .ok (.iconst 1, 1) := by decide +kernel
theorem DM_law_724 : decode (mC M_law) 724 = .ok (.iadd, 1) := by decide +kernel
theorem DM_law_725 : decode (mC M_law) 725 = .ok (.iaload, 1) := by decide +kernel
theorem DM_law_726 : decode (mC M_law) 726 = .ok (.invokevirtual 97, 3) := by decide +kernel
theorem DM_law_729 : decode (mC M_law) 729 = .ok (.if_icmp .eq 242, 3) := by decide +kernel
theorem DM_law_732 : decode (mC M_law) 732 = .ok (.iconst 0, 1) := by decide +kernel
theorem DM_law_733 : decode (mC M_law) 733 = .ok (.ireturn, 1) := by decide +kernel
theorem DM_law_734 : decode (mC M_law) 734 = .ok (.aload_n 1, 1) := by decide +kernel
theorem DM_law_735 : decode (mC M_law) 735 = .ok (.aload_n 0, 1) := by decide +kernel
theorem DM_law_736 : decode (mC M_law) 736 = .ok (.iload_n 3, 1) := by decide +kernel
theorem DM_law_737 : decode (mC M_law) 737 = .ok (.iconst 1, 1) := by decide +kernel
theorem DM_law_738 : decode (mC M_law) 738 = .ok (.iadd, 1) := by decide +kernel
theorem DM_law_739 : decode (mC M_law) 739 = .ok (.iaload, 1) := by decide +kernel
theorem DM_law_740 : decode (mC M_law) 740 = .ok (.aload_n 0, 1) := by decide +kernel
theorem DM_law_741 : decode (mC M_law) 741 = .ok (.iload_n 3, 1) := by decide +kernel
theorem DM_law_742 : decode (mC M_law) 742 = .ok (.iconst 2, 1) := by decide +kernel
theorem DM_law_743 : decode (mC M_law) 743 = .ok (.iadd, 1) := by decide +kernel
theorem DM_law_744 : decode (mC M_law) 744 = .ok (.iaload, 1) := by decide +kernel
theorem DM_law_745 : decode (mC M_law) 745 = .ok (.aload_n 0, 1) := by decide +kernel
theorem DM_law_746 : decode (mC M_law) 746 = .ok (.iload_n 3, 1) := by decide +kernel
theorem DM_law_747 : decode (mC M_law) 747 = .ok (.iconst 3, 1) := by decide +kernel
theorem DM_law_748 : decode (mC M_law) 748 = .ok (.iadd, 1) := by decide +kernel
theorem DM_law_749 : decode (mC M_law) 749 = .ok (.iaload, 1) := by decide +kernel
theorem DM_law_750 : decode (mC M_law) 750 = .ok (.invokevirtual 98, 3) := by decide +kernel
theorem DM_law_753 : decode (mC M_law) 753 = .ok (.aload_n 2, 1) := by decide +kernel
theorem DM_law_754 : decode (mC M_law) 754 = .ok (.aload_n 0, 1) := by decide +kernel
theorem DM_law_755 : decode (mC M_law) 755 = .ok (.iload_n 3, 1) := by decide +kernel
theorem DM_law_756 : decode (mC M_law) 756 = .ok (.iconst 1, 1) := by decide +kernel
theorem DM_law_757 : decode (mC M_law) 757 = .ok (.iadd, 1) := by decide +kernel
theorem DM_law_758 : decode (mC M_law) 758 = .ok (.iaload, 1) := by decide +kernel
theorem DM_law_759 : decode (mC M_law) 759 = .ok (.aload_n 0, 1) := by decide +kernel
theorem DM_law_760 : decode (mC M_law) 760 = .ok (.iload_n 3, 1) := by decide +kernel
theorem DM_law_761 : decode (mC M_law) 761 = .ok (.iconst 2, 1) := by decide +kernel
theorem DM_law_762 : decode (mC M_law) 762 = .ok (.iadd, 1) := by decide +kernel
theorem DM_law_763 : decode (mC M_law) 763 = .ok (.iaload, 1) := by decide +kernel
theorem DM_law_764 : decode (mC M_law) 764 = .ok (.aload_n 0, 1) := by decide +kernel
theorem DM_law_765 : decode (mC M_law) 765 = .ok (.iload_n 3, 1) := by decide +kernel
theorem DM_law_766 : decode (mC M_law) 766 = .ok (.iconst 3, 1) := by decide +kernel
theorem DM_law_767 : decode (mC M_law) 767 = .ok (.iadd, 1) := by decide +kernel
theorem DM_law_768 : decode (mC M_law) 768 = .ok (.iaload, 1) := by decide +kernel
theorem DM_law_769 : decode (mC M_law) 769 = .ok (.invokevirtual 101, 3) := by decide +kernel
theorem DM_law_772 : decode (mC M_law) 772 = .ok (.if_icmp .eq 199, 3) := by decide +kernel
theorem DM_law_775 : decode (mC M_law) 775 = .ok (.iconst 0, 1) := by decide +kernel
theorem DM_law_776 : decode (mC M_law) 776 = .ok (.ireturn, 1) := by decide +kernel
theorem DM_law_777 : decode (mC M_law) 777 = .ok (.aload_n 1, 1) := by decide +kernel
theorem DM_law_778 : decode (mC M_law) 778 = .ok (.aload_n 0, 1) := by decide +kernel
theorem DM_law_779 : decode (mC M_law) 779 = .ok (.iload_n 3, 1) := by decide +kernel
theorem DM_law_780 : decode (mC M_law) 780 = .ok (.iconst 1, 1) := by decide +kernel
theorem DM_law_781 : decode (mC M_law) 781 = .ok (.iadd, 1) := by decide +kernel
theorem DM_law_782 : decode (mC M_law) 782 = .ok (.iaload, 1) := by decide +kernel
theorem DM_law_783 : decode (mC M_law) 783 = .ok (.invokevirtual 102, 3) := by decide +kernel
theorem DM_law_786 : decode (mC M_law) 786 = .ok (.aload_n 2, 1) := by decide +kernel
theorem DM_law_787 : decode (mC M_law) 787 = .ok (.aload_n 0, 1) := by decide +kernel
theorem DM_law_788 : decode (mC M_law) 788 = .ok (.iload_n 3, 1) := by decide +kernel
theorem DM_law_789 : decode (mC M_law) 789 = .ok (.iconst 1, 1) := by decide +kernel
theorem DM_law_790 : decode (mC M_law) 790 = .ok (.iadd, 1) := by decide +kernel
theorem DM_law_791 : decode (mC M_law) 791 = .ok (.iaload, 1) := by decide +kernel
theorem DM_law_792 : decode (mC M_law) 792 = .ok (.invokevirtual 105, 3) := by decide +kernel
theorem DM_law_795 : decode (mC M_law) 795 = .ok (.if_icmp .eq 176, 3) := by decide +kernel
theorem DM_law_798 : decode (mC M_law) 798 = .ok (.iconst 0, 1) := by decide +kernel
theorem DM_law_799 : decode (mC M_law) 799 = .ok (.ireturn, 1) := by decide +kernel
theorem DM_law_800 : decode (mC M_law) 800 = .ok (.aload_n 1, 1) := by decide +kernel
theorem DM_law_801 : decode (mC M_law) 801 = .ok (.aload_n 0, 1) := by decide +kernel
theorem DM_law_802 : decode (mC M_law) 802 = .ok (.iload_n 3, 1) := by decide +kernel
theorem DM_law_803 : decode (mC M_law) 803 = .ok (.iconst 1, 1) := by decide +kernel
theorem DM_law_804 : decode (mC M_law) 804 = .ok (.iadd, 1) := by decide +kernel
theorem DM_law_805 : decode (mC M_law) 805 = .ok (.iaload, 1) := by decide +kernel
theorem DM_law_806 : decode (mC M_law) 806 = .ok (.invokevirtual 106, 3) := by decide +kernel
theorem DM_law_809 : decode (mC M_law) 809 = .ok (.aload_n 2, 1) := by decide +kernel
theorem DM_law_810 : decode (mC M_law) 810 = .ok (.aload_n 0, 1) := by decide +kernel
theorem DM_law_811 : decode (mC M_law) 811 = .ok (.iload_n 3, 1) := by decide +kernel
theorem DM_law_812 : decode (mC M_law) 812 = .ok (.iconst 1, 1) := by decide +kernel
theorem DM_law_813 : decode (mC M_law) 813 = .ok (.iadd, 1) := by decide +kernel
theorem DM_law_814 : decode (mC M_law) 814 = .ok (.iaload, 1) := by decide +kernel
theorem DM_law_815 : decode (mC M_law) 815 = .ok (.invokevirtual 109, 3) := by decide +kernel
theorem DM_law_818 : decode (mC M_law) 818 = .ok (.if_icmp .eq 153, 3) := by decide +kernel
theorem DM_law_821 : decode (mC M_law) 821 = .ok (.iconst 0, 1) := by decide +kernel
theorem DM_law_822 : decode (mC M_law) 822 = .ok (.ireturn, 1) := by decide +kernel
theorem DM_law_823 : decode (mC M_law) 823 = .ok (.aload_n 1, 1) := by decide +kernel
theorem DM_law_824 : decode (mC M_law) 824 = .ok (.aload_n 0, 1) := by decide +kernel
theorem DM_law_825 : decode (mC M_law) 825 = .ok (.iload_n 3, 1) := by decide +kernel
theorem DM_law_826 : decode (mC M_law) 826 = .ok (.iconst 1, 1) := by decide +kernel
theorem DM_law_827 : decode (mC M_law) 827 = .ok (.iadd, 1) := by decide +kernel
theorem DM_law_828 : decode (mC M_law) 828 = .ok (.iaload, 1) := by decide +kernel
theorem DM_law_829 : decode (mC M_law) 829 = .ok (.invokevirtual 110, 3) := by decide +kernel
theorem DM_law_832 : decode (mC M_law) 832 = .ok (.aload_n 2, 1) := by decide +kernel
theorem DM_law_833 : decode (mC M_law) 833 = .ok (.aload_n 0, 1) := by decide +kernel
theorem DM_law_834 : decode (mC M_law) 834 = .ok (.iload_n 3, 1) := by decide +kernel
theorem DM_law_835 : decode (mC M_law) 835 = .ok (.iconst 1, 1) := by decide +kernel
theorem DM_law_836 : decode (mC M_law) 836 = .ok (.iadd, 1) := by decide +kernel
theorem DM_law_837 : decode (mC M_law) 837 = .ok (.iaload, 1) := by decide +kernel
theorem DM_law_838 : decode (mC M_law) 838 = .ok (.invokevirtual 113, 3) := by decide +kernel
theorem DM_law_841 : decode (mC M_law) 841 = .ok (.if_icmp .eq 130, 3) := by decide +kernel
theorem DM_law_844 : decode (mC M_law) 844 = .ok (.iconst 0, 1) := by decide +kernel
theorem DM_law_845 : decode (mC M_law) 845 = .ok (.ireturn, 1) := by decide +kernel
theorem DM_law_846 : decode (mC M_law) 846 = .ok (.aload_n 1, 1) := by decide +kernel
theorem DM_law_847 : decode (mC M_law) 847 = .ok (.aload_n 0, 1) := by decide +kernel
theorem DM_law_848 : decode (mC M_law) 848 = .ok (.iload_n 3, 1) := by decide +kernel
theorem DM_law_849 : decode (mC M_law) 849 = .ok (.iconst 1, 1) := by decide +kernel
theorem DM_law_850 : decode (mC M_law) 850 = .ok (.iadd, 1) := by decide +kernel
theorem DM_law_851 : decode (mC M_law) 851 = .ok (.iaload, 1) := by decide +kernel
theorem DM_law_852 : decode (mC M_law) 852 = .ok (.aload_n 0, 1) := by decide +kernel
theorem DM_law_853 : decode (mC M_law) 853 = .ok (.iload_n 3, 1) := by decide +kernel
theorem DM_law_854 : decode (mC M_law) 854 = .ok (.iconst 2, 1) := by decide +kernel
theorem DM_law_855 : decode (mC M_law) 855 = .ok (.iadd, 1) := by decide +kernel
theorem DM_law_856 : decode (mC M_law) 856 = .ok (.iaload, 1) := by decide +kernel
theorem DM_law_857 : decode (mC M_law) 857 = .ok (.invokevirtual 114, 3) := by decide +kernel
theorem DM_law_860 : decode (mC M_law) 860 = .ok (.aload_n 2, 1) := by decide +kernel
theorem DM_law_861 : decode (mC M_law) 861 = .ok (.aload_n 0, 1) := by decide +kernel
theorem DM_law_862 : decode (mC M_law) 862 = .ok (.iload_n 3, 1) := by decide +kernel
theorem DM_law_863 : decode (mC M_law) 863 = .ok (.iconst 1, 1) := by decide +kernel
theorem DM_law_864 : decode (mC M_law) 864 = .ok (.iadd, 1) := by decide +kernel
theorem DM_law_865 : decode (mC M_law) 865 = .ok (.iaload, 1) := by decide +kernel
theorem DM_law_866 : decode (mC M_law) 866 = .ok (.aload_n 0, 1) := by decide +kernel
theorem DM_law_867 : decode (mC M_law) 867 = .ok (.iload_n 3, 1) := by decide +kernel
theorem DM_law_868 : decode (mC M_law) 868 = .ok (.iconst 2, 1) := by decide +kernel
theorem DM_law_869 : decode (mC M_law) 869 = .ok (.iadd, 1) := by decide +kernel
theorem DM_law_870 : decode (mC M_law) 870 = .ok (.iaload, 1) := by decide +kernel
theorem DM_law_871 : decode (mC M_law) 871 = .ok (.invokevirtual 117, 3) := by decide +kernel
theorem DM_law_874 : decode (mC M_law) 874 = .ok (.if_icmp .eq 97, 3) := by decide +kernel
theorem DM_law_877 : decode (mC M_law) 877 = .ok (.iconst 0, 1) := by decide +kernel
theorem DM_law_878 : decode (mC M_law) 878 = .ok (.ireturn, 1) := by decide +kernel
theorem DM_law_879 : decode (mC M_law) 879 = .ok (.aload_n 1, 1) := by decide +kernel
theorem DM_law_880 : decode (mC M_law) 880 = .ok (.aload_n 0, 1) := by decide +kernel
theorem DM_law_881 : decode (mC M_law) 881 = .ok (.iload_n 3, 1) := by decide +kernel
theorem DM_law_882 : decode (mC M_law) 882 = .ok (.iconst 1, 1) := by decide +kernel
theorem DM_law_883 : decode (mC M_law) 883 = .ok (.iadd, 1) := by decide +kernel
theorem DM_law_884 : decode (mC M_law) 884 = .ok (.iaload, 1) := by decide +kernel
theorem DM_law_885 : decode (mC M_law) 885 = .ok (.aload_n 0, 1) := by decide +kernel
theorem DM_law_886 : decode (mC M_law) 886 = .ok (.iload_n 3, 1) := by decide +kernel
theorem DM_law_887 : decode (mC M_law) 887 = .ok (.iconst 2, 1) := by decide +kernel
theorem DM_law_888 : decode (mC M_law) 888 = .ok (.iadd, 1) := by decide +kernel
theorem DM_law_889 : decode (mC M_law) 889 = .ok (.iaload, 1) := by decide +kernel
theorem DM_law_890 : decode (mC M_law) 890 = .ok (.invokevirtual 118, 3) := by decide +kernel
theorem DM_law_893 : decode (mC M_law) 893 = .ok (.aload_n 2, 1) := by decide +kernel
theorem DM_law_894 : decode (mC M_law) 894 = .ok (.aload_n 0, 1) := by decide +kernel
theorem DM_law_895 : decode (mC M_law) 895 = .ok (.iload_n 3, 1) := by decide +kernel
theorem DM_law_896 : decode (mC M_law) 896 = .ok (.iconst 1, 1) := by decide +kernel
theorem DM_law_897 : decode (mC M_law) 897 = .ok (.iadd, 1) := by decide +kernel
theorem DM_law_898 : decode (mC M_law) 898 = .ok (.iaload, 1) := by decide +kernel
theorem DM_law_899 : decode (mC M_law) 899 = .ok (.aload_n 0, 1) := by decide +kernel
theorem DM_law_900 : decode (mC M_law) 900 = .ok (.iload_n 3, 1) := by decide +kernel
theorem DM_law_901 : decode (mC M_law) 901 = .ok (.iconst 2, 1) := by decide +kernel
theorem DM_law_902 : decode (mC M_law) 902 = .ok (.iadd, 1) := by decide +kernel
theorem DM_law_903 : decode (mC M_law) 903 = .ok (.iaload, 1) := by decide +kernel
theorem DM_law_904 : decode (mC M_law) 904 = .ok (.invokevirtual 121, 3) := by decide +kernel
theorem DM_law_907 : decode (mC M_law) 907 = .ok (.if_icmp .eq 64, 3) := by decide +kernel
theorem DM_law_910 : decode (mC M_law) 910 = .ok (.iconst 0, 1) := by decide +kernel
theorem DM_law_911 : decode (mC M_law) 911 = .ok (.ireturn, 1) := by decide +kernel
theorem DM_law_912 : decode (mC M_law) 912 = .ok (.aload_n 1, 1) := by decide +kernel
theorem DM_law_913 : decode (mC M_law) 913 = .ok (.aload_n 0, 1) := by decide +kernel
theorem DM_law_914 : decode (mC M_law) 914 = .ok (.iload_n 3, 1) := by decide +kernel
theorem DM_law_915 : decode (mC M_law) 915 = .ok (.iconst 1, 1) := by decide +kernel
theorem DM_law_916 : decode (mC M_law) 916 = .ok (.iadd, 1) := by decide +kernel
theorem DM_law_917 : decode (mC M_law) 917 = .ok (.iaload, 1) := by decide +kernel
theorem DM_law_918 : decode (mC M_law) 918 = .ok (.invokevirtual 122, 3) := by decide +kernel
theorem DM_law_921 : decode (mC M_law) 921 = .ok (.aload_n 2, 1) := by decide +kernel
theorem DM_law_922 : decode (mC M_law) 922 = .ok (.aload_n 0, 1) := by decide +kernel
theorem DM_law_923 : decode (mC M_law) 923 = .ok (.iload_n 3, 1) := by decide +kernel
theorem DM_law_924 : decode (mC M_law) 924 = .ok (.iconst 1, 1) := by decide +kernel
theorem DM_law_925 : decode (mC M_law) 925 = .ok (.iadd, 1) := by decide +kernel
theorem DM_law_926 : decode (mC M_law) 926 = .ok (.iaload, 1) := by decide +kernel
theorem DM_law_927 : decode (mC M_law) 927 = .ok (.invokevirtual 125, 3) := by decide +kernel
theorem DM_law_930 : decode (mC M_law) 930 = .ok (.if_icmp .eq 41, 3) := by decide +kernel
theorem DM_law_933 : decode (mC M_law) 933 = .ok (.iconst 0, 1) := by decide +kernel
theorem DM_law_934 : decode (mC M_law) 934 = .ok (.ireturn, 1) := by decide +kernel
theorem DM_law_935 : decode (mC M_law) 935 = .ok (.aload_n 1, 1) := by decide +kernel
theorem DM_law_936 : decode (mC M_law) 936 = .ok (.aload_n 0, 1) := by decide +kernel
theorem DM_law_937 : decode (mC M_law) 937 = .ok (.iload_n 3, 1) := by decide +kernel
theorem DM_law_938 : decode (mC M_law) 938 = .ok (.iconst 1, 1) := by decide +kernel
theorem DM_law_939 : decode (mC M_law) 939 = .ok (.iadd, 1) := by decide +kernel
theorem DM_law_940 : decode (mC M_law) 940 = .ok (.iaload, 1) := by decide +kernel
theorem DM_law_941 : decode (mC M_law) 941 = .ok (.invokevirtual 126, 3) := by decide +kernel
theorem DM_law_944 : decode (mC M_law) 944 = .ok (.aload_n 2, 1) := by decide +kernel
theorem DM_law_945 : decode (mC M_law) 945 = .ok (.aload_n 0, 1) := by decide +kernel
theorem DM_law_946 : decode (mC M_law) 946 = .ok (.iload_n 3, 1) := by decide +kernel
theorem DM_law_947 : decode (mC M_law) 947 = .ok (.iconst 1, 1) := by decide +kernel
theorem DM_law_948 : decode (mC M_law) 948 = .ok (.iadd, 1) := by decide +kernel
theorem DM_law_949 : decode (mC M_law) 949 = .ok (.iaload, 1) := by decide +kernel
theorem DM_law_950 : decode (mC M_law) 950 = .ok (.invokevirtual 129, 3) := by decide +kernel
theorem DM_law_953 : decode (mC M_law) 953 = .ok (.if_icmp .eq 18, 3) := by decide +kernel
theorem DM_law_956 : decode (mC M_law) 956 = .ok (.iconst 0, 1) := by decide +kernel
theorem DM_law_957 : decode (mC M_law) 957 = .ok (.ireturn, 1) := by decide +kernel
theorem DM_law_958 : decode (mC M_law) 958 = .ok (.aload_n 1, 1) := by decide +kernel
theorem DM_law_959 : decode (mC M_law) 959 = .ok (.invokevirtual 130, 3) := by decide +kernel
theorem DM_law_962 : decode (mC M_law) 962 = .ok (.aload_n 2, 1) := by decide +kernel
theorem DM_law_963 : decode (mC M_law) 963 = .ok (.invokevirtual 133, 3) := by decide +kernel
theorem DM_law_966 : decode (mC M_law) 966 = .ok (.if_icmp .eq 5, 3) := by decide +kernel
theorem DM_law_969 : decode (mC M_law) 969 = .ok (.iconst 0, 1) := by decide +kernel
theorem DM_law_970 : decode (mC M_law) 970 = .ok (.ireturn, 1) := by decide +kernel
theorem DM_law_971 : decode (mC M_law) 971 = .ok (.iinc 3 6, 3) := by decide +kernel
theorem DM_law_974 : decode (mC M_law) 974 = .ok (.goto (-956), 3) := by decide +kernel
theorem DM_law_977 : decode (mC M_law) 977 = .ok (.iconst 1, 1) := by decide +kernel
theorem DM_law_978 : decode (mC M_law) 978 = .ok (.ireturn, 1) := by decide +kernel
