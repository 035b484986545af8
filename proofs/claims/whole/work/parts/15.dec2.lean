theorem DM_X7_days_83 : decode (mC M_X7_days) 83 = .ok (.getfield 39, 3) := by decide +kernel
theorem DM_X7_days_86 : decode (mC M_X7_days) 86 = .ok (.invokevirtual 151, 3) := by decide +kernel
theorem DM_X7_days_89 : decode (mC M_X7_days) 89 = .ok (.iinc 2 1, 3) := by decide +kernel
theorem DM_X7_days_92 : decode (mC M_X7_days) 92 = .ok (.goto (-15), 3) := by decide +kernel
theorem DM_X7_days_95 : decode (mC M_X7_days) 95 = .ok (.aload_n 0, 1) := by decide +kernel
theorem DM_X7_days_96 : decode (mC M_X7_days) 96 = .ok (.getfield 25, 3) := by decide +kernel
theorem DM_X7_days_99 : decode (mC M_X7_days) 99 = .ok (.iconst 0, 1) := by decide +kernel
theorem DM_X7_days_100 : decode (mC M_X7_days) 100 = .ok (.invokevirtual 154, 3) := by decide +kernel
theorem DM_X7_days_103 : decode (mC M_X7_days) 103 = .ok (.ireturn, 1) := by decide +kernel
theorem DM_X7_forge_0 : decode (mC M_X7_forge) 0 = .ok (.aload_n 0, 1) := by decide +kernel
theorem DM_X7_forge_1 : decode (mC M_X7_forge) 1 = .ok (.iload_n 1, 1) := by decide +kernel
theorem DM_X7_forge_2 : decode (mC M_X7_forge) 2 = .ok (.iload_n 2, 1) := by decide +kernel
theorem DM_X7_forge_3 : decode (mC M_X7_forge) 3 = .ok (.invokevirtual 157, 3) := by decide +kernel
theorem DM_X7_forge_6 : decode (mC M_X7_forge) 6 = .ok (.ifCond .eq 12, 3) := by decide +kernel
theorem DM_X7_forge_9 : decode (mC M_X7_forge) 9 = .ok (.iload_n 3, 1) := by decide +kernel
theorem DM_X7_forge_10 : decode (mC M_X7_forge) 10 = .ok (.bipush 8, 2) := by decide +kernel
theorem DM_X7_forge_12 : decode (mC M_X7_forge) 12 = .ok (.invokestatic 65, 3) := by decide +kernel
theorem DM_X7_forge_15 : decode (mC M_X7_forge) 15 = .ok (.ifCond .ne 6, 3) := by decide +kernel
theorem DM_X7_forge_18 : decode (mC M_X7_forge) 18 = .ok (.ldc 69, 2) := by decide +kernel
theorem DM_X7_forge_20 : decode (mC M_X7_forge) 20 = .ok (.ireturn, 1) := by decide +kernel
theorem DM_X7_forge_21 : decode (mC M_X7_forge) 21 = .ok (.aload_n 0, 1) := by decide +kernel
theorem DM_X7_forge_22 : decode (mC M_X7_forge) 22 = .ok (.getfield 25, 3) := by decide +kernel
theorem DM_X7_forge_25 : decode (mC M_X7_forge) 25 = .ok (.iload_n 1, 1) := by decide +kernel
theorem DM_X7_forge_26 : decode (mC M_X7_forge) 26 = .ok (.iload_n 2, 1) := by decide +kernel
theorem DM_X7_forge_27 : decode (mC M_X7_forge) 27 = .ok (.invokevirtual 160, 3) := by decide +kernel
theorem DM_X7_forge_30 : decode (mC M_X7_forge) 30 = .ok (.istore 4, 2) := by decide +kernel
theorem DM_X7_forge_32 : decode (mC M_X7_forge) 32 = .ok (.aload_n 0, 1) := by decide +kernel
theorem DM_X7_forge_33 : decode (mC M_X7_forge) 33 = .ok (.getfield 25, 3) := by decide +kernel
theorem DM_X7_forge_36 : decode (mC M_X7_forge) 36 = .ok (.getfield 164, 3) := by decide +kernel
theorem DM_X7_forge_39 : decode (mC M_X7_forge) 39 = .ok (.iload_n 1, 1) := by decide +kernel
theorem DM_X7_forge_40 : decode (mC M_X7_forge) 40 = .ok (.iaload, 1) := by decide +kernel
theorem DM_X7_forge_41 : decode (mC M_X7_forge) 41 = .ok (.iconst 3, 1) := by decide +kernel
theorem DM_X7_forge_42 : decode (mC M_X7_forge) 42 = .ok (.if_icmp .ne 27, 3) := by decide +kernel
theorem DM_X7_forge_45 : decode (mC M_X7_forge) 45 = .ok (.aload_n 0, 1) := by decide +kernel
theorem DM_X7_forge_46 : decode (mC M_X7_forge) 46 = .ok (.getfield 25, 3) := by decide +kernel
theorem DM_X7_forge_49 : decode (mC M_X7_forge) 49 = .ok (.iload_n 1, 1) := by decide +kernel
theorem DM_X7_forge_50 : decode (mC M_X7_forge) 50 = .ok (.aload_n 0, 1) := by decide +kernel
theorem DM_X7_forge_51 : decode (mC M_X7_forge) 51 = .ok (.getfield 25, 3) := by decide +kernel
theorem DM_X7_forge_54 : decode (mC M_X7_forge) 54 = .ok (.getfield 145, 3) := by decide +kernel
theorem DM_X7_forge_57 : decode (mC M_X7_forge) 57 = .ok (.invokevirtual 167, 3) := by decide +kernel
theorem DM_X7_forge_60 : decode (mC M_X7_forge) 60 = .ok (.ifCond .eq 9, 3) := by decide +kernel
theorem DM_X7_forge_63 : decode (mC M_X7_forge) 63 = .ok (.iload 4, 2) := by decide +kernel
theorem DM_X7_forge_65 : decode (mC M_X7_forge) 65 = .ok (.iload_n 3, 1) := by decide +kernel
theorem DM_X7_forge_66 : decode (mC M_X7_forge) 66 = .ok (.if_icmp .ne 6, 3) := by decide +kernel
theorem DM_X7_forge_69 : decode (mC M_X7_forge) 69 = .ok (.ldc 144, 2) := by decide +kernel
theorem DM_X7_forge_71 : decode (mC M_X7_forge) 71 = .ok (.ireturn, 1) := by decide +kernel
theorem DM_X7_forge_72 : decode (mC M_X7_forge) 72 = .ok (.aload_n 0, 1) := by decide +kernel
theorem DM_X7_forge_73 : decode (mC M_X7_forge) 73 = .ok (.getfield 25, 3) := by decide +kernel
theorem DM_X7_forge_76 : decode (mC M_X7_forge) 76 = .ok (.iload_n 1, 1) := by decide +kernel
theorem DM_X7_forge_77 : decode (mC M_X7_forge) 77 = .ok (.iload_n 2, 1) := by decide +kernel
theorem DM_X7_forge_78 : decode (mC M_X7_forge) 78 = .ok (.iload_n 3, 1) := by decide +kernel
theorem DM_X7_forge_79 : decode (mC M_X7_forge) 79 = .ok (.invokevirtual 170, 3) := by decide +kernel
theorem DM_X7_forge_82 : decode (mC M_X7_forge) 82 = .ok (.aload_n 0, 1) := by decide +kernel
theorem DM_X7_forge_83 : decode (mC M_X7_forge) 83 = .ok (.getfield 39, 3) := by decide +kernel
theorem DM_X7_forge_86 : decode (mC M_X7_forge) 86 = .ok (.iload_n 1, 1) := by decide +kernel
theorem DM_X7_forge_87 : decode (mC M_X7_forge) 87 = .ok (.iload_n 2, 1) := by decide +kernel
theorem DM_X7_forge_88 : decode (mC M_X7_forge) 88 = .ok (.iload 4, 2) := by decide +kernel
theorem DM_X7_forge_90 : decode (mC M_X7_forge) 90 = .ok (.invokevirtual 174, 3) := by decide +kernel
theorem DM_X7_forge_93 : decode (mC M_X7_forge) 93 = .ok (.iload 4, 2) := by decide +kernel
theorem DM_X7_forge_95 : decode (mC M_X7_forge) 95 = .ok (.ireturn, 1) := by decide +kernel
theorem DM_X7_lose_0 : decode (mC M_X7_lose) 0 = .ok (.aload_n 0, 1) := by decide +kernel
theorem DM_X7_lose_1 : decode (mC M_X7_lose) 1 = .ok (.getfield 25, 3) := by decide +kernel
theorem DM_X7_lose_4 : decode (mC M_X7_lose) 4 = .ok (.getfield 140, 3) := by decide +kernel
theorem DM_X7_lose_7 : decode (mC M_X7_lose) 7 = .ok (.ifCond .ne 6, 3) := by decide +kernel
theorem DM_X7_lose_10 : decode (mC M_X7_lose) 10 = .ok (.ldc 144, 2) := by decide +kernel
theorem DM_X7_lose_12 : decode (mC M_X7_lose) 12 = .ok (.ireturn, 1) := by decide +kernel
theorem DM_X7_lose_13 : decode (mC M_X7_lose) 13 = .ok (.iload_n 1, 1) := by decide +kernel
theorem DM_X7_lose_14 : decode (mC M_X7_lose) 14 = .ok (.bipush 8, 2) := by decide +kernel
theorem DM_X7_lose_16 : decode (mC M_X7_lose) 16 = .ok (.invokestatic 65, 3) := by decide +kernel
theorem DM_X7_lose_19 : decode (mC M_X7_lose) 19 = .ok (.ifCond .eq 11, 3) := by decide +kernel
theorem DM_X7_lose_22 : decode (mC M_X7_lose) 22 = .ok (.iload_n 2, 1) := by decide +kernel
theorem DM_X7_lose_23 : decode (mC M_X7_lose) 23 = .ok (.iconst 2, 1) := by decide +kernel
theorem DM_X7_lose_24 : decode (mC M_X7_lose) 24 = .ok (.invokestatic 65, 3) := by decide +kernel
theorem DM_X7_lose_27 : decode (mC M_X7_lose) 27 = .ok (.ifCond .ne 6, 3) := by decide +kernel
theorem DM_X7_lose_30 : decode (mC M_X7_lose) 30 = .ok (.ldc 69, 2) := by decide +kernel
theorem DM_X7_lose_32 : decode (mC M_X7_lose) 32 = .ok (.ireturn, 1) := by decide +kernel
theorem DM_X7_lose_33 : decode (mC M_X7_lose) 33 = .ok (.aload_n 0, 1) := by decide +kernel
theorem DM_X7_lose_34 : decode (mC M_X7_lose) 34 = .ok (.getfield 25, 3) := by decide +kernel
theorem DM_X7_lose_37 : decode (mC M_X7_lose) 37 = .ok (.getfield 177, 3) := by decide +kernel
theorem DM_X7_lose_40 : decode (mC M_X7_lose) 40 = .ok (.iload_n 1, 1) := by decide +kernel
theorem DM_X7_lose_41 : decode (mC M_X7_lose) 41 = .ok (.ishr, 1) := by decide +kernel
theorem DM_X7_lose_42 : decode (mC M_X7_lose) 42 = .ok (.iconst 1, 1) := by decide +kernel
theorem DM_X7_lose_43 : decode (mC M_X7_lose) 43 = .ok (.iand, 1) := by decide +kernel
theorem DM_X7_lose_44 : decode (mC M_X7_lose) 44 = .ok (.iload_n 2, 1) := by decide +kernel
theorem DM_X7_lose_45 : decode (mC M_X7_lose) 45 = .ok (.if_icmp .ne 6, 3) := by decide +kernel
theorem DM_X7_lose_48 : decode (mC M_X7_lose) 48 = .ok (.ldc 144, 2) := by decide +kernel
theorem DM_X7_lose_50 : decode (mC M_X7_lose) 50 = .ok (.ireturn, 1) := by decide +kernel
theorem DM_X7_lose_51 : decode (mC M_X7_lose) 51 = .ok (.aload_n 0, 1) := by decide +kernel
theorem DM_X7_lose_52 : decode (mC M_X7_lose) 52 = .ok (.getfield 25, 3) := by decide +kernel
theorem DM_X7_lose_55 : decode (mC M_X7_lose) 55 = .ok (.dup, 1) := by decide +kernel
theorem DM_X7_lose_56 : decode (mC M_X7_lose) 56 = .ok (.getfield 177, 3) := by decide +kernel
theorem DM_X7_lose_59 : decode (mC M_X7_lose) 59 = .ok (.iconst 1, 1) := by decide +kernel
theorem DM_X7_lose_60 : decode (mC M_X7_lose) 60 = .ok (.iload_n 1, 1) := by decide +kernel
theorem DM_X7_lose_61 : decode (mC M_X7_lose) 61 = .ok (.ishl, 1) := by decide +kernel
theorem DM_X7_lose_62 : decode (mC M_X7_lose) 62 = .ok (.ixor, 1) := by decide +kernel
theorem DM_X7_lose_63 : decode (mC M_X7_lose) 63 = .ok (.putfield 177, 3) := by decide +kernel
theorem DM_X7_lose_66 : decode (mC M_X7_lose) 66 = .ok (.aload_n 0, 1) := by decide +kernel
theorem DM_X7_lose_67 : decode (mC M_X7_lose) 67 = .ok (.getfield 39, 3) := by decide +kernel
theorem DM_X7_lose_70 : decode (mC M_X7_lose) 70 = .ok (.iload_n 1, 1) := by decide +kernel
theorem DM_X7_lose_71 : decode (mC M_X7_lose) 71 = .ok (.invokevirtual 180, 3) := by decide +kernel
theorem DM_X7_lose_74 : decode (mC M_X7_lose) 74 = .ok (.iconst 1, 1) := by decide +kernel
theorem DM_X7_lose_75 : decode (mC M_X7_lose) 75 = .ok (.ireturn, 1) := by decide +kernel
theorem DM_X7_undo_0 : decode (mC M_X7_undo) 0 = .ok (.aload_n 0, 1) := by decide +kernel
theorem DM_X7_undo_1 : decode (mC M_X7_undo) 1 = .ok (.getfield 39, 3) := by decide +kernel
theorem DM_X7_undo_4 : decode (mC M_X7_undo) 4 = .ok (.getfield 183, 3) := by decide +kernel
theorem DM_X7_undo_7 : decode (mC M_X7_undo) 7 = .ok (.ifCond .ne 6, 3) := by decide +kernel
theorem DM_X7_undo_10 : decode (mC M_X7_undo) 10 = .ok (.ldc 144, 2) := by decide +kernel
theorem DM_X7_undo_12 : decode (mC M_X7_undo) 12 = .ok (.ireturn, 1) := by decide +kernel
theorem DM_X7_undo_13 : decode (mC M_X7_undo) 13 = .ok (.aload_n 0, 1) := by decide +kernel
theorem DM_X7_undo_14 : decode (mC M_X7_undo) 14 = .ok (.getfield 39, 3) := by decide +kernel
theorem DM_X7_undo_17 : decode (mC M_X7_undo) 17 = .ok (.aload_n 0, 1) := by decide +kernel
theorem DM_X7_undo_18 : decode (mC M_X7_undo) 18 = .ok (.getfield 25, 3) := by decide +kernel
theorem DM_X7_undo_21 : decode (mC M_X7_undo) 21 = .ok (.invokevirtual 184, 3) := by decide +kernel
theorem DM_X7_undo_24 : decode (mC M_X7_undo) 24 = .ok (.aload_n 0, 1) := by decide +kernel
theorem DM_X7_undo_25 : decode (mC M_X7_undo) 25 = .ok (.getfield 39, 3) := by decide +kernel
theorem DM_X7_undo_28 : decode (mC M_X7_undo) 28 = .ok (.getfield 183, 3) := by decide +kernel
theorem DM_X7_undo_31 : decode (mC M_X7_undo) 31 = .ok (.ireturn, 1) := by decide +kernel
theorem DM_X7_person_0 : decode (mC M_X7_person) 0 = .ok (.aload_n 0, 1) := by decide +kernel
theorem DM_X7_person_1 : decode (mC M_X7_person) 1 = .ok (.iload_n 1, 1) := by decide +kernel
theorem DM_X7_person_2 : decode (mC M_X7_person) 2 = .ok (.invokevirtual 187, 3) := by decide +kernel
theorem DM_X7_person_5 : decode (mC M_X7_person) 5 = .ok (.ifCond .ne 6, 3) := by decide +kernel
theorem DM_X7_person_8 : decode (mC M_X7_person) 8 = .ok (.ldc 69, 2) := by decide +kernel
theorem DM_X7_person_10 : decode (mC M_X7_person) 10 = .ok (.ireturn, 1) := by decide +kernel
theorem DM_X7_person_11 : decode (mC M_X7_person) 11 = .ok (.iload_n 2, 1) := by decide +kernel
theorem DM_X7_person_12 : decode (mC M_X7_person) 12 = .ok (.tableswitch 144 0 5 #[40, 50, 60, 70, 79, 112], 40) := by decide +kernel
theorem DM_X7_person_52 : decode (mC M_X7_person) 52 = .ok (.aload_n 0, 1) := by decide +kernel
theorem DM_X7_person_53 : decode (mC M_X7_person) 53 = .ok (.getfield 25, 3) := by decide +kernel
theorem DM_X7_person_56 : decode (mC M_X7_person) 56 = .ok (.getfield 191, 3) := by decide +kernel
theorem DM_X7_person_59 : decode (mC M_X7_person) 59 = .ok (.iload_n 1, 1) := by decide +kernel
theorem DM_X7_person_60 : decode (mC M_X7_person) 60 = .ok (.iaload, 1) := by decide +kernel
theorem DM_X7_person_61 : decode (mC M_X7_person) 61 = .ok (.ireturn, 1) := by decide +kernel
theorem DM_X7_person_62 : decode (mC M_X7_person) 62 = .ok (.aload_n 0, 1) := by decide +kernel
theorem DM_X7_person_63 : decode (mC M_X7_person) 63 = .ok (.getfield 25, 3) := by decide +kernel
theorem DM_X7_person_66 : decode (mC M_X7_person) 66 = .ok (.getfield 194, 3) := by decide +kernel
theorem DM_X7_person_69 : decode (mC M_X7_person) 69 = .ok (.iload_n 1, 1) := by decide +kernel
theorem DM_X7_person_70 : decode (mC M_X7_person) 70 = .ok (.iaload, 1) := by decide +kernel
theorem DM_X7_person_71 : decode (mC M_X7_person) 71 = .ok (.ireturn, 1) := by decide +kernel
theorem DM_X7_person_72 : decode (mC M_X7_person) 72 = .ok (.aload_n 0, 1) := by decide +kernel
theorem DM_X7_person_73 : decode (mC M_X7_person) 73 = .ok (.getfield 25, 3) := by decide +kernel
theorem DM_X7_person_76 : decode (mC M_X7_person) 76 = .ok (.getfield 197, 3) := by decide +kernel
theorem DM_X7_person_79 : decode (mC M_X7_person) 79 = .ok (.iload_n 1, 1) := by decide +kernel
theorem DM_X7_person_80 : decode (mC M_X7_person) 80 = .ok (.iaload, 1) := by decide +kernel
theorem DM_X7_person_81 : decode (mC M_X7_person) 81 = .ok (.ireturn, 1) := by decide +kernel
theorem DM_X7_person_82 : decode (mC M_X7_person) 82 = .ok (.aload_n 0, 1) := by decide +kernel
theorem DM_X7_person_83 : decode (mC M_X7_person) 83 = .ok (.getfield 25, 3) := by decide +kernel
theorem DM_X7_person_86 : decode (mC M_X7_person) 86 = .ok (.iload_n 1, 1) := by decide +kernel
theorem DM_X7_person_87 : decode (mC M_X7_person) 87 = .ok (.invokevirtual 200, 3) := by decide +kernel
theorem DM_X7_person_90 : decode (mC M_X7_person) 90 = .ok (.ireturn, 1) := by decide +kernel
theorem DM_X7_person_91 : decode (mC M_X7_person) 91 = .ok (.aload_n 0, 1) := by decide +kernel
theorem DM_X7_person_92 : decode (mC M_X7_person) 92 = .ok (.getfield 25, 3) := by decide +kernel
theorem DM_X7_person_95 : decode (mC M_X7_person) 95 = .ok (.iload_n 1, 1) := by decide +kernel
theorem DM_X7_person_96 : decode (mC M_X7_person) 96 = .ok (.invokevirtual 200, 3) := by decide +kernel
theorem DM_X7_person_99 : decode (mC M_X7_person) 99 = .ok (.iconst 1, 1) := by decide +kernel
theorem DM_X7_person_100 : decode (mC M_X7_person) 100 = .ok (.if_icmp .ne 22, 3) := by decide +kernel
theorem DM_X7_person_103 : decode (mC M_X7_person) 103 = .ok (.aload_n 0, 1) := by decide +kernel
theorem DM_X7_person_104 : decode (mC M_X7_person) 104 = .ok (.getfield 25, 3) := by decide +kernel
theorem DM_X7_person_107 : decode (mC M_X7_person) 107 = .ok (.iload_n 1, 1) := by decide +kernel
theorem DM_X7_person_108 : decode (mC M_X7_person) 108 = .ok (.invokevirtual 203, 3) := by decide +kernel
theorem DM_X7_person_111 : decode (mC M_X7_person) 111 = .ok (.aload_n 0, 1) := by decide +kernel
theorem DM_X7_person_112 : decode (mC M_X7_person) 112 = .ok (.getfield 25, 3) := by decide +kernel
theorem DM_X7_person_115 : decode (mC M_X7_person) 115 = .ok (.getfield 145, 3) := by decide +kernel
theorem DM_X7_person_118 : decode (mC M_X7_person) 118 = .ok (.isub, 1) := by decide +kernel
theorem DM_X7_person_119 : decode (mC M_X7_person) 119 = .ok (.goto 4, 3) := by decide +kernel
theorem DM_X7_person_122 : decode (mC M_X7_person) 122 = .ok (.iconst 0, 1) := by decide +kernel
theorem DM_X7_person_123 : decode (mC M_X7_person) 123 = .ok (.ireturn, 1) := by decide +kernel
theorem DM_X7_person_124 : decode (mC M_X7_person) 124 = .ok (.aload_n 0, 1) := by decide +kernel
theorem DM_X7_person_125 : decode (mC M_X7_person) 125 = .ok (.getfield 25, 3) := by decide +kernel
theorem DM_X7_person_128 : decode (mC M_X7_person) 128 = .ok (.iload_n 1, 1) := by decide +kernel
theorem DM_X7_person_129 : decode (mC M_X7_person) 129 = .ok (.aload_n 0, 1) := by decide +kernel
theorem DM_X7_person_130 : decode (mC M_X7_person) 130 = .ok (.getfield 25, 3) := by decide +kernel
theorem DM_X7_person_133 : decode (mC M_X7_person) 133 = .ok (.getfield 145, 3) := by decide +kernel
theorem DM_X7_person_136 : decode (mC M_X7_person) 136 = .ok (.invokevirtual 167, 3) := by decide +kernel
theorem DM_X7_person_139 : decode (mC M_X7_person) 139 = .ok (.ifCond .eq 14, 3) := by decide +kernel
theorem DM_X7_person_142 : decode (mC M_X7_person) 142 = .ok (.aload_n 0, 1) := by decide +kernel
theorem DM_X7_person_143 : decode (mC M_X7_person) 143 = .ok (.getfield 25, 3) := by decide +kernel
theorem DM_X7_person_146 : decode (mC M_X7_person) 146 = .ok (.iload_n 1, 1) := by decide +kernel
theorem DM_X7_person_147 : decode (mC M_X7_person) 147 = .ok (.invokevirtual 206, 3) := by decide +kernel
theorem DM_X7_person_150 : decode (mC M_X7_person) 150 = .ok (.goto 5, 3) := by decide +kernel
theorem DM_X7_person_153 : decode (mC M_X7_person) 153 = .ok (.ldc 209, 2) := by decide +kernel
theorem DM_X7_person_155 : decode (mC M_X7_person) 155 = .ok (.ireturn, 1) := by decide +kernel
theorem DM_X7_person_156 : decode (mC M_X7_person) 156 = .ok (.ldc 69, 2) := by decide +kernel
theorem DM_X7_person_158 : decode (mC M_X7_person) 158 = .ok (.ireturn, 1) := by decide +kernel
theorem DM_X7_name_0 : decode (mC M_X7_name) 0 = .ok (.aload_n 0, 1) := by decide +kernel
theorem DM_X7_name_1 : decode (mC M_X7_name) 1 = .ok (.iload_n 1, 1) := by decide +kernel
theorem DM_X7_name_2 : decode (mC M_X7_name) 2 = .ok (.iload_n 2, 1) := by decide +kernel
theorem DM_X7_name_3 : decode (mC M_X7_name) 3 = .ok (.invokevirtual 157, 3) := by decide +kernel
theorem DM_X7_name_6 : decode (mC M_X7_name) 6 = .ok (.ifCond .eq 15, 3) := by decide +kernel
theorem DM_X7_name_9 : decode (mC M_X7_name) 9 = .ok (.aload_n 0, 1) := by decide +kernel
theorem DM_X7_name_10 : decode (mC M_X7_name) 10 = .ok (.getfield 25, 3) := by decide +kernel
theorem DM_X7_name_13 : decode (mC M_X7_name) 13 = .ok (.iload_n 1, 1) := by decide +kernel
theorem DM_X7_name_14 : decode (mC M_X7_name) 14 = .ok (.iload_n 2, 1) := by decide +kernel
theorem DM_X7_name_15 : decode (mC M_X7_name) 15 = .ok (.invokevirtual 160, 3) := by decide +kernel
theorem DM_X7_name_18 : decode (mC M_X7_name) 18 = .ok (.goto 5, 3) := by decide +kernel
theorem DM_X7_name_21 : decode (mC M_X7_name) 21 = .ok (.ldc 69, 2) := by decide +kernel
theorem DM_X7_name_23 : decode (mC M_X7_name) 23 = .ok (.ireturn, 1) := by decide +kernel
theorem DM_X7_order_0 : decode (mC M_X7_order) 0 = .ok (.aload_n 0, 1) := by decide +kernel
theorem DM_X7_order_1 : decode (mC M_X7_order) 1 = .ok (.getfield 25, 3) := by decide +kernel
theorem DM_X7_order_4 : decode (mC M_X7_order) 4 = .ok (.getfield 140, 3) := by decide +kernel
theorem DM_X7_order_7 : decode (mC M_X7_order) 7 = .ok (.ifCond .ne 6, 3) := by decide +kernel
theorem DM_X7_order_10 : decode (mC M_X7_order) 10 = .ok (.ldc 144, 2) := by decide +kernel
theorem DM_X7_order_12 : decode (mC M_X7_order) 12 = .ok (.ireturn, 1) := by decide +kernel
theorem DM_X7_order_13 : decode (mC M_X7_order) 13 = .ok (.iload_n 1, 1) := by decide +kernel
theorem DM_X7_order_14 : decode (mC M_X7_order) 14 = .ok (.bipush 8, 2) := by decide +kernel
theorem DM_X7_order_16 : decode (mC M_X7_order) 16 = .ok (.invokestatic 65, 3) := by decide +kernel
theorem DM_X7_order_19 : decode (mC M_X7_order) 19 = .ok (.ifCond .eq 29, 3) := by decide +kernel
theorem DM_X7_order_22 : decode (mC M_X7_order) 22 = .ok (.aload_n 0, 1) := by decide +kernel
theorem DM_X7_order_23 : decode (mC M_X7_order) 23 = .ok (.getfield 25, 3) := by decide +kernel
theorem DM_X7_order_26 : decode (mC M_X7_order) 26 = .ok (.iload_n 1, 1) := by decide +kernel
theorem DM_X7_order_27 : decode (mC M_X7_order) 27 = .ok (.aload_n 0, 1) := by decide +kernel
theorem DM_X7_order_28 : decode (mC M_X7_order) 28 = .ok (.getfield 25, 3) := by decide +kernel
theorem DM_X7_order_31 : decode (mC M_X7_order) 31 = .ok (.aload_n 0, 1) := by decide +kernel
theorem DM_X7_order_32 : decode (mC M_X7_order) 32 = .ok (.getfield 25, 3) := by decide +kernel
theorem DM_X7_order_35 : decode (mC M_X7_order) 35 = .ok (.getfield 145, 3) := by decide +kernel
theorem DM_X7_order_38 : decode (mC M_X7_order) 38 = .ok (.iconst 0, 1) := by decide +kernel
theorem DM_X7_order_39 : decode (mC M_X7_order) 39 = .ok (.invokevirtual 210, 3) := by decide +kernel
theorem DM_X7_order_42 : decode (mC M_X7_order) 42 = .ok (.invokevirtual 213, 3) := by decide +kernel
theorem DM_X7_order_45 : decode (mC M_X7_order) 45 = .ok (.goto 5, 3) := by decide +kernel
theorem DM_X7_order_48 : decode (mC M_X7_order) 48 = .ok (.ldc 69, 2) := by decide +kernel
theorem DM_X7_order_50 : decode (mC M_X7_order) 50 = .ok (.ireturn, 1) := by decide +kernel
theorem DM_X7_when_0 : decode (mC M_X7_when) 0 = .ok (.aload_n 0, 1) := by decide +kernel
theorem DM_X7_when_1 : decode (mC M_X7_when) 1 = .ok (.iload_n 1, 1) := by decide +kernel
theorem DM_X7_when_2 : decode (mC M_X7_when) 2 = .ok (.invokevirtual 187, 3) := by decide +kernel
theorem DM_X7_when_5 : decode (mC M_X7_when) 5 = .ok (.ifCond .eq 11, 3) := by decide +kernel
theorem DM_X7_when_8 : decode (mC M_X7_when) 8 = .ok (.iload_n 2, 1) := by decide +kernel
theorem DM_X7_when_9 : decode (mC M_X7_when) 9 = .ok (.iconst 3, 1) := by decide +kernel
theorem DM_X7_when_10 : decode (mC M_X7_when) 10 = .ok (.invokestatic 65, 3) := by decide +kernel
theorem DM_X7_when_13 : decode (mC M_X7_when) 13 = .ok (.ifCond .ne 6, 3) := by decide +kernel
theorem DM_X7_when_16 : decode (mC M_X7_when) 16 = .ok (.ldc 69, 2) := by decide +kernel
theorem DM_X7_when_18 : decode (mC M_X7_when) 18 = .ok (.ireturn, 1) := by decide +kernel
theorem DM_X7_when_19 : decode (mC M_X7_when) 19 = .ok (.aload_n 0, 1) := by decide +kernel
theorem DM_X7_when_20 : decode (mC M_X7_when) 20 = .ok (.iconst 0, 1) := by decide +kernel
theorem DM_X7_when_21 : decode (mC M_X7_when) 21 = .ok (.invokevirtual 216, 3) := by decide +kernel
theorem DM_X7_when_24 : decode (mC M_X7_when) 24 = .ok (.astore_n 3, 1) := by decide +kernel
theorem DM_X7_when_25 : decode (mC M_X7_when) 25 = .ok (.iload_n 2, 1) := by decide +kernel
theorem DM_X7_when_26 : decode (mC M_X7_when) 26 = .ok (.iconst 2, 1) := by decide +kernel
theorem DM_X7_when_27 : decode (mC M_X7_when) 27 = .ok (.if_icmp .ne 23, 3) := by decide +kernel
theorem DM_X7_when_30 : decode (mC M_X7_when) 30 = .ok (.aload_n 3, 1) := by decide +kernel
theorem DM_X7_when_31 : decode (mC M_X7_when) 31 = .ok (.iload_n 1, 1) := by decide +kernel
theorem DM_X7_when_32 : decode (mC M_X7_when) 32 = .ok (.invokevirtual 220, 3) := by decide +kernel
theorem DM_X7_when_35 : decode (mC M_X7_when) 35 = .ok (.ifCond .eq 8, 3) := by decide +kernel
theorem DM_X7_when_38 : decode (mC M_X7_when) 38 = .ok (.ldc 209, 2) := by decide +kernel
theorem DM_X7_when_40 : decode (mC M_X7_when) 40 = .ok (.goto 9, 3) := by decide +kernel
theorem DM_X7_when_43 : decode (mC M_X7_when) 43 = .ok (.aload_n 3, 1) := by decide +kernel
theorem DM_X7_when_44 : decode (mC M_X7_when) 44 = .ok (.getfield 194, 3) := by decide +kernel
theorem DM_X7_when_47 : decode (mC M_X7_when) 47 = .ok (.iload_n 1, 1) := by decide +kernel
theorem DM_X7_when_48 : decode (mC M_X7_when) 48 = .ok (.iaload, 1) := by decide +kernel
theorem DM_X7_when_49 : decode (mC M_X7_when) 49 = .ok (.ireturn, 1) := by decide +kernel
theorem DM_X7_when_50 : decode (mC M_X7_when) 50 = .ok (.aload_n 3, 1) := by decide +kernel
theorem DM_X7_when_51 : decode (mC M_X7_when) 51 = .ok (.iload_n 1, 1) := by decide +kernel
theorem DM_X7_when_52 : decode (mC M_X7_when) 52 = .ok (.invokevirtual 220, 3) := by decide +kernel
theorem DM_X7_when_55 : decode (mC M_X7_when) 55 = .ok (.ifCond .ne 6, 3) := by decide +kernel
theorem DM_X7_when_58 : decode (mC M_X7_when) 58 = .ok (.ldc 209, 2) := by decide +kernel
theorem DM_X7_when_60 : decode (mC M_X7_when) 60 = .ok (.ireturn, 1) := by decide +kernel
theorem DM_X7_when_61 : decode (mC M_X7_when) 61 = .ok (.iload_n 2, 1) := by decide +kernel
theorem DM_X7_when_62 : decode (mC M_X7_when) 62 = .ok (.ifCond .ne 12, 3) := by decide +kernel
theorem DM_X7_when_65 : decode (mC M_X7_when) 65 = .ok (.aload_n 3, 1) := by decide +kernel
theorem DM_X7_when_66 : decode (mC M_X7_when) 66 = .ok (.getfield 223, 3) := by decide +kernel
theorem DM_X7_when_69 : decode (mC M_X7_when) 69 = .ok (.iload_n 1, 1) := by decide +kernel
theorem DM_X7_when_70 : decode (mC M_X7_when) 70 = .ok (.iaload, 1) := by decide +kernel
theorem DM_X7_when_71 : decode (mC M_X7_when) 71 = .ok (.goto 8, 3) := by decide +kernel
theorem DM_X7_when_74 : decode (mC M_X7_when) 74 = .ok (.aload_n 3, 1) := by decide +kernel
theorem DM_X7_when_75 : decode (mC M_X7_when) 75 = .ok (.iload_n 1, 1) := by decide +kernel
theorem DM_X7_when_76 : decode (mC M_X7_when) 76 = .ok (.invokevirtual 203, 3) := by decide +kernel
theorem DM_X7_when_79 : decode (mC M_X7_when) 79 = .ok (.ireturn, 1) := by decide +kernel
theorem DM_X7_waited_0 : decode (mC M_X7_waited) 0 = .ok (.aload_n 0, 1) := by decide +kernel
theorem DM_X7_waited_1 : decode (mC M_X7_waited) 1 = .ok (.getfield 25, 3) := by decide +kernel
theorem DM_X7_waited_4 : decode (mC M_X7_waited) 4 = .ok (.getfield 140, 3) := by decide +kernel
theorem DM_X7_waited_7 : decode (mC M_X7_waited) 7 = .ok (.ifCond .eq 14, 3) := by decide +kernel
theorem DM_X7_waited_10 : decode (mC M_X7_waited) 10 = .ok (.aload_n 0, 1) := by decide +kernel
theorem DM_X7_waited_11 : decode (mC M_X7_waited) 11 = .ok (.iconst 0, 1) := by decide +kernel
theorem DM_X7_waited_12 : decode (mC M_X7_waited) 12 = .ok (.invokevirtual 216, 3) := by decide +kernel
theorem DM_X7_waited_15 : decode (mC M_X7_waited) 15 = .ok (.invokevirtual 226, 3) := by decide +kernel
theorem DM_X7_waited_18 : decode (mC M_X7_waited) 18 = .ok (.goto 5, 3) := by decide +kernel
theorem DM_X7_waited_21 : decode (mC M_X7_waited) 21 = .ok (.ldc 144, 2) := by decide +kernel
theorem DM_X7_waited_23 : decode (mC M_X7_waited) 23 = .ok (.ireturn, 1) := by decide +kernel
theorem DM_X7_last_0 : decode (mC M_X7_last) 0 = .ok (.aload_n 0, 1) := by decide +kernel
theorem DM_X7_last_1 : decode (mC M_X7_last) 1 = .ok (.iload_n 1, 1) := by decide +kernel
theorem DM_X7_last_2 : decode (mC M_X7_last) 2 = .ok (.invokevirtual 187, 3) := by decide +kernel
theorem DM_X7_last_5 : decode (mC M_X7_last) 5 = .ok (.ifCond .eq 24, 3) := by decide +kernel
theorem DM_X7_last_8 : decode (mC M_X7_last) 8 = .ok (.iload_n 2, 1) := by decide +kernel
theorem DM_X7_last_9 : decode (mC M_X7_last) 9 = .ok (.iconst (-1), 1) := by decide +kernel
theorem DM_X7_last_10 : decode (mC M_X7_last) 10 = .ok (.if_icmp .eq 22, 3) := by decide +kernel
theorem DM_X7_last_13 : decode (mC M_X7_last) 13 = .ok (.iload_n 2, 1) := by decide +kernel
theorem DM_X7_last_14 : decode (mC M_X7_last) 14 = .ok (.aload_n 0, 1) := by decide +kernel
theorem DM_X7_last_15 : decode (mC M_X7_last) 15 = .ok (.getfield 25, 3) := by decide +kernel
theorem DM_X7_last_18 : decode (mC M_X7_last) 18 = .ok (.getfield 197, 3) := by decide +kernel
theorem DM_X7_last_21 : decode (mC M_X7_last) 21 = .ok (.iload_n 1, 1) := by decide +kernel
theorem DM_X7_last_22 : decode (mC M_X7_last) 22 = .ok (.iaload, 1) := by decide +kernel
theorem DM_X7_last_23 : decode (mC M_X7_last) 23 = .ok (.invokestatic 65, 3) := by decide +kernel
theorem DM_X7_last_26 : decode (mC M_X7_last) 26 = .ok (.ifCond .ne 6, 3) := by decide +kernel
theorem DM_X7_last_29 : decode (mC M_X7_last) 29 = .ok (.ldc 69, 2) := by decide +kernel
theorem DM_X7_last_31 : decode (mC M_X7_last) 31 = .ok (.ireturn, 1) := by decide +kernel
theorem DM_X7_last_32 : decode (mC M_X7_last) 32 = .ok (.aload_n 0, 1) := by decide +kernel
theorem DM_X7_last_33 : decode (mC M_X7_last) 33 = .ok (.getfield 25, 3) := by decide +kernel
theorem DM_X7_last_36 : decode (mC M_X7_last) 36 = .ok (.iload_n 1, 1) := by decide +kernel
theorem DM_X7_last_37 : decode (mC M_X7_last) 37 = .ok (.aload_n 0, 1) := by decide +kernel
theorem DM_X7_last_38 : decode (mC M_X7_last) 38 = .ok (.getfield 25, 3) := by decide +kernel
theorem DM_X7_last_41 : decode (mC M_X7_last) 41 = .ok (.getfield 145, 3) := by decide +kernel
theorem DM_X7_last_44 : decode (mC M_X7_last) 44 = .ok (.invokevirtual 167, 3) := by decide +kernel
theorem DM_X7_last_47 : decode (mC M_X7_last) 47 = .ok (.ifCond .ne 6, 3) := by decide +kernel
theorem DM_X7_last_50 : decode (mC M_X7_last) 50 = .ok (.ldc 209, 2) := by decide +kernel
theorem DM_X7_last_52 : decode (mC M_X7_last) 52 = .ok (.ireturn, 1) := by decide +kernel
theorem DM_X7_last_53 : decode (mC M_X7_last) 53 = .ok (.aload_n 0, 1) := by decide +kernel
theorem DM_X7_last_54 : decode (mC M_X7_last) 54 = .ok (.getfield 46, 3) := by decide +kernel
theorem DM_X7_last_57 : decode (mC M_X7_last) 57 = .ok (.aload_n 0, 1) := by decide +kernel
theorem DM_X7_last_58 : decode (mC M_X7_last) 58 = .ok (.getfield 25, 3) := by decide +kernel
theorem DM_X7_last_61 : decode (mC M_X7_last) 61 = .ok (.iload_n 1, 1) := by decide +kernel
theorem DM_X7_last_62 : decode (mC M_X7_last) 62 = .ok (.invokevirtual 230, 3) := by decide +kernel
theorem DM_X7_last_65 : decode (mC M_X7_last) 65 = .ok (.istore_n 3, 1) := by decide +kernel
theorem DM_X7_last_66 : decode (mC M_X7_last) 66 = .ok (.iload_n 2, 1) := by decide +kernel
theorem DM_X7_last_67 : decode (mC M_X7_last) 67 = .ok (.iconst (-1), 1) := by decide +kernel
theorem DM_X7_last_68 : decode (mC M_X7_last) 68 = .ok (.if_icmp .eq 9, 3) := by decide +kernel
theorem DM_X7_last_71 : decode (mC M_X7_last) 71 = .ok (.iload_n 3, 1) := by decide +kernel
theorem DM_X7_last_72 : decode (mC M_X7_last) 72 = .ok (.ldc 209, 2) := by decide +kernel
theorem DM_X7_last_74 : decode (mC M_X7_last) 74 = .ok (.if_icmp .ne 5, 3) := by decide +kernel
theorem DM_X7_last_77 : decode (mC M_X7_last) 77 = .ok (.iload_n 3, 1) := by decide +kernel
theorem DM_X7_last_78 : decode (mC M_X7_last) 78 = .ok (.ireturn, 1) := by decide +kernel
theorem DM_X7_last_79 : decode (mC M_X7_last) 79 = .ok (.aload_n 0, 1) := by decide +kernel
theorem DM_X7_last_80 : decode (mC M_X7_last) 80 = .ok (.getfield 46, 3) := by decide +kernel
theorem DM_X7_last_83 : decode (mC M_X7_last) 83 = .ok (.getfield 234, 3) := by decide +kernel
theorem DM_X7_last_86 : decode (mC M_X7_last) 86 = .ok (.iload_n 1, 1) := by decide +kernel
theorem DM_X7_last_87 : decode (mC M_X7_last) 87 = .ok (.iload_n 2, 1) := by decide +kernel
theorem DM_X7_last_88 : decode (mC M_X7_last) 88 = .ok (.invokevirtual 160, 3) := by decide +kernel
theorem DM_X7_last_91 : decode (mC M_X7_last) 91 = .ok (.ireturn, 1) := by decide +kernel
theorem DM_X7_best_0 : decode (mC M_X7_best) 0 = .ok (.aload_n 0, 1) := by decide +kernel
theorem DM_X7_best_1 : decode (mC M_X7_best) 1 = .ok (.getfield 25, 3) := by decide +kernel
theorem DM_X7_best_4 : decode (mC M_X7_best) 4 = .ok (.getfield 140, 3) := by decide +kernel
theorem DM_X7_best_7 : decode (mC M_X7_best) 7 = .ok (.ifCond .ne 6, 3) := by decide +kernel
theorem DM_X7_best_10 : decode (mC M_X7_best) 10 = .ok (.ldc 144, 2) := by decide +kernel
theorem DM_X7_best_12 : decode (mC M_X7_best) 12 = .ok (.ireturn, 1) := by decide +kernel
theorem DM_X7_best_13 : decode (mC M_X7_best) 13 = .ok (.iload_n 1, 1) := by decide +kernel
theorem DM_X7_best_14 : decode (mC M_X7_best) 14 = .ok (.iconst 2, 1) := by decide +kernel
theorem DM_X7_best_15 : decode (mC M_X7_best) 15 = .ok (.invokestatic 65, 3) := by decide +kernel
theorem DM_X7_best_18 : decode (mC M_X7_best) 18 = .ok (.ifCond .ne 6, 3) := by decide +kernel
theorem DM_X7_best_21 : decode (mC M_X7_best) 21 = .ok (.ldc 69, 2) := by decide +kernel
theorem DM_X7_best_23 : decode (mC M_X7_best) 23 = .ok (.ireturn, 1) := by decide +kernel
theorem DM_X7_best_24 : decode (mC M_X7_best) 24 = .ok (.iconst 0, 1) := by decide +kernel
theorem DM_X7_best_25 : decode (mC M_X7_best) 25 = .ok (.istore_n 2, 1) := by decide +kernel
theorem DM_X7_best_26 : decode (mC M_X7_best) 26 = .ok (.aload_n 0, 1) := by decide +kernel
theorem DM_X7_best_27 : decode (mC M_X7_best) 27 = .ok (.iconst 0, 1) := by decide +kernel
theorem DM_X7_best_28 : decode (mC M_X7_best) 28 = .ok (.invokevirtual 216, 3) := by decide +kernel
theorem DM_X7_best_31 : decode (mC M_X7_best) 31 = .ok (.invokevirtual 226, 3) := by decide +kernel
theorem DM_X7_best_34 : decode (mC M_X7_best) 34 = .ok (.istore_n 3, 1) := by decide +kernel
theorem DM_X7_best_35 : decode (mC M_X7_best) 35 = .ok (.iconst 1, 1) := by decide +kernel
theorem DM_X7_best_36 : decode (mC M_X7_best) 36 = .ok (.istore 4, 2) := by decide +kernel
theorem DM_X7_best_38 : decode (mC M_X7_best) 38 = .ok (.iload 4, 2) := by decide +kernel
theorem DM_X7_best_40 : decode (mC M_X7_best) 40 = .ok (.bipush 8, 2) := by decide +kernel
theorem DM_X7_best_42 : decode (mC M_X7_best) 42 = .ok (.if_icmp .ge 32, 3) := by decide +kernel
theorem DM_X7_best_45 : decode (mC M_X7_best) 45 = .ok (.aload_n 0, 1) := by decide +kernel
theorem DM_X7_best_46 : decode (mC M_X7_best) 46 = .ok (.iload 4, 2) := by decide +kernel
theorem DM_X7_best_48 : decode (mC M_X7_best) 48 = .ok (.invokevirtual 216, 3) := by decide +kernel
theorem DM_X7_best_51 : decode (mC M_X7_best) 51 = .ok (.invokevirtual 226, 3) := by decide +kernel
theorem DM_X7_best_54 : decode (mC M_X7_best) 54 = .ok (.istore 5, 2) := by decide +kernel
theorem DM_X7_best_56 : decode (mC M_X7_best) 56 = .ok (.iload 5, 2) := by decide +kernel
theorem DM_X7_best_58 : decode (mC M_X7_best) 58 = .ok (.iload_n 3, 1) := by decide +kernel
theorem DM_X7_best_59 : decode (mC M_X7_best) 59 = .ok (.if_icmp .ge 9, 3) := by decide +kernel
theorem DM_X7_best_62 : decode (mC M_X7_best) 62 = .ok (.iload 5, 2) := by decide +kernel
theorem DM_X7_best_64 : decode (mC M_X7_best) 64 = .ok (.istore_n 3, 1) := by decide +kernel
theorem DM_X7_best_65 : decode (mC M_X7_best) 65 = .ok (.iload 4, 2) := by decide +kernel
theorem DM_X7_best_67 : decode (mC M_X7_best) 67 = .ok (.istore_n 2, 1) := by decide +kernel
theorem DM_X7_best_68 : decode (mC M_X7_best) 68 = .ok (.iinc 4 1, 3) := by decide +kernel
theorem DM_X7_best_71 : decode (mC M_X7_best) 71 = .ok (.goto (-33), 3) := by decide +kernel
theorem DM_X7_best_74 : decode (mC M_X7_best) 74 = .ok (.iload_n 1, 1) := by decide +kernel
theorem DM_X7_best_75 : decode (mC M_X7_best) 75 = .ok (.ifCond .ne 7, 3) := by decide +kernel
theorem DM_X7_best_78 : decode (mC M_X7_best) 78 = .ok (.iload_n 2, 1) := by decide +kernel
theorem DM_X7_best_79 : decode (mC M_X7_best) 79 = .ok (.goto 4, 3) := by decide +kernel
theorem DM_X7_best_82 : decode (mC M_X7_best) 82 = .ok (.iload_n 3, 1) := by decide +kernel
theorem DM_X7_best_83 : decode (mC M_X7_best) 83 = .ok (.ireturn, 1) := by decide +kernel
theorem DM_X7_warden_0 : decode (mC M_X7_warden) 0 = .ok (.aload_n 0, 1) := by decide +kernel
theorem DM_X7_warden_1 : decode (mC M_X7_warden) 1 = .ok (.getfield 25, 3) := by decide +kernel
theorem DM_X7_warden_4 : decode (mC M_X7_warden) 4 = .ok (.getfield 140, 3) := by decide +kernel
theorem DM_X7_warden_7 : decode (mC M_X7_warden) 7 = .ok (.ifCond .ne 6, 3) := by decide +kernel
theorem DM_X7_warden_10 : decode (mC M_X7_warden) 10 = .ok (.ldc 144, 2) := by decide +kernel
theorem DM_X7_warden_12 : decode (mC M_X7_warden) 12 = .ok (.ireturn, 1) := by decide +kernel
theorem DM_X7_warden_13 : decode (mC M_X7_warden) 13 = .ok (.iload_n 1, 1) := by decide +kernel
theorem DM_X7_warden_14 : decode (mC M_X7_warden) 14 = .ok (.bipush (-2), 2) := by decide +kernel
theorem DM_X7_warden_16 : decode (mC M_X7_warden) 16 = .ok (.if_icmp .lt 9, 3) := by decide +kernel
theorem DM_X7_warden_19 : decode (mC M_X7_warden) 19 = .ok (.iload_n 1, 1) := by decide +kernel
theorem DM_X7_warden_20 : decode (mC M_X7_warden) 20 = .ok (.bipush 6, 2) := by decide +kernel
theorem DM_X7_warden_22 : decode (mC M_X7_warden) 22 = .ok (.if_icmp .lt 6, 3) := by decide +kernel
theorem DM_X7_warden_25 : decode (mC M_X7_warden) 25 = .ok (.ldc 69, 2) := by decide +kernel
theorem DM_X7_warden_27 : decode (mC M_X7_warden) 27 = .ok (.ireturn, 1) := by decide +kernel
theorem DM_X7_warden_28 : decode (mC M_X7_warden) 28 = .ok (.aload_n 0, 1) := by decide +kernel
theorem DM_X7_warden_29 : decode (mC M_X7_warden) 29 = .ok (.getfield 53, 3) := by decide +kernel
theorem DM_X7_warden_32 : decode (mC M_X7_warden) 32 = .ok (.aload_n 0, 1) := by decide +kernel
theorem DM_X7_warden_33 : decode (mC M_X7_warden) 33 = .ok (.getfield 25, 3) := by decide +kernel
theorem DM_X7_warden_36 : decode (mC M_X7_warden) 36 = .ok (.invokevirtual 237, 3) := by decide +kernel
theorem DM_X7_warden_39 : decode (mC M_X7_warden) 39 = .ok (.iload_n 1, 1) := by decide +kernel
theorem DM_X7_warden_40 : decode (mC M_X7_warden) 40 = .ok (.ifCond .lt 29, 3) := by decide +kernel
theorem DM_X7_warden_43 : decode (mC M_X7_warden) 43 = .ok (.iload_n 1, 1) := by decide +kernel
theorem DM_X7_warden_44 : decode (mC M_X7_warden) 44 = .ok (.aload_n 0, 1) := by decide +kernel
theorem DM_X7_warden_45 : decode (mC M_X7_warden) 45 = .ok (.getfield 53, 3) := by decide +kernel
theorem DM_X7_warden_48 : decode (mC M_X7_warden) 48 = .ok (.getfield 240, 3) := by decide +kernel
theorem DM_X7_warden_51 : decode (mC M_X7_warden) 51 = .ok (.if_icmp .ge 15, 3) := by decide +kernel
theorem DM_X7_warden_54 : decode (mC M_X7_warden) 54 = .ok (.aload_n 0, 1) := by decide +kernel
theorem DM_X7_warden_55 : decode (mC M_X7_warden) 55 = .ok (.getfield 53, 3) := by decide +kernel
theorem DM_X7_warden_58 : decode (mC M_X7_warden) 58 = .ok (.getfield 241, 3) := by decide +kernel
theorem DM_X7_warden_61 : decode (mC M_X7_warden) 61 = .ok (.iload_n 1, 1) := by decide +kernel
theorem DM_X7_warden_62 : decode (mC M_X7_warden) 62 = .ok (.iaload, 1) := by decide +kernel
theorem DM_X7_warden_63 : decode (mC M_X7_warden) 63 = .ok (.goto 5, 3) := by decide +kernel
theorem DM_X7_warden_66 : decode (mC M_X7_warden) 66 = .ok (.ldc 209, 2) := by decide +kernel
theorem DM_X7_warden_68 : decode (mC M_X7_warden) 68 = .ok (.ireturn, 1) := by decide +kernel
theorem DM_X7_warden_69 : decode (mC M_X7_warden) 69 = .ok (.iload_n 1, 1) := by decide +kernel
theorem DM_X7_warden_70 : decode (mC M_X7_warden) 70 = .ok (.iconst (-1), 1) := by decide +kernel
theorem DM_X7_warden_71 : decode (mC M_X7_warden) 71 = .ok (.if_icmp .ne 13, 3) := by decide +kernel
theorem DM_X7_warden_74 : decode (mC M_X7_warden) 74 = .ok (.aload_n 0, 1) := by decide +kernel
theorem DM_X7_warden_75 : decode (mC M_X7_warden) 75 = .ok (.getfield 53, 3) := by decide +kernel
theorem DM_X7_warden_78 : decode (mC M_X7_warden) 78 = .ok (.getfield 244, 3) := by decide +kernel
theorem DM_X7_warden_81 : decode (mC M_X7_warden) 81 = .ok (.goto 19, 3) := by decide +kernel
theorem DM_X7_warden_84 : decode (mC M_X7_warden) 84 = .ok (.aload_n 0, 1) := by decide +kernel
theorem DM_X7_warden_85 : decode (mC M_X7_warden) 85 = .ok (.iconst 0, 1) := by decide +kernel
theorem DM_X7_warden_86 : decode (mC M_X7_warden) 86 = .ok (.invokevirtual 216, 3) := by decide +kernel
theorem DM_X7_warden_89 : decode (mC M_X7_warden) 89 = .ok (.invokevirtual 226, 3) := by decide +kernel
theorem DM_X7_warden_92 : decode (mC M_X7_warden) 92 = .ok (.aload_n 0, 1) := by decide +kernel
theorem DM_X7_warden_93 : decode (mC M_X7_warden) 93 = .ok (.getfield 53, 3) := by decide +kernel
theorem DM_X7_warden_96 : decode (mC M_X7_warden) 96 = .ok (.getfield 244, 3) := by decide +kernel
theorem DM_X7_warden_99 : decode (mC M_X7_warden) 99 = .ok (.isub, 1) := by decide +kernel
theorem DM_X7_warden_100 : decode (mC M_X7_warden) 100 = .ok (.ireturn, 1) := by decide +kernel
theorem DM_X7_frees_0 : decode (mC M_X7_frees) 0 = .ok (.aload_n 0, 1) := by decide +kernel
theorem DM_X7_frees_1 : decode (mC M_X7_frees) 1 = .ok (.getfield 25, 3) := by decide +kernel
theorem DM_X7_frees_4 : decode (mC M_X7_frees) 4 = .ok (.getfield 140, 3) := by decide +kernel
theorem DM_X7_frees_7 : decode (mC M_X7_frees) 7 = .ok (.ifCond .ne 6, 3) := by decide +kernel
theorem DM_X7_frees_10 : decode (mC M_X7_frees) 10 = .ok (.ldc 144, 2) := by decide +kernel
theorem DM_X7_frees_12 : decode (mC M_X7_frees) 12 = .ok (.ireturn, 1) := by decide +kernel
theorem DM_X7_frees_13 : decode (mC M_X7_frees) 13 = .ok (.iload_n 1, 1) := by decide +kernel
theorem DM_X7_frees_14 : decode (mC M_X7_frees) 14 = .ok (.iconst 2, 1) := by decide +kernel
theorem DM_X7_frees_15 : decode (mC M_X7_frees) 15 = .ok (.invokestatic 65, 3) := by decide +kernel
theorem DM_X7_frees_18 : decode (mC M_X7_frees) 18 = .ok (.ifCond .ne 6, 3) := by decide +kernel
theorem DM_X7_frees_21 : decode (mC M_X7_frees) 21 = .ok (.ldc 69, 2) := by decide +kernel
theorem DM_X7_frees_23 : decode (mC M_X7_frees) 23 = .ok (.ireturn, 1) := by decide +kernel
theorem DM_X7_frees_24 : decode (mC M_X7_frees) 24 = .ok (.iconst 0, 1) := by decide +kernel
theorem DM_X7_frees_25 : decode (mC M_X7_frees) 25 = .ok (.istore_n 2, 1) := by decide +kernel
theorem DM_X7_frees_26 : decode (mC M_X7_frees) 26 = .ok (.aload_n 0, 1) := by decide +kernel
theorem DM_X7_frees_27 : decode (mC M_X7_frees) 27 = .ok (.getfield 25, 3) := by decide +kernel
theorem DM_X7_frees_30 : decode (mC M_X7_frees) 30 = .ok (.iconst 0, 1) := by decide +kernel
theorem DM_X7_frees_31 : decode (mC M_X7_frees) 31 = .ok (.invokevirtual 247, 3) := by decide +kernel
theorem DM_X7_frees_34 : decode (mC M_X7_frees) 34 = .ok (.istore_n 3, 1) := by decide +kernel
theorem DM_X7_frees_35 : decode (mC M_X7_frees) 35 = .ok (.iconst 1, 1) := by decide +kernel
theorem DM_X7_frees_36 : decode (mC M_X7_frees) 36 = .ok (.istore 4, 2) := by decide +kernel
theorem DM_X7_frees_38 : decode (mC M_X7_frees) 38 = .ok (.iload 4, 2) := by decide +kernel
theorem DM_X7_frees_40 : decode (mC M_X7_frees) 40 = .ok (.bipush 8, 2) := by decide +kernel
theorem DM_X7_frees_42 : decode (mC M_X7_frees) 42 = .ok (.if_icmp .ge 32, 3) := by decide +kernel
theorem DM_X7_frees_45 : decode (mC M_X7_frees) 45 = .ok (.aload_n 0, 1) := by decide +kernel
theorem DM_X7_frees_46 : decode (mC M_X7_frees) 46 = .ok (.getfield 25, 3) := by decide +kernel
theorem DM_X7_frees_49 : decode (mC M_X7_frees) 49 = .ok (.iload 4, 2) := by decide +kernel
theorem DM_X7_frees_51 : decode (mC M_X7_frees) 51 = .ok (.invokevirtual 247, 3) := by decide +kernel
theorem DM_X7_frees_54 : decode (mC M_X7_frees) 54 = .ok (.istore 5, 2) := by decide +kernel
theorem DM_X7_frees_56 : decode (mC M_X7_frees) 56 = .ok (.iload 5, 2) := by decide +kernel
theorem DM_X7_frees_58 : decode (mC M_X7_frees) 58 = .ok (.iload_n 3, 1) := by decide +kernel
theorem DM_X7_frees_59 : decode (mC M_X7_frees) 59 = .ok (.if_icmp .le 9, 3) := by decide +kernel
theorem DM_X7_frees_62 : decode (mC M_X7_frees) 62 = .ok (.iload 5, 2) := by decide +kernel
theorem DM_X7_frees_64 : decode (mC M_X7_frees) 64 = .ok (.istore_n 3, 1) := by decide +kernel
theorem DM_X7_frees_65 : decode (mC M_X7_frees) 65 = .ok (.iload 4, 2) := by decide +kernel
theorem DM_X7_frees_67 : decode (mC M_X7_frees) 67 = .ok (.istore_n 2, 1) := by decide +kernel
theorem DM_X7_frees_68 : decode (mC M_X7_frees) 68 = .ok (.iinc 4 1, 3) := by decide +kernel
theorem DM_X7_frees_71 : decode (mC M_X7_frees) 71 = .ok (.goto (-33), 3) := by decide +kernel
theorem DM_X7_frees_74 : decode (mC M_X7_frees) 74 = .ok (.iload_n 1, 1) := by decide +kernel
theorem DM_X7_frees_75 : decode (mC M_X7_frees) 75 = .ok (.ifCond .ne 7, 3) := by decide +kernel
theorem DM_X7_frees_78 : decode (mC M_X7_frees) 78 = .ok (.iload_n 2, 1) := by decide +kernel
theorem DM_X7_frees_79 : decode (mC M_X7_frees) 79 = .ok (.goto 4, 3) := by decide +kernel
theorem DM_X7_frees_82 : decode (mC M_X7_frees) 82 = .ok (.iload_n 3, 1) := by decide +kernel
theorem DM_X7_frees_83 : decode (mC M_X7_frees) 83 = .ok (.ireturn, 1) := by decide +kernel
theorem DM_X7_ledger_0 : decode (mC M_X7_ledger) 0 = .ok (.aload_n 0, 1) := by decide +kernel
theorem DM_X7_ledger_1 : decode (mC M_X7_ledger) 1 = .ok (.getfield 25, 3) := by decide +kernel
theorem DM_X7_ledger_4 : decode (mC M_X7_ledger) 4 = .ok (.getfield 140, 3) := by decide +kernel
theorem DM_X7_ledger_7 : decode (mC M_X7_ledger) 7 = .ok (.ifCond .ne 6, 3) := by decide +kernel
theorem DM_X7_ledger_10 : decode (mC M_X7_ledger) 10 = .ok (.ldc 144, 2) := by decide +kernel
theorem DM_X7_ledger_12 : decode (mC M_X7_ledger) 12 = .ok (.ireturn, 1) := by decide +kernel
theorem DM_X7_ledger_13 : decode (mC M_X7_ledger) 13 = .ok (.iload_n 1, 1) := by decide +kernel
theorem DM_X7_ledger_14 : decode (mC M_X7_ledger) 14 = .ok (.bipush 8, 2) := by decide +kernel
theorem DM_X7_ledger_16 : decode (mC M_X7_ledger) 16 = .ok (.invokestatic 65, 3) := by decide +kernel
theorem DM_X7_ledger_19 : decode (mC M_X7_ledger) 19 = .ok (.ifCond .eq 12, 3) := by decide +kernel
theorem DM_X7_ledger_22 : decode (mC M_X7_ledger) 22 = .ok (.iload_n 3, 1) := by decide +kernel
theorem DM_X7_ledger_23 : decode (mC M_X7_ledger) 23 = .ok (.bipush 7, 2) := by decide +kernel
theorem DM_X7_ledger_25 : decode (mC M_X7_ledger) 25 = .ok (.invokestatic 65, 3) := by decide +kernel
theorem DM_X7_ledger_28 : decode (mC M_X7_ledger) 28 = .ok (.ifCond .ne 6, 3) := by decide +kernel
theorem DM_X7_ledger_31 : decode (mC M_X7_ledger) 31 = .ok (.ldc 69, 2) := by decide +kernel
theorem DM_X7_ledger_33 : decode (mC M_X7_ledger) 33 = .ok (.ireturn, 1) := by decide +kernel
theorem DM_X7_ledger_34 : decode (mC M_X7_ledger) 34 = .ok (.aload_n 0, 1) := by decide +kernel
theorem DM_X7_ledger_35 : decode (mC M_X7_ledger) 35 = .ok (.getfield 11, 3) := by decide +kernel
theorem DM_X7_ledger_38 : decode (mC M_X7_ledger) 38 = .ok (.iload_n 1, 1) := by decide +kernel
theorem DM_X7_ledger_39 : decode (mC M_X7_ledger) 39 = .ok (.aaload, 1) := by decide +kernel
theorem DM_X7_ledger_40 : decode (mC M_X7_ledger) 40 = .ok (.astore 4, 2) := by decide +kernel
theorem DM_X7_ledger_42 : decode (mC M_X7_ledger) 42 = .ok (.aload 4, 2) := by decide +kernel
theorem DM_X7_ledger_44 : decode (mC M_X7_ledger) 44 = .ok (.invokevirtual 81, 3) := by decide +kernel
theorem DM_X7_ledger_47 : decode (mC M_X7_ledger) 47 = .ok (.ifCond .eq 9, 3) := by decide +kernel
theorem DM_X7_ledger_50 : decode (mC M_X7_ledger) 50 = .ok (.aload_n 0, 1) := by decide +kernel
theorem DM_X7_ledger_51 : decode (mC M_X7_ledger) 51 = .ok (.iconst 1, 1) := by decide +kernel
theorem DM_X7_ledger_52 : decode (mC M_X7_ledger) 52 = .ok (.invokevirtual 70, 3) := by decide +kernel
theorem DM_X7_ledger_55 : decode (mC M_X7_ledger) 55 = .ok (.ireturn, 1) := by decide +kernel
theorem DM_X7_ledger_56 : decode (mC M_X7_ledger) 56 = .ok (.aload 4, 2) := by decide +kernel
theorem DM_X7_ledger_58 : decode (mC M_X7_ledger) 58 = .ok (.iload_n 2, 1) := by decide +kernel
theorem DM_X7_ledger_59 : decode (mC M_X7_ledger) 59 = .ok (.iload_n 3, 1) := by decide +kernel
theorem DM_X7_ledger_60 : decode (mC M_X7_ledger) 60 = .ok (.invokevirtual 99, 3) := by decide +kernel
theorem DM_X7_ledger_63 : decode (mC M_X7_ledger) 63 = .ok (.ifCond .ne 9, 3) := by decide +kernel
theorem DM_X7_ledger_66 : decode (mC M_X7_ledger) 66 = .ok (.aload_n 0, 1) := by decide +kernel
theorem DM_X7_ledger_67 : decode (mC M_X7_ledger) 67 = .ok (.iconst 2, 1) := by decide +kernel
theorem DM_X7_ledger_68 : decode (mC M_X7_ledger) 68 = .ok (.invokevirtual 70, 3) := by decide +kernel
theorem DM_X7_ledger_71 : decode (mC M_X7_ledger) 71 = .ok (.ireturn, 1) := by decide +kernel
theorem DM_X7_ledger_72 : decode (mC M_X7_ledger) 72 = .ok (.aload_n 0, 1) := by decide +kernel
theorem DM_X7_ledger_73 : decode (mC M_X7_ledger) 73 = .ok (.aload 4, 2) := by decide +kernel
theorem DM_X7_ledger_75 : decode (mC M_X7_ledger) 75 = .ok (.iload_n 2, 1) := by decide +kernel
theorem DM_X7_ledger_76 : decode (mC M_X7_ledger) 76 = .ok (.iload_n 3, 1) := by decide +kernel
theorem DM_X7_ledger_77 : decode (mC M_X7_ledger) 77 = .ok (.invokevirtual 250, 3) := by decide +kernel
theorem DM_X7_ledger_80 : decode (mC M_X7_ledger) 80 = .ok (.ifCond .ne 6, 3) := by decide +kernel
theorem DM_X7_ledger_83 : decode (mC M_X7_ledger) 83 = .ok (.ldc 69, 2) := by decide +kernel
theorem DM_X7_ledger_85 : decode (mC M_X7_ledger) 85 = .ok (.ireturn, 1) := by decide +kernel
theorem DM_X7_ledger_86 : decode (mC M_X7_ledger) 86 = .ok (.iconst 0, 1) := by decide +kernel
theorem DM_X7_ledger_87 : decode (mC M_X7_ledger) 87 = .ok (.istore 5, 2) := by decide +kernel
theorem DM_X7_ledger_89 : decode (mC M_X7_ledger) 89 = .ok (.iconst 0, 1) := by decide +kernel
theorem DM_X7_ledger_90 : decode (mC M_X7_ledger) 90 = .ok (.istore 6, 2) := by decide +kernel
theorem DM_X7_ledger_92 : decode (mC M_X7_ledger) 92 = .ok (.iload 6, 2) := by decide +kernel
theorem DM_X7_ledger_94 : decode (mC M_X7_ledger) 94 = .ok (.bipush 8, 2) := by decide +kernel
theorem DM_X7_ledger_96 : decode (mC M_X7_ledger) 96 = .ok (.if_icmp .ge 31, 3) := by decide +kernel
theorem DM_X7_ledger_99 : decode (mC M_X7_ledger) 99 = .ok (.aload_n 0, 1) := by decide +kernel
theorem DM_X7_ledger_100 : decode (mC M_X7_ledger) 100 = .ok (.aload 4, 2) := by decide +kernel
theorem DM_X7_ledger_102 : decode (mC M_X7_ledger) 102 = .ok (.iload_n 2, 1) := by decide +kernel
theorem DM_X7_ledger_103 : decode (mC M_X7_ledger) 103 = .ok (.iload_n 3, 1) := by decide +kernel
theorem DM_X7_ledger_104 : decode (mC M_X7_ledger) 104 = .ok (.iload 6, 2) := by decide +kernel
theorem DM_X7_ledger_106 : decode (mC M_X7_ledger) 106 = .ok (.invokevirtual 254, 3) := by decide +kernel
theorem DM_X7_ledger_109 : decode (mC M_X7_ledger) 109 = .ok (.ifCond .eq 12, 3) := by decide +kernel
theorem DM_X7_ledger_112 : decode (mC M_X7_ledger) 112 = .ok (.iload 5, 2) := by decide +kernel
theorem DM_X7_ledger_114 : decode (mC M_X7_ledger) 114 = .ok (.iconst 1, 1) := by decide +kernel
theorem DM_X7_ledger_115 : decode (mC M_X7_ledger) 115 = .ok (.iload 6, 2) := by decide +kernel
theorem DM_X7_ledger_117 : decode (mC M_X7_ledger) 117 = .ok (.ishl, 1) := by decide +kernel
theorem DM_X7_ledger_118 : decode (mC M_X7_ledger) 118 = .ok (.ior, 1) := by decide +kernel
theorem DM_X7_ledger_119 : decode (mC M_X7_ledger) 119 = .ok (.istore 5, 2) := by decide +kernel
theorem DM_X7_ledger_121 : decode (mC M_X7_ledger) 121 = .ok (.iinc 6 1, 3) := by decide +kernel
theorem DM_X7_ledger_124 : decode (mC M_X7_ledger) 124 = .ok (.goto (-32), 3) := by decide +kernel
theorem DM_X7_ledger_127 : decode (mC M_X7_ledger) 127 = .ok (.aload_n 0, 1) := by decide +kernel
theorem DM_X7_ledger_128 : decode (mC M_X7_ledger) 128 = .ok (.iload 5, 2) := by decide +kernel
theorem DM_X7_ledger_130 : decode (mC M_X7_ledger) 130 = .ok (.invokevirtual 78, 3) := by decide +kernel
theorem DM_X7_ledger_133 : decode (mC M_X7_ledger) 133 = .ok (.ireturn, 1) := by decide +kernel
theorem DM_X7_image_0 : decode (mC M_X7_image) 0 = .ok (.iload_n 1, 1) := by decide +kernel
theorem DM_X7_image_1 : decode (mC M_X7_image) 1 = .ok (.iconst 2, 1) := by decide +kernel
theorem DM_X7_image_2 : decode (mC M_X7_image) 2 = .ok (.invokestatic 65, 3) := by decide +kernel
theorem DM_X7_image_5 : decode (mC M_X7_image) 5 = .ok (.ifCond .ne 6, 3) := by decide +kernel
theorem DM_X7_image_8 : decode (mC M_X7_image) 8 = .ok (.ldc 69, 2) := by decide +kernel
theorem DM_X7_image_10 : decode (mC M_X7_image) 10 = .ok (.ireturn, 1) := by decide +kernel
theorem DM_X7_image_11 : decode (mC M_X7_image) 11 = .ok (.aload_n 0, 1) := by decide +kernel
theorem DM_X7_image_12 : decode (mC M_X7_image) 12 = .ok (.getfield 25, 3) := by decide +kernel
theorem DM_X7_image_15 : decode (mC M_X7_image) 15 = .ok (.getfield 140, 3) := by decide +kernel
theorem DM_X7_image_18 : decode (mC M_X7_image) 18 = .ok (.ifCond .ne 6, 3) := by decide +kernel
theorem DM_X7_image_21 : decode (mC M_X7_image) 21 = .ok (.ldc 144, 2) := by decide +kernel
theorem DM_X7_image_23 : decode (mC M_X7_image) 23 = .ok (.ireturn, 1) := by decide +kernel
theorem DM_X7_image_24 : decode (mC M_X7_image) 24 = .ok (.aload_n 0, 1) := by decide +kernel
theorem DM_X7_image_25 : decode (mC M_X7_image) 25 = .ok (.getfield 32, 3) := by decide +kernel
theorem DM_X7_image_28 : decode (mC M_X7_image) 28 = .ok (.iload_n 1, 1) := by decide +kernel
theorem DM_X7_image_29 : decode (mC M_X7_image) 29 = .ok (.aaload, 1) := by decide +kernel
theorem DM_X7_image_30 : decode (mC M_X7_image) 30 = .ok (.aload_n 0, 1) := by decide +kernel
theorem DM_X7_image_31 : decode (mC M_X7_image) 31 = .ok (.getfield 25, 3) := by decide +kernel
theorem DM_X7_image_34 : decode (mC M_X7_image) 34 = .ok (.invokevirtual 130, 3) := by decide +kernel
theorem DM_X7_image_37 : decode (mC M_X7_image) 37 = .ok (.iconst 1, 1) := by decide +kernel
theorem DM_X7_image_38 : decode (mC M_X7_image) 38 = .ok (.ireturn, 1) := by decide +kernel
theorem DM_X7_restore_0 : decode (mC M_X7_restore) 0 = .ok (.iload_n 1, 1) := by decide +kernel
theorem DM_X7_restore_1 : decode (mC M_X7_restore) 1 = .ok (.iconst 2, 1) := by decide +kernel
theorem DM_X7_restore_2 : decode (mC M_X7_restore) 2 = .ok (.invokestatic 65, 3) := by decide +kernel
theorem DM_X7_restore_5 : decode (mC M_X7_restore) 5 = .ok (.ifCond .ne 6, 3) := by decide +kernel
theorem DM_X7_restore_8 : decode (mC M_X7_restore) 8 = .ok (.ldc 69, 2) := by decide +kernel
theorem DM_X7_restore_10 : decode (mC M_X7_restore) 10 = .ok (.ireturn, 1) := by decide +kernel
theorem DM_X7_restore_11 : decode (mC M_X7_restore) 11 = .ok (.aload_n 0, 1) := by decide +kernel
theorem DM_X7_restore_12 : decode (mC M_X7_restore) 12 = .ok (.getfield 32, 3) := by decide +kernel
theorem DM_X7_restore_15 : decode (mC M_X7_restore) 15 = .ok (.iload_n 1, 1) := by decide +kernel
theorem DM_X7_restore_16 : decode (mC M_X7_restore) 16 = .ok (.aaload, 1) := by decide +kernel
theorem DM_X7_restore_17 : decode (mC M_X7_restore) 17 = .ok (.getfield 140, 3) := by decide +kernel
theorem DM_X7_restore_20 : decode (mC M_X7_restore) 20 = .ok (.ifCond .ne 6, 3) := by decide +kernel
theorem DM_X7_restore_23 : decode (mC M_X7_restore) 23 = .ok (.ldc 144, 2) := by decide +kernel
theorem DM_X7_restore_25 : decode (mC M_X7_restore) 25 = .ok (.ireturn, 1) := by decide +kernel
theorem DM_X7_restore_26 : decode (mC M_X7_restore) 26 = .ok (.aload_n 0, 1) := by decide +kernel
theorem DM_X7_restore_27 : decode (mC M_X7_restore) 27 = .ok (.getfield 25, 3) := by decide +kernel
theorem DM_X7_restore_30 : decode (mC M_X7_restore) 30 = .ok (.aload_n 0, 1) := by decide +kernel
theorem DM_X7_restore_31 : decode (mC M_X7_restore) 31 = .ok (.getfield 32, 3) := by decide +kernel
theorem DM_X7_restore_34 : decode (mC M_X7_restore) 34 = .ok (.iload_n 1, 1) := by decide +kernel
theorem DM_X7_restore_35 : decode (mC M_X7_restore) 35 = .ok (.aaload, 1) := by decide +kernel
theorem DM_X7_restore_36 : decode (mC M_X7_restore) 36 = .ok (.invokevirtual 130, 3) := by decide +kernel
theorem DM_X7_restore_39 : decode (mC M_X7_restore) 39 = .ok (.aload_n 0, 1) := by decide +kernel
theorem DM_X7_restore_40 : decode (mC M_X7_restore) 40 = .ok (.getfield 39, 3) := by decide +kernel
theorem DM_X7_restore_43 : decode (mC M_X7_restore) 43 = .ok (.invokevirtual 134, 3) := by decide +kernel
theorem DM_X7_restore_46 : decode (mC M_X7_restore) 46 = .ok (.iconst 1, 1) := by decide +kernel
theorem DM_X7_restore_47 : decode (mC M_X7_restore) 47 = .ok (.ireturn, 1) := by decide +kernel
theorem DM_X7_kind_0 : decode (mC M_X7_kind) 0 = .ok (.aload_n 0, 1) := by decide +kernel
theorem DM_X7_kind_1 : decode (mC M_X7_kind) 1 = .ok (.iload_n 1, 1) := by decide +kernel
theorem DM_X7_kind_2 : decode (mC M_X7_kind) 2 = .ok (.invokevirtual 187, 3) := by decide +kernel
theorem DM_X7_kind_5 : decode (mC M_X7_kind) 5 = .ok (.ifCond .eq 15, 3) := by decide +kernel
theorem DM_X7_kind_8 : decode (mC M_X7_kind) 8 = .ok (.aload_n 0, 1) := by decide +kernel
theorem DM_X7_kind_9 : decode (mC M_X7_kind) 9 = .ok (.getfield 25, 3) := by decide +kernel
theorem DM_X7_kind_12 : decode (mC M_X7_kind) 12 = .ok (.getfield 164, 3) := by decide +kernel
theorem DM_X7_kind_15 : decode (mC M_X7_kind) 15 = .ok (.iload_n 1, 1) := by decide +kernel
theorem DM_X7_kind_16 : decode (mC M_X7_kind) 16 = .ok (.iaload, 1) := by decide +kernel
theorem DM_X7_kind_17 : decode (mC M_X7_kind) 17 = .ok (.goto 5, 3) := by decide +kernel
theorem DM_X7_kind_20 : decode (mC M_X7_kind) 20 = .ok (.ldc 69, 2) := by decide +kernel
theorem DM_X7_kind_22 : decode (mC M_X7_kind) 22 = .ok (.ireturn, 1) := by decide +kernel
theorem DM_X7_as_0 : decode (mC M_X7_as) 0 = .ok (.aload_n 0, 1) := by decide +kernel
theorem DM_X7_as_1 : decode (mC M_X7_as) 1 = .ok (.iload_n 1, 1) := by decide +kernel
theorem DM_X7_as_2 : decode (mC M_X7_as) 2 = .ok (.invokevirtual 187, 3) := by decide +kernel
theorem DM_X7_as_5 : decode (mC M_X7_as) 5 = .ok (.ifCond .eq 12, 3) := by decide +kernel
theorem DM_X7_as_8 : decode (mC M_X7_as) 8 = .ok (.iload_n 2, 1) := by decide +kernel
theorem DM_X7_as_9 : decode (mC M_X7_as) 9 = .ok (.bipush 6, 2) := by decide +kernel
theorem DM_X7_as_11 : decode (mC M_X7_as) 11 = .ok (.invokestatic 65, 3) := by decide +kernel
theorem DM_X7_as_14 : decode (mC M_X7_as) 14 = .ok (.ifCond .ne 6, 3) := by decide +kernel
theorem DM_X7_as_17 : decode (mC M_X7_as) 17 = .ok (.ldc 69, 2) := by decide +kernel
theorem DM_X7_as_19 : decode (mC M_X7_as) 19 = .ok (.ireturn, 1) := by decide +kernel
theorem DM_X7_as_20 : decode (mC M_X7_as) 20 = .ok (.aload_n 0, 1) := by decide +kernel
theorem DM_X7_as_21 : decode (mC M_X7_as) 21 = .ok (.getfield 25, 3) := by decide +kernel
theorem DM_X7_as_24 : decode (mC M_X7_as) 24 = .ok (.getfield 164, 3) := by decide +kernel
theorem DM_X7_as_27 : decode (mC M_X7_as) 27 = .ok (.iload_n 1, 1) := by decide +kernel
theorem DM_X7_as_28 : decode (mC M_X7_as) 28 = .ok (.iaload, 1) := by decide +kernel
theorem DM_X7_as_29 : decode (mC M_X7_as) 29 = .ok (.iload_n 2, 1) := by decide +kernel
theorem DM_X7_as_30 : decode (mC M_X7_as) 30 = .ok (.invokestatic 258, 3) := by decide +kernel
theorem DM_X7_as_33 : decode (mC M_X7_as) 33 = .ok (.ifCond .eq 11, 3) := by decide +kernel
theorem DM_X7_as_36 : decode (mC M_X7_as) 36 = .ok (.aload_n 0, 1) := by decide +kernel
theorem DM_X7_as_37 : decode (mC M_X7_as) 37 = .ok (.iload_n 1, 1) := by decide +kernel
theorem DM_X7_as_38 : decode (mC M_X7_as) 38 = .ok (.invokevirtual 78, 3) := by decide +kernel
theorem DM_X7_as_41 : decode (mC M_X7_as) 41 = .ok (.goto 8, 3) := by decide +kernel
theorem DM_X7_as_44 : decode (mC M_X7_as) 44 = .ok (.aload_n 0, 1) := by decide +kernel
theorem DM_X7_as_45 : decode (mC M_X7_as) 45 = .ok (.iconst 3, 1) := by decide +kernel
theorem DM_X7_as_46 : decode (mC M_X7_as) 46 = .ok (.invokevirtual 70, 3) := by decide +kernel
theorem DM_X7_as_49 : decode (mC M_X7_as) 49 = .ok (.ireturn, 1) := by decide +kernel
theorem DM_X7_ask_0 : decode (mC M_X7_ask) 0 = .ok (.aload_n 0, 1) := by decide +kernel
theorem DM_X7_ask_1 : decode (mC M_X7_ask) 1 = .ok (.iload_n 1, 1) := by decide +kernel
theorem DM_X7_ask_2 : decode (mC M_X7_ask) 2 = .ok (.invokevirtual 187, 3) := by decide +kernel
theorem DM_X7_ask_5 : decode (mC M_X7_ask) 5 = .ok (.ifCond .eq 11, 3) := by decide +kernel
theorem DM_X7_ask_8 : decode (mC M_X7_ask) 8 = .ok (.iload_n 2, 1) := by decide +kernel
theorem DM_X7_ask_9 : decode (mC M_X7_ask) 9 = .ok (.iconst 2, 1) := by decide +kernel
theorem DM_X7_ask_10 : decode (mC M_X7_ask) 10 = .ok (.invokestatic 65, 3) := by decide +kernel
theorem DM_X7_ask_13 : decode (mC M_X7_ask) 13 = .ok (.ifCond .ne 6, 3) := by decide +kernel
theorem DM_X7_ask_16 : decode (mC M_X7_ask) 16 = .ok (.ldc 69, 2) := by decide +kernel
theorem DM_X7_ask_18 : decode (mC M_X7_ask) 18 = .ok (.ireturn, 1) := by decide +kernel
theorem DM_X7_ask_19 : decode (mC M_X7_ask) 19 = .ok (.aload_n 0, 1) := by decide +kernel
theorem DM_X7_ask_20 : decode (mC M_X7_ask) 20 = .ok (.getfield 60, 3) := by decide +kernel
theorem DM_X7_ask_23 : decode (mC M_X7_ask) 23 = .ok (.aload_n 0, 1) := by decide +kernel
theorem DM_X7_ask_24 : decode (mC M_X7_ask) 24 = .ok (.getfield 25, 3) := by decide +kernel
theorem DM_X7_ask_27 : decode (mC M_X7_ask) 27 = .ok (.iload_n 1, 1) := by decide +kernel
theorem DM_X7_ask_28 : decode (mC M_X7_ask) 28 = .ok (.iload_n 2, 1) := by decide +kernel
theorem DM_X7_ask_29 : decode (mC M_X7_ask) 29 = .ok (.invokevirtual 261, 3) := by decide +kernel
theorem DM_X7_ask_32 : decode (mC M_X7_ask) 32 = .ok (.ireturn, 1) := by decide +kernel
theorem DM_X7_trace_0 : decode (mC M_X7_trace) 0 = .ok (.iload_n 1, 1) := by decide +kernel
theorem DM_X7_trace_1 : decode (mC M_X7_trace) 1 = .ok (.aload_n 0, 1) := by decide +kernel
theorem DM_X7_trace_2 : decode (mC M_X7_trace) 2 = .ok (.getfield 60, 3) := by decide +kernel
theorem DM_X7_trace_5 : decode (mC M_X7_trace) 5 = .ok (.getfield 265, 3) := by decide +kernel
theorem DM_X7_trace_8 : decode (mC M_X7_trace) 8 = .ok (.invokestatic 65, 3) := by decide +kernel
theorem DM_X7_trace_11 : decode (mC M_X7_trace) 11 = .ok (.ifCond .eq 15, 3) := by decide +kernel
theorem DM_X7_trace_14 : decode (mC M_X7_trace) 14 = .ok (.aload_n 0, 1) := by decide +kernel
theorem DM_X7_trace_15 : decode (mC M_X7_trace) 15 = .ok (.getfield 60, 3) := by decide +kernel
theorem DM_X7_trace_18 : decode (mC M_X7_trace) 18 = .ok (.getfield 268, 3) := by decide +kernel
theorem DM_X7_trace_21 : decode (mC M_X7_trace) 21 = .ok (.iload_n 1, 1) := by decide +kernel
theorem DM_X7_trace_22 : decode (mC M_X7_trace) 22 = .ok (.iaload, 1) := by decide +kernel
theorem DM_X7_trace_23 : decode (mC M_X7_trace) 23 = .ok (.goto 5, 3) := by decide +kernel
theorem DM_X7_trace_26 : decode (mC M_X7_trace) 26 = .ok (.ldc 209, 2) := by decide +kernel
theorem DM_X7_trace_28 : decode (mC M_X7_trace) 28 = .ok (.ireturn, 1) := by decide +kernel
theorem DM_X7_count_0 : decode (mC M_X7_count) 0 = .ok (.iload_n 1, 1) := by decide +kernel
theorem DM_X7_count_1 : decode (mC M_X7_count) 1 = .ok (.tableswitch 134 0 9 #[55, 60, 68, 76, 84, 92, 101, 110, 118, 126], 55) := by decide +kernel
theorem DM_X7_count_56 : decode (mC M_X7_count) 56 = .ok (.aload_n 0, 1) := by decide +kernel
theorem DM_X7_count_57 : decode (mC M_X7_count) 57 = .ok (.invokevirtual 271, 3) := by decide +kernel
theorem DM_X7_count_60 : decode (mC M_X7_count) 60 = .ok (.ireturn, 1) := by decide +kernel
theorem DM_X7_count_61 : decode (mC M_X7_count) 61 = .ok (.aload_n 0, 1) := by decide +kernel
theorem DM_X7_count_62 : decode (mC M_X7_count) 62 = .ok (.getfield 25, 3) := by decide +kernel
theorem DM_X7_count_65 : decode (mC M_X7_count) 65 = .ok (.getfield 137, 3) := by decide +kernel
theorem DM_X7_count_68 : decode (mC M_X7_count) 68 = .ok (.ireturn, 1) := by decide +kernel
theorem DM_X7_count_69 : decode (mC M_X7_count) 69 = .ok (.aload_n 0, 1) := by decide +kernel
theorem DM_X7_count_70 : decode (mC M_X7_count) 70 = .ok (.getfield 25, 3) := by decide +kernel
theorem DM_X7_count_73 : decode (mC M_X7_count) 73 = .ok (.getfield 274, 3) := by decide +kernel
theorem DM_X7_count_76 : decode (mC M_X7_count) 76 = .ok (.ireturn, 1) := by decide +kernel
theorem DM_X7_count_77 : decode (mC M_X7_count) 77 = .ok (.aload_n 0, 1) := by decide +kernel
theorem DM_X7_count_78 : decode (mC M_X7_count) 78 = .ok (.getfield 25, 3) := by decide +kernel
theorem DM_X7_count_81 : decode (mC M_X7_count) 81 = .ok (.getfield 277, 3) := by decide +kernel
theorem DM_X7_count_84 : decode (mC M_X7_count) 84 = .ok (.ireturn, 1) := by decide +kernel
theorem DM_X7_count_85 : decode (mC M_X7_count) 85 = .ok (.aload_n 0, 1) := by decide +kernel
theorem DM_X7_count_86 : decode (mC M_X7_count) 86 = .ok (.getfield 25, 3) := by decide +kernel
theorem DM_X7_count_89 : decode (mC M_X7_count) 89 = .ok (.getfield 145, 3) := by decide +kernel
theorem DM_X7_count_92 : decode (mC M_X7_count) 92 = .ok (.ireturn, 1) := by decide +kernel
theorem DM_X7_count_93 : decode (mC M_X7_count) 93 = .ok (.aload_n 0, 1) := by decide +kernel
theorem DM_X7_count_94 : decode (mC M_X7_count) 94 = .ok (.getfield 25, 3) := by decide +kernel
theorem DM_X7_count_97 : decode (mC M_X7_count) 97 = .ok (.iconst 0, 1) := by decide +kernel
theorem DM_X7_count_98 : decode (mC M_X7_count) 98 = .ok (.invokevirtual 154, 3) := by decide +kernel
theorem DM_X7_count_101 : decode (mC M_X7_count) 101 = .ok (.ireturn, 1) := by decide +kernel
theorem DM_X7_count_102 : decode (mC M_X7_count) 102 = .ok (.aload_n 0, 1) := by decide +kernel
theorem DM_X7_count_103 : decode (mC M_X7_count) 103 = .ok (.getfield 25, 3) := by decide +kernel
theorem DM_X7_count_106 : decode (mC M_X7_count) 106 = .ok (.iconst 1, 1) := by decide +kernel
theorem DM_X7_count_107 : decode (mC M_X7_count) 107 = .ok (.invokevirtual 154, 3) := by decide +kernel
theorem DM_X7_count_110 : decode (mC M_X7_count) 110 = .ok (.ireturn, 1) := by decide +kernel
theorem DM_X7_count_111 : decode (mC M_X7_count) 111 = .ok (.aload_n 0, 1) := by decide +kernel
theorem DM_X7_count_112 : decode (mC M_X7_count) 112 = .ok (.getfield 25, 3) := by decide +kernel
theorem DM_X7_count_115 : decode (mC M_X7_count) 115 = .ok (.getfield 177, 3) := by decide +kernel
theorem DM_X7_count_118 : decode (mC M_X7_count) 118 = .ok (.ireturn, 1) := by decide +kernel
theorem DM_X7_count_119 : decode (mC M_X7_count) 119 = .ok (.aload_n 0, 1) := by decide +kernel
theorem DM_X7_count_120 : decode (mC M_X7_count) 120 = .ok (.getfield 39, 3) := by decide +kernel
theorem DM_X7_count_123 : decode (mC M_X7_count) 123 = .ok (.getfield 183, 3) := by decide +kernel
theorem DM_X7_count_126 : decode (mC M_X7_count) 126 = .ok (.ireturn, 1) := by decide +kernel
theorem DM_X7_count_127 : decode (mC M_X7_count) 127 = .ok (.aload_n 0, 1) := by decide +kernel
theorem DM_X7_count_128 : decode (mC M_X7_count) 128 = .ok (.getfield 18, 3) := by decide +kernel
theorem DM_X7_count_131 : decode (mC M_X7_count) 131 = .ok (.getfield 108, 3) := by decide +kernel
theorem DM_X7_count_134 : decode (mC M_X7_count) 134 = .ok (.ireturn, 1) := by decide +kernel
theorem DM_X7_count_135 : decode (mC M_X7_count) 135 = .ok (.ldc 69, 2) := by decide +kernel
theorem DM_X7_count_137 : decode (mC M_X7_count) 137 = .ok (.ireturn, 1) := by decide +kernel
theorem DM_X7_status_0 : decode (mC M_X7_status) 0 = .ok (.aload_n 0, 1) := by decide +kernel
theorem DM_X7_status_1 : decode (mC M_X7_status) 1 = .ok (.getfield 280, 3) := by decide +kernel
theorem DM_X7_status_4 : decode (mC M_X7_status) 4 = .ok (.ireturn, 1) := by decide +kernel
theorem DM_X7_isIn_0 : decode (mC M_X7_isIn) 0 = .ok (.iload_n 0, 1) := by decide +kernel
theorem DM_X7_isIn_1 : decode (mC M_X7_isIn) 1 = .ok (.ifCond .lt 12, 3) := by decide +kernel
theorem DM_X7_isIn_4 : decode (mC M_X7_isIn) 4 = .ok (.iload_n 0, 1) := by decide +kernel
theorem DM_X7_isIn_5 : decode (mC M_X7_isIn) 5 = .ok (.iload_n 1, 1) := by decide +kernel
theorem DM_X7_isIn_6 : decode (mC M_X7_isIn) 6 = .ok (.if_icmp .ge 7, 3) := by decide +kernel
theorem DM_X7_isIn_9 : decode (mC M_X7_isIn) 9 = .ok (.iconst 1, 1) := by decide +kernel
theorem DM_X7_isIn_10 : decode (mC M_X7_isIn) 10 = .ok (.goto 4, 3) := by decide +kernel
theorem DM_X7_isIn_13 : decode (mC M_X7_isIn) 13 = .ok (.iconst 0, 1) := by decide +kernel
theorem DM_X7_isIn_14 : decode (mC M_X7_isIn) 14 = .ok (.ireturn, 1) := by decide +kernel
theorem DM_X7_isOfKind_0 : decode (mC M_X7_isOfKind) 0 = .ok (.iload_n 0, 1) := by decide +kernel
theorem DM_X7_isOfKind_1 : decode (mC M_X7_isOfKind) 1 = .ok (.istore_n 2, 1) := by decide +kernel
theorem DM_X7_isOfKind_2 : decode (mC M_X7_isOfKind) 2 = .ok (.iconst 0, 1) := by decide +kernel
theorem DM_X7_isOfKind_3 : decode (mC M_X7_isOfKind) 3 = .ok (.istore_n 3, 1) := by decide +kernel
theorem DM_X7_isOfKind_4 : decode (mC M_X7_isOfKind) 4 = .ok (.iload_n 3, 1) := by decide +kernel
theorem DM_X7_isOfKind_5 : decode (mC M_X7_isOfKind) 5 = .ok (.bipush 6, 2) := by decide +kernel
theorem DM_X7_isOfKind_7 : decode (mC M_X7_isOfKind) 7 = .ok (.if_icmp .ge 31, 3) := by decide +kernel
theorem DM_X7_isOfKind_10 : decode (mC M_X7_isOfKind) 10 = .ok (.iload_n 2, 1) := by decide +kernel
theorem DM_X7_isOfKind_11 : decode (mC M_X7_isOfKind) 11 = .ok (.bipush 6, 2) := by decide +kernel
theorem DM_X7_isOfKind_13 : decode (mC M_X7_isOfKind) 13 = .ok (.invokestatic 65, 3) := by decide +kernel
theorem DM_X7_isOfKind_16 : decode (mC M_X7_isOfKind) 16 = .ok (.ifCond .eq 22, 3) := by decide +kernel
theorem DM_X7_isOfKind_19 : decode (mC M_X7_isOfKind) 19 = .ok (.iload_n 2, 1) := by decide +kernel
theorem DM_X7_isOfKind_20 : decode (mC M_X7_isOfKind) 20 = .ok (.iload_n 1, 1) := by decide +kernel
theorem DM_X7_isOfKind_21 : decode (mC M_X7_isOfKind) 21 = .ok (.if_icmp .ne 5, 3) := by decide +kernel
theorem DM_X7_isOfKind_24 : decode (mC M_X7_isOfKind) 24 = .ok (.iconst 1, 1) := by decide +kernel
theorem DM_X7_isOfKind_25 : decode (mC M_X7_isOfKind) 25 = .ok (.ireturn, 1) := by decide +kernel
theorem DM_X7_isOfKind_26 : decode (mC M_X7_isOfKind) 26 = .ok (.getstatic 283, 3) := by decide +kernel
theorem DM_X7_isOfKind_29 : decode (mC M_X7_isOfKind) 29 = .ok (.iload_n 2, 1) := by decide +kernel
theorem DM_X7_isOfKind_30 : decode (mC M_X7_isOfKind) 30 = .ok (.iaload, 1) := by decide +kernel
theorem DM_X7_isOfKind_31 : decode (mC M_X7_isOfKind) 31 = .ok (.istore_n 2, 1) := by decide +kernel
theorem DM_X7_isOfKind_32 : decode (mC M_X7_isOfKind) 32 = .ok (.iinc 3 1, 3) := by decide +kernel
theorem DM_X7_isOfKind_35 : decode (mC M_X7_isOfKind) 35 = .ok (.goto (-31), 3) := by decide +kernel
theorem DM_X7_isOfKind_38 : decode (mC M_X7_isOfKind) 38 = .ok (.iconst 0, 1) := by decide +kernel
theorem DM_X7_isOfKind_39 : decode (mC M_X7_isOfKind) 39 = .ok (.ireturn, 1) := by decide +kernel
theorem DM_X7_found_0 : decode (mC M_X7_found) 0 = .ok (.aload_n 0, 1) := by decide +kernel
theorem DM_X7_found_1 : decode (mC M_X7_found) 1 = .ok (.iload_n 1, 1) := by decide +kernel
theorem DM_X7_found_2 : decode (mC M_X7_found) 2 = .ok (.putfield 280, 3) := by decide +kernel
theorem DM_X7_found_5 : decode (mC M_X7_found) 5 = .ok (.ldc_w 286, 3) := by decide +kernel
theorem DM_X7_found_8 : decode (mC M_X7_found) 8 = .ok (.iload_n 1, 1) := by decide +kernel
theorem DM_X7_found_9 : decode (mC M_X7_found) 9 = .ok (.isub, 1) := by decide +kernel
theorem DM_X7_found_10 : decode (mC M_X7_found) 10 = .ok (.ireturn, 1) := by decide +kernel
theorem DM_X7_unfound_0 : decode (mC M_X7_unfound) 0 = .ok (.aload_n 0, 1) := by decide +kernel
theorem DM_X7_unfound_1 : decode (mC M_X7_unfound) 1 = .ok (.iconst 0, 1) := by decide +kernel
theorem DM_X7_unfound_2 : decode (mC M_X7_unfound) 2 = .ok (.putfield 280, 3) := by decide +kernel
theorem DM_X7_unfound_5 : decode (mC M_X7_unfound) 5 = .ok (.iload_n 1, 1) := by decide +kernel
theorem DM_X7_unfound_6 : decode (mC M_X7_unfound) 6 = .ok (.ireturn, 1) := by decide +kernel
theorem DM_X7_isPerson_0 : decode (mC M_X7_isPerson) 0 = .ok (.iload_n 1, 1) := by decide +kernel
theorem DM_X7_isPerson_1 : decode (mC M_X7_isPerson) 1 = .ok (.aload_n 0, 1) := by decide +kernel
theorem DM_X7_isPerson_2 : decode (mC M_X7_isPerson) 2 = .ok (.getfield 25, 3) := by decide +kernel
theorem DM_X7_isPerson_5 : decode (mC M_X7_isPerson) 5 = .ok (.getfield 137, 3) := by decide +kernel
theorem DM_X7_isPerson_8 : decode (mC M_X7_isPerson) 8 = .ok (.invokestatic 65, 3) := by decide +kernel
theorem DM_X7_isPerson_11 : decode (mC M_X7_isPerson) 11 = .ok (.ireturn, 1) := by decide +kernel
theorem DM_X7_isPlaceOfName_0 : decode (mC M_X7_isPlaceOfName) 0 = .ok (.aload_n 0, 1) := by decide +kernel
theorem DM_X7_isPlaceOfName_1 : decode (mC M_X7_isPlaceOfName) 1 = .ok (.iload_n 1, 1) := by decide +kernel
theorem DM_X7_isPlaceOfName_2 : decode (mC M_X7_isPlaceOfName) 2 = .ok (.invokevirtual 187, 3) := by decide +kernel
theorem DM_X7_isPlaceOfName_5 : decode (mC M_X7_isPlaceOfName) 5 = .ok (.ifCond .eq 23, 3) := by decide +kernel
theorem DM_X7_isPlaceOfName_8 : decode (mC M_X7_isPlaceOfName) 8 = .ok (.iload_n 2, 1) := by decide +kernel
theorem DM_X7_isPlaceOfName_9 : decode (mC M_X7_isPlaceOfName) 9 = .ok (.aload_n 0, 1) := by decide +kernel
theorem DM_X7_isPlaceOfName_10 : decode (mC M_X7_isPlaceOfName) 10 = .ok (.getfield 25, 3) := by decide +kernel
theorem DM_X7_isPlaceOfName_13 : decode (mC M_X7_isPlaceOfName) 13 = .ok (.getfield 197, 3) := by decide +kernel
theorem DM_X7_isPlaceOfName_16 : decode (mC M_X7_isPlaceOfName) 16 = .ok (.iload_n 1, 1) := by decide +kernel
theorem DM_X7_isPlaceOfName_17 : decode (mC M_X7_isPlaceOfName) 17 = .ok (.iaload, 1) := by decide +kernel
theorem DM_X7_isPlaceOfName_18 : decode (mC M_X7_isPlaceOfName) 18 = .ok (.invokestatic 65, 3) := by decide +kernel
theorem DM_X7_isPlaceOfName_21 : decode (mC M_X7_isPlaceOfName) 21 = .ok (.ifCond .eq 7, 3) := by decide +kernel
theorem DM_X7_isPlaceOfName_24 : decode (mC M_X7_isPlaceOfName) 24 = .ok (.iconst 1, 1) := by decide +kernel
theorem DM_X7_isPlaceOfName_25 : decode (mC M_X7_isPlaceOfName) 25 = .ok (.goto 4, 3) := by decide +kernel
theorem DM_X7_isPlaceOfName_28 : decode (mC M_X7_isPlaceOfName) 28 = .ok (.iconst 0, 1) := by decide +kernel
theorem DM_X7_isPlaceOfName_29 : decode (mC M_X7_isPlaceOfName) 29 = .ok (.ireturn, 1) := by decide +kernel
theorem DM_X7_howManyRows_0 : decode (mC M_X7_howManyRows) 0 = .ok (.iconst 0, 1) := by decide +kernel
theorem DM_X7_howManyRows_1 : decode (mC M_X7_howManyRows) 1 = .ok (.istore_n 1, 1) := by decide +kernel
theorem DM_X7_howManyRows_2 : decode (mC M_X7_howManyRows) 2 = .ok (.iconst 0, 1) := by decide +kernel
theorem DM_X7_howManyRows_3 : decode (mC M_X7_howManyRows) 3 = .ok (.istore_n 2, 1) := by decide +kernel
theorem DM_X7_howManyRows_4 : decode (mC M_X7_howManyRows) 4 = .ok (.iload_n 2, 1) := by decide +kernel
theorem DM_X7_howManyRows_5 : decode (mC M_X7_howManyRows) 5 = .ok (.bipush 8, 2) := by decide +kernel
theorem DM_X7_howManyRows_7 : decode (mC M_X7_howManyRows) 7 = .ok (.if_icmp .ge 24, 3) := by decide +kernel
theorem DM_X7_howManyRows_10 : decode (mC M_X7_howManyRows) 10 = .ok (.aload_n 0, 1) := by decide +kernel
theorem DM_X7_howManyRows_11 : decode (mC M_X7_howManyRows) 11 = .ok (.getfield 11, 3) := by decide +kernel
theorem DM_X7_howManyRows_14 : decode (mC M_X7_howManyRows) 14 = .ok (.iload_n 2, 1) := by decide +kernel
theorem DM_X7_howManyRows_15 : decode (mC M_X7_howManyRows) 15 = .ok (.aaload, 1) := by decide +kernel
theorem DM_X7_howManyRows_16 : decode (mC M_X7_howManyRows) 16 = .ok (.invokevirtual 81, 3) := by decide +kernel
theorem DM_X7_howManyRows_19 : decode (mC M_X7_howManyRows) 19 = .ok (.ifCond .ne 6, 3) := by decide +kernel
theorem DM_X7_howManyRows_22 : decode (mC M_X7_howManyRows) 22 = .ok (.iinc 1 1, 3) := by decide +kernel
theorem DM_X7_howManyRows_25 : decode (mC M_X7_howManyRows) 25 = .ok (.iinc 2 1, 3) := by decide +kernel
theorem DM_X7_howManyRows_28 : decode (mC M_X7_howManyRows) 28 = .ok (.goto (-24), 3) := by decide +kernel
theorem DM_X7_howManyRows_31 : decode (mC M_X7_howManyRows) 31 = .ok (.iload_n 1, 1) := by decide +kernel
theorem DM_X7_howManyRows_32 : decode (mC M_X7_howManyRows) 32 = .ok (.ireturn, 1) := by decide +kernel
theorem DM_X7_foretell_0 : decode (mC M_X7_foretell) 0 = .ok (.aload_n 0, 1) := by decide +kernel
theorem DM_X7_foretell_1 : decode (mC M_X7_foretell) 1 = .ok (.getfield 29, 3) := by decide +kernel
theorem DM_X7_foretell_4 : decode (mC M_X7_foretell) 4 = .ok (.aload_n 0, 1) := by decide +kernel
theorem DM_X7_foretell_5 : decode (mC M_X7_foretell) 5 = .ok (.getfield 25, 3) := by decide +kernel
theorem DM_X7_foretell_8 : decode (mC M_X7_foretell) 8 = .ok (.invokevirtual 130, 3) := by decide +kernel
theorem DM_X7_foretell_11 : decode (mC M_X7_foretell) 11 = .ok (.aload_n 0, 1) := by decide +kernel
theorem DM_X7_foretell_12 : decode (mC M_X7_foretell) 12 = .ok (.getfield 29, 3) := by decide +kernel
theorem DM_X7_foretell_15 : decode (mC M_X7_foretell) 15 = .ok (.aload_n 0, 1) := by decide +kernel
theorem DM_X7_foretell_16 : decode (mC M_X7_foretell) 16 = .ok (.getfield 25, 3) := by decide +kernel
theorem DM_X7_foretell_19 : decode (mC M_X7_foretell) 19 = .ok (.getfield 145, 3) := by decide +kernel
theorem DM_X7_foretell_22 : decode (mC M_X7_foretell) 22 = .ok (.sipush 300, 3) := by decide +kernel
theorem DM_X7_foretell_25 : decode (mC M_X7_foretell) 25 = .ok (.iadd, 1) := by decide +kernel
theorem DM_X7_foretell_26 : decode (mC M_X7_foretell) 26 = .ok (.iload_n 1, 1) := by decide +kernel
theorem DM_X7_foretell_27 : decode (mC M_X7_foretell) 27 = .ok (.invokevirtual 148, 3) := by decide +kernel
theorem DM_X7_foretell_30 : decode (mC M_X7_foretell) 30 = .ok (.aload_n 0, 1) := by decide +kernel
theorem DM_X7_foretell_31 : decode (mC M_X7_foretell) 31 = .ok (.getfield 29, 3) := by decide +kernel
theorem DM_X7_foretell_34 : decode (mC M_X7_foretell) 34 = .ok (.areturn, 1) := by decide +kernel
theorem DM_X7_areAllPeople_0 : decode (mC M_X7_areAllPeople) 0 = .ok (.iconst 0, 1) := by decide +kernel
theorem DM_X7_areAllPeople_1 : decode (mC M_X7_areAllPeople) 1 = .ok (.istore 4, 2) := by decide +kernel
theorem DM_X7_areAllPeople_3 : decode (mC M_X7_areAllPeople) 3 = .ok (.iload 4, 2) := by decide +kernel
theorem DM_X7_areAllPeople_5 : decode (mC M_X7_areAllPeople) 5 = .ok (.iload_n 3, 1) := by decide +kernel
theorem DM_X7_areAllPeople_6 : decode (mC M_X7_areAllPeople) 6 = .ok (.if_icmp .ge 27, 3) := by decide +kernel
theorem DM_X7_areAllPeople_9 : decode (mC M_X7_areAllPeople) 9 = .ok (.aload_n 0, 1) := by decide +kernel
theorem DM_X7_areAllPeople_10 : decode (mC M_X7_areAllPeople) 10 = .ok (.aload_n 1, 1) := by decide +kernel
theorem DM_X7_areAllPeople_11 : decode (mC M_X7_areAllPeople) 11 = .ok (.getfield 89, 3) := by decide +kernel
theorem DM_X7_areAllPeople_14 : decode (mC M_X7_areAllPeople) 14 = .ok (.iload_n 2, 1) := by decide +kernel
theorem DM_X7_areAllPeople_15 : decode (mC M_X7_areAllPeople) 15 = .ok (.iload 4, 2) := by decide +kernel
theorem DM_X7_areAllPeople_17 : decode (mC M_X7_areAllPeople) 17 = .ok (.iadd, 1) := by decide +kernel
theorem DM_X7_areAllPeople_18 : decode (mC M_X7_areAllPeople) 18 = .ok (.iaload, 1) := by decide +kernel
theorem DM_X7_areAllPeople_19 : decode (mC M_X7_areAllPeople) 19 = .ok (.invokevirtual 187, 3) := by decide +kernel
theorem DM_X7_areAllPeople_22 : decode (mC M_X7_areAllPeople) 22 = .ok (.ifCond .ne 5, 3) := by decide +kernel
theorem DM_X7_areAllPeople_25 : decode (mC M_X7_areAllPeople) 25 = .ok (.iconst 0, 1) := by decide +kernel
theorem DM_X7_areAllPeople_26 : decode (mC M_X7_areAllPeople) 26 = .ok (.ireturn, 1) := by decide +kernel
theorem DM_X7_areAllPeople_27 : decode (mC M_X7_areAllPeople) 27 = .ok (.iinc 4 1, 3) := by decide +kernel
theorem DM_X7_areAllPeople_30 : decode (mC M_X7_areAllPeople) 30 = .ok (.goto (-27), 3) := by decide +kernel
theorem DM_X7_areAllPeople_33 : decode (mC M_X7_areAllPeople) 33 = .ok (.iconst 1, 1) := by decide +kernel
theorem DM_X7_areAllPeople_34 : decode (mC M_X7_areAllPeople) 34 = .ok (.ireturn, 1) := by decide +kernel
theorem DM_X7_areSeatedNext_0 : decode (mC M_X7_areSeatedNext) 0 = .ok (.aload_n 0, 1) := by decide +kernel
theorem DM_X7_areSeatedNext_1 : decode (mC M_X7_areSeatedNext) 1 = .ok (.getfield 29, 3) := by decide +kernel
theorem DM_X7_areSeatedNext_4 : decode (mC M_X7_areSeatedNext) 4 = .ok (.aload_n 0, 1) := by decide +kernel
theorem DM_X7_areSeatedNext_5 : decode (mC M_X7_areSeatedNext) 5 = .ok (.getfield 25, 3) := by decide +kernel
theorem DM_X7_areSeatedNext_8 : decode (mC M_X7_areSeatedNext) 8 = .ok (.invokevirtual 130, 3) := by decide +kernel
theorem DM_X7_areSeatedNext_11 : decode (mC M_X7_areSeatedNext) 11 = .ok (.aload_n 0, 1) := by decide +kernel
theorem DM_X7_areSeatedNext_12 : decode (mC M_X7_areSeatedNext) 12 = .ok (.getfield 29, 3) := by decide +kernel
theorem DM_X7_areSeatedNext_15 : decode (mC M_X7_areSeatedNext) 15 = .ok (.aload_n 0, 1) := by decide +kernel
theorem DM_X7_areSeatedNext_16 : decode (mC M_X7_areSeatedNext) 16 = .ok (.getfield 25, 3) := by decide +kernel
theorem DM_X7_areSeatedNext_19 : decode (mC M_X7_areSeatedNext) 19 = .ok (.getfield 145, 3) := by decide +kernel
theorem DM_X7_areSeatedNext_22 : decode (mC M_X7_areSeatedNext) 22 = .ok (.iconst 1, 1) := by decide +kernel
theorem DM_X7_areSeatedNext_23 : decode (mC M_X7_areSeatedNext) 23 = .ok (.iadd, 1) := by decide +kernel
theorem DM_X7_areSeatedNext_24 : decode (mC M_X7_areSeatedNext) 24 = .ok (.iload 4, 2) := by decide +kernel
theorem DM_X7_areSeatedNext_26 : decode (mC M_X7_areSeatedNext) 26 = .ok (.invokevirtual 148, 3) := by decide +kernel
theorem DM_X7_areSeatedNext_29 : decode (mC M_X7_areSeatedNext) 29 = .ok (.aload_n 0, 1) := by decide +kernel
theorem DM_X7_areSeatedNext_30 : decode (mC M_X7_areSeatedNext) 30 = .ok (.getfield 29, 3) := by decide +kernel
theorem DM_X7_areSeatedNext_33 : decode (mC M_X7_areSeatedNext) 33 = .ok (.getfield 287, 3) := by decide +kernel
theorem DM_X7_areSeatedNext_36 : decode (mC M_X7_areSeatedNext) 36 = .ok (.iload_n 3, 1) := by decide +kernel
theorem DM_X7_areSeatedNext_37 : decode (mC M_X7_areSeatedNext) 37 = .ok (.if_icmp .eq 5, 3) := by decide +kernel
theorem DM_X7_areSeatedNext_40 : decode (mC M_X7_areSeatedNext) 40 = .ok (.iconst 0, 1) := by decide +kernel
theorem DM_X7_areSeatedNext_41 : decode (mC M_X7_areSeatedNext) 41 = .ok (.ireturn, 1) := by decide +kernel
theorem DM_X7_areSeatedNext_42 : decode (mC M_X7_areSeatedNext) 42 = .ok (.iconst 0, 1) := by decide +kernel
theorem DM_X7_areSeatedNext_43 : decode (mC M_X7_areSeatedNext) 43 = .ok (.istore 5, 2) := by decide +kernel
theorem DM_X7_areSeatedNext_45 : decode (mC M_X7_areSeatedNext) 45 = .ok (.iload 5, 2) := by decide +kernel
theorem DM_X7_areSeatedNext_47 : decode (mC M_X7_areSeatedNext) 47 = .ok (.iload_n 3, 1) := by decide +kernel
theorem DM_X7_areSeatedNext_48 : decode (mC M_X7_areSeatedNext) 48 = .ok (.if_icmp .ge 33, 3) := by decide +kernel
theorem DM_X7_areSeatedNext_51 : decode (mC M_X7_areSeatedNext) 51 = .ok (.aload_n 0, 1) := by decide +kernel
theorem DM_X7_areSeatedNext_52 : decode (mC M_X7_areSeatedNext) 52 = .ok (.getfield 29, 3) := by decide +kernel
theorem DM_X7_areSeatedNext_55 : decode (mC M_X7_areSeatedNext) 55 = .ok (.getfield 290, 3) := by decide +kernel
theorem DM_X7_areSeatedNext_58 : decode (mC M_X7_areSeatedNext) 58 = .ok (.iload 5, 2) := by decide +kernel
theorem DM_X7_areSeatedNext_60 : decode (mC M_X7_areSeatedNext) 60 = .ok (.iaload, 1) := by decide +kernel
theorem DM_X7_areSeatedNext_61 : decode (mC M_X7_areSeatedNext) 61 = .ok (.aload_n 1, 1) := by decide +kernel
theorem DM_X7_areSeatedNext_62 : decode (mC M_X7_areSeatedNext) 62 = .ok (.getfield 89, 3) := by decide +kernel
theorem DM_X7_areSeatedNext_65 : decode (mC M_X7_areSeatedNext) 65 = .ok (.iload_n 2, 1) := by decide +kernel
theorem DM_X7_areSeatedNext_66 : decode (mC M_X7_areSeatedNext) 66 = .ok (.iload 5, 2) := by decide +kernel
theorem DM_X7_areSeatedNext_68 : decode (mC M_X7_areSeatedNext) 68 = .ok (.iadd, 1) := by decide +kernel
theorem DM_X7_areSeatedNext_69 : decode (mC M_X7_areSeatedNext) 69 = .ok (.iaload, 1) := by decide +kernel
theorem DM_X7_areSeatedNext_70 : decode (mC M_X7_areSeatedNext) 70 = .ok (.if_icmp .eq 5, 3) := by decide +kernel
theorem DM_X7_areSeatedNext_73 : decode (mC M_X7_areSeatedNext) 73 = .ok (.iconst 0, 1) := by decide +kernel
theorem DM_X7_areSeatedNext_74 : decode (mC M_X7_areSeatedNext) 74 = .ok (.ireturn, 1) := by decide +kernel
theorem DM_X7_areSeatedNext_75 : decode (mC M_X7_areSeatedNext) 75 = .ok (.iinc 5 1, 3) := by decide +kernel
theorem DM_X7_areSeatedNext_78 : decode (mC M_X7_areSeatedNext) 78 = .ok (.goto (-33), 3) := by decide +kernel
theorem DM_X7_areSeatedNext_81 : decode (mC M_X7_areSeatedNext) 81 = .ok (.iconst 1, 1) := by decide +kernel
theorem DM_X7_areSeatedNext_82 : decode (mC M_X7_areSeatedNext) 82 = .ok (.ireturn, 1) := by decide +kernel
theorem DM_X8_init_0 : decode (mC M_X8_init) 0 = .ok (.aload_n 0, 1) := by decide +kernel
theorem DM_X8_init_1 : decode (mC M_X8_init) 1 = .ok (.invokespecial 1, 3) := by decide +kernel
theorem DM_X8_init_4 : decode (mC M_X8_init) 4 = .ok (.aload_n 0, 1) := by decide +kernel
theorem DM_X8_init_5 : decode (mC M_X8_init) 5 = .ok (.bipush 8, 2) := by decide +kernel
theorem DM_X8_init_7 : decode (mC M_X8_init) 7 = .ok (.newarray .int, 2) := by decide +kernel
theorem DM_X8_init_9 : decode (mC M_X8_init) 9 = .ok (.putfield 7, 3) := by decide +kernel
theorem DM_X8_init_12 : decode (mC M_X8_init) 12 = .ok (.aload_n 0, 1) := by decide +kernel
theorem DM_X8_init_13 : decode (mC M_X8_init) 13 = .ok (.bipush 8, 2) := by decide +kernel
theorem DM_X8_init_15 : decode (mC M_X8_init) 15 = .ok (.newarray .int, 2) := by decide +kernel
theorem DM_X8_init_17 : decode (mC M_X8_init) 17 = .ok (.putfield 13, 3) := by decide +kernel
theorem DM_X8_init_20 : decode (mC M_X8_init) 20 = .ok (.aload_n 0, 1) := by decide +kernel
theorem DM_X8_init_21 : decode (mC M_X8_init) 21 = .ok (.sipush 320, 3) := by decide +kernel
theorem DM_X8_init_24 : decode (mC M_X8_init) 24 = .ok (.newarray .int, 2) := by decide +kernel
theorem DM_X8_init_26 : decode (mC M_X8_init) 26 = .ok (.putfield 16, 3) := by decide +kernel
theorem DM_X8_init_29 : decode (mC M_X8_init) 29 = .ok (.aload_n 0, 1) := by decide +kernel
theorem DM_X8_init_30 : decode (mC M_X8_init) 30 = .ok (.bipush 40, 2) := by decide +kernel
theorem DM_X8_init_32 : decode (mC M_X8_init) 32 = .ok (.newarray .int, 2) := by decide +kernel
theorem DM_X8_init_34 : decode (mC M_X8_init) 34 = .ok (.putfield 19, 3) := by decide +kernel
theorem DM_X8_init_37 : decode (mC M_X8_init) 37 = .ok (.aload_n 0, 1) := by decide +kernel
theorem DM_X8_init_38 : decode (mC M_X8_init) 38 = .ok (.bipush 120, 2) := by decide +kernel
theorem DM_X8_init_40 : decode (mC M_X8_init) 40 = .ok (.newarray .int, 2) := by decide +kernel
theorem DM_X8_init_42 : decode (mC M_X8_init) 42 = .ok (.putfield 22, 3) := by decide +kernel
theorem DM_X8_init_45 : decode (mC M_X8_init) 45 = .ok (.aload_n 0, 1) := by decide +kernel
theorem DM_X8_init_46 : decode (mC M_X8_init) 46 = .ok (.bipush 91, 2) := by decide +kernel
theorem DM_X8_init_48 : decode (mC M_X8_init) 48 = .ok (.newarray .int, 2) := by decide +kernel
theorem DM_X8_init_50 : decode (mC M_X8_init) 50 = .ok (.putfield 25, 3) := by decide +kernel
theorem DM_X8_init_53 : decode (mC M_X8_init) 53 = .ok (.aload_n 0, 1) := by decide +kernel
theorem DM_X8_init_54 : decode (mC M_X8_init) 54 = .ok (.bipush 91, 2) := by decide +kernel
theorem DM_X8_init_56 : decode (mC M_X8_init) 56 = .ok (.newarray .int, 2) := by decide +kernel
theorem DM_X8_init_58 : decode (mC M_X8_init) 58 = .ok (.putfield 28, 3) := by decide +kernel
theorem DM_X8_init_61 : decode (mC M_X8_init) 61 = .ok (.aload_n 0, 1) := by decide +kernel
theorem DM_X8_init_62 : decode (mC M_X8_init) 62 = .ok (.bipush 91, 2) := by decide +kernel
theorem DM_X8_init_64 : decode (mC M_X8_init) 64 = .ok (.newarray .int, 2) := by decide +kernel
theorem DM_X8_init_66 : decode (mC M_X8_init) 66 = .ok (.putfield 31, 3) := by decide +kernel
theorem DM_X8_init_69 : decode (mC M_X8_init) 69 = .ok (.aload_n 0, 1) := by decide +kernel
theorem DM_X8_init_70 : decode (mC M_X8_init) 70 = .ok (.sipush 2184, 3) := by decide +kernel
theorem DM_X8_init_73 : decode (mC M_X8_init) 73 = .ok (.newarray .int, 2) := by decide +kernel
theorem DM_X8_init_75 : decode (mC M_X8_init) 75 = .ok (.putfield 34, 3) := by decide +kernel
theorem DM_X8_init_78 : decode (mC M_X8_init) 78 = .ok (.aload_n 0, 1) := by decide +kernel
theorem DM_X8_init_79 : decode (mC M_X8_init) 79 = .ok (.sipush 182, 3) := by decide +kernel
theorem DM_X8_init_82 : decode (mC M_X8_init) 82 = .ok (.newarray .int, 2) := by decide +kernel
theorem DM_X8_init_84 : decode (mC M_X8_init) 84 = .ok (.putfield 37, 3) := by decide +kernel
theorem DM_X8_init_87 : decode (mC M_X8_init) 87 = .ok (.aload_n 0, 1) := by decide +kernel
theorem DM_X8_init_88 : decode (mC M_X8_init) 88 = .ok (.iconst 2, 1) := by decide +kernel
theorem DM_X8_init_89 : decode (mC M_X8_init) 89 = .ok (.newarray .boolean, 2) := by decide +kernel
theorem DM_X8_init_91 : decode (mC M_X8_init) 91 = .ok (.putfield 40, 3) := by decide +kernel
theorem DM_X8_init_94 : decode (mC M_X8_init) 94 = .ok (.aload_n 0, 1) := by decide +kernel
theorem DM_X8_init_95 : decode (mC M_X8_init) 95 = .ok (.bipush 16, 2) := by decide +kernel
theorem DM_X8_init_97 : decode (mC M_X8_init) 97 = .ok (.newarray .int, 2) := by decide +kernel
theorem DM_X8_init_99 : decode (mC M_X8_init) 99 = .ok (.putfield 44, 3) := by decide +kernel
theorem DM_X8_init_102 : decode (mC M_X8_init) 102 = .ok (.aload_n 0, 1) := by decide +kernel
theorem DM_X8_init_103 : decode (mC M_X8_init) 103 = .ok (.bipush 6, 2) := by decide +kernel
theorem DM_X8_init_105 : decode (mC M_X8_init) 105 = .ok (.newarray .int, 2) := by decide +kernel
theorem DM_X8_init_107 : decode (mC M_X8_init) 107 = .ok (.putfield 47, 3) := by decide +kernel
theorem DM_X8_init_110 : decode (mC M_X8_init) 110 = .ok (.aload_n 0, 1) := by decide +kernel
theorem DM_X8_init_111 : decode (mC M_X8_init) 111 = .ok (.bipush 6, 2) := by decide +kernel
theorem DM_X8_init_113 : decode (mC M_X8_init) 113 = .ok (.newarray .int, 2) := by decide +kernel
theorem DM_X8_init_115 : decode (mC M_X8_init) 115 = .ok (.putfield 50, 3) := by decide +kernel
theorem DM_X8_init_118 : decode (mC M_X8_init) 118 = .ok (.aload_n 0, 1) := by decide +kernel
theorem DM_X8_init_119 : decode (mC M_X8_init) 119 = .ok (.bipush 6, 2) := by decide +kernel
theorem DM_X8_init_121 : decode (mC M_X8_init) 121 = .ok (.newarray .int, 2) := by decide +kernel
theorem DM_X8_init_123 : decode (mC M_X8_init) 123 = .ok (.putfield 53, 3) := by decide +kernel
theorem DM_X8_init_126 : decode (mC M_X8_init) 126 = .ok (.aload_n 0, 1) := by decide +kernel
theorem DM_X8_init_127 : decode (mC M_X8_init) 127 = .ok (.bipush 6, 2) := by decide +kernel
theorem DM_X8_init_129 : decode (mC M_X8_init) 129 = .ok (.newarray .int, 2) := by decide +kernel
theorem DM_X8_init_131 : decode (mC M_X8_init) 131 = .ok (.putfield 56, 3) := by decide +kernel
theorem DM_X8_init_134 : decode (mC M_X8_init) 134 = .ok (.iconst 0, 1) := by decide +kernel
theorem DM_X8_init_135 : decode (mC M_X8_init) 135 = .ok (.istore_n 1, 1) := by decide +kernel
theorem DM_X8_init_136 : decode (mC M_X8_init) 136 = .ok (.iload_n 1, 1) := by decide +kernel
theorem DM_X8_init_137 : decode (mC M_X8_init) 137 = .ok (.bipush 8, 2) := by decide +kernel
theorem DM_X8_init_139 : decode (mC M_X8_init) 139 = .ok (.if_icmp .ge 17, 3) := by decide +kernel
theorem DM_X8_init_142 : decode (mC M_X8_init) 142 = .ok (.aload_n 0, 1) := by decide +kernel
theorem DM_X8_init_143 : decode (mC M_X8_init) 143 = .ok (.getfield 7, 3) := by decide +kernel
theorem DM_X8_init_146 : decode (mC M_X8_init) 146 = .ok (.iload_n 1, 1) := by decide +kernel
theorem DM_X8_init_147 : decode (mC M_X8_init) 147 = .ok (.ldc 59, 2) := by decide +kernel
theorem DM_X8_init_149 : decode (mC M_X8_init) 149 = .ok (.iastore, 1) := by decide +kernel
theorem DM_X8_init_150 : decode (mC M_X8_init) 150 = .ok (.iinc 1 1, 3) := by decide +kernel
theorem DM_X8_init_153 : decode (mC M_X8_init) 153 = .ok (.goto (-17), 3) := by decide +kernel
theorem DM_X8_init_156 : decode (mC M_X8_init) 156 = .ok (.return_, 1) := by decide +kernel
theorem DM_X8_in_0 : decode (mC M_X8_in) 0 = .ok (.iload_n 0, 1) := by decide +kernel
theorem DM_X8_in_1 : decode (mC M_X8_in) 1 = .ok (.iload_n 1, 1) := by decide +kernel
theorem DM_X8_in_2 : decode (mC M_X8_in) 2 = .ok (.if_icmp .lt 12, 3) := by decide +kernel
theorem DM_X8_in_5 : decode (mC M_X8_in) 5 = .ok (.iload_n 0, 1) := by decide +kernel
theorem DM_X8_in_6 : decode (mC M_X8_in) 6 = .ok (.iload_n 2, 1) := by decide +kernel
theorem DM_X8_in_7 : decode (mC M_X8_in) 7 = .ok (.if_icmp .gt 7, 3) := by decide +kernel
theorem DM_X8_in_10 : decode (mC M_X8_in) 10 = .ok (.iconst 1, 1) := by decide +kernel
theorem DM_X8_in_11 : decode (mC M_X8_in) 11 = .ok (.goto 4, 3) := by decide +kernel
theorem DM_X8_in_14 : decode (mC M_X8_in) 14 = .ok (.iconst 0, 1) := by decide +kernel
theorem DM_X8_in_15 : decode (mC M_X8_in) 15 = .ok (.ireturn, 1) := by decide +kernel
theorem DM_X8_has_0 : decode (mC M_X8_has) 0 = .ok (.iload_n 0, 1) := by decide +kernel
theorem DM_X8_has_1 : decode (mC M_X8_has) 1 = .ok (.iload_n 1, 1) := by decide +kernel
theorem DM_X8_has_2 : decode (mC M_X8_has) 2 = .ok (.ishr, 1) := by decide +kernel
theorem DM_X8_has_3 : decode (mC M_X8_has) 3 = .ok (.iconst 1, 1) := by decide +kernel
theorem DM_X8_has_4 : decode (mC M_X8_has) 4 = .ok (.iand, 1) := by decide +kernel
theorem DM_X8_has_5 : decode (mC M_X8_has) 5 = .ok (.iconst 1, 1) := by decide +kernel
theorem DM_X8_has_6 : decode (mC M_X8_has) 6 = .ok (.if_icmp .ne 7, 3) := by decide +kernel
theorem DM_X8_has_9 : decode (mC M_X8_has) 9 = .ok (.iconst 1, 1) := by decide +kernel
theorem DM_X8_has_10 : decode (mC M_X8_has) 10 = .ok (.goto 4, 3) := by decide +kernel
theorem DM_X8_has_13 : decode (mC M_X8_has) 13 = .ok (.iconst 0, 1) := by decide +kernel
theorem DM_X8_has_14 : decode (mC M_X8_has) 14 = .ok (.ireturn, 1) := by decide +kernel
theorem DM_X8_found_0 : decode (mC M_X8_found) 0 = .ok (.aload_n 0, 1) := by decide +kernel
theorem DM_X8_found_1 : decode (mC M_X8_found) 1 = .ok (.iload_n 1, 1) := by decide +kernel
theorem DM_X8_found_2 : decode (mC M_X8_found) 2 = .ok (.putfield 60, 3) := by decide +kernel
theorem DM_X8_found_5 : decode (mC M_X8_found) 5 = .ok (.ldc 64, 2) := by decide +kernel
theorem DM_X8_found_7 : decode (mC M_X8_found) 7 = .ok (.iload_n 1, 1) := by decide +kernel
theorem DM_X8_found_8 : decode (mC M_X8_found) 8 = .ok (.isub, 1) := by decide +kernel
theorem DM_X8_found_9 : decode (mC M_X8_found) 9 = .ok (.ireturn, 1) := by decide +kernel
theorem DM_X8_well_0 : decode (mC M_X8_well) 0 = .ok (.aload_n 0, 1) := by decide +kernel
theorem DM_X8_well_1 : decode (mC M_X8_well) 1 = .ok (.iconst 0, 1) := by decide +kernel
theorem DM_X8_well_2 : decode (mC M_X8_well) 2 = .ok (.putfield 60, 3) := by decide +kernel
theorem DM_X8_well_5 : decode (mC M_X8_well) 5 = .ok (.iload_n 1, 1) := by decide +kernel
theorem DM_X8_well_6 : decode (mC M_X8_well) 6 = .ok (.ireturn, 1) := by decide +kernel
theorem DM_X8_copies_0 : decode (mC M_X8_copies) 0 = .ok (.iconst 0, 1) := by decide +kernel
theorem DM_X8_copies_1 : decode (mC M_X8_copies) 1 = .ok (.istore 4, 2) := by decide +kernel
theorem DM_X8_copies_3 : decode (mC M_X8_copies) 3 = .ok (.iload 4, 2) := by decide +kernel
theorem DM_X8_copies_5 : decode (mC M_X8_copies) 5 = .ok (.bipush 91, 2) := by decide +kernel
theorem DM_X8_copies_7 : decode (mC M_X8_copies) 7 = .ok (.if_icmp .ge 21, 3) := by decide +kernel
theorem DM_X8_copies_10 : decode (mC M_X8_copies) 10 = .ok (.aload_n 2, 1) := by decide +kernel
theorem DM_X8_copies_11 : decode (mC M_X8_copies) 11 = .ok (.iload_n 3, 1) := by decide +kernel
theorem DM_X8_copies_12 : decode (mC M_X8_copies) 12 = .ok (.iload 4, 2) := by decide +kernel
theorem DM_X8_copies_14 : decode (mC M_X8_copies) 14 = .ok (.iadd, 1) := by decide +kernel
theorem DM_X8_copies_15 : decode (mC M_X8_copies) 15 = .ok (.aload_n 0, 1) := by decide +kernel
theorem DM_X8_copies_16 : decode (mC M_X8_copies) 16 = .ok (.iload_n 1, 1) := by decide +kernel
theorem DM_X8_copies_17 : decode (mC M_X8_copies) 17 = .ok (.iload 4, 2) := by decide +kernel
theorem DM_X8_copies_19 : decode (mC M_X8_copies) 19 = .ok (.iadd, 1) := by decide +kernel
theorem DM_X8_copies_20 : decode (mC M_X8_copies) 20 = .ok (.iaload, 1) := by decide +kernel
theorem DM_X8_copies_21 : decode (mC M_X8_copies) 21 = .ok (.iastore, 1) := by decide +kernel
theorem DM_X8_copies_22 : decode (mC M_X8_copies) 22 = .ok (.iinc 4 1, 3) := by decide +kernel
theorem DM_X8_copies_25 : decode (mC M_X8_copies) 25 = .ok (.goto (-22), 3) := by decide +kernel
theorem DM_X8_copies_28 : decode (mC M_X8_copies) 28 = .ok (.return_, 1) := by decide +kernel
theorem DM_X8_isRow_0 : decode (mC M_X8_isRow) 0 = .ok (.iload_n 0, 1) := by decide +kernel
theorem DM_X8_isRow_1 : decode (mC M_X8_isRow) 1 = .ok (.iconst 0, 1) := by decide +kernel
theorem DM_X8_isRow_2 : decode (mC M_X8_isRow) 2 = .ok (.bipush 7, 2) := by decide +kernel
theorem DM_X8_isRow_4 : decode (mC M_X8_isRow) 4 = .ok (.invokestatic 65, 3) := by decide +kernel
theorem DM_X8_isRow_7 : decode (mC M_X8_isRow) 7 = .ok (.ireturn, 1) := by decide +kernel
theorem DM_X8_isMissing_0 : decode (mC M_X8_isMissing) 0 = .ok (.aload_n 0, 1) := by decide +kernel
theorem DM_X8_isMissing_1 : decode (mC M_X8_isMissing) 1 = .ok (.getfield 7, 3) := by decide +kernel
theorem DM_X8_isMissing_4 : decode (mC M_X8_isMissing) 4 = .ok (.iload_n 1, 1) := by decide +kernel
theorem DM_X8_isMissing_5 : decode (mC M_X8_isMissing) 5 = .ok (.iaload, 1) := by decide +kernel
theorem DM_X8_isMissing_6 : decode (mC M_X8_isMissing) 6 = .ok (.ldc 59, 2) := by decide +kernel
theorem DM_X8_isMissing_8 : decode (mC M_X8_isMissing) 8 = .ok (.if_icmp .ne 7, 3) := by decide +kernel
theorem DM_X8_isMissing_11 : decode (mC M_X8_isMissing) 11 = .ok (.iconst 1, 1) := by decide +kernel
theorem DM_X8_isMissing_12 : decode (mC M_X8_isMissing) 12 = .ok (.goto 4, 3) := by decide +kernel
theorem DM_X8_isMissing_15 : decode (mC M_X8_isMissing) 15 = .ok (.iconst 0, 1) := by decide +kernel
theorem DM_X8_isMissing_16 : decode (mC M_X8_isMissing) 16 = .ok (.ireturn, 1) := by decide +kernel
theorem DM_X8_cut_0 : decode (mC M_X8_cut) 0 = .ok (.iload_n 0, 1) := by decide +kernel
theorem DM_X8_cut_1 : decode (mC M_X8_cut) 1 = .ok (.ifCond .ne 13, 3) := by decide +kernel
theorem DM_X8_cut_4 : decode (mC M_X8_cut) 4 = .ok (.iload_n 1, 1) := by decide +kernel
theorem DM_X8_cut_5 : decode (mC M_X8_cut) 5 = .ok (.bipush 24, 2) := by decide +kernel
theorem DM_X8_cut_7 : decode (mC M_X8_cut) 7 = .ok (.ishl, 1) := by decide +kernel
theorem DM_X8_cut_8 : decode (mC M_X8_cut) 8 = .ok (.bipush 24, 2) := by decide +kernel
theorem DM_X8_cut_10 : decode (mC M_X8_cut) 10 = .ok (.ishr, 1) := by decide +kernel
theorem DM_X8_cut_11 : decode (mC M_X8_cut) 11 = .ok (.goto 19, 3) := by decide +kernel
theorem DM_X8_cut_14 : decode (mC M_X8_cut) 14 = .ok (.iload_n 0, 1) := by decide +kernel
theorem DM_X8_cut_15 : decode (mC M_X8_cut) 15 = .ok (.iconst 1, 1) := by decide +kernel
theorem DM_X8_cut_16 : decode (mC M_X8_cut) 16 = .ok (.if_icmp .ne 13, 3) := by decide +kernel
theorem DM_X8_cut_19 : decode (mC M_X8_cut) 19 = .ok (.iload_n 1, 1) := by decide +kernel
theorem DM_X8_cut_20 : decode (mC M_X8_cut) 20 = .ok (.bipush 16, 2) := by decide +kernel
theorem DM_X8_cut_22 : decode (mC M_X8_cut) 22 = .ok (.ishl, 1) := by decide +kernel
theorem DM_X8_cut_23 : decode (mC M_X8_cut) 23 = .ok (.bipush 16, 2) := by decide +kernel
theorem DM_X8_cut_25 : decode (mC M_X8_cut) 25 = .ok (.ishr, 1) := by decide +kernel
theorem DM_X8_cut_26 : decode (mC M_X8_cut) 26 = .ok (.goto 4, 3) := by decide +kernel
theorem DM_X8_cut_29 : decode (mC M_X8_cut) 29 = .ok (.iload_n 1, 1) := by decide +kernel
theorem DM_X8_cut_30 : decode (mC M_X8_cut) 30 = .ok (.ireturn, 1) := by decide +kernel
theorem DM_X8_row_0 : decode (mC M_X8_row) 0 = .ok (.iload_n 1, 1) := by decide +kernel
theorem DM_X8_row_1 : decode (mC M_X8_row) 1 = .ok (.invokestatic 69, 3) := by decide +kernel
theorem DM_X8_row_4 : decode (mC M_X8_row) 4 = .ok (.ifCond .eq 18, 3) := by decide +kernel
theorem DM_X8_row_7 : decode (mC M_X8_row) 7 = .ok (.iload_n 2, 1) := by decide +kernel
theorem DM_X8_row_8 : decode (mC M_X8_row) 8 = .ok (.iconst 0, 1) := by decide +kernel
theorem DM_X8_row_9 : decode (mC M_X8_row) 9 = .ok (.iconst 2, 1) := by decide +kernel
theorem DM_X8_row_10 : decode (mC M_X8_row) 10 = .ok (.invokestatic 65, 3) := by decide +kernel
theorem DM_X8_row_13 : decode (mC M_X8_row) 13 = .ok (.ifCond .eq 9, 3) := by decide +kernel
theorem DM_X8_row_16 : decode (mC M_X8_row) 16 = .ok (.iload_n 3, 1) := by decide +kernel
theorem DM_X8_row_17 : decode (mC M_X8_row) 17 = .ok (.bipush 40, 2) := by decide +kernel
theorem DM_X8_row_19 : decode (mC M_X8_row) 19 = .ok (.if_icmp .le 6, 3) := by decide +kernel
theorem DM_X8_row_22 : decode (mC M_X8_row) 22 = .ok (.ldc 73, 2) := by decide +kernel
theorem DM_X8_row_24 : decode (mC M_X8_row) 24 = .ok (.ireturn, 1) := by decide +kernel
theorem DM_X8_row_25 : decode (mC M_X8_row) 25 = .ok (.iload_n 3, 1) := by decide +kernel
theorem DM_X8_row_26 : decode (mC M_X8_row) 26 = .ok (.ifCond .ge 9, 3) := by decide +kernel
theorem DM_X8_row_29 : decode (mC M_X8_row) 29 = .ok (.aload_n 0, 1) := by decide +kernel
theorem DM_X8_row_30 : decode (mC M_X8_row) 30 = .ok (.iconst 4, 1) := by decide +kernel
theorem DM_X8_row_31 : decode (mC M_X8_row) 31 = .ok (.invokevirtual 74, 3) := by decide +kernel
theorem DM_X8_row_34 : decode (mC M_X8_row) 34 = .ok (.ireturn, 1) := by decide +kernel
theorem DM_X8_row_35 : decode (mC M_X8_row) 35 = .ok (.aload_n 0, 1) := by decide +kernel
theorem DM_X8_row_36 : decode (mC M_X8_row) 36 = .ok (.getfield 7, 3) := by decide +kernel
theorem DM_X8_row_39 : decode (mC M_X8_row) 39 = .ok (.iload_n 1, 1) := by decide +kernel
theorem DM_X8_row_40 : decode (mC M_X8_row) 40 = .ok (.iload_n 2, 1) := by decide +kernel
theorem DM_X8_row_41 : decode (mC M_X8_row) 41 = .ok (.iastore, 1) := by decide +kernel
theorem DM_X8_row_42 : decode (mC M_X8_row) 42 = .ok (.aload_n 0, 1) := by decide +kernel
theorem DM_X8_row_43 : decode (mC M_X8_row) 43 = .ok (.getfield 13, 3) := by decide +kernel
theorem DM_X8_row_46 : decode (mC M_X8_row) 46 = .ok (.iload_n 1, 1) := by decide +kernel
theorem DM_X8_row_47 : decode (mC M_X8_row) 47 = .ok (.iload_n 3, 1) := by decide +kernel
theorem DM_X8_row_48 : decode (mC M_X8_row) 48 = .ok (.iastore, 1) := by decide +kernel
theorem DM_X8_row_49 : decode (mC M_X8_row) 49 = .ok (.iconst 0, 1) := by decide +kernel
theorem DM_X8_row_50 : decode (mC M_X8_row) 50 = .ok (.istore 4, 2) := by decide +kernel
theorem DM_X8_row_52 : decode (mC M_X8_row) 52 = .ok (.iload 4, 2) := by decide +kernel
theorem DM_X8_row_54 : decode (mC M_X8_row) 54 = .ok (.bipush 40, 2) := by decide +kernel
theorem DM_X8_row_56 : decode (mC M_X8_row) 56 = .ok (.if_icmp .ge 22, 3) := by decide +kernel
theorem DM_X8_row_59 : decode (mC M_X8_row) 59 = .ok (.aload_n 0, 1) := by decide +kernel
theorem DM_X8_row_60 : decode (mC M_X8_row) 60 = .ok (.getfield 16, 3) := by decide +kernel
theorem DM_X8_row_63 : decode (mC M_X8_row) 63 = .ok (.bipush 40, 2) := by decide +kernel
theorem DM_X8_row_65 : decode (mC M_X8_row) 65 = .ok (.iload_n 1, 1) := by decide +kernel
theorem DM_X8_row_66 : decode (mC M_X8_row) 66 = .ok (.imul, 1) := by decide +kernel
theorem DM_X8_row_67 : decode (mC M_X8_row) 67 = .ok (.iload 4, 2) := by decide +kernel
theorem DM_X8_row_69 : decode (mC M_X8_row) 69 = .ok (.iadd, 1) := by decide +kernel
theorem DM_X8_row_70 : decode (mC M_X8_row) 70 = .ok (.iconst 0, 1) := by decide +kernel
theorem DM_X8_row_71 : decode (mC M_X8_row) 71 = .ok (.iastore, 1) := by decide +kernel
theorem DM_X8_row_72 : decode (mC M_X8_row) 72 = .ok (.iinc 4 1, 3) := by decide +kernel
theorem DM_X8_row_75 : decode (mC M_X8_row) 75 = .ok (.goto (-23), 3) := by decide +kernel
theorem DM_X8_row_78 : decode (mC M_X8_row) 78 = .ok (.aload_n 0, 1) := by decide +kernel
theorem DM_X8_row_79 : decode (mC M_X8_row) 79 = .ok (.iload_n 3, 1) := by decide +kernel
theorem DM_X8_row_80 : decode (mC M_X8_row) 80 = .ok (.invokevirtual 78, 3) := by decide +kernel
theorem DM_X8_row_83 : decode (mC M_X8_row) 83 = .ok (.ireturn, 1) := by decide +kernel
theorem DM_X8_set_0 : decode (mC M_X8_set) 0 = .ok (.iload_n 1, 1) := by decide +kernel
theorem DM_X8_set_1 : decode (mC M_X8_set) 1 = .ok (.invokestatic 69, 3) := by decide +kernel
theorem DM_X8_set_4 : decode (mC M_X8_set) 4 = .ok (.ifCond .ne 6, 3) := by decide +kernel
theorem DM_X8_set_7 : decode (mC M_X8_set) 7 = .ok (.ldc 73, 2) := by decide +kernel
theorem DM_X8_set_9 : decode (mC M_X8_set) 9 = .ok (.ireturn, 1) := by decide +kernel
theorem DM_X8_set_10 : decode (mC M_X8_set) 10 = .ok (.aload_n 0, 1) := by decide +kernel
theorem DM_X8_set_11 : decode (mC M_X8_set) 11 = .ok (.iload_n 1, 1) := by decide +kernel
theorem DM_X8_set_12 : decode (mC M_X8_set) 12 = .ok (.invokevirtual 81, 3) := by decide +kernel
theorem DM_X8_set_15 : decode (mC M_X8_set) 15 = .ok (.ifCond .eq 9, 3) := by decide +kernel
theorem DM_X8_set_18 : decode (mC M_X8_set) 18 = .ok (.aload_n 0, 1) := by decide +kernel
theorem DM_X8_set_19 : decode (mC M_X8_set) 19 = .ok (.iconst 1, 1) := by decide +kernel
theorem DM_X8_set_20 : decode (mC M_X8_set) 20 = .ok (.invokevirtual 74, 3) := by decide +kernel
theorem DM_X8_set_23 : decode (mC M_X8_set) 23 = .ok (.ireturn, 1) := by decide +kernel
theorem DM_X8_set_24 : decode (mC M_X8_set) 24 = .ok (.iload_n 2, 1) := by decide +kernel
theorem DM_X8_set_25 : decode (mC M_X8_set) 25 = .ok (.iconst 0, 1) := by decide +kernel
theorem DM_X8_set_26 : decode (mC M_X8_set) 26 = .ok (.aload_n 0, 1) := by decide +kernel
theorem DM_X8_set_27 : decode (mC M_X8_set) 27 = .ok (.getfield 13, 3) := by decide +kernel
theorem DM_X8_set_30 : decode (mC M_X8_set) 30 = .ok (.iload_n 1, 1) := by decide +kernel
theorem DM_X8_set_31 : decode (mC M_X8_set) 31 = .ok (.iaload, 1) := by decide +kernel
theorem DM_X8_set_32 : decode (mC M_X8_set) 32 = .ok (.iconst 1, 1) := by decide +kernel
theorem DM_X8_set_33 : decode (mC M_X8_set) 33 = .ok (.isub, 1) := by decide +kernel
theorem DM_X8_set_34 : decode (mC M_X8_set) 34 = .ok (.invokestatic 65, 3) := by decide +kernel
theorem DM_X8_set_37 : decode (mC M_X8_set) 37 = .ok (.ifCond .ne 9, 3) := by decide +kernel
theorem DM_X8_set_40 : decode (mC M_X8_set) 40 = .ok (.aload_n 0, 1) := by decide +kernel
theorem DM_X8_set_41 : decode (mC M_X8_set) 41 = .ok (.iconst 2, 1) := by decide +kernel
theorem DM_X8_set_42 : decode (mC M_X8_set) 42 = .ok (.invokevirtual 74, 3) := by decide +kernel
theorem DM_X8_set_45 : decode (mC M_X8_set) 45 = .ok (.ireturn, 1) := by decide +kernel
theorem DM_X8_set_46 : decode (mC M_X8_set) 46 = .ok (.aload_n 0, 1) := by decide +kernel
theorem DM_X8_set_47 : decode (mC M_X8_set) 47 = .ok (.getfield 16, 3) := by decide +kernel
theorem DM_X8_set_50 : decode (mC M_X8_set) 50 = .ok (.bipush 40, 2) := by decide +kernel
theorem DM_X8_set_52 : decode (mC M_X8_set) 52 = .ok (.iload_n 1, 1) := by decide +kernel
theorem DM_X8_set_53 : decode (mC M_X8_set) 53 = .ok (.imul, 1) := by decide +kernel
theorem DM_X8_set_54 : decode (mC M_X8_set) 54 = .ok (.iload_n 2, 1) := by decide +kernel
theorem DM_X8_set_55 : decode (mC M_X8_set) 55 = .ok (.iadd, 1) := by decide +kernel
theorem DM_X8_set_56 : decode (mC M_X8_set) 56 = .ok (.aload_n 0, 1) := by decide +kernel
theorem DM_X8_set_57 : decode (mC M_X8_set) 57 = .ok (.getfield 7, 3) := by decide +kernel
theorem DM_X8_set_60 : decode (mC M_X8_set) 60 = .ok (.iload_n 1, 1) := by decide +kernel
theorem DM_X8_set_61 : decode (mC M_X8_set) 61 = .ok (.iaload, 1) := by decide +kernel
theorem DM_X8_set_62 : decode (mC M_X8_set) 62 = .ok (.iload_n 3, 1) := by decide +kernel
theorem DM_X8_set_63 : decode (mC M_X8_set) 63 = .ok (.invokestatic 84, 3) := by decide +kernel
theorem DM_X8_set_66 : decode (mC M_X8_set) 66 = .ok (.iastore, 1) := by decide +kernel
theorem DM_X8_set_67 : decode (mC M_X8_set) 67 = .ok (.aload_n 0, 1) := by decide +kernel
theorem DM_X8_set_68 : decode (mC M_X8_set) 68 = .ok (.aload_n 0, 1) := by decide +kernel
theorem DM_X8_set_69 : decode (mC M_X8_set) 69 = .ok (.getfield 16, 3) := by decide +kernel
theorem DM_X8_set_72 : decode (mC M_X8_set) 72 = .ok (.bipush 40, 2) := by decide +kernel
theorem DM_X8_set_74 : decode (mC M_X8_set) 74 = .ok (.iload_n 1, 1) := by decide +kernel
theorem DM_X8_set_75 : decode (mC M_X8_set) 75 = .ok (.imul, 1) := by decide +kernel
theorem DM_X8_set_76 : decode (mC M_X8_set) 76 = .ok (.iload_n 2, 1) := by decide +kernel
theorem DM_X8_set_77 : decode (mC M_X8_set) 77 = .ok (.iadd, 1) := by decide +kernel
theorem DM_X8_set_78 : decode (mC M_X8_set) 78 = .ok (.iaload, 1) := by decide +kernel
theorem DM_X8_set_79 : decode (mC M_X8_set) 79 = .ok (.invokevirtual 78, 3) := by decide +kernel
theorem DM_X8_set_82 : decode (mC M_X8_set) 82 = .ok (.ireturn, 1) := by decide +kernel
theorem DM_X8_isPart_0 : decode (mC M_X8_isPart) 0 = .ok (.iload_n 2, 1) := by decide +kernel
theorem DM_X8_isPart_1 : decode (mC M_X8_isPart) 1 = .ok (.ifCond .lt 33, 3) := by decide +kernel
theorem DM_X8_isPart_4 : decode (mC M_X8_isPart) 4 = .ok (.iload_n 3, 1) := by decide +kernel
theorem DM_X8_isPart_5 : decode (mC M_X8_isPart) 5 = .ok (.ifCond .lt 29, 3) := by decide +kernel
theorem DM_X8_isPart_8 : decode (mC M_X8_isPart) 8 = .ok (.iload_n 2, 1) := by decide +kernel
theorem DM_X8_isPart_9 : decode (mC M_X8_isPart) 9 = .ok (.aload_n 0, 1) := by decide +kernel
theorem DM_X8_isPart_10 : decode (mC M_X8_isPart) 10 = .ok (.getfield 13, 3) := by decide +kernel
theorem DM_X8_isPart_13 : decode (mC M_X8_isPart) 13 = .ok (.iload_n 1, 1) := by decide +kernel
theorem DM_X8_isPart_14 : decode (mC M_X8_isPart) 14 = .ok (.iaload, 1) := by decide +kernel
theorem DM_X8_isPart_15 : decode (mC M_X8_isPart) 15 = .ok (.if_icmp .gt 19, 3) := by decide +kernel
theorem DM_X8_isPart_18 : decode (mC M_X8_isPart) 18 = .ok (.iload_n 3, 1) := by decide +kernel
theorem DM_X8_isPart_19 : decode (mC M_X8_isPart) 19 = .ok (.aload_n 0, 1) := by decide +kernel
theorem DM_X8_isPart_20 : decode (mC M_X8_isPart) 20 = .ok (.getfield 13, 3) := by decide +kernel
theorem DM_X8_isPart_23 : decode (mC M_X8_isPart) 23 = .ok (.iload_n 1, 1) := by decide +kernel
theorem DM_X8_isPart_24 : decode (mC M_X8_isPart) 24 = .ok (.iaload, 1) := by decide +kernel
theorem DM_X8_isPart_25 : decode (mC M_X8_isPart) 25 = .ok (.iload_n 2, 1) := by decide +kernel
theorem DM_X8_isPart_26 : decode (mC M_X8_isPart) 26 = .ok (.isub, 1) := by decide +kernel
theorem DM_X8_isPart_27 : decode (mC M_X8_isPart) 27 = .ok (.if_icmp .gt 7, 3) := by decide +kernel
