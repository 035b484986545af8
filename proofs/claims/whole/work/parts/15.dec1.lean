theorem DM_X3_openSeats_86 : decode (mC M_X3_openSeats) 86 = .ok (.getfield 56, 3) := by decide +kernel
theorem DM_X3_openSeats_89 : decode (mC M_X3_openSeats) 89 = .ok (.aload_n 1, 1) := by decide +kernel
theorem DM_X3_openSeats_90 : decode (mC M_X3_openSeats) 90 = .ok (.getfield 63, 3) := by decide +kernel
theorem DM_X3_openSeats_93 : decode (mC M_X3_openSeats) 93 = .ok (.iconst 1, 1) := by decide +kernel
theorem DM_X3_openSeats_94 : decode (mC M_X3_openSeats) 94 = .ok (.iadd, 1) := by decide +kernel
theorem DM_X3_openSeats_95 : decode (mC M_X3_openSeats) 95 = .ok (.iastore, 1) := by decide +kernel
theorem DM_X3_openSeats_96 : decode (mC M_X3_openSeats) 96 = .ok (.aload_n 0, 1) := by decide +kernel
theorem DM_X3_openSeats_97 : decode (mC M_X3_openSeats) 97 = .ok (.dup, 1) := by decide +kernel
theorem DM_X3_openSeats_98 : decode (mC M_X3_openSeats) 98 = .ok (.getfield 56, 3) := by decide +kernel
theorem DM_X3_openSeats_101 : decode (mC M_X3_openSeats) 101 = .ok (.iconst 1, 1) := by decide +kernel
theorem DM_X3_openSeats_102 : decode (mC M_X3_openSeats) 102 = .ok (.iadd, 1) := by decide +kernel
theorem DM_X3_openSeats_103 : decode (mC M_X3_openSeats) 103 = .ok (.putfield 56, 3) := by decide +kernel
theorem DM_X3_openSeats_106 : decode (mC M_X3_openSeats) 106 = .ok (.goto (-44), 3) := by decide +kernel
theorem DM_X3_openSeats_109 : decode (mC M_X3_openSeats) 109 = .ok (.return_, 1) := by decide +kernel
theorem DM_X3_firstOpenSeat_0 : decode (mC M_X3_firstOpenSeat) 0 = .ok (.iconst 0, 1) := by decide +kernel
theorem DM_X3_firstOpenSeat_1 : decode (mC M_X3_firstOpenSeat) 1 = .ok (.istore_n 1, 1) := by decide +kernel
theorem DM_X3_firstOpenSeat_2 : decode (mC M_X3_firstOpenSeat) 2 = .ok (.iconst 1, 1) := by decide +kernel
theorem DM_X3_firstOpenSeat_3 : decode (mC M_X3_firstOpenSeat) 3 = .ok (.istore_n 2, 1) := by decide +kernel
theorem DM_X3_firstOpenSeat_4 : decode (mC M_X3_firstOpenSeat) 4 = .ok (.iload_n 2, 1) := by decide +kernel
theorem DM_X3_firstOpenSeat_5 : decode (mC M_X3_firstOpenSeat) 5 = .ok (.aload_n 0, 1) := by decide +kernel
theorem DM_X3_firstOpenSeat_6 : decode (mC M_X3_firstOpenSeat) 6 = .ok (.getfield 56, 3) := by decide +kernel
theorem DM_X3_firstOpenSeat_9 : decode (mC M_X3_firstOpenSeat) 9 = .ok (.if_icmp .ge 26, 3) := by decide +kernel
theorem DM_X3_firstOpenSeat_12 : decode (mC M_X3_firstOpenSeat) 12 = .ok (.aload_n 0, 1) := by decide +kernel
theorem DM_X3_firstOpenSeat_13 : decode (mC M_X3_firstOpenSeat) 13 = .ok (.getfield 18, 3) := by decide +kernel
theorem DM_X3_firstOpenSeat_16 : decode (mC M_X3_firstOpenSeat) 16 = .ok (.iload_n 2, 1) := by decide +kernel
theorem DM_X3_firstOpenSeat_17 : decode (mC M_X3_firstOpenSeat) 17 = .ok (.iaload, 1) := by decide +kernel
theorem DM_X3_firstOpenSeat_18 : decode (mC M_X3_firstOpenSeat) 18 = .ok (.aload_n 0, 1) := by decide +kernel
theorem DM_X3_firstOpenSeat_19 : decode (mC M_X3_firstOpenSeat) 19 = .ok (.getfield 18, 3) := by decide +kernel
theorem DM_X3_firstOpenSeat_22 : decode (mC M_X3_firstOpenSeat) 22 = .ok (.iload_n 1, 1) := by decide +kernel
theorem DM_X3_firstOpenSeat_23 : decode (mC M_X3_firstOpenSeat) 23 = .ok (.iaload, 1) := by decide +kernel
theorem DM_X3_firstOpenSeat_24 : decode (mC M_X3_firstOpenSeat) 24 = .ok (.if_icmp .ge 5, 3) := by decide +kernel
theorem DM_X3_firstOpenSeat_27 : decode (mC M_X3_firstOpenSeat) 27 = .ok (.iload_n 2, 1) := by decide +kernel
theorem DM_X3_firstOpenSeat_28 : decode (mC M_X3_firstOpenSeat) 28 = .ok (.istore_n 1, 1) := by decide +kernel
theorem DM_X3_firstOpenSeat_29 : decode (mC M_X3_firstOpenSeat) 29 = .ok (.iinc 2 1, 3) := by decide +kernel
theorem DM_X3_firstOpenSeat_32 : decode (mC M_X3_firstOpenSeat) 32 = .ok (.goto (-28), 3) := by decide +kernel
theorem DM_X3_firstOpenSeat_35 : decode (mC M_X3_firstOpenSeat) 35 = .ok (.iload_n 1, 1) := by decide +kernel
theorem DM_X3_firstOpenSeat_36 : decode (mC M_X3_firstOpenSeat) 36 = .ok (.ireturn, 1) := by decide +kernel
theorem DM_X3_seatOneByOne_0 : decode (mC M_X3_seatOneByOne) 0 = .ok (.iload 4, 2) := by decide +kernel
theorem DM_X3_seatOneByOne_2 : decode (mC M_X3_seatOneByOne) 2 = .ok (.aload_n 0, 1) := by decide +kernel
theorem DM_X3_seatOneByOne_3 : decode (mC M_X3_seatOneByOne) 3 = .ok (.getfield 30, 3) := by decide +kernel
theorem DM_X3_seatOneByOne_6 : decode (mC M_X3_seatOneByOne) 6 = .ok (.if_icmp .lt 4, 3) := by decide +kernel
theorem DM_X3_seatOneByOne_9 : decode (mC M_X3_seatOneByOne) 9 = .ok (.return_, 1) := by decide +kernel
theorem DM_X3_seatOneByOne_10 : decode (mC M_X3_seatOneByOne) 10 = .ok (.iload_n 2, 1) := by decide +kernel
theorem DM_X3_seatOneByOne_11 : decode (mC M_X3_seatOneByOne) 11 = .ok (.aload_n 0, 1) := by decide +kernel
theorem DM_X3_seatOneByOne_12 : decode (mC M_X3_seatOneByOne) 12 = .ok (.getfield 25, 3) := by decide +kernel
theorem DM_X3_seatOneByOne_15 : decode (mC M_X3_seatOneByOne) 15 = .ok (.if_icmp .lt 27, 3) := by decide +kernel
theorem DM_X3_seatOneByOne_18 : decode (mC M_X3_seatOneByOne) 18 = .ok (.aload_n 0, 1) := by decide +kernel
theorem DM_X3_seatOneByOne_19 : decode (mC M_X3_seatOneByOne) 19 = .ok (.iload 4, 2) := by decide +kernel
theorem DM_X3_seatOneByOne_21 : decode (mC M_X3_seatOneByOne) 21 = .ok (.putfield 30, 3) := by decide +kernel
theorem DM_X3_seatOneByOne_24 : decode (mC M_X3_seatOneByOne) 24 = .ok (.aload_n 0, 1) := by decide +kernel
theorem DM_X3_seatOneByOne_25 : decode (mC M_X3_seatOneByOne) 25 = .ok (.getfield 15, 3) := by decide +kernel
theorem DM_X3_seatOneByOne_28 : decode (mC M_X3_seatOneByOne) 28 = .ok (.iconst 0, 1) := by decide +kernel
theorem DM_X3_seatOneByOne_29 : decode (mC M_X3_seatOneByOne) 29 = .ok (.aload_n 0, 1) := by decide +kernel
theorem DM_X3_seatOneByOne_30 : decode (mC M_X3_seatOneByOne) 30 = .ok (.getfield 9, 3) := by decide +kernel
theorem DM_X3_seatOneByOne_33 : decode (mC M_X3_seatOneByOne) 33 = .ok (.iconst 0, 1) := by decide +kernel
theorem DM_X3_seatOneByOne_34 : decode (mC M_X3_seatOneByOne) 34 = .ok (.aload_n 0, 1) := by decide +kernel
theorem DM_X3_seatOneByOne_35 : decode (mC M_X3_seatOneByOne) 35 = .ok (.getfield 25, 3) := by decide +kernel
theorem DM_X3_seatOneByOne_38 : decode (mC M_X3_seatOneByOne) 38 = .ok (.invokestatic 66, 3) := by decide +kernel
theorem DM_X3_seatOneByOne_41 : decode (mC M_X3_seatOneByOne) 41 = .ok (.return_, 1) := by decide +kernel
theorem DM_X3_seatOneByOne_42 : decode (mC M_X3_seatOneByOne) 42 = .ok (.aload_n 0, 1) := by decide +kernel
theorem DM_X3_seatOneByOne_43 : decode (mC M_X3_seatOneByOne) 43 = .ok (.invokevirtual 72, 3) := by decide +kernel
theorem DM_X3_seatOneByOne_46 : decode (mC M_X3_seatOneByOne) 46 = .ok (.istore 5, 2) := by decide +kernel
theorem DM_X3_seatOneByOne_48 : decode (mC M_X3_seatOneByOne) 48 = .ok (.aload_n 0, 1) := by decide +kernel
theorem DM_X3_seatOneByOne_49 : decode (mC M_X3_seatOneByOne) 49 = .ok (.getfield 18, 3) := by decide +kernel
theorem DM_X3_seatOneByOne_52 : decode (mC M_X3_seatOneByOne) 52 = .ok (.iload 5, 2) := by decide +kernel
theorem DM_X3_seatOneByOne_54 : decode (mC M_X3_seatOneByOne) 54 = .ok (.iaload, 1) := by decide +kernel
theorem DM_X3_seatOneByOne_55 : decode (mC M_X3_seatOneByOne) 55 = .ok (.istore 6, 2) := by decide +kernel
theorem DM_X3_seatOneByOne_57 : decode (mC M_X3_seatOneByOne) 57 = .ok (.iconst 0, 1) := by decide +kernel
theorem DM_X3_seatOneByOne_58 : decode (mC M_X3_seatOneByOne) 58 = .ok (.istore 7, 2) := by decide +kernel
theorem DM_X3_seatOneByOne_60 : decode (mC M_X3_seatOneByOne) 60 = .ok (.iload 7, 2) := by decide +kernel
theorem DM_X3_seatOneByOne_62 : decode (mC M_X3_seatOneByOne) 62 = .ok (.aload_n 1, 1) := by decide +kernel
theorem DM_X3_seatOneByOne_63 : decode (mC M_X3_seatOneByOne) 63 = .ok (.getfield 33, 3) := by decide +kernel
theorem DM_X3_seatOneByOne_66 : decode (mC M_X3_seatOneByOne) 66 = .ok (.if_icmp .ge 113, 3) := by decide +kernel
theorem DM_X3_seatOneByOne_69 : decode (mC M_X3_seatOneByOne) 69 = .ok (.iload_n 3, 1) := by decide +kernel
theorem DM_X3_seatOneByOne_70 : decode (mC M_X3_seatOneByOne) 70 = .ok (.iload 7, 2) := by decide +kernel
theorem DM_X3_seatOneByOne_72 : decode (mC M_X3_seatOneByOne) 72 = .ok (.ishr, 1) := by decide +kernel
theorem DM_X3_seatOneByOne_73 : decode (mC M_X3_seatOneByOne) 73 = .ok (.iconst 1, 1) := by decide +kernel
theorem DM_X3_seatOneByOne_74 : decode (mC M_X3_seatOneByOne) 74 = .ok (.iand, 1) := by decide +kernel
theorem DM_X3_seatOneByOne_75 : decode (mC M_X3_seatOneByOne) 75 = .ok (.iconst 1, 1) := by decide +kernel
theorem DM_X3_seatOneByOne_76 : decode (mC M_X3_seatOneByOne) 76 = .ok (.if_icmp .ne 97, 3) := by decide +kernel
theorem DM_X3_seatOneByOne_79 : decode (mC M_X3_seatOneByOne) 79 = .ok (.aload_n 0, 1) := by decide +kernel
theorem DM_X3_seatOneByOne_80 : decode (mC M_X3_seatOneByOne) 80 = .ok (.getfield 15, 3) := by decide +kernel
theorem DM_X3_seatOneByOne_83 : decode (mC M_X3_seatOneByOne) 83 = .ok (.iload_n 2, 1) := by decide +kernel
theorem DM_X3_seatOneByOne_84 : decode (mC M_X3_seatOneByOne) 84 = .ok (.iload 7, 2) := by decide +kernel
theorem DM_X3_seatOneByOne_86 : decode (mC M_X3_seatOneByOne) 86 = .ok (.iastore, 1) := by decide +kernel
theorem DM_X3_seatOneByOne_87 : decode (mC M_X3_seatOneByOne) 87 = .ok (.iload_n 3, 1) := by decide +kernel
theorem DM_X3_seatOneByOne_88 : decode (mC M_X3_seatOneByOne) 88 = .ok (.iconst 1, 1) := by decide +kernel
theorem DM_X3_seatOneByOne_89 : decode (mC M_X3_seatOneByOne) 89 = .ok (.iload 7, 2) := by decide +kernel
theorem DM_X3_seatOneByOne_91 : decode (mC M_X3_seatOneByOne) 91 = .ok (.ishl, 1) := by decide +kernel
theorem DM_X3_seatOneByOne_92 : decode (mC M_X3_seatOneByOne) 92 = .ok (.iconst (-1), 1) := by decide +kernel
theorem DM_X3_seatOneByOne_93 : decode (mC M_X3_seatOneByOne) 93 = .ok (.ixor, 1) := by decide +kernel
theorem DM_X3_seatOneByOne_94 : decode (mC M_X3_seatOneByOne) 94 = .ok (.iand, 1) := by decide +kernel
theorem DM_X3_seatOneByOne_95 : decode (mC M_X3_seatOneByOne) 95 = .ok (.istore 8, 2) := by decide +kernel
theorem DM_X3_seatOneByOne_97 : decode (mC M_X3_seatOneByOne) 97 = .ok (.iload 6, 2) := by decide +kernel
theorem DM_X3_seatOneByOne_99 : decode (mC M_X3_seatOneByOne) 99 = .ok (.aload_n 1, 1) := by decide +kernel
theorem DM_X3_seatOneByOne_100 : decode (mC M_X3_seatOneByOne) 100 = .ok (.getfield 49, 3) := by decide +kernel
theorem DM_X3_seatOneByOne_103 : decode (mC M_X3_seatOneByOne) 103 = .ok (.iload 7, 2) := by decide +kernel
theorem DM_X3_seatOneByOne_105 : decode (mC M_X3_seatOneByOne) 105 = .ok (.iaload, 1) := by decide +kernel
theorem DM_X3_seatOneByOne_106 : decode (mC M_X3_seatOneByOne) 106 = .ok (.if_icmp .ge 47, 3) := by decide +kernel
theorem DM_X3_seatOneByOne_109 : decode (mC M_X3_seatOneByOne) 109 = .ok (.aload_n 0, 1) := by decide +kernel
theorem DM_X3_seatOneByOne_110 : decode (mC M_X3_seatOneByOne) 110 = .ok (.getfield 18, 3) := by decide +kernel
theorem DM_X3_seatOneByOne_113 : decode (mC M_X3_seatOneByOne) 113 = .ok (.iload 5, 2) := by decide +kernel
theorem DM_X3_seatOneByOne_115 : decode (mC M_X3_seatOneByOne) 115 = .ok (.iload 6, 2) := by decide +kernel
theorem DM_X3_seatOneByOne_117 : decode (mC M_X3_seatOneByOne) 117 = .ok (.aload_n 1, 1) := by decide +kernel
theorem DM_X3_seatOneByOne_118 : decode (mC M_X3_seatOneByOne) 118 = .ok (.getfield 76, 3) := by decide +kernel
theorem DM_X3_seatOneByOne_121 : decode (mC M_X3_seatOneByOne) 121 = .ok (.iload 7, 2) := by decide +kernel
theorem DM_X3_seatOneByOne_123 : decode (mC M_X3_seatOneByOne) 123 = .ok (.iaload, 1) := by decide +kernel
theorem DM_X3_seatOneByOne_124 : decode (mC M_X3_seatOneByOne) 124 = .ok (.iadd, 1) := by decide +kernel
theorem DM_X3_seatOneByOne_125 : decode (mC M_X3_seatOneByOne) 125 = .ok (.iastore, 1) := by decide +kernel
theorem DM_X3_seatOneByOne_126 : decode (mC M_X3_seatOneByOne) 126 = .ok (.aload_n 0, 1) := by decide +kernel
theorem DM_X3_seatOneByOne_127 : decode (mC M_X3_seatOneByOne) 127 = .ok (.aload_n 1, 1) := by decide +kernel
theorem DM_X3_seatOneByOne_128 : decode (mC M_X3_seatOneByOne) 128 = .ok (.iload_n 2, 1) := by decide +kernel
theorem DM_X3_seatOneByOne_129 : decode (mC M_X3_seatOneByOne) 129 = .ok (.iconst 1, 1) := by decide +kernel
theorem DM_X3_seatOneByOne_130 : decode (mC M_X3_seatOneByOne) 130 = .ok (.iadd, 1) := by decide +kernel
theorem DM_X3_seatOneByOne_131 : decode (mC M_X3_seatOneByOne) 131 = .ok (.iload 8, 2) := by decide +kernel
theorem DM_X3_seatOneByOne_133 : decode (mC M_X3_seatOneByOne) 133 = .ok (.iload 4, 2) := by decide +kernel
theorem DM_X3_seatOneByOne_135 : decode (mC M_X3_seatOneByOne) 135 = .ok (.iload 6, 2) := by decide +kernel
theorem DM_X3_seatOneByOne_137 : decode (mC M_X3_seatOneByOne) 137 = .ok (.iadd, 1) := by decide +kernel
theorem DM_X3_seatOneByOne_138 : decode (mC M_X3_seatOneByOne) 138 = .ok (.invokestatic 52, 3) := by decide +kernel
theorem DM_X3_seatOneByOne_141 : decode (mC M_X3_seatOneByOne) 141 = .ok (.aload_n 0, 1) := by decide +kernel
theorem DM_X3_seatOneByOne_142 : decode (mC M_X3_seatOneByOne) 142 = .ok (.getfield 18, 3) := by decide +kernel
theorem DM_X3_seatOneByOne_145 : decode (mC M_X3_seatOneByOne) 145 = .ok (.iload 5, 2) := by decide +kernel
theorem DM_X3_seatOneByOne_147 : decode (mC M_X3_seatOneByOne) 147 = .ok (.iload 6, 2) := by decide +kernel
theorem DM_X3_seatOneByOne_149 : decode (mC M_X3_seatOneByOne) 149 = .ok (.iastore, 1) := by decide +kernel
theorem DM_X3_seatOneByOne_150 : decode (mC M_X3_seatOneByOne) 150 = .ok (.goto 23, 3) := by decide +kernel
theorem DM_X3_seatOneByOne_153 : decode (mC M_X3_seatOneByOne) 153 = .ok (.aload_n 0, 1) := by decide +kernel
theorem DM_X3_seatOneByOne_154 : decode (mC M_X3_seatOneByOne) 154 = .ok (.aload_n 1, 1) := by decide +kernel
theorem DM_X3_seatOneByOne_155 : decode (mC M_X3_seatOneByOne) 155 = .ok (.iload_n 2, 1) := by decide +kernel
theorem DM_X3_seatOneByOne_156 : decode (mC M_X3_seatOneByOne) 156 = .ok (.iconst 1, 1) := by decide +kernel
theorem DM_X3_seatOneByOne_157 : decode (mC M_X3_seatOneByOne) 157 = .ok (.iadd, 1) := by decide +kernel
theorem DM_X3_seatOneByOne_158 : decode (mC M_X3_seatOneByOne) 158 = .ok (.iload 8, 2) := by decide +kernel
theorem DM_X3_seatOneByOne_160 : decode (mC M_X3_seatOneByOne) 160 = .ok (.iload 4, 2) := by decide +kernel
theorem DM_X3_seatOneByOne_162 : decode (mC M_X3_seatOneByOne) 162 = .ok (.aload_n 1, 1) := by decide +kernel
theorem DM_X3_seatOneByOne_163 : decode (mC M_X3_seatOneByOne) 163 = .ok (.getfield 49, 3) := by decide +kernel
theorem DM_X3_seatOneByOne_166 : decode (mC M_X3_seatOneByOne) 166 = .ok (.iload 7, 2) := by decide +kernel
theorem DM_X3_seatOneByOne_168 : decode (mC M_X3_seatOneByOne) 168 = .ok (.iaload, 1) := by decide +kernel
theorem DM_X3_seatOneByOne_169 : decode (mC M_X3_seatOneByOne) 169 = .ok (.iadd, 1) := by decide +kernel
theorem DM_X3_seatOneByOne_170 : decode (mC M_X3_seatOneByOne) 170 = .ok (.invokestatic 52, 3) := by decide +kernel
theorem DM_X3_seatOneByOne_173 : decode (mC M_X3_seatOneByOne) 173 = .ok (.iinc 7 1, 3) := by decide +kernel
theorem DM_X3_seatOneByOne_176 : decode (mC M_X3_seatOneByOne) 176 = .ok (.goto (-116), 3) := by decide +kernel
theorem DM_X3_seatOneByOne_179 : decode (mC M_X3_seatOneByOne) 179 = .ok (.return_, 1) := by decide +kernel
theorem DM_X4_init_0 : decode (mC M_X4_init) 0 = .ok (.aload_n 0, 1) := by decide +kernel
theorem DM_X4_init_1 : decode (mC M_X4_init) 1 = .ok (.invokespecial 3, 3) := by decide +kernel
theorem DM_X4_init_4 : decode (mC M_X4_init) 4 = .ok (.aload_n 0, 1) := by decide +kernel
theorem DM_X4_init_5 : decode (mC M_X4_init) 5 = .ok (.bipush 120, 2) := by decide +kernel
theorem DM_X4_init_7 : decode (mC M_X4_init) 7 = .ok (.newarray .int, 2) := by decide +kernel
theorem DM_X4_init_9 : decode (mC M_X4_init) 9 = .ok (.putfield 9, 3) := by decide +kernel
theorem DM_X4_init_12 : decode (mC M_X4_init) 12 = .ok (.return_, 1) := by decide +kernel
theorem DM_X4_addByte_0 : decode (mC M_X4_addByte) 0 = .ok (.aload_n 0, 1) := by decide +kernel
theorem DM_X4_addByte_1 : decode (mC M_X4_addByte) 1 = .ok (.getfield 15, 3) := by decide +kernel
theorem DM_X4_addByte_4 : decode (mC M_X4_addByte) 4 = .ok (.bipush 120, 2) := by decide +kernel
theorem DM_X4_addByte_6 : decode (mC M_X4_addByte) 6 = .ok (.if_icmp .ge 23, 3) := by decide +kernel
theorem DM_X4_addByte_9 : decode (mC M_X4_addByte) 9 = .ok (.aload_n 0, 1) := by decide +kernel
theorem DM_X4_addByte_10 : decode (mC M_X4_addByte) 10 = .ok (.getfield 9, 3) := by decide +kernel
theorem DM_X4_addByte_13 : decode (mC M_X4_addByte) 13 = .ok (.aload_n 0, 1) := by decide +kernel
theorem DM_X4_addByte_14 : decode (mC M_X4_addByte) 14 = .ok (.getfield 15, 3) := by decide +kernel
theorem DM_X4_addByte_17 : decode (mC M_X4_addByte) 17 = .ok (.iload_n 1, 1) := by decide +kernel
theorem DM_X4_addByte_18 : decode (mC M_X4_addByte) 18 = .ok (.iastore, 1) := by decide +kernel
theorem DM_X4_addByte_19 : decode (mC M_X4_addByte) 19 = .ok (.aload_n 0, 1) := by decide +kernel
theorem DM_X4_addByte_20 : decode (mC M_X4_addByte) 20 = .ok (.dup, 1) := by decide +kernel
theorem DM_X4_addByte_21 : decode (mC M_X4_addByte) 21 = .ok (.getfield 15, 3) := by decide +kernel
theorem DM_X4_addByte_24 : decode (mC M_X4_addByte) 24 = .ok (.iconst 1, 1) := by decide +kernel
theorem DM_X4_addByte_25 : decode (mC M_X4_addByte) 25 = .ok (.iadd, 1) := by decide +kernel
theorem DM_X4_addByte_26 : decode (mC M_X4_addByte) 26 = .ok (.putfield 15, 3) := by decide +kernel
theorem DM_X4_addByte_29 : decode (mC M_X4_addByte) 29 = .ok (.return_, 1) := by decide +kernel
theorem DM_X4_readInto_0 : decode (mC M_X4_readInto) 0 = .ok (.aload_n 1, 1) := by decide +kernel
theorem DM_X4_readInto_1 : decode (mC M_X4_readInto) 1 = .ok (.invokevirtual 19, 3) := by decide +kernel
theorem DM_X4_readInto_4 : decode (mC M_X4_readInto) 4 = .ok (.aload_n 0, 1) := by decide +kernel
theorem DM_X4_readInto_5 : decode (mC M_X4_readInto) 5 = .ok (.iconst 0, 1) := by decide +kernel
theorem DM_X4_readInto_6 : decode (mC M_X4_readInto) 6 = .ok (.putfield 24, 3) := by decide +kernel
theorem DM_X4_readInto_9 : decode (mC M_X4_readInto) 9 = .ok (.aload_n 0, 1) := by decide +kernel
theorem DM_X4_readInto_10 : decode (mC M_X4_readInto) 10 = .ok (.invokevirtual 27, 3) := by decide +kernel
theorem DM_X4_readInto_13 : decode (mC M_X4_readInto) 13 = .ok (.aload_n 0, 1) := by decide +kernel
theorem DM_X4_readInto_14 : decode (mC M_X4_readInto) 14 = .ok (.aload_n 1, 1) := by decide +kernel
theorem DM_X4_readInto_15 : decode (mC M_X4_readInto) 15 = .ok (.invokevirtual 30, 3) := by decide +kernel
theorem DM_X4_readInto_18 : decode (mC M_X4_readInto) 18 = .ok (.ifCond .eq 23, 3) := by decide +kernel
theorem DM_X4_readInto_21 : decode (mC M_X4_readInto) 21 = .ok (.aload_n 0, 1) := by decide +kernel
theorem DM_X4_readInto_22 : decode (mC M_X4_readInto) 22 = .ok (.aload_n 1, 1) := by decide +kernel
theorem DM_X4_readInto_23 : decode (mC M_X4_readInto) 23 = .ok (.invokevirtual 34, 3) := by decide +kernel
theorem DM_X4_readInto_26 : decode (mC M_X4_readInto) 26 = .ok (.ifCond .eq 15, 3) := by decide +kernel
theorem DM_X4_readInto_29 : decode (mC M_X4_readInto) 29 = .ok (.aload_n 0, 1) := by decide +kernel
theorem DM_X4_readInto_30 : decode (mC M_X4_readInto) 30 = .ok (.aload_n 1, 1) := by decide +kernel
theorem DM_X4_readInto_31 : decode (mC M_X4_readInto) 31 = .ok (.invokevirtual 37, 3) := by decide +kernel
theorem DM_X4_readInto_34 : decode (mC M_X4_readInto) 34 = .ok (.ifCond .eq 7, 3) := by decide +kernel
theorem DM_X4_readInto_37 : decode (mC M_X4_readInto) 37 = .ok (.iconst 1, 1) := by decide +kernel
theorem DM_X4_readInto_38 : decode (mC M_X4_readInto) 38 = .ok (.goto 4, 3) := by decide +kernel
theorem DM_X4_readInto_41 : decode (mC M_X4_readInto) 41 = .ok (.iconst 0, 1) := by decide +kernel
theorem DM_X4_readInto_42 : decode (mC M_X4_readInto) 42 = .ok (.ireturn, 1) := by decide +kernel
theorem DM_X4_readLaw_0 : decode (mC M_X4_readLaw) 0 = .ok (.aload_n 0, 1) := by decide +kernel
theorem DM_X4_readLaw_1 : decode (mC M_X4_readLaw) 1 = .ok (.bipush 119, 2) := by decide +kernel
theorem DM_X4_readLaw_3 : decode (mC M_X4_readLaw) 3 = .ok (.invokevirtual 40, 3) := by decide +kernel
theorem DM_X4_readLaw_6 : decode (mC M_X4_readLaw) 6 = .ok (.ifCond .eq 12, 3) := by decide +kernel
theorem DM_X4_readLaw_9 : decode (mC M_X4_readLaw) 9 = .ok (.aload_n 0, 1) := by decide +kernel
theorem DM_X4_readLaw_10 : decode (mC M_X4_readLaw) 10 = .ok (.iconst 1, 1) := by decide +kernel
theorem DM_X4_readLaw_11 : decode (mC M_X4_readLaw) 11 = .ok (.iconst 4, 1) := by decide +kernel
theorem DM_X4_readLaw_12 : decode (mC M_X4_readLaw) 12 = .ok (.invokevirtual 44, 3) := by decide +kernel
theorem DM_X4_readLaw_15 : decode (mC M_X4_readLaw) 15 = .ok (.ifCond .ne 5, 3) := by decide +kernel
theorem DM_X4_readLaw_18 : decode (mC M_X4_readLaw) 18 = .ok (.iconst 0, 1) := by decide +kernel
theorem DM_X4_readLaw_19 : decode (mC M_X4_readLaw) 19 = .ok (.ireturn, 1) := by decide +kernel
theorem DM_X4_readLaw_20 : decode (mC M_X4_readLaw) 20 = .ok (.aload_n 1, 1) := by decide +kernel
theorem DM_X4_readLaw_21 : decode (mC M_X4_readLaw) 21 = .ok (.aload_n 0, 1) := by decide +kernel
theorem DM_X4_readLaw_22 : decode (mC M_X4_readLaw) 22 = .ok (.invokevirtual 48, 3) := by decide +kernel
theorem DM_X4_readLaw_25 : decode (mC M_X4_readLaw) 25 = .ok (.putfield 52, 3) := by decide +kernel
theorem DM_X4_readLaw_28 : decode (mC M_X4_readLaw) 28 = .ok (.aload_n 0, 1) := by decide +kernel
theorem DM_X4_readLaw_29 : decode (mC M_X4_readLaw) 29 = .ok (.bipush 44, 2) := by decide +kernel
theorem DM_X4_readLaw_31 : decode (mC M_X4_readLaw) 31 = .ok (.invokevirtual 40, 3) := by decide +kernel
theorem DM_X4_readLaw_34 : decode (mC M_X4_readLaw) 34 = .ok (.ifCond .eq 13, 3) := by decide +kernel
theorem DM_X4_readLaw_37 : decode (mC M_X4_readLaw) 37 = .ok (.aload_n 0, 1) := by decide +kernel
theorem DM_X4_readLaw_38 : decode (mC M_X4_readLaw) 38 = .ok (.iconst 0, 1) := by decide +kernel
theorem DM_X4_readLaw_39 : decode (mC M_X4_readLaw) 39 = .ok (.bipush 30, 2) := by decide +kernel
theorem DM_X4_readLaw_41 : decode (mC M_X4_readLaw) 41 = .ok (.invokevirtual 44, 3) := by decide +kernel
theorem DM_X4_readLaw_44 : decode (mC M_X4_readLaw) 44 = .ok (.ifCond .ne 5, 3) := by decide +kernel
theorem DM_X4_readLaw_47 : decode (mC M_X4_readLaw) 47 = .ok (.iconst 0, 1) := by decide +kernel
theorem DM_X4_readLaw_48 : decode (mC M_X4_readLaw) 48 = .ok (.ireturn, 1) := by decide +kernel
theorem DM_X4_readLaw_49 : decode (mC M_X4_readLaw) 49 = .ok (.aload_n 1, 1) := by decide +kernel
theorem DM_X4_readLaw_50 : decode (mC M_X4_readLaw) 50 = .ok (.aload_n 0, 1) := by decide +kernel
theorem DM_X4_readLaw_51 : decode (mC M_X4_readLaw) 51 = .ok (.invokevirtual 48, 3) := by decide +kernel
theorem DM_X4_readLaw_54 : decode (mC M_X4_readLaw) 54 = .ok (.putfield 55, 3) := by decide +kernel
theorem DM_X4_readLaw_57 : decode (mC M_X4_readLaw) 57 = .ok (.aload_n 0, 1) := by decide +kernel
theorem DM_X4_readLaw_58 : decode (mC M_X4_readLaw) 58 = .ok (.bipush 59, 2) := by decide +kernel
theorem DM_X4_readLaw_60 : decode (mC M_X4_readLaw) 60 = .ok (.invokevirtual 40, 3) := by decide +kernel
theorem DM_X4_readLaw_63 : decode (mC M_X4_readLaw) 63 = .ok (.ireturn, 1) := by decide +kernel
theorem DM_X4_readOrder_0 : decode (mC M_X4_readOrder) 0 = .ok (.aload_n 0, 1) := by decide +kernel
theorem DM_X4_readOrder_1 : decode (mC M_X4_readOrder) 1 = .ok (.bipush 111, 2) := by decide +kernel
theorem DM_X4_readOrder_3 : decode (mC M_X4_readOrder) 3 = .ok (.invokevirtual 40, 3) := by decide +kernel
theorem DM_X4_readOrder_6 : decode (mC M_X4_readOrder) 6 = .ok (.ifCond .ne 5, 3) := by decide +kernel
theorem DM_X4_readOrder_9 : decode (mC M_X4_readOrder) 9 = .ok (.iconst 0, 1) := by decide +kernel
theorem DM_X4_readOrder_10 : decode (mC M_X4_readOrder) 10 = .ok (.ireturn, 1) := by decide +kernel
theorem DM_X4_readOrder_11 : decode (mC M_X4_readOrder) 11 = .ok (.iconst 0, 1) := by decide +kernel
theorem DM_X4_readOrder_12 : decode (mC M_X4_readOrder) 12 = .ok (.istore_n 2, 1) := by decide +kernel
theorem DM_X4_readOrder_13 : decode (mC M_X4_readOrder) 13 = .ok (.iconst 0, 1) := by decide +kernel
theorem DM_X4_readOrder_14 : decode (mC M_X4_readOrder) 14 = .ok (.istore_n 3, 1) := by decide +kernel
theorem DM_X4_readOrder_15 : decode (mC M_X4_readOrder) 15 = .ok (.iload_n 3, 1) := by decide +kernel
theorem DM_X4_readOrder_16 : decode (mC M_X4_readOrder) 16 = .ok (.bipush 8, 2) := by decide +kernel
theorem DM_X4_readOrder_18 : decode (mC M_X4_readOrder) 18 = .ok (.if_icmp .ge 56, 3) := by decide +kernel
theorem DM_X4_readOrder_21 : decode (mC M_X4_readOrder) 21 = .ok (.aload_n 0, 1) := by decide +kernel
theorem DM_X4_readOrder_22 : decode (mC M_X4_readOrder) 22 = .ok (.invokevirtual 58, 3) := by decide +kernel
theorem DM_X4_readOrder_25 : decode (mC M_X4_readOrder) 25 = .ok (.ifCond .eq 49, 3) := by decide +kernel
theorem DM_X4_readOrder_28 : decode (mC M_X4_readOrder) 28 = .ok (.aload_n 0, 1) := by decide +kernel
theorem DM_X4_readOrder_29 : decode (mC M_X4_readOrder) 29 = .ok (.invokevirtual 62, 3) := by decide +kernel
theorem DM_X4_readOrder_32 : decode (mC M_X4_readOrder) 32 = .ok (.istore 4, 2) := by decide +kernel
theorem DM_X4_readOrder_34 : decode (mC M_X4_readOrder) 34 = .ok (.iload_n 2, 1) := by decide +kernel
theorem DM_X4_readOrder_35 : decode (mC M_X4_readOrder) 35 = .ok (.iload 4, 2) := by decide +kernel
theorem DM_X4_readOrder_37 : decode (mC M_X4_readOrder) 37 = .ok (.ishr, 1) := by decide +kernel
theorem DM_X4_readOrder_38 : decode (mC M_X4_readOrder) 38 = .ok (.iconst 1, 1) := by decide +kernel
theorem DM_X4_readOrder_39 : decode (mC M_X4_readOrder) 39 = .ok (.iand, 1) := by decide +kernel
theorem DM_X4_readOrder_40 : decode (mC M_X4_readOrder) 40 = .ok (.iconst 1, 1) := by decide +kernel
theorem DM_X4_readOrder_41 : decode (mC M_X4_readOrder) 41 = .ok (.if_icmp .ne 9, 3) := by decide +kernel
theorem DM_X4_readOrder_44 : decode (mC M_X4_readOrder) 44 = .ok (.aload_n 0, 1) := by decide +kernel
theorem DM_X4_readOrder_45 : decode (mC M_X4_readOrder) 45 = .ok (.iconst 2, 1) := by decide +kernel
theorem DM_X4_readOrder_46 : decode (mC M_X4_readOrder) 46 = .ok (.invokevirtual 65, 3) := by decide +kernel
theorem DM_X4_readOrder_49 : decode (mC M_X4_readOrder) 49 = .ok (.ireturn, 1) := by decide +kernel
theorem DM_X4_readOrder_50 : decode (mC M_X4_readOrder) 50 = .ok (.iload_n 2, 1) := by decide +kernel
theorem DM_X4_readOrder_51 : decode (mC M_X4_readOrder) 51 = .ok (.iconst 1, 1) := by decide +kernel
theorem DM_X4_readOrder_52 : decode (mC M_X4_readOrder) 52 = .ok (.iload 4, 2) := by decide +kernel
theorem DM_X4_readOrder_54 : decode (mC M_X4_readOrder) 54 = .ok (.ishl, 1) := by decide +kernel
theorem DM_X4_readOrder_55 : decode (mC M_X4_readOrder) 55 = .ok (.ior, 1) := by decide +kernel
theorem DM_X4_readOrder_56 : decode (mC M_X4_readOrder) 56 = .ok (.istore_n 2, 1) := by decide +kernel
theorem DM_X4_readOrder_57 : decode (mC M_X4_readOrder) 57 = .ok (.aload_n 1, 1) := by decide +kernel
theorem DM_X4_readOrder_58 : decode (mC M_X4_readOrder) 58 = .ok (.iload_n 3, 1) := by decide +kernel
theorem DM_X4_readOrder_59 : decode (mC M_X4_readOrder) 59 = .ok (.iload 4, 2) := by decide +kernel
theorem DM_X4_readOrder_61 : decode (mC M_X4_readOrder) 61 = .ok (.invokevirtual 68, 3) := by decide +kernel
theorem DM_X4_readOrder_64 : decode (mC M_X4_readOrder) 64 = .ok (.aload_n 0, 1) := by decide +kernel
theorem DM_X4_readOrder_65 : decode (mC M_X4_readOrder) 65 = .ok (.invokevirtual 27, 3) := by decide +kernel
theorem DM_X4_readOrder_68 : decode (mC M_X4_readOrder) 68 = .ok (.iinc 3 1, 3) := by decide +kernel
theorem DM_X4_readOrder_71 : decode (mC M_X4_readOrder) 71 = .ok (.goto (-56), 3) := by decide +kernel
theorem DM_X4_readOrder_74 : decode (mC M_X4_readOrder) 74 = .ok (.aload_n 0, 1) := by decide +kernel
theorem DM_X4_readOrder_75 : decode (mC M_X4_readOrder) 75 = .ok (.invokevirtual 58, 3) := by decide +kernel
theorem DM_X4_readOrder_78 : decode (mC M_X4_readOrder) 78 = .ok (.ifCond .eq 9, 3) := by decide +kernel
theorem DM_X4_readOrder_81 : decode (mC M_X4_readOrder) 81 = .ok (.aload_n 0, 1) := by decide +kernel
theorem DM_X4_readOrder_82 : decode (mC M_X4_readOrder) 82 = .ok (.iconst 2, 1) := by decide +kernel
theorem DM_X4_readOrder_83 : decode (mC M_X4_readOrder) 83 = .ok (.invokevirtual 65, 3) := by decide +kernel
theorem DM_X4_readOrder_86 : decode (mC M_X4_readOrder) 86 = .ok (.ireturn, 1) := by decide +kernel
theorem DM_X4_readOrder_87 : decode (mC M_X4_readOrder) 87 = .ok (.iconst 0, 1) := by decide +kernel
theorem DM_X4_readOrder_88 : decode (mC M_X4_readOrder) 88 = .ok (.istore 4, 2) := by decide +kernel
theorem DM_X4_readOrder_90 : decode (mC M_X4_readOrder) 90 = .ok (.iload 4, 2) := by decide +kernel
theorem DM_X4_readOrder_92 : decode (mC M_X4_readOrder) 92 = .ok (.bipush 8, 2) := by decide +kernel
theorem DM_X4_readOrder_94 : decode (mC M_X4_readOrder) 94 = .ok (.if_icmp .ge 34, 3) := by decide +kernel
theorem DM_X4_readOrder_97 : decode (mC M_X4_readOrder) 97 = .ok (.iload_n 3, 1) := by decide +kernel
theorem DM_X4_readOrder_98 : decode (mC M_X4_readOrder) 98 = .ok (.bipush 8, 2) := by decide +kernel
theorem DM_X4_readOrder_100 : decode (mC M_X4_readOrder) 100 = .ok (.if_icmp .ge 28, 3) := by decide +kernel
theorem DM_X4_readOrder_103 : decode (mC M_X4_readOrder) 103 = .ok (.iload_n 2, 1) := by decide +kernel
theorem DM_X4_readOrder_104 : decode (mC M_X4_readOrder) 104 = .ok (.iload 4, 2) := by decide +kernel
theorem DM_X4_readOrder_106 : decode (mC M_X4_readOrder) 106 = .ok (.ishr, 1) := by decide +kernel
theorem DM_X4_readOrder_107 : decode (mC M_X4_readOrder) 107 = .ok (.iconst 1, 1) := by decide +kernel
theorem DM_X4_readOrder_108 : decode (mC M_X4_readOrder) 108 = .ok (.iand, 1) := by decide +kernel
theorem DM_X4_readOrder_109 : decode (mC M_X4_readOrder) 109 = .ok (.ifCond .ne 13, 3) := by decide +kernel
theorem DM_X4_readOrder_112 : decode (mC M_X4_readOrder) 112 = .ok (.aload_n 1, 1) := by decide +kernel
theorem DM_X4_readOrder_113 : decode (mC M_X4_readOrder) 113 = .ok (.iload_n 3, 1) := by decide +kernel
theorem DM_X4_readOrder_114 : decode (mC M_X4_readOrder) 114 = .ok (.iload 4, 2) := by decide +kernel
theorem DM_X4_readOrder_116 : decode (mC M_X4_readOrder) 116 = .ok (.invokevirtual 68, 3) := by decide +kernel
theorem DM_X4_readOrder_119 : decode (mC M_X4_readOrder) 119 = .ok (.iinc 3 1, 3) := by decide +kernel
theorem DM_X4_readOrder_122 : decode (mC M_X4_readOrder) 122 = .ok (.iinc 4 1, 3) := by decide +kernel
theorem DM_X4_readOrder_125 : decode (mC M_X4_readOrder) 125 = .ok (.goto (-35), 3) := by decide +kernel
theorem DM_X4_readOrder_128 : decode (mC M_X4_readOrder) 128 = .ok (.aload_n 0, 1) := by decide +kernel
theorem DM_X4_readOrder_129 : decode (mC M_X4_readOrder) 129 = .ok (.bipush 59, 2) := by decide +kernel
theorem DM_X4_readOrder_131 : decode (mC M_X4_readOrder) 131 = .ok (.invokevirtual 40, 3) := by decide +kernel
theorem DM_X4_readOrder_134 : decode (mC M_X4_readOrder) 134 = .ok (.ireturn, 1) := by decide +kernel
theorem DM_X4_readPeople_0 : decode (mC M_X4_readPeople) 0 = .ok (.iconst 0, 1) := by decide +kernel
theorem DM_X4_readPeople_1 : decode (mC M_X4_readPeople) 1 = .ok (.istore_n 2, 1) := by decide +kernel
theorem DM_X4_readPeople_2 : decode (mC M_X4_readPeople) 2 = .ok (.iload_n 2, 1) := by decide +kernel
theorem DM_X4_readPeople_3 : decode (mC M_X4_readPeople) 3 = .ok (.bipush 120, 2) := by decide +kernel
theorem DM_X4_readPeople_5 : decode (mC M_X4_readPeople) 5 = .ok (.if_icmp .ge 80, 3) := by decide +kernel
theorem DM_X4_readPeople_8 : decode (mC M_X4_readPeople) 8 = .ok (.aload_n 0, 1) := by decide +kernel
theorem DM_X4_readPeople_9 : decode (mC M_X4_readPeople) 9 = .ok (.getfield 72, 3) := by decide +kernel
theorem DM_X4_readPeople_12 : decode (mC M_X4_readPeople) 12 = .ok (.iconst (-1), 1) := by decide +kernel
theorem DM_X4_readPeople_13 : decode (mC M_X4_readPeople) 13 = .ok (.if_icmp .eq 72, 3) := by decide +kernel
theorem DM_X4_readPeople_16 : decode (mC M_X4_readPeople) 16 = .ok (.aload_n 0, 1) := by decide +kernel
theorem DM_X4_readPeople_17 : decode (mC M_X4_readPeople) 17 = .ok (.getfield 72, 3) := by decide +kernel
theorem DM_X4_readPeople_20 : decode (mC M_X4_readPeople) 20 = .ok (.bipush 112, 2) := by decide +kernel
theorem DM_X4_readPeople_22 : decode (mC M_X4_readPeople) 22 = .ok (.if_icmp .lt 12, 3) := by decide +kernel
theorem DM_X4_readPeople_25 : decode (mC M_X4_readPeople) 25 = .ok (.aload_n 0, 1) := by decide +kernel
theorem DM_X4_readPeople_26 : decode (mC M_X4_readPeople) 26 = .ok (.getfield 72, 3) := by decide +kernel
theorem DM_X4_readPeople_29 : decode (mC M_X4_readPeople) 29 = .ok (.bipush 116, 2) := by decide +kernel
theorem DM_X4_readPeople_31 : decode (mC M_X4_readPeople) 31 = .ok (.if_icmp .le 9, 3) := by decide +kernel
theorem DM_X4_readPeople_34 : decode (mC M_X4_readPeople) 34 = .ok (.aload_n 0, 1) := by decide +kernel
theorem DM_X4_readPeople_35 : decode (mC M_X4_readPeople) 35 = .ok (.iconst 1, 1) := by decide +kernel
theorem DM_X4_readPeople_36 : decode (mC M_X4_readPeople) 36 = .ok (.invokevirtual 65, 3) := by decide +kernel
theorem DM_X4_readPeople_39 : decode (mC M_X4_readPeople) 39 = .ok (.ireturn, 1) := by decide +kernel
theorem DM_X4_readPeople_40 : decode (mC M_X4_readPeople) 40 = .ok (.aload_n 1, 1) := by decide +kernel
theorem DM_X4_readPeople_41 : decode (mC M_X4_readPeople) 41 = .ok (.getfield 75, 3) := by decide +kernel
theorem DM_X4_readPeople_44 : decode (mC M_X4_readPeople) 44 = .ok (.bipush 6, 2) := by decide +kernel
theorem DM_X4_readPeople_46 : decode (mC M_X4_readPeople) 46 = .ok (.if_icmp .lt 9, 3) := by decide +kernel
theorem DM_X4_readPeople_49 : decode (mC M_X4_readPeople) 49 = .ok (.aload_n 0, 1) := by decide +kernel
theorem DM_X4_readPeople_50 : decode (mC M_X4_readPeople) 50 = .ok (.iconst 3, 1) := by decide +kernel
theorem DM_X4_readPeople_51 : decode (mC M_X4_readPeople) 51 = .ok (.invokevirtual 65, 3) := by decide +kernel
theorem DM_X4_readPeople_54 : decode (mC M_X4_readPeople) 54 = .ok (.ireturn, 1) := by decide +kernel
theorem DM_X4_readPeople_55 : decode (mC M_X4_readPeople) 55 = .ok (.aload_n 0, 1) := by decide +kernel
theorem DM_X4_readPeople_56 : decode (mC M_X4_readPeople) 56 = .ok (.aload_n 1, 1) := by decide +kernel
theorem DM_X4_readPeople_57 : decode (mC M_X4_readPeople) 57 = .ok (.aload_n 1, 1) := by decide +kernel
theorem DM_X4_readPeople_58 : decode (mC M_X4_readPeople) 58 = .ok (.getfield 75, 3) := by decide +kernel
theorem DM_X4_readPeople_61 : decode (mC M_X4_readPeople) 61 = .ok (.invokevirtual 78, 3) := by decide +kernel
theorem DM_X4_readPeople_64 : decode (mC M_X4_readPeople) 64 = .ok (.ifCond .ne 5, 3) := by decide +kernel
theorem DM_X4_readPeople_67 : decode (mC M_X4_readPeople) 67 = .ok (.iconst 0, 1) := by decide +kernel
theorem DM_X4_readPeople_68 : decode (mC M_X4_readPeople) 68 = .ok (.ireturn, 1) := by decide +kernel
theorem DM_X4_readPeople_69 : decode (mC M_X4_readPeople) 69 = .ok (.aload_n 1, 1) := by decide +kernel
theorem DM_X4_readPeople_70 : decode (mC M_X4_readPeople) 70 = .ok (.dup, 1) := by decide +kernel
theorem DM_X4_readPeople_71 : decode (mC M_X4_readPeople) 71 = .ok (.getfield 75, 3) := by decide +kernel
theorem DM_X4_readPeople_74 : decode (mC M_X4_readPeople) 74 = .ok (.iconst 1, 1) := by decide +kernel
theorem DM_X4_readPeople_75 : decode (mC M_X4_readPeople) 75 = .ok (.iadd, 1) := by decide +kernel
theorem DM_X4_readPeople_76 : decode (mC M_X4_readPeople) 76 = .ok (.putfield 75, 3) := by decide +kernel
theorem DM_X4_readPeople_79 : decode (mC M_X4_readPeople) 79 = .ok (.iinc 2 1, 3) := by decide +kernel
theorem DM_X4_readPeople_82 : decode (mC M_X4_readPeople) 82 = .ok (.goto (-80), 3) := by decide +kernel
theorem DM_X4_readPeople_85 : decode (mC M_X4_readPeople) 85 = .ok (.iconst 1, 1) := by decide +kernel
theorem DM_X4_readPeople_86 : decode (mC M_X4_readPeople) 86 = .ok (.ireturn, 1) := by decide +kernel
theorem DM_X4_readPerson_0 : decode (mC M_X4_readPerson) 0 = .ok (.aload_n 1, 1) := by decide +kernel
theorem DM_X4_readPerson_1 : decode (mC M_X4_readPerson) 1 = .ok (.getfield 82, 3) := by decide +kernel
theorem DM_X4_readPerson_4 : decode (mC M_X4_readPerson) 4 = .ok (.iload_n 2, 1) := by decide +kernel
theorem DM_X4_readPerson_5 : decode (mC M_X4_readPerson) 5 = .ok (.aload_n 0, 1) := by decide +kernel
theorem DM_X4_readPerson_6 : decode (mC M_X4_readPerson) 6 = .ok (.getfield 72, 3) := by decide +kernel
theorem DM_X4_readPerson_9 : decode (mC M_X4_readPerson) 9 = .ok (.bipush 112, 2) := by decide +kernel
theorem DM_X4_readPerson_11 : decode (mC M_X4_readPerson) 11 = .ok (.isub, 1) := by decide +kernel
theorem DM_X4_readPerson_12 : decode (mC M_X4_readPerson) 12 = .ok (.iconst 1, 1) := by decide +kernel
theorem DM_X4_readPerson_13 : decode (mC M_X4_readPerson) 13 = .ok (.iadd, 1) := by decide +kernel
theorem DM_X4_readPerson_14 : decode (mC M_X4_readPerson) 14 = .ok (.iastore, 1) := by decide +kernel
theorem DM_X4_readPerson_15 : decode (mC M_X4_readPerson) 15 = .ok (.aload_n 0, 1) := by decide +kernel
theorem DM_X4_readPerson_16 : decode (mC M_X4_readPerson) 16 = .ok (.invokevirtual 27, 3) := by decide +kernel
theorem DM_X4_readPerson_19 : decode (mC M_X4_readPerson) 19 = .ok (.iconst 0, 1) := by decide +kernel
theorem DM_X4_readPerson_20 : decode (mC M_X4_readPerson) 20 = .ok (.istore_n 3, 1) := by decide +kernel
theorem DM_X4_readPerson_21 : decode (mC M_X4_readPerson) 21 = .ok (.iload_n 3, 1) := by decide +kernel
theorem DM_X4_readPerson_22 : decode (mC M_X4_readPerson) 22 = .ok (.iconst 4, 1) := by decide +kernel
theorem DM_X4_readPerson_23 : decode (mC M_X4_readPerson) 23 = .ok (.if_icmp .ge 30, 3) := by decide +kernel
theorem DM_X4_readPerson_26 : decode (mC M_X4_readPerson) 26 = .ok (.aload_n 0, 1) := by decide +kernel
theorem DM_X4_readPerson_27 : decode (mC M_X4_readPerson) 27 = .ok (.invokevirtual 58, 3) := by decide +kernel
theorem DM_X4_readPerson_30 : decode (mC M_X4_readPerson) 30 = .ok (.ifCond .eq 23, 3) := by decide +kernel
theorem DM_X4_readPerson_33 : decode (mC M_X4_readPerson) 33 = .ok (.aload_n 1, 1) := by decide +kernel
theorem DM_X4_readPerson_34 : decode (mC M_X4_readPerson) 34 = .ok (.iload_n 2, 1) := by decide +kernel
theorem DM_X4_readPerson_35 : decode (mC M_X4_readPerson) 35 = .ok (.iload_n 3, 1) := by decide +kernel
theorem DM_X4_readPerson_36 : decode (mC M_X4_readPerson) 36 = .ok (.aload_n 0, 1) := by decide +kernel
theorem DM_X4_readPerson_37 : decode (mC M_X4_readPerson) 37 = .ok (.invokevirtual 62, 3) := by decide +kernel
theorem DM_X4_readPerson_40 : decode (mC M_X4_readPerson) 40 = .ok (.invokevirtual 85, 3) := by decide +kernel
theorem DM_X4_readPerson_43 : decode (mC M_X4_readPerson) 43 = .ok (.aload_n 0, 1) := by decide +kernel
theorem DM_X4_readPerson_44 : decode (mC M_X4_readPerson) 44 = .ok (.invokevirtual 27, 3) := by decide +kernel
theorem DM_X4_readPerson_47 : decode (mC M_X4_readPerson) 47 = .ok (.iinc 3 1, 3) := by decide +kernel
theorem DM_X4_readPerson_50 : decode (mC M_X4_readPerson) 50 = .ok (.goto (-29), 3) := by decide +kernel
theorem DM_X4_readPerson_53 : decode (mC M_X4_readPerson) 53 = .ok (.iload_n 3, 1) := by decide +kernel
theorem DM_X4_readPerson_54 : decode (mC M_X4_readPerson) 54 = .ok (.ifCond .ne 9, 3) := by decide +kernel
theorem DM_X4_readPerson_57 : decode (mC M_X4_readPerson) 57 = .ok (.aload_n 0, 1) := by decide +kernel
theorem DM_X4_readPerson_58 : decode (mC M_X4_readPerson) 58 = .ok (.iconst 1, 1) := by decide +kernel
theorem DM_X4_readPerson_59 : decode (mC M_X4_readPerson) 59 = .ok (.invokevirtual 65, 3) := by decide +kernel
theorem DM_X4_readPerson_62 : decode (mC M_X4_readPerson) 62 = .ok (.ireturn, 1) := by decide +kernel
theorem DM_X4_readPerson_63 : decode (mC M_X4_readPerson) 63 = .ok (.aload_n 1, 1) := by decide +kernel
theorem DM_X4_readPerson_64 : decode (mC M_X4_readPerson) 64 = .ok (.getfield 89, 3) := by decide +kernel
theorem DM_X4_readPerson_67 : decode (mC M_X4_readPerson) 67 = .ok (.iload_n 2, 1) := by decide +kernel
theorem DM_X4_readPerson_68 : decode (mC M_X4_readPerson) 68 = .ok (.iload_n 3, 1) := by decide +kernel
theorem DM_X4_readPerson_69 : decode (mC M_X4_readPerson) 69 = .ok (.iastore, 1) := by decide +kernel
theorem DM_X4_readPerson_70 : decode (mC M_X4_readPerson) 70 = .ok (.aload_n 0, 1) := by decide +kernel
theorem DM_X4_readPerson_71 : decode (mC M_X4_readPerson) 71 = .ok (.iconst 1, 1) := by decide +kernel
theorem DM_X4_readPerson_72 : decode (mC M_X4_readPerson) 72 = .ok (.bipush 30, 2) := by decide +kernel
theorem DM_X4_readPerson_74 : decode (mC M_X4_readPerson) 74 = .ok (.invokevirtual 44, 3) := by decide +kernel
theorem DM_X4_readPerson_77 : decode (mC M_X4_readPerson) 77 = .ok (.ifCond .ne 5, 3) := by decide +kernel
theorem DM_X4_readPerson_80 : decode (mC M_X4_readPerson) 80 = .ok (.iconst 0, 1) := by decide +kernel
theorem DM_X4_readPerson_81 : decode (mC M_X4_readPerson) 81 = .ok (.ireturn, 1) := by decide +kernel
theorem DM_X4_readPerson_82 : decode (mC M_X4_readPerson) 82 = .ok (.aload_n 1, 1) := by decide +kernel
theorem DM_X4_readPerson_83 : decode (mC M_X4_readPerson) 83 = .ok (.getfield 92, 3) := by decide +kernel
theorem DM_X4_readPerson_86 : decode (mC M_X4_readPerson) 86 = .ok (.iload_n 2, 1) := by decide +kernel
theorem DM_X4_readPerson_87 : decode (mC M_X4_readPerson) 87 = .ok (.aload_n 0, 1) := by decide +kernel
theorem DM_X4_readPerson_88 : decode (mC M_X4_readPerson) 88 = .ok (.invokevirtual 48, 3) := by decide +kernel
theorem DM_X4_readPerson_91 : decode (mC M_X4_readPerson) 91 = .ok (.iastore, 1) := by decide +kernel
theorem DM_X4_readPerson_92 : decode (mC M_X4_readPerson) 92 = .ok (.aload_n 0, 1) := by decide +kernel
theorem DM_X4_readPerson_93 : decode (mC M_X4_readPerson) 93 = .ok (.bipush 44, 2) := by decide +kernel
theorem DM_X4_readPerson_95 : decode (mC M_X4_readPerson) 95 = .ok (.invokevirtual 40, 3) := by decide +kernel
theorem DM_X4_readPerson_98 : decode (mC M_X4_readPerson) 98 = .ok (.ifCond .eq 13, 3) := by decide +kernel
theorem DM_X4_readPerson_101 : decode (mC M_X4_readPerson) 101 = .ok (.aload_n 0, 1) := by decide +kernel
theorem DM_X4_readPerson_102 : decode (mC M_X4_readPerson) 102 = .ok (.iconst 1, 1) := by decide +kernel
theorem DM_X4_readPerson_103 : decode (mC M_X4_readPerson) 103 = .ok (.bipush 99, 2) := by decide +kernel
theorem DM_X4_readPerson_105 : decode (mC M_X4_readPerson) 105 = .ok (.invokevirtual 44, 3) := by decide +kernel
theorem DM_X4_readPerson_108 : decode (mC M_X4_readPerson) 108 = .ok (.ifCond .ne 5, 3) := by decide +kernel
theorem DM_X4_readPerson_111 : decode (mC M_X4_readPerson) 111 = .ok (.iconst 0, 1) := by decide +kernel
theorem DM_X4_readPerson_112 : decode (mC M_X4_readPerson) 112 = .ok (.ireturn, 1) := by decide +kernel
theorem DM_X4_readPerson_113 : decode (mC M_X4_readPerson) 113 = .ok (.aload_n 1, 1) := by decide +kernel
theorem DM_X4_readPerson_114 : decode (mC M_X4_readPerson) 114 = .ok (.getfield 95, 3) := by decide +kernel
theorem DM_X4_readPerson_117 : decode (mC M_X4_readPerson) 117 = .ok (.iload_n 2, 1) := by decide +kernel
theorem DM_X4_readPerson_118 : decode (mC M_X4_readPerson) 118 = .ok (.aload_n 0, 1) := by decide +kernel
theorem DM_X4_readPerson_119 : decode (mC M_X4_readPerson) 119 = .ok (.invokevirtual 48, 3) := by decide +kernel
theorem DM_X4_readPerson_122 : decode (mC M_X4_readPerson) 122 = .ok (.iastore, 1) := by decide +kernel
theorem DM_X4_readPerson_123 : decode (mC M_X4_readPerson) 123 = .ok (.aload_n 0, 1) := by decide +kernel
theorem DM_X4_readPerson_124 : decode (mC M_X4_readPerson) 124 = .ok (.bipush 59, 2) := by decide +kernel
theorem DM_X4_readPerson_126 : decode (mC M_X4_readPerson) 126 = .ok (.invokevirtual 40, 3) := by decide +kernel
theorem DM_X4_readPerson_129 : decode (mC M_X4_readPerson) 129 = .ok (.ireturn, 1) := by decide +kernel
theorem DM_X4_hasFault_0 : decode (mC M_X4_hasFault) 0 = .ok (.aload_n 0, 1) := by decide +kernel
theorem DM_X4_hasFault_1 : decode (mC M_X4_hasFault) 1 = .ok (.iload_n 1, 1) := by decide +kernel
theorem DM_X4_hasFault_2 : decode (mC M_X4_hasFault) 2 = .ok (.putfield 98, 3) := by decide +kernel
theorem DM_X4_hasFault_5 : decode (mC M_X4_hasFault) 5 = .ok (.aload_n 0, 1) := by decide +kernel
theorem DM_X4_hasFault_6 : decode (mC M_X4_hasFault) 6 = .ok (.aload_n 0, 1) := by decide +kernel
theorem DM_X4_hasFault_7 : decode (mC M_X4_hasFault) 7 = .ok (.getfield 101, 3) := by decide +kernel
theorem DM_X4_hasFault_10 : decode (mC M_X4_hasFault) 10 = .ok (.putfield 104, 3) := by decide +kernel
theorem DM_X4_hasFault_13 : decode (mC M_X4_hasFault) 13 = .ok (.iconst 0, 1) := by decide +kernel
theorem DM_X4_hasFault_14 : decode (mC M_X4_hasFault) 14 = .ok (.ireturn, 1) := by decide +kernel
theorem DM_X4_passOver_0 : decode (mC M_X4_passOver) 0 = .ok (.aload_n 0, 1) := by decide +kernel
theorem DM_X4_passOver_1 : decode (mC M_X4_passOver) 1 = .ok (.getfield 72, 3) := by decide +kernel
theorem DM_X4_passOver_4 : decode (mC M_X4_passOver) 4 = .ok (.iload_n 1, 1) := by decide +kernel
theorem DM_X4_passOver_5 : decode (mC M_X4_passOver) 5 = .ok (.if_icmp .eq 9, 3) := by decide +kernel
theorem DM_X4_passOver_8 : decode (mC M_X4_passOver) 8 = .ok (.aload_n 0, 1) := by decide +kernel
theorem DM_X4_passOver_9 : decode (mC M_X4_passOver) 9 = .ok (.iconst 1, 1) := by decide +kernel
theorem DM_X4_passOver_10 : decode (mC M_X4_passOver) 10 = .ok (.invokevirtual 65, 3) := by decide +kernel
theorem DM_X4_passOver_13 : decode (mC M_X4_passOver) 13 = .ok (.ireturn, 1) := by decide +kernel
theorem DM_X4_passOver_14 : decode (mC M_X4_passOver) 14 = .ok (.aload_n 0, 1) := by decide +kernel
theorem DM_X4_passOver_15 : decode (mC M_X4_passOver) 15 = .ok (.invokevirtual 27, 3) := by decide +kernel
theorem DM_X4_passOver_18 : decode (mC M_X4_passOver) 18 = .ok (.iconst 1, 1) := by decide +kernel
theorem DM_X4_passOver_19 : decode (mC M_X4_passOver) 19 = .ok (.ireturn, 1) := by decide +kernel
theorem DM_X4_isNumberIn_0 : decode (mC M_X4_isNumberIn) 0 = .ok (.aload_n 0, 1) := by decide +kernel
theorem DM_X4_isNumberIn_1 : decode (mC M_X4_isNumberIn) 1 = .ok (.getfield 72, 3) := by decide +kernel
theorem DM_X4_isNumberIn_4 : decode (mC M_X4_isNumberIn) 4 = .ok (.bipush (-2), 2) := by decide +kernel
theorem DM_X4_isNumberIn_6 : decode (mC M_X4_isNumberIn) 6 = .ok (.if_icmp .eq 9, 3) := by decide +kernel
theorem DM_X4_isNumberIn_9 : decode (mC M_X4_isNumberIn) 9 = .ok (.aload_n 0, 1) := by decide +kernel
theorem DM_X4_isNumberIn_10 : decode (mC M_X4_isNumberIn) 10 = .ok (.iconst 1, 1) := by decide +kernel
theorem DM_X4_isNumberIn_11 : decode (mC M_X4_isNumberIn) 11 = .ok (.invokevirtual 65, 3) := by decide +kernel
theorem DM_X4_isNumberIn_14 : decode (mC M_X4_isNumberIn) 14 = .ok (.ireturn, 1) := by decide +kernel
theorem DM_X4_isNumberIn_15 : decode (mC M_X4_isNumberIn) 15 = .ok (.aload_n 0, 1) := by decide +kernel
theorem DM_X4_isNumberIn_16 : decode (mC M_X4_isNumberIn) 16 = .ok (.getfield 107, 3) := by decide +kernel
theorem DM_X4_isNumberIn_19 : decode (mC M_X4_isNumberIn) 19 = .ok (.iload_n 1, 1) := by decide +kernel
theorem DM_X4_isNumberIn_20 : decode (mC M_X4_isNumberIn) 20 = .ok (.if_icmp .lt 11, 3) := by decide +kernel
theorem DM_X4_isNumberIn_23 : decode (mC M_X4_isNumberIn) 23 = .ok (.aload_n 0, 1) := by decide +kernel
theorem DM_X4_isNumberIn_24 : decode (mC M_X4_isNumberIn) 24 = .ok (.getfield 107, 3) := by decide +kernel
theorem DM_X4_isNumberIn_27 : decode (mC M_X4_isNumberIn) 27 = .ok (.iload_n 2, 1) := by decide +kernel
theorem DM_X4_isNumberIn_28 : decode (mC M_X4_isNumberIn) 28 = .ok (.if_icmp .le 9, 3) := by decide +kernel
theorem DM_X4_isNumberIn_31 : decode (mC M_X4_isNumberIn) 31 = .ok (.aload_n 0, 1) := by decide +kernel
theorem DM_X4_isNumberIn_32 : decode (mC M_X4_isNumberIn) 32 = .ok (.iconst 2, 1) := by decide +kernel
theorem DM_X4_isNumberIn_33 : decode (mC M_X4_isNumberIn) 33 = .ok (.invokevirtual 65, 3) := by decide +kernel
theorem DM_X4_isNumberIn_36 : decode (mC M_X4_isNumberIn) 36 = .ok (.ireturn, 1) := by decide +kernel
theorem DM_X4_isNumberIn_37 : decode (mC M_X4_isNumberIn) 37 = .ok (.iconst 1, 1) := by decide +kernel
theorem DM_X4_isNumberIn_38 : decode (mC M_X4_isNumberIn) 38 = .ok (.ireturn, 1) := by decide +kernel
theorem DM_X4_takeNumber_0 : decode (mC M_X4_takeNumber) 0 = .ok (.aload_n 0, 1) := by decide +kernel
theorem DM_X4_takeNumber_1 : decode (mC M_X4_takeNumber) 1 = .ok (.getfield 107, 3) := by decide +kernel
theorem DM_X4_takeNumber_4 : decode (mC M_X4_takeNumber) 4 = .ok (.istore_n 1, 1) := by decide +kernel
theorem DM_X4_takeNumber_5 : decode (mC M_X4_takeNumber) 5 = .ok (.aload_n 0, 1) := by decide +kernel
theorem DM_X4_takeNumber_6 : decode (mC M_X4_takeNumber) 6 = .ok (.invokevirtual 27, 3) := by decide +kernel
theorem DM_X4_takeNumber_9 : decode (mC M_X4_takeNumber) 9 = .ok (.iload_n 1, 1) := by decide +kernel
theorem DM_X4_takeNumber_10 : decode (mC M_X4_takeNumber) 10 = .ok (.ireturn, 1) := by decide +kernel
theorem DM_X4_isLetter_0 : decode (mC M_X4_isLetter) 0 = .ok (.aload_n 0, 1) := by decide +kernel
theorem DM_X4_isLetter_1 : decode (mC M_X4_isLetter) 1 = .ok (.getfield 72, 3) := by decide +kernel
theorem DM_X4_isLetter_4 : decode (mC M_X4_isLetter) 4 = .ok (.bipush 97, 2) := by decide +kernel
theorem DM_X4_isLetter_6 : decode (mC M_X4_isLetter) 6 = .ok (.if_icmp .lt 16, 3) := by decide +kernel
theorem DM_X4_isLetter_9 : decode (mC M_X4_isLetter) 9 = .ok (.aload_n 0, 1) := by decide +kernel
theorem DM_X4_isLetter_10 : decode (mC M_X4_isLetter) 10 = .ok (.getfield 72, 3) := by decide +kernel
theorem DM_X4_isLetter_13 : decode (mC M_X4_isLetter) 13 = .ok (.bipush 105, 2) := by decide +kernel
theorem DM_X4_isLetter_15 : decode (mC M_X4_isLetter) 15 = .ok (.if_icmp .ge 7, 3) := by decide +kernel
theorem DM_X4_isLetter_18 : decode (mC M_X4_isLetter) 18 = .ok (.iconst 1, 1) := by decide +kernel
theorem DM_X4_isLetter_19 : decode (mC M_X4_isLetter) 19 = .ok (.goto 4, 3) := by decide +kernel
theorem DM_X4_isLetter_22 : decode (mC M_X4_isLetter) 22 = .ok (.iconst 0, 1) := by decide +kernel
theorem DM_X4_isLetter_23 : decode (mC M_X4_isLetter) 23 = .ok (.ireturn, 1) := by decide +kernel
theorem DM_X4_letterOfToken_0 : decode (mC M_X4_letterOfToken) 0 = .ok (.aload_n 0, 1) := by decide +kernel
theorem DM_X4_letterOfToken_1 : decode (mC M_X4_letterOfToken) 1 = .ok (.getfield 72, 3) := by decide +kernel
theorem DM_X4_letterOfToken_4 : decode (mC M_X4_letterOfToken) 4 = .ok (.bipush 97, 2) := by decide +kernel
theorem DM_X4_letterOfToken_6 : decode (mC M_X4_letterOfToken) 6 = .ok (.isub, 1) := by decide +kernel
theorem DM_X4_letterOfToken_7 : decode (mC M_X4_letterOfToken) 7 = .ok (.ireturn, 1) := by decide +kernel
theorem DM_X4_isFigureAt_0 : decode (mC M_X4_isFigureAt) 0 = .ok (.iload_n 1, 1) := by decide +kernel
theorem DM_X4_isFigureAt_1 : decode (mC M_X4_isFigureAt) 1 = .ok (.aload_n 0, 1) := by decide +kernel
theorem DM_X4_isFigureAt_2 : decode (mC M_X4_isFigureAt) 2 = .ok (.getfield 15, 3) := by decide +kernel
theorem DM_X4_isFigureAt_5 : decode (mC M_X4_isFigureAt) 5 = .ok (.if_icmp .ge 29, 3) := by decide +kernel
theorem DM_X4_isFigureAt_8 : decode (mC M_X4_isFigureAt) 8 = .ok (.aload_n 0, 1) := by decide +kernel
theorem DM_X4_isFigureAt_9 : decode (mC M_X4_isFigureAt) 9 = .ok (.getfield 9, 3) := by decide +kernel
theorem DM_X4_isFigureAt_12 : decode (mC M_X4_isFigureAt) 12 = .ok (.iload_n 1, 1) := by decide +kernel
theorem DM_X4_isFigureAt_13 : decode (mC M_X4_isFigureAt) 13 = .ok (.iaload, 1) := by decide +kernel
theorem DM_X4_isFigureAt_14 : decode (mC M_X4_isFigureAt) 14 = .ok (.bipush 48, 2) := by decide +kernel
theorem DM_X4_isFigureAt_16 : decode (mC M_X4_isFigureAt) 16 = .ok (.if_icmp .lt 18, 3) := by decide +kernel
theorem DM_X4_isFigureAt_19 : decode (mC M_X4_isFigureAt) 19 = .ok (.aload_n 0, 1) := by decide +kernel
theorem DM_X4_isFigureAt_20 : decode (mC M_X4_isFigureAt) 20 = .ok (.getfield 9, 3) := by decide +kernel
theorem DM_X4_isFigureAt_23 : decode (mC M_X4_isFigureAt) 23 = .ok (.iload_n 1, 1) := by decide +kernel
theorem DM_X4_isFigureAt_24 : decode (mC M_X4_isFigureAt) 24 = .ok (.iaload, 1) := by decide +kernel
theorem DM_X4_isFigureAt_25 : decode (mC M_X4_isFigureAt) 25 = .ok (.bipush 57, 2) := by decide +kernel
theorem DM_X4_isFigureAt_27 : decode (mC M_X4_isFigureAt) 27 = .ok (.if_icmp .gt 7, 3) := by decide +kernel
theorem DM_X4_isFigureAt_30 : decode (mC M_X4_isFigureAt) 30 = .ok (.iconst 1, 1) := by decide +kernel
theorem DM_X4_isFigureAt_31 : decode (mC M_X4_isFigureAt) 31 = .ok (.goto 4, 3) := by decide +kernel
theorem DM_X4_isFigureAt_34 : decode (mC M_X4_isFigureAt) 34 = .ok (.iconst 0, 1) := by decide +kernel
theorem DM_X4_isFigureAt_35 : decode (mC M_X4_isFigureAt) 35 = .ok (.ireturn, 1) := by decide +kernel
theorem DM_X4_step_0 : decode (mC M_X4_step) 0 = .ok (.aload_n 0, 1) := by decide +kernel
theorem DM_X4_step_1 : decode (mC M_X4_step) 1 = .ok (.aload_n 0, 1) := by decide +kernel
theorem DM_X4_step_2 : decode (mC M_X4_step) 2 = .ok (.getfield 24, 3) := by decide +kernel
theorem DM_X4_step_5 : decode (mC M_X4_step) 5 = .ok (.putfield 101, 3) := by decide +kernel
theorem DM_X4_step_8 : decode (mC M_X4_step) 8 = .ok (.aload_n 0, 1) := by decide +kernel
theorem DM_X4_step_9 : decode (mC M_X4_step) 9 = .ok (.getfield 24, 3) := by decide +kernel
theorem DM_X4_step_12 : decode (mC M_X4_step) 12 = .ok (.aload_n 0, 1) := by decide +kernel
theorem DM_X4_step_13 : decode (mC M_X4_step) 13 = .ok (.getfield 15, 3) := by decide +kernel
theorem DM_X4_step_16 : decode (mC M_X4_step) 16 = .ok (.if_icmp .lt 9, 3) := by decide +kernel
theorem DM_X4_step_19 : decode (mC M_X4_step) 19 = .ok (.aload_n 0, 1) := by decide +kernel
theorem DM_X4_step_20 : decode (mC M_X4_step) 20 = .ok (.iconst (-1), 1) := by decide +kernel
theorem DM_X4_step_21 : decode (mC M_X4_step) 21 = .ok (.putfield 72, 3) := by decide +kernel
theorem DM_X4_step_24 : decode (mC M_X4_step) 24 = .ok (.return_, 1) := by decide +kernel
theorem DM_X4_step_25 : decode (mC M_X4_step) 25 = .ok (.aload_n 0, 1) := by decide +kernel
theorem DM_X4_step_26 : decode (mC M_X4_step) 26 = .ok (.aload_n 0, 1) := by decide +kernel
theorem DM_X4_step_27 : decode (mC M_X4_step) 27 = .ok (.getfield 24, 3) := by decide +kernel
theorem DM_X4_step_30 : decode (mC M_X4_step) 30 = .ok (.invokevirtual 110, 3) := by decide +kernel
theorem DM_X4_step_33 : decode (mC M_X4_step) 33 = .ok (.ifCond .ne 27, 3) := by decide +kernel
theorem DM_X4_step_36 : decode (mC M_X4_step) 36 = .ok (.aload_n 0, 1) := by decide +kernel
theorem DM_X4_step_37 : decode (mC M_X4_step) 37 = .ok (.aload_n 0, 1) := by decide +kernel
theorem DM_X4_step_38 : decode (mC M_X4_step) 38 = .ok (.getfield 9, 3) := by decide +kernel
theorem DM_X4_step_41 : decode (mC M_X4_step) 41 = .ok (.aload_n 0, 1) := by decide +kernel
theorem DM_X4_step_42 : decode (mC M_X4_step) 42 = .ok (.getfield 24, 3) := by decide +kernel
theorem DM_X4_step_45 : decode (mC M_X4_step) 45 = .ok (.iaload, 1) := by decide +kernel
theorem DM_X4_step_46 : decode (mC M_X4_step) 46 = .ok (.putfield 72, 3) := by decide +kernel
theorem DM_X4_step_49 : decode (mC M_X4_step) 49 = .ok (.aload_n 0, 1) := by decide +kernel
theorem DM_X4_step_50 : decode (mC M_X4_step) 50 = .ok (.dup, 1) := by decide +kernel
theorem DM_X4_step_51 : decode (mC M_X4_step) 51 = .ok (.getfield 24, 3) := by decide +kernel
theorem DM_X4_step_54 : decode (mC M_X4_step) 54 = .ok (.iconst 1, 1) := by decide +kernel
theorem DM_X4_step_55 : decode (mC M_X4_step) 55 = .ok (.iadd, 1) := by decide +kernel
theorem DM_X4_step_56 : decode (mC M_X4_step) 56 = .ok (.putfield 24, 3) := by decide +kernel
theorem DM_X4_step_59 : decode (mC M_X4_step) 59 = .ok (.return_, 1) := by decide +kernel
theorem DM_X4_step_60 : decode (mC M_X4_step) 60 = .ok (.aload_n 0, 1) := by decide +kernel
theorem DM_X4_step_61 : decode (mC M_X4_step) 61 = .ok (.iconst 0, 1) := by decide +kernel
theorem DM_X4_step_62 : decode (mC M_X4_step) 62 = .ok (.putfield 107, 3) := by decide +kernel
theorem DM_X4_step_65 : decode (mC M_X4_step) 65 = .ok (.iconst 0, 1) := by decide +kernel
theorem DM_X4_step_66 : decode (mC M_X4_step) 66 = .ok (.istore_n 1, 1) := by decide +kernel
theorem DM_X4_step_67 : decode (mC M_X4_step) 67 = .ok (.iload_n 1, 1) := by decide +kernel
theorem DM_X4_step_68 : decode (mC M_X4_step) 68 = .ok (.bipush 120, 2) := by decide +kernel
theorem DM_X4_step_70 : decode (mC M_X4_step) 70 = .ok (.if_icmp .ge 59, 3) := by decide +kernel
theorem DM_X4_step_73 : decode (mC M_X4_step) 73 = .ok (.aload_n 0, 1) := by decide +kernel
theorem DM_X4_step_74 : decode (mC M_X4_step) 74 = .ok (.aload_n 0, 1) := by decide +kernel
theorem DM_X4_step_75 : decode (mC M_X4_step) 75 = .ok (.getfield 24, 3) := by decide +kernel
theorem DM_X4_step_78 : decode (mC M_X4_step) 78 = .ok (.invokevirtual 110, 3) := by decide +kernel
theorem DM_X4_step_81 : decode (mC M_X4_step) 81 = .ok (.ifCond .eq 48, 3) := by decide +kernel
theorem DM_X4_step_84 : decode (mC M_X4_step) 84 = .ok (.iload_n 1, 1) := by decide +kernel
theorem DM_X4_step_85 : decode (mC M_X4_step) 85 = .ok (.iconst 2, 1) := by decide +kernel
theorem DM_X4_step_86 : decode (mC M_X4_step) 86 = .ok (.if_icmp .ge 27, 3) := by decide +kernel
theorem DM_X4_step_89 : decode (mC M_X4_step) 89 = .ok (.aload_n 0, 1) := by decide +kernel
theorem DM_X4_step_90 : decode (mC M_X4_step) 90 = .ok (.aload_n 0, 1) := by decide +kernel
theorem DM_X4_step_91 : decode (mC M_X4_step) 91 = .ok (.getfield 107, 3) := by decide +kernel
theorem DM_X4_step_94 : decode (mC M_X4_step) 94 = .ok (.bipush 10, 2) := by decide +kernel
theorem DM_X4_step_96 : decode (mC M_X4_step) 96 = .ok (.imul, 1) := by decide +kernel
theorem DM_X4_step_97 : decode (mC M_X4_step) 97 = .ok (.aload_n 0, 1) := by decide +kernel
theorem DM_X4_step_98 : decode (mC M_X4_step) 98 = .ok (.getfield 9, 3) := by decide +kernel
theorem DM_X4_step_101 : decode (mC M_X4_step) 101 = .ok (.aload_n 0, 1) := by decide +kernel
theorem DM_X4_step_102 : decode (mC M_X4_step) 102 = .ok (.getfield 24, 3) := by decide +kernel
theorem DM_X4_step_105 : decode (mC M_X4_step) 105 = .ok (.iaload, 1) := by decide +kernel
theorem DM_X4_step_106 : decode (mC M_X4_step) 106 = .ok (.iadd, 1) := by decide +kernel
theorem DM_X4_step_107 : decode (mC M_X4_step) 107 = .ok (.bipush 48, 2) := by decide +kernel
theorem DM_X4_step_109 : decode (mC M_X4_step) 109 = .ok (.isub, 1) := by decide +kernel
theorem DM_X4_step_110 : decode (mC M_X4_step) 110 = .ok (.putfield 107, 3) := by decide +kernel
theorem DM_X4_step_113 : decode (mC M_X4_step) 113 = .ok (.aload_n 0, 1) := by decide +kernel
theorem DM_X4_step_114 : decode (mC M_X4_step) 114 = .ok (.dup, 1) := by decide +kernel
theorem DM_X4_step_115 : decode (mC M_X4_step) 115 = .ok (.getfield 24, 3) := by decide +kernel
theorem DM_X4_step_118 : decode (mC M_X4_step) 118 = .ok (.iconst 1, 1) := by decide +kernel
theorem DM_X4_step_119 : decode (mC M_X4_step) 119 = .ok (.iadd, 1) := by decide +kernel
theorem DM_X4_step_120 : decode (mC M_X4_step) 120 = .ok (.putfield 24, 3) := by decide +kernel
theorem DM_X4_step_123 : decode (mC M_X4_step) 123 = .ok (.iinc 1 1, 3) := by decide +kernel
theorem DM_X4_step_126 : decode (mC M_X4_step) 126 = .ok (.goto (-59), 3) := by decide +kernel
theorem DM_X4_step_129 : decode (mC M_X4_step) 129 = .ok (.aload_n 0, 1) := by decide +kernel
theorem DM_X4_step_130 : decode (mC M_X4_step) 130 = .ok (.aload_n 0, 1) := by decide +kernel
theorem DM_X4_step_131 : decode (mC M_X4_step) 131 = .ok (.getfield 24, 3) := by decide +kernel
theorem DM_X4_step_134 : decode (mC M_X4_step) 134 = .ok (.aload_n 0, 1) := by decide +kernel
theorem DM_X4_step_135 : decode (mC M_X4_step) 135 = .ok (.getfield 101, 3) := by decide +kernel
theorem DM_X4_step_138 : decode (mC M_X4_step) 138 = .ok (.isub, 1) := by decide +kernel
theorem DM_X4_step_139 : decode (mC M_X4_step) 139 = .ok (.iconst 2, 1) := by decide +kernel
theorem DM_X4_step_140 : decode (mC M_X4_step) 140 = .ok (.if_icmp .le 8, 3) := by decide +kernel
theorem DM_X4_step_143 : decode (mC M_X4_step) 143 = .ok (.bipush (-3), 2) := by decide +kernel
theorem DM_X4_step_145 : decode (mC M_X4_step) 145 = .ok (.goto 5, 3) := by decide +kernel
theorem DM_X4_step_148 : decode (mC M_X4_step) 148 = .ok (.bipush (-2), 2) := by decide +kernel
theorem DM_X4_step_150 : decode (mC M_X4_step) 150 = .ok (.putfield 72, 3) := by decide +kernel
theorem DM_X4_step_153 : decode (mC M_X4_step) 153 = .ok (.return_, 1) := by decide +kernel
theorem DM_X5_init_0 : decode (mC M_X5_init) 0 = .ok (.aload_n 0, 1) := by decide +kernel
theorem DM_X5_init_1 : decode (mC M_X5_init) 1 = .ok (.invokespecial 3, 3) := by decide +kernel
theorem DM_X5_init_4 : decode (mC M_X5_init) 4 = .ok (.aload_n 0, 1) := by decide +kernel
theorem DM_X5_init_5 : decode (mC M_X5_init) 5 = .ok (.new 9, 3) := by decide +kernel
theorem DM_X5_init_8 : decode (mC M_X5_init) 8 = .ok (.dup, 1) := by decide +kernel
theorem DM_X5_init_9 : decode (mC M_X5_init) 9 = .ok (.invokespecial 11, 3) := by decide +kernel
theorem DM_X5_init_12 : decode (mC M_X5_init) 12 = .ok (.putfield 12, 3) := by decide +kernel
theorem DM_X5_init_15 : decode (mC M_X5_init) 15 = .ok (.return_, 1) := by decide +kernel
theorem DM_X5_findFewest_0 : decode (mC M_X5_findFewest) 0 = .ok (.aload_n 0, 1) := by decide +kernel
theorem DM_X5_findFewest_1 : decode (mC M_X5_findFewest) 1 = .ok (.getfield 12, 3) := by decide +kernel
theorem DM_X5_findFewest_4 : decode (mC M_X5_findFewest) 4 = .ok (.aload_n 1, 1) := by decide +kernel
theorem DM_X5_findFewest_5 : decode (mC M_X5_findFewest) 5 = .ok (.invokevirtual 18, 3) := by decide +kernel
theorem DM_X5_findFewest_8 : decode (mC M_X5_findFewest) 8 = .ok (.aload_n 1, 1) := by decide +kernel
theorem DM_X5_findFewest_9 : decode (mC M_X5_findFewest) 9 = .ok (.aload_n 1, 1) := by decide +kernel
theorem DM_X5_findFewest_10 : decode (mC M_X5_findFewest) 10 = .ok (.getfield 22, 3) := by decide +kernel
theorem DM_X5_findFewest_13 : decode (mC M_X5_findFewest) 13 = .ok (.iconst 0, 1) := by decide +kernel
theorem DM_X5_findFewest_14 : decode (mC M_X5_findFewest) 14 = .ok (.invokevirtual 26, 3) := by decide +kernel
theorem DM_X5_findFewest_17 : decode (mC M_X5_findFewest) 17 = .ok (.istore_n 3, 1) := by decide +kernel
theorem DM_X5_findFewest_18 : decode (mC M_X5_findFewest) 18 = .ok (.aload_n 1, 1) := by decide +kernel
theorem DM_X5_findFewest_19 : decode (mC M_X5_findFewest) 19 = .ok (.iload_n 2, 1) := by decide +kernel
theorem DM_X5_findFewest_20 : decode (mC M_X5_findFewest) 20 = .ok (.iload_n 3, 1) := by decide +kernel
theorem DM_X5_findFewest_21 : decode (mC M_X5_findFewest) 21 = .ok (.invokevirtual 30, 3) := by decide +kernel
theorem DM_X5_findFewest_24 : decode (mC M_X5_findFewest) 24 = .ok (.istore 4, 2) := by decide +kernel
theorem DM_X5_findFewest_26 : decode (mC M_X5_findFewest) 26 = .ok (.iload 4, 2) := by decide +kernel
theorem DM_X5_findFewest_28 : decode (mC M_X5_findFewest) 28 = .ok (.iconst (-1), 1) := by decide +kernel
theorem DM_X5_findFewest_29 : decode (mC M_X5_findFewest) 29 = .ok (.if_icmp .ne 5, 3) := by decide +kernel
theorem DM_X5_findFewest_32 : decode (mC M_X5_findFewest) 32 = .ok (.iconst 0, 1) := by decide +kernel
theorem DM_X5_findFewest_33 : decode (mC M_X5_findFewest) 33 = .ok (.ireturn, 1) := by decide +kernel
theorem DM_X5_findFewest_34 : decode (mC M_X5_findFewest) 34 = .ok (.aload_n 0, 1) := by decide +kernel
theorem DM_X5_findFewest_35 : decode (mC M_X5_findFewest) 35 = .ok (.iload 4, 2) := by decide +kernel
theorem DM_X5_findFewest_37 : decode (mC M_X5_findFewest) 37 = .ok (.iload_n 2, 1) := by decide +kernel
theorem DM_X5_findFewest_38 : decode (mC M_X5_findFewest) 38 = .ok (.iload_n 3, 1) := by decide +kernel
theorem DM_X5_findFewest_39 : decode (mC M_X5_findFewest) 39 = .ok (.invokevirtual 33, 3) := by decide +kernel
theorem DM_X5_findFewest_42 : decode (mC M_X5_findFewest) 42 = .ok (.ifCond .ne 6, 3) := by decide +kernel
theorem DM_X5_findFewest_45 : decode (mC M_X5_findFewest) 45 = .ok (.ldc 37, 2) := by decide +kernel
theorem DM_X5_findFewest_47 : decode (mC M_X5_findFewest) 47 = .ok (.ireturn, 1) := by decide +kernel
theorem DM_X5_findFewest_48 : decode (mC M_X5_findFewest) 48 = .ok (.iconst 0, 1) := by decide +kernel
theorem DM_X5_findFewest_49 : decode (mC M_X5_findFewest) 49 = .ok (.istore 5, 2) := by decide +kernel
theorem DM_X5_findFewest_51 : decode (mC M_X5_findFewest) 51 = .ok (.iload 5, 2) := by decide +kernel
theorem DM_X5_findFewest_53 : decode (mC M_X5_findFewest) 53 = .ok (.aload_n 1, 1) := by decide +kernel
theorem DM_X5_findFewest_54 : decode (mC M_X5_findFewest) 54 = .ok (.getfield 38, 3) := by decide +kernel
theorem DM_X5_findFewest_57 : decode (mC M_X5_findFewest) 57 = .ok (.iload_n 2, 1) := by decide +kernel
theorem DM_X5_findFewest_58 : decode (mC M_X5_findFewest) 58 = .ok (.iaload, 1) := by decide +kernel
theorem DM_X5_findFewest_59 : decode (mC M_X5_findFewest) 59 = .ok (.if_icmp .gt 30, 3) := by decide +kernel
theorem DM_X5_findFewest_62 : decode (mC M_X5_findFewest) 62 = .ok (.aload_n 0, 1) := by decide +kernel
theorem DM_X5_findFewest_63 : decode (mC M_X5_findFewest) 63 = .ok (.getfield 12, 3) := by decide +kernel
theorem DM_X5_findFewest_66 : decode (mC M_X5_findFewest) 66 = .ok (.aload_n 1, 1) := by decide +kernel
theorem DM_X5_findFewest_67 : decode (mC M_X5_findFewest) 67 = .ok (.iload_n 2, 1) := by decide +kernel
theorem DM_X5_findFewest_68 : decode (mC M_X5_findFewest) 68 = .ok (.iload 4, 2) := by decide +kernel
theorem DM_X5_findFewest_70 : decode (mC M_X5_findFewest) 70 = .ok (.iload_n 3, 1) := by decide +kernel
theorem DM_X5_findFewest_71 : decode (mC M_X5_findFewest) 71 = .ok (.iconst 0, 1) := by decide +kernel
theorem DM_X5_findFewest_72 : decode (mC M_X5_findFewest) 72 = .ok (.iload 5, 2) := by decide +kernel
theorem DM_X5_findFewest_74 : decode (mC M_X5_findFewest) 74 = .ok (.invokestatic 42, 3) := by decide +kernel
theorem DM_X5_findFewest_77 : decode (mC M_X5_findFewest) 77 = .ok (.ifCond .eq 6, 3) := by decide +kernel
theorem DM_X5_findFewest_80 : decode (mC M_X5_findFewest) 80 = .ok (.iload 5, 2) := by decide +kernel
theorem DM_X5_findFewest_82 : decode (mC M_X5_findFewest) 82 = .ok (.ireturn, 1) := by decide +kernel
theorem DM_X5_findFewest_83 : decode (mC M_X5_findFewest) 83 = .ok (.iinc 5 1, 3) := by decide +kernel
theorem DM_X5_findFewest_86 : decode (mC M_X5_findFewest) 86 = .ok (.goto (-35), 3) := by decide +kernel
theorem DM_X5_findFewest_89 : decode (mC M_X5_findFewest) 89 = .ok (.ldc 37, 2) := by decide +kernel
theorem DM_X5_findFewest_91 : decode (mC M_X5_findFewest) 91 = .ok (.ireturn, 1) := by decide +kernel
theorem DM_X5_canBeBehind_0 : decode (mC M_X5_canBeBehind) 0 = .ok (.aload_n 0, 1) := by decide +kernel
theorem DM_X5_canBeBehind_1 : decode (mC M_X5_canBeBehind) 1 = .ok (.getfield 12, 3) := by decide +kernel
theorem DM_X5_canBeBehind_4 : decode (mC M_X5_canBeBehind) 4 = .ok (.bipush 7, 2) := by decide +kernel
theorem DM_X5_canBeBehind_6 : decode (mC M_X5_canBeBehind) 6 = .ok (.iload_n 3, 1) := by decide +kernel
theorem DM_X5_canBeBehind_7 : decode (mC M_X5_canBeBehind) 7 = .ok (.invokevirtual 46, 3) := by decide +kernel
theorem DM_X5_canBeBehind_10 : decode (mC M_X5_canBeBehind) 10 = .ok (.istore 4, 2) := by decide +kernel
theorem DM_X5_canBeBehind_12 : decode (mC M_X5_canBeBehind) 12 = .ok (.iconst 0, 1) := by decide +kernel
theorem DM_X5_canBeBehind_13 : decode (mC M_X5_canBeBehind) 13 = .ok (.istore 5, 2) := by decide +kernel
theorem DM_X5_canBeBehind_15 : decode (mC M_X5_canBeBehind) 15 = .ok (.iload 5, 2) := by decide +kernel
theorem DM_X5_canBeBehind_17 : decode (mC M_X5_canBeBehind) 17 = .ok (.aload_n 0, 1) := by decide +kernel
theorem DM_X5_canBeBehind_18 : decode (mC M_X5_canBeBehind) 18 = .ok (.getfield 12, 3) := by decide +kernel
theorem DM_X5_canBeBehind_21 : decode (mC M_X5_canBeBehind) 21 = .ok (.getfield 38, 3) := by decide +kernel
theorem DM_X5_canBeBehind_24 : decode (mC M_X5_canBeBehind) 24 = .ok (.iload_n 2, 1) := by decide +kernel
theorem DM_X5_canBeBehind_25 : decode (mC M_X5_canBeBehind) 25 = .ok (.iaload, 1) := by decide +kernel
theorem DM_X5_canBeBehind_26 : decode (mC M_X5_canBeBehind) 26 = .ok (.if_icmp .ge 21, 3) := by decide +kernel
theorem DM_X5_canBeBehind_29 : decode (mC M_X5_canBeBehind) 29 = .ok (.aload_n 0, 1) := by decide +kernel
theorem DM_X5_canBeBehind_30 : decode (mC M_X5_canBeBehind) 30 = .ok (.getfield 12, 3) := by decide +kernel
theorem DM_X5_canBeBehind_33 : decode (mC M_X5_canBeBehind) 33 = .ok (.iload_n 2, 1) := by decide +kernel
theorem DM_X5_canBeBehind_34 : decode (mC M_X5_canBeBehind) 34 = .ok (.iload 5, 2) := by decide +kernel
theorem DM_X5_canBeBehind_36 : decode (mC M_X5_canBeBehind) 36 = .ok (.iload 4, 2) := by decide +kernel
theorem DM_X5_canBeBehind_38 : decode (mC M_X5_canBeBehind) 38 = .ok (.invokevirtual 49, 3) := by decide +kernel
theorem DM_X5_canBeBehind_41 : decode (mC M_X5_canBeBehind) 41 = .ok (.iinc 5 1, 3) := by decide +kernel
theorem DM_X5_canBeBehind_44 : decode (mC M_X5_canBeBehind) 44 = .ok (.goto (-29), 3) := by decide +kernel
theorem DM_X5_canBeBehind_47 : decode (mC M_X5_canBeBehind) 47 = .ok (.aload_n 0, 1) := by decide +kernel
theorem DM_X5_canBeBehind_48 : decode (mC M_X5_canBeBehind) 48 = .ok (.getfield 12, 3) := by decide +kernel
theorem DM_X5_canBeBehind_51 : decode (mC M_X5_canBeBehind) 51 = .ok (.iload_n 1, 1) := by decide +kernel
theorem DM_X5_canBeBehind_52 : decode (mC M_X5_canBeBehind) 52 = .ok (.iload_n 2, 1) := by decide +kernel
theorem DM_X5_canBeBehind_53 : decode (mC M_X5_canBeBehind) 53 = .ok (.iload_n 3, 1) := by decide +kernel
theorem DM_X5_canBeBehind_54 : decode (mC M_X5_canBeBehind) 54 = .ok (.invokevirtual 53, 3) := by decide +kernel
theorem DM_X5_canBeBehind_57 : decode (mC M_X5_canBeBehind) 57 = .ok (.ireturn, 1) := by decide +kernel
theorem DM_X5_tryNames_0 : decode (mC M_X5_tryNames) 0 = .ok (.aload_n 1, 1) := by decide +kernel
theorem DM_X5_tryNames_1 : decode (mC M_X5_tryNames) 1 = .ok (.getfield 38, 3) := by decide +kernel
theorem DM_X5_tryNames_4 : decode (mC M_X5_tryNames) 4 = .ok (.iload_n 2, 1) := by decide +kernel
theorem DM_X5_tryNames_5 : decode (mC M_X5_tryNames) 5 = .ok (.iaload, 1) := by decide +kernel
theorem DM_X5_tryNames_6 : decode (mC M_X5_tryNames) 6 = .ok (.iload 5, 2) := by decide +kernel
theorem DM_X5_tryNames_8 : decode (mC M_X5_tryNames) 8 = .ok (.isub, 1) := by decide +kernel
theorem DM_X5_tryNames_9 : decode (mC M_X5_tryNames) 9 = .ok (.istore 7, 2) := by decide +kernel
theorem DM_X5_tryNames_11 : decode (mC M_X5_tryNames) 11 = .ok (.iload 6, 2) := by decide +kernel
theorem DM_X5_tryNames_13 : decode (mC M_X5_tryNames) 13 = .ok (.iload 7, 2) := by decide +kernel
theorem DM_X5_tryNames_15 : decode (mC M_X5_tryNames) 15 = .ok (.if_icmp .le 5, 3) := by decide +kernel
theorem DM_X5_tryNames_18 : decode (mC M_X5_tryNames) 18 = .ok (.iconst 0, 1) := by decide +kernel
theorem DM_X5_tryNames_19 : decode (mC M_X5_tryNames) 19 = .ok (.ireturn, 1) := by decide +kernel
theorem DM_X5_tryNames_20 : decode (mC M_X5_tryNames) 20 = .ok (.iload 7, 2) := by decide +kernel
theorem DM_X5_tryNames_22 : decode (mC M_X5_tryNames) 22 = .ok (.ifCond .gt 12, 3) := by decide +kernel
theorem DM_X5_tryNames_25 : decode (mC M_X5_tryNames) 25 = .ok (.aload_n 0, 1) := by decide +kernel
theorem DM_X5_tryNames_26 : decode (mC M_X5_tryNames) 26 = .ok (.iload_n 3, 1) := by decide +kernel
theorem DM_X5_tryNames_27 : decode (mC M_X5_tryNames) 27 = .ok (.iload_n 2, 1) := by decide +kernel
theorem DM_X5_tryNames_28 : decode (mC M_X5_tryNames) 28 = .ok (.iload 4, 2) := by decide +kernel
theorem DM_X5_tryNames_30 : decode (mC M_X5_tryNames) 30 = .ok (.invokevirtual 53, 3) := by decide +kernel
theorem DM_X5_tryNames_33 : decode (mC M_X5_tryNames) 33 = .ok (.ireturn, 1) := by decide +kernel
theorem DM_X5_tryNames_34 : decode (mC M_X5_tryNames) 34 = .ok (.aload_n 1, 1) := by decide +kernel
theorem DM_X5_tryNames_35 : decode (mC M_X5_tryNames) 35 = .ok (.iload_n 2, 1) := by decide +kernel
theorem DM_X5_tryNames_36 : decode (mC M_X5_tryNames) 36 = .ok (.iload 5, 2) := by decide +kernel
theorem DM_X5_tryNames_38 : decode (mC M_X5_tryNames) 38 = .ok (.invokevirtual 56, 3) := by decide +kernel
theorem DM_X5_tryNames_41 : decode (mC M_X5_tryNames) 41 = .ok (.istore 8, 2) := by decide +kernel
theorem DM_X5_tryNames_43 : decode (mC M_X5_tryNames) 43 = .ok (.iconst 0, 1) := by decide +kernel
theorem DM_X5_tryNames_44 : decode (mC M_X5_tryNames) 44 = .ok (.istore 9, 2) := by decide +kernel
theorem DM_X5_tryNames_46 : decode (mC M_X5_tryNames) 46 = .ok (.iload 9, 2) := by decide +kernel
theorem DM_X5_tryNames_48 : decode (mC M_X5_tryNames) 48 = .ok (.bipush 8, 2) := by decide +kernel
theorem DM_X5_tryNames_50 : decode (mC M_X5_tryNames) 50 = .ok (.if_icmp .ge 61, 3) := by decide +kernel
theorem DM_X5_tryNames_53 : decode (mC M_X5_tryNames) 53 = .ok (.iload 9, 2) := by decide +kernel
theorem DM_X5_tryNames_55 : decode (mC M_X5_tryNames) 55 = .ok (.iload 8, 2) := by decide +kernel
theorem DM_X5_tryNames_57 : decode (mC M_X5_tryNames) 57 = .ok (.if_icmp .ne 8, 3) := by decide +kernel
theorem DM_X5_tryNames_60 : decode (mC M_X5_tryNames) 60 = .ok (.iload 6, 2) := by decide +kernel
theorem DM_X5_tryNames_62 : decode (mC M_X5_tryNames) 62 = .ok (.goto 7, 3) := by decide +kernel
theorem DM_X5_tryNames_65 : decode (mC M_X5_tryNames) 65 = .ok (.iload 6, 2) := by decide +kernel
theorem DM_X5_tryNames_67 : decode (mC M_X5_tryNames) 67 = .ok (.iconst 1, 1) := by decide +kernel
theorem DM_X5_tryNames_68 : decode (mC M_X5_tryNames) 68 = .ok (.isub, 1) := by decide +kernel
theorem DM_X5_tryNames_69 : decode (mC M_X5_tryNames) 69 = .ok (.istore 10, 2) := by decide +kernel
theorem DM_X5_tryNames_71 : decode (mC M_X5_tryNames) 71 = .ok (.iload 10, 2) := by decide +kernel
theorem DM_X5_tryNames_73 : decode (mC M_X5_tryNames) 73 = .ok (.ifCond .lt 32, 3) := by decide +kernel
theorem DM_X5_tryNames_76 : decode (mC M_X5_tryNames) 76 = .ok (.aload_n 0, 1) := by decide +kernel
theorem DM_X5_tryNames_77 : decode (mC M_X5_tryNames) 77 = .ok (.iload_n 2, 1) := by decide +kernel
theorem DM_X5_tryNames_78 : decode (mC M_X5_tryNames) 78 = .ok (.iload 5, 2) := by decide +kernel
theorem DM_X5_tryNames_80 : decode (mC M_X5_tryNames) 80 = .ok (.iload 9, 2) := by decide +kernel
theorem DM_X5_tryNames_82 : decode (mC M_X5_tryNames) 82 = .ok (.invokevirtual 49, 3) := by decide +kernel
theorem DM_X5_tryNames_85 : decode (mC M_X5_tryNames) 85 = .ok (.aload_n 0, 1) := by decide +kernel
theorem DM_X5_tryNames_86 : decode (mC M_X5_tryNames) 86 = .ok (.aload_n 1, 1) := by decide +kernel
theorem DM_X5_tryNames_87 : decode (mC M_X5_tryNames) 87 = .ok (.iload_n 2, 1) := by decide +kernel
theorem DM_X5_tryNames_88 : decode (mC M_X5_tryNames) 88 = .ok (.iload_n 3, 1) := by decide +kernel
theorem DM_X5_tryNames_89 : decode (mC M_X5_tryNames) 89 = .ok (.iload 4, 2) := by decide +kernel
theorem DM_X5_tryNames_91 : decode (mC M_X5_tryNames) 91 = .ok (.iload 5, 2) := by decide +kernel
theorem DM_X5_tryNames_93 : decode (mC M_X5_tryNames) 93 = .ok (.iconst 1, 1) := by decide +kernel
theorem DM_X5_tryNames_94 : decode (mC M_X5_tryNames) 94 = .ok (.iadd, 1) := by decide +kernel
theorem DM_X5_tryNames_95 : decode (mC M_X5_tryNames) 95 = .ok (.iload 10, 2) := by decide +kernel
theorem DM_X5_tryNames_97 : decode (mC M_X5_tryNames) 97 = .ok (.invokestatic 42, 3) := by decide +kernel
theorem DM_X5_tryNames_100 : decode (mC M_X5_tryNames) 100 = .ok (.ifCond .eq 5, 3) := by decide +kernel
theorem DM_X5_tryNames_103 : decode (mC M_X5_tryNames) 103 = .ok (.iconst 1, 1) := by decide +kernel
theorem DM_X5_tryNames_104 : decode (mC M_X5_tryNames) 104 = .ok (.ireturn, 1) := by decide +kernel
theorem DM_X5_tryNames_105 : decode (mC M_X5_tryNames) 105 = .ok (.iinc 9 1, 3) := by decide +kernel
theorem DM_X5_tryNames_108 : decode (mC M_X5_tryNames) 108 = .ok (.goto (-62), 3) := by decide +kernel
theorem DM_X5_tryNames_111 : decode (mC M_X5_tryNames) 111 = .ok (.iconst 0, 1) := by decide +kernel
theorem DM_X5_tryNames_112 : decode (mC M_X5_tryNames) 112 = .ok (.ireturn, 1) := by decide +kernel
theorem DM_X6_init_0 : decode (mC M_X6_init) 0 = .ok (.aload_n 0, 1) := by decide +kernel
theorem DM_X6_init_1 : decode (mC M_X6_init) 1 = .ok (.invokespecial 3, 3) := by decide +kernel
theorem DM_X6_init_4 : decode (mC M_X6_init) 4 = .ok (.aload_n 0, 1) := by decide +kernel
theorem DM_X6_init_5 : decode (mC M_X6_init) 5 = .ok (.bipush 40, 2) := by decide +kernel
theorem DM_X6_init_7 : decode (mC M_X6_init) 7 = .ok (.newarray .int, 2) := by decide +kernel
theorem DM_X6_init_9 : decode (mC M_X6_init) 9 = .ok (.putfield 9, 3) := by decide +kernel
theorem DM_X6_init_12 : decode (mC M_X6_init) 12 = .ok (.aload_n 0, 1) := by decide +kernel
theorem DM_X6_init_13 : decode (mC M_X6_init) 13 = .ok (.iconst (-1), 1) := by decide +kernel
theorem DM_X6_init_14 : decode (mC M_X6_init) 14 = .ok (.putfield 15, 3) := by decide +kernel
theorem DM_X6_init_17 : decode (mC M_X6_init) 17 = .ok (.return_, 1) := by decide +kernel
theorem DM_X6_isMissing_0 : decode (mC M_X6_isMissing) 0 = .ok (.aload_n 0, 1) := by decide +kernel
theorem DM_X6_isMissing_1 : decode (mC M_X6_isMissing) 1 = .ok (.getfield 15, 3) := by decide +kernel
theorem DM_X6_isMissing_4 : decode (mC M_X6_isMissing) 4 = .ok (.iconst (-1), 1) := by decide +kernel
theorem DM_X6_isMissing_5 : decode (mC M_X6_isMissing) 5 = .ok (.if_icmp .ne 7, 3) := by decide +kernel
theorem DM_X6_isMissing_8 : decode (mC M_X6_isMissing) 8 = .ok (.iconst 1, 1) := by decide +kernel
theorem DM_X6_isMissing_9 : decode (mC M_X6_isMissing) 9 = .ok (.goto 4, 3) := by decide +kernel
theorem DM_X6_isMissing_12 : decode (mC M_X6_isMissing) 12 = .ok (.iconst 0, 1) := by decide +kernel
theorem DM_X6_isMissing_13 : decode (mC M_X6_isMissing) 13 = .ok (.ireturn, 1) := by decide +kernel
theorem DM_X6_begin_0 : decode (mC M_X6_begin) 0 = .ok (.aload_n 0, 1) := by decide +kernel
theorem DM_X6_begin_1 : decode (mC M_X6_begin) 1 = .ok (.iload_n 1, 1) := by decide +kernel
theorem DM_X6_begin_2 : decode (mC M_X6_begin) 2 = .ok (.putfield 19, 3) := by decide +kernel
theorem DM_X6_begin_5 : decode (mC M_X6_begin) 5 = .ok (.aload_n 0, 1) := by decide +kernel
theorem DM_X6_begin_6 : decode (mC M_X6_begin) 6 = .ok (.iload_n 2, 1) := by decide +kernel
theorem DM_X6_begin_7 : decode (mC M_X6_begin) 7 = .ok (.putfield 15, 3) := by decide +kernel
theorem DM_X6_begin_10 : decode (mC M_X6_begin) 10 = .ok (.iconst 0, 1) := by decide +kernel
theorem DM_X6_begin_11 : decode (mC M_X6_begin) 11 = .ok (.istore_n 3, 1) := by decide +kernel
theorem DM_X6_begin_12 : decode (mC M_X6_begin) 12 = .ok (.iload_n 3, 1) := by decide +kernel
theorem DM_X6_begin_13 : decode (mC M_X6_begin) 13 = .ok (.bipush 40, 2) := by decide +kernel
theorem DM_X6_begin_15 : decode (mC M_X6_begin) 15 = .ok (.if_icmp .ge 16, 3) := by decide +kernel
theorem DM_X6_begin_18 : decode (mC M_X6_begin) 18 = .ok (.aload_n 0, 1) := by decide +kernel
theorem DM_X6_begin_19 : decode (mC M_X6_begin) 19 = .ok (.getfield 9, 3) := by decide +kernel
theorem DM_X6_begin_22 : decode (mC M_X6_begin) 22 = .ok (.iload_n 3, 1) := by decide +kernel
theorem DM_X6_begin_23 : decode (mC M_X6_begin) 23 = .ok (.iconst 0, 1) := by decide +kernel
theorem DM_X6_begin_24 : decode (mC M_X6_begin) 24 = .ok (.iastore, 1) := by decide +kernel
theorem DM_X6_begin_25 : decode (mC M_X6_begin) 25 = .ok (.iinc 3 1, 3) := by decide +kernel
theorem DM_X6_begin_28 : decode (mC M_X6_begin) 28 = .ok (.goto (-16), 3) := by decide +kernel
theorem DM_X6_begin_31 : decode (mC M_X6_begin) 31 = .ok (.return_, 1) := by decide +kernel
theorem DM_X6_cut_0 : decode (mC M_X6_cut) 0 = .ok (.aload_n 0, 1) := by decide +kernel
theorem DM_X6_cut_1 : decode (mC M_X6_cut) 1 = .ok (.getfield 19, 3) := by decide +kernel
theorem DM_X6_cut_4 : decode (mC M_X6_cut) 4 = .ok (.lookupswitch 34 #[(0, 28), (1, 31)], 28) := by decide +kernel
theorem DM_X6_cut_32 : decode (mC M_X6_cut) 32 = .ok (.iload_n 1, 1) := by decide +kernel
theorem DM_X6_cut_33 : decode (mC M_X6_cut) 33 = .ok (.i2b, 1) := by decide +kernel
theorem DM_X6_cut_34 : decode (mC M_X6_cut) 34 = .ok (.ireturn, 1) := by decide +kernel
theorem DM_X6_cut_35 : decode (mC M_X6_cut) 35 = .ok (.iload_n 1, 1) := by decide +kernel
theorem DM_X6_cut_36 : decode (mC M_X6_cut) 36 = .ok (.i2s, 1) := by decide +kernel
theorem DM_X6_cut_37 : decode (mC M_X6_cut) 37 = .ok (.ireturn, 1) := by decide +kernel
theorem DM_X6_cut_38 : decode (mC M_X6_cut) 38 = .ok (.iload_n 1, 1) := by decide +kernel
theorem DM_X6_cut_39 : decode (mC M_X6_cut) 39 = .ok (.ireturn, 1) := by decide +kernel
theorem DM_X6_hasRange_0 : decode (mC M_X6_hasRange) 0 = .ok (.iload_n 2, 1) := by decide +kernel
theorem DM_X6_hasRange_1 : decode (mC M_X6_hasRange) 1 = .ok (.ifCond .lt 21, 3) := by decide +kernel
theorem DM_X6_hasRange_4 : decode (mC M_X6_hasRange) 4 = .ok (.iload_n 1, 1) := by decide +kernel
theorem DM_X6_hasRange_5 : decode (mC M_X6_hasRange) 5 = .ok (.ifCond .lt 17, 3) := by decide +kernel
theorem DM_X6_hasRange_8 : decode (mC M_X6_hasRange) 8 = .ok (.iload_n 1, 1) := by decide +kernel
theorem DM_X6_hasRange_9 : decode (mC M_X6_hasRange) 9 = .ok (.aload_n 0, 1) := by decide +kernel
theorem DM_X6_hasRange_10 : decode (mC M_X6_hasRange) 10 = .ok (.getfield 15, 3) := by decide +kernel
theorem DM_X6_hasRange_13 : decode (mC M_X6_hasRange) 13 = .ok (.iload_n 2, 1) := by decide +kernel
theorem DM_X6_hasRange_14 : decode (mC M_X6_hasRange) 14 = .ok (.isub, 1) := by decide +kernel
theorem DM_X6_hasRange_15 : decode (mC M_X6_hasRange) 15 = .ok (.if_icmp .gt 7, 3) := by decide +kernel
theorem DM_X6_hasRange_18 : decode (mC M_X6_hasRange) 18 = .ok (.iconst 1, 1) := by decide +kernel
theorem DM_X6_hasRange_19 : decode (mC M_X6_hasRange) 19 = .ok (.goto 4, 3) := by decide +kernel
theorem DM_X6_hasRange_22 : decode (mC M_X6_hasRange) 22 = .ok (.iconst 0, 1) := by decide +kernel
theorem DM_X6_hasRange_23 : decode (mC M_X6_hasRange) 23 = .ok (.ireturn, 1) := by decide +kernel
theorem DM_X7_init_0 : decode (mC M_X7_init) 0 = .ok (.aload_n 0, 1) := by decide +kernel
theorem DM_X7_init_1 : decode (mC M_X7_init) 1 = .ok (.invokespecial 1, 3) := by decide +kernel
theorem DM_X7_init_4 : decode (mC M_X7_init) 4 = .ok (.aload_n 0, 1) := by decide +kernel
theorem DM_X7_init_5 : decode (mC M_X7_init) 5 = .ok (.bipush 8, 2) := by decide +kernel
theorem DM_X7_init_7 : decode (mC M_X7_init) 7 = .ok (.anewarray 9, 3) := by decide +kernel
theorem DM_X7_init_10 : decode (mC M_X7_init) 10 = .ok (.putfield 11, 3) := by decide +kernel
theorem DM_X7_init_13 : decode (mC M_X7_init) 13 = .ok (.aload_n 0, 1) := by decide +kernel
theorem DM_X7_init_14 : decode (mC M_X7_init) 14 = .ok (.new 15, 3) := by decide +kernel
theorem DM_X7_init_17 : decode (mC M_X7_init) 17 = .ok (.dup, 1) := by decide +kernel
theorem DM_X7_init_18 : decode (mC M_X7_init) 18 = .ok (.invokespecial 17, 3) := by decide +kernel
theorem DM_X7_init_21 : decode (mC M_X7_init) 21 = .ok (.putfield 18, 3) := by decide +kernel
theorem DM_X7_init_24 : decode (mC M_X7_init) 24 = .ok (.aload_n 0, 1) := by decide +kernel
theorem DM_X7_init_25 : decode (mC M_X7_init) 25 = .ok (.new 22, 3) := by decide +kernel
theorem DM_X7_init_28 : decode (mC M_X7_init) 28 = .ok (.dup, 1) := by decide +kernel
theorem DM_X7_init_29 : decode (mC M_X7_init) 29 = .ok (.invokespecial 24, 3) := by decide +kernel
theorem DM_X7_init_32 : decode (mC M_X7_init) 32 = .ok (.putfield 25, 3) := by decide +kernel
theorem DM_X7_init_35 : decode (mC M_X7_init) 35 = .ok (.aload_n 0, 1) := by decide +kernel
theorem DM_X7_init_36 : decode (mC M_X7_init) 36 = .ok (.new 22, 3) := by decide +kernel
theorem DM_X7_init_39 : decode (mC M_X7_init) 39 = .ok (.dup, 1) := by decide +kernel
theorem DM_X7_init_40 : decode (mC M_X7_init) 40 = .ok (.invokespecial 24, 3) := by decide +kernel
theorem DM_X7_init_43 : decode (mC M_X7_init) 43 = .ok (.putfield 29, 3) := by decide +kernel
theorem DM_X7_init_46 : decode (mC M_X7_init) 46 = .ok (.aload_n 0, 1) := by decide +kernel
theorem DM_X7_init_47 : decode (mC M_X7_init) 47 = .ok (.iconst 2, 1) := by decide +kernel
theorem DM_X7_init_48 : decode (mC M_X7_init) 48 = .ok (.anewarray 22, 3) := by decide +kernel
theorem DM_X7_init_51 : decode (mC M_X7_init) 51 = .ok (.putfield 32, 3) := by decide +kernel
theorem DM_X7_init_54 : decode (mC M_X7_init) 54 = .ok (.aload_n 0, 1) := by decide +kernel
theorem DM_X7_init_55 : decode (mC M_X7_init) 55 = .ok (.new 36, 3) := by decide +kernel
theorem DM_X7_init_58 : decode (mC M_X7_init) 58 = .ok (.dup, 1) := by decide +kernel
theorem DM_X7_init_59 : decode (mC M_X7_init) 59 = .ok (.invokespecial 38, 3) := by decide +kernel
theorem DM_X7_init_62 : decode (mC M_X7_init) 62 = .ok (.putfield 39, 3) := by decide +kernel
theorem DM_X7_init_65 : decode (mC M_X7_init) 65 = .ok (.aload_n 0, 1) := by decide +kernel
theorem DM_X7_init_66 : decode (mC M_X7_init) 66 = .ok (.new 43, 3) := by decide +kernel
theorem DM_X7_init_69 : decode (mC M_X7_init) 69 = .ok (.dup, 1) := by decide +kernel
theorem DM_X7_init_70 : decode (mC M_X7_init) 70 = .ok (.invokespecial 45, 3) := by decide +kernel
theorem DM_X7_init_73 : decode (mC M_X7_init) 73 = .ok (.putfield 46, 3) := by decide +kernel
theorem DM_X7_init_76 : decode (mC M_X7_init) 76 = .ok (.aload_n 0, 1) := by decide +kernel
theorem DM_X7_init_77 : decode (mC M_X7_init) 77 = .ok (.new 50, 3) := by decide +kernel
theorem DM_X7_init_80 : decode (mC M_X7_init) 80 = .ok (.dup, 1) := by decide +kernel
theorem DM_X7_init_81 : decode (mC M_X7_init) 81 = .ok (.invokespecial 52, 3) := by decide +kernel
theorem DM_X7_init_84 : decode (mC M_X7_init) 84 = .ok (.putfield 53, 3) := by decide +kernel
theorem DM_X7_init_87 : decode (mC M_X7_init) 87 = .ok (.aload_n 0, 1) := by decide +kernel
theorem DM_X7_init_88 : decode (mC M_X7_init) 88 = .ok (.new 57, 3) := by decide +kernel
theorem DM_X7_init_91 : decode (mC M_X7_init) 91 = .ok (.dup, 1) := by decide +kernel
theorem DM_X7_init_92 : decode (mC M_X7_init) 92 = .ok (.invokespecial 59, 3) := by decide +kernel
theorem DM_X7_init_95 : decode (mC M_X7_init) 95 = .ok (.putfield 60, 3) := by decide +kernel
theorem DM_X7_init_98 : decode (mC M_X7_init) 98 = .ok (.iconst 0, 1) := by decide +kernel
theorem DM_X7_init_99 : decode (mC M_X7_init) 99 = .ok (.istore_n 1, 1) := by decide +kernel
theorem DM_X7_init_100 : decode (mC M_X7_init) 100 = .ok (.iload_n 1, 1) := by decide +kernel
theorem DM_X7_init_101 : decode (mC M_X7_init) 101 = .ok (.bipush 8, 2) := by decide +kernel
theorem DM_X7_init_103 : decode (mC M_X7_init) 103 = .ok (.if_icmp .ge 22, 3) := by decide +kernel
theorem DM_X7_init_106 : decode (mC M_X7_init) 106 = .ok (.aload_n 0, 1) := by decide +kernel
theorem DM_X7_init_107 : decode (mC M_X7_init) 107 = .ok (.getfield 11, 3) := by decide +kernel
theorem DM_X7_init_110 : decode (mC M_X7_init) 110 = .ok (.iload_n 1, 1) := by decide +kernel
theorem DM_X7_init_111 : decode (mC M_X7_init) 111 = .ok (.new 9, 3) := by decide +kernel
theorem DM_X7_init_114 : decode (mC M_X7_init) 114 = .ok (.dup, 1) := by decide +kernel
theorem DM_X7_init_115 : decode (mC M_X7_init) 115 = .ok (.invokespecial 64, 3) := by decide +kernel
theorem DM_X7_init_118 : decode (mC M_X7_init) 118 = .ok (.aastore, 1) := by decide +kernel
theorem DM_X7_init_119 : decode (mC M_X7_init) 119 = .ok (.iinc 1 1, 3) := by decide +kernel
theorem DM_X7_init_122 : decode (mC M_X7_init) 122 = .ok (.goto (-22), 3) := by decide +kernel
theorem DM_X7_init_125 : decode (mC M_X7_init) 125 = .ok (.iconst 0, 1) := by decide +kernel
theorem DM_X7_init_126 : decode (mC M_X7_init) 126 = .ok (.istore_n 1, 1) := by decide +kernel
theorem DM_X7_init_127 : decode (mC M_X7_init) 127 = .ok (.iload_n 1, 1) := by decide +kernel
theorem DM_X7_init_128 : decode (mC M_X7_init) 128 = .ok (.iconst 2, 1) := by decide +kernel
theorem DM_X7_init_129 : decode (mC M_X7_init) 129 = .ok (.if_icmp .ge 22, 3) := by decide +kernel
theorem DM_X7_init_132 : decode (mC M_X7_init) 132 = .ok (.aload_n 0, 1) := by decide +kernel
theorem DM_X7_init_133 : decode (mC M_X7_init) 133 = .ok (.getfield 32, 3) := by decide +kernel
theorem DM_X7_init_136 : decode (mC M_X7_init) 136 = .ok (.iload_n 1, 1) := by decide +kernel
theorem DM_X7_init_137 : decode (mC M_X7_init) 137 = .ok (.new 22, 3) := by decide +kernel
theorem DM_X7_init_140 : decode (mC M_X7_init) 140 = .ok (.dup, 1) := by decide +kernel
theorem DM_X7_init_141 : decode (mC M_X7_init) 141 = .ok (.invokespecial 24, 3) := by decide +kernel
theorem DM_X7_init_144 : decode (mC M_X7_init) 144 = .ok (.aastore, 1) := by decide +kernel
theorem DM_X7_init_145 : decode (mC M_X7_init) 145 = .ok (.iinc 1 1, 3) := by decide +kernel
theorem DM_X7_init_148 : decode (mC M_X7_init) 148 = .ok (.goto (-21), 3) := by decide +kernel
theorem DM_X7_init_151 : decode (mC M_X7_init) 151 = .ok (.return_, 1) := by decide +kernel
theorem DM_X7_row_0 : decode (mC M_X7_row) 0 = .ok (.iload_n 1, 1) := by decide +kernel
theorem DM_X7_row_1 : decode (mC M_X7_row) 1 = .ok (.bipush 8, 2) := by decide +kernel
theorem DM_X7_row_3 : decode (mC M_X7_row) 3 = .ok (.invokestatic 65, 3) := by decide +kernel
theorem DM_X7_row_6 : decode (mC M_X7_row) 6 = .ok (.ifCond .eq 17, 3) := by decide +kernel
theorem DM_X7_row_9 : decode (mC M_X7_row) 9 = .ok (.iload_n 2, 1) := by decide +kernel
theorem DM_X7_row_10 : decode (mC M_X7_row) 10 = .ok (.iconst 3, 1) := by decide +kernel
theorem DM_X7_row_11 : decode (mC M_X7_row) 11 = .ok (.invokestatic 65, 3) := by decide +kernel
theorem DM_X7_row_14 : decode (mC M_X7_row) 14 = .ok (.ifCond .eq 9, 3) := by decide +kernel
theorem DM_X7_row_17 : decode (mC M_X7_row) 17 = .ok (.iload_n 3, 1) := by decide +kernel
theorem DM_X7_row_18 : decode (mC M_X7_row) 18 = .ok (.bipush 40, 2) := by decide +kernel
theorem DM_X7_row_20 : decode (mC M_X7_row) 20 = .ok (.if_icmp .le 6, 3) := by decide +kernel
theorem DM_X7_row_23 : decode (mC M_X7_row) 23 = .ok (.ldc 69, 2) := by decide +kernel
theorem DM_X7_row_25 : decode (mC M_X7_row) 25 = .ok (.ireturn, 1) := by decide +kernel
theorem DM_X7_row_26 : decode (mC M_X7_row) 26 = .ok (.iload_n 3, 1) := by decide +kernel
theorem DM_X7_row_27 : decode (mC M_X7_row) 27 = .ok (.ifCond .ge 9, 3) := by decide +kernel
theorem DM_X7_row_30 : decode (mC M_X7_row) 30 = .ok (.aload_n 0, 1) := by decide +kernel
theorem DM_X7_row_31 : decode (mC M_X7_row) 31 = .ok (.iconst 4, 1) := by decide +kernel
theorem DM_X7_row_32 : decode (mC M_X7_row) 32 = .ok (.invokevirtual 70, 3) := by decide +kernel
theorem DM_X7_row_35 : decode (mC M_X7_row) 35 = .ok (.ireturn, 1) := by decide +kernel
theorem DM_X7_row_36 : decode (mC M_X7_row) 36 = .ok (.aload_n 0, 1) := by decide +kernel
theorem DM_X7_row_37 : decode (mC M_X7_row) 37 = .ok (.getfield 11, 3) := by decide +kernel
theorem DM_X7_row_40 : decode (mC M_X7_row) 40 = .ok (.iload_n 1, 1) := by decide +kernel
theorem DM_X7_row_41 : decode (mC M_X7_row) 41 = .ok (.aaload, 1) := by decide +kernel
theorem DM_X7_row_42 : decode (mC M_X7_row) 42 = .ok (.iload_n 2, 1) := by decide +kernel
theorem DM_X7_row_43 : decode (mC M_X7_row) 43 = .ok (.iload_n 3, 1) := by decide +kernel
theorem DM_X7_row_44 : decode (mC M_X7_row) 44 = .ok (.invokevirtual 74, 3) := by decide +kernel
theorem DM_X7_row_47 : decode (mC M_X7_row) 47 = .ok (.aload_n 0, 1) := by decide +kernel
theorem DM_X7_row_48 : decode (mC M_X7_row) 48 = .ok (.iload_n 3, 1) := by decide +kernel
theorem DM_X7_row_49 : decode (mC M_X7_row) 49 = .ok (.invokevirtual 78, 3) := by decide +kernel
theorem DM_X7_row_52 : decode (mC M_X7_row) 52 = .ok (.ireturn, 1) := by decide +kernel
theorem DM_X7_set_0 : decode (mC M_X7_set) 0 = .ok (.iload_n 1, 1) := by decide +kernel
theorem DM_X7_set_1 : decode (mC M_X7_set) 1 = .ok (.bipush 8, 2) := by decide +kernel
theorem DM_X7_set_3 : decode (mC M_X7_set) 3 = .ok (.invokestatic 65, 3) := by decide +kernel
theorem DM_X7_set_6 : decode (mC M_X7_set) 6 = .ok (.ifCond .ne 6, 3) := by decide +kernel
theorem DM_X7_set_9 : decode (mC M_X7_set) 9 = .ok (.ldc 69, 2) := by decide +kernel
theorem DM_X7_set_11 : decode (mC M_X7_set) 11 = .ok (.ireturn, 1) := by decide +kernel
theorem DM_X7_set_12 : decode (mC M_X7_set) 12 = .ok (.aload_n 0, 1) := by decide +kernel
theorem DM_X7_set_13 : decode (mC M_X7_set) 13 = .ok (.getfield 11, 3) := by decide +kernel
theorem DM_X7_set_16 : decode (mC M_X7_set) 16 = .ok (.iload_n 1, 1) := by decide +kernel
theorem DM_X7_set_17 : decode (mC M_X7_set) 17 = .ok (.aaload, 1) := by decide +kernel
theorem DM_X7_set_18 : decode (mC M_X7_set) 18 = .ok (.astore 4, 2) := by decide +kernel
theorem DM_X7_set_20 : decode (mC M_X7_set) 20 = .ok (.aload 4, 2) := by decide +kernel
theorem DM_X7_set_22 : decode (mC M_X7_set) 22 = .ok (.invokevirtual 81, 3) := by decide +kernel
theorem DM_X7_set_25 : decode (mC M_X7_set) 25 = .ok (.ifCond .eq 9, 3) := by decide +kernel
theorem DM_X7_set_28 : decode (mC M_X7_set) 28 = .ok (.aload_n 0, 1) := by decide +kernel
theorem DM_X7_set_29 : decode (mC M_X7_set) 29 = .ok (.iconst 1, 1) := by decide +kernel
theorem DM_X7_set_30 : decode (mC M_X7_set) 30 = .ok (.invokevirtual 70, 3) := by decide +kernel
theorem DM_X7_set_33 : decode (mC M_X7_set) 33 = .ok (.ireturn, 1) := by decide +kernel
theorem DM_X7_set_34 : decode (mC M_X7_set) 34 = .ok (.iload_n 2, 1) := by decide +kernel
theorem DM_X7_set_35 : decode (mC M_X7_set) 35 = .ok (.aload 4, 2) := by decide +kernel
theorem DM_X7_set_37 : decode (mC M_X7_set) 37 = .ok (.getfield 85, 3) := by decide +kernel
theorem DM_X7_set_40 : decode (mC M_X7_set) 40 = .ok (.invokestatic 65, 3) := by decide +kernel
theorem DM_X7_set_43 : decode (mC M_X7_set) 43 = .ok (.ifCond .ne 9, 3) := by decide +kernel
theorem DM_X7_set_46 : decode (mC M_X7_set) 46 = .ok (.aload_n 0, 1) := by decide +kernel
theorem DM_X7_set_47 : decode (mC M_X7_set) 47 = .ok (.iconst 2, 1) := by decide +kernel
theorem DM_X7_set_48 : decode (mC M_X7_set) 48 = .ok (.invokevirtual 70, 3) := by decide +kernel
theorem DM_X7_set_51 : decode (mC M_X7_set) 51 = .ok (.ireturn, 1) := by decide +kernel
theorem DM_X7_set_52 : decode (mC M_X7_set) 52 = .ok (.aload 4, 2) := by decide +kernel
theorem DM_X7_set_54 : decode (mC M_X7_set) 54 = .ok (.getfield 89, 3) := by decide +kernel
theorem DM_X7_set_57 : decode (mC M_X7_set) 57 = .ok (.iload_n 2, 1) := by decide +kernel
theorem DM_X7_set_58 : decode (mC M_X7_set) 58 = .ok (.aload 4, 2) := by decide +kernel
theorem DM_X7_set_60 : decode (mC M_X7_set) 60 = .ok (.iload_n 3, 1) := by decide +kernel
theorem DM_X7_set_61 : decode (mC M_X7_set) 61 = .ok (.invokevirtual 93, 3) := by decide +kernel
theorem DM_X7_set_64 : decode (mC M_X7_set) 64 = .ok (.iastore, 1) := by decide +kernel
theorem DM_X7_set_65 : decode (mC M_X7_set) 65 = .ok (.aload_n 0, 1) := by decide +kernel
theorem DM_X7_set_66 : decode (mC M_X7_set) 66 = .ok (.aload 4, 2) := by decide +kernel
theorem DM_X7_set_68 : decode (mC M_X7_set) 68 = .ok (.getfield 89, 3) := by decide +kernel
theorem DM_X7_set_71 : decode (mC M_X7_set) 71 = .ok (.iload_n 2, 1) := by decide +kernel
theorem DM_X7_set_72 : decode (mC M_X7_set) 72 = .ok (.iaload, 1) := by decide +kernel
theorem DM_X7_set_73 : decode (mC M_X7_set) 73 = .ok (.invokevirtual 78, 3) := by decide +kernel
theorem DM_X7_set_76 : decode (mC M_X7_set) 76 = .ok (.ireturn, 1) := by decide +kernel
theorem DM_X7_copy_0 : decode (mC M_X7_copy) 0 = .ok (.iload_n 1, 1) := by decide +kernel
theorem DM_X7_copy_1 : decode (mC M_X7_copy) 1 = .ok (.bipush 8, 2) := by decide +kernel
theorem DM_X7_copy_3 : decode (mC M_X7_copy) 3 = .ok (.invokestatic 65, 3) := by decide +kernel
theorem DM_X7_copy_6 : decode (mC M_X7_copy) 6 = .ok (.ifCond .eq 12, 3) := by decide +kernel
theorem DM_X7_copy_9 : decode (mC M_X7_copy) 9 = .ok (.iload_n 3, 1) := by decide +kernel
theorem DM_X7_copy_10 : decode (mC M_X7_copy) 10 = .ok (.bipush 8, 2) := by decide +kernel
theorem DM_X7_copy_12 : decode (mC M_X7_copy) 12 = .ok (.invokestatic 65, 3) := by decide +kernel
theorem DM_X7_copy_15 : decode (mC M_X7_copy) 15 = .ok (.ifCond .ne 6, 3) := by decide +kernel
theorem DM_X7_copy_18 : decode (mC M_X7_copy) 18 = .ok (.ldc 69, 2) := by decide +kernel
theorem DM_X7_copy_20 : decode (mC M_X7_copy) 20 = .ok (.ireturn, 1) := by decide +kernel
theorem DM_X7_copy_21 : decode (mC M_X7_copy) 21 = .ok (.aload_n 0, 1) := by decide +kernel
theorem DM_X7_copy_22 : decode (mC M_X7_copy) 22 = .ok (.getfield 11, 3) := by decide +kernel
theorem DM_X7_copy_25 : decode (mC M_X7_copy) 25 = .ok (.iload_n 1, 1) := by decide +kernel
theorem DM_X7_copy_26 : decode (mC M_X7_copy) 26 = .ok (.aaload, 1) := by decide +kernel
theorem DM_X7_copy_27 : decode (mC M_X7_copy) 27 = .ok (.astore 6, 2) := by decide +kernel
theorem DM_X7_copy_29 : decode (mC M_X7_copy) 29 = .ok (.aload_n 0, 1) := by decide +kernel
theorem DM_X7_copy_30 : decode (mC M_X7_copy) 30 = .ok (.getfield 11, 3) := by decide +kernel
theorem DM_X7_copy_33 : decode (mC M_X7_copy) 33 = .ok (.iload_n 3, 1) := by decide +kernel
theorem DM_X7_copy_34 : decode (mC M_X7_copy) 34 = .ok (.aaload, 1) := by decide +kernel
theorem DM_X7_copy_35 : decode (mC M_X7_copy) 35 = .ok (.astore 7, 2) := by decide +kernel
theorem DM_X7_copy_37 : decode (mC M_X7_copy) 37 = .ok (.aload 6, 2) := by decide +kernel
theorem DM_X7_copy_39 : decode (mC M_X7_copy) 39 = .ok (.invokevirtual 81, 3) := by decide +kernel
theorem DM_X7_copy_42 : decode (mC M_X7_copy) 42 = .ok (.ifCond .ne 11, 3) := by decide +kernel
theorem DM_X7_copy_45 : decode (mC M_X7_copy) 45 = .ok (.aload 7, 2) := by decide +kernel
theorem DM_X7_copy_47 : decode (mC M_X7_copy) 47 = .ok (.invokevirtual 81, 3) := by decide +kernel
theorem DM_X7_copy_50 : decode (mC M_X7_copy) 50 = .ok (.ifCond .eq 9, 3) := by decide +kernel
theorem DM_X7_copy_53 : decode (mC M_X7_copy) 53 = .ok (.aload_n 0, 1) := by decide +kernel
theorem DM_X7_copy_54 : decode (mC M_X7_copy) 54 = .ok (.iconst 1, 1) := by decide +kernel
theorem DM_X7_copy_55 : decode (mC M_X7_copy) 55 = .ok (.invokevirtual 70, 3) := by decide +kernel
theorem DM_X7_copy_58 : decode (mC M_X7_copy) 58 = .ok (.ireturn, 1) := by decide +kernel
theorem DM_X7_copy_59 : decode (mC M_X7_copy) 59 = .ok (.aload 6, 2) := by decide +kernel
theorem DM_X7_copy_61 : decode (mC M_X7_copy) 61 = .ok (.getfield 96, 3) := by decide +kernel
theorem DM_X7_copy_64 : decode (mC M_X7_copy) 64 = .ok (.aload 7, 2) := by decide +kernel
theorem DM_X7_copy_66 : decode (mC M_X7_copy) 66 = .ok (.getfield 96, 3) := by decide +kernel
theorem DM_X7_copy_69 : decode (mC M_X7_copy) 69 = .ok (.if_icmp .eq 9, 3) := by decide +kernel
theorem DM_X7_copy_72 : decode (mC M_X7_copy) 72 = .ok (.aload_n 0, 1) := by decide +kernel
theorem DM_X7_copy_73 : decode (mC M_X7_copy) 73 = .ok (.iconst 5, 1) := by decide +kernel
theorem DM_X7_copy_74 : decode (mC M_X7_copy) 74 = .ok (.invokevirtual 70, 3) := by decide +kernel
theorem DM_X7_copy_77 : decode (mC M_X7_copy) 77 = .ok (.ireturn, 1) := by decide +kernel
theorem DM_X7_copy_78 : decode (mC M_X7_copy) 78 = .ok (.aload 6, 2) := by decide +kernel
theorem DM_X7_copy_80 : decode (mC M_X7_copy) 80 = .ok (.iload_n 2, 1) := by decide +kernel
theorem DM_X7_copy_81 : decode (mC M_X7_copy) 81 = .ok (.iload 5, 2) := by decide +kernel
theorem DM_X7_copy_83 : decode (mC M_X7_copy) 83 = .ok (.invokevirtual 99, 3) := by decide +kernel
theorem DM_X7_copy_86 : decode (mC M_X7_copy) 86 = .ok (.ifCond .eq 15, 3) := by decide +kernel
theorem DM_X7_copy_89 : decode (mC M_X7_copy) 89 = .ok (.aload 7, 2) := by decide +kernel
theorem DM_X7_copy_91 : decode (mC M_X7_copy) 91 = .ok (.iload 4, 2) := by decide +kernel
theorem DM_X7_copy_93 : decode (mC M_X7_copy) 93 = .ok (.iload 5, 2) := by decide +kernel
theorem DM_X7_copy_95 : decode (mC M_X7_copy) 95 = .ok (.invokevirtual 99, 3) := by decide +kernel
theorem DM_X7_copy_98 : decode (mC M_X7_copy) 98 = .ok (.ifCond .ne 9, 3) := by decide +kernel
theorem DM_X7_copy_101 : decode (mC M_X7_copy) 101 = .ok (.aload_n 0, 1) := by decide +kernel
theorem DM_X7_copy_102 : decode (mC M_X7_copy) 102 = .ok (.iconst 2, 1) := by decide +kernel
theorem DM_X7_copy_103 : decode (mC M_X7_copy) 103 = .ok (.invokevirtual 70, 3) := by decide +kernel
theorem DM_X7_copy_106 : decode (mC M_X7_copy) 106 = .ok (.ireturn, 1) := by decide +kernel
theorem DM_X7_copy_107 : decode (mC M_X7_copy) 107 = .ok (.aload 6, 2) := by decide +kernel
theorem DM_X7_copy_109 : decode (mC M_X7_copy) 109 = .ok (.getfield 89, 3) := by decide +kernel
theorem DM_X7_copy_112 : decode (mC M_X7_copy) 112 = .ok (.iload_n 2, 1) := by decide +kernel
theorem DM_X7_copy_113 : decode (mC M_X7_copy) 113 = .ok (.aload 7, 2) := by decide +kernel
theorem DM_X7_copy_115 : decode (mC M_X7_copy) 115 = .ok (.getfield 89, 3) := by decide +kernel
theorem DM_X7_copy_118 : decode (mC M_X7_copy) 118 = .ok (.iload 4, 2) := by decide +kernel
theorem DM_X7_copy_120 : decode (mC M_X7_copy) 120 = .ok (.iload 5, 2) := by decide +kernel
theorem DM_X7_copy_122 : decode (mC M_X7_copy) 122 = .ok (.invokestatic 102, 3) := by decide +kernel
theorem DM_X7_copy_125 : decode (mC M_X7_copy) 125 = .ok (.aload_n 0, 1) := by decide +kernel
theorem DM_X7_copy_126 : decode (mC M_X7_copy) 126 = .ok (.iload 5, 2) := by decide +kernel
theorem DM_X7_copy_128 : decode (mC M_X7_copy) 128 = .ok (.invokevirtual 78, 3) := by decide +kernel
theorem DM_X7_copy_131 : decode (mC M_X7_copy) 131 = .ok (.ireturn, 1) := by decide +kernel
theorem DM_X7_drop_0 : decode (mC M_X7_drop) 0 = .ok (.iload_n 1, 1) := by decide +kernel
theorem DM_X7_drop_1 : decode (mC M_X7_drop) 1 = .ok (.bipush 8, 2) := by decide +kernel
theorem DM_X7_drop_3 : decode (mC M_X7_drop) 3 = .ok (.invokestatic 65, 3) := by decide +kernel
theorem DM_X7_drop_6 : decode (mC M_X7_drop) 6 = .ok (.ifCond .ne 6, 3) := by decide +kernel
theorem DM_X7_drop_9 : decode (mC M_X7_drop) 9 = .ok (.ldc 69, 2) := by decide +kernel
theorem DM_X7_drop_11 : decode (mC M_X7_drop) 11 = .ok (.ireturn, 1) := by decide +kernel
theorem DM_X7_drop_12 : decode (mC M_X7_drop) 12 = .ok (.aload_n 0, 1) := by decide +kernel
theorem DM_X7_drop_13 : decode (mC M_X7_drop) 13 = .ok (.getfield 11, 3) := by decide +kernel
theorem DM_X7_drop_16 : decode (mC M_X7_drop) 16 = .ok (.iload_n 1, 1) := by decide +kernel
theorem DM_X7_drop_17 : decode (mC M_X7_drop) 17 = .ok (.aaload, 1) := by decide +kernel
theorem DM_X7_drop_18 : decode (mC M_X7_drop) 18 = .ok (.astore_n 2, 1) := by decide +kernel
theorem DM_X7_drop_19 : decode (mC M_X7_drop) 19 = .ok (.aload_n 2, 1) := by decide +kernel
theorem DM_X7_drop_20 : decode (mC M_X7_drop) 20 = .ok (.invokevirtual 81, 3) := by decide +kernel
theorem DM_X7_drop_23 : decode (mC M_X7_drop) 23 = .ok (.ifCond .eq 9, 3) := by decide +kernel
theorem DM_X7_drop_26 : decode (mC M_X7_drop) 26 = .ok (.aload_n 0, 1) := by decide +kernel
theorem DM_X7_drop_27 : decode (mC M_X7_drop) 27 = .ok (.iconst 1, 1) := by decide +kernel
theorem DM_X7_drop_28 : decode (mC M_X7_drop) 28 = .ok (.invokevirtual 70, 3) := by decide +kernel
theorem DM_X7_drop_31 : decode (mC M_X7_drop) 31 = .ok (.ireturn, 1) := by decide +kernel
theorem DM_X7_drop_32 : decode (mC M_X7_drop) 32 = .ok (.aload_n 2, 1) := by decide +kernel
theorem DM_X7_drop_33 : decode (mC M_X7_drop) 33 = .ok (.getfield 85, 3) := by decide +kernel
theorem DM_X7_drop_36 : decode (mC M_X7_drop) 36 = .ok (.istore_n 3, 1) := by decide +kernel
theorem DM_X7_drop_37 : decode (mC M_X7_drop) 37 = .ok (.aload_n 2, 1) := by decide +kernel
theorem DM_X7_drop_38 : decode (mC M_X7_drop) 38 = .ok (.iconst (-1), 1) := by decide +kernel
theorem DM_X7_drop_39 : decode (mC M_X7_drop) 39 = .ok (.putfield 85, 3) := by decide +kernel
theorem DM_X7_drop_42 : decode (mC M_X7_drop) 42 = .ok (.aload_n 0, 1) := by decide +kernel
theorem DM_X7_drop_43 : decode (mC M_X7_drop) 43 = .ok (.iload_n 3, 1) := by decide +kernel
theorem DM_X7_drop_44 : decode (mC M_X7_drop) 44 = .ok (.invokevirtual 78, 3) := by decide +kernel
theorem DM_X7_drop_47 : decode (mC M_X7_drop) 47 = .ok (.ireturn, 1) := by decide +kernel
theorem DM_X7_feed_0 : decode (mC M_X7_feed) 0 = .ok (.iload_n 1, 1) := by decide +kernel
theorem DM_X7_feed_1 : decode (mC M_X7_feed) 1 = .ok (.sipush 256, 3) := by decide +kernel
theorem DM_X7_feed_4 : decode (mC M_X7_feed) 4 = .ok (.invokestatic 65, 3) := by decide +kernel
theorem DM_X7_feed_7 : decode (mC M_X7_feed) 7 = .ok (.ifCond .ne 6, 3) := by decide +kernel
theorem DM_X7_feed_10 : decode (mC M_X7_feed) 10 = .ok (.ldc 69, 2) := by decide +kernel
theorem DM_X7_feed_12 : decode (mC M_X7_feed) 12 = .ok (.ireturn, 1) := by decide +kernel
theorem DM_X7_feed_13 : decode (mC M_X7_feed) 13 = .ok (.aload_n 0, 1) := by decide +kernel
theorem DM_X7_feed_14 : decode (mC M_X7_feed) 14 = .ok (.getfield 18, 3) := by decide +kernel
theorem DM_X7_feed_17 : decode (mC M_X7_feed) 17 = .ok (.getfield 108, 3) := by decide +kernel
theorem DM_X7_feed_20 : decode (mC M_X7_feed) 20 = .ok (.bipush 120, 2) := by decide +kernel
theorem DM_X7_feed_22 : decode (mC M_X7_feed) 22 = .ok (.if_icmp .lt 6, 3) := by decide +kernel
theorem DM_X7_feed_25 : decode (mC M_X7_feed) 25 = .ok (.ldc 111, 2) := by decide +kernel
theorem DM_X7_feed_27 : decode (mC M_X7_feed) 27 = .ok (.ireturn, 1) := by decide +kernel
theorem DM_X7_feed_28 : decode (mC M_X7_feed) 28 = .ok (.aload_n 0, 1) := by decide +kernel
theorem DM_X7_feed_29 : decode (mC M_X7_feed) 29 = .ok (.getfield 18, 3) := by decide +kernel
theorem DM_X7_feed_32 : decode (mC M_X7_feed) 32 = .ok (.iload_n 1, 1) := by decide +kernel
theorem DM_X7_feed_33 : decode (mC M_X7_feed) 33 = .ok (.invokevirtual 112, 3) := by decide +kernel
theorem DM_X7_feed_36 : decode (mC M_X7_feed) 36 = .ok (.aload_n 0, 1) := by decide +kernel
theorem DM_X7_feed_37 : decode (mC M_X7_feed) 37 = .ok (.getfield 18, 3) := by decide +kernel
theorem DM_X7_feed_40 : decode (mC M_X7_feed) 40 = .ok (.getfield 108, 3) := by decide +kernel
theorem DM_X7_feed_43 : decode (mC M_X7_feed) 43 = .ok (.ireturn, 1) := by decide +kernel
theorem DM_X7_court_0 : decode (mC M_X7_court) 0 = .ok (.aload_n 0, 1) := by decide +kernel
theorem DM_X7_court_1 : decode (mC M_X7_court) 1 = .ok (.getfield 18, 3) := by decide +kernel
theorem DM_X7_court_4 : decode (mC M_X7_court) 4 = .ok (.aload_n 0, 1) := by decide +kernel
theorem DM_X7_court_5 : decode (mC M_X7_court) 5 = .ok (.getfield 29, 3) := by decide +kernel
theorem DM_X7_court_8 : decode (mC M_X7_court) 8 = .ok (.invokevirtual 116, 3) := by decide +kernel
theorem DM_X7_court_11 : decode (mC M_X7_court) 11 = .ok (.istore_n 1, 1) := by decide +kernel
theorem DM_X7_court_12 : decode (mC M_X7_court) 12 = .ok (.aload_n 0, 1) := by decide +kernel
theorem DM_X7_court_13 : decode (mC M_X7_court) 13 = .ok (.getfield 18, 3) := by decide +kernel
theorem DM_X7_court_16 : decode (mC M_X7_court) 16 = .ok (.iconst 0, 1) := by decide +kernel
theorem DM_X7_court_17 : decode (mC M_X7_court) 17 = .ok (.putfield 108, 3) := by decide +kernel
theorem DM_X7_court_20 : decode (mC M_X7_court) 20 = .ok (.iload_n 1, 1) := by decide +kernel
theorem DM_X7_court_21 : decode (mC M_X7_court) 21 = .ok (.ifCond .ne 25, 3) := by decide +kernel
theorem DM_X7_court_24 : decode (mC M_X7_court) 24 = .ok (.aload_n 0, 1) := by decide +kernel
theorem DM_X7_court_25 : decode (mC M_X7_court) 25 = .ok (.aload_n 0, 1) := by decide +kernel
theorem DM_X7_court_26 : decode (mC M_X7_court) 26 = .ok (.getfield 18, 3) := by decide +kernel
theorem DM_X7_court_29 : decode (mC M_X7_court) 29 = .ok (.getfield 120, 3) := by decide +kernel
theorem DM_X7_court_32 : decode (mC M_X7_court) 32 = .ok (.putfield 123, 3) := by decide +kernel
theorem DM_X7_court_35 : decode (mC M_X7_court) 35 = .ok (.ldc 126, 2) := by decide +kernel
theorem DM_X7_court_37 : decode (mC M_X7_court) 37 = .ok (.aload_n 0, 1) := by decide +kernel
theorem DM_X7_court_38 : decode (mC M_X7_court) 38 = .ok (.getfield 18, 3) := by decide +kernel
theorem DM_X7_court_41 : decode (mC M_X7_court) 41 = .ok (.getfield 127, 3) := by decide +kernel
theorem DM_X7_court_44 : decode (mC M_X7_court) 44 = .ok (.isub, 1) := by decide +kernel
theorem DM_X7_court_45 : decode (mC M_X7_court) 45 = .ok (.ireturn, 1) := by decide +kernel
theorem DM_X7_court_46 : decode (mC M_X7_court) 46 = .ok (.aload_n 0, 1) := by decide +kernel
theorem DM_X7_court_47 : decode (mC M_X7_court) 47 = .ok (.getfield 25, 3) := by decide +kernel
theorem DM_X7_court_50 : decode (mC M_X7_court) 50 = .ok (.aload_n 0, 1) := by decide +kernel
theorem DM_X7_court_51 : decode (mC M_X7_court) 51 = .ok (.getfield 29, 3) := by decide +kernel
theorem DM_X7_court_54 : decode (mC M_X7_court) 54 = .ok (.invokevirtual 130, 3) := by decide +kernel
theorem DM_X7_court_57 : decode (mC M_X7_court) 57 = .ok (.aload_n 0, 1) := by decide +kernel
theorem DM_X7_court_58 : decode (mC M_X7_court) 58 = .ok (.getfield 39, 3) := by decide +kernel
theorem DM_X7_court_61 : decode (mC M_X7_court) 61 = .ok (.invokevirtual 134, 3) := by decide +kernel
theorem DM_X7_court_64 : decode (mC M_X7_court) 64 = .ok (.aload_n 0, 1) := by decide +kernel
theorem DM_X7_court_65 : decode (mC M_X7_court) 65 = .ok (.getfield 25, 3) := by decide +kernel
theorem DM_X7_court_68 : decode (mC M_X7_court) 68 = .ok (.getfield 137, 3) := by decide +kernel
theorem DM_X7_court_71 : decode (mC M_X7_court) 71 = .ok (.ireturn, 1) := by decide +kernel
theorem DM_X7_fault_0 : decode (mC M_X7_fault) 0 = .ok (.aload_n 0, 1) := by decide +kernel
theorem DM_X7_fault_1 : decode (mC M_X7_fault) 1 = .ok (.getfield 123, 3) := by decide +kernel
theorem DM_X7_fault_4 : decode (mC M_X7_fault) 4 = .ok (.ireturn, 1) := by decide +kernel
theorem DM_X7_days_0 : decode (mC M_X7_days) 0 = .ok (.aload_n 0, 1) := by decide +kernel
theorem DM_X7_days_1 : decode (mC M_X7_days) 1 = .ok (.getfield 25, 3) := by decide +kernel
theorem DM_X7_days_4 : decode (mC M_X7_days) 4 = .ok (.getfield 140, 3) := by decide +kernel
theorem DM_X7_days_7 : decode (mC M_X7_days) 7 = .ok (.ifCond .ne 6, 3) := by decide +kernel
theorem DM_X7_days_10 : decode (mC M_X7_days) 10 = .ok (.ldc 144, 2) := by decide +kernel
theorem DM_X7_days_12 : decode (mC M_X7_days) 12 = .ok (.ireturn, 1) := by decide +kernel
theorem DM_X7_days_13 : decode (mC M_X7_days) 13 = .ok (.iload_n 1, 1) := by decide +kernel
theorem DM_X7_days_14 : decode (mC M_X7_days) 14 = .ok (.iconst 1, 1) := by decide +kernel
theorem DM_X7_days_15 : decode (mC M_X7_days) 15 = .ok (.if_icmp .lt 9, 3) := by decide +kernel
theorem DM_X7_days_18 : decode (mC M_X7_days) 18 = .ok (.iload_n 1, 1) := by decide +kernel
theorem DM_X7_days_19 : decode (mC M_X7_days) 19 = .ok (.bipush 20, 2) := by decide +kernel
theorem DM_X7_days_21 : decode (mC M_X7_days) 21 = .ok (.if_icmp .le 6, 3) := by decide +kernel
theorem DM_X7_days_24 : decode (mC M_X7_days) 24 = .ok (.ldc 69, 2) := by decide +kernel
theorem DM_X7_days_26 : decode (mC M_X7_days) 26 = .ok (.ireturn, 1) := by decide +kernel
theorem DM_X7_days_27 : decode (mC M_X7_days) 27 = .ok (.aload_n 0, 1) := by decide +kernel
theorem DM_X7_days_28 : decode (mC M_X7_days) 28 = .ok (.getfield 25, 3) := by decide +kernel
theorem DM_X7_days_31 : decode (mC M_X7_days) 31 = .ok (.getfield 145, 3) := by decide +kernel
theorem DM_X7_days_34 : decode (mC M_X7_days) 34 = .ok (.iload_n 1, 1) := by decide +kernel
theorem DM_X7_days_35 : decode (mC M_X7_days) 35 = .ok (.iadd, 1) := by decide +kernel
theorem DM_X7_days_36 : decode (mC M_X7_days) 36 = .ok (.sipush 999, 3) := by decide +kernel
theorem DM_X7_days_39 : decode (mC M_X7_days) 39 = .ok (.if_icmp .le 6, 3) := by decide +kernel
theorem DM_X7_days_42 : decode (mC M_X7_days) 42 = .ok (.ldc 111, 2) := by decide +kernel
theorem DM_X7_days_44 : decode (mC M_X7_days) 44 = .ok (.ireturn, 1) := by decide +kernel
theorem DM_X7_days_45 : decode (mC M_X7_days) 45 = .ok (.aload_n 0, 1) := by decide +kernel
theorem DM_X7_days_46 : decode (mC M_X7_days) 46 = .ok (.getfield 25, 3) := by decide +kernel
theorem DM_X7_days_49 : decode (mC M_X7_days) 49 = .ok (.aload_n 0, 1) := by decide +kernel
theorem DM_X7_days_50 : decode (mC M_X7_days) 50 = .ok (.getfield 25, 3) := by decide +kernel
theorem DM_X7_days_53 : decode (mC M_X7_days) 53 = .ok (.getfield 145, 3) := by decide +kernel
theorem DM_X7_days_56 : decode (mC M_X7_days) 56 = .ok (.iload_n 1, 1) := by decide +kernel
theorem DM_X7_days_57 : decode (mC M_X7_days) 57 = .ok (.iadd, 1) := by decide +kernel
theorem DM_X7_days_58 : decode (mC M_X7_days) 58 = .ok (.iconst 0, 1) := by decide +kernel
theorem DM_X7_days_59 : decode (mC M_X7_days) 59 = .ok (.invokevirtual 148, 3) := by decide +kernel
theorem DM_X7_days_62 : decode (mC M_X7_days) 62 = .ok (.aload_n 0, 1) := by decide +kernel
theorem DM_X7_days_63 : decode (mC M_X7_days) 63 = .ok (.getfield 25, 3) := by decide +kernel
theorem DM_X7_days_66 : decode (mC M_X7_days) 66 = .ok (.dup, 1) := by decide +kernel
theorem DM_X7_days_67 : decode (mC M_X7_days) 67 = .ok (.getfield 145, 3) := by decide +kernel
theorem DM_X7_days_70 : decode (mC M_X7_days) 70 = .ok (.iload_n 1, 1) := by decide +kernel
theorem DM_X7_days_71 : decode (mC M_X7_days) 71 = .ok (.iadd, 1) := by decide +kernel
theorem DM_X7_days_72 : decode (mC M_X7_days) 72 = .ok (.putfield 145, 3) := by decide +kernel
theorem DM_X7_days_75 : decode (mC M_X7_days) 75 = .ok (.iconst 0, 1) := by decide +kernel
theorem DM_X7_days_76 : decode (mC M_X7_days) 76 = .ok (.istore_n 2, 1) := by decide +kernel
theorem DM_X7_days_77 : decode (mC M_X7_days) 77 = .ok (.iload_n 2, 1) := by decide +kernel
theorem DM_X7_days_78 : decode (mC M_X7_days) 78 = .ok (.iload_n 1, 1) := by decide +kernel
theorem DM_X7_days_79 : decode (mC M_X7_days) 79 = .ok (.if_icmp .ge 16, 3) := by decide +kernel
theorem DM_X7_days_82 : decode (mC M_X7_days) 82 = .ok (.aload_n 0, 1) := by decide +kernel
