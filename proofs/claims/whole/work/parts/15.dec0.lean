theorem DM_X0_init_0 : decode (mC M_X0_init) 0 = .ok (.aload_n 0, 1) := by decide +kernel
theorem DM_X0_init_1 : decode (mC M_X0_init) 1 = .ok (.invokespecial 3, 3) := by decide +kernel
theorem DM_X0_init_4 : decode (mC M_X0_init) 4 = .ok (.aload_n 0, 1) := by decide +kernel
theorem DM_X0_init_5 : decode (mC M_X0_init) 5 = .ok (.bipush 24, 2) := by decide +kernel
theorem DM_X0_init_7 : decode (mC M_X0_init) 7 = .ok (.newarray .int, 2) := by decide +kernel
theorem DM_X0_init_9 : decode (mC M_X0_init) 9 = .ok (.putfield 9, 3) := by decide +kernel
theorem DM_X0_init_12 : decode (mC M_X0_init) 12 = .ok (.aload_n 0, 1) := by decide +kernel
theorem DM_X0_init_13 : decode (mC M_X0_init) 13 = .ok (.bipush 24, 2) := by decide +kernel
theorem DM_X0_init_15 : decode (mC M_X0_init) 15 = .ok (.newarray .int, 2) := by decide +kernel
theorem DM_X0_init_17 : decode (mC M_X0_init) 17 = .ok (.putfield 15, 3) := by decide +kernel
theorem DM_X0_init_20 : decode (mC M_X0_init) 20 = .ok (.aload_n 0, 1) := by decide +kernel
theorem DM_X0_init_21 : decode (mC M_X0_init) 21 = .ok (.bipush 24, 2) := by decide +kernel
theorem DM_X0_init_23 : decode (mC M_X0_init) 23 = .ok (.newarray .int, 2) := by decide +kernel
theorem DM_X0_init_25 : decode (mC M_X0_init) 25 = .ok (.putfield 18, 3) := by decide +kernel
theorem DM_X0_init_28 : decode (mC M_X0_init) 28 = .ok (.aload_n 0, 1) := by decide +kernel
theorem DM_X0_init_29 : decode (mC M_X0_init) 29 = .ok (.bipush 24, 2) := by decide +kernel
theorem DM_X0_init_31 : decode (mC M_X0_init) 31 = .ok (.newarray .int, 2) := by decide +kernel
theorem DM_X0_init_33 : decode (mC M_X0_init) 33 = .ok (.putfield 21, 3) := by decide +kernel
theorem DM_X0_init_36 : decode (mC M_X0_init) 36 = .ok (.return_, 1) := by decide +kernel
theorem DM_X0_forgetAll_0 : decode (mC M_X0_forgetAll) 0 = .ok (.aload_n 0, 1) := by decide +kernel
theorem DM_X0_forgetAll_1 : decode (mC M_X0_forgetAll) 1 = .ok (.iconst 0, 1) := by decide +kernel
theorem DM_X0_forgetAll_2 : decode (mC M_X0_forgetAll) 2 = .ok (.putfield 24, 3) := by decide +kernel
theorem DM_X0_forgetAll_5 : decode (mC M_X0_forgetAll) 5 = .ok (.return_, 1) := by decide +kernel
theorem DM_X0_keepDay_0 : decode (mC M_X0_keepDay) 0 = .ok (.aload_n 0, 1) := by decide +kernel
theorem DM_X0_keepDay_1 : decode (mC M_X0_keepDay) 1 = .ok (.iconst 0, 1) := by decide +kernel
theorem DM_X0_keepDay_2 : decode (mC M_X0_keepDay) 2 = .ok (.iconst 0, 1) := by decide +kernel
theorem DM_X0_keepDay_3 : decode (mC M_X0_keepDay) 3 = .ok (.iconst 0, 1) := by decide +kernel
theorem DM_X0_keepDay_4 : decode (mC M_X0_keepDay) 4 = .ok (.iconst 0, 1) := by decide +kernel
theorem DM_X0_keepDay_5 : decode (mC M_X0_keepDay) 5 = .ok (.invokevirtual 28, 3) := by decide +kernel
theorem DM_X0_keepDay_8 : decode (mC M_X0_keepDay) 8 = .ok (.return_, 1) := by decide +kernel
theorem DM_X0_keepForged_0 : decode (mC M_X0_keepForged) 0 = .ok (.aload_n 0, 1) := by decide +kernel
theorem DM_X0_keepForged_1 : decode (mC M_X0_keepForged) 1 = .ok (.iconst 1, 1) := by decide +kernel
theorem DM_X0_keepForged_2 : decode (mC M_X0_keepForged) 2 = .ok (.iload_n 1, 1) := by decide +kernel
theorem DM_X0_keepForged_3 : decode (mC M_X0_keepForged) 3 = .ok (.iload_n 2, 1) := by decide +kernel
theorem DM_X0_keepForged_4 : decode (mC M_X0_keepForged) 4 = .ok (.iload_n 3, 1) := by decide +kernel
theorem DM_X0_keepForged_5 : decode (mC M_X0_keepForged) 5 = .ok (.invokevirtual 28, 3) := by decide +kernel
theorem DM_X0_keepForged_8 : decode (mC M_X0_keepForged) 8 = .ok (.return_, 1) := by decide +kernel
theorem DM_X0_keepLost_0 : decode (mC M_X0_keepLost) 0 = .ok (.aload_n 0, 1) := by decide +kernel
theorem DM_X0_keepLost_1 : decode (mC M_X0_keepLost) 1 = .ok (.iconst 2, 1) := by decide +kernel
theorem DM_X0_keepLost_2 : decode (mC M_X0_keepLost) 2 = .ok (.iconst 0, 1) := by decide +kernel
theorem DM_X0_keepLost_3 : decode (mC M_X0_keepLost) 3 = .ok (.iconst 0, 1) := by decide +kernel
theorem DM_X0_keepLost_4 : decode (mC M_X0_keepLost) 4 = .ok (.iload_n 1, 1) := by decide +kernel
theorem DM_X0_keepLost_5 : decode (mC M_X0_keepLost) 5 = .ok (.invokevirtual 28, 3) := by decide +kernel
theorem DM_X0_keepLost_8 : decode (mC M_X0_keepLost) 8 = .ok (.return_, 1) := by decide +kernel
theorem DM_X0_keep_0 : decode (mC M_X0_keep) 0 = .ok (.aload_n 0, 1) := by decide +kernel
theorem DM_X0_keep_1 : decode (mC M_X0_keep) 1 = .ok (.getfield 24, 3) := by decide +kernel
theorem DM_X0_keep_4 : decode (mC M_X0_keep) 4 = .ok (.bipush 24, 2) := by decide +kernel
theorem DM_X0_keep_6 : decode (mC M_X0_keep) 6 = .ok (.if_icmp .ge 16, 3) := by decide +kernel
theorem DM_X0_keep_9 : decode (mC M_X0_keep) 9 = .ok (.aload_n 0, 1) := by decide +kernel
theorem DM_X0_keep_10 : decode (mC M_X0_keep) 10 = .ok (.dup, 1) := by decide +kernel
theorem DM_X0_keep_11 : decode (mC M_X0_keep) 11 = .ok (.getfield 24, 3) := by decide +kernel
theorem DM_X0_keep_14 : decode (mC M_X0_keep) 14 = .ok (.iconst 1, 1) := by decide +kernel
theorem DM_X0_keep_15 : decode (mC M_X0_keep) 15 = .ok (.iadd, 1) := by decide +kernel
theorem DM_X0_keep_16 : decode (mC M_X0_keep) 16 = .ok (.putfield 24, 3) := by decide +kernel
theorem DM_X0_keep_19 : decode (mC M_X0_keep) 19 = .ok (.goto 16, 3) := by decide +kernel
theorem DM_X0_keep_22 : decode (mC M_X0_keep) 22 = .ok (.aload_n 0, 1) := by decide +kernel
theorem DM_X0_keep_23 : decode (mC M_X0_keep) 23 = .ok (.aload_n 0, 1) := by decide +kernel
theorem DM_X0_keep_24 : decode (mC M_X0_keep) 24 = .ok (.getfield 32, 3) := by decide +kernel
theorem DM_X0_keep_27 : decode (mC M_X0_keep) 27 = .ok (.iconst 1, 1) := by decide +kernel
theorem DM_X0_keep_28 : decode (mC M_X0_keep) 28 = .ok (.iadd, 1) := by decide +kernel
theorem DM_X0_keep_29 : decode (mC M_X0_keep) 29 = .ok (.bipush 24, 2) := by decide +kernel
theorem DM_X0_keep_31 : decode (mC M_X0_keep) 31 = .ok (.irem, 1) := by decide +kernel
theorem DM_X0_keep_32 : decode (mC M_X0_keep) 32 = .ok (.putfield 32, 3) := by decide +kernel
theorem DM_X0_keep_35 : decode (mC M_X0_keep) 35 = .ok (.aload_n 0, 1) := by decide +kernel
theorem DM_X0_keep_36 : decode (mC M_X0_keep) 36 = .ok (.invokevirtual 35, 3) := by decide +kernel
theorem DM_X0_keep_39 : decode (mC M_X0_keep) 39 = .ok (.istore 5, 2) := by decide +kernel
theorem DM_X0_keep_41 : decode (mC M_X0_keep) 41 = .ok (.aload_n 0, 1) := by decide +kernel
theorem DM_X0_keep_42 : decode (mC M_X0_keep) 42 = .ok (.getfield 9, 3) := by decide +kernel
theorem DM_X0_keep_45 : decode (mC M_X0_keep) 45 = .ok (.iload 5, 2) := by decide +kernel
theorem DM_X0_keep_47 : decode (mC M_X0_keep) 47 = .ok (.iload_n 1, 1) := by decide +kernel
theorem DM_X0_keep_48 : decode (mC M_X0_keep) 48 = .ok (.iastore, 1) := by decide +kernel
theorem DM_X0_keep_49 : decode (mC M_X0_keep) 49 = .ok (.aload_n 0, 1) := by decide +kernel
theorem DM_X0_keep_50 : decode (mC M_X0_keep) 50 = .ok (.getfield 15, 3) := by decide +kernel
theorem DM_X0_keep_53 : decode (mC M_X0_keep) 53 = .ok (.iload 5, 2) := by decide +kernel
theorem DM_X0_keep_55 : decode (mC M_X0_keep) 55 = .ok (.iload_n 2, 1) := by decide +kernel
theorem DM_X0_keep_56 : decode (mC M_X0_keep) 56 = .ok (.iastore, 1) := by decide +kernel
theorem DM_X0_keep_57 : decode (mC M_X0_keep) 57 = .ok (.aload_n 0, 1) := by decide +kernel
theorem DM_X0_keep_58 : decode (mC M_X0_keep) 58 = .ok (.getfield 18, 3) := by decide +kernel
theorem DM_X0_keep_61 : decode (mC M_X0_keep) 61 = .ok (.iload 5, 2) := by decide +kernel
theorem DM_X0_keep_63 : decode (mC M_X0_keep) 63 = .ok (.iload_n 3, 1) := by decide +kernel
theorem DM_X0_keep_64 : decode (mC M_X0_keep) 64 = .ok (.iastore, 1) := by decide +kernel
theorem DM_X0_keep_65 : decode (mC M_X0_keep) 65 = .ok (.aload_n 0, 1) := by decide +kernel
theorem DM_X0_keep_66 : decode (mC M_X0_keep) 66 = .ok (.getfield 21, 3) := by decide +kernel
theorem DM_X0_keep_69 : decode (mC M_X0_keep) 69 = .ok (.iload 5, 2) := by decide +kernel
theorem DM_X0_keep_71 : decode (mC M_X0_keep) 71 = .ok (.iload 4, 2) := by decide +kernel
theorem DM_X0_keep_73 : decode (mC M_X0_keep) 73 = .ok (.iastore, 1) := by decide +kernel
theorem DM_X0_keep_74 : decode (mC M_X0_keep) 74 = .ok (.return_, 1) := by decide +kernel
theorem DM_X0_latestPlace_0 : decode (mC M_X0_latestPlace) 0 = .ok (.aload_n 0, 1) := by decide +kernel
theorem DM_X0_latestPlace_1 : decode (mC M_X0_latestPlace) 1 = .ok (.getfield 32, 3) := by decide +kernel
theorem DM_X0_latestPlace_4 : decode (mC M_X0_latestPlace) 4 = .ok (.aload_n 0, 1) := by decide +kernel
theorem DM_X0_latestPlace_5 : decode (mC M_X0_latestPlace) 5 = .ok (.getfield 24, 3) := by decide +kernel
theorem DM_X0_latestPlace_8 : decode (mC M_X0_latestPlace) 8 = .ok (.iadd, 1) := by decide +kernel
theorem DM_X0_latestPlace_9 : decode (mC M_X0_latestPlace) 9 = .ok (.iconst 1, 1) := by decide +kernel
theorem DM_X0_latestPlace_10 : decode (mC M_X0_latestPlace) 10 = .ok (.isub, 1) := by decide +kernel
theorem DM_X0_latestPlace_11 : decode (mC M_X0_latestPlace) 11 = .ok (.bipush 24, 2) := by decide +kernel
theorem DM_X0_latestPlace_13 : decode (mC M_X0_latestPlace) 13 = .ok (.irem, 1) := by decide +kernel
theorem DM_X0_latestPlace_14 : decode (mC M_X0_latestPlace) 14 = .ok (.ireturn, 1) := by decide +kernel
theorem DM_X0_takeBack_0 : decode (mC M_X0_takeBack) 0 = .ok (.aload_n 0, 1) := by decide +kernel
theorem DM_X0_takeBack_1 : decode (mC M_X0_takeBack) 1 = .ok (.getfield 24, 3) := by decide +kernel
theorem DM_X0_takeBack_4 : decode (mC M_X0_takeBack) 4 = .ok (.ifCond .ne 4, 3) := by decide +kernel
theorem DM_X0_takeBack_7 : decode (mC M_X0_takeBack) 7 = .ok (.return_, 1) := by decide +kernel
theorem DM_X0_takeBack_8 : decode (mC M_X0_takeBack) 8 = .ok (.aload_n 0, 1) := by decide +kernel
theorem DM_X0_takeBack_9 : decode (mC M_X0_takeBack) 9 = .ok (.invokevirtual 35, 3) := by decide +kernel
theorem DM_X0_takeBack_12 : decode (mC M_X0_takeBack) 12 = .ok (.istore_n 2, 1) := by decide +kernel
theorem DM_X0_takeBack_13 : decode (mC M_X0_takeBack) 13 = .ok (.aload_n 0, 1) := by decide +kernel
theorem DM_X0_takeBack_14 : decode (mC M_X0_takeBack) 14 = .ok (.dup, 1) := by decide +kernel
theorem DM_X0_takeBack_15 : decode (mC M_X0_takeBack) 15 = .ok (.getfield 24, 3) := by decide +kernel
theorem DM_X0_takeBack_18 : decode (mC M_X0_takeBack) 18 = .ok (.iconst 1, 1) := by decide +kernel
theorem DM_X0_takeBack_19 : decode (mC M_X0_takeBack) 19 = .ok (.isub, 1) := by decide +kernel
theorem DM_X0_takeBack_20 : decode (mC M_X0_takeBack) 20 = .ok (.putfield 24, 3) := by decide +kernel
theorem DM_X0_takeBack_23 : decode (mC M_X0_takeBack) 23 = .ok (.aload_n 0, 1) := by decide +kernel
theorem DM_X0_takeBack_24 : decode (mC M_X0_takeBack) 24 = .ok (.getfield 9, 3) := by decide +kernel
theorem DM_X0_takeBack_27 : decode (mC M_X0_takeBack) 27 = .ok (.iload_n 2, 1) := by decide +kernel
theorem DM_X0_takeBack_28 : decode (mC M_X0_takeBack) 28 = .ok (.iaload, 1) := by decide +kernel
theorem DM_X0_takeBack_29 : decode (mC M_X0_takeBack) 29 = .ok (.lookupswitch 59 #[(0, 27), (1, 34)], 27) := by decide +kernel
theorem DM_X0_takeBack_56 : decode (mC M_X0_takeBack) 56 = .ok (.aload_n 1, 1) := by decide +kernel
theorem DM_X0_takeBack_57 : decode (mC M_X0_takeBack) 57 = .ok (.invokevirtual 39, 3) := by decide +kernel
theorem DM_X0_takeBack_60 : decode (mC M_X0_takeBack) 60 = .ok (.goto 45, 3) := by decide +kernel
theorem DM_X0_takeBack_63 : decode (mC M_X0_takeBack) 63 = .ok (.aload_n 1, 1) := by decide +kernel
theorem DM_X0_takeBack_64 : decode (mC M_X0_takeBack) 64 = .ok (.aload_n 0, 1) := by decide +kernel
theorem DM_X0_takeBack_65 : decode (mC M_X0_takeBack) 65 = .ok (.getfield 15, 3) := by decide +kernel
theorem DM_X0_takeBack_68 : decode (mC M_X0_takeBack) 68 = .ok (.iload_n 2, 1) := by decide +kernel
theorem DM_X0_takeBack_69 : decode (mC M_X0_takeBack) 69 = .ok (.iaload, 1) := by decide +kernel
theorem DM_X0_takeBack_70 : decode (mC M_X0_takeBack) 70 = .ok (.aload_n 0, 1) := by decide +kernel
theorem DM_X0_takeBack_71 : decode (mC M_X0_takeBack) 71 = .ok (.getfield 18, 3) := by decide +kernel
theorem DM_X0_takeBack_74 : decode (mC M_X0_takeBack) 74 = .ok (.iload_n 2, 1) := by decide +kernel
theorem DM_X0_takeBack_75 : decode (mC M_X0_takeBack) 75 = .ok (.iaload, 1) := by decide +kernel
theorem DM_X0_takeBack_76 : decode (mC M_X0_takeBack) 76 = .ok (.aload_n 0, 1) := by decide +kernel
theorem DM_X0_takeBack_77 : decode (mC M_X0_takeBack) 77 = .ok (.getfield 21, 3) := by decide +kernel
theorem DM_X0_takeBack_80 : decode (mC M_X0_takeBack) 80 = .ok (.iload_n 2, 1) := by decide +kernel
theorem DM_X0_takeBack_81 : decode (mC M_X0_takeBack) 81 = .ok (.iaload, 1) := by decide +kernel
theorem DM_X0_takeBack_82 : decode (mC M_X0_takeBack) 82 = .ok (.invokevirtual 44, 3) := by decide +kernel
theorem DM_X0_takeBack_85 : decode (mC M_X0_takeBack) 85 = .ok (.goto 20, 3) := by decide +kernel
theorem DM_X0_takeBack_88 : decode (mC M_X0_takeBack) 88 = .ok (.aload_n 1, 1) := by decide +kernel
theorem DM_X0_takeBack_89 : decode (mC M_X0_takeBack) 89 = .ok (.dup, 1) := by decide +kernel
theorem DM_X0_takeBack_90 : decode (mC M_X0_takeBack) 90 = .ok (.getfield 48, 3) := by decide +kernel
theorem DM_X0_takeBack_93 : decode (mC M_X0_takeBack) 93 = .ok (.iconst 1, 1) := by decide +kernel
theorem DM_X0_takeBack_94 : decode (mC M_X0_takeBack) 94 = .ok (.aload_n 0, 1) := by decide +kernel
theorem DM_X0_takeBack_95 : decode (mC M_X0_takeBack) 95 = .ok (.getfield 21, 3) := by decide +kernel
theorem DM_X0_takeBack_98 : decode (mC M_X0_takeBack) 98 = .ok (.iload_n 2, 1) := by decide +kernel
theorem DM_X0_takeBack_99 : decode (mC M_X0_takeBack) 99 = .ok (.iaload, 1) := by decide +kernel
theorem DM_X0_takeBack_100 : decode (mC M_X0_takeBack) 100 = .ok (.ishl, 1) := by decide +kernel
theorem DM_X0_takeBack_101 : decode (mC M_X0_takeBack) 101 = .ok (.ixor, 1) := by decide +kernel
theorem DM_X0_takeBack_102 : decode (mC M_X0_takeBack) 102 = .ok (.putfield 48, 3) := by decide +kernel
theorem DM_X0_takeBack_105 : decode (mC M_X0_takeBack) 105 = .ok (.return_, 1) := by decide +kernel
theorem DM_X1_init_0 : decode (mC M_X1_init) 0 = .ok (.aload_n 0, 1) := by decide +kernel
theorem DM_X1_init_1 : decode (mC M_X1_init) 1 = .ok (.invokespecial 3, 3) := by decide +kernel
theorem DM_X1_init_4 : decode (mC M_X1_init) 4 = .ok (.aload_n 0, 1) := by decide +kernel
theorem DM_X1_init_5 : decode (mC M_X1_init) 5 = .ok (.bipush 16, 2) := by decide +kernel
theorem DM_X1_init_7 : decode (mC M_X1_init) 7 = .ok (.newarray .int, 2) := by decide +kernel
theorem DM_X1_init_9 : decode (mC M_X1_init) 9 = .ok (.putfield 9, 3) := by decide +kernel
theorem DM_X1_init_12 : decode (mC M_X1_init) 12 = .ok (.return_, 1) := by decide +kernel
theorem DM_X1_answer_0 : decode (mC M_X1_answer) 0 = .ok (.aload_n 0, 1) := by decide +kernel
theorem DM_X1_answer_1 : decode (mC M_X1_answer) 1 = .ok (.iconst 0, 1) := by decide +kernel
theorem DM_X1_answer_2 : decode (mC M_X1_answer) 2 = .ok (.putfield 15, 3) := by decide +kernel
theorem DM_X1_answer_5 : decode (mC M_X1_answer) 5 = .ok (.aload_n 1, 1) := by decide +kernel
theorem DM_X1_answer_6 : decode (mC M_X1_answer) 6 = .ok (.getfield 19, 3) := by decide +kernel
theorem DM_X1_answer_9 : decode (mC M_X1_answer) 9 = .ok (.iload_n 2, 1) := by decide +kernel
theorem DM_X1_answer_10 : decode (mC M_X1_answer) 10 = .ok (.iaload, 1) := by decide +kernel
theorem DM_X1_answer_11 : decode (mC M_X1_answer) 11 = .ok (.istore 4, 2) := by decide +kernel
theorem DM_X1_answer_13 : decode (mC M_X1_answer) 13 = .ok (.aload_n 0, 1) := by decide +kernel
theorem DM_X1_answer_14 : decode (mC M_X1_answer) 14 = .ok (.aload_n 1, 1) := by decide +kernel
theorem DM_X1_answer_15 : decode (mC M_X1_answer) 15 = .ok (.iload_n 2, 1) := by decide +kernel
theorem DM_X1_answer_16 : decode (mC M_X1_answer) 16 = .ok (.iload_n 3, 1) := by decide +kernel
theorem DM_X1_answer_17 : decode (mC M_X1_answer) 17 = .ok (.ifCond .ne 12, 3) := by decide +kernel
theorem DM_X1_answer_20 : decode (mC M_X1_answer) 20 = .ok (.getstatic 24, 3) := by decide +kernel
theorem DM_X1_answer_23 : decode (mC M_X1_answer) 23 = .ok (.iload 4, 2) := by decide +kernel
theorem DM_X1_answer_25 : decode (mC M_X1_answer) 25 = .ok (.iaload, 1) := by decide +kernel
theorem DM_X1_answer_26 : decode (mC M_X1_answer) 26 = .ok (.goto 9, 3) := by decide +kernel
theorem DM_X1_answer_29 : decode (mC M_X1_answer) 29 = .ok (.getstatic 27, 3) := by decide +kernel
theorem DM_X1_answer_32 : decode (mC M_X1_answer) 32 = .ok (.iload 4, 2) := by decide +kernel
theorem DM_X1_answer_34 : decode (mC M_X1_answer) 34 = .ok (.iaload, 1) := by decide +kernel
theorem DM_X1_answer_35 : decode (mC M_X1_answer) 35 = .ok (.iconst 0, 1) := by decide +kernel
theorem DM_X1_answer_36 : decode (mC M_X1_answer) 36 = .ok (.invokestatic 30, 3) := by decide +kernel
theorem DM_X1_answer_39 : decode (mC M_X1_answer) 39 = .ok (.ireturn, 1) := by decide +kernel
theorem DM_X1_leave_0 : decode (mC M_X1_leave) 0 = .ok (.aload_n 0, 1) := by decide +kernel
theorem DM_X1_leave_1 : decode (mC M_X1_leave) 1 = .ok (.getfield 15, 3) := by decide +kernel
theorem DM_X1_leave_4 : decode (mC M_X1_leave) 4 = .ok (.bipush 16, 2) := by decide +kernel
theorem DM_X1_leave_6 : decode (mC M_X1_leave) 6 = .ok (.if_icmp .ge 23, 3) := by decide +kernel
theorem DM_X1_leave_9 : decode (mC M_X1_leave) 9 = .ok (.aload_n 0, 1) := by decide +kernel
theorem DM_X1_leave_10 : decode (mC M_X1_leave) 10 = .ok (.getfield 9, 3) := by decide +kernel
theorem DM_X1_leave_13 : decode (mC M_X1_leave) 13 = .ok (.aload_n 0, 1) := by decide +kernel
theorem DM_X1_leave_14 : decode (mC M_X1_leave) 14 = .ok (.getfield 15, 3) := by decide +kernel
theorem DM_X1_leave_17 : decode (mC M_X1_leave) 17 = .ok (.iload_n 1, 1) := by decide +kernel
theorem DM_X1_leave_18 : decode (mC M_X1_leave) 18 = .ok (.iastore, 1) := by decide +kernel
theorem DM_X1_leave_19 : decode (mC M_X1_leave) 19 = .ok (.aload_n 0, 1) := by decide +kernel
theorem DM_X1_leave_20 : decode (mC M_X1_leave) 20 = .ok (.dup, 1) := by decide +kernel
theorem DM_X1_leave_21 : decode (mC M_X1_leave) 21 = .ok (.getfield 15, 3) := by decide +kernel
theorem DM_X1_leave_24 : decode (mC M_X1_leave) 24 = .ok (.iconst 1, 1) := by decide +kernel
theorem DM_X1_leave_25 : decode (mC M_X1_leave) 25 = .ok (.iadd, 1) := by decide +kernel
theorem DM_X1_leave_26 : decode (mC M_X1_leave) 26 = .ok (.putfield 15, 3) := by decide +kernel
theorem DM_X1_leave_29 : decode (mC M_X1_leave) 29 = .ok (.return_, 1) := by decide +kernel
theorem DM_X1_give_0 : decode (mC M_X1_give) 0 = .ok (.iload 4, 2) := by decide +kernel
theorem DM_X1_give_2 : decode (mC M_X1_give) 2 = .ok (.bipush 12, 2) := by decide +kernel
theorem DM_X1_give_4 : decode (mC M_X1_give) 4 = .ok (.if_icmp .le 5, 3) := by decide +kernel
theorem DM_X1_give_7 : decode (mC M_X1_give) 7 = .ok (.iconst 0, 1) := by decide +kernel
theorem DM_X1_give_8 : decode (mC M_X1_give) 8 = .ok (.ireturn, 1) := by decide +kernel
theorem DM_X1_give_9 : decode (mC M_X1_give) 9 = .ok (.aload_n 0, 1) := by decide +kernel
theorem DM_X1_give_10 : decode (mC M_X1_give) 10 = .ok (.iload_n 3, 1) := by decide +kernel
theorem DM_X1_give_11 : decode (mC M_X1_give) 11 = .ok (.invokevirtual 34, 3) := by decide +kernel
theorem DM_X1_give_14 : decode (mC M_X1_give) 14 = .ok (.iload 4, 2) := by decide +kernel
theorem DM_X1_give_16 : decode (mC M_X1_give) 16 = .ok (.iconst 1, 1) := by decide +kernel
theorem DM_X1_give_17 : decode (mC M_X1_give) 17 = .ok (.iadd, 1) := by decide +kernel
theorem DM_X1_give_18 : decode (mC M_X1_give) 18 = .ok (.istore 5, 2) := by decide +kernel
theorem DM_X1_give_20 : decode (mC M_X1_give) 20 = .ok (.aload_n 1, 1) := by decide +kernel
theorem DM_X1_give_21 : decode (mC M_X1_give) 21 = .ok (.getfield 19, 3) := by decide +kernel
theorem DM_X1_give_24 : decode (mC M_X1_give) 24 = .ok (.iload_n 2, 1) := by decide +kernel
theorem DM_X1_give_25 : decode (mC M_X1_give) 25 = .ok (.iaload, 1) := by decide +kernel
theorem DM_X1_give_26 : decode (mC M_X1_give) 26 = .ok (.istore 6, 2) := by decide +kernel
theorem DM_X1_give_28 : decode (mC M_X1_give) 28 = .ok (.iload_n 3, 1) := by decide +kernel
theorem DM_X1_give_29 : decode (mC M_X1_give) 29 = .ok (.tableswitch 222 10 24 #[75, 82, 108, 121, 135, 222, 222, 222, 222, 222, 148, 150, 168, 183, 209], 75) := by decide +kernel
theorem DM_X1_give_104 : decode (mC M_X1_give) 104 = .ok (.aload_n 1, 1) := by decide +kernel
theorem DM_X1_give_105 : decode (mC M_X1_give) 105 = .ok (.getfield 38, 3) := by decide +kernel
theorem DM_X1_give_108 : decode (mC M_X1_give) 108 = .ok (.iload_n 2, 1) := by decide +kernel
theorem DM_X1_give_109 : decode (mC M_X1_give) 109 = .ok (.iaload, 1) := by decide +kernel
theorem DM_X1_give_110 : decode (mC M_X1_give) 110 = .ok (.ireturn, 1) := by decide +kernel
theorem DM_X1_give_111 : decode (mC M_X1_give) 111 = .ok (.aload_n 0, 1) := by decide +kernel
theorem DM_X1_give_112 : decode (mC M_X1_give) 112 = .ok (.aload_n 1, 1) := by decide +kernel
theorem DM_X1_give_113 : decode (mC M_X1_give) 113 = .ok (.iload_n 2, 1) := by decide +kernel
theorem DM_X1_give_114 : decode (mC M_X1_give) 114 = .ok (.bipush 10, 2) := by decide +kernel
theorem DM_X1_give_116 : decode (mC M_X1_give) 116 = .ok (.iload 5, 2) := by decide +kernel
theorem DM_X1_give_118 : decode (mC M_X1_give) 118 = .ok (.invokestatic 30, 3) := by decide +kernel
theorem DM_X1_give_121 : decode (mC M_X1_give) 121 = .ok (.aload_n 0, 1) := by decide +kernel
theorem DM_X1_give_122 : decode (mC M_X1_give) 122 = .ok (.aload_n 1, 1) := by decide +kernel
theorem DM_X1_give_123 : decode (mC M_X1_give) 123 = .ok (.iload_n 2, 1) := by decide +kernel
theorem DM_X1_give_124 : decode (mC M_X1_give) 124 = .ok (.getstatic 27, 3) := by decide +kernel
theorem DM_X1_give_127 : decode (mC M_X1_give) 127 = .ok (.iload 6, 2) := by decide +kernel
theorem DM_X1_give_129 : decode (mC M_X1_give) 129 = .ok (.iaload, 1) := by decide +kernel
theorem DM_X1_give_130 : decode (mC M_X1_give) 130 = .ok (.iload 5, 2) := by decide +kernel
theorem DM_X1_give_132 : decode (mC M_X1_give) 132 = .ok (.invokestatic 30, 3) := by decide +kernel
theorem DM_X1_give_135 : decode (mC M_X1_give) 135 = .ok (.iadd, 1) := by decide +kernel
theorem DM_X1_give_136 : decode (mC M_X1_give) 136 = .ok (.ireturn, 1) := by decide +kernel
theorem DM_X1_give_137 : decode (mC M_X1_give) 137 = .ok (.iconst 0, 1) := by decide +kernel
theorem DM_X1_give_138 : decode (mC M_X1_give) 138 = .ok (.aload_n 0, 1) := by decide +kernel
theorem DM_X1_give_139 : decode (mC M_X1_give) 139 = .ok (.aload_n 1, 1) := by decide +kernel
theorem DM_X1_give_140 : decode (mC M_X1_give) 140 = .ok (.iload_n 2, 1) := by decide +kernel
theorem DM_X1_give_141 : decode (mC M_X1_give) 141 = .ok (.bipush 11, 2) := by decide +kernel
theorem DM_X1_give_143 : decode (mC M_X1_give) 143 = .ok (.iload 5, 2) := by decide +kernel
theorem DM_X1_give_145 : decode (mC M_X1_give) 145 = .ok (.invokestatic 30, 3) := by decide +kernel
theorem DM_X1_give_148 : decode (mC M_X1_give) 148 = .ok (.isub, 1) := by decide +kernel
theorem DM_X1_give_149 : decode (mC M_X1_give) 149 = .ok (.ireturn, 1) := by decide +kernel
theorem DM_X1_give_150 : decode (mC M_X1_give) 150 = .ok (.aload_n 0, 1) := by decide +kernel
theorem DM_X1_give_151 : decode (mC M_X1_give) 151 = .ok (.aload_n 1, 1) := by decide +kernel
theorem DM_X1_give_152 : decode (mC M_X1_give) 152 = .ok (.iload_n 2, 1) := by decide +kernel
theorem DM_X1_give_153 : decode (mC M_X1_give) 153 = .ok (.bipush 10, 2) := by decide +kernel
theorem DM_X1_give_155 : decode (mC M_X1_give) 155 = .ok (.iload 5, 2) := by decide +kernel
theorem DM_X1_give_157 : decode (mC M_X1_give) 157 = .ok (.invokestatic 30, 3) := by decide +kernel
theorem DM_X1_give_160 : decode (mC M_X1_give) 160 = .ok (.bipush 100, 2) := by decide +kernel
theorem DM_X1_give_162 : decode (mC M_X1_give) 162 = .ok (.isub, 1) := by decide +kernel
theorem DM_X1_give_163 : decode (mC M_X1_give) 163 = .ok (.ireturn, 1) := by decide +kernel
theorem DM_X1_give_164 : decode (mC M_X1_give) 164 = .ok (.aload_n 0, 1) := by decide +kernel
theorem DM_X1_give_165 : decode (mC M_X1_give) 165 = .ok (.aload_n 1, 1) := by decide +kernel
theorem DM_X1_give_166 : decode (mC M_X1_give) 166 = .ok (.iload_n 2, 1) := by decide +kernel
theorem DM_X1_give_167 : decode (mC M_X1_give) 167 = .ok (.bipush 13, 2) := by decide +kernel
theorem DM_X1_give_169 : decode (mC M_X1_give) 169 = .ok (.iload 5, 2) := by decide +kernel
theorem DM_X1_give_171 : decode (mC M_X1_give) 171 = .ok (.invokestatic 30, 3) := by decide +kernel
theorem DM_X1_give_174 : decode (mC M_X1_give) 174 = .ok (.iconst 2, 1) := by decide +kernel
theorem DM_X1_give_175 : decode (mC M_X1_give) 175 = .ok (.imul, 1) := by decide +kernel
theorem DM_X1_give_176 : decode (mC M_X1_give) 176 = .ok (.ireturn, 1) := by decide +kernel
theorem DM_X1_give_177 : decode (mC M_X1_give) 177 = .ok (.iload_n 2, 1) := by decide +kernel
theorem DM_X1_give_178 : decode (mC M_X1_give) 178 = .ok (.ireturn, 1) := by decide +kernel
theorem DM_X1_give_179 : decode (mC M_X1_give) 179 = .ok (.aload_n 0, 1) := by decide +kernel
theorem DM_X1_give_180 : decode (mC M_X1_give) 180 = .ok (.aload_n 1, 1) := by decide +kernel
theorem DM_X1_give_181 : decode (mC M_X1_give) 181 = .ok (.iload_n 2, 1) := by decide +kernel
theorem DM_X1_give_182 : decode (mC M_X1_give) 182 = .ok (.bipush 20, 2) := by decide +kernel
theorem DM_X1_give_184 : decode (mC M_X1_give) 184 = .ok (.iload 5, 2) := by decide +kernel
theorem DM_X1_give_186 : decode (mC M_X1_give) 186 = .ok (.invokestatic 30, 3) := by decide +kernel
theorem DM_X1_give_189 : decode (mC M_X1_give) 189 = .ok (.aload_n 1, 1) := by decide +kernel
theorem DM_X1_give_190 : decode (mC M_X1_give) 190 = .ok (.getfield 41, 3) := by decide +kernel
theorem DM_X1_give_193 : decode (mC M_X1_give) 193 = .ok (.iload_n 2, 1) := by decide +kernel
theorem DM_X1_give_194 : decode (mC M_X1_give) 194 = .ok (.iaload, 1) := by decide +kernel
theorem DM_X1_give_195 : decode (mC M_X1_give) 195 = .ok (.iadd, 1) := by decide +kernel
theorem DM_X1_give_196 : decode (mC M_X1_give) 196 = .ok (.ireturn, 1) := by decide +kernel
theorem DM_X1_give_197 : decode (mC M_X1_give) 197 = .ok (.aload_n 0, 1) := by decide +kernel
theorem DM_X1_give_198 : decode (mC M_X1_give) 198 = .ok (.aload_n 1, 1) := by decide +kernel
theorem DM_X1_give_199 : decode (mC M_X1_give) 199 = .ok (.iload_n 2, 1) := by decide +kernel
theorem DM_X1_give_200 : decode (mC M_X1_give) 200 = .ok (.bipush 21, 2) := by decide +kernel
theorem DM_X1_give_202 : decode (mC M_X1_give) 202 = .ok (.iload 5, 2) := by decide +kernel
theorem DM_X1_give_204 : decode (mC M_X1_give) 204 = .ok (.invokestatic 30, 3) := by decide +kernel
theorem DM_X1_give_207 : decode (mC M_X1_give) 207 = .ok (.sipush 1000, 3) := by decide +kernel
theorem DM_X1_give_210 : decode (mC M_X1_give) 210 = .ok (.isub, 1) := by decide +kernel
theorem DM_X1_give_211 : decode (mC M_X1_give) 211 = .ok (.ireturn, 1) := by decide +kernel
theorem DM_X1_give_212 : decode (mC M_X1_give) 212 = .ok (.aload_n 0, 1) := by decide +kernel
theorem DM_X1_give_213 : decode (mC M_X1_give) 213 = .ok (.aload_n 1, 1) := by decide +kernel
theorem DM_X1_give_214 : decode (mC M_X1_give) 214 = .ok (.iload_n 2, 1) := by decide +kernel
theorem DM_X1_give_215 : decode (mC M_X1_give) 215 = .ok (.bipush 20, 2) := by decide +kernel
theorem DM_X1_give_217 : decode (mC M_X1_give) 217 = .ok (.iload 5, 2) := by decide +kernel
theorem DM_X1_give_219 : decode (mC M_X1_give) 219 = .ok (.invokestatic 30, 3) := by decide +kernel
theorem DM_X1_give_222 : decode (mC M_X1_give) 222 = .ok (.aload_n 0, 1) := by decide +kernel
theorem DM_X1_give_223 : decode (mC M_X1_give) 223 = .ok (.aload_n 1, 1) := by decide +kernel
theorem DM_X1_give_224 : decode (mC M_X1_give) 224 = .ok (.iload_n 2, 1) := by decide +kernel
theorem DM_X1_give_225 : decode (mC M_X1_give) 225 = .ok (.getstatic 24, 3) := by decide +kernel
theorem DM_X1_give_228 : decode (mC M_X1_give) 228 = .ok (.iload 6, 2) := by decide +kernel
theorem DM_X1_give_230 : decode (mC M_X1_give) 230 = .ok (.iaload, 1) := by decide +kernel
theorem DM_X1_give_231 : decode (mC M_X1_give) 231 = .ok (.iload 5, 2) := by decide +kernel
theorem DM_X1_give_233 : decode (mC M_X1_give) 233 = .ok (.invokestatic 30, 3) := by decide +kernel
theorem DM_X1_give_236 : decode (mC M_X1_give) 236 = .ok (.isub, 1) := by decide +kernel
theorem DM_X1_give_237 : decode (mC M_X1_give) 237 = .ok (.ireturn, 1) := by decide +kernel
theorem DM_X1_give_238 : decode (mC M_X1_give) 238 = .ok (.aload_n 0, 1) := by decide +kernel
theorem DM_X1_give_239 : decode (mC M_X1_give) 239 = .ok (.aload_n 1, 1) := by decide +kernel
theorem DM_X1_give_240 : decode (mC M_X1_give) 240 = .ok (.iload_n 2, 1) := by decide +kernel
theorem DM_X1_give_241 : decode (mC M_X1_give) 241 = .ok (.bipush 21, 2) := by decide +kernel
theorem DM_X1_give_243 : decode (mC M_X1_give) 243 = .ok (.iload 5, 2) := by decide +kernel
theorem DM_X1_give_245 : decode (mC M_X1_give) 245 = .ok (.invokestatic 30, 3) := by decide +kernel
theorem DM_X1_give_248 : decode (mC M_X1_give) 248 = .ok (.iconst 2, 1) := by decide +kernel
theorem DM_X1_give_249 : decode (mC M_X1_give) 249 = .ok (.imul, 1) := by decide +kernel
theorem DM_X1_give_250 : decode (mC M_X1_give) 250 = .ok (.ireturn, 1) := by decide +kernel
theorem DM_X1_give_251 : decode (mC M_X1_give) 251 = .ok (.iconst 0, 1) := by decide +kernel
theorem DM_X1_give_252 : decode (mC M_X1_give) 252 = .ok (.ireturn, 1) := by decide +kernel
theorem DM_X2_init_0 : decode (mC M_X2_init) 0 = .ok (.aload_n 0, 1) := by decide +kernel
theorem DM_X2_init_1 : decode (mC M_X2_init) 1 = .ok (.invokespecial 3, 3) := by decide +kernel
theorem DM_X2_init_4 : decode (mC M_X2_init) 4 = .ok (.aload_n 0, 1) := by decide +kernel
theorem DM_X2_init_5 : decode (mC M_X2_init) 5 = .ok (.bipush 8, 2) := by decide +kernel
theorem DM_X2_init_7 : decode (mC M_X2_init) 7 = .ok (.newarray .int, 2) := by decide +kernel
theorem DM_X2_init_9 : decode (mC M_X2_init) 9 = .ok (.putfield 9, 3) := by decide +kernel
theorem DM_X2_init_12 : decode (mC M_X2_init) 12 = .ok (.aload_n 0, 1) := by decide +kernel
theorem DM_X2_init_13 : decode (mC M_X2_init) 13 = .ok (.bipush 8, 2) := by decide +kernel
theorem DM_X2_init_15 : decode (mC M_X2_init) 15 = .ok (.newarray .int, 2) := by decide +kernel
theorem DM_X2_init_17 : decode (mC M_X2_init) 17 = .ok (.putfield 15, 3) := by decide +kernel
theorem DM_X2_init_20 : decode (mC M_X2_init) 20 = .ok (.aload_n 0, 1) := by decide +kernel
theorem DM_X2_init_21 : decode (mC M_X2_init) 21 = .ok (.bipush 6, 2) := by decide +kernel
theorem DM_X2_init_23 : decode (mC M_X2_init) 23 = .ok (.newarray .int, 2) := by decide +kernel
theorem DM_X2_init_25 : decode (mC M_X2_init) 25 = .ok (.putfield 18, 3) := by decide +kernel
theorem DM_X2_init_28 : decode (mC M_X2_init) 28 = .ok (.aload_n 0, 1) := by decide +kernel
theorem DM_X2_init_29 : decode (mC M_X2_init) 29 = .ok (.bipush 6, 2) := by decide +kernel
theorem DM_X2_init_31 : decode (mC M_X2_init) 31 = .ok (.newarray .int, 2) := by decide +kernel
theorem DM_X2_init_33 : decode (mC M_X2_init) 33 = .ok (.putfield 21, 3) := by decide +kernel
theorem DM_X2_init_36 : decode (mC M_X2_init) 36 = .ok (.aload_n 0, 1) := by decide +kernel
theorem DM_X2_init_37 : decode (mC M_X2_init) 37 = .ok (.bipush 24, 2) := by decide +kernel
theorem DM_X2_init_39 : decode (mC M_X2_init) 39 = .ok (.newarray .int, 2) := by decide +kernel
theorem DM_X2_init_41 : decode (mC M_X2_init) 41 = .ok (.putfield 24, 3) := by decide +kernel
theorem DM_X2_init_44 : decode (mC M_X2_init) 44 = .ok (.aload_n 0, 1) := by decide +kernel
theorem DM_X2_init_45 : decode (mC M_X2_init) 45 = .ok (.bipush 6, 2) := by decide +kernel
theorem DM_X2_init_47 : decode (mC M_X2_init) 47 = .ok (.newarray .int, 2) := by decide +kernel
theorem DM_X2_init_49 : decode (mC M_X2_init) 49 = .ok (.putfield 27, 3) := by decide +kernel
theorem DM_X2_init_52 : decode (mC M_X2_init) 52 = .ok (.aload_n 0, 1) := by decide +kernel
theorem DM_X2_init_53 : decode (mC M_X2_init) 53 = .ok (.bipush 6, 2) := by decide +kernel
theorem DM_X2_init_55 : decode (mC M_X2_init) 55 = .ok (.newarray .int, 2) := by decide +kernel
theorem DM_X2_init_57 : decode (mC M_X2_init) 57 = .ok (.putfield 30, 3) := by decide +kernel
theorem DM_X2_init_60 : decode (mC M_X2_init) 60 = .ok (.aload_n 0, 1) := by decide +kernel
theorem DM_X2_init_61 : decode (mC M_X2_init) 61 = .ok (.bipush 6, 2) := by decide +kernel
theorem DM_X2_init_63 : decode (mC M_X2_init) 63 = .ok (.newarray .int, 2) := by decide +kernel
theorem DM_X2_init_65 : decode (mC M_X2_init) 65 = .ok (.putfield 33, 3) := by decide +kernel
theorem DM_X2_init_68 : decode (mC M_X2_init) 68 = .ok (.aload_n 0, 1) := by decide +kernel
theorem DM_X2_init_69 : decode (mC M_X2_init) 69 = .ok (.bipush 6, 2) := by decide +kernel
theorem DM_X2_init_71 : decode (mC M_X2_init) 71 = .ok (.newarray .int, 2) := by decide +kernel
theorem DM_X2_init_73 : decode (mC M_X2_init) 73 = .ok (.putfield 36, 3) := by decide +kernel
theorem DM_X2_init_76 : decode (mC M_X2_init) 76 = .ok (.return_, 1) := by decide +kernel
theorem DM_X2_takeFrom_0 : decode (mC M_X2_takeFrom) 0 = .ok (.aload_n 0, 1) := by decide +kernel
theorem DM_X2_takeFrom_1 : decode (mC M_X2_takeFrom) 1 = .ok (.aload_n 1, 1) := by decide +kernel
theorem DM_X2_takeFrom_2 : decode (mC M_X2_takeFrom) 2 = .ok (.getfield 39, 3) := by decide +kernel
theorem DM_X2_takeFrom_5 : decode (mC M_X2_takeFrom) 5 = .ok (.putfield 39, 3) := by decide +kernel
theorem DM_X2_takeFrom_8 : decode (mC M_X2_takeFrom) 8 = .ok (.aload_n 0, 1) := by decide +kernel
theorem DM_X2_takeFrom_9 : decode (mC M_X2_takeFrom) 9 = .ok (.aload_n 1, 1) := by decide +kernel
theorem DM_X2_takeFrom_10 : decode (mC M_X2_takeFrom) 10 = .ok (.getfield 43, 3) := by decide +kernel
theorem DM_X2_takeFrom_13 : decode (mC M_X2_takeFrom) 13 = .ok (.putfield 43, 3) := by decide +kernel
theorem DM_X2_takeFrom_16 : decode (mC M_X2_takeFrom) 16 = .ok (.aload_n 0, 1) := by decide +kernel
theorem DM_X2_takeFrom_17 : decode (mC M_X2_takeFrom) 17 = .ok (.aload_n 1, 1) := by decide +kernel
theorem DM_X2_takeFrom_18 : decode (mC M_X2_takeFrom) 18 = .ok (.getfield 47, 3) := by decide +kernel
theorem DM_X2_takeFrom_21 : decode (mC M_X2_takeFrom) 21 = .ok (.putfield 47, 3) := by decide +kernel
theorem DM_X2_takeFrom_24 : decode (mC M_X2_takeFrom) 24 = .ok (.aload_n 0, 1) := by decide +kernel
theorem DM_X2_takeFrom_25 : decode (mC M_X2_takeFrom) 25 = .ok (.aload_n 1, 1) := by decide +kernel
theorem DM_X2_takeFrom_26 : decode (mC M_X2_takeFrom) 26 = .ok (.getfield 50, 3) := by decide +kernel
theorem DM_X2_takeFrom_29 : decode (mC M_X2_takeFrom) 29 = .ok (.putfield 50, 3) := by decide +kernel
theorem DM_X2_takeFrom_32 : decode (mC M_X2_takeFrom) 32 = .ok (.aload_n 0, 1) := by decide +kernel
theorem DM_X2_takeFrom_33 : decode (mC M_X2_takeFrom) 33 = .ok (.aload_n 1, 1) := by decide +kernel
theorem DM_X2_takeFrom_34 : decode (mC M_X2_takeFrom) 34 = .ok (.getfield 53, 3) := by decide +kernel
theorem DM_X2_takeFrom_37 : decode (mC M_X2_takeFrom) 37 = .ok (.putfield 53, 3) := by decide +kernel
theorem DM_X2_takeFrom_40 : decode (mC M_X2_takeFrom) 40 = .ok (.aload_n 0, 1) := by decide +kernel
theorem DM_X2_takeFrom_41 : decode (mC M_X2_takeFrom) 41 = .ok (.aload_n 1, 1) := by decide +kernel
theorem DM_X2_takeFrom_42 : decode (mC M_X2_takeFrom) 42 = .ok (.getfield 56, 3) := by decide +kernel
theorem DM_X2_takeFrom_45 : decode (mC M_X2_takeFrom) 45 = .ok (.putfield 56, 3) := by decide +kernel
theorem DM_X2_takeFrom_48 : decode (mC M_X2_takeFrom) 48 = .ok (.aload_n 1, 1) := by decide +kernel
theorem DM_X2_takeFrom_49 : decode (mC M_X2_takeFrom) 49 = .ok (.getfield 9, 3) := by decide +kernel
theorem DM_X2_takeFrom_52 : decode (mC M_X2_takeFrom) 52 = .ok (.iconst 0, 1) := by decide +kernel
theorem DM_X2_takeFrom_53 : decode (mC M_X2_takeFrom) 53 = .ok (.aload_n 0, 1) := by decide +kernel
theorem DM_X2_takeFrom_54 : decode (mC M_X2_takeFrom) 54 = .ok (.getfield 9, 3) := by decide +kernel
theorem DM_X2_takeFrom_57 : decode (mC M_X2_takeFrom) 57 = .ok (.iconst 0, 1) := by decide +kernel
theorem DM_X2_takeFrom_58 : decode (mC M_X2_takeFrom) 58 = .ok (.bipush 8, 2) := by decide +kernel
theorem DM_X2_takeFrom_60 : decode (mC M_X2_takeFrom) 60 = .ok (.invokestatic 59, 3) := by decide +kernel
theorem DM_X2_takeFrom_63 : decode (mC M_X2_takeFrom) 63 = .ok (.aload_n 1, 1) := by decide +kernel
theorem DM_X2_takeFrom_64 : decode (mC M_X2_takeFrom) 64 = .ok (.getfield 15, 3) := by decide +kernel
theorem DM_X2_takeFrom_67 : decode (mC M_X2_takeFrom) 67 = .ok (.iconst 0, 1) := by decide +kernel
theorem DM_X2_takeFrom_68 : decode (mC M_X2_takeFrom) 68 = .ok (.aload_n 0, 1) := by decide +kernel
theorem DM_X2_takeFrom_69 : decode (mC M_X2_takeFrom) 69 = .ok (.getfield 15, 3) := by decide +kernel
theorem DM_X2_takeFrom_72 : decode (mC M_X2_takeFrom) 72 = .ok (.iconst 0, 1) := by decide +kernel
theorem DM_X2_takeFrom_73 : decode (mC M_X2_takeFrom) 73 = .ok (.bipush 8, 2) := by decide +kernel
theorem DM_X2_takeFrom_75 : decode (mC M_X2_takeFrom) 75 = .ok (.invokestatic 59, 3) := by decide +kernel
theorem DM_X2_takeFrom_78 : decode (mC M_X2_takeFrom) 78 = .ok (.aload_n 1, 1) := by decide +kernel
theorem DM_X2_takeFrom_79 : decode (mC M_X2_takeFrom) 79 = .ok (.getfield 18, 3) := by decide +kernel
theorem DM_X2_takeFrom_82 : decode (mC M_X2_takeFrom) 82 = .ok (.iconst 0, 1) := by decide +kernel
theorem DM_X2_takeFrom_83 : decode (mC M_X2_takeFrom) 83 = .ok (.aload_n 0, 1) := by decide +kernel
theorem DM_X2_takeFrom_84 : decode (mC M_X2_takeFrom) 84 = .ok (.getfield 18, 3) := by decide +kernel
theorem DM_X2_takeFrom_87 : decode (mC M_X2_takeFrom) 87 = .ok (.iconst 0, 1) := by decide +kernel
theorem DM_X2_takeFrom_88 : decode (mC M_X2_takeFrom) 88 = .ok (.bipush 6, 2) := by decide +kernel
theorem DM_X2_takeFrom_90 : decode (mC M_X2_takeFrom) 90 = .ok (.invokestatic 59, 3) := by decide +kernel
theorem DM_X2_takeFrom_93 : decode (mC M_X2_takeFrom) 93 = .ok (.aload_n 1, 1) := by decide +kernel
theorem DM_X2_takeFrom_94 : decode (mC M_X2_takeFrom) 94 = .ok (.getfield 21, 3) := by decide +kernel
theorem DM_X2_takeFrom_97 : decode (mC M_X2_takeFrom) 97 = .ok (.iconst 0, 1) := by decide +kernel
theorem DM_X2_takeFrom_98 : decode (mC M_X2_takeFrom) 98 = .ok (.aload_n 0, 1) := by decide +kernel
theorem DM_X2_takeFrom_99 : decode (mC M_X2_takeFrom) 99 = .ok (.getfield 21, 3) := by decide +kernel
theorem DM_X2_takeFrom_102 : decode (mC M_X2_takeFrom) 102 = .ok (.iconst 0, 1) := by decide +kernel
theorem DM_X2_takeFrom_103 : decode (mC M_X2_takeFrom) 103 = .ok (.bipush 6, 2) := by decide +kernel
theorem DM_X2_takeFrom_105 : decode (mC M_X2_takeFrom) 105 = .ok (.invokestatic 59, 3) := by decide +kernel
theorem DM_X2_takeFrom_108 : decode (mC M_X2_takeFrom) 108 = .ok (.aload_n 1, 1) := by decide +kernel
theorem DM_X2_takeFrom_109 : decode (mC M_X2_takeFrom) 109 = .ok (.getfield 24, 3) := by decide +kernel
theorem DM_X2_takeFrom_112 : decode (mC M_X2_takeFrom) 112 = .ok (.iconst 0, 1) := by decide +kernel
theorem DM_X2_takeFrom_113 : decode (mC M_X2_takeFrom) 113 = .ok (.aload_n 0, 1) := by decide +kernel
theorem DM_X2_takeFrom_114 : decode (mC M_X2_takeFrom) 114 = .ok (.getfield 24, 3) := by decide +kernel
theorem DM_X2_takeFrom_117 : decode (mC M_X2_takeFrom) 117 = .ok (.iconst 0, 1) := by decide +kernel
theorem DM_X2_takeFrom_118 : decode (mC M_X2_takeFrom) 118 = .ok (.bipush 24, 2) := by decide +kernel
theorem DM_X2_takeFrom_120 : decode (mC M_X2_takeFrom) 120 = .ok (.invokestatic 59, 3) := by decide +kernel
theorem DM_X2_takeFrom_123 : decode (mC M_X2_takeFrom) 123 = .ok (.aload_n 1, 1) := by decide +kernel
theorem DM_X2_takeFrom_124 : decode (mC M_X2_takeFrom) 124 = .ok (.getfield 27, 3) := by decide +kernel
theorem DM_X2_takeFrom_127 : decode (mC M_X2_takeFrom) 127 = .ok (.iconst 0, 1) := by decide +kernel
theorem DM_X2_takeFrom_128 : decode (mC M_X2_takeFrom) 128 = .ok (.aload_n 0, 1) := by decide +kernel
theorem DM_X2_takeFrom_129 : decode (mC M_X2_takeFrom) 129 = .ok (.getfield 27, 3) := by decide +kernel
theorem DM_X2_takeFrom_132 : decode (mC M_X2_takeFrom) 132 = .ok (.iconst 0, 1) := by decide +kernel
theorem DM_X2_takeFrom_133 : decode (mC M_X2_takeFrom) 133 = .ok (.bipush 6, 2) := by decide +kernel
theorem DM_X2_takeFrom_135 : decode (mC M_X2_takeFrom) 135 = .ok (.invokestatic 59, 3) := by decide +kernel
theorem DM_X2_takeFrom_138 : decode (mC M_X2_takeFrom) 138 = .ok (.aload_n 1, 1) := by decide +kernel
theorem DM_X2_takeFrom_139 : decode (mC M_X2_takeFrom) 139 = .ok (.getfield 30, 3) := by decide +kernel
theorem DM_X2_takeFrom_142 : decode (mC M_X2_takeFrom) 142 = .ok (.iconst 0, 1) := by decide +kernel
theorem DM_X2_takeFrom_143 : decode (mC M_X2_takeFrom) 143 = .ok (.aload_n 0, 1) := by decide +kernel
theorem DM_X2_takeFrom_144 : decode (mC M_X2_takeFrom) 144 = .ok (.getfield 30, 3) := by decide +kernel
theorem DM_X2_takeFrom_147 : decode (mC M_X2_takeFrom) 147 = .ok (.iconst 0, 1) := by decide +kernel
theorem DM_X2_takeFrom_148 : decode (mC M_X2_takeFrom) 148 = .ok (.bipush 6, 2) := by decide +kernel
theorem DM_X2_takeFrom_150 : decode (mC M_X2_takeFrom) 150 = .ok (.invokestatic 59, 3) := by decide +kernel
theorem DM_X2_takeFrom_153 : decode (mC M_X2_takeFrom) 153 = .ok (.aload_n 1, 1) := by decide +kernel
theorem DM_X2_takeFrom_154 : decode (mC M_X2_takeFrom) 154 = .ok (.getfield 33, 3) := by decide +kernel
theorem DM_X2_takeFrom_157 : decode (mC M_X2_takeFrom) 157 = .ok (.iconst 0, 1) := by decide +kernel
theorem DM_X2_takeFrom_158 : decode (mC M_X2_takeFrom) 158 = .ok (.aload_n 0, 1) := by decide +kernel
theorem DM_X2_takeFrom_159 : decode (mC M_X2_takeFrom) 159 = .ok (.getfield 33, 3) := by decide +kernel
theorem DM_X2_takeFrom_162 : decode (mC M_X2_takeFrom) 162 = .ok (.iconst 0, 1) := by decide +kernel
theorem DM_X2_takeFrom_163 : decode (mC M_X2_takeFrom) 163 = .ok (.bipush 6, 2) := by decide +kernel
theorem DM_X2_takeFrom_165 : decode (mC M_X2_takeFrom) 165 = .ok (.invokestatic 59, 3) := by decide +kernel
theorem DM_X2_takeFrom_168 : decode (mC M_X2_takeFrom) 168 = .ok (.return_, 1) := by decide +kernel
theorem DM_X2_begin_0 : decode (mC M_X2_begin) 0 = .ok (.aload_n 0, 1) := by decide +kernel
theorem DM_X2_begin_1 : decode (mC M_X2_begin) 1 = .ok (.iconst 1, 1) := by decide +kernel
theorem DM_X2_begin_2 : decode (mC M_X2_begin) 2 = .ok (.putfield 39, 3) := by decide +kernel
theorem DM_X2_begin_5 : decode (mC M_X2_begin) 5 = .ok (.aload_n 0, 1) := by decide +kernel
theorem DM_X2_begin_6 : decode (mC M_X2_begin) 6 = .ok (.iconst 0, 1) := by decide +kernel
theorem DM_X2_begin_7 : decode (mC M_X2_begin) 7 = .ok (.putfield 43, 3) := by decide +kernel
theorem DM_X2_begin_10 : decode (mC M_X2_begin) 10 = .ok (.aload_n 0, 1) := by decide +kernel
theorem DM_X2_begin_11 : decode (mC M_X2_begin) 11 = .ok (.iconst 0, 1) := by decide +kernel
theorem DM_X2_begin_12 : decode (mC M_X2_begin) 12 = .ok (.putfield 53, 3) := by decide +kernel
theorem DM_X2_begin_15 : decode (mC M_X2_begin) 15 = .ok (.aload_n 0, 1) := by decide +kernel
theorem DM_X2_begin_16 : decode (mC M_X2_begin) 16 = .ok (.iconst 0, 1) := by decide +kernel
theorem DM_X2_begin_17 : decode (mC M_X2_begin) 17 = .ok (.putfield 56, 3) := by decide +kernel
theorem DM_X2_begin_20 : decode (mC M_X2_begin) 20 = .ok (.iconst 0, 1) := by decide +kernel
theorem DM_X2_begin_21 : decode (mC M_X2_begin) 21 = .ok (.istore_n 1, 1) := by decide +kernel
theorem DM_X2_begin_22 : decode (mC M_X2_begin) 22 = .ok (.iload_n 1, 1) := by decide +kernel
theorem DM_X2_begin_23 : decode (mC M_X2_begin) 23 = .ok (.bipush 6, 2) := by decide +kernel
theorem DM_X2_begin_25 : decode (mC M_X2_begin) 25 = .ok (.if_icmp .ge 17, 3) := by decide +kernel
theorem DM_X2_begin_28 : decode (mC M_X2_begin) 28 = .ok (.aload_n 0, 1) := by decide +kernel
theorem DM_X2_begin_29 : decode (mC M_X2_begin) 29 = .ok (.getfield 33, 3) := by decide +kernel
theorem DM_X2_begin_32 : decode (mC M_X2_begin) 32 = .ok (.iload_n 1, 1) := by decide +kernel
theorem DM_X2_begin_33 : decode (mC M_X2_begin) 33 = .ok (.ldc 65, 2) := by decide +kernel
theorem DM_X2_begin_35 : decode (mC M_X2_begin) 35 = .ok (.iastore, 1) := by decide +kernel
theorem DM_X2_begin_36 : decode (mC M_X2_begin) 36 = .ok (.iinc 1 1, 3) := by decide +kernel
theorem DM_X2_begin_39 : decode (mC M_X2_begin) 39 = .ok (.goto (-17), 3) := by decide +kernel
theorem DM_X2_begin_42 : decode (mC M_X2_begin) 42 = .ok (.return_, 1) := by decide +kernel
theorem DM_X2_tellOrder_0 : decode (mC M_X2_tellOrder) 0 = .ok (.aload_n 0, 1) := by decide +kernel
theorem DM_X2_tellOrder_1 : decode (mC M_X2_tellOrder) 1 = .ok (.getfield 9, 3) := by decide +kernel
theorem DM_X2_tellOrder_4 : decode (mC M_X2_tellOrder) 4 = .ok (.iload_n 1, 1) := by decide +kernel
theorem DM_X2_tellOrder_5 : decode (mC M_X2_tellOrder) 5 = .ok (.iload_n 2, 1) := by decide +kernel
theorem DM_X2_tellOrder_6 : decode (mC M_X2_tellOrder) 6 = .ok (.iastore, 1) := by decide +kernel
theorem DM_X2_tellOrder_7 : decode (mC M_X2_tellOrder) 7 = .ok (.aload_n 0, 1) := by decide +kernel
theorem DM_X2_tellOrder_8 : decode (mC M_X2_tellOrder) 8 = .ok (.getfield 15, 3) := by decide +kernel
theorem DM_X2_tellOrder_11 : decode (mC M_X2_tellOrder) 11 = .ok (.iload_n 2, 1) := by decide +kernel
theorem DM_X2_tellOrder_12 : decode (mC M_X2_tellOrder) 12 = .ok (.iload_n 1, 1) := by decide +kernel
theorem DM_X2_tellOrder_13 : decode (mC M_X2_tellOrder) 13 = .ok (.iastore, 1) := by decide +kernel
theorem DM_X2_tellOrder_14 : decode (mC M_X2_tellOrder) 14 = .ok (.return_, 1) := by decide +kernel
theorem DM_X2_letterOf_0 : decode (mC M_X2_letterOf) 0 = .ok (.aload_n 0, 1) := by decide +kernel
theorem DM_X2_letterOf_1 : decode (mC M_X2_letterOf) 1 = .ok (.getfield 24, 3) := by decide +kernel
theorem DM_X2_letterOf_4 : decode (mC M_X2_letterOf) 4 = .ok (.iload_n 1, 1) := by decide +kernel
theorem DM_X2_letterOf_5 : decode (mC M_X2_letterOf) 5 = .ok (.iconst 4, 1) := by decide +kernel
theorem DM_X2_letterOf_6 : decode (mC M_X2_letterOf) 6 = .ok (.imul, 1) := by decide +kernel
theorem DM_X2_letterOf_7 : decode (mC M_X2_letterOf) 7 = .ok (.iload_n 2, 1) := by decide +kernel
theorem DM_X2_letterOf_8 : decode (mC M_X2_letterOf) 8 = .ok (.iadd, 1) := by decide +kernel
theorem DM_X2_letterOf_9 : decode (mC M_X2_letterOf) 9 = .ok (.iaload, 1) := by decide +kernel
theorem DM_X2_letterOf_10 : decode (mC M_X2_letterOf) 10 = .ok (.ireturn, 1) := by decide +kernel
theorem DM_X2_putLetter_0 : decode (mC M_X2_putLetter) 0 = .ok (.aload_n 0, 1) := by decide +kernel
theorem DM_X2_putLetter_1 : decode (mC M_X2_putLetter) 1 = .ok (.getfield 24, 3) := by decide +kernel
theorem DM_X2_putLetter_4 : decode (mC M_X2_putLetter) 4 = .ok (.iload_n 1, 1) := by decide +kernel
theorem DM_X2_putLetter_5 : decode (mC M_X2_putLetter) 5 = .ok (.iconst 4, 1) := by decide +kernel
theorem DM_X2_putLetter_6 : decode (mC M_X2_putLetter) 6 = .ok (.imul, 1) := by decide +kernel
theorem DM_X2_putLetter_7 : decode (mC M_X2_putLetter) 7 = .ok (.iload_n 2, 1) := by decide +kernel
theorem DM_X2_putLetter_8 : decode (mC M_X2_putLetter) 8 = .ok (.iadd, 1) := by decide +kernel
theorem DM_X2_putLetter_9 : decode (mC M_X2_putLetter) 9 = .ok (.iload_n 3, 1) := by decide +kernel
theorem DM_X2_putLetter_10 : decode (mC M_X2_putLetter) 10 = .ok (.iastore, 1) := by decide +kernel
theorem DM_X2_putLetter_11 : decode (mC M_X2_putLetter) 11 = .ok (.return_, 1) := by decide +kernel
theorem DM_X2_lettersAsBits_0 : decode (mC M_X2_lettersAsBits) 0 = .ok (.iconst 0, 1) := by decide +kernel
theorem DM_X2_lettersAsBits_1 : decode (mC M_X2_lettersAsBits) 1 = .ok (.istore_n 2, 1) := by decide +kernel
theorem DM_X2_lettersAsBits_2 : decode (mC M_X2_lettersAsBits) 2 = .ok (.iconst 0, 1) := by decide +kernel
theorem DM_X2_lettersAsBits_3 : decode (mC M_X2_lettersAsBits) 3 = .ok (.istore_n 3, 1) := by decide +kernel
theorem DM_X2_lettersAsBits_4 : decode (mC M_X2_lettersAsBits) 4 = .ok (.iload_n 3, 1) := by decide +kernel
theorem DM_X2_lettersAsBits_5 : decode (mC M_X2_lettersAsBits) 5 = .ok (.aload_n 0, 1) := by decide +kernel
theorem DM_X2_lettersAsBits_6 : decode (mC M_X2_lettersAsBits) 6 = .ok (.getfield 21, 3) := by decide +kernel
theorem DM_X2_lettersAsBits_9 : decode (mC M_X2_lettersAsBits) 9 = .ok (.iload_n 1, 1) := by decide +kernel
theorem DM_X2_lettersAsBits_10 : decode (mC M_X2_lettersAsBits) 10 = .ok (.iaload, 1) := by decide +kernel
theorem DM_X2_lettersAsBits_11 : decode (mC M_X2_lettersAsBits) 11 = .ok (.if_icmp .ge 20, 3) := by decide +kernel
theorem DM_X2_lettersAsBits_14 : decode (mC M_X2_lettersAsBits) 14 = .ok (.iload_n 2, 1) := by decide +kernel
theorem DM_X2_lettersAsBits_15 : decode (mC M_X2_lettersAsBits) 15 = .ok (.iconst 1, 1) := by decide +kernel
theorem DM_X2_lettersAsBits_16 : decode (mC M_X2_lettersAsBits) 16 = .ok (.aload_n 0, 1) := by decide +kernel
theorem DM_X2_lettersAsBits_17 : decode (mC M_X2_lettersAsBits) 17 = .ok (.iload_n 1, 1) := by decide +kernel
theorem DM_X2_lettersAsBits_18 : decode (mC M_X2_lettersAsBits) 18 = .ok (.iload_n 3, 1) := by decide +kernel
theorem DM_X2_lettersAsBits_19 : decode (mC M_X2_lettersAsBits) 19 = .ok (.invokevirtual 66, 3) := by decide +kernel
theorem DM_X2_lettersAsBits_22 : decode (mC M_X2_lettersAsBits) 22 = .ok (.ishl, 1) := by decide +kernel
theorem DM_X2_lettersAsBits_23 : decode (mC M_X2_lettersAsBits) 23 = .ok (.ior, 1) := by decide +kernel
theorem DM_X2_lettersAsBits_24 : decode (mC M_X2_lettersAsBits) 24 = .ok (.istore_n 2, 1) := by decide +kernel
theorem DM_X2_lettersAsBits_25 : decode (mC M_X2_lettersAsBits) 25 = .ok (.iinc 3 1, 3) := by decide +kernel
theorem DM_X2_lettersAsBits_28 : decode (mC M_X2_lettersAsBits) 28 = .ok (.goto (-24), 3) := by decide +kernel
theorem DM_X2_lettersAsBits_31 : decode (mC M_X2_lettersAsBits) 31 = .ok (.iload_n 2, 1) := by decide +kernel
theorem DM_X2_lettersAsBits_32 : decode (mC M_X2_lettersAsBits) 32 = .ok (.ireturn, 1) := by decide +kernel
theorem DM_X2_turnOn_0 : decode (mC M_X2_turnOn) 0 = .ok (.aload_n 0, 1) := by decide +kernel
theorem DM_X2_turnOn_1 : decode (mC M_X2_turnOn) 1 = .ok (.getfield 50, 3) := by decide +kernel
theorem DM_X2_turnOn_4 : decode (mC M_X2_turnOn) 4 = .ok (.ifCond .ne 7, 3) := by decide +kernel
theorem DM_X2_turnOn_7 : decode (mC M_X2_turnOn) 7 = .ok (.iload_n 2, 1) := by decide +kernel
theorem DM_X2_turnOn_8 : decode (mC M_X2_turnOn) 8 = .ok (.goto 11, 3) := by decide +kernel
theorem DM_X2_turnOn_11 : decode (mC M_X2_turnOn) 11 = .ok (.iload_n 2, 1) := by decide +kernel
theorem DM_X2_turnOn_12 : decode (mC M_X2_turnOn) 12 = .ok (.iload_n 1, 1) := by decide +kernel
theorem DM_X2_turnOn_13 : decode (mC M_X2_turnOn) 13 = .ok (.aload_n 0, 1) := by decide +kernel
theorem DM_X2_turnOn_14 : decode (mC M_X2_turnOn) 14 = .ok (.getfield 50, 3) := by decide +kernel
theorem DM_X2_turnOn_17 : decode (mC M_X2_turnOn) 17 = .ok (.idiv, 1) := by decide +kernel
theorem DM_X2_turnOn_18 : decode (mC M_X2_turnOn) 18 = .ok (.iadd, 1) := by decide +kernel
theorem DM_X2_turnOn_19 : decode (mC M_X2_turnOn) 19 = .ok (.ireturn, 1) := by decide +kernel
theorem DM_X2_letterInOrder_0 : decode (mC M_X2_letterInOrder) 0 = .ok (.aload_n 0, 1) := by decide +kernel
theorem DM_X2_letterInOrder_1 : decode (mC M_X2_letterInOrder) 1 = .ok (.getfield 9, 3) := by decide +kernel
theorem DM_X2_letterInOrder_4 : decode (mC M_X2_letterInOrder) 4 = .ok (.iload_n 1, 1) := by decide +kernel
theorem DM_X2_letterInOrder_5 : decode (mC M_X2_letterInOrder) 5 = .ok (.iload_n 2, 1) := by decide +kernel
theorem DM_X2_letterInOrder_6 : decode (mC M_X2_letterInOrder) 6 = .ok (.iadd, 1) := by decide +kernel
theorem DM_X2_letterInOrder_7 : decode (mC M_X2_letterInOrder) 7 = .ok (.bipush 8, 2) := by decide +kernel
theorem DM_X2_letterInOrder_9 : decode (mC M_X2_letterInOrder) 9 = .ok (.irem, 1) := by decide +kernel
theorem DM_X2_letterInOrder_10 : decode (mC M_X2_letterInOrder) 10 = .ok (.iaload, 1) := by decide +kernel
theorem DM_X2_letterInOrder_11 : decode (mC M_X2_letterInOrder) 11 = .ok (.ireturn, 1) := by decide +kernel
theorem DM_X2_placeInOrder_0 : decode (mC M_X2_placeInOrder) 0 = .ok (.aload_n 0, 1) := by decide +kernel
theorem DM_X2_placeInOrder_1 : decode (mC M_X2_placeInOrder) 1 = .ok (.getfield 15, 3) := by decide +kernel
theorem DM_X2_placeInOrder_4 : decode (mC M_X2_placeInOrder) 4 = .ok (.iload_n 1, 1) := by decide +kernel
theorem DM_X2_placeInOrder_5 : decode (mC M_X2_placeInOrder) 5 = .ok (.iaload, 1) := by decide +kernel
theorem DM_X2_placeInOrder_6 : decode (mC M_X2_placeInOrder) 6 = .ok (.iload_n 2, 1) := by decide +kernel
theorem DM_X2_placeInOrder_7 : decode (mC M_X2_placeInOrder) 7 = .ok (.isub, 1) := by decide +kernel
theorem DM_X2_placeInOrder_8 : decode (mC M_X2_placeInOrder) 8 = .ok (.bipush 7, 2) := by decide +kernel
theorem DM_X2_placeInOrder_10 : decode (mC M_X2_placeInOrder) 10 = .ok (.iand, 1) := by decide +kernel
theorem DM_X2_placeInOrder_11 : decode (mC M_X2_placeInOrder) 11 = .ok (.ireturn, 1) := by decide +kernel
theorem DM_X2_letterAsRead_0 : decode (mC M_X2_letterAsRead) 0 = .ok (.aload_n 0, 1) := by decide +kernel
theorem DM_X2_letterAsRead_1 : decode (mC M_X2_letterAsRead) 1 = .ok (.getfield 24, 3) := by decide +kernel
theorem DM_X2_letterAsRead_4 : decode (mC M_X2_letterAsRead) 4 = .ok (.iload_n 1, 1) := by decide +kernel
theorem DM_X2_letterAsRead_5 : decode (mC M_X2_letterAsRead) 5 = .ok (.iconst 4, 1) := by decide +kernel
theorem DM_X2_letterAsRead_6 : decode (mC M_X2_letterAsRead) 6 = .ok (.imul, 1) := by decide +kernel
theorem DM_X2_letterAsRead_7 : decode (mC M_X2_letterAsRead) 7 = .ok (.aload_n 0, 1) := by decide +kernel
theorem DM_X2_letterAsRead_8 : decode (mC M_X2_letterAsRead) 8 = .ok (.getfield 18, 3) := by decide +kernel
theorem DM_X2_letterAsRead_11 : decode (mC M_X2_letterAsRead) 11 = .ok (.iload_n 1, 1) := by decide +kernel
theorem DM_X2_letterAsRead_12 : decode (mC M_X2_letterAsRead) 12 = .ok (.iaload, 1) := by decide +kernel
theorem DM_X2_letterAsRead_13 : decode (mC M_X2_letterAsRead) 13 = .ok (.iconst 2, 1) := by decide +kernel
theorem DM_X2_letterAsRead_14 : decode (mC M_X2_letterAsRead) 14 = .ok (.if_icmp .ne 16, 3) := by decide +kernel
theorem DM_X2_letterAsRead_17 : decode (mC M_X2_letterAsRead) 17 = .ok (.aload_n 0, 1) := by decide +kernel
theorem DM_X2_letterAsRead_18 : decode (mC M_X2_letterAsRead) 18 = .ok (.getfield 21, 3) := by decide +kernel
theorem DM_X2_letterAsRead_21 : decode (mC M_X2_letterAsRead) 21 = .ok (.iload_n 1, 1) := by decide +kernel
theorem DM_X2_letterAsRead_22 : decode (mC M_X2_letterAsRead) 22 = .ok (.iaload, 1) := by decide +kernel
theorem DM_X2_letterAsRead_23 : decode (mC M_X2_letterAsRead) 23 = .ok (.iconst 1, 1) := by decide +kernel
theorem DM_X2_letterAsRead_24 : decode (mC M_X2_letterAsRead) 24 = .ok (.isub, 1) := by decide +kernel
theorem DM_X2_letterAsRead_25 : decode (mC M_X2_letterAsRead) 25 = .ok (.iload_n 2, 1) := by decide +kernel
theorem DM_X2_letterAsRead_26 : decode (mC M_X2_letterAsRead) 26 = .ok (.isub, 1) := by decide +kernel
theorem DM_X2_letterAsRead_27 : decode (mC M_X2_letterAsRead) 27 = .ok (.goto 4, 3) := by decide +kernel
theorem DM_X2_letterAsRead_30 : decode (mC M_X2_letterAsRead) 30 = .ok (.iload_n 2, 1) := by decide +kernel
theorem DM_X2_letterAsRead_31 : decode (mC M_X2_letterAsRead) 31 = .ok (.iadd, 1) := by decide +kernel
theorem DM_X2_letterAsRead_32 : decode (mC M_X2_letterAsRead) 32 = .ok (.iaload, 1) := by decide +kernel
theorem DM_X2_letterAsRead_33 : decode (mC M_X2_letterAsRead) 33 = .ok (.ireturn, 1) := by decide +kernel
theorem DM_X2_compareNames_0 : decode (mC M_X2_compareNames) 0 = .ok (.aload_n 0, 1) := by decide +kernel
theorem DM_X2_compareNames_1 : decode (mC M_X2_compareNames) 1 = .ok (.getfield 21, 3) := by decide +kernel
theorem DM_X2_compareNames_4 : decode (mC M_X2_compareNames) 4 = .ok (.iload_n 1, 1) := by decide +kernel
theorem DM_X2_compareNames_5 : decode (mC M_X2_compareNames) 5 = .ok (.iaload, 1) := by decide +kernel
theorem DM_X2_compareNames_6 : decode (mC M_X2_compareNames) 6 = .ok (.aload_n 0, 1) := by decide +kernel
theorem DM_X2_compareNames_7 : decode (mC M_X2_compareNames) 7 = .ok (.getfield 21, 3) := by decide +kernel
theorem DM_X2_compareNames_10 : decode (mC M_X2_compareNames) 10 = .ok (.iload_n 2, 1) := by decide +kernel
theorem DM_X2_compareNames_11 : decode (mC M_X2_compareNames) 11 = .ok (.iaload, 1) := by decide +kernel
theorem DM_X2_compareNames_12 : decode (mC M_X2_compareNames) 12 = .ok (.invokestatic 70, 3) := by decide +kernel
theorem DM_X2_compareNames_15 : decode (mC M_X2_compareNames) 15 = .ok (.istore 4, 2) := by decide +kernel
theorem DM_X2_compareNames_17 : decode (mC M_X2_compareNames) 17 = .ok (.iconst 0, 1) := by decide +kernel
theorem DM_X2_compareNames_18 : decode (mC M_X2_compareNames) 18 = .ok (.istore 5, 2) := by decide +kernel
theorem DM_X2_compareNames_20 : decode (mC M_X2_compareNames) 20 = .ok (.iload 5, 2) := by decide +kernel
theorem DM_X2_compareNames_22 : decode (mC M_X2_compareNames) 22 = .ok (.iload 4, 2) := by decide +kernel
theorem DM_X2_compareNames_24 : decode (mC M_X2_compareNames) 24 = .ok (.if_icmp .ge 50, 3) := by decide +kernel
theorem DM_X2_compareNames_27 : decode (mC M_X2_compareNames) 27 = .ok (.aload_n 0, 1) := by decide +kernel
theorem DM_X2_compareNames_28 : decode (mC M_X2_compareNames) 28 = .ok (.iload_n 1, 1) := by decide +kernel
theorem DM_X2_compareNames_29 : decode (mC M_X2_compareNames) 29 = .ok (.iload 5, 2) := by decide +kernel
theorem DM_X2_compareNames_31 : decode (mC M_X2_compareNames) 31 = .ok (.invokevirtual 75, 3) := by decide +kernel
theorem DM_X2_compareNames_34 : decode (mC M_X2_compareNames) 34 = .ok (.istore 6, 2) := by decide +kernel
theorem DM_X2_compareNames_36 : decode (mC M_X2_compareNames) 36 = .ok (.aload_n 0, 1) := by decide +kernel
theorem DM_X2_compareNames_37 : decode (mC M_X2_compareNames) 37 = .ok (.iload_n 2, 1) := by decide +kernel
theorem DM_X2_compareNames_38 : decode (mC M_X2_compareNames) 38 = .ok (.iload 5, 2) := by decide +kernel
theorem DM_X2_compareNames_40 : decode (mC M_X2_compareNames) 40 = .ok (.invokevirtual 75, 3) := by decide +kernel
theorem DM_X2_compareNames_43 : decode (mC M_X2_compareNames) 43 = .ok (.istore 7, 2) := by decide +kernel
theorem DM_X2_compareNames_45 : decode (mC M_X2_compareNames) 45 = .ok (.iload 6, 2) := by decide +kernel
theorem DM_X2_compareNames_47 : decode (mC M_X2_compareNames) 47 = .ok (.iload 7, 2) := by decide +kernel
theorem DM_X2_compareNames_49 : decode (mC M_X2_compareNames) 49 = .ok (.if_icmp .eq 19, 3) := by decide +kernel
theorem DM_X2_compareNames_52 : decode (mC M_X2_compareNames) 52 = .ok (.aload_n 0, 1) := by decide +kernel
theorem DM_X2_compareNames_53 : decode (mC M_X2_compareNames) 53 = .ok (.iload 6, 2) := by decide +kernel
theorem DM_X2_compareNames_55 : decode (mC M_X2_compareNames) 55 = .ok (.iload_n 3, 1) := by decide +kernel
theorem DM_X2_compareNames_56 : decode (mC M_X2_compareNames) 56 = .ok (.invokevirtual 78, 3) := by decide +kernel
theorem DM_X2_compareNames_59 : decode (mC M_X2_compareNames) 59 = .ok (.aload_n 0, 1) := by decide +kernel
theorem DM_X2_compareNames_60 : decode (mC M_X2_compareNames) 60 = .ok (.iload 7, 2) := by decide +kernel
theorem DM_X2_compareNames_62 : decode (mC M_X2_compareNames) 62 = .ok (.iload_n 3, 1) := by decide +kernel
theorem DM_X2_compareNames_63 : decode (mC M_X2_compareNames) 63 = .ok (.invokevirtual 78, 3) := by decide +kernel
theorem DM_X2_compareNames_66 : decode (mC M_X2_compareNames) 66 = .ok (.isub, 1) := by decide +kernel
theorem DM_X2_compareNames_67 : decode (mC M_X2_compareNames) 67 = .ok (.ireturn, 1) := by decide +kernel
theorem DM_X2_compareNames_68 : decode (mC M_X2_compareNames) 68 = .ok (.iinc 5 1, 3) := by decide +kernel
theorem DM_X2_compareNames_71 : decode (mC M_X2_compareNames) 71 = .ok (.goto (-51), 3) := by decide +kernel
theorem DM_X2_compareNames_74 : decode (mC M_X2_compareNames) 74 = .ok (.aload_n 0, 1) := by decide +kernel
theorem DM_X2_compareNames_75 : decode (mC M_X2_compareNames) 75 = .ok (.getfield 21, 3) := by decide +kernel
theorem DM_X2_compareNames_78 : decode (mC M_X2_compareNames) 78 = .ok (.iload_n 1, 1) := by decide +kernel
theorem DM_X2_compareNames_79 : decode (mC M_X2_compareNames) 79 = .ok (.iaload, 1) := by decide +kernel
theorem DM_X2_compareNames_80 : decode (mC M_X2_compareNames) 80 = .ok (.aload_n 0, 1) := by decide +kernel
theorem DM_X2_compareNames_81 : decode (mC M_X2_compareNames) 81 = .ok (.getfield 21, 3) := by decide +kernel
theorem DM_X2_compareNames_84 : decode (mC M_X2_compareNames) 84 = .ok (.iload_n 2, 1) := by decide +kernel
theorem DM_X2_compareNames_85 : decode (mC M_X2_compareNames) 85 = .ok (.iaload, 1) := by decide +kernel
theorem DM_X2_compareNames_86 : decode (mC M_X2_compareNames) 86 = .ok (.isub, 1) := by decide +kernel
theorem DM_X2_compareNames_87 : decode (mC M_X2_compareNames) 87 = .ok (.ireturn, 1) := by decide +kernel
theorem DM_X2_isBefore_0 : decode (mC M_X2_isBefore) 0 = .ok (.getstatic 81, 3) := by decide +kernel
theorem DM_X2_isBefore_3 : decode (mC M_X2_isBefore) 3 = .ok (.aload_n 0, 1) := by decide +kernel
theorem DM_X2_isBefore_4 : decode (mC M_X2_isBefore) 4 = .ok (.getfield 18, 3) := by decide +kernel
theorem DM_X2_isBefore_7 : decode (mC M_X2_isBefore) 7 = .ok (.iload_n 1, 1) := by decide +kernel
theorem DM_X2_isBefore_8 : decode (mC M_X2_isBefore) 8 = .ok (.iaload, 1) := by decide +kernel
theorem DM_X2_isBefore_9 : decode (mC M_X2_isBefore) 9 = .ok (.iaload, 1) := by decide +kernel
theorem DM_X2_isBefore_10 : decode (mC M_X2_isBefore) 10 = .ok (.getstatic 81, 3) := by decide +kernel
theorem DM_X2_isBefore_13 : decode (mC M_X2_isBefore) 13 = .ok (.aload_n 0, 1) := by decide +kernel
theorem DM_X2_isBefore_14 : decode (mC M_X2_isBefore) 14 = .ok (.getfield 18, 3) := by decide +kernel
theorem DM_X2_isBefore_17 : decode (mC M_X2_isBefore) 17 = .ok (.iload_n 2, 1) := by decide +kernel
theorem DM_X2_isBefore_18 : decode (mC M_X2_isBefore) 18 = .ok (.iaload, 1) := by decide +kernel
theorem DM_X2_isBefore_19 : decode (mC M_X2_isBefore) 19 = .ok (.iaload, 1) := by decide +kernel
theorem DM_X2_isBefore_20 : decode (mC M_X2_isBefore) 20 = .ok (.isub, 1) := by decide +kernel
theorem DM_X2_isBefore_21 : decode (mC M_X2_isBefore) 21 = .ok (.istore 4, 2) := by decide +kernel
theorem DM_X2_isBefore_23 : decode (mC M_X2_isBefore) 23 = .ok (.iload 4, 2) := by decide +kernel
theorem DM_X2_isBefore_25 : decode (mC M_X2_isBefore) 25 = .ok (.ifCond .eq 14, 3) := by decide +kernel
theorem DM_X2_isBefore_28 : decode (mC M_X2_isBefore) 28 = .ok (.iload 4, 2) := by decide +kernel
theorem DM_X2_isBefore_30 : decode (mC M_X2_isBefore) 30 = .ok (.ifCond .ge 7, 3) := by decide +kernel
theorem DM_X2_isBefore_33 : decode (mC M_X2_isBefore) 33 = .ok (.iconst 1, 1) := by decide +kernel
theorem DM_X2_isBefore_34 : decode (mC M_X2_isBefore) 34 = .ok (.goto 4, 3) := by decide +kernel
theorem DM_X2_isBefore_37 : decode (mC M_X2_isBefore) 37 = .ok (.iconst 0, 1) := by decide +kernel
theorem DM_X2_isBefore_38 : decode (mC M_X2_isBefore) 38 = .ok (.ireturn, 1) := by decide +kernel
theorem DM_X2_isBefore_39 : decode (mC M_X2_isBefore) 39 = .ok (.aload_n 0, 1) := by decide +kernel
theorem DM_X2_isBefore_40 : decode (mC M_X2_isBefore) 40 = .ok (.iload_n 1, 1) := by decide +kernel
theorem DM_X2_isBefore_41 : decode (mC M_X2_isBefore) 41 = .ok (.iload_n 2, 1) := by decide +kernel
theorem DM_X2_isBefore_42 : decode (mC M_X2_isBefore) 42 = .ok (.iload_n 3, 1) := by decide +kernel
theorem DM_X2_isBefore_43 : decode (mC M_X2_isBefore) 43 = .ok (.invokevirtual 84, 3) := by decide +kernel
theorem DM_X2_isBefore_46 : decode (mC M_X2_isBefore) 46 = .ok (.istore 5, 2) := by decide +kernel
theorem DM_X2_isBefore_48 : decode (mC M_X2_isBefore) 48 = .ok (.iload 5, 2) := by decide +kernel
theorem DM_X2_isBefore_50 : decode (mC M_X2_isBefore) 50 = .ok (.ifCond .ne 16, 3) := by decide +kernel
theorem DM_X2_isBefore_53 : decode (mC M_X2_isBefore) 53 = .ok (.iload_n 1, 1) := by decide +kernel
theorem DM_X2_isBefore_54 : decode (mC M_X2_isBefore) 54 = .ok (.iload_n 2, 1) := by decide +kernel
theorem DM_X2_isBefore_55 : decode (mC M_X2_isBefore) 55 = .ok (.if_icmp .ge 7, 3) := by decide +kernel
theorem DM_X2_isBefore_58 : decode (mC M_X2_isBefore) 58 = .ok (.iconst 1, 1) := by decide +kernel
theorem DM_X2_isBefore_59 : decode (mC M_X2_isBefore) 59 = .ok (.goto 17, 3) := by decide +kernel
theorem DM_X2_isBefore_62 : decode (mC M_X2_isBefore) 62 = .ok (.iconst 0, 1) := by decide +kernel
theorem DM_X2_isBefore_63 : decode (mC M_X2_isBefore) 63 = .ok (.goto 13, 3) := by decide +kernel
theorem DM_X2_isBefore_66 : decode (mC M_X2_isBefore) 66 = .ok (.iload 5, 2) := by decide +kernel
theorem DM_X2_isBefore_68 : decode (mC M_X2_isBefore) 68 = .ok (.ifCond .ge 7, 3) := by decide +kernel
theorem DM_X2_isBefore_71 : decode (mC M_X2_isBefore) 71 = .ok (.iconst 1, 1) := by decide +kernel
theorem DM_X2_isBefore_72 : decode (mC M_X2_isBefore) 72 = .ok (.goto 4, 3) := by decide +kernel
theorem DM_X2_isBefore_75 : decode (mC M_X2_isBefore) 75 = .ok (.iconst 0, 1) := by decide +kernel
theorem DM_X2_isBefore_76 : decode (mC M_X2_isBefore) 76 = .ok (.ireturn, 1) := by decide +kernel
theorem DM_X2_isSeated_0 : decode (mC M_X2_isSeated) 0 = .ok (.aload_n 0, 1) := by decide +kernel
theorem DM_X2_isSeated_1 : decode (mC M_X2_isSeated) 1 = .ok (.getfield 33, 3) := by decide +kernel
theorem DM_X2_isSeated_4 : decode (mC M_X2_isSeated) 4 = .ok (.iload_n 1, 1) := by decide +kernel
theorem DM_X2_isSeated_5 : decode (mC M_X2_isSeated) 5 = .ok (.iaload, 1) := by decide +kernel
theorem DM_X2_isSeated_6 : decode (mC M_X2_isSeated) 6 = .ok (.ldc 65, 2) := by decide +kernel
theorem DM_X2_isSeated_8 : decode (mC M_X2_isSeated) 8 = .ok (.if_icmp .eq 7, 3) := by decide +kernel
theorem DM_X2_isSeated_11 : decode (mC M_X2_isSeated) 11 = .ok (.iconst 1, 1) := by decide +kernel
theorem DM_X2_isSeated_12 : decode (mC M_X2_isSeated) 12 = .ok (.goto 4, 3) := by decide +kernel
theorem DM_X2_isSeated_15 : decode (mC M_X2_isSeated) 15 = .ok (.iconst 0, 1) := by decide +kernel
theorem DM_X2_isSeated_16 : decode (mC M_X2_isSeated) 16 = .ok (.ireturn, 1) := by decide +kernel
theorem DM_X2_freeDay_0 : decode (mC M_X2_freeDay) 0 = .ok (.aload_n 0, 1) := by decide +kernel
theorem DM_X2_freeDay_1 : decode (mC M_X2_freeDay) 1 = .ok (.getfield 33, 3) := by decide +kernel
theorem DM_X2_freeDay_4 : decode (mC M_X2_freeDay) 4 = .ok (.iload_n 1, 1) := by decide +kernel
theorem DM_X2_freeDay_5 : decode (mC M_X2_freeDay) 5 = .ok (.iaload, 1) := by decide +kernel
theorem DM_X2_freeDay_6 : decode (mC M_X2_freeDay) 6 = .ok (.aload_n 0, 1) := by decide +kernel
theorem DM_X2_freeDay_7 : decode (mC M_X2_freeDay) 7 = .ok (.getfield 27, 3) := by decide +kernel
theorem DM_X2_freeDay_10 : decode (mC M_X2_freeDay) 10 = .ok (.iload_n 1, 1) := by decide +kernel
theorem DM_X2_freeDay_11 : decode (mC M_X2_freeDay) 11 = .ok (.iaload, 1) := by decide +kernel
theorem DM_X2_freeDay_12 : decode (mC M_X2_freeDay) 12 = .ok (.iadd, 1) := by decide +kernel
theorem DM_X2_freeDay_13 : decode (mC M_X2_freeDay) 13 = .ok (.ireturn, 1) := by decide +kernel
theorem DM_X2_waitsOn_0 : decode (mC M_X2_waitsOn) 0 = .ok (.aload_n 0, 1) := by decide +kernel
theorem DM_X2_waitsOn_1 : decode (mC M_X2_waitsOn) 1 = .ok (.iload_n 1, 1) := by decide +kernel
theorem DM_X2_waitsOn_2 : decode (mC M_X2_waitsOn) 2 = .ok (.invokevirtual 88, 3) := by decide +kernel
theorem DM_X2_waitsOn_5 : decode (mC M_X2_waitsOn) 5 = .ok (.ifCond .ne 17, 3) := by decide +kernel
theorem DM_X2_waitsOn_8 : decode (mC M_X2_waitsOn) 8 = .ok (.iload_n 2, 1) := by decide +kernel
theorem DM_X2_waitsOn_9 : decode (mC M_X2_waitsOn) 9 = .ok (.aload_n 0, 1) := by decide +kernel
theorem DM_X2_waitsOn_10 : decode (mC M_X2_waitsOn) 10 = .ok (.getfield 30, 3) := by decide +kernel
theorem DM_X2_waitsOn_13 : decode (mC M_X2_waitsOn) 13 = .ok (.iload_n 1, 1) := by decide +kernel
theorem DM_X2_waitsOn_14 : decode (mC M_X2_waitsOn) 14 = .ok (.iaload, 1) := by decide +kernel
theorem DM_X2_waitsOn_15 : decode (mC M_X2_waitsOn) 15 = .ok (.if_icmp .ge 7, 3) := by decide +kernel
theorem DM_X2_waitsOn_18 : decode (mC M_X2_waitsOn) 18 = .ok (.iconst 1, 1) := by decide +kernel
theorem DM_X2_waitsOn_19 : decode (mC M_X2_waitsOn) 19 = .ok (.goto 4, 3) := by decide +kernel
theorem DM_X2_waitsOn_22 : decode (mC M_X2_waitsOn) 22 = .ok (.iconst 0, 1) := by decide +kernel
theorem DM_X2_waitsOn_23 : decode (mC M_X2_waitsOn) 23 = .ok (.ireturn, 1) := by decide +kernel
theorem DM_X2_servesOn_0 : decode (mC M_X2_servesOn) 0 = .ok (.aload_n 0, 1) := by decide +kernel
theorem DM_X2_servesOn_1 : decode (mC M_X2_servesOn) 1 = .ok (.iload_n 1, 1) := by decide +kernel
theorem DM_X2_servesOn_2 : decode (mC M_X2_servesOn) 2 = .ok (.invokevirtual 88, 3) := by decide +kernel
theorem DM_X2_servesOn_5 : decode (mC M_X2_servesOn) 5 = .ok (.ifCond .eq 16, 3) := by decide +kernel
theorem DM_X2_servesOn_8 : decode (mC M_X2_servesOn) 8 = .ok (.iload_n 2, 1) := by decide +kernel
theorem DM_X2_servesOn_9 : decode (mC M_X2_servesOn) 9 = .ok (.aload_n 0, 1) := by decide +kernel
theorem DM_X2_servesOn_10 : decode (mC M_X2_servesOn) 10 = .ok (.iload_n 1, 1) := by decide +kernel
theorem DM_X2_servesOn_11 : decode (mC M_X2_servesOn) 11 = .ok (.invokevirtual 92, 3) := by decide +kernel
theorem DM_X2_servesOn_14 : decode (mC M_X2_servesOn) 14 = .ok (.if_icmp .ge 7, 3) := by decide +kernel
theorem DM_X2_servesOn_17 : decode (mC M_X2_servesOn) 17 = .ok (.iconst 1, 1) := by decide +kernel
theorem DM_X2_servesOn_18 : decode (mC M_X2_servesOn) 18 = .ok (.goto 4, 3) := by decide +kernel
theorem DM_X2_servesOn_21 : decode (mC M_X2_servesOn) 21 = .ok (.iconst 0, 1) := by decide +kernel
theorem DM_X2_servesOn_22 : decode (mC M_X2_servesOn) 22 = .ok (.ireturn, 1) := by decide +kernel
theorem DM_X2_stateOf_0 : decode (mC M_X2_stateOf) 0 = .ok (.aload_n 0, 1) := by decide +kernel
theorem DM_X2_stateOf_1 : decode (mC M_X2_stateOf) 1 = .ok (.iload_n 1, 1) := by decide +kernel
theorem DM_X2_stateOf_2 : decode (mC M_X2_stateOf) 2 = .ok (.invokevirtual 88, 3) := by decide +kernel
theorem DM_X2_stateOf_5 : decode (mC M_X2_stateOf) 5 = .ok (.ifCond .eq 21, 3) := by decide +kernel
theorem DM_X2_stateOf_8 : decode (mC M_X2_stateOf) 8 = .ok (.aload_n 0, 1) := by decide +kernel
theorem DM_X2_stateOf_9 : decode (mC M_X2_stateOf) 9 = .ok (.iload_n 1, 1) := by decide +kernel
theorem DM_X2_stateOf_10 : decode (mC M_X2_stateOf) 10 = .ok (.aload_n 0, 1) := by decide +kernel
theorem DM_X2_stateOf_11 : decode (mC M_X2_stateOf) 11 = .ok (.getfield 53, 3) := by decide +kernel
theorem DM_X2_stateOf_14 : decode (mC M_X2_stateOf) 14 = .ok (.invokevirtual 96, 3) := by decide +kernel
theorem DM_X2_stateOf_17 : decode (mC M_X2_stateOf) 17 = .ok (.ifCond .eq 7, 3) := by decide +kernel
theorem DM_X2_stateOf_20 : decode (mC M_X2_stateOf) 20 = .ok (.iconst 1, 1) := by decide +kernel
theorem DM_X2_stateOf_21 : decode (mC M_X2_stateOf) 21 = .ok (.goto 4, 3) := by decide +kernel
theorem DM_X2_stateOf_24 : decode (mC M_X2_stateOf) 24 = .ok (.iconst 2, 1) := by decide +kernel
theorem DM_X2_stateOf_25 : decode (mC M_X2_stateOf) 25 = .ok (.ireturn, 1) := by decide +kernel
theorem DM_X2_stateOf_26 : decode (mC M_X2_stateOf) 26 = .ok (.aload_n 0, 1) := by decide +kernel
theorem DM_X2_stateOf_27 : decode (mC M_X2_stateOf) 27 = .ok (.iload_n 1, 1) := by decide +kernel
theorem DM_X2_stateOf_28 : decode (mC M_X2_stateOf) 28 = .ok (.aload_n 0, 1) := by decide +kernel
theorem DM_X2_stateOf_29 : decode (mC M_X2_stateOf) 29 = .ok (.getfield 53, 3) := by decide +kernel
theorem DM_X2_stateOf_32 : decode (mC M_X2_stateOf) 32 = .ok (.invokevirtual 100, 3) := by decide +kernel
theorem DM_X2_stateOf_35 : decode (mC M_X2_stateOf) 35 = .ok (.ifCond .eq 7, 3) := by decide +kernel
theorem DM_X2_stateOf_38 : decode (mC M_X2_stateOf) 38 = .ok (.iconst 0, 1) := by decide +kernel
theorem DM_X2_stateOf_39 : decode (mC M_X2_stateOf) 39 = .ok (.goto 4, 3) := by decide +kernel
theorem DM_X2_stateOf_42 : decode (mC M_X2_stateOf) 42 = .ok (.iconst 3, 1) := by decide +kernel
theorem DM_X2_stateOf_43 : decode (mC M_X2_stateOf) 43 = .ok (.ireturn, 1) := by decide +kernel
theorem DM_X2_howMany_0 : decode (mC M_X2_howMany) 0 = .ok (.iconst 0, 1) := by decide +kernel
theorem DM_X2_howMany_1 : decode (mC M_X2_howMany) 1 = .ok (.istore_n 2, 1) := by decide +kernel
theorem DM_X2_howMany_2 : decode (mC M_X2_howMany) 2 = .ok (.iconst 0, 1) := by decide +kernel
theorem DM_X2_howMany_3 : decode (mC M_X2_howMany) 3 = .ok (.istore_n 3, 1) := by decide +kernel
theorem DM_X2_howMany_4 : decode (mC M_X2_howMany) 4 = .ok (.iload_n 3, 1) := by decide +kernel
theorem DM_X2_howMany_5 : decode (mC M_X2_howMany) 5 = .ok (.aload_n 0, 1) := by decide +kernel
theorem DM_X2_howMany_6 : decode (mC M_X2_howMany) 6 = .ok (.getfield 43, 3) := by decide +kernel
theorem DM_X2_howMany_9 : decode (mC M_X2_howMany) 9 = .ok (.if_icmp .ge 21, 3) := by decide +kernel
theorem DM_X2_howMany_12 : decode (mC M_X2_howMany) 12 = .ok (.aload_n 0, 1) := by decide +kernel
theorem DM_X2_howMany_13 : decode (mC M_X2_howMany) 13 = .ok (.iload_n 3, 1) := by decide +kernel
theorem DM_X2_howMany_14 : decode (mC M_X2_howMany) 14 = .ok (.invokevirtual 103, 3) := by decide +kernel
theorem DM_X2_howMany_17 : decode (mC M_X2_howMany) 17 = .ok (.iload_n 1, 1) := by decide +kernel
theorem DM_X2_howMany_18 : decode (mC M_X2_howMany) 18 = .ok (.if_icmp .ne 6, 3) := by decide +kernel
theorem DM_X2_howMany_21 : decode (mC M_X2_howMany) 21 = .ok (.iinc 2 1, 3) := by decide +kernel
theorem DM_X2_howMany_24 : decode (mC M_X2_howMany) 24 = .ok (.iinc 3 1, 3) := by decide +kernel
theorem DM_X2_howMany_27 : decode (mC M_X2_howMany) 27 = .ok (.goto (-23), 3) := by decide +kernel
theorem DM_X2_howMany_30 : decode (mC M_X2_howMany) 30 = .ok (.iload_n 2, 1) := by decide +kernel
theorem DM_X2_howMany_31 : decode (mC M_X2_howMany) 31 = .ok (.ireturn, 1) := by decide +kernel
theorem DM_X2_howManyBefore_0 : decode (mC M_X2_howManyBefore) 0 = .ok (.aload_n 0, 1) := by decide +kernel
theorem DM_X2_howManyBefore_1 : decode (mC M_X2_howManyBefore) 1 = .ok (.aload_n 0, 1) := by decide +kernel
theorem DM_X2_howManyBefore_2 : decode (mC M_X2_howManyBefore) 2 = .ok (.getfield 53, 3) := by decide +kernel
theorem DM_X2_howManyBefore_5 : decode (mC M_X2_howManyBefore) 5 = .ok (.iconst 0, 1) := by decide +kernel
theorem DM_X2_howManyBefore_6 : decode (mC M_X2_howManyBefore) 6 = .ok (.invokevirtual 106, 3) := by decide +kernel
theorem DM_X2_howManyBefore_9 : decode (mC M_X2_howManyBefore) 9 = .ok (.istore_n 2, 1) := by decide +kernel
theorem DM_X2_howManyBefore_10 : decode (mC M_X2_howManyBefore) 10 = .ok (.iconst 0, 1) := by decide +kernel
theorem DM_X2_howManyBefore_11 : decode (mC M_X2_howManyBefore) 11 = .ok (.istore_n 3, 1) := by decide +kernel
theorem DM_X2_howManyBefore_12 : decode (mC M_X2_howManyBefore) 12 = .ok (.iconst 0, 1) := by decide +kernel
theorem DM_X2_howManyBefore_13 : decode (mC M_X2_howManyBefore) 13 = .ok (.istore 4, 2) := by decide +kernel
theorem DM_X2_howManyBefore_15 : decode (mC M_X2_howManyBefore) 15 = .ok (.iload 4, 2) := by decide +kernel
theorem DM_X2_howManyBefore_17 : decode (mC M_X2_howManyBefore) 17 = .ok (.aload_n 0, 1) := by decide +kernel
theorem DM_X2_howManyBefore_18 : decode (mC M_X2_howManyBefore) 18 = .ok (.getfield 43, 3) := by decide +kernel
theorem DM_X2_howManyBefore_21 : decode (mC M_X2_howManyBefore) 21 = .ok (.if_icmp .ge 36, 3) := by decide +kernel
theorem DM_X2_howManyBefore_24 : decode (mC M_X2_howManyBefore) 24 = .ok (.aload_n 0, 1) := by decide +kernel
theorem DM_X2_howManyBefore_25 : decode (mC M_X2_howManyBefore) 25 = .ok (.iload 4, 2) := by decide +kernel
theorem DM_X2_howManyBefore_27 : decode (mC M_X2_howManyBefore) 27 = .ok (.aload_n 0, 1) := by decide +kernel
theorem DM_X2_howManyBefore_28 : decode (mC M_X2_howManyBefore) 28 = .ok (.getfield 53, 3) := by decide +kernel
theorem DM_X2_howManyBefore_31 : decode (mC M_X2_howManyBefore) 31 = .ok (.invokevirtual 100, 3) := by decide +kernel
theorem DM_X2_howManyBefore_34 : decode (mC M_X2_howManyBefore) 34 = .ok (.ifCond .eq 17, 3) := by decide +kernel
theorem DM_X2_howManyBefore_37 : decode (mC M_X2_howManyBefore) 37 = .ok (.aload_n 0, 1) := by decide +kernel
theorem DM_X2_howManyBefore_38 : decode (mC M_X2_howManyBefore) 38 = .ok (.iload 4, 2) := by decide +kernel
theorem DM_X2_howManyBefore_40 : decode (mC M_X2_howManyBefore) 40 = .ok (.iload_n 1, 1) := by decide +kernel
theorem DM_X2_howManyBefore_41 : decode (mC M_X2_howManyBefore) 41 = .ok (.iload_n 2, 1) := by decide +kernel
theorem DM_X2_howManyBefore_42 : decode (mC M_X2_howManyBefore) 42 = .ok (.invokevirtual 109, 3) := by decide +kernel
theorem DM_X2_howManyBefore_45 : decode (mC M_X2_howManyBefore) 45 = .ok (.ifCond .eq 6, 3) := by decide +kernel
theorem DM_X2_howManyBefore_48 : decode (mC M_X2_howManyBefore) 48 = .ok (.iinc 3 1, 3) := by decide +kernel
theorem DM_X2_howManyBefore_51 : decode (mC M_X2_howManyBefore) 51 = .ok (.iinc 4 1, 3) := by decide +kernel
theorem DM_X2_howManyBefore_54 : decode (mC M_X2_howManyBefore) 54 = .ok (.goto (-39), 3) := by decide +kernel
theorem DM_X2_howManyBefore_57 : decode (mC M_X2_howManyBefore) 57 = .ok (.iload_n 3, 1) := by decide +kernel
theorem DM_X2_howManyBefore_58 : decode (mC M_X2_howManyBefore) 58 = .ok (.ireturn, 1) := by decide +kernel
theorem DM_X2_howManyWaitWith_0 : decode (mC M_X2_howManyWaitWith) 0 = .ok (.iconst 0, 1) := by decide +kernel
theorem DM_X2_howManyWaitWith_1 : decode (mC M_X2_howManyWaitWith) 1 = .ok (.istore_n 2, 1) := by decide +kernel
theorem DM_X2_howManyWaitWith_2 : decode (mC M_X2_howManyWaitWith) 2 = .ok (.iconst 0, 1) := by decide +kernel
theorem DM_X2_howManyWaitWith_3 : decode (mC M_X2_howManyWaitWith) 3 = .ok (.istore_n 3, 1) := by decide +kernel
theorem DM_X2_howManyWaitWith_4 : decode (mC M_X2_howManyWaitWith) 4 = .ok (.iload_n 3, 1) := by decide +kernel
theorem DM_X2_howManyWaitWith_5 : decode (mC M_X2_howManyWaitWith) 5 = .ok (.aload_n 0, 1) := by decide +kernel
theorem DM_X2_howManyWaitWith_6 : decode (mC M_X2_howManyWaitWith) 6 = .ok (.getfield 43, 3) := by decide +kernel
theorem DM_X2_howManyWaitWith_9 : decode (mC M_X2_howManyWaitWith) 9 = .ok (.if_icmp .ge 37, 3) := by decide +kernel
theorem DM_X2_howManyWaitWith_12 : decode (mC M_X2_howManyWaitWith) 12 = .ok (.aload_n 0, 1) := by decide +kernel
theorem DM_X2_howManyWaitWith_13 : decode (mC M_X2_howManyWaitWith) 13 = .ok (.iload_n 3, 1) := by decide +kernel
theorem DM_X2_howManyWaitWith_14 : decode (mC M_X2_howManyWaitWith) 14 = .ok (.aload_n 0, 1) := by decide +kernel
theorem DM_X2_howManyWaitWith_15 : decode (mC M_X2_howManyWaitWith) 15 = .ok (.getfield 53, 3) := by decide +kernel
theorem DM_X2_howManyWaitWith_18 : decode (mC M_X2_howManyWaitWith) 18 = .ok (.invokevirtual 100, 3) := by decide +kernel
theorem DM_X2_howManyWaitWith_21 : decode (mC M_X2_howManyWaitWith) 21 = .ok (.ifCond .eq 19, 3) := by decide +kernel
theorem DM_X2_howManyWaitWith_24 : decode (mC M_X2_howManyWaitWith) 24 = .ok (.aload_n 0, 1) := by decide +kernel
theorem DM_X2_howManyWaitWith_25 : decode (mC M_X2_howManyWaitWith) 25 = .ok (.iload_n 3, 1) := by decide +kernel
theorem DM_X2_howManyWaitWith_26 : decode (mC M_X2_howManyWaitWith) 26 = .ok (.invokevirtual 113, 3) := by decide +kernel
theorem DM_X2_howManyWaitWith_29 : decode (mC M_X2_howManyWaitWith) 29 = .ok (.iload_n 1, 1) := by decide +kernel
theorem DM_X2_howManyWaitWith_30 : decode (mC M_X2_howManyWaitWith) 30 = .ok (.ishr, 1) := by decide +kernel
theorem DM_X2_howManyWaitWith_31 : decode (mC M_X2_howManyWaitWith) 31 = .ok (.iconst 1, 1) := by decide +kernel
theorem DM_X2_howManyWaitWith_32 : decode (mC M_X2_howManyWaitWith) 32 = .ok (.iand, 1) := by decide +kernel
theorem DM_X2_howManyWaitWith_33 : decode (mC M_X2_howManyWaitWith) 33 = .ok (.iconst 1, 1) := by decide +kernel
theorem DM_X2_howManyWaitWith_34 : decode (mC M_X2_howManyWaitWith) 34 = .ok (.if_icmp .ne 6, 3) := by decide +kernel
theorem DM_X2_howManyWaitWith_37 : decode (mC M_X2_howManyWaitWith) 37 = .ok (.iinc 2 1, 3) := by decide +kernel
theorem DM_X2_howManyWaitWith_40 : decode (mC M_X2_howManyWaitWith) 40 = .ok (.iinc 3 1, 3) := by decide +kernel
theorem DM_X2_howManyWaitWith_43 : decode (mC M_X2_howManyWaitWith) 43 = .ok (.goto (-39), 3) := by decide +kernel
theorem DM_X2_howManyWaitWith_46 : decode (mC M_X2_howManyWaitWith) 46 = .ok (.iload_n 2, 1) := by decide +kernel
theorem DM_X2_howManyWaitWith_47 : decode (mC M_X2_howManyWaitWith) 47 = .ok (.ireturn, 1) := by decide +kernel
theorem DM_X2_lastWaitingBut_0 : decode (mC M_X2_lastWaitingBut) 0 = .ok (.iconst (-1), 1) := by decide +kernel
theorem DM_X2_lastWaitingBut_1 : decode (mC M_X2_lastWaitingBut) 1 = .ok (.istore_n 3, 1) := by decide +kernel
theorem DM_X2_lastWaitingBut_2 : decode (mC M_X2_lastWaitingBut) 2 = .ok (.iconst 0, 1) := by decide +kernel
theorem DM_X2_lastWaitingBut_3 : decode (mC M_X2_lastWaitingBut) 3 = .ok (.istore 4, 2) := by decide +kernel
theorem DM_X2_lastWaitingBut_5 : decode (mC M_X2_lastWaitingBut) 5 = .ok (.iload 4, 2) := by decide +kernel
theorem DM_X2_lastWaitingBut_7 : decode (mC M_X2_lastWaitingBut) 7 = .ok (.aload_n 0, 1) := by decide +kernel
theorem DM_X2_lastWaitingBut_8 : decode (mC M_X2_lastWaitingBut) 8 = .ok (.getfield 43, 3) := by decide +kernel
theorem DM_X2_lastWaitingBut_11 : decode (mC M_X2_lastWaitingBut) 11 = .ok (.if_icmp .ge 47, 3) := by decide +kernel
theorem DM_X2_lastWaitingBut_14 : decode (mC M_X2_lastWaitingBut) 14 = .ok (.iload 4, 2) := by decide +kernel
theorem DM_X2_lastWaitingBut_16 : decode (mC M_X2_lastWaitingBut) 16 = .ok (.iload_n 1, 1) := by decide +kernel
theorem DM_X2_lastWaitingBut_17 : decode (mC M_X2_lastWaitingBut) 17 = .ok (.if_icmp .eq 35, 3) := by decide +kernel
theorem DM_X2_lastWaitingBut_20 : decode (mC M_X2_lastWaitingBut) 20 = .ok (.aload_n 0, 1) := by decide +kernel
theorem DM_X2_lastWaitingBut_21 : decode (mC M_X2_lastWaitingBut) 21 = .ok (.iload 4, 2) := by decide +kernel
theorem DM_X2_lastWaitingBut_23 : decode (mC M_X2_lastWaitingBut) 23 = .ok (.aload_n 0, 1) := by decide +kernel
theorem DM_X2_lastWaitingBut_24 : decode (mC M_X2_lastWaitingBut) 24 = .ok (.getfield 53, 3) := by decide +kernel
theorem DM_X2_lastWaitingBut_27 : decode (mC M_X2_lastWaitingBut) 27 = .ok (.invokevirtual 100, 3) := by decide +kernel
theorem DM_X2_lastWaitingBut_30 : decode (mC M_X2_lastWaitingBut) 30 = .ok (.ifCond .eq 22, 3) := by decide +kernel
theorem DM_X2_lastWaitingBut_33 : decode (mC M_X2_lastWaitingBut) 33 = .ok (.iload_n 3, 1) := by decide +kernel
theorem DM_X2_lastWaitingBut_34 : decode (mC M_X2_lastWaitingBut) 34 = .ok (.iconst (-1), 1) := by decide +kernel
theorem DM_X2_lastWaitingBut_35 : decode (mC M_X2_lastWaitingBut) 35 = .ok (.if_icmp .eq 14, 3) := by decide +kernel
theorem DM_X2_lastWaitingBut_38 : decode (mC M_X2_lastWaitingBut) 38 = .ok (.aload_n 0, 1) := by decide +kernel
theorem DM_X2_lastWaitingBut_39 : decode (mC M_X2_lastWaitingBut) 39 = .ok (.iload_n 3, 1) := by decide +kernel
theorem DM_X2_lastWaitingBut_40 : decode (mC M_X2_lastWaitingBut) 40 = .ok (.iload 4, 2) := by decide +kernel
theorem DM_X2_lastWaitingBut_42 : decode (mC M_X2_lastWaitingBut) 42 = .ok (.iload_n 2, 1) := by decide +kernel
theorem DM_X2_lastWaitingBut_43 : decode (mC M_X2_lastWaitingBut) 43 = .ok (.invokevirtual 109, 3) := by decide +kernel
theorem DM_X2_lastWaitingBut_46 : decode (mC M_X2_lastWaitingBut) 46 = .ok (.ifCond .eq 6, 3) := by decide +kernel
theorem DM_X2_lastWaitingBut_49 : decode (mC M_X2_lastWaitingBut) 49 = .ok (.iload 4, 2) := by decide +kernel
theorem DM_X2_lastWaitingBut_51 : decode (mC M_X2_lastWaitingBut) 51 = .ok (.istore_n 3, 1) := by decide +kernel
theorem DM_X2_lastWaitingBut_52 : decode (mC M_X2_lastWaitingBut) 52 = .ok (.iinc 4 1, 3) := by decide +kernel
theorem DM_X2_lastWaitingBut_55 : decode (mC M_X2_lastWaitingBut) 55 = .ok (.goto (-50), 3) := by decide +kernel
theorem DM_X2_lastWaitingBut_58 : decode (mC M_X2_lastWaitingBut) 58 = .ok (.iload_n 3, 1) := by decide +kernel
theorem DM_X2_lastWaitingBut_59 : decode (mC M_X2_lastWaitingBut) 59 = .ok (.ireturn, 1) := by decide +kernel
theorem DM_X2_seatTill_0 : decode (mC M_X2_seatTill) 0 = .ok (.aload_n 0, 1) := by decide +kernel
theorem DM_X2_seatTill_1 : decode (mC M_X2_seatTill) 1 = .ok (.iconst 0, 1) := by decide +kernel
theorem DM_X2_seatTill_2 : decode (mC M_X2_seatTill) 2 = .ok (.putfield 116, 3) := by decide +kernel
theorem DM_X2_seatTill_5 : decode (mC M_X2_seatTill) 5 = .ok (.aload_n 0, 1) := by decide +kernel
theorem DM_X2_seatTill_6 : decode (mC M_X2_seatTill) 6 = .ok (.getfield 53, 3) := by decide +kernel
theorem DM_X2_seatTill_9 : decode (mC M_X2_seatTill) 9 = .ok (.iconst 1, 1) := by decide +kernel
theorem DM_X2_seatTill_10 : decode (mC M_X2_seatTill) 10 = .ok (.iadd, 1) := by decide +kernel
theorem DM_X2_seatTill_11 : decode (mC M_X2_seatTill) 11 = .ok (.istore_n 3, 1) := by decide +kernel
theorem DM_X2_seatTill_12 : decode (mC M_X2_seatTill) 12 = .ok (.iconst 0, 1) := by decide +kernel
theorem DM_X2_seatTill_13 : decode (mC M_X2_seatTill) 13 = .ok (.istore 4, 2) := by decide +kernel
theorem DM_X2_seatTill_15 : decode (mC M_X2_seatTill) 15 = .ok (.iload 4, 2) := by decide +kernel
theorem DM_X2_seatTill_17 : decode (mC M_X2_seatTill) 17 = .ok (.aload_n 0, 1) := by decide +kernel
theorem DM_X2_seatTill_18 : decode (mC M_X2_seatTill) 18 = .ok (.getfield 43, 3) := by decide +kernel
theorem DM_X2_seatTill_21 : decode (mC M_X2_seatTill) 21 = .ok (.if_icmp .ge 64, 3) := by decide +kernel
theorem DM_X2_seatTill_24 : decode (mC M_X2_seatTill) 24 = .ok (.aload_n 0, 1) := by decide +kernel
theorem DM_X2_seatTill_25 : decode (mC M_X2_seatTill) 25 = .ok (.iload_n 3, 1) := by decide +kernel
theorem DM_X2_seatTill_26 : decode (mC M_X2_seatTill) 26 = .ok (.invokevirtual 119, 3) := by decide +kernel
theorem DM_X2_seatTill_29 : decode (mC M_X2_seatTill) 29 = .ok (.istore_n 3, 1) := by decide +kernel
theorem DM_X2_seatTill_30 : decode (mC M_X2_seatTill) 30 = .ok (.iload_n 3, 1) := by decide +kernel
theorem DM_X2_seatTill_31 : decode (mC M_X2_seatTill) 31 = .ok (.iload_n 1, 1) := by decide +kernel
theorem DM_X2_seatTill_32 : decode (mC M_X2_seatTill) 32 = .ok (.if_icmp .le 7, 3) := by decide +kernel
theorem DM_X2_seatTill_35 : decode (mC M_X2_seatTill) 35 = .ok (.iconst (-1), 1) := by decide +kernel
theorem DM_X2_seatTill_36 : decode (mC M_X2_seatTill) 36 = .ok (.goto 9, 3) := by decide +kernel
theorem DM_X2_seatTill_39 : decode (mC M_X2_seatTill) 39 = .ok (.aload_n 0, 1) := by decide +kernel
theorem DM_X2_seatTill_40 : decode (mC M_X2_seatTill) 40 = .ok (.iload_n 3, 1) := by decide +kernel
theorem DM_X2_seatTill_41 : decode (mC M_X2_seatTill) 41 = .ok (.iload_n 2, 1) := by decide +kernel
theorem DM_X2_seatTill_42 : decode (mC M_X2_seatTill) 42 = .ok (.invokevirtual 122, 3) := by decide +kernel
theorem DM_X2_seatTill_45 : decode (mC M_X2_seatTill) 45 = .ok (.istore 5, 2) := by decide +kernel
theorem DM_X2_seatTill_47 : decode (mC M_X2_seatTill) 47 = .ok (.iload 5, 2) := by decide +kernel
theorem DM_X2_seatTill_49 : decode (mC M_X2_seatTill) 49 = .ok (.iconst (-1), 1) := by decide +kernel
theorem DM_X2_seatTill_50 : decode (mC M_X2_seatTill) 50 = .ok (.if_icmp .ne 4, 3) := by decide +kernel
theorem DM_X2_seatTill_53 : decode (mC M_X2_seatTill) 53 = .ok (.return_, 1) := by decide +kernel
theorem DM_X2_seatTill_54 : decode (mC M_X2_seatTill) 54 = .ok (.aload_n 0, 1) := by decide +kernel
theorem DM_X2_seatTill_55 : decode (mC M_X2_seatTill) 55 = .ok (.getfield 33, 3) := by decide +kernel
theorem DM_X2_seatTill_58 : decode (mC M_X2_seatTill) 58 = .ok (.iload 5, 2) := by decide +kernel
theorem DM_X2_seatTill_60 : decode (mC M_X2_seatTill) 60 = .ok (.iload_n 3, 1) := by decide +kernel
theorem DM_X2_seatTill_61 : decode (mC M_X2_seatTill) 61 = .ok (.iastore, 1) := by decide +kernel
theorem DM_X2_seatTill_62 : decode (mC M_X2_seatTill) 62 = .ok (.aload_n 0, 1) := by decide +kernel
theorem DM_X2_seatTill_63 : decode (mC M_X2_seatTill) 63 = .ok (.getfield 36, 3) := by decide +kernel
theorem DM_X2_seatTill_66 : decode (mC M_X2_seatTill) 66 = .ok (.iload 4, 2) := by decide +kernel
theorem DM_X2_seatTill_68 : decode (mC M_X2_seatTill) 68 = .ok (.iload 5, 2) := by decide +kernel
theorem DM_X2_seatTill_70 : decode (mC M_X2_seatTill) 70 = .ok (.iastore, 1) := by decide +kernel
theorem DM_X2_seatTill_71 : decode (mC M_X2_seatTill) 71 = .ok (.aload_n 0, 1) := by decide +kernel
theorem DM_X2_seatTill_72 : decode (mC M_X2_seatTill) 72 = .ok (.iload 4, 2) := by decide +kernel
theorem DM_X2_seatTill_74 : decode (mC M_X2_seatTill) 74 = .ok (.iconst 1, 1) := by decide +kernel
theorem DM_X2_seatTill_75 : decode (mC M_X2_seatTill) 75 = .ok (.iadd, 1) := by decide +kernel
theorem DM_X2_seatTill_76 : decode (mC M_X2_seatTill) 76 = .ok (.putfield 116, 3) := by decide +kernel
theorem DM_X2_seatTill_79 : decode (mC M_X2_seatTill) 79 = .ok (.iinc 4 1, 3) := by decide +kernel
theorem DM_X2_seatTill_82 : decode (mC M_X2_seatTill) 82 = .ok (.goto (-67), 3) := by decide +kernel
theorem DM_X2_seatTill_85 : decode (mC M_X2_seatTill) 85 = .ok (.return_, 1) := by decide +kernel
theorem DM_X2_openDay_0 : decode (mC M_X2_openDay) 0 = .ok (.iconst 0, 1) := by decide +kernel
theorem DM_X2_openDay_1 : decode (mC M_X2_openDay) 1 = .ok (.istore_n 2, 1) := by decide +kernel
theorem DM_X2_openDay_2 : decode (mC M_X2_openDay) 2 = .ok (.ldc 125, 2) := by decide +kernel
theorem DM_X2_openDay_4 : decode (mC M_X2_openDay) 4 = .ok (.istore_n 3, 1) := by decide +kernel
theorem DM_X2_openDay_5 : decode (mC M_X2_openDay) 5 = .ok (.iconst 0, 1) := by decide +kernel
theorem DM_X2_openDay_6 : decode (mC M_X2_openDay) 6 = .ok (.istore 4, 2) := by decide +kernel
theorem DM_X2_openDay_8 : decode (mC M_X2_openDay) 8 = .ok (.iload 4, 2) := by decide +kernel
theorem DM_X2_openDay_10 : decode (mC M_X2_openDay) 10 = .ok (.aload_n 0, 1) := by decide +kernel
theorem DM_X2_openDay_11 : decode (mC M_X2_openDay) 11 = .ok (.getfield 43, 3) := by decide +kernel
theorem DM_X2_openDay_14 : decode (mC M_X2_openDay) 14 = .ok (.if_icmp .ge 33, 3) := by decide +kernel
theorem DM_X2_openDay_17 : decode (mC M_X2_openDay) 17 = .ok (.aload_n 0, 1) := by decide +kernel
theorem DM_X2_openDay_18 : decode (mC M_X2_openDay) 18 = .ok (.iload 4, 2) := by decide +kernel
theorem DM_X2_openDay_20 : decode (mC M_X2_openDay) 20 = .ok (.iload_n 1, 1) := by decide +kernel
theorem DM_X2_openDay_21 : decode (mC M_X2_openDay) 21 = .ok (.invokevirtual 96, 3) := by decide +kernel
theorem DM_X2_openDay_24 : decode (mC M_X2_openDay) 24 = .ok (.ifCond .eq 17, 3) := by decide +kernel
theorem DM_X2_openDay_27 : decode (mC M_X2_openDay) 27 = .ok (.iinc 2 1, 3) := by decide +kernel
theorem DM_X2_openDay_30 : decode (mC M_X2_openDay) 30 = .ok (.iload_n 3, 1) := by decide +kernel
theorem DM_X2_openDay_31 : decode (mC M_X2_openDay) 31 = .ok (.aload_n 0, 1) := by decide +kernel
theorem DM_X2_openDay_32 : decode (mC M_X2_openDay) 32 = .ok (.iload 4, 2) := by decide +kernel
theorem DM_X2_openDay_34 : decode (mC M_X2_openDay) 34 = .ok (.invokevirtual 92, 3) := by decide +kernel
theorem DM_X2_openDay_37 : decode (mC M_X2_openDay) 37 = .ok (.invokestatic 70, 3) := by decide +kernel
theorem DM_X2_openDay_40 : decode (mC M_X2_openDay) 40 = .ok (.istore_n 3, 1) := by decide +kernel
theorem DM_X2_openDay_41 : decode (mC M_X2_openDay) 41 = .ok (.iinc 4 1, 3) := by decide +kernel
theorem DM_X2_openDay_44 : decode (mC M_X2_openDay) 44 = .ok (.goto (-36), 3) := by decide +kernel
theorem DM_X2_openDay_47 : decode (mC M_X2_openDay) 47 = .ok (.iload_n 2, 1) := by decide +kernel
theorem DM_X2_openDay_48 : decode (mC M_X2_openDay) 48 = .ok (.aload_n 0, 1) := by decide +kernel
theorem DM_X2_openDay_49 : decode (mC M_X2_openDay) 49 = .ok (.getfield 47, 3) := by decide +kernel
theorem DM_X2_openDay_52 : decode (mC M_X2_openDay) 52 = .ok (.if_icmp .ge 7, 3) := by decide +kernel
theorem DM_X2_openDay_55 : decode (mC M_X2_openDay) 55 = .ok (.iload_n 1, 1) := by decide +kernel
theorem DM_X2_openDay_56 : decode (mC M_X2_openDay) 56 = .ok (.goto 4, 3) := by decide +kernel
theorem DM_X2_openDay_59 : decode (mC M_X2_openDay) 59 = .ok (.iload_n 3, 1) := by decide +kernel
theorem DM_X2_openDay_60 : decode (mC M_X2_openDay) 60 = .ok (.ireturn, 1) := by decide +kernel
theorem DM_X2_firstOn_0 : decode (mC M_X2_firstOn) 0 = .ok (.aload_n 0, 1) := by decide +kernel
theorem DM_X2_firstOn_1 : decode (mC M_X2_firstOn) 1 = .ok (.iload_n 1, 1) := by decide +kernel
theorem DM_X2_firstOn_2 : decode (mC M_X2_firstOn) 2 = .ok (.iload_n 2, 1) := by decide +kernel
theorem DM_X2_firstOn_3 : decode (mC M_X2_firstOn) 3 = .ok (.invokevirtual 106, 3) := by decide +kernel
theorem DM_X2_firstOn_6 : decode (mC M_X2_firstOn) 6 = .ok (.istore_n 3, 1) := by decide +kernel
theorem DM_X2_firstOn_7 : decode (mC M_X2_firstOn) 7 = .ok (.iconst (-1), 1) := by decide +kernel
theorem DM_X2_firstOn_8 : decode (mC M_X2_firstOn) 8 = .ok (.istore 4, 2) := by decide +kernel
theorem DM_X2_firstOn_10 : decode (mC M_X2_firstOn) 10 = .ok (.iconst 0, 1) := by decide +kernel
theorem DM_X2_firstOn_11 : decode (mC M_X2_firstOn) 11 = .ok (.istore 5, 2) := by decide +kernel
theorem DM_X2_firstOn_13 : decode (mC M_X2_firstOn) 13 = .ok (.iload 5, 2) := by decide +kernel
theorem DM_X2_firstOn_15 : decode (mC M_X2_firstOn) 15 = .ok (.aload_n 0, 1) := by decide +kernel
theorem DM_X2_firstOn_16 : decode (mC M_X2_firstOn) 16 = .ok (.getfield 43, 3) := by decide +kernel
theorem DM_X2_firstOn_19 : decode (mC M_X2_firstOn) 19 = .ok (.if_icmp .ge 67, 3) := by decide +kernel
theorem DM_X2_firstOn_22 : decode (mC M_X2_firstOn) 22 = .ok (.aload_n 0, 1) := by decide +kernel
theorem DM_X2_firstOn_23 : decode (mC M_X2_firstOn) 23 = .ok (.iload 5, 2) := by decide +kernel
theorem DM_X2_firstOn_25 : decode (mC M_X2_firstOn) 25 = .ok (.iload_n 1, 1) := by decide +kernel
theorem DM_X2_firstOn_26 : decode (mC M_X2_firstOn) 26 = .ok (.invokevirtual 100, 3) := by decide +kernel
theorem DM_X2_firstOn_29 : decode (mC M_X2_firstOn) 29 = .ok (.ifCond .eq 21, 3) := by decide +kernel
theorem DM_X2_firstOn_32 : decode (mC M_X2_firstOn) 32 = .ok (.aload_n 0, 1) := by decide +kernel
theorem DM_X2_firstOn_33 : decode (mC M_X2_firstOn) 33 = .ok (.iload 5, 2) := by decide +kernel
theorem DM_X2_firstOn_35 : decode (mC M_X2_firstOn) 35 = .ok (.invokevirtual 113, 3) := by decide +kernel
theorem DM_X2_firstOn_38 : decode (mC M_X2_firstOn) 38 = .ok (.aload_n 0, 1) := by decide +kernel
theorem DM_X2_firstOn_39 : decode (mC M_X2_firstOn) 39 = .ok (.getfield 56, 3) := by decide +kernel
theorem DM_X2_firstOn_42 : decode (mC M_X2_firstOn) 42 = .ok (.iand, 1) := by decide +kernel
theorem DM_X2_firstOn_43 : decode (mC M_X2_firstOn) 43 = .ok (.ifCond .ne 7, 3) := by decide +kernel
theorem DM_X2_firstOn_46 : decode (mC M_X2_firstOn) 46 = .ok (.iconst 1, 1) := by decide +kernel
theorem DM_X2_firstOn_47 : decode (mC M_X2_firstOn) 47 = .ok (.goto 4, 3) := by decide +kernel
theorem DM_X2_firstOn_50 : decode (mC M_X2_firstOn) 50 = .ok (.iconst 0, 1) := by decide +kernel
theorem DM_X2_firstOn_51 : decode (mC M_X2_firstOn) 51 = .ok (.istore 6, 2) := by decide +kernel
theorem DM_X2_firstOn_53 : decode (mC M_X2_firstOn) 53 = .ok (.iload 6, 2) := by decide +kernel
theorem DM_X2_firstOn_55 : decode (mC M_X2_firstOn) 55 = .ok (.ifCond .eq 25, 3) := by decide +kernel
theorem DM_X2_firstOn_58 : decode (mC M_X2_firstOn) 58 = .ok (.iload 4, 2) := by decide +kernel
theorem DM_X2_firstOn_60 : decode (mC M_X2_firstOn) 60 = .ok (.iconst (-1), 1) := by decide +kernel
theorem DM_X2_firstOn_61 : decode (mC M_X2_firstOn) 61 = .ok (.if_icmp .eq 15, 3) := by decide +kernel
theorem DM_X2_firstOn_64 : decode (mC M_X2_firstOn) 64 = .ok (.aload_n 0, 1) := by decide +kernel
theorem DM_X2_firstOn_65 : decode (mC M_X2_firstOn) 65 = .ok (.iload 5, 2) := by decide +kernel
theorem DM_X2_firstOn_67 : decode (mC M_X2_firstOn) 67 = .ok (.iload 4, 2) := by decide +kernel
theorem DM_X2_firstOn_69 : decode (mC M_X2_firstOn) 69 = .ok (.iload_n 3, 1) := by decide +kernel
theorem DM_X2_firstOn_70 : decode (mC M_X2_firstOn) 70 = .ok (.invokevirtual 109, 3) := by decide +kernel
theorem DM_X2_firstOn_73 : decode (mC M_X2_firstOn) 73 = .ok (.ifCond .eq 7, 3) := by decide +kernel
theorem DM_X2_firstOn_76 : decode (mC M_X2_firstOn) 76 = .ok (.iload 5, 2) := by decide +kernel
theorem DM_X2_firstOn_78 : decode (mC M_X2_firstOn) 78 = .ok (.istore 4, 2) := by decide +kernel
theorem DM_X2_firstOn_80 : decode (mC M_X2_firstOn) 80 = .ok (.iinc 5 1, 3) := by decide +kernel
theorem DM_X2_firstOn_83 : decode (mC M_X2_firstOn) 83 = .ok (.goto (-70), 3) := by decide +kernel
theorem DM_X2_firstOn_86 : decode (mC M_X2_firstOn) 86 = .ok (.iload 4, 2) := by decide +kernel
theorem DM_X2_firstOn_88 : decode (mC M_X2_firstOn) 88 = .ok (.ireturn, 1) := by decide +kernel
theorem DM_X2_takeBackDay_0 : decode (mC M_X2_takeBackDay) 0 = .ok (.iconst 0, 1) := by decide +kernel
theorem DM_X2_takeBackDay_1 : decode (mC M_X2_takeBackDay) 1 = .ok (.istore_n 1, 1) := by decide +kernel
theorem DM_X2_takeBackDay_2 : decode (mC M_X2_takeBackDay) 2 = .ok (.iload_n 1, 1) := by decide +kernel
theorem DM_X2_takeBackDay_3 : decode (mC M_X2_takeBackDay) 3 = .ok (.aload_n 0, 1) := by decide +kernel
theorem DM_X2_takeBackDay_4 : decode (mC M_X2_takeBackDay) 4 = .ok (.getfield 43, 3) := by decide +kernel
theorem DM_X2_takeBackDay_7 : decode (mC M_X2_takeBackDay) 7 = .ok (.if_icmp .ge 30, 3) := by decide +kernel
theorem DM_X2_takeBackDay_10 : decode (mC M_X2_takeBackDay) 10 = .ok (.aload_n 0, 1) := by decide +kernel
theorem DM_X2_takeBackDay_11 : decode (mC M_X2_takeBackDay) 11 = .ok (.getfield 33, 3) := by decide +kernel
theorem DM_X2_takeBackDay_14 : decode (mC M_X2_takeBackDay) 14 = .ok (.iload_n 1, 1) := by decide +kernel
theorem DM_X2_takeBackDay_15 : decode (mC M_X2_takeBackDay) 15 = .ok (.iaload, 1) := by decide +kernel
theorem DM_X2_takeBackDay_16 : decode (mC M_X2_takeBackDay) 16 = .ok (.aload_n 0, 1) := by decide +kernel
theorem DM_X2_takeBackDay_17 : decode (mC M_X2_takeBackDay) 17 = .ok (.getfield 53, 3) := by decide +kernel
theorem DM_X2_takeBackDay_20 : decode (mC M_X2_takeBackDay) 20 = .ok (.if_icmp .ne 11, 3) := by decide +kernel
theorem DM_X2_takeBackDay_23 : decode (mC M_X2_takeBackDay) 23 = .ok (.aload_n 0, 1) := by decide +kernel
theorem DM_X2_takeBackDay_24 : decode (mC M_X2_takeBackDay) 24 = .ok (.getfield 33, 3) := by decide +kernel
theorem DM_X2_takeBackDay_27 : decode (mC M_X2_takeBackDay) 27 = .ok (.iload_n 1, 1) := by decide +kernel
theorem DM_X2_takeBackDay_28 : decode (mC M_X2_takeBackDay) 28 = .ok (.ldc 65, 2) := by decide +kernel
theorem DM_X2_takeBackDay_30 : decode (mC M_X2_takeBackDay) 30 = .ok (.iastore, 1) := by decide +kernel
theorem DM_X2_takeBackDay_31 : decode (mC M_X2_takeBackDay) 31 = .ok (.iinc 1 1, 3) := by decide +kernel
theorem DM_X2_takeBackDay_34 : decode (mC M_X2_takeBackDay) 34 = .ok (.goto (-32), 3) := by decide +kernel
theorem DM_X2_takeBackDay_37 : decode (mC M_X2_takeBackDay) 37 = .ok (.aload_n 0, 1) := by decide +kernel
theorem DM_X2_takeBackDay_38 : decode (mC M_X2_takeBackDay) 38 = .ok (.dup, 1) := by decide +kernel
theorem DM_X2_takeBackDay_39 : decode (mC M_X2_takeBackDay) 39 = .ok (.getfield 53, 3) := by decide +kernel
theorem DM_X2_takeBackDay_42 : decode (mC M_X2_takeBackDay) 42 = .ok (.iconst 1, 1) := by decide +kernel
theorem DM_X2_takeBackDay_43 : decode (mC M_X2_takeBackDay) 43 = .ok (.isub, 1) := by decide +kernel
theorem DM_X2_takeBackDay_44 : decode (mC M_X2_takeBackDay) 44 = .ok (.putfield 53, 3) := by decide +kernel
theorem DM_X2_takeBackDay_47 : decode (mC M_X2_takeBackDay) 47 = .ok (.return_, 1) := by decide +kernel
theorem DM_X2_waitedByAll_0 : decode (mC M_X2_waitedByAll) 0 = .ok (.iconst 0, 1) := by decide +kernel
theorem DM_X2_waitedByAll_1 : decode (mC M_X2_waitedByAll) 1 = .ok (.istore_n 1, 1) := by decide +kernel
theorem DM_X2_waitedByAll_2 : decode (mC M_X2_waitedByAll) 2 = .ok (.iconst 0, 1) := by decide +kernel
theorem DM_X2_waitedByAll_3 : decode (mC M_X2_waitedByAll) 3 = .ok (.istore_n 2, 1) := by decide +kernel
theorem DM_X2_waitedByAll_4 : decode (mC M_X2_waitedByAll) 4 = .ok (.iload_n 2, 1) := by decide +kernel
theorem DM_X2_waitedByAll_5 : decode (mC M_X2_waitedByAll) 5 = .ok (.aload_n 0, 1) := by decide +kernel
theorem DM_X2_waitedByAll_6 : decode (mC M_X2_waitedByAll) 6 = .ok (.getfield 43, 3) := by decide +kernel
theorem DM_X2_waitedByAll_9 : decode (mC M_X2_waitedByAll) 9 = .ok (.if_icmp .ge 35, 3) := by decide +kernel
theorem DM_X2_waitedByAll_12 : decode (mC M_X2_waitedByAll) 12 = .ok (.iload_n 1, 1) := by decide +kernel
theorem DM_X2_waitedByAll_13 : decode (mC M_X2_waitedByAll) 13 = .ok (.aload_n 0, 1) := by decide +kernel
theorem DM_X2_waitedByAll_14 : decode (mC M_X2_waitedByAll) 14 = .ok (.iload_n 2, 1) := by decide +kernel
theorem DM_X2_waitedByAll_15 : decode (mC M_X2_waitedByAll) 15 = .ok (.invokevirtual 88, 3) := by decide +kernel
theorem DM_X2_waitedByAll_18 : decode (mC M_X2_waitedByAll) 18 = .ok (.ifCond .eq 12, 3) := by decide +kernel
theorem DM_X2_waitedByAll_21 : decode (mC M_X2_waitedByAll) 21 = .ok (.aload_n 0, 1) := by decide +kernel
theorem DM_X2_waitedByAll_22 : decode (mC M_X2_waitedByAll) 22 = .ok (.getfield 33, 3) := by decide +kernel
theorem DM_X2_waitedByAll_25 : decode (mC M_X2_waitedByAll) 25 = .ok (.iload_n 2, 1) := by decide +kernel
theorem DM_X2_waitedByAll_26 : decode (mC M_X2_waitedByAll) 26 = .ok (.iaload, 1) := by decide +kernel
theorem DM_X2_waitedByAll_27 : decode (mC M_X2_waitedByAll) 27 = .ok (.goto 9, 3) := by decide +kernel
theorem DM_X2_waitedByAll_30 : decode (mC M_X2_waitedByAll) 30 = .ok (.aload_n 0, 1) := by decide +kernel
theorem DM_X2_waitedByAll_31 : decode (mC M_X2_waitedByAll) 31 = .ok (.getfield 30, 3) := by decide +kernel
theorem DM_X2_waitedByAll_34 : decode (mC M_X2_waitedByAll) 34 = .ok (.iload_n 2, 1) := by decide +kernel
theorem DM_X2_waitedByAll_35 : decode (mC M_X2_waitedByAll) 35 = .ok (.iaload, 1) := by decide +kernel
theorem DM_X2_waitedByAll_36 : decode (mC M_X2_waitedByAll) 36 = .ok (.iadd, 1) := by decide +kernel
theorem DM_X2_waitedByAll_37 : decode (mC M_X2_waitedByAll) 37 = .ok (.istore_n 1, 1) := by decide +kernel
theorem DM_X2_waitedByAll_38 : decode (mC M_X2_waitedByAll) 38 = .ok (.iinc 2 1, 3) := by decide +kernel
theorem DM_X2_waitedByAll_41 : decode (mC M_X2_waitedByAll) 41 = .ok (.goto (-37), 3) := by decide +kernel
theorem DM_X2_waitedByAll_44 : decode (mC M_X2_waitedByAll) 44 = .ok (.iload_n 1, 1) := by decide +kernel
theorem DM_X2_waitedByAll_45 : decode (mC M_X2_waitedByAll) 45 = .ok (.ireturn, 1) := by decide +kernel
theorem DM_X3_init_0 : decode (mC M_X3_init) 0 = .ok (.aload_n 0, 1) := by decide +kernel
theorem DM_X3_init_1 : decode (mC M_X3_init) 1 = .ok (.invokespecial 3, 3) := by decide +kernel
theorem DM_X3_init_4 : decode (mC M_X3_init) 4 = .ok (.aload_n 0, 1) := by decide +kernel
theorem DM_X3_init_5 : decode (mC M_X3_init) 5 = .ok (.bipush 6, 2) := by decide +kernel
theorem DM_X3_init_7 : decode (mC M_X3_init) 7 = .ok (.newarray .int, 2) := by decide +kernel
theorem DM_X3_init_9 : decode (mC M_X3_init) 9 = .ok (.putfield 9, 3) := by decide +kernel
theorem DM_X3_init_12 : decode (mC M_X3_init) 12 = .ok (.aload_n 0, 1) := by decide +kernel
theorem DM_X3_init_13 : decode (mC M_X3_init) 13 = .ok (.bipush 6, 2) := by decide +kernel
theorem DM_X3_init_15 : decode (mC M_X3_init) 15 = .ok (.newarray .int, 2) := by decide +kernel
theorem DM_X3_init_17 : decode (mC M_X3_init) 17 = .ok (.putfield 15, 3) := by decide +kernel
theorem DM_X3_init_20 : decode (mC M_X3_init) 20 = .ok (.aload_n 0, 1) := by decide +kernel
theorem DM_X3_init_21 : decode (mC M_X3_init) 21 = .ok (.iconst 4, 1) := by decide +kernel
theorem DM_X3_init_22 : decode (mC M_X3_init) 22 = .ok (.newarray .int, 2) := by decide +kernel
theorem DM_X3_init_24 : decode (mC M_X3_init) 24 = .ok (.putfield 18, 3) := by decide +kernel
theorem DM_X3_init_27 : decode (mC M_X3_init) 27 = .ok (.return_, 1) := by decide +kernel
theorem DM_X3_plan_0 : decode (mC M_X3_plan) 0 = .ok (.aload_n 0, 1) := by decide +kernel
theorem DM_X3_plan_1 : decode (mC M_X3_plan) 1 = .ok (.aload_n 1, 1) := by decide +kernel
theorem DM_X3_plan_2 : decode (mC M_X3_plan) 2 = .ok (.invokevirtual 21, 3) := by decide +kernel
theorem DM_X3_plan_5 : decode (mC M_X3_plan) 5 = .ok (.aload_n 0, 1) := by decide +kernel
theorem DM_X3_plan_6 : decode (mC M_X3_plan) 6 = .ok (.iconst 0, 1) := by decide +kernel
theorem DM_X3_plan_7 : decode (mC M_X3_plan) 7 = .ok (.putfield 25, 3) := by decide +kernel
theorem DM_X3_plan_10 : decode (mC M_X3_plan) 10 = .ok (.aload_n 0, 1) := by decide +kernel
theorem DM_X3_plan_11 : decode (mC M_X3_plan) 11 = .ok (.ldc 29, 2) := by decide +kernel
theorem DM_X3_plan_13 : decode (mC M_X3_plan) 13 = .ok (.putfield 30, 3) := by decide +kernel
theorem DM_X3_plan_16 : decode (mC M_X3_plan) 16 = .ok (.iconst 0, 1) := by decide +kernel
theorem DM_X3_plan_17 : decode (mC M_X3_plan) 17 = .ok (.istore_n 2, 1) := by decide +kernel
theorem DM_X3_plan_18 : decode (mC M_X3_plan) 18 = .ok (.iconst 0, 1) := by decide +kernel
theorem DM_X3_plan_19 : decode (mC M_X3_plan) 19 = .ok (.istore_n 3, 1) := by decide +kernel
theorem DM_X3_plan_20 : decode (mC M_X3_plan) 20 = .ok (.iconst 0, 1) := by decide +kernel
theorem DM_X3_plan_21 : decode (mC M_X3_plan) 21 = .ok (.istore 4, 2) := by decide +kernel
theorem DM_X3_plan_23 : decode (mC M_X3_plan) 23 = .ok (.iload 4, 2) := by decide +kernel
theorem DM_X3_plan_25 : decode (mC M_X3_plan) 25 = .ok (.aload_n 1, 1) := by decide +kernel
theorem DM_X3_plan_26 : decode (mC M_X3_plan) 26 = .ok (.getfield 33, 3) := by decide +kernel
theorem DM_X3_plan_29 : decode (mC M_X3_plan) 29 = .ok (.if_icmp .ge 67, 3) := by decide +kernel
theorem DM_X3_plan_32 : decode (mC M_X3_plan) 32 = .ok (.aload_n 1, 1) := by decide +kernel
theorem DM_X3_plan_33 : decode (mC M_X3_plan) 33 = .ok (.iload 4, 2) := by decide +kernel
theorem DM_X3_plan_35 : decode (mC M_X3_plan) 35 = .ok (.invokevirtual 38, 3) := by decide +kernel
theorem DM_X3_plan_38 : decode (mC M_X3_plan) 38 = .ok (.ifCond .ne 23, 3) := by decide +kernel
theorem DM_X3_plan_41 : decode (mC M_X3_plan) 41 = .ok (.iload_n 2, 1) := by decide +kernel
theorem DM_X3_plan_42 : decode (mC M_X3_plan) 42 = .ok (.iconst 1, 1) := by decide +kernel
theorem DM_X3_plan_43 : decode (mC M_X3_plan) 43 = .ok (.iload 4, 2) := by decide +kernel
theorem DM_X3_plan_45 : decode (mC M_X3_plan) 45 = .ok (.ishl, 1) := by decide +kernel
theorem DM_X3_plan_46 : decode (mC M_X3_plan) 46 = .ok (.ior, 1) := by decide +kernel
theorem DM_X3_plan_47 : decode (mC M_X3_plan) 47 = .ok (.istore_n 2, 1) := by decide +kernel
theorem DM_X3_plan_48 : decode (mC M_X3_plan) 48 = .ok (.aload_n 0, 1) := by decide +kernel
theorem DM_X3_plan_49 : decode (mC M_X3_plan) 49 = .ok (.dup, 1) := by decide +kernel
theorem DM_X3_plan_50 : decode (mC M_X3_plan) 50 = .ok (.getfield 25, 3) := by decide +kernel
theorem DM_X3_plan_53 : decode (mC M_X3_plan) 53 = .ok (.iconst 1, 1) := by decide +kernel
theorem DM_X3_plan_54 : decode (mC M_X3_plan) 54 = .ok (.iadd, 1) := by decide +kernel
theorem DM_X3_plan_55 : decode (mC M_X3_plan) 55 = .ok (.putfield 25, 3) := by decide +kernel
theorem DM_X3_plan_58 : decode (mC M_X3_plan) 58 = .ok (.goto 32, 3) := by decide +kernel
theorem DM_X3_plan_61 : decode (mC M_X3_plan) 61 = .ok (.iload_n 3, 1) := by decide +kernel
theorem DM_X3_plan_62 : decode (mC M_X3_plan) 62 = .ok (.aload_n 1, 1) := by decide +kernel
theorem DM_X3_plan_63 : decode (mC M_X3_plan) 63 = .ok (.iload 4, 2) := by decide +kernel
theorem DM_X3_plan_65 : decode (mC M_X3_plan) 65 = .ok (.invokevirtual 42, 3) := by decide +kernel
theorem DM_X3_plan_68 : decode (mC M_X3_plan) 68 = .ok (.ifCond .eq 13, 3) := by decide +kernel
theorem DM_X3_plan_71 : decode (mC M_X3_plan) 71 = .ok (.aload_n 1, 1) := by decide +kernel
theorem DM_X3_plan_72 : decode (mC M_X3_plan) 72 = .ok (.getfield 46, 3) := by decide +kernel
theorem DM_X3_plan_75 : decode (mC M_X3_plan) 75 = .ok (.iload 4, 2) := by decide +kernel
theorem DM_X3_plan_77 : decode (mC M_X3_plan) 77 = .ok (.iaload, 1) := by decide +kernel
theorem DM_X3_plan_78 : decode (mC M_X3_plan) 78 = .ok (.goto 10, 3) := by decide +kernel
theorem DM_X3_plan_81 : decode (mC M_X3_plan) 81 = .ok (.aload_n 1, 1) := by decide +kernel
theorem DM_X3_plan_82 : decode (mC M_X3_plan) 82 = .ok (.getfield 49, 3) := by decide +kernel
theorem DM_X3_plan_85 : decode (mC M_X3_plan) 85 = .ok (.iload 4, 2) := by decide +kernel
theorem DM_X3_plan_87 : decode (mC M_X3_plan) 87 = .ok (.iaload, 1) := by decide +kernel
theorem DM_X3_plan_88 : decode (mC M_X3_plan) 88 = .ok (.iadd, 1) := by decide +kernel
theorem DM_X3_plan_89 : decode (mC M_X3_plan) 89 = .ok (.istore_n 3, 1) := by decide +kernel
theorem DM_X3_plan_90 : decode (mC M_X3_plan) 90 = .ok (.iinc 4 1, 3) := by decide +kernel
theorem DM_X3_plan_93 : decode (mC M_X3_plan) 93 = .ok (.goto (-70), 3) := by decide +kernel
theorem DM_X3_plan_96 : decode (mC M_X3_plan) 96 = .ok (.aload_n 0, 1) := by decide +kernel
theorem DM_X3_plan_97 : decode (mC M_X3_plan) 97 = .ok (.aload_n 1, 1) := by decide +kernel
theorem DM_X3_plan_98 : decode (mC M_X3_plan) 98 = .ok (.iconst 0, 1) := by decide +kernel
theorem DM_X3_plan_99 : decode (mC M_X3_plan) 99 = .ok (.iload_n 2, 1) := by decide +kernel
theorem DM_X3_plan_100 : decode (mC M_X3_plan) 100 = .ok (.iload_n 3, 1) := by decide +kernel
theorem DM_X3_plan_101 : decode (mC M_X3_plan) 101 = .ok (.invokestatic 52, 3) := by decide +kernel
theorem DM_X3_plan_104 : decode (mC M_X3_plan) 104 = .ok (.return_, 1) := by decide +kernel
theorem DM_X3_openSeats_0 : decode (mC M_X3_openSeats) 0 = .ok (.aload_n 0, 1) := by decide +kernel
theorem DM_X3_openSeats_1 : decode (mC M_X3_openSeats) 1 = .ok (.iconst 0, 1) := by decide +kernel
theorem DM_X3_openSeats_2 : decode (mC M_X3_openSeats) 2 = .ok (.putfield 56, 3) := by decide +kernel
theorem DM_X3_openSeats_5 : decode (mC M_X3_openSeats) 5 = .ok (.iconst 0, 1) := by decide +kernel
theorem DM_X3_openSeats_6 : decode (mC M_X3_openSeats) 6 = .ok (.istore_n 2, 1) := by decide +kernel
theorem DM_X3_openSeats_7 : decode (mC M_X3_openSeats) 7 = .ok (.iload_n 2, 1) := by decide +kernel
theorem DM_X3_openSeats_8 : decode (mC M_X3_openSeats) 8 = .ok (.aload_n 1, 1) := by decide +kernel
theorem DM_X3_openSeats_9 : decode (mC M_X3_openSeats) 9 = .ok (.getfield 33, 3) := by decide +kernel
theorem DM_X3_openSeats_12 : decode (mC M_X3_openSeats) 12 = .ok (.if_icmp .ge 50, 3) := by decide +kernel
theorem DM_X3_openSeats_15 : decode (mC M_X3_openSeats) 15 = .ok (.aload_n 1, 1) := by decide +kernel
theorem DM_X3_openSeats_16 : decode (mC M_X3_openSeats) 16 = .ok (.iload_n 2, 1) := by decide +kernel
theorem DM_X3_openSeats_17 : decode (mC M_X3_openSeats) 17 = .ok (.invokevirtual 38, 3) := by decide +kernel
theorem DM_X3_openSeats_20 : decode (mC M_X3_openSeats) 20 = .ok (.iconst 1, 1) := by decide +kernel
theorem DM_X3_openSeats_21 : decode (mC M_X3_openSeats) 21 = .ok (.if_icmp .ne 35, 3) := by decide +kernel
theorem DM_X3_openSeats_24 : decode (mC M_X3_openSeats) 24 = .ok (.aload_n 0, 1) := by decide +kernel
theorem DM_X3_openSeats_25 : decode (mC M_X3_openSeats) 25 = .ok (.getfield 56, 3) := by decide +kernel
theorem DM_X3_openSeats_28 : decode (mC M_X3_openSeats) 28 = .ok (.iconst 4, 1) := by decide +kernel
theorem DM_X3_openSeats_29 : decode (mC M_X3_openSeats) 29 = .ok (.if_icmp .ge 27, 3) := by decide +kernel
theorem DM_X3_openSeats_32 : decode (mC M_X3_openSeats) 32 = .ok (.aload_n 0, 1) := by decide +kernel
theorem DM_X3_openSeats_33 : decode (mC M_X3_openSeats) 33 = .ok (.getfield 18, 3) := by decide +kernel
theorem DM_X3_openSeats_36 : decode (mC M_X3_openSeats) 36 = .ok (.aload_n 0, 1) := by decide +kernel
theorem DM_X3_openSeats_37 : decode (mC M_X3_openSeats) 37 = .ok (.getfield 56, 3) := by decide +kernel
theorem DM_X3_openSeats_40 : decode (mC M_X3_openSeats) 40 = .ok (.aload_n 1, 1) := by decide +kernel
theorem DM_X3_openSeats_41 : decode (mC M_X3_openSeats) 41 = .ok (.iload_n 2, 1) := by decide +kernel
theorem DM_X3_openSeats_42 : decode (mC M_X3_openSeats) 42 = .ok (.invokevirtual 59, 3) := by decide +kernel
theorem DM_X3_openSeats_45 : decode (mC M_X3_openSeats) 45 = .ok (.iastore, 1) := by decide +kernel
theorem DM_X3_openSeats_46 : decode (mC M_X3_openSeats) 46 = .ok (.aload_n 0, 1) := by decide +kernel
theorem DM_X3_openSeats_47 : decode (mC M_X3_openSeats) 47 = .ok (.dup, 1) := by decide +kernel
theorem DM_X3_openSeats_48 : decode (mC M_X3_openSeats) 48 = .ok (.getfield 56, 3) := by decide +kernel
theorem DM_X3_openSeats_51 : decode (mC M_X3_openSeats) 51 = .ok (.iconst 1, 1) := by decide +kernel
theorem DM_X3_openSeats_52 : decode (mC M_X3_openSeats) 52 = .ok (.iadd, 1) := by decide +kernel
theorem DM_X3_openSeats_53 : decode (mC M_X3_openSeats) 53 = .ok (.putfield 56, 3) := by decide +kernel
theorem DM_X3_openSeats_56 : decode (mC M_X3_openSeats) 56 = .ok (.iinc 2 1, 3) := by decide +kernel
theorem DM_X3_openSeats_59 : decode (mC M_X3_openSeats) 59 = .ok (.goto (-52), 3) := by decide +kernel
theorem DM_X3_openSeats_62 : decode (mC M_X3_openSeats) 62 = .ok (.aload_n 0, 1) := by decide +kernel
theorem DM_X3_openSeats_63 : decode (mC M_X3_openSeats) 63 = .ok (.getfield 56, 3) := by decide +kernel
theorem DM_X3_openSeats_66 : decode (mC M_X3_openSeats) 66 = .ok (.aload_n 1, 1) := by decide +kernel
theorem DM_X3_openSeats_67 : decode (mC M_X3_openSeats) 67 = .ok (.getfield 62, 3) := by decide +kernel
theorem DM_X3_openSeats_70 : decode (mC M_X3_openSeats) 70 = .ok (.if_icmp .ge 39, 3) := by decide +kernel
theorem DM_X3_openSeats_73 : decode (mC M_X3_openSeats) 73 = .ok (.aload_n 0, 1) := by decide +kernel
theorem DM_X3_openSeats_74 : decode (mC M_X3_openSeats) 74 = .ok (.getfield 56, 3) := by decide +kernel
theorem DM_X3_openSeats_77 : decode (mC M_X3_openSeats) 77 = .ok (.iconst 4, 1) := by decide +kernel
theorem DM_X3_openSeats_78 : decode (mC M_X3_openSeats) 78 = .ok (.if_icmp .ge 31, 3) := by decide +kernel
theorem DM_X3_openSeats_81 : decode (mC M_X3_openSeats) 81 = .ok (.aload_n 0, 1) := by decide +kernel
theorem DM_X3_openSeats_82 : decode (mC M_X3_openSeats) 82 = .ok (.getfield 18, 3) := by decide +kernel
theorem DM_X3_openSeats_85 : decode (mC M_X3_openSeats) 85 = .ok (.aload_n 0, 1) := by decide +kernel
