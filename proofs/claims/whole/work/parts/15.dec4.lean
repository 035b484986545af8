theorem DM_X8_seats_26 : decode (mC M_X8_seats) 26 = .ok (.aload_n 0, 1) := by decide +kernel
theorem DM_X8_seats_27 : decode (mC M_X8_seats) 27 = .ok (.iload_n 2, 1) := by decide +kernel
theorem DM_X8_seats_28 : decode (mC M_X8_seats) 28 = .ok (.bipush 10, 2) := by decide +kernel
theorem DM_X8_seats_30 : decode (mC M_X8_seats) 30 = .ok (.iadd, 1) := by decide +kernel
theorem DM_X8_seats_31 : decode (mC M_X8_seats) 31 = .ok (.aload_n 0, 1) := by decide +kernel
theorem DM_X8_seats_32 : decode (mC M_X8_seats) 32 = .ok (.iconst 3, 1) := by decide +kernel
theorem DM_X8_seats_33 : decode (mC M_X8_seats) 33 = .ok (.iaload, 1) := by decide +kernel
theorem DM_X8_seats_34 : decode (mC M_X8_seats) 34 = .ok (.iastore, 1) := by decide +kernel
theorem DM_X8_seats_35 : decode (mC M_X8_seats) 35 = .ok (.return_, 1) := by decide +kernel
theorem DM_X8_passes_0 : decode (mC M_X8_passes) 0 = .ok (.aload_n 1, 1) := by decide +kernel
theorem DM_X8_passes_1 : decode (mC M_X8_passes) 1 = .ok (.invokestatic 183, 3) := by decide +kernel
theorem DM_X8_passes_4 : decode (mC M_X8_passes) 4 = .ok (.aload_n 0, 1) := by decide +kernel
theorem DM_X8_passes_5 : decode (mC M_X8_passes) 5 = .ok (.iconst 0, 1) := by decide +kernel
theorem DM_X8_passes_6 : decode (mC M_X8_passes) 6 = .ok (.putfield 187, 3) := by decide +kernel
theorem DM_X8_passes_9 : decode (mC M_X8_passes) 9 = .ok (.aload_n 1, 1) := by decide +kernel
theorem DM_X8_passes_10 : decode (mC M_X8_passes) 10 = .ok (.iload_n 2, 1) := by decide +kernel
theorem DM_X8_passes_11 : decode (mC M_X8_passes) 11 = .ok (.invokestatic 190, 3) := by decide +kernel
theorem DM_X8_passes_14 : decode (mC M_X8_passes) 14 = .ok (.istore_n 3, 1) := by decide +kernel
theorem DM_X8_passes_15 : decode (mC M_X8_passes) 15 = .ok (.iload_n 3, 1) := by decide +kernel
theorem DM_X8_passes_16 : decode (mC M_X8_passes) 16 = .ok (.ldc 59, 2) := by decide +kernel
theorem DM_X8_passes_18 : decode (mC M_X8_passes) 18 = .ok (.if_icmp .eq 48, 3) := by decide +kernel
theorem DM_X8_passes_21 : decode (mC M_X8_passes) 21 = .ok (.aload_n 1, 1) := by decide +kernel
theorem DM_X8_passes_22 : decode (mC M_X8_passes) 22 = .ok (.iconst 1, 1) := by decide +kernel
theorem DM_X8_passes_23 : decode (mC M_X8_passes) 23 = .ok (.invokestatic 193, 3) := by decide +kernel
theorem DM_X8_passes_26 : decode (mC M_X8_passes) 26 = .ok (.aload_n 1, 1) := by decide +kernel
theorem DM_X8_passes_27 : decode (mC M_X8_passes) 27 = .ok (.iconst 0, 1) := by decide +kernel
theorem DM_X8_passes_28 : decode (mC M_X8_passes) 28 = .ok (.iaload, 1) := by decide +kernel
theorem DM_X8_passes_29 : decode (mC M_X8_passes) 29 = .ok (.if_icmp .ge 37, 3) := by decide +kernel
theorem DM_X8_passes_32 : decode (mC M_X8_passes) 32 = .ok (.aload_n 1, 1) := by decide +kernel
theorem DM_X8_passes_33 : decode (mC M_X8_passes) 33 = .ok (.iload_n 3, 1) := by decide +kernel
theorem DM_X8_passes_34 : decode (mC M_X8_passes) 34 = .ok (.invokestatic 196, 3) := by decide +kernel
theorem DM_X8_passes_37 : decode (mC M_X8_passes) 37 = .ok (.aload_n 0, 1) := by decide +kernel
theorem DM_X8_passes_38 : decode (mC M_X8_passes) 38 = .ok (.getfield 47, 3) := by decide +kernel
theorem DM_X8_passes_41 : decode (mC M_X8_passes) 41 = .ok (.aload_n 0, 1) := by decide +kernel
theorem DM_X8_passes_42 : decode (mC M_X8_passes) 42 = .ok (.getfield 187, 3) := by decide +kernel
theorem DM_X8_passes_45 : decode (mC M_X8_passes) 45 = .ok (.iload_n 3, 1) := by decide +kernel
theorem DM_X8_passes_46 : decode (mC M_X8_passes) 46 = .ok (.iastore, 1) := by decide +kernel
theorem DM_X8_passes_47 : decode (mC M_X8_passes) 47 = .ok (.aload_n 0, 1) := by decide +kernel
theorem DM_X8_passes_48 : decode (mC M_X8_passes) 48 = .ok (.dup, 1) := by decide +kernel
theorem DM_X8_passes_49 : decode (mC M_X8_passes) 49 = .ok (.getfield 187, 3) := by decide +kernel
theorem DM_X8_passes_52 : decode (mC M_X8_passes) 52 = .ok (.iconst 1, 1) := by decide +kernel
theorem DM_X8_passes_53 : decode (mC M_X8_passes) 53 = .ok (.iadd, 1) := by decide +kernel
theorem DM_X8_passes_54 : decode (mC M_X8_passes) 54 = .ok (.putfield 187, 3) := by decide +kernel
theorem DM_X8_passes_57 : decode (mC M_X8_passes) 57 = .ok (.aload_n 1, 1) := by decide +kernel
theorem DM_X8_passes_58 : decode (mC M_X8_passes) 58 = .ok (.iload_n 2, 1) := by decide +kernel
theorem DM_X8_passes_59 : decode (mC M_X8_passes) 59 = .ok (.invokestatic 190, 3) := by decide +kernel
theorem DM_X8_passes_62 : decode (mC M_X8_passes) 62 = .ok (.istore_n 3, 1) := by decide +kernel
theorem DM_X8_passes_63 : decode (mC M_X8_passes) 63 = .ok (.goto (-48), 3) := by decide +kernel
theorem DM_X8_passes_66 : decode (mC M_X8_passes) 66 = .ok (.return_, 1) := by decide +kernel
theorem DM_X8_notes_0 : decode (mC M_X8_notes) 0 = .ok (.aload_n 0, 1) := by decide +kernel
theorem DM_X8_notes_1 : decode (mC M_X8_notes) 1 = .ok (.getfield 155, 3) := by decide +kernel
theorem DM_X8_notes_4 : decode (mC M_X8_notes) 4 = .ok (.bipush 24, 2) := by decide +kernel
theorem DM_X8_notes_6 : decode (mC M_X8_notes) 6 = .ok (.if_icmp .ne 43, 3) := by decide +kernel
theorem DM_X8_notes_9 : decode (mC M_X8_notes) 9 = .ok (.iconst 0, 1) := by decide +kernel
theorem DM_X8_notes_10 : decode (mC M_X8_notes) 10 = .ok (.istore_n 1, 1) := by decide +kernel
theorem DM_X8_notes_11 : decode (mC M_X8_notes) 11 = .ok (.iload_n 1, 1) := by decide +kernel
theorem DM_X8_notes_12 : decode (mC M_X8_notes) 12 = .ok (.sipush 2093, 3) := by decide +kernel
theorem DM_X8_notes_15 : decode (mC M_X8_notes) 15 = .ok (.if_icmp .ge 24, 3) := by decide +kernel
theorem DM_X8_notes_18 : decode (mC M_X8_notes) 18 = .ok (.aload_n 0, 1) := by decide +kernel
theorem DM_X8_notes_19 : decode (mC M_X8_notes) 19 = .ok (.getfield 34, 3) := by decide +kernel
theorem DM_X8_notes_22 : decode (mC M_X8_notes) 22 = .ok (.iload_n 1, 1) := by decide +kernel
theorem DM_X8_notes_23 : decode (mC M_X8_notes) 23 = .ok (.aload_n 0, 1) := by decide +kernel
theorem DM_X8_notes_24 : decode (mC M_X8_notes) 24 = .ok (.getfield 34, 3) := by decide +kernel
theorem DM_X8_notes_27 : decode (mC M_X8_notes) 27 = .ok (.iload_n 1, 1) := by decide +kernel
theorem DM_X8_notes_28 : decode (mC M_X8_notes) 28 = .ok (.bipush 91, 2) := by decide +kernel
theorem DM_X8_notes_30 : decode (mC M_X8_notes) 30 = .ok (.iadd, 1) := by decide +kernel
theorem DM_X8_notes_31 : decode (mC M_X8_notes) 31 = .ok (.iaload, 1) := by decide +kernel
theorem DM_X8_notes_32 : decode (mC M_X8_notes) 32 = .ok (.iastore, 1) := by decide +kernel
theorem DM_X8_notes_33 : decode (mC M_X8_notes) 33 = .ok (.iinc 1 1, 3) := by decide +kernel
theorem DM_X8_notes_36 : decode (mC M_X8_notes) 36 = .ok (.goto (-25), 3) := by decide +kernel
theorem DM_X8_notes_39 : decode (mC M_X8_notes) 39 = .ok (.aload_n 0, 1) := by decide +kernel
theorem DM_X8_notes_40 : decode (mC M_X8_notes) 40 = .ok (.dup, 1) := by decide +kernel
theorem DM_X8_notes_41 : decode (mC M_X8_notes) 41 = .ok (.getfield 155, 3) := by decide +kernel
theorem DM_X8_notes_44 : decode (mC M_X8_notes) 44 = .ok (.iconst 1, 1) := by decide +kernel
theorem DM_X8_notes_45 : decode (mC M_X8_notes) 45 = .ok (.isub, 1) := by decide +kernel
theorem DM_X8_notes_46 : decode (mC M_X8_notes) 46 = .ok (.putfield 155, 3) := by decide +kernel
theorem DM_X8_notes_49 : decode (mC M_X8_notes) 49 = .ok (.aload_n 0, 1) := by decide +kernel
theorem DM_X8_notes_50 : decode (mC M_X8_notes) 50 = .ok (.getfield 25, 3) := by decide +kernel
theorem DM_X8_notes_53 : decode (mC M_X8_notes) 53 = .ok (.iconst 0, 1) := by decide +kernel
theorem DM_X8_notes_54 : decode (mC M_X8_notes) 54 = .ok (.aload_n 0, 1) := by decide +kernel
theorem DM_X8_notes_55 : decode (mC M_X8_notes) 55 = .ok (.getfield 34, 3) := by decide +kernel
theorem DM_X8_notes_58 : decode (mC M_X8_notes) 58 = .ok (.bipush 91, 2) := by decide +kernel
theorem DM_X8_notes_60 : decode (mC M_X8_notes) 60 = .ok (.aload_n 0, 1) := by decide +kernel
theorem DM_X8_notes_61 : decode (mC M_X8_notes) 61 = .ok (.getfield 155, 3) := by decide +kernel
theorem DM_X8_notes_64 : decode (mC M_X8_notes) 64 = .ok (.imul, 1) := by decide +kernel
theorem DM_X8_notes_65 : decode (mC M_X8_notes) 65 = .ok (.invokestatic 151, 3) := by decide +kernel
theorem DM_X8_notes_68 : decode (mC M_X8_notes) 68 = .ok (.aload_n 0, 1) := by decide +kernel
theorem DM_X8_notes_69 : decode (mC M_X8_notes) 69 = .ok (.dup, 1) := by decide +kernel
theorem DM_X8_notes_70 : decode (mC M_X8_notes) 70 = .ok (.getfield 155, 3) := by decide +kernel
theorem DM_X8_notes_73 : decode (mC M_X8_notes) 73 = .ok (.iconst 1, 1) := by decide +kernel
theorem DM_X8_notes_74 : decode (mC M_X8_notes) 74 = .ok (.iadd, 1) := by decide +kernel
theorem DM_X8_notes_75 : decode (mC M_X8_notes) 75 = .ok (.putfield 155, 3) := by decide +kernel
theorem DM_X8_notes_78 : decode (mC M_X8_notes) 78 = .ok (.return_, 1) := by decide +kernel
theorem DM_X8_days_0 : decode (mC M_X8_days) 0 = .ok (.aload_n 0, 1) := by decide +kernel
theorem DM_X8_days_1 : decode (mC M_X8_days) 1 = .ok (.invokevirtual 200, 3) := by decide +kernel
theorem DM_X8_days_4 : decode (mC M_X8_days) 4 = .ok (.ifCond .ne 6, 3) := by decide +kernel
theorem DM_X8_days_7 : decode (mC M_X8_days) 7 = .ok (.ldc 203, 2) := by decide +kernel
theorem DM_X8_days_9 : decode (mC M_X8_days) 9 = .ok (.ireturn, 1) := by decide +kernel
theorem DM_X8_days_10 : decode (mC M_X8_days) 10 = .ok (.iload_n 1, 1) := by decide +kernel
theorem DM_X8_days_11 : decode (mC M_X8_days) 11 = .ok (.iconst 1, 1) := by decide +kernel
theorem DM_X8_days_12 : decode (mC M_X8_days) 12 = .ok (.bipush 20, 2) := by decide +kernel
theorem DM_X8_days_14 : decode (mC M_X8_days) 14 = .ok (.invokestatic 65, 3) := by decide +kernel
theorem DM_X8_days_17 : decode (mC M_X8_days) 17 = .ok (.ifCond .ne 6, 3) := by decide +kernel
theorem DM_X8_days_20 : decode (mC M_X8_days) 20 = .ok (.ldc 73, 2) := by decide +kernel
theorem DM_X8_days_22 : decode (mC M_X8_days) 22 = .ok (.ireturn, 1) := by decide +kernel
theorem DM_X8_days_23 : decode (mC M_X8_days) 23 = .ok (.aload_n 0, 1) := by decide +kernel
theorem DM_X8_days_24 : decode (mC M_X8_days) 24 = .ok (.getfield 25, 3) := by decide +kernel
theorem DM_X8_days_27 : decode (mC M_X8_days) 27 = .ok (.iconst 3, 1) := by decide +kernel
theorem DM_X8_days_28 : decode (mC M_X8_days) 28 = .ok (.iaload, 1) := by decide +kernel
theorem DM_X8_days_29 : decode (mC M_X8_days) 29 = .ok (.iload_n 1, 1) := by decide +kernel
theorem DM_X8_days_30 : decode (mC M_X8_days) 30 = .ok (.iadd, 1) := by decide +kernel
theorem DM_X8_days_31 : decode (mC M_X8_days) 31 = .ok (.sipush 999, 3) := by decide +kernel
theorem DM_X8_days_34 : decode (mC M_X8_days) 34 = .ok (.if_icmp .le 6, 3) := by decide +kernel
theorem DM_X8_days_37 : decode (mC M_X8_days) 37 = .ok (.ldc 94, 2) := by decide +kernel
theorem DM_X8_days_39 : decode (mC M_X8_days) 39 = .ok (.ireturn, 1) := by decide +kernel
theorem DM_X8_days_40 : decode (mC M_X8_days) 40 = .ok (.iconst 0, 1) := by decide +kernel
theorem DM_X8_days_41 : decode (mC M_X8_days) 41 = .ok (.istore_n 2, 1) := by decide +kernel
theorem DM_X8_days_42 : decode (mC M_X8_days) 42 = .ok (.iload_n 2, 1) := by decide +kernel
theorem DM_X8_days_43 : decode (mC M_X8_days) 43 = .ok (.iload_n 1, 1) := by decide +kernel
theorem DM_X8_days_44 : decode (mC M_X8_days) 44 = .ok (.if_icmp .ge 22, 3) := by decide +kernel
theorem DM_X8_days_47 : decode (mC M_X8_days) 47 = .ok (.aload_n 0, 1) := by decide +kernel
theorem DM_X8_days_48 : decode (mC M_X8_days) 48 = .ok (.invokevirtual 204, 3) := by decide +kernel
theorem DM_X8_days_51 : decode (mC M_X8_days) 51 = .ok (.aload_n 0, 1) := by decide +kernel
theorem DM_X8_days_52 : decode (mC M_X8_days) 52 = .ok (.aload_n 0, 1) := by decide +kernel
theorem DM_X8_days_53 : decode (mC M_X8_days) 53 = .ok (.getfield 25, 3) := by decide +kernel
theorem DM_X8_days_56 : decode (mC M_X8_days) 56 = .ok (.iconst 0, 1) := by decide +kernel
theorem DM_X8_days_57 : decode (mC M_X8_days) 57 = .ok (.invokevirtual 207, 3) := by decide +kernel
theorem DM_X8_days_60 : decode (mC M_X8_days) 60 = .ok (.iinc 2 1, 3) := by decide +kernel
theorem DM_X8_days_63 : decode (mC M_X8_days) 63 = .ok (.goto (-21), 3) := by decide +kernel
theorem DM_X8_days_66 : decode (mC M_X8_days) 66 = .ok (.aload_n 0, 1) := by decide +kernel
theorem DM_X8_days_67 : decode (mC M_X8_days) 67 = .ok (.getfield 25, 3) := by decide +kernel
theorem DM_X8_days_70 : decode (mC M_X8_days) 70 = .ok (.iconst 0, 1) := by decide +kernel
theorem DM_X8_days_71 : decode (mC M_X8_days) 71 = .ok (.invokestatic 193, 3) := by decide +kernel
theorem DM_X8_days_74 : decode (mC M_X8_days) 74 = .ok (.ireturn, 1) := by decide +kernel
theorem DM_X8_isPlaceOf_0 : decode (mC M_X8_isPlaceOf) 0 = .ok (.aload_n 0, 1) := by decide +kernel
theorem DM_X8_isPlaceOf_1 : decode (mC M_X8_isPlaceOf) 1 = .ok (.iload_n 1, 1) := by decide +kernel
theorem DM_X8_isPlaceOf_2 : decode (mC M_X8_isPlaceOf) 2 = .ok (.invokevirtual 210, 3) := by decide +kernel
theorem DM_X8_isPlaceOf_5 : decode (mC M_X8_isPlaceOf) 5 = .ok (.ifCond .eq 26, 3) := by decide +kernel
theorem DM_X8_isPlaceOf_8 : decode (mC M_X8_isPlaceOf) 8 = .ok (.iload_n 2, 1) := by decide +kernel
theorem DM_X8_isPlaceOf_9 : decode (mC M_X8_isPlaceOf) 9 = .ok (.iconst 0, 1) := by decide +kernel
theorem DM_X8_isPlaceOf_10 : decode (mC M_X8_isPlaceOf) 10 = .ok (.aload_n 0, 1) := by decide +kernel
theorem DM_X8_isPlaceOf_11 : decode (mC M_X8_isPlaceOf) 11 = .ok (.getfield 25, 3) := by decide +kernel
theorem DM_X8_isPlaceOf_14 : decode (mC M_X8_isPlaceOf) 14 = .ok (.iload_n 1, 1) := by decide +kernel
theorem DM_X8_isPlaceOf_15 : decode (mC M_X8_isPlaceOf) 15 = .ok (.iconst 3, 1) := by decide +kernel
theorem DM_X8_isPlaceOf_16 : decode (mC M_X8_isPlaceOf) 16 = .ok (.invokestatic 158, 3) := by decide +kernel
theorem DM_X8_isPlaceOf_19 : decode (mC M_X8_isPlaceOf) 19 = .ok (.iconst 1, 1) := by decide +kernel
theorem DM_X8_isPlaceOf_20 : decode (mC M_X8_isPlaceOf) 20 = .ok (.isub, 1) := by decide +kernel
theorem DM_X8_isPlaceOf_21 : decode (mC M_X8_isPlaceOf) 21 = .ok (.invokestatic 65, 3) := by decide +kernel
theorem DM_X8_isPlaceOf_24 : decode (mC M_X8_isPlaceOf) 24 = .ok (.ifCond .eq 7, 3) := by decide +kernel
theorem DM_X8_isPlaceOf_27 : decode (mC M_X8_isPlaceOf) 27 = .ok (.iconst 1, 1) := by decide +kernel
theorem DM_X8_isPlaceOf_28 : decode (mC M_X8_isPlaceOf) 28 = .ok (.goto 4, 3) := by decide +kernel
theorem DM_X8_isPlaceOf_31 : decode (mC M_X8_isPlaceOf) 31 = .ok (.iconst 0, 1) := by decide +kernel
theorem DM_X8_isPlaceOf_32 : decode (mC M_X8_isPlaceOf) 32 = .ok (.ireturn, 1) := by decide +kernel
theorem DM_X8_forge_0 : decode (mC M_X8_forge) 0 = .ok (.aload_n 0, 1) := by decide +kernel
theorem DM_X8_forge_1 : decode (mC M_X8_forge) 1 = .ok (.iload_n 1, 1) := by decide +kernel
theorem DM_X8_forge_2 : decode (mC M_X8_forge) 2 = .ok (.iload_n 2, 1) := by decide +kernel
theorem DM_X8_forge_3 : decode (mC M_X8_forge) 3 = .ok (.invokevirtual 213, 3) := by decide +kernel
theorem DM_X8_forge_6 : decode (mC M_X8_forge) 6 = .ok (.ifCond .eq 13, 3) := by decide +kernel
theorem DM_X8_forge_9 : decode (mC M_X8_forge) 9 = .ok (.iload_n 3, 1) := by decide +kernel
theorem DM_X8_forge_10 : decode (mC M_X8_forge) 10 = .ok (.iconst 0, 1) := by decide +kernel
theorem DM_X8_forge_11 : decode (mC M_X8_forge) 11 = .ok (.bipush 7, 2) := by decide +kernel
theorem DM_X8_forge_13 : decode (mC M_X8_forge) 13 = .ok (.invokestatic 65, 3) := by decide +kernel
theorem DM_X8_forge_16 : decode (mC M_X8_forge) 16 = .ok (.ifCond .ne 6, 3) := by decide +kernel
theorem DM_X8_forge_19 : decode (mC M_X8_forge) 19 = .ok (.ldc 73, 2) := by decide +kernel
theorem DM_X8_forge_21 : decode (mC M_X8_forge) 21 = .ok (.ireturn, 1) := by decide +kernel
theorem DM_X8_forge_22 : decode (mC M_X8_forge) 22 = .ok (.aload_n 0, 1) := by decide +kernel
theorem DM_X8_forge_23 : decode (mC M_X8_forge) 23 = .ok (.getfield 25, 3) := by decide +kernel
theorem DM_X8_forge_26 : decode (mC M_X8_forge) 26 = .ok (.iload_n 1, 1) := by decide +kernel
theorem DM_X8_forge_27 : decode (mC M_X8_forge) 27 = .ok (.iconst 4, 1) := by decide +kernel
theorem DM_X8_forge_28 : decode (mC M_X8_forge) 28 = .ok (.iload_n 2, 1) := by decide +kernel
theorem DM_X8_forge_29 : decode (mC M_X8_forge) 29 = .ok (.iadd, 1) := by decide +kernel
theorem DM_X8_forge_30 : decode (mC M_X8_forge) 30 = .ok (.invokestatic 158, 3) := by decide +kernel
theorem DM_X8_forge_33 : decode (mC M_X8_forge) 33 = .ok (.istore 4, 2) := by decide +kernel
theorem DM_X8_forge_35 : decode (mC M_X8_forge) 35 = .ok (.aload_n 0, 1) := by decide +kernel
theorem DM_X8_forge_36 : decode (mC M_X8_forge) 36 = .ok (.getfield 25, 3) := by decide +kernel
theorem DM_X8_forge_39 : decode (mC M_X8_forge) 39 = .ok (.iload_n 1, 1) := by decide +kernel
theorem DM_X8_forge_40 : decode (mC M_X8_forge) 40 = .ok (.iconst 0, 1) := by decide +kernel
theorem DM_X8_forge_41 : decode (mC M_X8_forge) 41 = .ok (.invokestatic 158, 3) := by decide +kernel
theorem DM_X8_forge_44 : decode (mC M_X8_forge) 44 = .ok (.iconst 3, 1) := by decide +kernel
theorem DM_X8_forge_45 : decode (mC M_X8_forge) 45 = .ok (.if_icmp .ne 20, 3) := by decide +kernel
theorem DM_X8_forge_48 : decode (mC M_X8_forge) 48 = .ok (.aload_n 0, 1) := by decide +kernel
theorem DM_X8_forge_49 : decode (mC M_X8_forge) 49 = .ok (.getfield 25, 3) := by decide +kernel
theorem DM_X8_forge_52 : decode (mC M_X8_forge) 52 = .ok (.iload_n 1, 1) := by decide +kernel
theorem DM_X8_forge_53 : decode (mC M_X8_forge) 53 = .ok (.invokestatic 172, 3) := by decide +kernel
theorem DM_X8_forge_56 : decode (mC M_X8_forge) 56 = .ok (.ifCond .eq 9, 3) := by decide +kernel
theorem DM_X8_forge_59 : decode (mC M_X8_forge) 59 = .ok (.iload 4, 2) := by decide +kernel
theorem DM_X8_forge_61 : decode (mC M_X8_forge) 61 = .ok (.iload_n 3, 1) := by decide +kernel
theorem DM_X8_forge_62 : decode (mC M_X8_forge) 62 = .ok (.if_icmp .ne 6, 3) := by decide +kernel
theorem DM_X8_forge_65 : decode (mC M_X8_forge) 65 = .ok (.ldc 203, 2) := by decide +kernel
theorem DM_X8_forge_67 : decode (mC M_X8_forge) 67 = .ok (.ireturn, 1) := by decide +kernel
theorem DM_X8_forge_68 : decode (mC M_X8_forge) 68 = .ok (.aload_n 0, 1) := by decide +kernel
theorem DM_X8_forge_69 : decode (mC M_X8_forge) 69 = .ok (.invokevirtual 204, 3) := by decide +kernel
theorem DM_X8_forge_72 : decode (mC M_X8_forge) 72 = .ok (.aload_n 0, 1) := by decide +kernel
theorem DM_X8_forge_73 : decode (mC M_X8_forge) 73 = .ok (.getfield 25, 3) := by decide +kernel
theorem DM_X8_forge_76 : decode (mC M_X8_forge) 76 = .ok (.bipush 13, 2) := by decide +kernel
theorem DM_X8_forge_78 : decode (mC M_X8_forge) 78 = .ok (.bipush 13, 2) := by decide +kernel
theorem DM_X8_forge_80 : decode (mC M_X8_forge) 80 = .ok (.iload_n 1, 1) := by decide +kernel
theorem DM_X8_forge_81 : decode (mC M_X8_forge) 81 = .ok (.imul, 1) := by decide +kernel
theorem DM_X8_forge_82 : decode (mC M_X8_forge) 82 = .ok (.iadd, 1) := by decide +kernel
theorem DM_X8_forge_83 : decode (mC M_X8_forge) 83 = .ok (.iconst 4, 1) := by decide +kernel
theorem DM_X8_forge_84 : decode (mC M_X8_forge) 84 = .ok (.iadd, 1) := by decide +kernel
theorem DM_X8_forge_85 : decode (mC M_X8_forge) 85 = .ok (.iload_n 2, 1) := by decide +kernel
theorem DM_X8_forge_86 : decode (mC M_X8_forge) 86 = .ok (.iadd, 1) := by decide +kernel
theorem DM_X8_forge_87 : decode (mC M_X8_forge) 87 = .ok (.iload_n 3, 1) := by decide +kernel
theorem DM_X8_forge_88 : decode (mC M_X8_forge) 88 = .ok (.iastore, 1) := by decide +kernel
theorem DM_X8_forge_89 : decode (mC M_X8_forge) 89 = .ok (.iload 4, 2) := by decide +kernel
theorem DM_X8_forge_91 : decode (mC M_X8_forge) 91 = .ok (.ireturn, 1) := by decide +kernel
theorem DM_X8_lose_0 : decode (mC M_X8_lose) 0 = .ok (.aload_n 0, 1) := by decide +kernel
theorem DM_X8_lose_1 : decode (mC M_X8_lose) 1 = .ok (.invokevirtual 200, 3) := by decide +kernel
theorem DM_X8_lose_4 : decode (mC M_X8_lose) 4 = .ok (.ifCond .ne 6, 3) := by decide +kernel
theorem DM_X8_lose_7 : decode (mC M_X8_lose) 7 = .ok (.ldc 203, 2) := by decide +kernel
theorem DM_X8_lose_9 : decode (mC M_X8_lose) 9 = .ok (.ireturn, 1) := by decide +kernel
theorem DM_X8_lose_10 : decode (mC M_X8_lose) 10 = .ok (.iload_n 1, 1) := by decide +kernel
theorem DM_X8_lose_11 : decode (mC M_X8_lose) 11 = .ok (.iconst 0, 1) := by decide +kernel
theorem DM_X8_lose_12 : decode (mC M_X8_lose) 12 = .ok (.bipush 7, 2) := by decide +kernel
theorem DM_X8_lose_14 : decode (mC M_X8_lose) 14 = .ok (.invokestatic 65, 3) := by decide +kernel
theorem DM_X8_lose_17 : decode (mC M_X8_lose) 17 = .ok (.ifCond .eq 12, 3) := by decide +kernel
theorem DM_X8_lose_20 : decode (mC M_X8_lose) 20 = .ok (.iload_n 2, 1) := by decide +kernel
theorem DM_X8_lose_21 : decode (mC M_X8_lose) 21 = .ok (.iconst 0, 1) := by decide +kernel
theorem DM_X8_lose_22 : decode (mC M_X8_lose) 22 = .ok (.iconst 1, 1) := by decide +kernel
theorem DM_X8_lose_23 : decode (mC M_X8_lose) 23 = .ok (.invokestatic 65, 3) := by decide +kernel
theorem DM_X8_lose_26 : decode (mC M_X8_lose) 26 = .ok (.ifCond .ne 6, 3) := by decide +kernel
theorem DM_X8_lose_29 : decode (mC M_X8_lose) 29 = .ok (.ldc 73, 2) := by decide +kernel
theorem DM_X8_lose_31 : decode (mC M_X8_lose) 31 = .ok (.ireturn, 1) := by decide +kernel
theorem DM_X8_lose_32 : decode (mC M_X8_lose) 32 = .ok (.aload_n 0, 1) := by decide +kernel
theorem DM_X8_lose_33 : decode (mC M_X8_lose) 33 = .ok (.getfield 25, 3) := by decide +kernel
theorem DM_X8_lose_36 : decode (mC M_X8_lose) 36 = .ok (.iconst 4, 1) := by decide +kernel
theorem DM_X8_lose_37 : decode (mC M_X8_lose) 37 = .ok (.iaload, 1) := by decide +kernel
theorem DM_X8_lose_38 : decode (mC M_X8_lose) 38 = .ok (.iload_n 1, 1) := by decide +kernel
theorem DM_X8_lose_39 : decode (mC M_X8_lose) 39 = .ok (.ishr, 1) := by decide +kernel
theorem DM_X8_lose_40 : decode (mC M_X8_lose) 40 = .ok (.iconst 1, 1) := by decide +kernel
theorem DM_X8_lose_41 : decode (mC M_X8_lose) 41 = .ok (.iand, 1) := by decide +kernel
theorem DM_X8_lose_42 : decode (mC M_X8_lose) 42 = .ok (.iload_n 2, 1) := by decide +kernel
theorem DM_X8_lose_43 : decode (mC M_X8_lose) 43 = .ok (.if_icmp .ne 6, 3) := by decide +kernel
theorem DM_X8_lose_46 : decode (mC M_X8_lose) 46 = .ok (.ldc 203, 2) := by decide +kernel
theorem DM_X8_lose_48 : decode (mC M_X8_lose) 48 = .ok (.ireturn, 1) := by decide +kernel
theorem DM_X8_lose_49 : decode (mC M_X8_lose) 49 = .ok (.aload_n 0, 1) := by decide +kernel
theorem DM_X8_lose_50 : decode (mC M_X8_lose) 50 = .ok (.invokevirtual 204, 3) := by decide +kernel
theorem DM_X8_lose_53 : decode (mC M_X8_lose) 53 = .ok (.aload_n 0, 1) := by decide +kernel
theorem DM_X8_lose_54 : decode (mC M_X8_lose) 54 = .ok (.getfield 25, 3) := by decide +kernel
theorem DM_X8_lose_57 : decode (mC M_X8_lose) 57 = .ok (.iconst 4, 1) := by decide +kernel
theorem DM_X8_lose_58 : decode (mC M_X8_lose) 58 = .ok (.dup2, 1) := by decide +kernel
theorem DM_X8_lose_59 : decode (mC M_X8_lose) 59 = .ok (.iaload, 1) := by decide +kernel
theorem DM_X8_lose_60 : decode (mC M_X8_lose) 60 = .ok (.iconst 1, 1) := by decide +kernel
theorem DM_X8_lose_61 : decode (mC M_X8_lose) 61 = .ok (.iload_n 1, 1) := by decide +kernel
theorem DM_X8_lose_62 : decode (mC M_X8_lose) 62 = .ok (.ishl, 1) := by decide +kernel
theorem DM_X8_lose_63 : decode (mC M_X8_lose) 63 = .ok (.ixor, 1) := by decide +kernel
theorem DM_X8_lose_64 : decode (mC M_X8_lose) 64 = .ok (.iastore, 1) := by decide +kernel
theorem DM_X8_lose_65 : decode (mC M_X8_lose) 65 = .ok (.iconst 1, 1) := by decide +kernel
theorem DM_X8_lose_66 : decode (mC M_X8_lose) 66 = .ok (.ireturn, 1) := by decide +kernel
theorem DM_X8_undo_0 : decode (mC M_X8_undo) 0 = .ok (.aload_n 0, 1) := by decide +kernel
theorem DM_X8_undo_1 : decode (mC M_X8_undo) 1 = .ok (.getfield 155, 3) := by decide +kernel
theorem DM_X8_undo_4 : decode (mC M_X8_undo) 4 = .ok (.ifCond .ne 6, 3) := by decide +kernel
theorem DM_X8_undo_7 : decode (mC M_X8_undo) 7 = .ok (.ldc 203, 2) := by decide +kernel
theorem DM_X8_undo_9 : decode (mC M_X8_undo) 9 = .ok (.ireturn, 1) := by decide +kernel
theorem DM_X8_undo_10 : decode (mC M_X8_undo) 10 = .ok (.aload_n 0, 1) := by decide +kernel
theorem DM_X8_undo_11 : decode (mC M_X8_undo) 11 = .ok (.dup, 1) := by decide +kernel
theorem DM_X8_undo_12 : decode (mC M_X8_undo) 12 = .ok (.getfield 155, 3) := by decide +kernel
theorem DM_X8_undo_15 : decode (mC M_X8_undo) 15 = .ok (.iconst 1, 1) := by decide +kernel
theorem DM_X8_undo_16 : decode (mC M_X8_undo) 16 = .ok (.isub, 1) := by decide +kernel
theorem DM_X8_undo_17 : decode (mC M_X8_undo) 17 = .ok (.putfield 155, 3) := by decide +kernel
theorem DM_X8_undo_20 : decode (mC M_X8_undo) 20 = .ok (.aload_n 0, 1) := by decide +kernel
theorem DM_X8_undo_21 : decode (mC M_X8_undo) 21 = .ok (.getfield 34, 3) := by decide +kernel
theorem DM_X8_undo_24 : decode (mC M_X8_undo) 24 = .ok (.bipush 91, 2) := by decide +kernel
theorem DM_X8_undo_26 : decode (mC M_X8_undo) 26 = .ok (.aload_n 0, 1) := by decide +kernel
theorem DM_X8_undo_27 : decode (mC M_X8_undo) 27 = .ok (.getfield 155, 3) := by decide +kernel
theorem DM_X8_undo_30 : decode (mC M_X8_undo) 30 = .ok (.imul, 1) := by decide +kernel
theorem DM_X8_undo_31 : decode (mC M_X8_undo) 31 = .ok (.aload_n 0, 1) := by decide +kernel
theorem DM_X8_undo_32 : decode (mC M_X8_undo) 32 = .ok (.getfield 25, 3) := by decide +kernel
theorem DM_X8_undo_35 : decode (mC M_X8_undo) 35 = .ok (.iconst 0, 1) := by decide +kernel
theorem DM_X8_undo_36 : decode (mC M_X8_undo) 36 = .ok (.invokestatic 151, 3) := by decide +kernel
theorem DM_X8_undo_39 : decode (mC M_X8_undo) 39 = .ok (.aload_n 0, 1) := by decide +kernel
theorem DM_X8_undo_40 : decode (mC M_X8_undo) 40 = .ok (.getfield 155, 3) := by decide +kernel
theorem DM_X8_undo_43 : decode (mC M_X8_undo) 43 = .ok (.ireturn, 1) := by decide +kernel
theorem DM_X8_beforeIt_0 : decode (mC M_X8_beforeIt) 0 = .ok (.iconst 0, 1) := by decide +kernel
theorem DM_X8_beforeIt_1 : decode (mC M_X8_beforeIt) 1 = .ok (.istore_n 2, 1) := by decide +kernel
theorem DM_X8_beforeIt_2 : decode (mC M_X8_beforeIt) 2 = .ok (.iconst 0, 1) := by decide +kernel
theorem DM_X8_beforeIt_3 : decode (mC M_X8_beforeIt) 3 = .ok (.istore_n 3, 1) := by decide +kernel
theorem DM_X8_beforeIt_4 : decode (mC M_X8_beforeIt) 4 = .ok (.iload_n 3, 1) := by decide +kernel
theorem DM_X8_beforeIt_5 : decode (mC M_X8_beforeIt) 5 = .ok (.aload_n 0, 1) := by decide +kernel
theorem DM_X8_beforeIt_6 : decode (mC M_X8_beforeIt) 6 = .ok (.getfield 25, 3) := by decide +kernel
theorem DM_X8_beforeIt_9 : decode (mC M_X8_beforeIt) 9 = .ok (.iconst 2, 1) := by decide +kernel
theorem DM_X8_beforeIt_10 : decode (mC M_X8_beforeIt) 10 = .ok (.iaload, 1) := by decide +kernel
theorem DM_X8_beforeIt_11 : decode (mC M_X8_beforeIt) 11 = .ok (.if_icmp .ge 46, 3) := by decide +kernel
theorem DM_X8_beforeIt_14 : decode (mC M_X8_beforeIt) 14 = .ok (.iload_n 2, 1) := by decide +kernel
theorem DM_X8_beforeIt_15 : decode (mC M_X8_beforeIt) 15 = .ok (.iload_n 3, 1) := by decide +kernel
theorem DM_X8_beforeIt_16 : decode (mC M_X8_beforeIt) 16 = .ok (.iload_n 1, 1) := by decide +kernel
theorem DM_X8_beforeIt_17 : decode (mC M_X8_beforeIt) 17 = .ok (.if_icmp .eq 31, 3) := by decide +kernel
theorem DM_X8_beforeIt_20 : decode (mC M_X8_beforeIt) 20 = .ok (.aload_n 0, 1) := by decide +kernel
theorem DM_X8_beforeIt_21 : decode (mC M_X8_beforeIt) 21 = .ok (.getfield 25, 3) := by decide +kernel
theorem DM_X8_beforeIt_24 : decode (mC M_X8_beforeIt) 24 = .ok (.iload_n 3, 1) := by decide +kernel
theorem DM_X8_beforeIt_25 : decode (mC M_X8_beforeIt) 25 = .ok (.invokestatic 172, 3) := by decide +kernel
theorem DM_X8_beforeIt_28 : decode (mC M_X8_beforeIt) 28 = .ok (.ifCond .eq 20, 3) := by decide +kernel
theorem DM_X8_beforeIt_31 : decode (mC M_X8_beforeIt) 31 = .ok (.aload_n 0, 1) := by decide +kernel
theorem DM_X8_beforeIt_32 : decode (mC M_X8_beforeIt) 32 = .ok (.getfield 25, 3) := by decide +kernel
theorem DM_X8_beforeIt_35 : decode (mC M_X8_beforeIt) 35 = .ok (.iload_n 3, 1) := by decide +kernel
theorem DM_X8_beforeIt_36 : decode (mC M_X8_beforeIt) 36 = .ok (.iload_n 1, 1) := by decide +kernel
theorem DM_X8_beforeIt_37 : decode (mC M_X8_beforeIt) 37 = .ok (.iconst 0, 1) := by decide +kernel
theorem DM_X8_beforeIt_38 : decode (mC M_X8_beforeIt) 38 = .ok (.invokestatic 179, 3) := by decide +kernel
theorem DM_X8_beforeIt_41 : decode (mC M_X8_beforeIt) 41 = .ok (.ifCond .eq 7, 3) := by decide +kernel
theorem DM_X8_beforeIt_44 : decode (mC M_X8_beforeIt) 44 = .ok (.iconst 1, 1) := by decide +kernel
theorem DM_X8_beforeIt_45 : decode (mC M_X8_beforeIt) 45 = .ok (.goto 4, 3) := by decide +kernel
theorem DM_X8_beforeIt_48 : decode (mC M_X8_beforeIt) 48 = .ok (.iconst 0, 1) := by decide +kernel
theorem DM_X8_beforeIt_49 : decode (mC M_X8_beforeIt) 49 = .ok (.iadd, 1) := by decide +kernel
theorem DM_X8_beforeIt_50 : decode (mC M_X8_beforeIt) 50 = .ok (.istore_n 2, 1) := by decide +kernel
theorem DM_X8_beforeIt_51 : decode (mC M_X8_beforeIt) 51 = .ok (.iinc 3 1, 3) := by decide +kernel
theorem DM_X8_beforeIt_54 : decode (mC M_X8_beforeIt) 54 = .ok (.goto (-50), 3) := by decide +kernel
theorem DM_X8_beforeIt_57 : decode (mC M_X8_beforeIt) 57 = .ok (.iload_n 2, 1) := by decide +kernel
theorem DM_X8_beforeIt_58 : decode (mC M_X8_beforeIt) 58 = .ok (.ireturn, 1) := by decide +kernel
theorem DM_X8_person_0 : decode (mC M_X8_person) 0 = .ok (.aload_n 0, 1) := by decide +kernel
theorem DM_X8_person_1 : decode (mC M_X8_person) 1 = .ok (.iload_n 1, 1) := by decide +kernel
theorem DM_X8_person_2 : decode (mC M_X8_person) 2 = .ok (.invokevirtual 210, 3) := by decide +kernel
theorem DM_X8_person_5 : decode (mC M_X8_person) 5 = .ok (.ifCond .ne 6, 3) := by decide +kernel
theorem DM_X8_person_8 : decode (mC M_X8_person) 8 = .ok (.ldc 73, 2) := by decide +kernel
theorem DM_X8_person_10 : decode (mC M_X8_person) 10 = .ok (.ireturn, 1) := by decide +kernel
theorem DM_X8_person_11 : decode (mC M_X8_person) 11 = .ok (.iload_n 2, 1) := by decide +kernel
theorem DM_X8_person_12 : decode (mC M_X8_person) 12 = .ok (.tableswitch 132 0 5 #[40, 50, 60, 70, 81, 110], 40) := by decide +kernel
theorem DM_X8_person_52 : decode (mC M_X8_person) 52 = .ok (.aload_n 0, 1) := by decide +kernel
theorem DM_X8_person_53 : decode (mC M_X8_person) 53 = .ok (.getfield 25, 3) := by decide +kernel
theorem DM_X8_person_56 : decode (mC M_X8_person) 56 = .ok (.iload_n 1, 1) := by decide +kernel
theorem DM_X8_person_57 : decode (mC M_X8_person) 57 = .ok (.iconst 1, 1) := by decide +kernel
theorem DM_X8_person_58 : decode (mC M_X8_person) 58 = .ok (.invokestatic 158, 3) := by decide +kernel
theorem DM_X8_person_61 : decode (mC M_X8_person) 61 = .ok (.ireturn, 1) := by decide +kernel
theorem DM_X8_person_62 : decode (mC M_X8_person) 62 = .ok (.aload_n 0, 1) := by decide +kernel
theorem DM_X8_person_63 : decode (mC M_X8_person) 63 = .ok (.getfield 25, 3) := by decide +kernel
theorem DM_X8_person_66 : decode (mC M_X8_person) 66 = .ok (.iload_n 1, 1) := by decide +kernel
theorem DM_X8_person_67 : decode (mC M_X8_person) 67 = .ok (.iconst 2, 1) := by decide +kernel
theorem DM_X8_person_68 : decode (mC M_X8_person) 68 = .ok (.invokestatic 158, 3) := by decide +kernel
theorem DM_X8_person_71 : decode (mC M_X8_person) 71 = .ok (.ireturn, 1) := by decide +kernel
theorem DM_X8_person_72 : decode (mC M_X8_person) 72 = .ok (.aload_n 0, 1) := by decide +kernel
theorem DM_X8_person_73 : decode (mC M_X8_person) 73 = .ok (.getfield 25, 3) := by decide +kernel
theorem DM_X8_person_76 : decode (mC M_X8_person) 76 = .ok (.iload_n 1, 1) := by decide +kernel
theorem DM_X8_person_77 : decode (mC M_X8_person) 77 = .ok (.iconst 3, 1) := by decide +kernel
theorem DM_X8_person_78 : decode (mC M_X8_person) 78 = .ok (.invokestatic 158, 3) := by decide +kernel
theorem DM_X8_person_81 : decode (mC M_X8_person) 81 = .ok (.ireturn, 1) := by decide +kernel
theorem DM_X8_person_82 : decode (mC M_X8_person) 82 = .ok (.aload_n 0, 1) := by decide +kernel
theorem DM_X8_person_83 : decode (mC M_X8_person) 83 = .ok (.getfield 25, 3) := by decide +kernel
theorem DM_X8_person_86 : decode (mC M_X8_person) 86 = .ok (.iload_n 1, 1) := by decide +kernel
theorem DM_X8_person_87 : decode (mC M_X8_person) 87 = .ok (.bipush 8, 2) := by decide +kernel
theorem DM_X8_person_89 : decode (mC M_X8_person) 89 = .ok (.invokestatic 158, 3) := by decide +kernel
theorem DM_X8_person_92 : decode (mC M_X8_person) 92 = .ok (.ireturn, 1) := by decide +kernel
theorem DM_X8_person_93 : decode (mC M_X8_person) 93 = .ok (.aload_n 0, 1) := by decide +kernel
theorem DM_X8_person_94 : decode (mC M_X8_person) 94 = .ok (.getfield 25, 3) := by decide +kernel
theorem DM_X8_person_97 : decode (mC M_X8_person) 97 = .ok (.iload_n 1, 1) := by decide +kernel
theorem DM_X8_person_98 : decode (mC M_X8_person) 98 = .ok (.bipush 8, 2) := by decide +kernel
theorem DM_X8_person_100 : decode (mC M_X8_person) 100 = .ok (.invokestatic 158, 3) := by decide +kernel
theorem DM_X8_person_103 : decode (mC M_X8_person) 103 = .ok (.iconst 1, 1) := by decide +kernel
theorem DM_X8_person_104 : decode (mC M_X8_person) 104 = .ok (.if_icmp .ne 16, 3) := by decide +kernel
theorem DM_X8_person_107 : decode (mC M_X8_person) 107 = .ok (.aload_n 0, 1) := by decide +kernel
theorem DM_X8_person_108 : decode (mC M_X8_person) 108 = .ok (.getfield 25, 3) := by decide +kernel
theorem DM_X8_person_111 : decode (mC M_X8_person) 111 = .ok (.iload_n 1, 1) := by decide +kernel
theorem DM_X8_person_112 : decode (mC M_X8_person) 112 = .ok (.bipush 9, 2) := by decide +kernel
theorem DM_X8_person_114 : decode (mC M_X8_person) 114 = .ok (.invokestatic 158, 3) := by decide +kernel
theorem DM_X8_person_117 : decode (mC M_X8_person) 117 = .ok (.goto 4, 3) := by decide +kernel
theorem DM_X8_person_120 : decode (mC M_X8_person) 120 = .ok (.iconst 0, 1) := by decide +kernel
theorem DM_X8_person_121 : decode (mC M_X8_person) 121 = .ok (.ireturn, 1) := by decide +kernel
theorem DM_X8_person_122 : decode (mC M_X8_person) 122 = .ok (.aload_n 0, 1) := by decide +kernel
theorem DM_X8_person_123 : decode (mC M_X8_person) 123 = .ok (.getfield 25, 3) := by decide +kernel
theorem DM_X8_person_126 : decode (mC M_X8_person) 126 = .ok (.iload_n 1, 1) := by decide +kernel
theorem DM_X8_person_127 : decode (mC M_X8_person) 127 = .ok (.invokestatic 172, 3) := by decide +kernel
theorem DM_X8_person_130 : decode (mC M_X8_person) 130 = .ok (.ifCond .eq 11, 3) := by decide +kernel
theorem DM_X8_person_133 : decode (mC M_X8_person) 133 = .ok (.aload_n 0, 1) := by decide +kernel
theorem DM_X8_person_134 : decode (mC M_X8_person) 134 = .ok (.iload_n 1, 1) := by decide +kernel
theorem DM_X8_person_135 : decode (mC M_X8_person) 135 = .ok (.invokevirtual 216, 3) := by decide +kernel
theorem DM_X8_person_138 : decode (mC M_X8_person) 138 = .ok (.goto 5, 3) := by decide +kernel
theorem DM_X8_person_141 : decode (mC M_X8_person) 141 = .ok (.ldc 59, 2) := by decide +kernel
theorem DM_X8_person_143 : decode (mC M_X8_person) 143 = .ok (.ireturn, 1) := by decide +kernel
theorem DM_X8_person_144 : decode (mC M_X8_person) 144 = .ok (.ldc 73, 2) := by decide +kernel
theorem DM_X8_person_146 : decode (mC M_X8_person) 146 = .ok (.ireturn, 1) := by decide +kernel
theorem DM_X8_name_0 : decode (mC M_X8_name) 0 = .ok (.aload_n 0, 1) := by decide +kernel
theorem DM_X8_name_1 : decode (mC M_X8_name) 1 = .ok (.iload_n 1, 1) := by decide +kernel
theorem DM_X8_name_2 : decode (mC M_X8_name) 2 = .ok (.iload_n 2, 1) := by decide +kernel
theorem DM_X8_name_3 : decode (mC M_X8_name) 3 = .ok (.invokevirtual 213, 3) := by decide +kernel
theorem DM_X8_name_6 : decode (mC M_X8_name) 6 = .ok (.ifCond .eq 17, 3) := by decide +kernel
theorem DM_X8_name_9 : decode (mC M_X8_name) 9 = .ok (.aload_n 0, 1) := by decide +kernel
theorem DM_X8_name_10 : decode (mC M_X8_name) 10 = .ok (.getfield 25, 3) := by decide +kernel
theorem DM_X8_name_13 : decode (mC M_X8_name) 13 = .ok (.iload_n 1, 1) := by decide +kernel
theorem DM_X8_name_14 : decode (mC M_X8_name) 14 = .ok (.iconst 4, 1) := by decide +kernel
theorem DM_X8_name_15 : decode (mC M_X8_name) 15 = .ok (.iload_n 2, 1) := by decide +kernel
theorem DM_X8_name_16 : decode (mC M_X8_name) 16 = .ok (.iadd, 1) := by decide +kernel
theorem DM_X8_name_17 : decode (mC M_X8_name) 17 = .ok (.invokestatic 158, 3) := by decide +kernel
theorem DM_X8_name_20 : decode (mC M_X8_name) 20 = .ok (.goto 5, 3) := by decide +kernel
theorem DM_X8_name_23 : decode (mC M_X8_name) 23 = .ok (.ldc 73, 2) := by decide +kernel
theorem DM_X8_name_25 : decode (mC M_X8_name) 25 = .ok (.ireturn, 1) := by decide +kernel
theorem DM_X8_order_0 : decode (mC M_X8_order) 0 = .ok (.aload_n 0, 1) := by decide +kernel
theorem DM_X8_order_1 : decode (mC M_X8_order) 1 = .ok (.invokevirtual 200, 3) := by decide +kernel
theorem DM_X8_order_4 : decode (mC M_X8_order) 4 = .ok (.ifCond .ne 6, 3) := by decide +kernel
theorem DM_X8_order_7 : decode (mC M_X8_order) 7 = .ok (.ldc 203, 2) := by decide +kernel
theorem DM_X8_order_9 : decode (mC M_X8_order) 9 = .ok (.ireturn, 1) := by decide +kernel
theorem DM_X8_order_10 : decode (mC M_X8_order) 10 = .ok (.iload_n 1, 1) := by decide +kernel
theorem DM_X8_order_11 : decode (mC M_X8_order) 11 = .ok (.iconst 0, 1) := by decide +kernel
theorem DM_X8_order_12 : decode (mC M_X8_order) 12 = .ok (.bipush 7, 2) := by decide +kernel
theorem DM_X8_order_14 : decode (mC M_X8_order) 14 = .ok (.invokestatic 65, 3) := by decide +kernel
theorem DM_X8_order_17 : decode (mC M_X8_order) 17 = .ok (.ifCond .ne 6, 3) := by decide +kernel
theorem DM_X8_order_20 : decode (mC M_X8_order) 20 = .ok (.ldc 73, 2) := by decide +kernel
theorem DM_X8_order_22 : decode (mC M_X8_order) 22 = .ok (.ireturn, 1) := by decide +kernel
theorem DM_X8_order_23 : decode (mC M_X8_order) 23 = .ok (.aload_n 0, 1) := by decide +kernel
theorem DM_X8_order_24 : decode (mC M_X8_order) 24 = .ok (.getfield 25, 3) := by decide +kernel
theorem DM_X8_order_27 : decode (mC M_X8_order) 27 = .ok (.iconst 1, 1) := by decide +kernel
theorem DM_X8_order_28 : decode (mC M_X8_order) 28 = .ok (.iaload, 1) := by decide +kernel
theorem DM_X8_order_29 : decode (mC M_X8_order) 29 = .ok (.ifCond .ne 7, 3) := by decide +kernel
theorem DM_X8_order_32 : decode (mC M_X8_order) 32 = .ok (.iconst 0, 1) := by decide +kernel
theorem DM_X8_order_33 : decode (mC M_X8_order) 33 = .ok (.goto 16, 3) := by decide +kernel
theorem DM_X8_order_36 : decode (mC M_X8_order) 36 = .ok (.aload_n 0, 1) := by decide +kernel
theorem DM_X8_order_37 : decode (mC M_X8_order) 37 = .ok (.getfield 25, 3) := by decide +kernel
theorem DM_X8_order_40 : decode (mC M_X8_order) 40 = .ok (.iconst 3, 1) := by decide +kernel
theorem DM_X8_order_41 : decode (mC M_X8_order) 41 = .ok (.iaload, 1) := by decide +kernel
theorem DM_X8_order_42 : decode (mC M_X8_order) 42 = .ok (.aload_n 0, 1) := by decide +kernel
theorem DM_X8_order_43 : decode (mC M_X8_order) 43 = .ok (.getfield 25, 3) := by decide +kernel
theorem DM_X8_order_46 : decode (mC M_X8_order) 46 = .ok (.iconst 1, 1) := by decide +kernel
theorem DM_X8_order_47 : decode (mC M_X8_order) 47 = .ok (.iaload, 1) := by decide +kernel
theorem DM_X8_order_48 : decode (mC M_X8_order) 48 = .ok (.idiv, 1) := by decide +kernel
theorem DM_X8_order_49 : decode (mC M_X8_order) 49 = .ok (.istore_n 2, 1) := by decide +kernel
theorem DM_X8_order_50 : decode (mC M_X8_order) 50 = .ok (.aload_n 0, 1) := by decide +kernel
theorem DM_X8_order_51 : decode (mC M_X8_order) 51 = .ok (.getfield 25, 3) := by decide +kernel
theorem DM_X8_order_54 : decode (mC M_X8_order) 54 = .ok (.iconst 5, 1) := by decide +kernel
theorem DM_X8_order_55 : decode (mC M_X8_order) 55 = .ok (.iload_n 1, 1) := by decide +kernel
theorem DM_X8_order_56 : decode (mC M_X8_order) 56 = .ok (.iload_n 2, 1) := by decide +kernel
theorem DM_X8_order_57 : decode (mC M_X8_order) 57 = .ok (.iadd, 1) := by decide +kernel
theorem DM_X8_order_58 : decode (mC M_X8_order) 58 = .ok (.bipush 8, 2) := by decide +kernel
theorem DM_X8_order_60 : decode (mC M_X8_order) 60 = .ok (.irem, 1) := by decide +kernel
theorem DM_X8_order_61 : decode (mC M_X8_order) 61 = .ok (.iadd, 1) := by decide +kernel
theorem DM_X8_order_62 : decode (mC M_X8_order) 62 = .ok (.iaload, 1) := by decide +kernel
theorem DM_X8_order_63 : decode (mC M_X8_order) 63 = .ok (.ireturn, 1) := by decide +kernel
theorem DM_X8_goes_0 : decode (mC M_X8_goes) 0 = .ok (.aload_n 0, 1) := by decide +kernel
theorem DM_X8_goes_1 : decode (mC M_X8_goes) 1 = .ok (.getfield 25, 3) := by decide +kernel
theorem DM_X8_goes_4 : decode (mC M_X8_goes) 4 = .ok (.iconst 0, 1) := by decide +kernel
theorem DM_X8_goes_5 : decode (mC M_X8_goes) 5 = .ok (.aload_n 0, 1) := by decide +kernel
theorem DM_X8_goes_6 : decode (mC M_X8_goes) 6 = .ok (.getfield 31, 3) := by decide +kernel
theorem DM_X8_goes_9 : decode (mC M_X8_goes) 9 = .ok (.iconst 0, 1) := by decide +kernel
theorem DM_X8_goes_10 : decode (mC M_X8_goes) 10 = .ok (.invokestatic 151, 3) := by decide +kernel
theorem DM_X8_goes_13 : decode (mC M_X8_goes) 13 = .ok (.iconst 0, 1) := by decide +kernel
theorem DM_X8_goes_14 : decode (mC M_X8_goes) 14 = .ok (.istore_n 2, 1) := by decide +kernel
theorem DM_X8_goes_15 : decode (mC M_X8_goes) 15 = .ok (.iload_n 2, 1) := by decide +kernel
theorem DM_X8_goes_16 : decode (mC M_X8_goes) 16 = .ok (.sipush 300, 3) := by decide +kernel
theorem DM_X8_goes_19 : decode (mC M_X8_goes) 19 = .ok (.if_icmp .ge 18, 3) := by decide +kernel
theorem DM_X8_goes_22 : decode (mC M_X8_goes) 22 = .ok (.aload_n 0, 1) := by decide +kernel
theorem DM_X8_goes_23 : decode (mC M_X8_goes) 23 = .ok (.aload_n 0, 1) := by decide +kernel
theorem DM_X8_goes_24 : decode (mC M_X8_goes) 24 = .ok (.getfield 31, 3) := by decide +kernel
theorem DM_X8_goes_27 : decode (mC M_X8_goes) 27 = .ok (.iload_n 1, 1) := by decide +kernel
theorem DM_X8_goes_28 : decode (mC M_X8_goes) 28 = .ok (.invokevirtual 207, 3) := by decide +kernel
theorem DM_X8_goes_31 : decode (mC M_X8_goes) 31 = .ok (.iinc 2 1, 3) := by decide +kernel
theorem DM_X8_goes_34 : decode (mC M_X8_goes) 34 = .ok (.goto (-19), 3) := by decide +kernel
theorem DM_X8_goes_37 : decode (mC M_X8_goes) 37 = .ok (.return_, 1) := by decide +kernel
theorem DM_X8_when_0 : decode (mC M_X8_when) 0 = .ok (.aload_n 0, 1) := by decide +kernel
theorem DM_X8_when_1 : decode (mC M_X8_when) 1 = .ok (.iload_n 1, 1) := by decide +kernel
theorem DM_X8_when_2 : decode (mC M_X8_when) 2 = .ok (.invokevirtual 210, 3) := by decide +kernel
theorem DM_X8_when_5 : decode (mC M_X8_when) 5 = .ok (.ifCond .eq 12, 3) := by decide +kernel
theorem DM_X8_when_8 : decode (mC M_X8_when) 8 = .ok (.iload_n 2, 1) := by decide +kernel
theorem DM_X8_when_9 : decode (mC M_X8_when) 9 = .ok (.iconst 0, 1) := by decide +kernel
theorem DM_X8_when_10 : decode (mC M_X8_when) 10 = .ok (.iconst 2, 1) := by decide +kernel
theorem DM_X8_when_11 : decode (mC M_X8_when) 11 = .ok (.invokestatic 65, 3) := by decide +kernel
theorem DM_X8_when_14 : decode (mC M_X8_when) 14 = .ok (.ifCond .ne 6, 3) := by decide +kernel
theorem DM_X8_when_17 : decode (mC M_X8_when) 17 = .ok (.ldc 73, 2) := by decide +kernel
theorem DM_X8_when_19 : decode (mC M_X8_when) 19 = .ok (.ireturn, 1) := by decide +kernel
theorem DM_X8_when_20 : decode (mC M_X8_when) 20 = .ok (.aload_n 0, 1) := by decide +kernel
theorem DM_X8_when_21 : decode (mC M_X8_when) 21 = .ok (.iconst 0, 1) := by decide +kernel
theorem DM_X8_when_22 : decode (mC M_X8_when) 22 = .ok (.invokevirtual 219, 3) := by decide +kernel
theorem DM_X8_when_25 : decode (mC M_X8_when) 25 = .ok (.aload_n 0, 1) := by decide +kernel
theorem DM_X8_when_26 : decode (mC M_X8_when) 26 = .ok (.getfield 31, 3) := by decide +kernel
theorem DM_X8_when_29 : decode (mC M_X8_when) 29 = .ok (.iload_n 1, 1) := by decide +kernel
theorem DM_X8_when_30 : decode (mC M_X8_when) 30 = .ok (.bipush 10, 2) := by decide +kernel
theorem DM_X8_when_32 : decode (mC M_X8_when) 32 = .ok (.iload_n 2, 1) := by decide +kernel
theorem DM_X8_when_33 : decode (mC M_X8_when) 33 = .ok (.iadd, 1) := by decide +kernel
theorem DM_X8_when_34 : decode (mC M_X8_when) 34 = .ok (.invokestatic 158, 3) := by decide +kernel
theorem DM_X8_when_37 : decode (mC M_X8_when) 37 = .ok (.ireturn, 1) := by decide +kernel
theorem DM_X8_waitedTried_0 : decode (mC M_X8_waitedTried) 0 = .ok (.iconst 0, 1) := by decide +kernel
theorem DM_X8_waitedTried_1 : decode (mC M_X8_waitedTried) 1 = .ok (.istore_n 1, 1) := by decide +kernel
theorem DM_X8_waitedTried_2 : decode (mC M_X8_waitedTried) 2 = .ok (.iconst 0, 1) := by decide +kernel
theorem DM_X8_waitedTried_3 : decode (mC M_X8_waitedTried) 3 = .ok (.istore_n 2, 1) := by decide +kernel
theorem DM_X8_waitedTried_4 : decode (mC M_X8_waitedTried) 4 = .ok (.iload_n 2, 1) := by decide +kernel
theorem DM_X8_waitedTried_5 : decode (mC M_X8_waitedTried) 5 = .ok (.aload_n 0, 1) := by decide +kernel
theorem DM_X8_waitedTried_6 : decode (mC M_X8_waitedTried) 6 = .ok (.getfield 31, 3) := by decide +kernel
theorem DM_X8_waitedTried_9 : decode (mC M_X8_waitedTried) 9 = .ok (.iconst 2, 1) := by decide +kernel
theorem DM_X8_waitedTried_10 : decode (mC M_X8_waitedTried) 10 = .ok (.iaload, 1) := by decide +kernel
theorem DM_X8_waitedTried_11 : decode (mC M_X8_waitedTried) 11 = .ok (.if_icmp .ge 67, 3) := by decide +kernel
theorem DM_X8_waitedTried_14 : decode (mC M_X8_waitedTried) 14 = .ok (.aload_n 0, 1) := by decide +kernel
theorem DM_X8_waitedTried_15 : decode (mC M_X8_waitedTried) 15 = .ok (.getfield 31, 3) := by decide +kernel
theorem DM_X8_waitedTried_18 : decode (mC M_X8_waitedTried) 18 = .ok (.iload_n 2, 1) := by decide +kernel
theorem DM_X8_waitedTried_19 : decode (mC M_X8_waitedTried) 19 = .ok (.bipush 10, 2) := by decide +kernel
theorem DM_X8_waitedTried_21 : decode (mC M_X8_waitedTried) 21 = .ok (.invokestatic 158, 3) := by decide +kernel
theorem DM_X8_waitedTried_24 : decode (mC M_X8_waitedTried) 24 = .ok (.istore_n 3, 1) := by decide +kernel
theorem DM_X8_waitedTried_25 : decode (mC M_X8_waitedTried) 25 = .ok (.aload_n 0, 1) := by decide +kernel
theorem DM_X8_waitedTried_26 : decode (mC M_X8_waitedTried) 26 = .ok (.getfield 31, 3) := by decide +kernel
theorem DM_X8_waitedTried_29 : decode (mC M_X8_waitedTried) 29 = .ok (.iload_n 2, 1) := by decide +kernel
theorem DM_X8_waitedTried_30 : decode (mC M_X8_waitedTried) 30 = .ok (.bipush 12, 2) := by decide +kernel
theorem DM_X8_waitedTried_32 : decode (mC M_X8_waitedTried) 32 = .ok (.invokestatic 158, 3) := by decide +kernel
theorem DM_X8_waitedTried_35 : decode (mC M_X8_waitedTried) 35 = .ok (.istore 4, 2) := by decide +kernel
theorem DM_X8_waitedTried_37 : decode (mC M_X8_waitedTried) 37 = .ok (.iload_n 1, 1) := by decide +kernel
theorem DM_X8_waitedTried_38 : decode (mC M_X8_waitedTried) 38 = .ok (.iload_n 3, 1) := by decide +kernel
theorem DM_X8_waitedTried_39 : decode (mC M_X8_waitedTried) 39 = .ok (.ldc 59, 2) := by decide +kernel
theorem DM_X8_waitedTried_41 : decode (mC M_X8_waitedTried) 41 = .ok (.if_icmp .eq 7, 3) := by decide +kernel
theorem DM_X8_waitedTried_44 : decode (mC M_X8_waitedTried) 44 = .ok (.iload_n 3, 1) := by decide +kernel
theorem DM_X8_waitedTried_45 : decode (mC M_X8_waitedTried) 45 = .ok (.goto 25, 3) := by decide +kernel
theorem DM_X8_waitedTried_48 : decode (mC M_X8_waitedTried) 48 = .ok (.iload 4, 2) := by decide +kernel
theorem DM_X8_waitedTried_50 : decode (mC M_X8_waitedTried) 50 = .ok (.ldc 59, 2) := by decide +kernel
theorem DM_X8_waitedTried_52 : decode (mC M_X8_waitedTried) 52 = .ok (.if_icmp .eq 8, 3) := by decide +kernel
theorem DM_X8_waitedTried_55 : decode (mC M_X8_waitedTried) 55 = .ok (.iload 4, 2) := by decide +kernel
theorem DM_X8_waitedTried_57 : decode (mC M_X8_waitedTried) 57 = .ok (.goto 13, 3) := by decide +kernel
theorem DM_X8_waitedTried_60 : decode (mC M_X8_waitedTried) 60 = .ok (.aload_n 0, 1) := by decide +kernel
theorem DM_X8_waitedTried_61 : decode (mC M_X8_waitedTried) 61 = .ok (.getfield 25, 3) := by decide +kernel
theorem DM_X8_waitedTried_64 : decode (mC M_X8_waitedTried) 64 = .ok (.iconst 3, 1) := by decide +kernel
theorem DM_X8_waitedTried_65 : decode (mC M_X8_waitedTried) 65 = .ok (.iaload, 1) := by decide +kernel
theorem DM_X8_waitedTried_66 : decode (mC M_X8_waitedTried) 66 = .ok (.sipush 300, 3) := by decide +kernel
theorem DM_X8_waitedTried_69 : decode (mC M_X8_waitedTried) 69 = .ok (.iadd, 1) := by decide +kernel
theorem DM_X8_waitedTried_70 : decode (mC M_X8_waitedTried) 70 = .ok (.iadd, 1) := by decide +kernel
theorem DM_X8_waitedTried_71 : decode (mC M_X8_waitedTried) 71 = .ok (.istore_n 1, 1) := by decide +kernel
theorem DM_X8_waitedTried_72 : decode (mC M_X8_waitedTried) 72 = .ok (.iinc 2 1, 3) := by decide +kernel
theorem DM_X8_waitedTried_75 : decode (mC M_X8_waitedTried) 75 = .ok (.goto (-71), 3) := by decide +kernel
theorem DM_X8_waitedTried_78 : decode (mC M_X8_waitedTried) 78 = .ok (.iload_n 1, 1) := by decide +kernel
theorem DM_X8_waitedTried_79 : decode (mC M_X8_waitedTried) 79 = .ok (.ireturn, 1) := by decide +kernel
theorem DM_X8_waited_0 : decode (mC M_X8_waited) 0 = .ok (.aload_n 0, 1) := by decide +kernel
theorem DM_X8_waited_1 : decode (mC M_X8_waited) 1 = .ok (.invokevirtual 200, 3) := by decide +kernel
theorem DM_X8_waited_4 : decode (mC M_X8_waited) 4 = .ok (.ifCond .ne 6, 3) := by decide +kernel
theorem DM_X8_waited_7 : decode (mC M_X8_waited) 7 = .ok (.ldc 203, 2) := by decide +kernel
theorem DM_X8_waited_9 : decode (mC M_X8_waited) 9 = .ok (.ireturn, 1) := by decide +kernel
theorem DM_X8_waited_10 : decode (mC M_X8_waited) 10 = .ok (.aload_n 0, 1) := by decide +kernel
theorem DM_X8_waited_11 : decode (mC M_X8_waited) 11 = .ok (.iconst 0, 1) := by decide +kernel
theorem DM_X8_waited_12 : decode (mC M_X8_waited) 12 = .ok (.invokevirtual 219, 3) := by decide +kernel
theorem DM_X8_waited_15 : decode (mC M_X8_waited) 15 = .ok (.aload_n 0, 1) := by decide +kernel
theorem DM_X8_waited_16 : decode (mC M_X8_waited) 16 = .ok (.invokevirtual 223, 3) := by decide +kernel
theorem DM_X8_waited_19 : decode (mC M_X8_waited) 19 = .ok (.ireturn, 1) := by decide +kernel
theorem DM_X8_isLast_0 : decode (mC M_X8_isLast) 0 = .ok (.iconst 1, 1) := by decide +kernel
theorem DM_X8_isLast_1 : decode (mC M_X8_isLast) 1 = .ok (.istore_n 3, 1) := by decide +kernel
theorem DM_X8_isLast_2 : decode (mC M_X8_isLast) 2 = .ok (.iconst 0, 1) := by decide +kernel
theorem DM_X8_isLast_3 : decode (mC M_X8_isLast) 3 = .ok (.istore 4, 2) := by decide +kernel
theorem DM_X8_isLast_5 : decode (mC M_X8_isLast) 5 = .ok (.iload 4, 2) := by decide +kernel
theorem DM_X8_isLast_7 : decode (mC M_X8_isLast) 7 = .ok (.aload_n 1, 1) := by decide +kernel
theorem DM_X8_isLast_8 : decode (mC M_X8_isLast) 8 = .ok (.iconst 2, 1) := by decide +kernel
theorem DM_X8_isLast_9 : decode (mC M_X8_isLast) 9 = .ok (.iaload, 1) := by decide +kernel
theorem DM_X8_isLast_10 : decode (mC M_X8_isLast) 10 = .ok (.if_icmp .ge 45, 3) := by decide +kernel
theorem DM_X8_isLast_13 : decode (mC M_X8_isLast) 13 = .ok (.iload_n 3, 1) := by decide +kernel
theorem DM_X8_isLast_14 : decode (mC M_X8_isLast) 14 = .ok (.ifCond .eq 33, 3) := by decide +kernel
theorem DM_X8_isLast_17 : decode (mC M_X8_isLast) 17 = .ok (.iload 4, 2) := by decide +kernel
theorem DM_X8_isLast_19 : decode (mC M_X8_isLast) 19 = .ok (.iload_n 2, 1) := by decide +kernel
theorem DM_X8_isLast_20 : decode (mC M_X8_isLast) 20 = .ok (.if_icmp .eq 23, 3) := by decide +kernel
theorem DM_X8_isLast_23 : decode (mC M_X8_isLast) 23 = .ok (.aload_n 1, 1) := by decide +kernel
theorem DM_X8_isLast_24 : decode (mC M_X8_isLast) 24 = .ok (.iload 4, 2) := by decide +kernel
theorem DM_X8_isLast_26 : decode (mC M_X8_isLast) 26 = .ok (.invokestatic 172, 3) := by decide +kernel
theorem DM_X8_isLast_29 : decode (mC M_X8_isLast) 29 = .ok (.ifCond .eq 14, 3) := by decide +kernel
theorem DM_X8_isLast_32 : decode (mC M_X8_isLast) 32 = .ok (.aload_n 1, 1) := by decide +kernel
theorem DM_X8_isLast_33 : decode (mC M_X8_isLast) 33 = .ok (.iload 4, 2) := by decide +kernel
theorem DM_X8_isLast_35 : decode (mC M_X8_isLast) 35 = .ok (.iload_n 2, 1) := by decide +kernel
theorem DM_X8_isLast_36 : decode (mC M_X8_isLast) 36 = .ok (.iconst 0, 1) := by decide +kernel
theorem DM_X8_isLast_37 : decode (mC M_X8_isLast) 37 = .ok (.invokestatic 179, 3) := by decide +kernel
theorem DM_X8_isLast_40 : decode (mC M_X8_isLast) 40 = .ok (.ifCond .eq 7, 3) := by decide +kernel
theorem DM_X8_isLast_43 : decode (mC M_X8_isLast) 43 = .ok (.iconst 1, 1) := by decide +kernel
theorem DM_X8_isLast_44 : decode (mC M_X8_isLast) 44 = .ok (.goto 4, 3) := by decide +kernel
theorem DM_X8_isLast_47 : decode (mC M_X8_isLast) 47 = .ok (.iconst 0, 1) := by decide +kernel
theorem DM_X8_isLast_48 : decode (mC M_X8_isLast) 48 = .ok (.istore_n 3, 1) := by decide +kernel
theorem DM_X8_isLast_49 : decode (mC M_X8_isLast) 49 = .ok (.iinc 4 1, 3) := by decide +kernel
theorem DM_X8_isLast_52 : decode (mC M_X8_isLast) 52 = .ok (.goto (-47), 3) := by decide +kernel
theorem DM_X8_isLast_55 : decode (mC M_X8_isLast) 55 = .ok (.iload_n 3, 1) := by decide +kernel
theorem DM_X8_isLast_56 : decode (mC M_X8_isLast) 56 = .ok (.ireturn, 1) := by decide +kernel
theorem DM_X8_power_0 : decode (mC M_X8_power) 0 = .ok (.iconst 1, 1) := by decide +kernel
theorem DM_X8_power_1 : decode (mC M_X8_power) 1 = .ok (.istore_n 2, 1) := by decide +kernel
theorem DM_X8_power_2 : decode (mC M_X8_power) 2 = .ok (.iconst 0, 1) := by decide +kernel
theorem DM_X8_power_3 : decode (mC M_X8_power) 3 = .ok (.istore_n 3, 1) := by decide +kernel
theorem DM_X8_power_4 : decode (mC M_X8_power) 4 = .ok (.iload_n 3, 1) := by decide +kernel
theorem DM_X8_power_5 : decode (mC M_X8_power) 5 = .ok (.iload_n 1, 1) := by decide +kernel
theorem DM_X8_power_6 : decode (mC M_X8_power) 6 = .ok (.if_icmp .ge 13, 3) := by decide +kernel
theorem DM_X8_power_9 : decode (mC M_X8_power) 9 = .ok (.iload_n 2, 1) := by decide +kernel
theorem DM_X8_power_10 : decode (mC M_X8_power) 10 = .ok (.iload_n 0, 1) := by decide +kernel
theorem DM_X8_power_11 : decode (mC M_X8_power) 11 = .ok (.imul, 1) := by decide +kernel
theorem DM_X8_power_12 : decode (mC M_X8_power) 12 = .ok (.istore_n 2, 1) := by decide +kernel
theorem DM_X8_power_13 : decode (mC M_X8_power) 13 = .ok (.iinc 3 1, 3) := by decide +kernel
theorem DM_X8_power_16 : decode (mC M_X8_power) 16 = .ok (.goto (-12), 3) := by decide +kernel
theorem DM_X8_power_19 : decode (mC M_X8_power) 19 = .ok (.iload_n 2, 1) := by decide +kernel
theorem DM_X8_power_20 : decode (mC M_X8_power) 20 = .ok (.ireturn, 1) := by decide +kernel
theorem DM_X8_lays_0 : decode (mC M_X8_lays) 0 = .ok (.aload_n 0, 1) := by decide +kernel
theorem DM_X8_lays_1 : decode (mC M_X8_lays) 1 = .ok (.getfield 25, 3) := by decide +kernel
theorem DM_X8_lays_4 : decode (mC M_X8_lays) 4 = .ok (.iload_n 1, 1) := by decide +kernel
theorem DM_X8_lays_5 : decode (mC M_X8_lays) 5 = .ok (.iconst 3, 1) := by decide +kernel
theorem DM_X8_lays_6 : decode (mC M_X8_lays) 6 = .ok (.invokestatic 158, 3) := by decide +kernel
theorem DM_X8_lays_9 : decode (mC M_X8_lays) 9 = .ok (.istore_n 3, 1) := by decide +kernel
theorem DM_X8_lays_10 : decode (mC M_X8_lays) 10 = .ok (.iconst 0, 1) := by decide +kernel
theorem DM_X8_lays_11 : decode (mC M_X8_lays) 11 = .ok (.istore 4, 2) := by decide +kernel
theorem DM_X8_lays_13 : decode (mC M_X8_lays) 13 = .ok (.iconst 0, 1) := by decide +kernel
theorem DM_X8_lays_14 : decode (mC M_X8_lays) 14 = .ok (.istore 5, 2) := by decide +kernel
theorem DM_X8_lays_16 : decode (mC M_X8_lays) 16 = .ok (.iload 5, 2) := by decide +kernel
theorem DM_X8_lays_18 : decode (mC M_X8_lays) 18 = .ok (.iload_n 3, 1) := by decide +kernel
theorem DM_X8_lays_19 : decode (mC M_X8_lays) 19 = .ok (.if_icmp .ge 73, 3) := by decide +kernel
theorem DM_X8_lays_22 : decode (mC M_X8_lays) 22 = .ok (.iload_n 2, 1) := by decide +kernel
theorem DM_X8_lays_23 : decode (mC M_X8_lays) 23 = .ok (.bipush 8, 2) := by decide +kernel
theorem DM_X8_lays_25 : decode (mC M_X8_lays) 25 = .ok (.iload_n 3, 1) := by decide +kernel
theorem DM_X8_lays_26 : decode (mC M_X8_lays) 26 = .ok (.iconst 1, 1) := by decide +kernel
theorem DM_X8_lays_27 : decode (mC M_X8_lays) 27 = .ok (.isub, 1) := by decide +kernel
theorem DM_X8_lays_28 : decode (mC M_X8_lays) 28 = .ok (.iload 5, 2) := by decide +kernel
theorem DM_X8_lays_30 : decode (mC M_X8_lays) 30 = .ok (.isub, 1) := by decide +kernel
theorem DM_X8_lays_31 : decode (mC M_X8_lays) 31 = .ok (.invokestatic 227, 3) := by decide +kernel
theorem DM_X8_lays_34 : decode (mC M_X8_lays) 34 = .ok (.idiv, 1) := by decide +kernel
theorem DM_X8_lays_35 : decode (mC M_X8_lays) 35 = .ok (.bipush 8, 2) := by decide +kernel
theorem DM_X8_lays_37 : decode (mC M_X8_lays) 37 = .ok (.irem, 1) := by decide +kernel
theorem DM_X8_lays_38 : decode (mC M_X8_lays) 38 = .ok (.istore 6, 2) := by decide +kernel
theorem DM_X8_lays_40 : decode (mC M_X8_lays) 40 = .ok (.aload_n 0, 1) := by decide +kernel
theorem DM_X8_lays_41 : decode (mC M_X8_lays) 41 = .ok (.getfield 31, 3) := by decide +kernel
theorem DM_X8_lays_44 : decode (mC M_X8_lays) 44 = .ok (.bipush 13, 2) := by decide +kernel
theorem DM_X8_lays_46 : decode (mC M_X8_lays) 46 = .ok (.bipush 13, 2) := by decide +kernel
theorem DM_X8_lays_48 : decode (mC M_X8_lays) 48 = .ok (.iload_n 1, 1) := by decide +kernel
theorem DM_X8_lays_49 : decode (mC M_X8_lays) 49 = .ok (.imul, 1) := by decide +kernel
theorem DM_X8_lays_50 : decode (mC M_X8_lays) 50 = .ok (.iadd, 1) := by decide +kernel
theorem DM_X8_lays_51 : decode (mC M_X8_lays) 51 = .ok (.iconst 4, 1) := by decide +kernel
theorem DM_X8_lays_52 : decode (mC M_X8_lays) 52 = .ok (.iadd, 1) := by decide +kernel
theorem DM_X8_lays_53 : decode (mC M_X8_lays) 53 = .ok (.iload 5, 2) := by decide +kernel
theorem DM_X8_lays_55 : decode (mC M_X8_lays) 55 = .ok (.iadd, 1) := by decide +kernel
theorem DM_X8_lays_56 : decode (mC M_X8_lays) 56 = .ok (.iload 6, 2) := by decide +kernel
theorem DM_X8_lays_58 : decode (mC M_X8_lays) 58 = .ok (.iastore, 1) := by decide +kernel
theorem DM_X8_lays_59 : decode (mC M_X8_lays) 59 = .ok (.iload 4, 2) := by decide +kernel
theorem DM_X8_lays_61 : decode (mC M_X8_lays) 61 = .ok (.iload 6, 2) := by decide +kernel
theorem DM_X8_lays_63 : decode (mC M_X8_lays) 63 = .ok (.aload_n 0, 1) := by decide +kernel
theorem DM_X8_lays_64 : decode (mC M_X8_lays) 64 = .ok (.getfield 25, 3) := by decide +kernel
theorem DM_X8_lays_67 : decode (mC M_X8_lays) 67 = .ok (.iload_n 1, 1) := by decide +kernel
theorem DM_X8_lays_68 : decode (mC M_X8_lays) 68 = .ok (.iconst 4, 1) := by decide +kernel
theorem DM_X8_lays_69 : decode (mC M_X8_lays) 69 = .ok (.iload 5, 2) := by decide +kernel
theorem DM_X8_lays_71 : decode (mC M_X8_lays) 71 = .ok (.iadd, 1) := by decide +kernel
theorem DM_X8_lays_72 : decode (mC M_X8_lays) 72 = .ok (.invokestatic 158, 3) := by decide +kernel
theorem DM_X8_lays_75 : decode (mC M_X8_lays) 75 = .ok (.if_icmp .ne 7, 3) := by decide +kernel
theorem DM_X8_lays_78 : decode (mC M_X8_lays) 78 = .ok (.iconst 0, 1) := by decide +kernel
theorem DM_X8_lays_79 : decode (mC M_X8_lays) 79 = .ok (.goto 4, 3) := by decide +kernel
theorem DM_X8_lays_82 : decode (mC M_X8_lays) 82 = .ok (.iconst 1, 1) := by decide +kernel
theorem DM_X8_lays_83 : decode (mC M_X8_lays) 83 = .ok (.iadd, 1) := by decide +kernel
theorem DM_X8_lays_84 : decode (mC M_X8_lays) 84 = .ok (.istore 4, 2) := by decide +kernel
theorem DM_X8_lays_86 : decode (mC M_X8_lays) 86 = .ok (.iinc 5 1, 3) := by decide +kernel
theorem DM_X8_lays_89 : decode (mC M_X8_lays) 89 = .ok (.goto (-73), 3) := by decide +kernel
theorem DM_X8_lays_92 : decode (mC M_X8_lays) 92 = .ok (.iload 4, 2) := by decide +kernel
theorem DM_X8_lays_94 : decode (mC M_X8_lays) 94 = .ok (.ireturn, 1) := by decide +kernel
theorem DM_X8_last_0 : decode (mC M_X8_last) 0 = .ok (.aload_n 0, 1) := by decide +kernel
theorem DM_X8_last_1 : decode (mC M_X8_last) 1 = .ok (.iload_n 1, 1) := by decide +kernel
theorem DM_X8_last_2 : decode (mC M_X8_last) 2 = .ok (.invokevirtual 210, 3) := by decide +kernel
theorem DM_X8_last_5 : decode (mC M_X8_last) 5 = .ok (.ifCond .eq 17, 3) := by decide +kernel
theorem DM_X8_last_8 : decode (mC M_X8_last) 8 = .ok (.iload_n 2, 1) := by decide +kernel
theorem DM_X8_last_9 : decode (mC M_X8_last) 9 = .ok (.iconst (-1), 1) := by decide +kernel
theorem DM_X8_last_10 : decode (mC M_X8_last) 10 = .ok (.if_icmp .eq 15, 3) := by decide +kernel
theorem DM_X8_last_13 : decode (mC M_X8_last) 13 = .ok (.aload_n 0, 1) := by decide +kernel
theorem DM_X8_last_14 : decode (mC M_X8_last) 14 = .ok (.iload_n 1, 1) := by decide +kernel
theorem DM_X8_last_15 : decode (mC M_X8_last) 15 = .ok (.iload_n 2, 1) := by decide +kernel
theorem DM_X8_last_16 : decode (mC M_X8_last) 16 = .ok (.invokevirtual 213, 3) := by decide +kernel
theorem DM_X8_last_19 : decode (mC M_X8_last) 19 = .ok (.ifCond .ne 6, 3) := by decide +kernel
theorem DM_X8_last_22 : decode (mC M_X8_last) 22 = .ok (.ldc 73, 2) := by decide +kernel
theorem DM_X8_last_24 : decode (mC M_X8_last) 24 = .ok (.ireturn, 1) := by decide +kernel
theorem DM_X8_last_25 : decode (mC M_X8_last) 25 = .ok (.aload_n 0, 1) := by decide +kernel
theorem DM_X8_last_26 : decode (mC M_X8_last) 26 = .ok (.getfield 25, 3) := by decide +kernel
theorem DM_X8_last_29 : decode (mC M_X8_last) 29 = .ok (.iload_n 1, 1) := by decide +kernel
theorem DM_X8_last_30 : decode (mC M_X8_last) 30 = .ok (.invokestatic 172, 3) := by decide +kernel
theorem DM_X8_last_33 : decode (mC M_X8_last) 33 = .ok (.ifCond .ne 6, 3) := by decide +kernel
theorem DM_X8_last_36 : decode (mC M_X8_last) 36 = .ok (.ldc 59, 2) := by decide +kernel
theorem DM_X8_last_38 : decode (mC M_X8_last) 38 = .ok (.ireturn, 1) := by decide +kernel
theorem DM_X8_last_39 : decode (mC M_X8_last) 39 = .ok (.aload_n 0, 1) := by decide +kernel
theorem DM_X8_last_40 : decode (mC M_X8_last) 40 = .ok (.getfield 25, 3) := by decide +kernel
theorem DM_X8_last_43 : decode (mC M_X8_last) 43 = .ok (.iconst 0, 1) := by decide +kernel
theorem DM_X8_last_44 : decode (mC M_X8_last) 44 = .ok (.aload_n 0, 1) := by decide +kernel
theorem DM_X8_last_45 : decode (mC M_X8_last) 45 = .ok (.getfield 31, 3) := by decide +kernel
theorem DM_X8_last_48 : decode (mC M_X8_last) 48 = .ok (.iconst 0, 1) := by decide +kernel
theorem DM_X8_last_49 : decode (mC M_X8_last) 49 = .ok (.invokestatic 151, 3) := by decide +kernel
theorem DM_X8_last_52 : decode (mC M_X8_last) 52 = .ok (.ldc 59, 2) := by decide +kernel
theorem DM_X8_last_54 : decode (mC M_X8_last) 54 = .ok (.istore_n 3, 1) := by decide +kernel
theorem DM_X8_last_55 : decode (mC M_X8_last) 55 = .ok (.iconst 5, 1) := by decide +kernel
theorem DM_X8_last_56 : decode (mC M_X8_last) 56 = .ok (.istore 4, 2) := by decide +kernel
theorem DM_X8_last_58 : decode (mC M_X8_last) 58 = .ok (.iconst 0, 1) := by decide +kernel
theorem DM_X8_last_59 : decode (mC M_X8_last) 59 = .ok (.istore 5, 2) := by decide +kernel
theorem DM_X8_last_61 : decode (mC M_X8_last) 61 = .ok (.iload 5, 2) := by decide +kernel
theorem DM_X8_last_63 : decode (mC M_X8_last) 63 = .ok (.bipush 8, 2) := by decide +kernel
theorem DM_X8_last_65 : decode (mC M_X8_last) 65 = .ok (.aload_n 0, 1) := by decide +kernel
theorem DM_X8_last_66 : decode (mC M_X8_last) 66 = .ok (.getfield 25, 3) := by decide +kernel
theorem DM_X8_last_69 : decode (mC M_X8_last) 69 = .ok (.iload_n 1, 1) := by decide +kernel
theorem DM_X8_last_70 : decode (mC M_X8_last) 70 = .ok (.iconst 3, 1) := by decide +kernel
theorem DM_X8_last_71 : decode (mC M_X8_last) 71 = .ok (.invokestatic 158, 3) := by decide +kernel
theorem DM_X8_last_74 : decode (mC M_X8_last) 74 = .ok (.invokestatic 227, 3) := by decide +kernel
theorem DM_X8_last_77 : decode (mC M_X8_last) 77 = .ok (.if_icmp .ge 44, 3) := by decide +kernel
theorem DM_X8_last_80 : decode (mC M_X8_last) 80 = .ok (.aload_n 0, 1) := by decide +kernel
theorem DM_X8_last_81 : decode (mC M_X8_last) 81 = .ok (.iload_n 1, 1) := by decide +kernel
theorem DM_X8_last_82 : decode (mC M_X8_last) 82 = .ok (.iload 5, 2) := by decide +kernel
theorem DM_X8_last_84 : decode (mC M_X8_last) 84 = .ok (.invokevirtual 230, 3) := by decide +kernel
theorem DM_X8_last_87 : decode (mC M_X8_last) 87 = .ok (.istore 6, 2) := by decide +kernel
theorem DM_X8_last_89 : decode (mC M_X8_last) 89 = .ok (.iload 6, 2) := by decide +kernel
theorem DM_X8_last_91 : decode (mC M_X8_last) 91 = .ok (.iload 4, 2) := by decide +kernel
theorem DM_X8_last_93 : decode (mC M_X8_last) 93 = .ok (.if_icmp .ge 22, 3) := by decide +kernel
theorem DM_X8_last_96 : decode (mC M_X8_last) 96 = .ok (.aload_n 0, 1) := by decide +kernel
theorem DM_X8_last_97 : decode (mC M_X8_last) 97 = .ok (.aload_n 0, 1) := by decide +kernel
theorem DM_X8_last_98 : decode (mC M_X8_last) 98 = .ok (.getfield 31, 3) := by decide +kernel
theorem DM_X8_last_101 : decode (mC M_X8_last) 101 = .ok (.iload_n 1, 1) := by decide +kernel
theorem DM_X8_last_102 : decode (mC M_X8_last) 102 = .ok (.invokevirtual 233, 3) := by decide +kernel
theorem DM_X8_last_105 : decode (mC M_X8_last) 105 = .ok (.ifCond .eq 10, 3) := by decide +kernel
theorem DM_X8_last_108 : decode (mC M_X8_last) 108 = .ok (.iload 5, 2) := by decide +kernel
theorem DM_X8_last_110 : decode (mC M_X8_last) 110 = .ok (.istore_n 3, 1) := by decide +kernel
theorem DM_X8_last_111 : decode (mC M_X8_last) 111 = .ok (.iload 6, 2) := by decide +kernel
theorem DM_X8_last_113 : decode (mC M_X8_last) 113 = .ok (.istore 4, 2) := by decide +kernel
theorem DM_X8_last_115 : decode (mC M_X8_last) 115 = .ok (.iinc 5 1, 3) := by decide +kernel
theorem DM_X8_last_118 : decode (mC M_X8_last) 118 = .ok (.goto (-57), 3) := by decide +kernel
theorem DM_X8_last_121 : decode (mC M_X8_last) 121 = .ok (.iload_n 3, 1) := by decide +kernel
theorem DM_X8_last_122 : decode (mC M_X8_last) 122 = .ok (.ldc 59, 2) := by decide +kernel
theorem DM_X8_last_124 : decode (mC M_X8_last) 124 = .ok (.if_icmp .ne 6, 3) := by decide +kernel
theorem DM_X8_last_127 : decode (mC M_X8_last) 127 = .ok (.ldc 59, 2) := by decide +kernel
theorem DM_X8_last_129 : decode (mC M_X8_last) 129 = .ok (.ireturn, 1) := by decide +kernel
theorem DM_X8_last_130 : decode (mC M_X8_last) 130 = .ok (.iload_n 2, 1) := by decide +kernel
theorem DM_X8_last_131 : decode (mC M_X8_last) 131 = .ok (.iconst (-1), 1) := by decide +kernel
theorem DM_X8_last_132 : decode (mC M_X8_last) 132 = .ok (.if_icmp .ne 8, 3) := by decide +kernel
theorem DM_X8_last_135 : decode (mC M_X8_last) 135 = .ok (.iload 4, 2) := by decide +kernel
theorem DM_X8_last_137 : decode (mC M_X8_last) 137 = .ok (.goto 26, 3) := by decide +kernel
theorem DM_X8_last_140 : decode (mC M_X8_last) 140 = .ok (.iload_n 3, 1) := by decide +kernel
theorem DM_X8_last_141 : decode (mC M_X8_last) 141 = .ok (.bipush 8, 2) := by decide +kernel
theorem DM_X8_last_143 : decode (mC M_X8_last) 143 = .ok (.aload_n 0, 1) := by decide +kernel
theorem DM_X8_last_144 : decode (mC M_X8_last) 144 = .ok (.getfield 25, 3) := by decide +kernel
theorem DM_X8_last_147 : decode (mC M_X8_last) 147 = .ok (.iload_n 1, 1) := by decide +kernel
theorem DM_X8_last_148 : decode (mC M_X8_last) 148 = .ok (.iconst 3, 1) := by decide +kernel
theorem DM_X8_last_149 : decode (mC M_X8_last) 149 = .ok (.invokestatic 158, 3) := by decide +kernel
theorem DM_X8_last_152 : decode (mC M_X8_last) 152 = .ok (.iconst 1, 1) := by decide +kernel
theorem DM_X8_last_153 : decode (mC M_X8_last) 153 = .ok (.isub, 1) := by decide +kernel
theorem DM_X8_last_154 : decode (mC M_X8_last) 154 = .ok (.iload_n 2, 1) := by decide +kernel
theorem DM_X8_last_155 : decode (mC M_X8_last) 155 = .ok (.isub, 1) := by decide +kernel
theorem DM_X8_last_156 : decode (mC M_X8_last) 156 = .ok (.invokestatic 227, 3) := by decide +kernel
theorem DM_X8_last_159 : decode (mC M_X8_last) 159 = .ok (.idiv, 1) := by decide +kernel
theorem DM_X8_last_160 : decode (mC M_X8_last) 160 = .ok (.bipush 8, 2) := by decide +kernel
theorem DM_X8_last_162 : decode (mC M_X8_last) 162 = .ok (.irem, 1) := by decide +kernel
theorem DM_X8_last_163 : decode (mC M_X8_last) 163 = .ok (.ireturn, 1) := by decide +kernel
theorem DM_X8_best_0 : decode (mC M_X8_best) 0 = .ok (.aload_n 0, 1) := by decide +kernel
theorem DM_X8_best_1 : decode (mC M_X8_best) 1 = .ok (.invokevirtual 200, 3) := by decide +kernel
theorem DM_X8_best_4 : decode (mC M_X8_best) 4 = .ok (.ifCond .ne 6, 3) := by decide +kernel
theorem DM_X8_best_7 : decode (mC M_X8_best) 7 = .ok (.ldc 203, 2) := by decide +kernel
theorem DM_X8_best_9 : decode (mC M_X8_best) 9 = .ok (.ireturn, 1) := by decide +kernel
theorem DM_X8_best_10 : decode (mC M_X8_best) 10 = .ok (.iload_n 1, 1) := by decide +kernel
theorem DM_X8_best_11 : decode (mC M_X8_best) 11 = .ok (.iconst 0, 1) := by decide +kernel
theorem DM_X8_best_12 : decode (mC M_X8_best) 12 = .ok (.iconst 1, 1) := by decide +kernel
theorem DM_X8_best_13 : decode (mC M_X8_best) 13 = .ok (.invokestatic 65, 3) := by decide +kernel
theorem DM_X8_best_16 : decode (mC M_X8_best) 16 = .ok (.ifCond .ne 6, 3) := by decide +kernel
theorem DM_X8_best_19 : decode (mC M_X8_best) 19 = .ok (.ldc 73, 2) := by decide +kernel
theorem DM_X8_best_21 : decode (mC M_X8_best) 21 = .ok (.ireturn, 1) := by decide +kernel
theorem DM_X8_best_22 : decode (mC M_X8_best) 22 = .ok (.iconst 0, 1) := by decide +kernel
theorem DM_X8_best_23 : decode (mC M_X8_best) 23 = .ok (.istore_n 2, 1) := by decide +kernel
theorem DM_X8_best_24 : decode (mC M_X8_best) 24 = .ok (.iconst 0, 1) := by decide +kernel
theorem DM_X8_best_25 : decode (mC M_X8_best) 25 = .ok (.istore_n 3, 1) := by decide +kernel
theorem DM_X8_best_26 : decode (mC M_X8_best) 26 = .ok (.iconst 0, 1) := by decide +kernel
theorem DM_X8_best_27 : decode (mC M_X8_best) 27 = .ok (.istore 4, 2) := by decide +kernel
theorem DM_X8_best_29 : decode (mC M_X8_best) 29 = .ok (.iload 4, 2) := by decide +kernel
theorem DM_X8_best_31 : decode (mC M_X8_best) 31 = .ok (.bipush 8, 2) := by decide +kernel
theorem DM_X8_best_33 : decode (mC M_X8_best) 33 = .ok (.if_icmp .ge 57, 3) := by decide +kernel
theorem DM_X8_best_36 : decode (mC M_X8_best) 36 = .ok (.aload_n 0, 1) := by decide +kernel
theorem DM_X8_best_37 : decode (mC M_X8_best) 37 = .ok (.iload 4, 2) := by decide +kernel
theorem DM_X8_best_39 : decode (mC M_X8_best) 39 = .ok (.invokevirtual 219, 3) := by decide +kernel
theorem DM_X8_best_42 : decode (mC M_X8_best) 42 = .ok (.aload_n 0, 1) := by decide +kernel
theorem DM_X8_best_43 : decode (mC M_X8_best) 43 = .ok (.invokevirtual 223, 3) := by decide +kernel
theorem DM_X8_best_46 : decode (mC M_X8_best) 46 = .ok (.istore 5, 2) := by decide +kernel
theorem DM_X8_best_48 : decode (mC M_X8_best) 48 = .ok (.iload 4, 2) := by decide +kernel
theorem DM_X8_best_50 : decode (mC M_X8_best) 50 = .ok (.ifCond .eq 9, 3) := by decide +kernel
theorem DM_X8_best_53 : decode (mC M_X8_best) 53 = .ok (.iload 5, 2) := by decide +kernel
theorem DM_X8_best_55 : decode (mC M_X8_best) 55 = .ok (.iload_n 3, 1) := by decide +kernel
theorem DM_X8_best_56 : decode (mC M_X8_best) 56 = .ok (.if_icmp .ge 8, 3) := by decide +kernel
theorem DM_X8_best_59 : decode (mC M_X8_best) 59 = .ok (.iload 4, 2) := by decide +kernel
theorem DM_X8_best_61 : decode (mC M_X8_best) 61 = .ok (.goto 4, 3) := by decide +kernel
theorem DM_X8_best_64 : decode (mC M_X8_best) 64 = .ok (.iload_n 2, 1) := by decide +kernel
theorem DM_X8_best_65 : decode (mC M_X8_best) 65 = .ok (.istore_n 2, 1) := by decide +kernel
theorem DM_X8_best_66 : decode (mC M_X8_best) 66 = .ok (.iload 4, 2) := by decide +kernel
theorem DM_X8_best_68 : decode (mC M_X8_best) 68 = .ok (.ifCond .eq 9, 3) := by decide +kernel
theorem DM_X8_best_71 : decode (mC M_X8_best) 71 = .ok (.iload 5, 2) := by decide +kernel
theorem DM_X8_best_73 : decode (mC M_X8_best) 73 = .ok (.iload_n 3, 1) := by decide +kernel
theorem DM_X8_best_74 : decode (mC M_X8_best) 74 = .ok (.if_icmp .ge 8, 3) := by decide +kernel
theorem DM_X8_best_77 : decode (mC M_X8_best) 77 = .ok (.iload 5, 2) := by decide +kernel
theorem DM_X8_best_79 : decode (mC M_X8_best) 79 = .ok (.goto 4, 3) := by decide +kernel
theorem DM_X8_best_82 : decode (mC M_X8_best) 82 = .ok (.iload_n 3, 1) := by decide +kernel
theorem DM_X8_best_83 : decode (mC M_X8_best) 83 = .ok (.istore_n 3, 1) := by decide +kernel
theorem DM_X8_best_84 : decode (mC M_X8_best) 84 = .ok (.iinc 4 1, 3) := by decide +kernel
theorem DM_X8_best_87 : decode (mC M_X8_best) 87 = .ok (.goto (-58), 3) := by decide +kernel
theorem DM_X8_best_90 : decode (mC M_X8_best) 90 = .ok (.iload_n 1, 1) := by decide +kernel
theorem DM_X8_best_91 : decode (mC M_X8_best) 91 = .ok (.ifCond .ne 7, 3) := by decide +kernel
theorem DM_X8_best_94 : decode (mC M_X8_best) 94 = .ok (.iload_n 2, 1) := by decide +kernel
theorem DM_X8_best_95 : decode (mC M_X8_best) 95 = .ok (.goto 4, 3) := by decide +kernel
theorem DM_X8_best_98 : decode (mC M_X8_best) 98 = .ok (.iload_n 3, 1) := by decide +kernel
theorem DM_X8_best_99 : decode (mC M_X8_best) 99 = .ok (.ireturn, 1) := by decide +kernel
theorem DM_X8_lines_0 : decode (mC M_X8_lines) 0 = .ok (.iconst 0, 1) := by decide +kernel
theorem DM_X8_lines_1 : decode (mC M_X8_lines) 1 = .ok (.istore_n 3, 1) := by decide +kernel
theorem DM_X8_lines_2 : decode (mC M_X8_lines) 2 = .ok (.iload_n 1, 1) := by decide +kernel
theorem DM_X8_lines_3 : decode (mC M_X8_lines) 3 = .ok (.istore 4, 2) := by decide +kernel
theorem DM_X8_lines_5 : decode (mC M_X8_lines) 5 = .ok (.iload_n 2, 1) := by decide +kernel
theorem DM_X8_lines_6 : decode (mC M_X8_lines) 6 = .ok (.iconst 1, 1) := by decide +kernel
theorem DM_X8_lines_7 : decode (mC M_X8_lines) 7 = .ok (.isub, 1) := by decide +kernel
theorem DM_X8_lines_8 : decode (mC M_X8_lines) 8 = .ok (.istore 5, 2) := by decide +kernel
theorem DM_X8_lines_10 : decode (mC M_X8_lines) 10 = .ok (.iload 5, 2) := by decide +kernel
theorem DM_X8_lines_12 : decode (mC M_X8_lines) 12 = .ok (.ifCond .lt 40, 3) := by decide +kernel
theorem DM_X8_lines_15 : decode (mC M_X8_lines) 15 = .ok (.aload_n 0, 1) := by decide +kernel
theorem DM_X8_lines_16 : decode (mC M_X8_lines) 16 = .ok (.getfield 53, 3) := by decide +kernel
theorem DM_X8_lines_19 : decode (mC M_X8_lines) 19 = .ok (.iload 5, 2) := by decide +kernel
theorem DM_X8_lines_21 : decode (mC M_X8_lines) 21 = .ok (.aload_n 0, 1) := by decide +kernel
theorem DM_X8_lines_22 : decode (mC M_X8_lines) 22 = .ok (.getfield 50, 3) := by decide +kernel
theorem DM_X8_lines_25 : decode (mC M_X8_lines) 25 = .ok (.iload 4, 2) := by decide +kernel
theorem DM_X8_lines_27 : decode (mC M_X8_lines) 27 = .ok (.iload_n 2, 1) := by decide +kernel
theorem DM_X8_lines_28 : decode (mC M_X8_lines) 28 = .ok (.irem, 1) := by decide +kernel
theorem DM_X8_lines_29 : decode (mC M_X8_lines) 29 = .ok (.iaload, 1) := by decide +kernel
theorem DM_X8_lines_30 : decode (mC M_X8_lines) 30 = .ok (.iastore, 1) := by decide +kernel
theorem DM_X8_lines_31 : decode (mC M_X8_lines) 31 = .ok (.iload_n 3, 1) := by decide +kernel
theorem DM_X8_lines_32 : decode (mC M_X8_lines) 32 = .ok (.iconst 1, 1) := by decide +kernel
theorem DM_X8_lines_33 : decode (mC M_X8_lines) 33 = .ok (.iload 4, 2) := by decide +kernel
theorem DM_X8_lines_35 : decode (mC M_X8_lines) 35 = .ok (.iload_n 2, 1) := by decide +kernel
theorem DM_X8_lines_36 : decode (mC M_X8_lines) 36 = .ok (.irem, 1) := by decide +kernel
theorem DM_X8_lines_37 : decode (mC M_X8_lines) 37 = .ok (.ishl, 1) := by decide +kernel
theorem DM_X8_lines_38 : decode (mC M_X8_lines) 38 = .ok (.ior, 1) := by decide +kernel
theorem DM_X8_lines_39 : decode (mC M_X8_lines) 39 = .ok (.istore_n 3, 1) := by decide +kernel
theorem DM_X8_lines_40 : decode (mC M_X8_lines) 40 = .ok (.iload 4, 2) := by decide +kernel
theorem DM_X8_lines_42 : decode (mC M_X8_lines) 42 = .ok (.iload_n 2, 1) := by decide +kernel
theorem DM_X8_lines_43 : decode (mC M_X8_lines) 43 = .ok (.idiv, 1) := by decide +kernel
theorem DM_X8_lines_44 : decode (mC M_X8_lines) 44 = .ok (.istore 4, 2) := by decide +kernel
theorem DM_X8_lines_46 : decode (mC M_X8_lines) 46 = .ok (.iinc 5 (-1), 3) := by decide +kernel
theorem DM_X8_lines_49 : decode (mC M_X8_lines) 49 = .ok (.goto (-39), 3) := by decide +kernel
theorem DM_X8_lines_52 : decode (mC M_X8_lines) 52 = .ok (.iload_n 3, 1) := by decide +kernel
theorem DM_X8_lines_53 : decode (mC M_X8_lines) 53 = .ok (.iconst 1, 1) := by decide +kernel
theorem DM_X8_lines_54 : decode (mC M_X8_lines) 54 = .ok (.iload_n 2, 1) := by decide +kernel
theorem DM_X8_lines_55 : decode (mC M_X8_lines) 55 = .ok (.ishl, 1) := by decide +kernel
theorem DM_X8_lines_56 : decode (mC M_X8_lines) 56 = .ok (.iconst 1, 1) := by decide +kernel
theorem DM_X8_lines_57 : decode (mC M_X8_lines) 57 = .ok (.isub, 1) := by decide +kernel
theorem DM_X8_lines_58 : decode (mC M_X8_lines) 58 = .ok (.if_icmp .ne 7, 3) := by decide +kernel
theorem DM_X8_lines_61 : decode (mC M_X8_lines) 61 = .ok (.iconst 1, 1) := by decide +kernel
theorem DM_X8_lines_62 : decode (mC M_X8_lines) 62 = .ok (.goto 4, 3) := by decide +kernel
theorem DM_X8_lines_65 : decode (mC M_X8_lines) 65 = .ok (.iconst 0, 1) := by decide +kernel
theorem DM_X8_lines_66 : decode (mC M_X8_lines) 66 = .ok (.ireturn, 1) := by decide +kernel
theorem DM_X8_waitedByLine_0 : decode (mC M_X8_waitedByLine) 0 = .ok (.aload_n 0, 1) := by decide +kernel
theorem DM_X8_waitedByLine_1 : decode (mC M_X8_waitedByLine) 1 = .ok (.getfield 25, 3) := by decide +kernel
theorem DM_X8_waitedByLine_4 : decode (mC M_X8_waitedByLine) 4 = .ok (.iconst 0, 1) := by decide +kernel
theorem DM_X8_waitedByLine_5 : decode (mC M_X8_waitedByLine) 5 = .ok (.aload_n 0, 1) := by decide +kernel
theorem DM_X8_waitedByLine_6 : decode (mC M_X8_waitedByLine) 6 = .ok (.getfield 31, 3) := by decide +kernel
theorem DM_X8_waitedByLine_9 : decode (mC M_X8_waitedByLine) 9 = .ok (.iconst 0, 1) := by decide +kernel
theorem DM_X8_waitedByLine_10 : decode (mC M_X8_waitedByLine) 10 = .ok (.invokestatic 151, 3) := by decide +kernel
theorem DM_X8_waitedByLine_13 : decode (mC M_X8_waitedByLine) 13 = .ok (.iconst 0, 1) := by decide +kernel
theorem DM_X8_waitedByLine_14 : decode (mC M_X8_waitedByLine) 14 = .ok (.istore_n 2, 1) := by decide +kernel
theorem DM_X8_waitedByLine_15 : decode (mC M_X8_waitedByLine) 15 = .ok (.iconst 0, 1) := by decide +kernel
theorem DM_X8_waitedByLine_16 : decode (mC M_X8_waitedByLine) 16 = .ok (.istore_n 3, 1) := by decide +kernel
theorem DM_X8_waitedByLine_17 : decode (mC M_X8_waitedByLine) 17 = .ok (.iload_n 3, 1) := by decide +kernel
theorem DM_X8_waitedByLine_18 : decode (mC M_X8_waitedByLine) 18 = .ok (.sipush 300, 3) := by decide +kernel
theorem DM_X8_waitedByLine_21 : decode (mC M_X8_waitedByLine) 21 = .ok (.if_icmp .ge 89, 3) := by decide +kernel
theorem DM_X8_waitedByLine_24 : decode (mC M_X8_waitedByLine) 24 = .ok (.aload_n 0, 1) := by decide +kernel
theorem DM_X8_waitedByLine_25 : decode (mC M_X8_waitedByLine) 25 = .ok (.getfield 31, 3) := by decide +kernel
theorem DM_X8_waitedByLine_28 : decode (mC M_X8_waitedByLine) 28 = .ok (.invokestatic 183, 3) := by decide +kernel
theorem DM_X8_waitedByLine_31 : decode (mC M_X8_waitedByLine) 31 = .ok (.iload_n 2, 1) := by decide +kernel
theorem DM_X8_waitedByLine_32 : decode (mC M_X8_waitedByLine) 32 = .ok (.iload_n 1, 1) := by decide +kernel
theorem DM_X8_waitedByLine_33 : decode (mC M_X8_waitedByLine) 33 = .ok (.if_icmp .ge 71, 3) := by decide +kernel
theorem DM_X8_waitedByLine_36 : decode (mC M_X8_waitedByLine) 36 = .ok (.aload_n 0, 1) := by decide +kernel
theorem DM_X8_waitedByLine_37 : decode (mC M_X8_waitedByLine) 37 = .ok (.getfield 31, 3) := by decide +kernel
theorem DM_X8_waitedByLine_40 : decode (mC M_X8_waitedByLine) 40 = .ok (.aload_n 0, 1) := by decide +kernel
theorem DM_X8_waitedByLine_41 : decode (mC M_X8_waitedByLine) 41 = .ok (.getfield 53, 3) := by decide +kernel
theorem DM_X8_waitedByLine_44 : decode (mC M_X8_waitedByLine) 44 = .ok (.iload_n 2, 1) := by decide +kernel
theorem DM_X8_waitedByLine_45 : decode (mC M_X8_waitedByLine) 45 = .ok (.iaload, 1) := by decide +kernel
theorem DM_X8_waitedByLine_46 : decode (mC M_X8_waitedByLine) 46 = .ok (.invokestatic 172, 3) := by decide +kernel
theorem DM_X8_waitedByLine_49 : decode (mC M_X8_waitedByLine) 49 = .ok (.ifCond .eq 20, 3) := by decide +kernel
theorem DM_X8_waitedByLine_52 : decode (mC M_X8_waitedByLine) 52 = .ok (.aload_n 0, 1) := by decide +kernel
theorem DM_X8_waitedByLine_53 : decode (mC M_X8_waitedByLine) 53 = .ok (.getfield 31, 3) := by decide +kernel
theorem DM_X8_waitedByLine_56 : decode (mC M_X8_waitedByLine) 56 = .ok (.iconst 1, 1) := by decide +kernel
theorem DM_X8_waitedByLine_57 : decode (mC M_X8_waitedByLine) 57 = .ok (.invokestatic 193, 3) := by decide +kernel
theorem DM_X8_waitedByLine_60 : decode (mC M_X8_waitedByLine) 60 = .ok (.aload_n 0, 1) := by decide +kernel
theorem DM_X8_waitedByLine_61 : decode (mC M_X8_waitedByLine) 61 = .ok (.getfield 31, 3) := by decide +kernel
theorem DM_X8_waitedByLine_64 : decode (mC M_X8_waitedByLine) 64 = .ok (.iconst 0, 1) := by decide +kernel
theorem DM_X8_waitedByLine_65 : decode (mC M_X8_waitedByLine) 65 = .ok (.iaload, 1) := by decide +kernel
theorem DM_X8_waitedByLine_66 : decode (mC M_X8_waitedByLine) 66 = .ok (.if_icmp .ge 38, 3) := by decide +kernel
theorem DM_X8_waitedByLine_69 : decode (mC M_X8_waitedByLine) 69 = .ok (.aload_n 0, 1) := by decide +kernel
theorem DM_X8_waitedByLine_70 : decode (mC M_X8_waitedByLine) 70 = .ok (.getfield 31, 3) := by decide +kernel
theorem DM_X8_waitedByLine_73 : decode (mC M_X8_waitedByLine) 73 = .ok (.aload_n 0, 1) := by decide +kernel
theorem DM_X8_waitedByLine_74 : decode (mC M_X8_waitedByLine) 74 = .ok (.getfield 53, 3) := by decide +kernel
theorem DM_X8_waitedByLine_77 : decode (mC M_X8_waitedByLine) 77 = .ok (.iload_n 2, 1) := by decide +kernel
theorem DM_X8_waitedByLine_78 : decode (mC M_X8_waitedByLine) 78 = .ok (.iaload, 1) := by decide +kernel
theorem DM_X8_waitedByLine_79 : decode (mC M_X8_waitedByLine) 79 = .ok (.invokestatic 172, 3) := by decide +kernel
theorem DM_X8_waitedByLine_82 : decode (mC M_X8_waitedByLine) 82 = .ok (.ifCond .eq 16, 3) := by decide +kernel
theorem DM_X8_waitedByLine_85 : decode (mC M_X8_waitedByLine) 85 = .ok (.aload_n 0, 1) := by decide +kernel
theorem DM_X8_waitedByLine_86 : decode (mC M_X8_waitedByLine) 86 = .ok (.getfield 31, 3) := by decide +kernel
theorem DM_X8_waitedByLine_89 : decode (mC M_X8_waitedByLine) 89 = .ok (.aload_n 0, 1) := by decide +kernel
theorem DM_X8_waitedByLine_90 : decode (mC M_X8_waitedByLine) 90 = .ok (.getfield 53, 3) := by decide +kernel
theorem DM_X8_waitedByLine_93 : decode (mC M_X8_waitedByLine) 93 = .ok (.iload_n 2, 1) := by decide +kernel
theorem DM_X8_waitedByLine_94 : decode (mC M_X8_waitedByLine) 94 = .ok (.iaload, 1) := by decide +kernel
theorem DM_X8_waitedByLine_95 : decode (mC M_X8_waitedByLine) 95 = .ok (.invokestatic 196, 3) := by decide +kernel
theorem DM_X8_waitedByLine_98 : decode (mC M_X8_waitedByLine) 98 = .ok (.iinc 2 1, 3) := by decide +kernel
theorem DM_X8_waitedByLine_101 : decode (mC M_X8_waitedByLine) 101 = .ok (.goto (-70), 3) := by decide +kernel
theorem DM_X8_waitedByLine_104 : decode (mC M_X8_waitedByLine) 104 = .ok (.iinc 3 1, 3) := by decide +kernel
theorem DM_X8_waitedByLine_107 : decode (mC M_X8_waitedByLine) 107 = .ok (.goto (-90), 3) := by decide +kernel
theorem DM_X8_waitedByLine_110 : decode (mC M_X8_waitedByLine) 110 = .ok (.aload_n 0, 1) := by decide +kernel
theorem DM_X8_waitedByLine_111 : decode (mC M_X8_waitedByLine) 111 = .ok (.invokevirtual 223, 3) := by decide +kernel
theorem DM_X8_waitedByLine_114 : decode (mC M_X8_waitedByLine) 114 = .ok (.ireturn, 1) := by decide +kernel
theorem DM_X8_warden_0 : decode (mC M_X8_warden) 0 = .ok (.aload_n 0, 1) := by decide +kernel
theorem DM_X8_warden_1 : decode (mC M_X8_warden) 1 = .ok (.invokevirtual 200, 3) := by decide +kernel
theorem DM_X8_warden_4 : decode (mC M_X8_warden) 4 = .ok (.ifCond .ne 6, 3) := by decide +kernel
theorem DM_X8_warden_7 : decode (mC M_X8_warden) 7 = .ok (.ldc 203, 2) := by decide +kernel
theorem DM_X8_warden_9 : decode (mC M_X8_warden) 9 = .ok (.ireturn, 1) := by decide +kernel
theorem DM_X8_warden_10 : decode (mC M_X8_warden) 10 = .ok (.iload_n 1, 1) := by decide +kernel
theorem DM_X8_warden_11 : decode (mC M_X8_warden) 11 = .ok (.bipush (-2), 2) := by decide +kernel
theorem DM_X8_warden_13 : decode (mC M_X8_warden) 13 = .ok (.iconst 5, 1) := by decide +kernel
theorem DM_X8_warden_14 : decode (mC M_X8_warden) 14 = .ok (.invokestatic 65, 3) := by decide +kernel
theorem DM_X8_warden_17 : decode (mC M_X8_warden) 17 = .ok (.ifCond .ne 6, 3) := by decide +kernel
theorem DM_X8_warden_20 : decode (mC M_X8_warden) 20 = .ok (.ldc 73, 2) := by decide +kernel
theorem DM_X8_warden_22 : decode (mC M_X8_warden) 22 = .ok (.ireturn, 1) := by decide +kernel
theorem DM_X8_warden_23 : decode (mC M_X8_warden) 23 = .ok (.iconst 0, 1) := by decide +kernel
theorem DM_X8_warden_24 : decode (mC M_X8_warden) 24 = .ok (.istore_n 2, 1) := by decide +kernel
theorem DM_X8_warden_25 : decode (mC M_X8_warden) 25 = .ok (.iconst 0, 1) := by decide +kernel
theorem DM_X8_warden_26 : decode (mC M_X8_warden) 26 = .ok (.istore_n 3, 1) := by decide +kernel
theorem DM_X8_warden_27 : decode (mC M_X8_warden) 27 = .ok (.iload_n 3, 1) := by decide +kernel
theorem DM_X8_warden_28 : decode (mC M_X8_warden) 28 = .ok (.aload_n 0, 1) := by decide +kernel
theorem DM_X8_warden_29 : decode (mC M_X8_warden) 29 = .ok (.getfield 25, 3) := by decide +kernel
theorem DM_X8_warden_32 : decode (mC M_X8_warden) 32 = .ok (.iconst 2, 1) := by decide +kernel
theorem DM_X8_warden_33 : decode (mC M_X8_warden) 33 = .ok (.iaload, 1) := by decide +kernel
theorem DM_X8_warden_34 : decode (mC M_X8_warden) 34 = .ok (.if_icmp .ge 30, 3) := by decide +kernel
theorem DM_X8_warden_37 : decode (mC M_X8_warden) 37 = .ok (.aload_n 0, 1) := by decide +kernel
theorem DM_X8_warden_38 : decode (mC M_X8_warden) 38 = .ok (.getfield 25, 3) := by decide +kernel
theorem DM_X8_warden_41 : decode (mC M_X8_warden) 41 = .ok (.iload_n 3, 1) := by decide +kernel
theorem DM_X8_warden_42 : decode (mC M_X8_warden) 42 = .ok (.invokestatic 172, 3) := by decide +kernel
theorem DM_X8_warden_45 : decode (mC M_X8_warden) 45 = .ok (.ifCond .eq 13, 3) := by decide +kernel
theorem DM_X8_warden_48 : decode (mC M_X8_warden) 48 = .ok (.aload_n 0, 1) := by decide +kernel
theorem DM_X8_warden_49 : decode (mC M_X8_warden) 49 = .ok (.getfield 50, 3) := by decide +kernel
theorem DM_X8_warden_52 : decode (mC M_X8_warden) 52 = .ok (.iload_n 2, 1) := by decide +kernel
theorem DM_X8_warden_53 : decode (mC M_X8_warden) 53 = .ok (.iload_n 3, 1) := by decide +kernel
theorem DM_X8_warden_54 : decode (mC M_X8_warden) 54 = .ok (.iastore, 1) := by decide +kernel
theorem DM_X8_warden_55 : decode (mC M_X8_warden) 55 = .ok (.iinc 2 1, 3) := by decide +kernel
theorem DM_X8_warden_58 : decode (mC M_X8_warden) 58 = .ok (.iinc 3 1, 3) := by decide +kernel
theorem DM_X8_warden_61 : decode (mC M_X8_warden) 61 = .ok (.goto (-34), 3) := by decide +kernel
theorem DM_X8_warden_64 : decode (mC M_X8_warden) 64 = .ok (.ldc 59, 2) := by decide +kernel
theorem DM_X8_warden_66 : decode (mC M_X8_warden) 66 = .ok (.istore_n 3, 1) := by decide +kernel
theorem DM_X8_warden_67 : decode (mC M_X8_warden) 67 = .ok (.iconst 0, 1) := by decide +kernel
theorem DM_X8_warden_68 : decode (mC M_X8_warden) 68 = .ok (.istore 4, 2) := by decide +kernel
theorem DM_X8_warden_70 : decode (mC M_X8_warden) 70 = .ok (.iload 4, 2) := by decide +kernel
theorem DM_X8_warden_72 : decode (mC M_X8_warden) 72 = .ok (.iload_n 2, 1) := by decide +kernel
theorem DM_X8_warden_73 : decode (mC M_X8_warden) 73 = .ok (.iload_n 2, 1) := by decide +kernel
theorem DM_X8_warden_74 : decode (mC M_X8_warden) 74 = .ok (.invokestatic 227, 3) := by decide +kernel
theorem DM_X8_warden_77 : decode (mC M_X8_warden) 77 = .ok (.if_icmp .ge 91, 3) := by decide +kernel
theorem DM_X8_warden_80 : decode (mC M_X8_warden) 80 = .ok (.aload_n 0, 1) := by decide +kernel
theorem DM_X8_warden_81 : decode (mC M_X8_warden) 81 = .ok (.iload 4, 2) := by decide +kernel
theorem DM_X8_warden_83 : decode (mC M_X8_warden) 83 = .ok (.iload_n 2, 1) := by decide +kernel
theorem DM_X8_warden_84 : decode (mC M_X8_warden) 84 = .ok (.invokevirtual 236, 3) := by decide +kernel
theorem DM_X8_warden_87 : decode (mC M_X8_warden) 87 = .ok (.ifCond .eq 75, 3) := by decide +kernel
theorem DM_X8_warden_90 : decode (mC M_X8_warden) 90 = .ok (.aload_n 0, 1) := by decide +kernel
theorem DM_X8_warden_91 : decode (mC M_X8_warden) 91 = .ok (.iload_n 2, 1) := by decide +kernel
theorem DM_X8_warden_92 : decode (mC M_X8_warden) 92 = .ok (.invokevirtual 239, 3) := by decide +kernel
theorem DM_X8_warden_95 : decode (mC M_X8_warden) 95 = .ok (.istore 5, 2) := by decide +kernel
theorem DM_X8_warden_97 : decode (mC M_X8_warden) 97 = .ok (.iload_n 3, 1) := by decide +kernel
theorem DM_X8_warden_98 : decode (mC M_X8_warden) 98 = .ok (.ldc 59, 2) := by decide +kernel
theorem DM_X8_warden_100 : decode (mC M_X8_warden) 100 = .ok (.if_icmp .eq 9, 3) := by decide +kernel
theorem DM_X8_warden_103 : decode (mC M_X8_warden) 103 = .ok (.iload 5, 2) := by decide +kernel
theorem DM_X8_warden_105 : decode (mC M_X8_warden) 105 = .ok (.iload_n 3, 1) := by decide +kernel
theorem DM_X8_warden_106 : decode (mC M_X8_warden) 106 = .ok (.if_icmp .ge 7, 3) := by decide +kernel
theorem DM_X8_warden_109 : decode (mC M_X8_warden) 109 = .ok (.iconst 1, 1) := by decide +kernel
theorem DM_X8_warden_110 : decode (mC M_X8_warden) 110 = .ok (.goto 4, 3) := by decide +kernel
theorem DM_X8_warden_113 : decode (mC M_X8_warden) 113 = .ok (.iconst 0, 1) := by decide +kernel
theorem DM_X8_warden_114 : decode (mC M_X8_warden) 114 = .ok (.istore 6, 2) := by decide +kernel
theorem DM_X8_warden_116 : decode (mC M_X8_warden) 116 = .ok (.iconst 0, 1) := by decide +kernel
theorem DM_X8_warden_117 : decode (mC M_X8_warden) 117 = .ok (.istore 7, 2) := by decide +kernel
theorem DM_X8_warden_119 : decode (mC M_X8_warden) 119 = .ok (.iload 7, 2) := by decide +kernel
theorem DM_X8_warden_121 : decode (mC M_X8_warden) 121 = .ok (.iload_n 2, 1) := by decide +kernel
theorem DM_X8_warden_122 : decode (mC M_X8_warden) 122 = .ok (.if_icmp .ge 28, 3) := by decide +kernel
theorem DM_X8_warden_125 : decode (mC M_X8_warden) 125 = .ok (.iload 6, 2) := by decide +kernel
theorem DM_X8_warden_127 : decode (mC M_X8_warden) 127 = .ok (.ifCond .eq 23, 3) := by decide +kernel
theorem DM_X8_warden_130 : decode (mC M_X8_warden) 130 = .ok (.aload_n 0, 1) := by decide +kernel
theorem DM_X8_warden_131 : decode (mC M_X8_warden) 131 = .ok (.getfield 56, 3) := by decide +kernel
theorem DM_X8_warden_134 : decode (mC M_X8_warden) 134 = .ok (.iload 7, 2) := by decide +kernel
theorem DM_X8_warden_136 : decode (mC M_X8_warden) 136 = .ok (.aload_n 0, 1) := by decide +kernel
theorem DM_X8_warden_137 : decode (mC M_X8_warden) 137 = .ok (.getfield 53, 3) := by decide +kernel
theorem DM_X8_warden_140 : decode (mC M_X8_warden) 140 = .ok (.iload 7, 2) := by decide +kernel
theorem DM_X8_warden_142 : decode (mC M_X8_warden) 142 = .ok (.iaload, 1) := by decide +kernel
theorem DM_X8_warden_143 : decode (mC M_X8_warden) 143 = .ok (.iastore, 1) := by decide +kernel
theorem DM_X8_warden_144 : decode (mC M_X8_warden) 144 = .ok (.iinc 7 1, 3) := by decide +kernel
theorem DM_X8_warden_147 : decode (mC M_X8_warden) 147 = .ok (.goto (-28), 3) := by decide +kernel
theorem DM_X8_warden_150 : decode (mC M_X8_warden) 150 = .ok (.iload 6, 2) := by decide +kernel
theorem DM_X8_warden_152 : decode (mC M_X8_warden) 152 = .ok (.ifCond .eq 8, 3) := by decide +kernel
theorem DM_X8_warden_155 : decode (mC M_X8_warden) 155 = .ok (.iload 5, 2) := by decide +kernel
theorem DM_X8_warden_157 : decode (mC M_X8_warden) 157 = .ok (.goto 4, 3) := by decide +kernel
theorem DM_X8_warden_160 : decode (mC M_X8_warden) 160 = .ok (.iload_n 3, 1) := by decide +kernel
theorem DM_X8_warden_161 : decode (mC M_X8_warden) 161 = .ok (.istore_n 3, 1) := by decide +kernel
theorem DM_X8_warden_162 : decode (mC M_X8_warden) 162 = .ok (.iinc 4 1, 3) := by decide +kernel
theorem DM_X8_warden_165 : decode (mC M_X8_warden) 165 = .ok (.goto (-95), 3) := by decide +kernel
theorem DM_X8_warden_168 : decode (mC M_X8_warden) 168 = .ok (.iload_n 1, 1) := by decide +kernel
theorem DM_X8_warden_169 : decode (mC M_X8_warden) 169 = .ok (.ifCond .lt 22, 3) := by decide +kernel
theorem DM_X8_warden_172 : decode (mC M_X8_warden) 172 = .ok (.iload_n 1, 1) := by decide +kernel
theorem DM_X8_warden_173 : decode (mC M_X8_warden) 173 = .ok (.iload_n 2, 1) := by decide +kernel
theorem DM_X8_warden_174 : decode (mC M_X8_warden) 174 = .ok (.if_icmp .ge 12, 3) := by decide +kernel
theorem DM_X8_warden_177 : decode (mC M_X8_warden) 177 = .ok (.aload_n 0, 1) := by decide +kernel
theorem DM_X8_warden_178 : decode (mC M_X8_warden) 178 = .ok (.getfield 56, 3) := by decide +kernel
theorem DM_X8_warden_181 : decode (mC M_X8_warden) 181 = .ok (.iload_n 1, 1) := by decide +kernel
theorem DM_X8_warden_182 : decode (mC M_X8_warden) 182 = .ok (.iaload, 1) := by decide +kernel
theorem DM_X8_warden_183 : decode (mC M_X8_warden) 183 = .ok (.goto 23, 3) := by decide +kernel
theorem DM_X8_warden_186 : decode (mC M_X8_warden) 186 = .ok (.ldc 59, 2) := by decide +kernel
theorem DM_X8_warden_188 : decode (mC M_X8_warden) 188 = .ok (.goto 18, 3) := by decide +kernel
theorem DM_X8_warden_191 : decode (mC M_X8_warden) 191 = .ok (.iload_n 1, 1) := by decide +kernel
theorem DM_X8_warden_192 : decode (mC M_X8_warden) 192 = .ok (.iconst (-1), 1) := by decide +kernel
theorem DM_X8_warden_193 : decode (mC M_X8_warden) 193 = .ok (.if_icmp .ne 7, 3) := by decide +kernel
theorem DM_X8_warden_196 : decode (mC M_X8_warden) 196 = .ok (.iload_n 3, 1) := by decide +kernel
theorem DM_X8_warden_197 : decode (mC M_X8_warden) 197 = .ok (.goto 9, 3) := by decide +kernel
theorem DM_X8_warden_200 : decode (mC M_X8_warden) 200 = .ok (.aload_n 0, 1) := by decide +kernel
theorem DM_X8_warden_201 : decode (mC M_X8_warden) 201 = .ok (.invokevirtual 242, 3) := by decide +kernel
theorem DM_X8_warden_204 : decode (mC M_X8_warden) 204 = .ok (.iload_n 3, 1) := by decide +kernel
theorem DM_X8_warden_205 : decode (mC M_X8_warden) 205 = .ok (.isub, 1) := by decide +kernel
theorem DM_X8_warden_206 : decode (mC M_X8_warden) 206 = .ok (.ireturn, 1) := by decide +kernel
theorem DM_X8_passedBy_0 : decode (mC M_X8_passedBy) 0 = .ok (.iconst 0, 1) := by decide +kernel
theorem DM_X8_passedBy_1 : decode (mC M_X8_passedBy) 1 = .ok (.istore_n 2, 1) := by decide +kernel
theorem DM_X8_passedBy_2 : decode (mC M_X8_passedBy) 2 = .ok (.iconst 0, 1) := by decide +kernel
theorem DM_X8_passedBy_3 : decode (mC M_X8_passedBy) 3 = .ok (.istore_n 3, 1) := by decide +kernel
theorem DM_X8_passedBy_4 : decode (mC M_X8_passedBy) 4 = .ok (.iload_n 3, 1) := by decide +kernel
theorem DM_X8_passedBy_5 : decode (mC M_X8_passedBy) 5 = .ok (.aload_n 0, 1) := by decide +kernel
theorem DM_X8_passedBy_6 : decode (mC M_X8_passedBy) 6 = .ok (.getfield 25, 3) := by decide +kernel
theorem DM_X8_passedBy_9 : decode (mC M_X8_passedBy) 9 = .ok (.iconst 2, 1) := by decide +kernel
theorem DM_X8_passedBy_10 : decode (mC M_X8_passedBy) 10 = .ok (.iaload, 1) := by decide +kernel
theorem DM_X8_passedBy_11 : decode (mC M_X8_passedBy) 11 = .ok (.if_icmp .ge 87, 3) := by decide +kernel
theorem DM_X8_passedBy_14 : decode (mC M_X8_passedBy) 14 = .ok (.iconst 0, 1) := by decide +kernel
theorem DM_X8_passedBy_15 : decode (mC M_X8_passedBy) 15 = .ok (.istore 4, 2) := by decide +kernel
theorem DM_X8_passedBy_17 : decode (mC M_X8_passedBy) 17 = .ok (.iconst 0, 1) := by decide +kernel
theorem DM_X8_passedBy_18 : decode (mC M_X8_passedBy) 18 = .ok (.istore 5, 2) := by decide +kernel
theorem DM_X8_passedBy_20 : decode (mC M_X8_passedBy) 20 = .ok (.iload 5, 2) := by decide +kernel
theorem DM_X8_passedBy_22 : decode (mC M_X8_passedBy) 22 = .ok (.aload_n 0, 1) := by decide +kernel
theorem DM_X8_passedBy_23 : decode (mC M_X8_passedBy) 23 = .ok (.getfield 25, 3) := by decide +kernel
theorem DM_X8_passedBy_26 : decode (mC M_X8_passedBy) 26 = .ok (.iload_n 3, 1) := by decide +kernel
theorem DM_X8_passedBy_27 : decode (mC M_X8_passedBy) 27 = .ok (.iconst 3, 1) := by decide +kernel
theorem DM_X8_passedBy_28 : decode (mC M_X8_passedBy) 28 = .ok (.invokestatic 158, 3) := by decide +kernel
theorem DM_X8_passedBy_31 : decode (mC M_X8_passedBy) 31 = .ok (.if_icmp .ge 37, 3) := by decide +kernel
theorem DM_X8_passedBy_34 : decode (mC M_X8_passedBy) 34 = .ok (.iload 4, 2) := by decide +kernel
theorem DM_X8_passedBy_36 : decode (mC M_X8_passedBy) 36 = .ok (.ifCond .ne 19, 3) := by decide +kernel
theorem DM_X8_passedBy_39 : decode (mC M_X8_passedBy) 39 = .ok (.aload_n 0, 1) := by decide +kernel
theorem DM_X8_passedBy_40 : decode (mC M_X8_passedBy) 40 = .ok (.getfield 25, 3) := by decide +kernel
theorem DM_X8_passedBy_43 : decode (mC M_X8_passedBy) 43 = .ok (.iload_n 3, 1) := by decide +kernel
theorem DM_X8_passedBy_44 : decode (mC M_X8_passedBy) 44 = .ok (.iconst 4, 1) := by decide +kernel
theorem DM_X8_passedBy_45 : decode (mC M_X8_passedBy) 45 = .ok (.iload 5, 2) := by decide +kernel
theorem DM_X8_passedBy_47 : decode (mC M_X8_passedBy) 47 = .ok (.iadd, 1) := by decide +kernel
theorem DM_X8_passedBy_48 : decode (mC M_X8_passedBy) 48 = .ok (.invokestatic 158, 3) := by decide +kernel
theorem DM_X8_passedBy_51 : decode (mC M_X8_passedBy) 51 = .ok (.iload_n 1, 1) := by decide +kernel
theorem DM_X8_passedBy_52 : decode (mC M_X8_passedBy) 52 = .ok (.if_icmp .ne 7, 3) := by decide +kernel
theorem DM_X8_passedBy_55 : decode (mC M_X8_passedBy) 55 = .ok (.iconst 1, 1) := by decide +kernel
theorem DM_X8_passedBy_56 : decode (mC M_X8_passedBy) 56 = .ok (.goto 4, 3) := by decide +kernel
theorem DM_X8_passedBy_59 : decode (mC M_X8_passedBy) 59 = .ok (.iconst 0, 1) := by decide +kernel
theorem DM_X8_passedBy_60 : decode (mC M_X8_passedBy) 60 = .ok (.istore 4, 2) := by decide +kernel
theorem DM_X8_passedBy_62 : decode (mC M_X8_passedBy) 62 = .ok (.iinc 5 1, 3) := by decide +kernel
theorem DM_X8_passedBy_65 : decode (mC M_X8_passedBy) 65 = .ok (.goto (-45), 3) := by decide +kernel
theorem DM_X8_passedBy_68 : decode (mC M_X8_passedBy) 68 = .ok (.iload_n 2, 1) := by decide +kernel
theorem DM_X8_passedBy_69 : decode (mC M_X8_passedBy) 69 = .ok (.iload 4, 2) := by decide +kernel
theorem DM_X8_passedBy_71 : decode (mC M_X8_passedBy) 71 = .ok (.ifCond .eq 18, 3) := by decide +kernel
theorem DM_X8_passedBy_74 : decode (mC M_X8_passedBy) 74 = .ok (.aload_n 0, 1) := by decide +kernel
theorem DM_X8_passedBy_75 : decode (mC M_X8_passedBy) 75 = .ok (.getfield 25, 3) := by decide +kernel
theorem DM_X8_passedBy_78 : decode (mC M_X8_passedBy) 78 = .ok (.iload_n 3, 1) := by decide +kernel
theorem DM_X8_passedBy_79 : decode (mC M_X8_passedBy) 79 = .ok (.invokestatic 172, 3) := by decide +kernel
theorem DM_X8_passedBy_82 : decode (mC M_X8_passedBy) 82 = .ok (.ifCond .eq 7, 3) := by decide +kernel
theorem DM_X8_passedBy_85 : decode (mC M_X8_passedBy) 85 = .ok (.iconst 1, 1) := by decide +kernel
theorem DM_X8_passedBy_86 : decode (mC M_X8_passedBy) 86 = .ok (.goto 4, 3) := by decide +kernel
theorem DM_X8_passedBy_89 : decode (mC M_X8_passedBy) 89 = .ok (.iconst 0, 1) := by decide +kernel
theorem DM_X8_passedBy_90 : decode (mC M_X8_passedBy) 90 = .ok (.iadd, 1) := by decide +kernel
theorem DM_X8_passedBy_91 : decode (mC M_X8_passedBy) 91 = .ok (.istore_n 2, 1) := by decide +kernel
theorem DM_X8_passedBy_92 : decode (mC M_X8_passedBy) 92 = .ok (.iinc 3 1, 3) := by decide +kernel
theorem DM_X8_passedBy_95 : decode (mC M_X8_passedBy) 95 = .ok (.goto (-91), 3) := by decide +kernel
theorem DM_X8_passedBy_98 : decode (mC M_X8_passedBy) 98 = .ok (.iload_n 2, 1) := by decide +kernel
theorem DM_X8_passedBy_99 : decode (mC M_X8_passedBy) 99 = .ok (.ireturn, 1) := by decide +kernel
theorem DM_X8_frees_0 : decode (mC M_X8_frees) 0 = .ok (.aload_n 0, 1) := by decide +kernel
theorem DM_X8_frees_1 : decode (mC M_X8_frees) 1 = .ok (.invokevirtual 200, 3) := by decide +kernel
theorem DM_X8_frees_4 : decode (mC M_X8_frees) 4 = .ok (.ifCond .ne 6, 3) := by decide +kernel
theorem DM_X8_frees_7 : decode (mC M_X8_frees) 7 = .ok (.ldc 203, 2) := by decide +kernel
theorem DM_X8_frees_9 : decode (mC M_X8_frees) 9 = .ok (.ireturn, 1) := by decide +kernel
theorem DM_X8_frees_10 : decode (mC M_X8_frees) 10 = .ok (.iload_n 1, 1) := by decide +kernel
theorem DM_X8_frees_11 : decode (mC M_X8_frees) 11 = .ok (.iconst 0, 1) := by decide +kernel
theorem DM_X8_frees_12 : decode (mC M_X8_frees) 12 = .ok (.iconst 1, 1) := by decide +kernel
theorem DM_X8_frees_13 : decode (mC M_X8_frees) 13 = .ok (.invokestatic 65, 3) := by decide +kernel
theorem DM_X8_frees_16 : decode (mC M_X8_frees) 16 = .ok (.ifCond .ne 6, 3) := by decide +kernel
theorem DM_X8_frees_19 : decode (mC M_X8_frees) 19 = .ok (.ldc 73, 2) := by decide +kernel
theorem DM_X8_frees_21 : decode (mC M_X8_frees) 21 = .ok (.ireturn, 1) := by decide +kernel
theorem DM_X8_frees_22 : decode (mC M_X8_frees) 22 = .ok (.iconst 0, 1) := by decide +kernel
theorem DM_X8_frees_23 : decode (mC M_X8_frees) 23 = .ok (.istore_n 2, 1) := by decide +kernel
theorem DM_X8_frees_24 : decode (mC M_X8_frees) 24 = .ok (.iconst 1, 1) := by decide +kernel
theorem DM_X8_frees_25 : decode (mC M_X8_frees) 25 = .ok (.istore_n 3, 1) := by decide +kernel
theorem DM_X8_frees_26 : decode (mC M_X8_frees) 26 = .ok (.iload_n 3, 1) := by decide +kernel
theorem DM_X8_frees_27 : decode (mC M_X8_frees) 27 = .ok (.bipush 8, 2) := by decide +kernel
theorem DM_X8_frees_29 : decode (mC M_X8_frees) 29 = .ok (.if_icmp .ge 28, 3) := by decide +kernel
theorem DM_X8_frees_32 : decode (mC M_X8_frees) 32 = .ok (.aload_n 0, 1) := by decide +kernel
theorem DM_X8_frees_33 : decode (mC M_X8_frees) 33 = .ok (.iload_n 3, 1) := by decide +kernel
theorem DM_X8_frees_34 : decode (mC M_X8_frees) 34 = .ok (.invokevirtual 245, 3) := by decide +kernel
theorem DM_X8_frees_37 : decode (mC M_X8_frees) 37 = .ok (.aload_n 0, 1) := by decide +kernel
theorem DM_X8_frees_38 : decode (mC M_X8_frees) 38 = .ok (.iload_n 2, 1) := by decide +kernel
theorem DM_X8_frees_39 : decode (mC M_X8_frees) 39 = .ok (.invokevirtual 245, 3) := by decide +kernel
theorem DM_X8_frees_42 : decode (mC M_X8_frees) 42 = .ok (.if_icmp .le 7, 3) := by decide +kernel
theorem DM_X8_frees_45 : decode (mC M_X8_frees) 45 = .ok (.iload_n 3, 1) := by decide +kernel
theorem DM_X8_frees_46 : decode (mC M_X8_frees) 46 = .ok (.goto 4, 3) := by decide +kernel
theorem DM_X8_frees_49 : decode (mC M_X8_frees) 49 = .ok (.iload_n 2, 1) := by decide +kernel
theorem DM_X8_frees_50 : decode (mC M_X8_frees) 50 = .ok (.istore_n 2, 1) := by decide +kernel
theorem DM_X8_frees_51 : decode (mC M_X8_frees) 51 = .ok (.iinc 3 1, 3) := by decide +kernel
theorem DM_X8_frees_54 : decode (mC M_X8_frees) 54 = .ok (.goto (-28), 3) := by decide +kernel
theorem DM_X8_frees_57 : decode (mC M_X8_frees) 57 = .ok (.iload_n 1, 1) := by decide +kernel
theorem DM_X8_frees_58 : decode (mC M_X8_frees) 58 = .ok (.ifCond .ne 7, 3) := by decide +kernel
theorem DM_X8_frees_61 : decode (mC M_X8_frees) 61 = .ok (.iload_n 2, 1) := by decide +kernel
theorem DM_X8_frees_62 : decode (mC M_X8_frees) 62 = .ok (.goto 8, 3) := by decide +kernel
theorem DM_X8_frees_65 : decode (mC M_X8_frees) 65 = .ok (.aload_n 0, 1) := by decide +kernel
theorem DM_X8_frees_66 : decode (mC M_X8_frees) 66 = .ok (.iload_n 2, 1) := by decide +kernel
theorem DM_X8_frees_67 : decode (mC M_X8_frees) 67 = .ok (.invokevirtual 245, 3) := by decide +kernel
theorem DM_X8_frees_70 : decode (mC M_X8_frees) 70 = .ok (.ireturn, 1) := by decide +kernel
theorem DM_X8_ledger_0 : decode (mC M_X8_ledger) 0 = .ok (.aload_n 0, 1) := by decide +kernel
theorem DM_X8_ledger_1 : decode (mC M_X8_ledger) 1 = .ok (.invokevirtual 200, 3) := by decide +kernel
theorem DM_X8_ledger_4 : decode (mC M_X8_ledger) 4 = .ok (.ifCond .ne 6, 3) := by decide +kernel
theorem DM_X8_ledger_7 : decode (mC M_X8_ledger) 7 = .ok (.ldc 203, 2) := by decide +kernel
theorem DM_X8_ledger_9 : decode (mC M_X8_ledger) 9 = .ok (.ireturn, 1) := by decide +kernel
theorem DM_X8_ledger_10 : decode (mC M_X8_ledger) 10 = .ok (.iload_n 1, 1) := by decide +kernel
theorem DM_X8_ledger_11 : decode (mC M_X8_ledger) 11 = .ok (.invokestatic 69, 3) := by decide +kernel
theorem DM_X8_ledger_14 : decode (mC M_X8_ledger) 14 = .ok (.ifCond .eq 13, 3) := by decide +kernel
theorem DM_X8_ledger_17 : decode (mC M_X8_ledger) 17 = .ok (.iload_n 3, 1) := by decide +kernel
theorem DM_X8_ledger_18 : decode (mC M_X8_ledger) 18 = .ok (.iconst 0, 1) := by decide +kernel
theorem DM_X8_ledger_19 : decode (mC M_X8_ledger) 19 = .ok (.bipush 6, 2) := by decide +kernel
theorem DM_X8_ledger_21 : decode (mC M_X8_ledger) 21 = .ok (.invokestatic 65, 3) := by decide +kernel
theorem DM_X8_ledger_24 : decode (mC M_X8_ledger) 24 = .ok (.ifCond .ne 6, 3) := by decide +kernel
theorem DM_X8_ledger_27 : decode (mC M_X8_ledger) 27 = .ok (.ldc 73, 2) := by decide +kernel
theorem DM_X8_ledger_29 : decode (mC M_X8_ledger) 29 = .ok (.ireturn, 1) := by decide +kernel
theorem DM_X8_ledger_30 : decode (mC M_X8_ledger) 30 = .ok (.aload_n 0, 1) := by decide +kernel
theorem DM_X8_ledger_31 : decode (mC M_X8_ledger) 31 = .ok (.iload_n 1, 1) := by decide +kernel
theorem DM_X8_ledger_32 : decode (mC M_X8_ledger) 32 = .ok (.invokevirtual 81, 3) := by decide +kernel
theorem DM_X8_ledger_35 : decode (mC M_X8_ledger) 35 = .ok (.ifCond .eq 9, 3) := by decide +kernel
theorem DM_X8_ledger_38 : decode (mC M_X8_ledger) 38 = .ok (.aload_n 0, 1) := by decide +kernel
theorem DM_X8_ledger_39 : decode (mC M_X8_ledger) 39 = .ok (.iconst 1, 1) := by decide +kernel
theorem DM_X8_ledger_40 : decode (mC M_X8_ledger) 40 = .ok (.invokevirtual 74, 3) := by decide +kernel
theorem DM_X8_ledger_43 : decode (mC M_X8_ledger) 43 = .ok (.ireturn, 1) := by decide +kernel
theorem DM_X8_ledger_44 : decode (mC M_X8_ledger) 44 = .ok (.aload_n 0, 1) := by decide +kernel
theorem DM_X8_ledger_45 : decode (mC M_X8_ledger) 45 = .ok (.iload_n 1, 1) := by decide +kernel
theorem DM_X8_ledger_46 : decode (mC M_X8_ledger) 46 = .ok (.iload_n 2, 1) := by decide +kernel
theorem DM_X8_ledger_47 : decode (mC M_X8_ledger) 47 = .ok (.iload_n 3, 1) := by decide +kernel
theorem DM_X8_ledger_48 : decode (mC M_X8_ledger) 48 = .ok (.invokevirtual 88, 3) := by decide +kernel
theorem DM_X8_ledger_51 : decode (mC M_X8_ledger) 51 = .ok (.ifCond .ne 9, 3) := by decide +kernel
theorem DM_X8_ledger_54 : decode (mC M_X8_ledger) 54 = .ok (.aload_n 0, 1) := by decide +kernel
theorem DM_X8_ledger_55 : decode (mC M_X8_ledger) 55 = .ok (.iconst 2, 1) := by decide +kernel
theorem DM_X8_ledger_56 : decode (mC M_X8_ledger) 56 = .ok (.invokevirtual 74, 3) := by decide +kernel
theorem DM_X8_ledger_59 : decode (mC M_X8_ledger) 59 = .ok (.ireturn, 1) := by decide +kernel
theorem DM_X8_ledger_60 : decode (mC M_X8_ledger) 60 = .ok (.iconst 0, 1) := by decide +kernel
theorem DM_X8_ledger_61 : decode (mC M_X8_ledger) 61 = .ok (.istore 4, 2) := by decide +kernel
theorem DM_X8_ledger_63 : decode (mC M_X8_ledger) 63 = .ok (.iload 4, 2) := by decide +kernel
theorem DM_X8_ledger_65 : decode (mC M_X8_ledger) 65 = .ok (.iload_n 3, 1) := by decide +kernel
theorem DM_X8_ledger_66 : decode (mC M_X8_ledger) 66 = .ok (.if_icmp .ge 33, 3) := by decide +kernel
theorem DM_X8_ledger_69 : decode (mC M_X8_ledger) 69 = .ok (.aload_n 0, 1) := by decide +kernel
theorem DM_X8_ledger_70 : decode (mC M_X8_ledger) 70 = .ok (.aload_n 0, 1) := by decide +kernel
theorem DM_X8_ledger_71 : decode (mC M_X8_ledger) 71 = .ok (.getfield 16, 3) := by decide +kernel
theorem DM_X8_ledger_74 : decode (mC M_X8_ledger) 74 = .ok (.bipush 40, 2) := by decide +kernel
theorem DM_X8_ledger_76 : decode (mC M_X8_ledger) 76 = .ok (.iload_n 1, 1) := by decide +kernel
theorem DM_X8_ledger_77 : decode (mC M_X8_ledger) 77 = .ok (.imul, 1) := by decide +kernel
theorem DM_X8_ledger_78 : decode (mC M_X8_ledger) 78 = .ok (.iload_n 2, 1) := by decide +kernel
theorem DM_X8_ledger_79 : decode (mC M_X8_ledger) 79 = .ok (.iadd, 1) := by decide +kernel
theorem DM_X8_ledger_80 : decode (mC M_X8_ledger) 80 = .ok (.iload 4, 2) := by decide +kernel
theorem DM_X8_ledger_82 : decode (mC M_X8_ledger) 82 = .ok (.iadd, 1) := by decide +kernel
theorem DM_X8_ledger_83 : decode (mC M_X8_ledger) 83 = .ok (.iaload, 1) := by decide +kernel
theorem DM_X8_ledger_84 : decode (mC M_X8_ledger) 84 = .ok (.invokevirtual 210, 3) := by decide +kernel
theorem DM_X8_ledger_87 : decode (mC M_X8_ledger) 87 = .ok (.ifCond .ne 6, 3) := by decide +kernel
theorem DM_X8_ledger_90 : decode (mC M_X8_ledger) 90 = .ok (.ldc 73, 2) := by decide +kernel
theorem DM_X8_ledger_92 : decode (mC M_X8_ledger) 92 = .ok (.ireturn, 1) := by decide +kernel
theorem DM_X8_ledger_93 : decode (mC M_X8_ledger) 93 = .ok (.iinc 4 1, 3) := by decide +kernel
theorem DM_X8_ledger_96 : decode (mC M_X8_ledger) 96 = .ok (.goto (-33), 3) := by decide +kernel
theorem DM_X8_ledger_99 : decode (mC M_X8_ledger) 99 = .ok (.iconst 0, 1) := by decide +kernel
theorem DM_X8_ledger_100 : decode (mC M_X8_ledger) 100 = .ok (.istore 4, 2) := by decide +kernel
theorem DM_X8_ledger_102 : decode (mC M_X8_ledger) 102 = .ok (.iconst 0, 1) := by decide +kernel
theorem DM_X8_ledger_103 : decode (mC M_X8_ledger) 103 = .ok (.istore 5, 2) := by decide +kernel
theorem DM_X8_ledger_105 : decode (mC M_X8_ledger) 105 = .ok (.iload 5, 2) := by decide +kernel
theorem DM_X8_ledger_107 : decode (mC M_X8_ledger) 107 = .ok (.bipush 8, 2) := by decide +kernel
theorem DM_X8_ledger_109 : decode (mC M_X8_ledger) 109 = .ok (.if_icmp .ge 116, 3) := by decide +kernel
theorem DM_X8_ledger_112 : decode (mC M_X8_ledger) 112 = .ok (.aload_n 0, 1) := by decide +kernel
theorem DM_X8_ledger_113 : decode (mC M_X8_ledger) 113 = .ok (.getfield 25, 3) := by decide +kernel
theorem DM_X8_ledger_116 : decode (mC M_X8_ledger) 116 = .ok (.iconst 0, 1) := by decide +kernel
theorem DM_X8_ledger_117 : decode (mC M_X8_ledger) 117 = .ok (.aload_n 0, 1) := by decide +kernel
theorem DM_X8_ledger_118 : decode (mC M_X8_ledger) 118 = .ok (.getfield 31, 3) := by decide +kernel
theorem DM_X8_ledger_121 : decode (mC M_X8_ledger) 121 = .ok (.iconst 0, 1) := by decide +kernel
theorem DM_X8_ledger_122 : decode (mC M_X8_ledger) 122 = .ok (.invokestatic 151, 3) := by decide +kernel
theorem DM_X8_ledger_125 : decode (mC M_X8_ledger) 125 = .ok (.aload_n 0, 1) := by decide +kernel
