/-! the decode rows, as TURN printed them -/
theorem dX0_init_0 : decode cX0_init 0 = .ok (.aload_n 0, 1) := by decide +kernel
theorem dX0_init_1 : decode cX0_init 1 = .ok (.invokespecial 3, 3) := by decide +kernel
theorem dX0_init_4 : decode cX0_init 4 = .ok (.aload_n 0, 1) := by decide +kernel
theorem dX0_init_5 : decode cX0_init 5 = .ok (.bipush 80, 2) := by decide +kernel
theorem dX0_init_7 : decode cX0_init 7 = .ok (.newarray .int, 2) := by decide +kernel
theorem dX0_init_9 : decode cX0_init 9 = .ok (.putfield 9, 3) := by decide +kernel
theorem dX0_init_12 : decode cX0_init 12 = .ok (.aload_n 0, 1) := by decide +kernel
theorem dX0_init_13 : decode cX0_init 13 = .ok (.bipush 80, 2) := by decide +kernel
theorem dX0_init_15 : decode cX0_init 15 = .ok (.newarray .int, 2) := by decide +kernel
theorem dX0_init_17 : decode cX0_init 17 = .ok (.putfield 15, 3) := by decide +kernel
theorem dX0_init_20 : decode cX0_init 20 = .ok (.aload_n 0, 1) := by decide +kernel
theorem dX0_init_21 : decode cX0_init 21 = .ok (.bipush 80, 2) := by decide +kernel
theorem dX0_init_23 : decode cX0_init 23 = .ok (.newarray .int, 2) := by decide +kernel
theorem dX0_init_25 : decode cX0_init 25 = .ok (.putfield 18, 3) := by decide +kernel
theorem dX0_init_28 : decode cX0_init 28 = .ok (.aload_n 0, 1) := by decide +kernel
theorem dX0_init_29 : decode cX0_init 29 = .ok (.bipush 80, 2) := by decide +kernel
theorem dX0_init_31 : decode cX0_init 31 = .ok (.newarray .int, 2) := by decide +kernel
theorem dX0_init_33 : decode cX0_init 33 = .ok (.putfield 21, 3) := by decide +kernel
theorem dX0_init_36 : decode cX0_init 36 = .ok (.aload_n 0, 1) := by decide +kernel
theorem dX0_init_37 : decode cX0_init 37 = .ok (.iconst 0, 1) := by decide +kernel
theorem dX0_init_38 : decode cX0_init 38 = .ok (.putfield 24, 3) := by decide +kernel
theorem dX0_init_41 : decode cX0_init 41 = .ok (.aload_n 0, 1) := by decide +kernel
theorem dX0_init_42 : decode cX0_init 42 = .ok (.iconst 0, 1) := by decide +kernel
theorem dX0_init_43 : decode cX0_init 43 = .ok (.putfield 28, 3) := by decide +kernel
theorem dX0_init_46 : decode cX0_init 46 = .ok (.aload_n 0, 1) := by decide +kernel
theorem dX0_init_47 : decode cX0_init 47 = .ok (.iconst 0, 1) := by decide +kernel
theorem dX0_init_48 : decode cX0_init 48 = .ok (.putfield 31, 3) := by decide +kernel
theorem dX0_init_51 : decode cX0_init 51 = .ok (.aload_n 0, 1) := by decide +kernel
theorem dX0_init_52 : decode cX0_init 52 = .ok (.iload_n 1, 1) := by decide +kernel
theorem dX0_init_53 : decode cX0_init 53 = .ok (.putfield 34, 3) := by decide +kernel
theorem dX0_init_56 : decode cX0_init 56 = .ok (.aload_n 0, 1) := by decide +kernel
theorem dX0_init_57 : decode cX0_init 57 = .ok (.iload_n 2, 1) := by decide +kernel
theorem dX0_init_58 : decode cX0_init 58 = .ok (.putfield 37, 3) := by decide +kernel
theorem dX0_init_61 : decode cX0_init 61 = .ok (.return_, 1) := by decide +kernel
theorem dX0_clear_0 : decode cX0_clear 0 = .ok (.aload_n 0, 1) := by decide +kernel
theorem dX0_clear_1 : decode cX0_clear 1 = .ok (.iconst 0, 1) := by decide +kernel
theorem dX0_clear_2 : decode cX0_clear 2 = .ok (.putfield 24, 3) := by decide +kernel
theorem dX0_clear_5 : decode cX0_clear 5 = .ok (.aload_n 0, 1) := by decide +kernel
theorem dX0_clear_6 : decode cX0_clear 6 = .ok (.iconst 0, 1) := by decide +kernel
theorem dX0_clear_7 : decode cX0_clear 7 = .ok (.putfield 28, 3) := by decide +kernel
theorem dX0_clear_10 : decode cX0_clear 10 = .ok (.aload_n 0, 1) := by decide +kernel
theorem dX0_clear_11 : decode cX0_clear 11 = .ok (.iconst 0, 1) := by decide +kernel
theorem dX0_clear_12 : decode cX0_clear 12 = .ok (.putfield 31, 3) := by decide +kernel
theorem dX0_clear_15 : decode cX0_clear 15 = .ok (.return_, 1) := by decide +kernel
theorem dX0_slotFromOldest_0 : decode cX0_slotFromOldest 0 = .ok (.aload_n 0, 1) := by decide +kernel
theorem dX0_slotFromOldest_1 : decode cX0_slotFromOldest 1 = .ok (.getfield 24, 3) := by decide +kernel
theorem dX0_slotFromOldest_4 : decode cX0_slotFromOldest 4 = .ok (.iload_n 1, 1) := by decide +kernel
theorem dX0_slotFromOldest_5 : decode cX0_slotFromOldest 5 = .ok (.iadd, 1) := by decide +kernel
theorem dX0_slotFromOldest_6 : decode cX0_slotFromOldest 6 = .ok (.bipush 80, 2) := by decide +kernel
theorem dX0_slotFromOldest_8 : decode cX0_slotFromOldest 8 = .ok (.invokestatic 41, 3) := by decide +kernel
theorem dX0_slotFromOldest_11 : decode cX0_slotFromOldest 11 = .ok (.ireturn, 1) := by decide +kernel
theorem dX0_slotAt_0 : decode cX0_slotAt 0 = .ok (.aload_n 0, 1) := by decide +kernel
theorem dX0_slotAt_1 : decode cX0_slotAt 1 = .ok (.getfield 37, 3) := by decide +kernel
theorem dX0_slotAt_4 : decode cX0_slotAt 4 = .ok (.ifCond .eq 12, 3) := by decide +kernel
theorem dX0_slotAt_7 : decode cX0_slotAt 7 = .ok (.aload_n 0, 1) := by decide +kernel
theorem dX0_slotAt_8 : decode cX0_slotAt 8 = .ok (.getfield 24, 3) := by decide +kernel
theorem dX0_slotAt_11 : decode cX0_slotAt 11 = .ok (.iload_n 1, 1) := by decide +kernel
theorem dX0_slotAt_12 : decode cX0_slotAt 12 = .ok (.iadd, 1) := by decide +kernel
theorem dX0_slotAt_13 : decode cX0_slotAt 13 = .ok (.goto 16, 3) := by decide +kernel
theorem dX0_slotAt_16 : decode cX0_slotAt 16 = .ok (.aload_n 0, 1) := by decide +kernel
theorem dX0_slotAt_17 : decode cX0_slotAt 17 = .ok (.getfield 24, 3) := by decide +kernel
theorem dX0_slotAt_20 : decode cX0_slotAt 20 = .ok (.aload_n 0, 1) := by decide +kernel
theorem dX0_slotAt_21 : decode cX0_slotAt 21 = .ok (.getfield 28, 3) := by decide +kernel
theorem dX0_slotAt_24 : decode cX0_slotAt 24 = .ok (.iadd, 1) := by decide +kernel
theorem dX0_slotAt_25 : decode cX0_slotAt 25 = .ok (.iconst 1, 1) := by decide +kernel
theorem dX0_slotAt_26 : decode cX0_slotAt 26 = .ok (.isub, 1) := by decide +kernel
theorem dX0_slotAt_27 : decode cX0_slotAt 27 = .ok (.iload_n 1, 1) := by decide +kernel
theorem dX0_slotAt_28 : decode cX0_slotAt 28 = .ok (.isub, 1) := by decide +kernel
theorem dX0_slotAt_29 : decode cX0_slotAt 29 = .ok (.bipush 80, 2) := by decide +kernel
theorem dX0_slotAt_31 : decode cX0_slotAt 31 = .ok (.invokestatic 41, 3) := by decide +kernel
theorem dX0_slotAt_34 : decode cX0_slotAt 34 = .ok (.ireturn, 1) := by decide +kernel
theorem dX0_bushelsAt_0 : decode cX0_bushelsAt 0 = .ok (.aload_n 0, 1) := by decide +kernel
theorem dX0_bushelsAt_1 : decode cX0_bushelsAt 1 = .ok (.getfield 9, 3) := by decide +kernel
theorem dX0_bushelsAt_4 : decode cX0_bushelsAt 4 = .ok (.aload_n 0, 1) := by decide +kernel
theorem dX0_bushelsAt_5 : decode cX0_bushelsAt 5 = .ok (.iload_n 1, 1) := by decide +kernel
theorem dX0_bushelsAt_6 : decode cX0_bushelsAt 6 = .ok (.invokevirtual 47, 3) := by decide +kernel
theorem dX0_bushelsAt_9 : decode cX0_bushelsAt 9 = .ok (.iaload, 1) := by decide +kernel
theorem dX0_bushelsAt_10 : decode cX0_bushelsAt 10 = .ok (.ireturn, 1) := by decide +kernel
theorem dX0_moistureAt_0 : decode cX0_moistureAt 0 = .ok (.aload_n 0, 1) := by decide +kernel
theorem dX0_moistureAt_1 : decode cX0_moistureAt 1 = .ok (.getfield 15, 3) := by decide +kernel
theorem dX0_moistureAt_4 : decode cX0_moistureAt 4 = .ok (.aload_n 0, 1) := by decide +kernel
theorem dX0_moistureAt_5 : decode cX0_moistureAt 5 = .ok (.iload_n 1, 1) := by decide +kernel
theorem dX0_moistureAt_6 : decode cX0_moistureAt 6 = .ok (.invokevirtual 47, 3) := by decide +kernel
theorem dX0_moistureAt_9 : decode cX0_moistureAt 9 = .ok (.iaload, 1) := by decide +kernel
theorem dX0_moistureAt_10 : decode cX0_moistureAt 10 = .ok (.ireturn, 1) := by decide +kernel
theorem dX0_foreignAt_0 : decode cX0_foreignAt 0 = .ok (.aload_n 0, 1) := by decide +kernel
theorem dX0_foreignAt_1 : decode cX0_foreignAt 1 = .ok (.getfield 18, 3) := by decide +kernel
theorem dX0_foreignAt_4 : decode cX0_foreignAt 4 = .ok (.aload_n 0, 1) := by decide +kernel
theorem dX0_foreignAt_5 : decode cX0_foreignAt 5 = .ok (.iload_n 1, 1) := by decide +kernel
theorem dX0_foreignAt_6 : decode cX0_foreignAt 6 = .ok (.invokevirtual 47, 3) := by decide +kernel
theorem dX0_foreignAt_9 : decode cX0_foreignAt 9 = .ok (.iaload, 1) := by decide +kernel
theorem dX0_foreignAt_10 : decode cX0_foreignAt 10 = .ok (.ireturn, 1) := by decide +kernel
theorem dX0_gradeAt_0 : decode cX0_gradeAt 0 = .ok (.aload_n 0, 1) := by decide +kernel
theorem dX0_gradeAt_1 : decode cX0_gradeAt 1 = .ok (.getfield 21, 3) := by decide +kernel
theorem dX0_gradeAt_4 : decode cX0_gradeAt 4 = .ok (.aload_n 0, 1) := by decide +kernel
theorem dX0_gradeAt_5 : decode cX0_gradeAt 5 = .ok (.iload_n 1, 1) := by decide +kernel
theorem dX0_gradeAt_6 : decode cX0_gradeAt 6 = .ok (.invokevirtual 47, 3) := by decide +kernel
theorem dX0_gradeAt_9 : decode cX0_gradeAt 9 = .ok (.iaload, 1) := by decide +kernel
theorem dX0_gradeAt_10 : decode cX0_gradeAt 10 = .ok (.ireturn, 1) := by decide +kernel
theorem dX0_add_0 : decode cX0_add 0 = .ok (.iload_n 1, 1) := by decide +kernel
theorem dX0_add_1 : decode cX0_add 1 = .ok (.iconst 1, 1) := by decide +kernel
theorem dX0_add_2 : decode cX0_add 2 = .ok (.if_icmp .lt 12, 3) := by decide +kernel
theorem dX0_add_5 : decode cX0_add 5 = .ok (.aload_n 0, 1) := by decide +kernel
theorem dX0_add_6 : decode cX0_add 6 = .ok (.getfield 28, 3) := by decide +kernel
theorem dX0_add_9 : decode cX0_add 9 = .ok (.bipush 80, 2) := by decide +kernel
theorem dX0_add_11 : decode cX0_add 11 = .ok (.if_icmp .lt 4, 3) := by decide +kernel
theorem dX0_add_14 : decode cX0_add 14 = .ok (.return_, 1) := by decide +kernel
theorem dX0_add_15 : decode cX0_add 15 = .ok (.aload_n 0, 1) := by decide +kernel
theorem dX0_add_16 : decode cX0_add 16 = .ok (.aload_n 0, 1) := by decide +kernel
theorem dX0_add_17 : decode cX0_add 17 = .ok (.getfield 28, 3) := by decide +kernel
theorem dX0_add_20 : decode cX0_add 20 = .ok (.invokevirtual 51, 3) := by decide +kernel
theorem dX0_add_23 : decode cX0_add 23 = .ok (.istore 5, 2) := by decide +kernel
theorem dX0_add_25 : decode cX0_add 25 = .ok (.aload_n 0, 1) := by decide +kernel
theorem dX0_add_26 : decode cX0_add 26 = .ok (.getfield 9, 3) := by decide +kernel
theorem dX0_add_29 : decode cX0_add 29 = .ok (.iload 5, 2) := by decide +kernel
theorem dX0_add_31 : decode cX0_add 31 = .ok (.iload_n 1, 1) := by decide +kernel
theorem dX0_add_32 : decode cX0_add 32 = .ok (.iastore, 1) := by decide +kernel
theorem dX0_add_33 : decode cX0_add 33 = .ok (.aload_n 0, 1) := by decide +kernel
theorem dX0_add_34 : decode cX0_add 34 = .ok (.getfield 15, 3) := by decide +kernel
theorem dX0_add_37 : decode cX0_add 37 = .ok (.iload 5, 2) := by decide +kernel
theorem dX0_add_39 : decode cX0_add 39 = .ok (.iload_n 2, 1) := by decide +kernel
theorem dX0_add_40 : decode cX0_add 40 = .ok (.iastore, 1) := by decide +kernel
theorem dX0_add_41 : decode cX0_add 41 = .ok (.aload_n 0, 1) := by decide +kernel
theorem dX0_add_42 : decode cX0_add 42 = .ok (.getfield 18, 3) := by decide +kernel
theorem dX0_add_45 : decode cX0_add 45 = .ok (.iload 5, 2) := by decide +kernel
theorem dX0_add_47 : decode cX0_add 47 = .ok (.iload_n 3, 1) := by decide +kernel
theorem dX0_add_48 : decode cX0_add 48 = .ok (.iastore, 1) := by decide +kernel
theorem dX0_add_49 : decode cX0_add 49 = .ok (.aload_n 0, 1) := by decide +kernel
theorem dX0_add_50 : decode cX0_add 50 = .ok (.getfield 21, 3) := by decide +kernel
theorem dX0_add_53 : decode cX0_add 53 = .ok (.iload 5, 2) := by decide +kernel
theorem dX0_add_55 : decode cX0_add 55 = .ok (.iload 4, 2) := by decide +kernel
theorem dX0_add_57 : decode cX0_add 57 = .ok (.iastore, 1) := by decide +kernel
theorem dX0_add_58 : decode cX0_add 58 = .ok (.aload_n 0, 1) := by decide +kernel
theorem dX0_add_59 : decode cX0_add 59 = .ok (.dup, 1) := by decide +kernel
theorem dX0_add_60 : decode cX0_add 60 = .ok (.getfield 28, 3) := by decide +kernel
theorem dX0_add_63 : decode cX0_add 63 = .ok (.iconst 1, 1) := by decide +kernel
theorem dX0_add_64 : decode cX0_add 64 = .ok (.iadd, 1) := by decide +kernel
theorem dX0_add_65 : decode cX0_add 65 = .ok (.putfield 28, 3) := by decide +kernel
theorem dX0_add_68 : decode cX0_add 68 = .ok (.aload_n 0, 1) := by decide +kernel
theorem dX0_add_69 : decode cX0_add 69 = .ok (.dup, 1) := by decide +kernel
theorem dX0_add_70 : decode cX0_add 70 = .ok (.getfield 31, 3) := by decide +kernel
theorem dX0_add_73 : decode cX0_add 73 = .ok (.iload_n 1, 1) := by decide +kernel
theorem dX0_add_74 : decode cX0_add 74 = .ok (.iadd, 1) := by decide +kernel
theorem dX0_add_75 : decode cX0_add 75 = .ok (.putfield 31, 3) := by decide +kernel
theorem dX0_add_78 : decode cX0_add 78 = .ok (.return_, 1) := by decide +kernel
theorem dX0_takeOfNext_0 : decode cX0_takeOfNext 0 = .ok (.aload_n 0, 1) := by decide +kernel
theorem dX0_takeOfNext_1 : decode cX0_takeOfNext 1 = .ok (.iconst 0, 1) := by decide +kernel
theorem dX0_takeOfNext_2 : decode cX0_takeOfNext 2 = .ok (.invokevirtual 47, 3) := by decide +kernel
theorem dX0_takeOfNext_5 : decode cX0_takeOfNext 5 = .ok (.istore_n 2, 1) := by decide +kernel
theorem dX0_takeOfNext_6 : decode cX0_takeOfNext 6 = .ok (.iload_n 1, 1) := by decide +kernel
theorem dX0_takeOfNext_7 : decode cX0_takeOfNext 7 = .ok (.aload_n 0, 1) := by decide +kernel
theorem dX0_takeOfNext_8 : decode cX0_takeOfNext 8 = .ok (.getfield 9, 3) := by decide +kernel
theorem dX0_takeOfNext_11 : decode cX0_takeOfNext 11 = .ok (.iload_n 2, 1) := by decide +kernel
theorem dX0_takeOfNext_12 : decode cX0_takeOfNext 12 = .ok (.iaload, 1) := by decide +kernel
theorem dX0_takeOfNext_13 : decode cX0_takeOfNext 13 = .ok (.invokestatic 54, 3) := by decide +kernel
theorem dX0_takeOfNext_16 : decode cX0_takeOfNext 16 = .ok (.istore_n 3, 1) := by decide +kernel
theorem dX0_takeOfNext_17 : decode cX0_takeOfNext 17 = .ok (.aload_n 0, 1) := by decide +kernel
theorem dX0_takeOfNext_18 : decode cX0_takeOfNext 18 = .ok (.getfield 9, 3) := by decide +kernel
theorem dX0_takeOfNext_21 : decode cX0_takeOfNext 21 = .ok (.iload_n 2, 1) := by decide +kernel
theorem dX0_takeOfNext_22 : decode cX0_takeOfNext 22 = .ok (.dup2, 1) := by decide +kernel
theorem dX0_takeOfNext_23 : decode cX0_takeOfNext 23 = .ok (.iaload, 1) := by decide +kernel
theorem dX0_takeOfNext_24 : decode cX0_takeOfNext 24 = .ok (.iload_n 3, 1) := by decide +kernel
theorem dX0_takeOfNext_25 : decode cX0_takeOfNext 25 = .ok (.isub, 1) := by decide +kernel
theorem dX0_takeOfNext_26 : decode cX0_takeOfNext 26 = .ok (.iastore, 1) := by decide +kernel
theorem dX0_takeOfNext_27 : decode cX0_takeOfNext 27 = .ok (.aload_n 0, 1) := by decide +kernel
theorem dX0_takeOfNext_28 : decode cX0_takeOfNext 28 = .ok (.dup, 1) := by decide +kernel
theorem dX0_takeOfNext_29 : decode cX0_takeOfNext 29 = .ok (.getfield 31, 3) := by decide +kernel
theorem dX0_takeOfNext_32 : decode cX0_takeOfNext 32 = .ok (.iload_n 3, 1) := by decide +kernel
theorem dX0_takeOfNext_33 : decode cX0_takeOfNext 33 = .ok (.isub, 1) := by decide +kernel
theorem dX0_takeOfNext_34 : decode cX0_takeOfNext 34 = .ok (.putfield 31, 3) := by decide +kernel
theorem dX0_takeOfNext_37 : decode cX0_takeOfNext 37 = .ok (.aload_n 0, 1) := by decide +kernel
theorem dX0_takeOfNext_38 : decode cX0_takeOfNext 38 = .ok (.getfield 9, 3) := by decide +kernel
theorem dX0_takeOfNext_41 : decode cX0_takeOfNext 41 = .ok (.iload_n 2, 1) := by decide +kernel
theorem dX0_takeOfNext_42 : decode cX0_takeOfNext 42 = .ok (.iaload, 1) := by decide +kernel
theorem dX0_takeOfNext_43 : decode cX0_takeOfNext 43 = .ok (.ifCond .ne 36, 3) := by decide +kernel
theorem dX0_takeOfNext_46 : decode cX0_takeOfNext 46 = .ok (.aload_n 0, 1) := by decide +kernel
theorem dX0_takeOfNext_47 : decode cX0_takeOfNext 47 = .ok (.aload_n 0, 1) := by decide +kernel
theorem dX0_takeOfNext_48 : decode cX0_takeOfNext 48 = .ok (.getfield 37, 3) := by decide +kernel
theorem dX0_takeOfNext_51 : decode cX0_takeOfNext 51 = .ok (.ifCond .eq 11, 3) := by decide +kernel
theorem dX0_takeOfNext_54 : decode cX0_takeOfNext 54 = .ok (.aload_n 0, 1) := by decide +kernel
theorem dX0_takeOfNext_55 : decode cX0_takeOfNext 55 = .ok (.iconst 1, 1) := by decide +kernel
theorem dX0_takeOfNext_56 : decode cX0_takeOfNext 56 = .ok (.invokevirtual 51, 3) := by decide +kernel
theorem dX0_takeOfNext_59 : decode cX0_takeOfNext 59 = .ok (.goto 7, 3) := by decide +kernel
theorem dX0_takeOfNext_62 : decode cX0_takeOfNext 62 = .ok (.aload_n 0, 1) := by decide +kernel
theorem dX0_takeOfNext_63 : decode cX0_takeOfNext 63 = .ok (.getfield 24, 3) := by decide +kernel
theorem dX0_takeOfNext_66 : decode cX0_takeOfNext 66 = .ok (.putfield 24, 3) := by decide +kernel
theorem dX0_takeOfNext_69 : decode cX0_takeOfNext 69 = .ok (.aload_n 0, 1) := by decide +kernel
theorem dX0_takeOfNext_70 : decode cX0_takeOfNext 70 = .ok (.dup, 1) := by decide +kernel
theorem dX0_takeOfNext_71 : decode cX0_takeOfNext 71 = .ok (.getfield 28, 3) := by decide +kernel
theorem dX0_takeOfNext_74 : decode cX0_takeOfNext 74 = .ok (.iconst 1, 1) := by decide +kernel
theorem dX0_takeOfNext_75 : decode cX0_takeOfNext 75 = .ok (.isub, 1) := by decide +kernel
theorem dX0_takeOfNext_76 : decode cX0_takeOfNext 76 = .ok (.putfield 28, 3) := by decide +kernel
theorem dX0_takeOfNext_79 : decode cX0_takeOfNext 79 = .ok (.iload_n 3, 1) := by decide +kernel
theorem dX0_takeOfNext_80 : decode cX0_takeOfNext 80 = .ok (.ireturn, 1) := by decide +kernel
theorem dX0_letOut_0 : decode cX0_letOut 0 = .ok (.iload_n 1, 1) := by decide +kernel
theorem dX0_letOut_1 : decode cX0_letOut 1 = .ok (.istore_n 2, 1) := by decide +kernel
theorem dX0_letOut_2 : decode cX0_letOut 2 = .ok (.aload_n 0, 1) := by decide +kernel
theorem dX0_letOut_3 : decode cX0_letOut 3 = .ok (.getfield 28, 3) := by decide +kernel
theorem dX0_letOut_6 : decode cX0_letOut 6 = .ok (.istore_n 3, 1) := by decide +kernel
theorem dX0_letOut_7 : decode cX0_letOut 7 = .ok (.iload_n 3, 1) := by decide +kernel
theorem dX0_letOut_8 : decode cX0_letOut 8 = .ok (.ifCond .le 21, 3) := by decide +kernel
theorem dX0_letOut_11 : decode cX0_letOut 11 = .ok (.iload_n 2, 1) := by decide +kernel
theorem dX0_letOut_12 : decode cX0_letOut 12 = .ok (.ifCond .le 17, 3) := by decide +kernel
theorem dX0_letOut_15 : decode cX0_letOut 15 = .ok (.iload_n 2, 1) := by decide +kernel
theorem dX0_letOut_16 : decode cX0_letOut 16 = .ok (.aload_n 0, 1) := by decide +kernel
theorem dX0_letOut_17 : decode cX0_letOut 17 = .ok (.iload_n 2, 1) := by decide +kernel
theorem dX0_letOut_18 : decode cX0_letOut 18 = .ok (.invokevirtual 57, 3) := by decide +kernel
theorem dX0_letOut_21 : decode cX0_letOut 21 = .ok (.isub, 1) := by decide +kernel
theorem dX0_letOut_22 : decode cX0_letOut 22 = .ok (.istore_n 2, 1) := by decide +kernel
theorem dX0_letOut_23 : decode cX0_letOut 23 = .ok (.iinc 3 (-1), 3) := by decide +kernel
theorem dX0_letOut_26 : decode cX0_letOut 26 = .ok (.goto (-19), 3) := by decide +kernel
theorem dX0_letOut_29 : decode cX0_letOut 29 = .ok (.return_, 1) := by decide +kernel
theorem dX0_letOutInto_0 : decode cX0_letOutInto 0 = .ok (.iload_n 2, 1) := by decide +kernel
theorem dX0_letOutInto_1 : decode cX0_letOutInto 1 = .ok (.istore_n 3, 1) := by decide +kernel
theorem dX0_letOutInto_2 : decode cX0_letOutInto 2 = .ok (.aload_n 0, 1) := by decide +kernel
theorem dX0_letOutInto_3 : decode cX0_letOutInto 3 = .ok (.getfield 28, 3) := by decide +kernel
theorem dX0_letOutInto_6 : decode cX0_letOutInto 6 = .ok (.istore 4, 2) := by decide +kernel
theorem dX0_letOutInto_8 : decode cX0_letOutInto 8 = .ok (.iload 4, 2) := by decide +kernel
theorem dX0_letOutInto_10 : decode cX0_letOutInto 10 = .ok (.ifCond .le 59, 3) := by decide +kernel
theorem dX0_letOutInto_13 : decode cX0_letOutInto 13 = .ok (.iload_n 3, 1) := by decide +kernel
theorem dX0_letOutInto_14 : decode cX0_letOutInto 14 = .ok (.ifCond .le 55, 3) := by decide +kernel
theorem dX0_letOutInto_17 : decode cX0_letOutInto 17 = .ok (.aload_n 0, 1) := by decide +kernel
theorem dX0_letOutInto_18 : decode cX0_letOutInto 18 = .ok (.iconst 0, 1) := by decide +kernel
theorem dX0_letOutInto_19 : decode cX0_letOutInto 19 = .ok (.invokevirtual 47, 3) := by decide +kernel
theorem dX0_letOutInto_22 : decode cX0_letOutInto 22 = .ok (.istore 5, 2) := by decide +kernel
theorem dX0_letOutInto_24 : decode cX0_letOutInto 24 = .ok (.aload_n 0, 1) := by decide +kernel
theorem dX0_letOutInto_25 : decode cX0_letOutInto 25 = .ok (.iload_n 3, 1) := by decide +kernel
theorem dX0_letOutInto_26 : decode cX0_letOutInto 26 = .ok (.invokevirtual 57, 3) := by decide +kernel
theorem dX0_letOutInto_29 : decode cX0_letOutInto 29 = .ok (.istore 6, 2) := by decide +kernel
theorem dX0_letOutInto_31 : decode cX0_letOutInto 31 = .ok (.aload_n 1, 1) := by decide +kernel
theorem dX0_letOutInto_32 : decode cX0_letOutInto 32 = .ok (.iload 6, 2) := by decide +kernel
theorem dX0_letOutInto_34 : decode cX0_letOutInto 34 = .ok (.aload_n 0, 1) := by decide +kernel
theorem dX0_letOutInto_35 : decode cX0_letOutInto 35 = .ok (.getfield 15, 3) := by decide +kernel
theorem dX0_letOutInto_38 : decode cX0_letOutInto 38 = .ok (.iload 5, 2) := by decide +kernel
theorem dX0_letOutInto_40 : decode cX0_letOutInto 40 = .ok (.iaload, 1) := by decide +kernel
theorem dX0_letOutInto_41 : decode cX0_letOutInto 41 = .ok (.aload_n 0, 1) := by decide +kernel
theorem dX0_letOutInto_42 : decode cX0_letOutInto 42 = .ok (.getfield 18, 3) := by decide +kernel
theorem dX0_letOutInto_45 : decode cX0_letOutInto 45 = .ok (.iload 5, 2) := by decide +kernel
theorem dX0_letOutInto_47 : decode cX0_letOutInto 47 = .ok (.iaload, 1) := by decide +kernel
theorem dX0_letOutInto_48 : decode cX0_letOutInto 48 = .ok (.aload_n 0, 1) := by decide +kernel
theorem dX0_letOutInto_49 : decode cX0_letOutInto 49 = .ok (.getfield 21, 3) := by decide +kernel
theorem dX0_letOutInto_52 : decode cX0_letOutInto 52 = .ok (.iload 5, 2) := by decide +kernel
theorem dX0_letOutInto_54 : decode cX0_letOutInto 54 = .ok (.iaload, 1) := by decide +kernel
theorem dX0_letOutInto_55 : decode cX0_letOutInto 55 = .ok (.invokevirtual 60, 3) := by decide +kernel
theorem dX0_letOutInto_58 : decode cX0_letOutInto 58 = .ok (.iload_n 3, 1) := by decide +kernel
theorem dX0_letOutInto_59 : decode cX0_letOutInto 59 = .ok (.iload 6, 2) := by decide +kernel
theorem dX0_letOutInto_61 : decode cX0_letOutInto 61 = .ok (.isub, 1) := by decide +kernel
theorem dX0_letOutInto_62 : decode cX0_letOutInto 62 = .ok (.istore_n 3, 1) := by decide +kernel
theorem dX0_letOutInto_63 : decode cX0_letOutInto 63 = .ok (.iinc 4 (-1), 3) := by decide +kernel
theorem dX0_letOutInto_66 : decode cX0_letOutInto 66 = .ok (.goto (-58), 3) := by decide +kernel
theorem dX0_letOutInto_69 : decode cX0_letOutInto 69 = .ok (.return_, 1) := by decide +kernel
theorem dX0_wetterThan_0 : decode cX0_wetterThan 0 = .ok (.iconst 0, 1) := by decide +kernel
theorem dX0_wetterThan_1 : decode cX0_wetterThan 1 = .ok (.istore_n 2, 1) := by decide +kernel
theorem dX0_wetterThan_2 : decode cX0_wetterThan 2 = .ok (.iconst 0, 1) := by decide +kernel
theorem dX0_wetterThan_3 : decode cX0_wetterThan 3 = .ok (.istore_n 3, 1) := by decide +kernel
theorem dX0_wetterThan_4 : decode cX0_wetterThan 4 = .ok (.iload_n 3, 1) := by decide +kernel
theorem dX0_wetterThan_5 : decode cX0_wetterThan 5 = .ok (.aload_n 0, 1) := by decide +kernel
theorem dX0_wetterThan_6 : decode cX0_wetterThan 6 = .ok (.getfield 28, 3) := by decide +kernel
theorem dX0_wetterThan_9 : decode cX0_wetterThan 9 = .ok (.if_icmp .ge 30, 3) := by decide +kernel
theorem dX0_wetterThan_12 : decode cX0_wetterThan 12 = .ok (.iload_n 2, 1) := by decide +kernel
theorem dX0_wetterThan_13 : decode cX0_wetterThan 13 = .ok (.aload_n 0, 1) := by decide +kernel
theorem dX0_wetterThan_14 : decode cX0_wetterThan 14 = .ok (.iload_n 3, 1) := by decide +kernel
theorem dX0_wetterThan_15 : decode cX0_wetterThan 15 = .ok (.invokevirtual 64, 3) := by decide +kernel
theorem dX0_wetterThan_18 : decode cX0_wetterThan 18 = .ok (.iload_n 1, 1) := by decide +kernel
theorem dX0_wetterThan_19 : decode cX0_wetterThan 19 = .ok (.if_icmp .le 11, 3) := by decide +kernel
theorem dX0_wetterThan_22 : decode cX0_wetterThan 22 = .ok (.aload_n 0, 1) := by decide +kernel
theorem dX0_wetterThan_23 : decode cX0_wetterThan 23 = .ok (.iload_n 3, 1) := by decide +kernel
theorem dX0_wetterThan_24 : decode cX0_wetterThan 24 = .ok (.invokevirtual 67, 3) := by decide +kernel
theorem dX0_wetterThan_27 : decode cX0_wetterThan 27 = .ok (.goto 4, 3) := by decide +kernel
theorem dX0_wetterThan_30 : decode cX0_wetterThan 30 = .ok (.iconst 0, 1) := by decide +kernel
theorem dX0_wetterThan_31 : decode cX0_wetterThan 31 = .ok (.iadd, 1) := by decide +kernel
theorem dX0_wetterThan_32 : decode cX0_wetterThan 32 = .ok (.istore_n 2, 1) := by decide +kernel
theorem dX0_wetterThan_33 : decode cX0_wetterThan 33 = .ok (.iinc 3 1, 3) := by decide +kernel
theorem dX0_wetterThan_36 : decode cX0_wetterThan 36 = .ok (.goto (-32), 3) := by decide +kernel
theorem dX0_wetterThan_39 : decode cX0_wetterThan 39 = .ok (.iload_n 2, 1) := by decide +kernel
theorem dX0_wetterThan_40 : decode cX0_wetterThan 40 = .ok (.ireturn, 1) := by decide +kernel
theorem dX0_costOfDrying_0 : decode cX0_costOfDrying 0 = .ok (.iconst 0, 1) := by decide +kernel
theorem dX0_costOfDrying_1 : decode cX0_costOfDrying 1 = .ok (.istore_n 2, 1) := by decide +kernel
theorem dX0_costOfDrying_2 : decode cX0_costOfDrying 2 = .ok (.iconst 0, 1) := by decide +kernel
theorem dX0_costOfDrying_3 : decode cX0_costOfDrying 3 = .ok (.istore_n 3, 1) := by decide +kernel
theorem dX0_costOfDrying_4 : decode cX0_costOfDrying 4 = .ok (.iload_n 3, 1) := by decide +kernel
theorem dX0_costOfDrying_5 : decode cX0_costOfDrying 5 = .ok (.aload_n 0, 1) := by decide +kernel
theorem dX0_costOfDrying_6 : decode cX0_costOfDrying 6 = .ok (.getfield 28, 3) := by decide +kernel
theorem dX0_costOfDrying_9 : decode cX0_costOfDrying 9 = .ok (.if_icmp .ge 41, 3) := by decide +kernel
theorem dX0_costOfDrying_12 : decode cX0_costOfDrying 12 = .ok (.aload_n 0, 1) := by decide +kernel
theorem dX0_costOfDrying_13 : decode cX0_costOfDrying 13 = .ok (.iload_n 3, 1) := by decide +kernel
theorem dX0_costOfDrying_14 : decode cX0_costOfDrying 14 = .ok (.invokevirtual 64, 3) := by decide +kernel
theorem dX0_costOfDrying_17 : decode cX0_costOfDrying 17 = .ok (.iload_n 1, 1) := by decide +kernel
theorem dX0_costOfDrying_18 : decode cX0_costOfDrying 18 = .ok (.isub, 1) := by decide +kernel
theorem dX0_costOfDrying_19 : decode cX0_costOfDrying 19 = .ok (.istore 4, 2) := by decide +kernel
theorem dX0_costOfDrying_21 : decode cX0_costOfDrying 21 = .ok (.iload_n 2, 1) := by decide +kernel
theorem dX0_costOfDrying_22 : decode cX0_costOfDrying 22 = .ok (.iload 4, 2) := by decide +kernel
theorem dX0_costOfDrying_24 : decode cX0_costOfDrying 24 = .ok (.ifCond .le 17, 3) := by decide +kernel
theorem dX0_costOfDrying_27 : decode cX0_costOfDrying 27 = .ok (.aload_n 0, 1) := by decide +kernel
theorem dX0_costOfDrying_28 : decode cX0_costOfDrying 28 = .ok (.iload_n 3, 1) := by decide +kernel
theorem dX0_costOfDrying_29 : decode cX0_costOfDrying 29 = .ok (.invokevirtual 67, 3) := by decide +kernel
theorem dX0_costOfDrying_32 : decode cX0_costOfDrying 32 = .ok (.iload 4, 2) := by decide +kernel
theorem dX0_costOfDrying_34 : decode cX0_costOfDrying 34 = .ok (.imul, 1) := by decide +kernel
theorem dX0_costOfDrying_35 : decode cX0_costOfDrying 35 = .ok (.bipush 10, 2) := by decide +kernel
theorem dX0_costOfDrying_37 : decode cX0_costOfDrying 37 = .ok (.idiv, 1) := by decide +kernel
theorem dX0_costOfDrying_38 : decode cX0_costOfDrying 38 = .ok (.goto 4, 3) := by decide +kernel
theorem dX0_costOfDrying_41 : decode cX0_costOfDrying 41 = .ok (.iconst 0, 1) := by decide +kernel
theorem dX0_costOfDrying_42 : decode cX0_costOfDrying 42 = .ok (.iadd, 1) := by decide +kernel
theorem dX0_costOfDrying_43 : decode cX0_costOfDrying 43 = .ok (.istore_n 2, 1) := by decide +kernel
theorem dX0_costOfDrying_44 : decode cX0_costOfDrying 44 = .ok (.iinc 3 1, 3) := by decide +kernel
theorem dX0_costOfDrying_47 : decode cX0_costOfDrying 47 = .ok (.goto (-43), 3) := by decide +kernel
theorem dX0_costOfDrying_50 : decode cX0_costOfDrying 50 = .ok (.iload_n 2, 1) := by decide +kernel
theorem dX0_costOfDrying_51 : decode cX0_costOfDrying 51 = .ok (.ireturn, 1) := by decide +kernel
theorem dX0_dryTo_0 : decode cX0_dryTo 0 = .ok (.aload_n 0, 1) := by decide +kernel
theorem dX0_dryTo_1 : decode cX0_dryTo 1 = .ok (.getfield 28, 3) := by decide +kernel
theorem dX0_dryTo_4 : decode cX0_dryTo 4 = .ok (.istore_n 3, 1) := by decide +kernel
theorem dX0_dryTo_5 : decode cX0_dryTo 5 = .ok (.aload_n 0, 1) := by decide +kernel
theorem dX0_dryTo_6 : decode cX0_dryTo 6 = .ok (.iconst 0, 1) := by decide +kernel
theorem dX0_dryTo_7 : decode cX0_dryTo 7 = .ok (.putfield 28, 3) := by decide +kernel
theorem dX0_dryTo_10 : decode cX0_dryTo 10 = .ok (.aload_n 0, 1) := by decide +kernel
theorem dX0_dryTo_11 : decode cX0_dryTo 11 = .ok (.iconst 0, 1) := by decide +kernel
theorem dX0_dryTo_12 : decode cX0_dryTo 12 = .ok (.putfield 31, 3) := by decide +kernel
theorem dX0_dryTo_15 : decode cX0_dryTo 15 = .ok (.iconst 0, 1) := by decide +kernel
theorem dX0_dryTo_16 : decode cX0_dryTo 16 = .ok (.istore 4, 2) := by decide +kernel
theorem dX0_dryTo_18 : decode cX0_dryTo 18 = .ok (.iload 4, 2) := by decide +kernel
theorem dX0_dryTo_20 : decode cX0_dryTo 20 = .ok (.iload_n 3, 1) := by decide +kernel
theorem dX0_dryTo_21 : decode cX0_dryTo 21 = .ok (.if_icmp .ge 109, 3) := by decide +kernel
theorem dX0_dryTo_24 : decode cX0_dryTo 24 = .ok (.aload_n 0, 1) := by decide +kernel
theorem dX0_dryTo_25 : decode cX0_dryTo 25 = .ok (.iload 4, 2) := by decide +kernel
theorem dX0_dryTo_27 : decode cX0_dryTo 27 = .ok (.invokevirtual 51, 3) := by decide +kernel
theorem dX0_dryTo_30 : decode cX0_dryTo 30 = .ok (.istore 5, 2) := by decide +kernel
theorem dX0_dryTo_32 : decode cX0_dryTo 32 = .ok (.aload_n 0, 1) := by decide +kernel
theorem dX0_dryTo_33 : decode cX0_dryTo 33 = .ok (.getfield 15, 3) := by decide +kernel
theorem dX0_dryTo_36 : decode cX0_dryTo 36 = .ok (.iload 5, 2) := by decide +kernel
theorem dX0_dryTo_38 : decode cX0_dryTo 38 = .ok (.iaload, 1) := by decide +kernel
theorem dX0_dryTo_39 : decode cX0_dryTo 39 = .ok (.iload_n 1, 1) := by decide +kernel
theorem dX0_dryTo_40 : decode cX0_dryTo 40 = .ok (.if_icmp .le 52, 3) := by decide +kernel
theorem dX0_dryTo_43 : decode cX0_dryTo 43 = .ok (.aload_n 0, 1) := by decide +kernel
theorem dX0_dryTo_44 : decode cX0_dryTo 44 = .ok (.getfield 9, 3) := by decide +kernel
theorem dX0_dryTo_47 : decode cX0_dryTo 47 = .ok (.iload 5, 2) := by decide +kernel
theorem dX0_dryTo_49 : decode cX0_dryTo 49 = .ok (.iaload, 1) := by decide +kernel
theorem dX0_dryTo_50 : decode cX0_dryTo 50 = .ok (.aload_n 0, 1) := by decide +kernel
theorem dX0_dryTo_51 : decode cX0_dryTo 51 = .ok (.getfield 15, 3) := by decide +kernel
theorem dX0_dryTo_54 : decode cX0_dryTo 54 = .ok (.iload 5, 2) := by decide +kernel
theorem dX0_dryTo_56 : decode cX0_dryTo 56 = .ok (.iaload, 1) := by decide +kernel
theorem dX0_dryTo_57 : decode cX0_dryTo 57 = .ok (.iload_n 1, 1) := by decide +kernel
theorem dX0_dryTo_58 : decode cX0_dryTo 58 = .ok (.invokestatic 70, 3) := by decide +kernel
theorem dX0_dryTo_61 : decode cX0_dryTo 61 = .ok (.istore 6, 2) := by decide +kernel
theorem dX0_dryTo_63 : decode cX0_dryTo 63 = .ok (.aload_n 0, 1) := by decide +kernel
theorem dX0_dryTo_64 : decode cX0_dryTo 64 = .ok (.iload 6, 2) := by decide +kernel
theorem dX0_dryTo_66 : decode cX0_dryTo 66 = .ok (.iload_n 1, 1) := by decide +kernel
theorem dX0_dryTo_67 : decode cX0_dryTo 67 = .ok (.aload_n 0, 1) := by decide +kernel
theorem dX0_dryTo_68 : decode cX0_dryTo 68 = .ok (.getfield 18, 3) := by decide +kernel
theorem dX0_dryTo_71 : decode cX0_dryTo 71 = .ok (.iload 5, 2) := by decide +kernel
theorem dX0_dryTo_73 : decode cX0_dryTo 73 = .ok (.iaload, 1) := by decide +kernel
theorem dX0_dryTo_74 : decode cX0_dryTo 74 = .ok (.aload_n 2, 1) := by decide +kernel
theorem dX0_dryTo_75 : decode cX0_dryTo 75 = .ok (.iload_n 1, 1) := by decide +kernel
theorem dX0_dryTo_76 : decode cX0_dryTo 76 = .ok (.aload_n 0, 1) := by decide +kernel
theorem dX0_dryTo_77 : decode cX0_dryTo 77 = .ok (.getfield 18, 3) := by decide +kernel
theorem dX0_dryTo_80 : decode cX0_dryTo 80 = .ok (.iload 5, 2) := by decide +kernel
theorem dX0_dryTo_82 : decode cX0_dryTo 82 = .ok (.iaload, 1) := by decide +kernel
theorem dX0_dryTo_83 : decode cX0_dryTo 83 = .ok (.invokevirtual 74, 3) := by decide +kernel
theorem dX0_dryTo_86 : decode cX0_dryTo 86 = .ok (.invokevirtual 60, 3) := by decide +kernel
theorem dX0_dryTo_89 : decode cX0_dryTo 89 = .ok (.goto 35, 3) := by decide +kernel
theorem dX0_dryTo_92 : decode cX0_dryTo 92 = .ok (.aload_n 0, 1) := by decide +kernel
theorem dX0_dryTo_93 : decode cX0_dryTo 93 = .ok (.aload_n 0, 1) := by decide +kernel
theorem dX0_dryTo_94 : decode cX0_dryTo 94 = .ok (.getfield 9, 3) := by decide +kernel
theorem dX0_dryTo_97 : decode cX0_dryTo 97 = .ok (.iload 5, 2) := by decide +kernel
theorem dX0_dryTo_99 : decode cX0_dryTo 99 = .ok (.iaload, 1) := by decide +kernel
theorem dX0_dryTo_100 : decode cX0_dryTo 100 = .ok (.aload_n 0, 1) := by decide +kernel
theorem dX0_dryTo_101 : decode cX0_dryTo 101 = .ok (.getfield 15, 3) := by decide +kernel
theorem dX0_dryTo_104 : decode cX0_dryTo 104 = .ok (.iload 5, 2) := by decide +kernel
theorem dX0_dryTo_106 : decode cX0_dryTo 106 = .ok (.iaload, 1) := by decide +kernel
theorem dX0_dryTo_107 : decode cX0_dryTo 107 = .ok (.aload_n 0, 1) := by decide +kernel
theorem dX0_dryTo_108 : decode cX0_dryTo 108 = .ok (.getfield 18, 3) := by decide +kernel
theorem dX0_dryTo_111 : decode cX0_dryTo 111 = .ok (.iload 5, 2) := by decide +kernel
theorem dX0_dryTo_113 : decode cX0_dryTo 113 = .ok (.iaload, 1) := by decide +kernel
theorem dX0_dryTo_114 : decode cX0_dryTo 114 = .ok (.aload_n 0, 1) := by decide +kernel
theorem dX0_dryTo_115 : decode cX0_dryTo 115 = .ok (.getfield 21, 3) := by decide +kernel
theorem dX0_dryTo_118 : decode cX0_dryTo 118 = .ok (.iload 5, 2) := by decide +kernel
theorem dX0_dryTo_120 : decode cX0_dryTo 120 = .ok (.iaload, 1) := by decide +kernel
theorem dX0_dryTo_121 : decode cX0_dryTo 121 = .ok (.invokevirtual 60, 3) := by decide +kernel
theorem dX0_dryTo_124 : decode cX0_dryTo 124 = .ok (.iinc 4 1, 3) := by decide +kernel
theorem dX0_dryTo_127 : decode cX0_dryTo 127 = .ok (.goto (-109), 3) := by decide +kernel
theorem dX0_dryTo_130 : decode cX0_dryTo 130 = .ok (.return_, 1) := by decide +kernel
theorem dX0_shrunk_0 : decode cX0_shrunk 0 = .ok (.iload_n 2, 1) := by decide +kernel
theorem dX0_shrunk_1 : decode cX0_shrunk 1 = .ok (.sipush 1000, 3) := by decide +kernel
theorem dX0_shrunk_4 : decode cX0_shrunk 4 = .ok (.if_icmp .lt 7, 3) := by decide +kernel
theorem dX0_shrunk_7 : decode cX0_shrunk 7 = .ok (.iload_n 0, 1) := by decide +kernel
theorem dX0_shrunk_8 : decode cX0_shrunk 8 = .ok (.goto 16, 3) := by decide +kernel
theorem dX0_shrunk_11 : decode cX0_shrunk 11 = .ok (.iload_n 0, 1) := by decide +kernel
theorem dX0_shrunk_12 : decode cX0_shrunk 12 = .ok (.sipush 1000, 3) := by decide +kernel
theorem dX0_shrunk_15 : decode cX0_shrunk 15 = .ok (.iload_n 1, 1) := by decide +kernel
theorem dX0_shrunk_16 : decode cX0_shrunk 16 = .ok (.isub, 1) := by decide +kernel
theorem dX0_shrunk_17 : decode cX0_shrunk 17 = .ok (.imul, 1) := by decide +kernel
theorem dX0_shrunk_18 : decode cX0_shrunk 18 = .ok (.sipush 1000, 3) := by decide +kernel
theorem dX0_shrunk_21 : decode cX0_shrunk 21 = .ok (.iload_n 2, 1) := by decide +kernel
theorem dX0_shrunk_22 : decode cX0_shrunk 22 = .ok (.isub, 1) := by decide +kernel
theorem dX0_shrunk_23 : decode cX0_shrunk 23 = .ok (.idiv, 1) := by decide +kernel
theorem dX0_shrunk_24 : decode cX0_shrunk 24 = .ok (.ireturn, 1) := by decide +kernel
theorem dX1_init_0 : decode cX1_init 0 = .ok (.aload_n 0, 1) := by decide +kernel
theorem dX1_init_1 : decode cX1_init 1 = .ok (.invokespecial 1, 3) := by decide +kernel
theorem dX1_init_4 : decode cX1_init 4 = .ok (.aload_n 0, 1) := by decide +kernel
theorem dX1_init_5 : decode cX1_init 5 = .ok (.iconst 0, 1) := by decide +kernel
theorem dX1_init_6 : decode cX1_init 6 = .ok (.putfield 7, 3) := by decide +kernel
theorem dX1_init_9 : decode cX1_init 9 = .ok (.aload_n 0, 1) := by decide +kernel
theorem dX1_init_10 : decode cX1_init 10 = .ok (.iconst 0, 1) := by decide +kernel
theorem dX1_init_11 : decode cX1_init 11 = .ok (.putfield 13, 3) := by decide +kernel
theorem dX1_init_14 : decode cX1_init 14 = .ok (.aload_n 0, 1) := by decide +kernel
theorem dX1_init_15 : decode cX1_init 15 = .ok (.iconst 0, 1) := by decide +kernel
theorem dX1_init_16 : decode cX1_init 16 = .ok (.putfield 17, 3) := by decide +kernel
theorem dX1_init_19 : decode cX1_init 19 = .ok (.return_, 1) := by decide +kernel
theorem dX1_offer_0 : decode cX1_offer 0 = .ok (.aload_n 2, 1) := by decide +kernel
theorem dX1_offer_1 : decode cX1_offer 1 = .ok (.getfield 20, 3) := by decide +kernel
theorem dX1_offer_4 : decode cX1_offer 4 = .ok (.aload_n 3, 1) := by decide +kernel
theorem dX1_offer_5 : decode cX1_offer 5 = .ok (.getfield 20, 3) := by decide +kernel
theorem dX1_offer_8 : decode cX1_offer 8 = .ok (.iadd, 1) := by decide +kernel
theorem dX1_offer_9 : decode cX1_offer 9 = .ok (.istore 5, 2) := by decide +kernel
theorem dX1_offer_11 : decode cX1_offer 11 = .ok (.aload_n 2, 1) := by decide +kernel
theorem dX1_offer_12 : decode cX1_offer 12 = .ok (.getfield 23, 3) := by decide +kernel
theorem dX1_offer_15 : decode cX1_offer 15 = .ok (.aload_n 3, 1) := by decide +kernel
theorem dX1_offer_16 : decode cX1_offer 16 = .ok (.getfield 23, 3) := by decide +kernel
theorem dX1_offer_19 : decode cX1_offer 19 = .ok (.iadd, 1) := by decide +kernel
theorem dX1_offer_20 : decode cX1_offer 20 = .ok (.iload 4, 2) := by decide +kernel
theorem dX1_offer_22 : decode cX1_offer 22 = .ok (.if_icmp .gt 7, 3) := by decide +kernel
theorem dX1_offer_25 : decode cX1_offer 25 = .ok (.iconst 1, 1) := by decide +kernel
theorem dX1_offer_26 : decode cX1_offer 26 = .ok (.goto 4, 3) := by decide +kernel
theorem dX1_offer_29 : decode cX1_offer 29 = .ok (.iconst 0, 1) := by decide +kernel
theorem dX1_offer_30 : decode cX1_offer 30 = .ok (.istore 6, 2) := by decide +kernel
theorem dX1_offer_32 : decode cX1_offer 32 = .ok (.iload 6, 2) := by decide +kernel
theorem dX1_offer_34 : decode cX1_offer 34 = .ok (.ifCond .eq 35, 3) := by decide +kernel
theorem dX1_offer_37 : decode cX1_offer 37 = .ok (.aload_n 0, 1) := by decide +kernel
theorem dX1_offer_38 : decode cX1_offer 38 = .ok (.getfield 7, 3) := by decide +kernel
theorem dX1_offer_41 : decode cX1_offer 41 = .ok (.ifCond .eq 12, 3) := by decide +kernel
theorem dX1_offer_44 : decode cX1_offer 44 = .ok (.iload 5, 2) := by decide +kernel
theorem dX1_offer_46 : decode cX1_offer 46 = .ok (.aload_n 0, 1) := by decide +kernel
theorem dX1_offer_47 : decode cX1_offer 47 = .ok (.getfield 17, 3) := by decide +kernel
theorem dX1_offer_50 : decode cX1_offer 50 = .ok (.if_icmp .ge 19, 3) := by decide +kernel
theorem dX1_offer_53 : decode cX1_offer 53 = .ok (.aload_n 0, 1) := by decide +kernel
theorem dX1_offer_54 : decode cX1_offer 54 = .ok (.iconst 1, 1) := by decide +kernel
theorem dX1_offer_55 : decode cX1_offer 55 = .ok (.putfield 7, 3) := by decide +kernel
theorem dX1_offer_58 : decode cX1_offer 58 = .ok (.aload_n 0, 1) := by decide +kernel
theorem dX1_offer_59 : decode cX1_offer 59 = .ok (.iload_n 1, 1) := by decide +kernel
theorem dX1_offer_60 : decode cX1_offer 60 = .ok (.putfield 13, 3) := by decide +kernel
theorem dX1_offer_63 : decode cX1_offer 63 = .ok (.aload_n 0, 1) := by decide +kernel
theorem dX1_offer_64 : decode cX1_offer 64 = .ok (.iload 5, 2) := by decide +kernel
theorem dX1_offer_66 : decode cX1_offer 66 = .ok (.putfield 17, 3) := by decide +kernel
theorem dX1_offer_69 : decode cX1_offer 69 = .ok (.return_, 1) := by decide +kernel
theorem dX2_init_0 : decode cX2_init 0 = .ok (.aload_n 0, 1) := by decide +kernel
theorem dX2_init_1 : decode cX2_init 1 = .ok (.invokespecial 1, 3) := by decide +kernel
theorem dX2_init_4 : decode cX2_init 4 = .ok (.aload_n 0, 1) := by decide +kernel
theorem dX2_init_5 : decode cX2_init 5 = .ok (.iload_n 1, 1) := by decide +kernel
theorem dX2_init_6 : decode cX2_init 6 = .ok (.putfield 7, 3) := by decide +kernel
theorem dX2_init_9 : decode cX2_init 9 = .ok (.aload_n 0, 1) := by decide +kernel
theorem dX2_init_10 : decode cX2_init 10 = .ok (.iload_n 2, 1) := by decide +kernel
theorem dX2_init_11 : decode cX2_init 11 = .ok (.putfield 13, 3) := by decide +kernel
theorem dX2_init_14 : decode cX2_init 14 = .ok (.aload_n 0, 1) := by decide +kernel
theorem dX2_init_15 : decode cX2_init 15 = .ok (.iload_n 3, 1) := by decide +kernel
theorem dX2_init_16 : decode cX2_init 16 = .ok (.putfield 17, 3) := by decide +kernel
theorem dX2_init_19 : decode cX2_init 19 = .ok (.aload_n 0, 1) := by decide +kernel
theorem dX2_init_20 : decode cX2_init 20 = .ok (.iload 4, 2) := by decide +kernel
theorem dX2_init_22 : decode cX2_init 22 = .ok (.putfield 20, 3) := by decide +kernel
theorem dX2_init_25 : decode cX2_init 25 = .ok (.aload_n 0, 1) := by decide +kernel
theorem dX2_init_26 : decode cX2_init 26 = .ok (.iload 5, 2) := by decide +kernel
theorem dX2_init_28 : decode cX2_init 28 = .ok (.putfield 23, 3) := by decide +kernel
theorem dX2_init_31 : decode cX2_init 31 = .ok (.aload_n 0, 1) := by decide +kernel
theorem dX2_init_32 : decode cX2_init 32 = .ok (.iload 6, 2) := by decide +kernel
theorem dX2_init_34 : decode cX2_init 34 = .ok (.putfield 26, 3) := by decide +kernel
theorem dX2_init_37 : decode cX2_init 37 = .ok (.aload_n 0, 1) := by decide +kernel
theorem dX2_init_38 : decode cX2_init 38 = .ok (.iload 7, 2) := by decide +kernel
theorem dX2_init_40 : decode cX2_init 40 = .ok (.putfield 29, 3) := by decide +kernel
theorem dX2_init_43 : decode cX2_init 43 = .ok (.return_, 1) := by decide +kernel
theorem dX2_ofLoad_0 : decode cX2_ofLoad 0 = .ok (.new 8, 3) := by decide +kernel
theorem dX2_ofLoad_3 : decode cX2_ofLoad 3 = .ok (.dup, 1) := by decide +kernel
theorem dX2_ofLoad_4 : decode cX2_ofLoad 4 = .ok (.bipush 108, 2) := by decide +kernel
theorem dX2_ofLoad_6 : decode cX2_ofLoad 6 = .ok (.iload_n 0, 1) := by decide +kernel
theorem dX2_ofLoad_7 : decode cX2_ofLoad 7 = .ok (.iload_n 0, 1) := by decide +kernel
theorem dX2_ofLoad_8 : decode cX2_ofLoad 8 = .ok (.iload_n 1, 1) := by decide +kernel
theorem dX2_ofLoad_9 : decode cX2_ofLoad 9 = .ok (.iconst 0, 1) := by decide +kernel
theorem dX2_ofLoad_10 : decode cX2_ofLoad 10 = .ok (.iload_n 2, 1) := by decide +kernel
theorem dX2_ofLoad_11 : decode cX2_ofLoad 11 = .ok (.iload_n 3, 1) := by decide +kernel
theorem dX2_ofLoad_12 : decode cX2_ofLoad 12 = .ok (.invokespecial 32, 3) := by decide +kernel
theorem dX2_ofLoad_15 : decode cX2_ofLoad 15 = .ok (.areturn, 1) := by decide +kernel
theorem dX2_ofSale_0 : decode cX2_ofSale 0 = .ok (.new 8, 3) := by decide +kernel
theorem dX2_ofSale_3 : decode cX2_ofSale 3 = .ok (.dup, 1) := by decide +kernel
theorem dX2_ofSale_4 : decode cX2_ofSale 4 = .ok (.bipush 115, 2) := by decide +kernel
theorem dX2_ofSale_6 : decode cX2_ofSale 6 = .ok (.iload_n 0, 1) := by decide +kernel
theorem dX2_ofSale_7 : decode cX2_ofSale 7 = .ok (.iload_n 0, 1) := by decide +kernel
theorem dX2_ofSale_8 : decode cX2_ofSale 8 = .ok (.iload_n 1, 1) := by decide +kernel
theorem dX2_ofSale_9 : decode cX2_ofSale 9 = .ok (.iconst 0, 1) := by decide +kernel
theorem dX2_ofSale_10 : decode cX2_ofSale 10 = .ok (.iconst 0, 1) := by decide +kernel
theorem dX2_ofSale_11 : decode cX2_ofSale 11 = .ok (.iconst 0, 1) := by decide +kernel
theorem dX2_ofSale_12 : decode cX2_ofSale 12 = .ok (.invokespecial 32, 3) := by decide +kernel
theorem dX2_ofSale_15 : decode cX2_ofSale 15 = .ok (.areturn, 1) := by decide +kernel
theorem dX2_ofTransfer_0 : decode cX2_ofTransfer 0 = .ok (.new 8, 3) := by decide +kernel
theorem dX2_ofTransfer_3 : decode cX2_ofTransfer 3 = .ok (.dup, 1) := by decide +kernel
theorem dX2_ofTransfer_4 : decode cX2_ofTransfer 4 = .ok (.bipush 116, 2) := by decide +kernel
theorem dX2_ofTransfer_6 : decode cX2_ofTransfer 6 = .ok (.iload_n 0, 1) := by decide +kernel
theorem dX2_ofTransfer_7 : decode cX2_ofTransfer 7 = .ok (.iload_n 1, 1) := by decide +kernel
theorem dX2_ofTransfer_8 : decode cX2_ofTransfer 8 = .ok (.iload_n 2, 1) := by decide +kernel
theorem dX2_ofTransfer_9 : decode cX2_ofTransfer 9 = .ok (.iconst 0, 1) := by decide +kernel
theorem dX2_ofTransfer_10 : decode cX2_ofTransfer 10 = .ok (.iconst 0, 1) := by decide +kernel
theorem dX2_ofTransfer_11 : decode cX2_ofTransfer 11 = .ok (.iconst 0, 1) := by decide +kernel
theorem dX2_ofTransfer_12 : decode cX2_ofTransfer 12 = .ok (.invokespecial 32, 3) := by decide +kernel
theorem dX2_ofTransfer_15 : decode cX2_ofTransfer 15 = .ok (.areturn, 1) := by decide +kernel
theorem dX2_ofDrying_0 : decode cX2_ofDrying 0 = .ok (.new 8, 3) := by decide +kernel
theorem dX2_ofDrying_3 : decode cX2_ofDrying 3 = .ok (.dup, 1) := by decide +kernel
theorem dX2_ofDrying_4 : decode cX2_ofDrying 4 = .ok (.bipush 100, 2) := by decide +kernel
theorem dX2_ofDrying_6 : decode cX2_ofDrying 6 = .ok (.iload_n 0, 1) := by decide +kernel
theorem dX2_ofDrying_7 : decode cX2_ofDrying 7 = .ok (.iload_n 0, 1) := by decide +kernel
theorem dX2_ofDrying_8 : decode cX2_ofDrying 8 = .ok (.iconst 0, 1) := by decide +kernel
theorem dX2_ofDrying_9 : decode cX2_ofDrying 9 = .ok (.iconst 0, 1) := by decide +kernel
theorem dX2_ofDrying_10 : decode cX2_ofDrying 10 = .ok (.iload_n 1, 1) := by decide +kernel
theorem dX2_ofDrying_11 : decode cX2_ofDrying 11 = .ok (.iconst 0, 1) := by decide +kernel
theorem dX2_ofDrying_12 : decode cX2_ofDrying 12 = .ok (.invokespecial 32, 3) := by decide +kernel
theorem dX2_ofDrying_15 : decode cX2_ofDrying 15 = .ok (.areturn, 1) := by decide +kernel
theorem dX2_ofBlend_0 : decode cX2_ofBlend 0 = .ok (.new 8, 3) := by decide +kernel
theorem dX2_ofBlend_3 : decode cX2_ofBlend 3 = .ok (.dup, 1) := by decide +kernel
theorem dX2_ofBlend_4 : decode cX2_ofBlend 4 = .ok (.bipush 98, 2) := by decide +kernel
theorem dX2_ofBlend_6 : decode cX2_ofBlend 6 = .ok (.iload_n 0, 1) := by decide +kernel
theorem dX2_ofBlend_7 : decode cX2_ofBlend 7 = .ok (.iload_n 1, 1) := by decide +kernel
theorem dX2_ofBlend_8 : decode cX2_ofBlend 8 = .ok (.iload_n 2, 1) := by decide +kernel
theorem dX2_ofBlend_9 : decode cX2_ofBlend 9 = .ok (.iload_n 3, 1) := by decide +kernel
theorem dX2_ofBlend_10 : decode cX2_ofBlend 10 = .ok (.iconst 0, 1) := by decide +kernel
theorem dX2_ofBlend_11 : decode cX2_ofBlend 11 = .ok (.iconst 0, 1) := by decide +kernel
theorem dX2_ofBlend_12 : decode cX2_ofBlend 12 = .ok (.invokespecial 32, 3) := by decide +kernel
theorem dX2_ofBlend_15 : decode cX2_ofBlend 15 = .ok (.areturn, 1) := by decide +kernel
theorem dX3_init_0 : decode cX3_init 0 = .ok (.aload_n 0, 1) := by decide +kernel
theorem dX3_init_1 : decode cX3_init 1 = .ok (.invokespecial 1, 3) := by decide +kernel
theorem dX3_init_4 : decode cX3_init 4 = .ok (.aload_n 0, 1) := by decide +kernel
theorem dX3_init_5 : decode cX3_init 5 = .ok (.iconst 0, 1) := by decide +kernel
theorem dX3_init_6 : decode cX3_init 6 = .ok (.putfield 7, 3) := by decide +kernel
theorem dX3_init_9 : decode cX3_init 9 = .ok (.aload_n 0, 1) := by decide +kernel
theorem dX3_init_10 : decode cX3_init 10 = .ok (.iconst 0, 1) := by decide +kernel
theorem dX3_init_11 : decode cX3_init 11 = .ok (.putfield 13, 3) := by decide +kernel
theorem dX3_init_14 : decode cX3_init 14 = .ok (.aload_n 0, 1) := by decide +kernel
theorem dX3_init_15 : decode cX3_init 15 = .ok (.iconst 0, 1) := by decide +kernel
theorem dX3_init_16 : decode cX3_init 16 = .ok (.putfield 16, 3) := by decide +kernel
theorem dX3_init_19 : decode cX3_init 19 = .ok (.aload_n 0, 1) := by decide +kernel
theorem dX3_init_20 : decode cX3_init 20 = .ok (.iconst 0, 1) := by decide +kernel
theorem dX3_init_21 : decode cX3_init 21 = .ok (.putfield 19, 3) := by decide +kernel
theorem dX3_init_24 : decode cX3_init 24 = .ok (.aload_n 0, 1) := by decide +kernel
theorem dX3_init_25 : decode cX3_init 25 = .ok (.iconst 0, 1) := by decide +kernel
theorem dX3_init_26 : decode cX3_init 26 = .ok (.putfield 22, 3) := by decide +kernel
theorem dX3_init_29 : decode cX3_init 29 = .ok (.aload_n 0, 1) := by decide +kernel
theorem dX3_init_30 : decode cX3_init 30 = .ok (.aload_n 1, 1) := by decide +kernel
theorem dX3_init_31 : decode cX3_init 31 = .ok (.putfield 25, 3) := by decide +kernel
theorem dX3_init_34 : decode cX3_init 34 = .ok (.aload_n 0, 1) := by decide +kernel
theorem dX3_init_35 : decode cX3_init 35 = .ok (.aload_n 2, 1) := by decide +kernel
theorem dX3_init_36 : decode cX3_init 36 = .ok (.putfield 29, 3) := by decide +kernel
theorem dX3_init_39 : decode cX3_init 39 = .ok (.return_, 1) := by decide +kernel
theorem dX3_goOn_0 : decode cX3_goOn 0 = .ok (.iload_n 1, 1) := by decide +kernel
theorem dX3_goOn_1 : decode cX3_goOn 1 = .ok (.istore_n 2, 1) := by decide +kernel
theorem dX3_goOn_2 : decode cX3_goOn 2 = .ok (.iload_n 2, 1) := by decide +kernel
theorem dX3_goOn_3 : decode cX3_goOn 3 = .ok (.ifCond .le 77, 3) := by decide +kernel
theorem dX3_goOn_6 : decode cX3_goOn 6 = .ok (.aload_n 0, 1) := by decide +kernel
theorem dX3_goOn_7 : decode cX3_goOn 7 = .ok (.getfield 7, 3) := by decide +kernel
theorem dX3_goOn_10 : decode cX3_goOn 10 = .ok (.aload_n 0, 1) := by decide +kernel
theorem dX3_goOn_11 : decode cX3_goOn 11 = .ok (.getfield 25, 3) := by decide +kernel
theorem dX3_goOn_14 : decode cX3_goOn 14 = .ok (.getfield 33, 3) := by decide +kernel
theorem dX3_goOn_17 : decode cX3_goOn 17 = .ok (.if_icmp .ge 63, 3) := by decide +kernel
theorem dX3_goOn_20 : decode cX3_goOn 20 = .ok (.aload_n 0, 1) := by decide +kernel
theorem dX3_goOn_21 : decode cX3_goOn 21 = .ok (.getfield 25, 3) := by decide +kernel
theorem dX3_goOn_24 : decode cX3_goOn 24 = .ok (.aload_n 0, 1) := by decide +kernel
theorem dX3_goOn_25 : decode cX3_goOn 25 = .ok (.getfield 7, 3) := by decide +kernel
theorem dX3_goOn_28 : decode cX3_goOn 28 = .ok (.invokevirtual 38, 3) := by decide +kernel
theorem dX3_goOn_31 : decode cX3_goOn 31 = .ok (.aload_n 0, 1) := by decide +kernel
theorem dX3_goOn_32 : decode cX3_goOn 32 = .ok (.getfield 13, 3) := by decide +kernel
theorem dX3_goOn_35 : decode cX3_goOn 35 = .ok (.isub, 1) := by decide +kernel
theorem dX3_goOn_36 : decode cX3_goOn 36 = .ok (.istore_n 3, 1) := by decide +kernel
theorem dX3_goOn_37 : decode cX3_goOn 37 = .ok (.iload_n 2, 1) := by decide +kernel
theorem dX3_goOn_38 : decode cX3_goOn 38 = .ok (.iload_n 3, 1) := by decide +kernel
theorem dX3_goOn_39 : decode cX3_goOn 39 = .ok (.invokestatic 42, 3) := by decide +kernel
theorem dX3_goOn_42 : decode cX3_goOn 42 = .ok (.istore 4, 2) := by decide +kernel
theorem dX3_goOn_44 : decode cX3_goOn 44 = .ok (.aload_n 0, 1) := by decide +kernel
theorem dX3_goOn_45 : decode cX3_goOn 45 = .ok (.iload 4, 2) := by decide +kernel
theorem dX3_goOn_47 : decode cX3_goOn 47 = .ok (.invokevirtual 48, 3) := by decide +kernel
theorem dX3_goOn_50 : decode cX3_goOn 50 = .ok (.iload_n 2, 1) := by decide +kernel
theorem dX3_goOn_51 : decode cX3_goOn 51 = .ok (.iload 4, 2) := by decide +kernel
theorem dX3_goOn_53 : decode cX3_goOn 53 = .ok (.isub, 1) := by decide +kernel
theorem dX3_goOn_54 : decode cX3_goOn 54 = .ok (.istore_n 2, 1) := by decide +kernel
theorem dX3_goOn_55 : decode cX3_goOn 55 = .ok (.iload 4, 2) := by decide +kernel
theorem dX3_goOn_57 : decode cX3_goOn 57 = .ok (.iload_n 3, 1) := by decide +kernel
theorem dX3_goOn_58 : decode cX3_goOn 58 = .ok (.if_icmp .ge 4, 3) := by decide +kernel
theorem dX3_goOn_61 : decode cX3_goOn 61 = .ok (.return_, 1) := by decide +kernel
theorem dX3_goOn_62 : decode cX3_goOn 62 = .ok (.aload_n 0, 1) := by decide +kernel
theorem dX3_goOn_63 : decode cX3_goOn 63 = .ok (.iconst 0, 1) := by decide +kernel
theorem dX3_goOn_64 : decode cX3_goOn 64 = .ok (.putfield 13, 3) := by decide +kernel
theorem dX3_goOn_67 : decode cX3_goOn 67 = .ok (.aload_n 0, 1) := by decide +kernel
theorem dX3_goOn_68 : decode cX3_goOn 68 = .ok (.dup, 1) := by decide +kernel
theorem dX3_goOn_69 : decode cX3_goOn 69 = .ok (.getfield 7, 3) := by decide +kernel
theorem dX3_goOn_72 : decode cX3_goOn 72 = .ok (.iconst 1, 1) := by decide +kernel
theorem dX3_goOn_73 : decode cX3_goOn 73 = .ok (.iadd, 1) := by decide +kernel
theorem dX3_goOn_74 : decode cX3_goOn 74 = .ok (.putfield 7, 3) := by decide +kernel
theorem dX3_goOn_77 : decode cX3_goOn 77 = .ok (.goto (-75), 3) := by decide +kernel
theorem dX3_goOn_80 : decode cX3_goOn 80 = .ok (.return_, 1) := by decide +kernel
theorem dX3_goBack_0 : decode cX3_goBack 0 = .ok (.iload_n 1, 1) := by decide +kernel
theorem dX3_goBack_1 : decode cX3_goBack 1 = .ok (.istore_n 2, 1) := by decide +kernel
theorem dX3_goBack_2 : decode cX3_goBack 2 = .ok (.aload_n 0, 1) := by decide +kernel
theorem dX3_goBack_3 : decode cX3_goBack 3 = .ok (.getfield 25, 3) := by decide +kernel
theorem dX3_goBack_6 : decode cX3_goBack 6 = .ok (.getfield 33, 3) := by decide +kernel
theorem dX3_goBack_9 : decode cX3_goBack 9 = .ok (.istore_n 3, 1) := by decide +kernel
theorem dX3_goBack_10 : decode cX3_goBack 10 = .ok (.iload_n 3, 1) := by decide +kernel
theorem dX3_goBack_11 : decode cX3_goBack 11 = .ok (.ifCond .le 75, 3) := by decide +kernel
theorem dX3_goBack_14 : decode cX3_goBack 14 = .ok (.iload_n 2, 1) := by decide +kernel
theorem dX3_goBack_15 : decode cX3_goBack 15 = .ok (.ifCond .le 71, 3) := by decide +kernel
theorem dX3_goBack_18 : decode cX3_goBack 18 = .ok (.aload_n 0, 1) := by decide +kernel
theorem dX3_goBack_19 : decode cX3_goBack 19 = .ok (.getfield 13, 3) := by decide +kernel
theorem dX3_goBack_22 : decode cX3_goBack 22 = .ok (.ifCond .ne 36, 3) := by decide +kernel
theorem dX3_goBack_25 : decode cX3_goBack 25 = .ok (.aload_n 0, 1) := by decide +kernel
theorem dX3_goBack_26 : decode cX3_goBack 26 = .ok (.getfield 7, 3) := by decide +kernel
theorem dX3_goBack_29 : decode cX3_goBack 29 = .ok (.ifCond .ne 4, 3) := by decide +kernel
theorem dX3_goBack_32 : decode cX3_goBack 32 = .ok (.return_, 1) := by decide +kernel
theorem dX3_goBack_33 : decode cX3_goBack 33 = .ok (.aload_n 0, 1) := by decide +kernel
theorem dX3_goBack_34 : decode cX3_goBack 34 = .ok (.dup, 1) := by decide +kernel
theorem dX3_goBack_35 : decode cX3_goBack 35 = .ok (.getfield 7, 3) := by decide +kernel
theorem dX3_goBack_38 : decode cX3_goBack 38 = .ok (.iconst 1, 1) := by decide +kernel
theorem dX3_goBack_39 : decode cX3_goBack 39 = .ok (.isub, 1) := by decide +kernel
theorem dX3_goBack_40 : decode cX3_goBack 40 = .ok (.putfield 7, 3) := by decide +kernel
theorem dX3_goBack_43 : decode cX3_goBack 43 = .ok (.aload_n 0, 1) := by decide +kernel
theorem dX3_goBack_44 : decode cX3_goBack 44 = .ok (.aload_n 0, 1) := by decide +kernel
theorem dX3_goBack_45 : decode cX3_goBack 45 = .ok (.getfield 25, 3) := by decide +kernel
theorem dX3_goBack_48 : decode cX3_goBack 48 = .ok (.aload_n 0, 1) := by decide +kernel
theorem dX3_goBack_49 : decode cX3_goBack 49 = .ok (.getfield 7, 3) := by decide +kernel
theorem dX3_goBack_52 : decode cX3_goBack 52 = .ok (.invokevirtual 38, 3) := by decide +kernel
theorem dX3_goBack_55 : decode cX3_goBack 55 = .ok (.putfield 13, 3) := by decide +kernel
theorem dX3_goBack_58 : decode cX3_goBack 58 = .ok (.iload_n 2, 1) := by decide +kernel
theorem dX3_goBack_59 : decode cX3_goBack 59 = .ok (.aload_n 0, 1) := by decide +kernel
theorem dX3_goBack_60 : decode cX3_goBack 60 = .ok (.getfield 13, 3) := by decide +kernel
theorem dX3_goBack_63 : decode cX3_goBack 63 = .ok (.invokestatic 42, 3) := by decide +kernel
theorem dX3_goBack_66 : decode cX3_goBack 66 = .ok (.istore 4, 2) := by decide +kernel
theorem dX3_goBack_68 : decode cX3_goBack 68 = .ok (.aload_n 0, 1) := by decide +kernel
theorem dX3_goBack_69 : decode cX3_goBack 69 = .ok (.iload 4, 2) := by decide +kernel
theorem dX3_goBack_71 : decode cX3_goBack 71 = .ok (.ineg, 1) := by decide +kernel
theorem dX3_goBack_72 : decode cX3_goBack 72 = .ok (.invokevirtual 48, 3) := by decide +kernel
theorem dX3_goBack_75 : decode cX3_goBack 75 = .ok (.iload_n 2, 1) := by decide +kernel
theorem dX3_goBack_76 : decode cX3_goBack 76 = .ok (.iload 4, 2) := by decide +kernel
theorem dX3_goBack_78 : decode cX3_goBack 78 = .ok (.isub, 1) := by decide +kernel
theorem dX3_goBack_79 : decode cX3_goBack 79 = .ok (.istore_n 2, 1) := by decide +kernel
theorem dX3_goBack_80 : decode cX3_goBack 80 = .ok (.iinc 3 (-1), 3) := by decide +kernel
theorem dX3_goBack_83 : decode cX3_goBack 83 = .ok (.goto (-73), 3) := by decide +kernel
theorem dX3_goBack_86 : decode cX3_goBack 86 = .ok (.return_, 1) := by decide +kernel
theorem dX3_reckon_0 : decode cX3_reckon 0 = .ok (.aload_n 0, 1) := by decide +kernel
theorem dX3_reckon_1 : decode cX3_reckon 1 = .ok (.getfield 25, 3) := by decide +kernel
theorem dX3_reckon_4 : decode cX3_reckon 4 = .ok (.aload_n 0, 1) := by decide +kernel
theorem dX3_reckon_5 : decode cX3_reckon 5 = .ok (.getfield 7, 3) := by decide +kernel
theorem dX3_reckon_8 : decode cX3_reckon 8 = .ok (.invokevirtual 52, 3) := by decide +kernel
theorem dX3_reckon_11 : decode cX3_reckon 11 = .ok (.istore_n 2, 1) := by decide +kernel
theorem dX3_reckon_12 : decode cX3_reckon 12 = .ok (.aload_n 0, 1) := by decide +kernel
theorem dX3_reckon_13 : decode cX3_reckon 13 = .ok (.getfield 25, 3) := by decide +kernel
theorem dX3_reckon_16 : decode cX3_reckon 16 = .ok (.getfield 55, 3) := by decide +kernel
theorem dX3_reckon_19 : decode cX3_reckon 19 = .ok (.iload_n 2, 1) := by decide +kernel
theorem dX3_reckon_20 : decode cX3_reckon 20 = .ok (.iaload, 1) := by decide +kernel
theorem dX3_reckon_21 : decode cX3_reckon 21 = .ok (.istore_n 3, 1) := by decide +kernel
theorem dX3_reckon_22 : decode cX3_reckon 22 = .ok (.aload_n 0, 1) := by decide +kernel
theorem dX3_reckon_23 : decode cX3_reckon 23 = .ok (.dup, 1) := by decide +kernel
theorem dX3_reckon_24 : decode cX3_reckon 24 = .ok (.getfield 13, 3) := by decide +kernel
theorem dX3_reckon_27 : decode cX3_reckon 27 = .ok (.iload_n 1, 1) := by decide +kernel
theorem dX3_reckon_28 : decode cX3_reckon 28 = .ok (.iadd, 1) := by decide +kernel
theorem dX3_reckon_29 : decode cX3_reckon 29 = .ok (.putfield 13, 3) := by decide +kernel
theorem dX3_reckon_32 : decode cX3_reckon 32 = .ok (.aload_n 0, 1) := by decide +kernel
theorem dX3_reckon_33 : decode cX3_reckon 33 = .ok (.dup, 1) := by decide +kernel
theorem dX3_reckon_34 : decode cX3_reckon 34 = .ok (.getfield 16, 3) := by decide +kernel
theorem dX3_reckon_37 : decode cX3_reckon 37 = .ok (.iload_n 3, 1) := by decide +kernel
theorem dX3_reckon_38 : decode cX3_reckon 38 = .ok (.ifCond .lt 23, 3) := by decide +kernel
theorem dX3_reckon_41 : decode cX3_reckon 41 = .ok (.iload_n 3, 1) := by decide +kernel
theorem dX3_reckon_42 : decode cX3_reckon 42 = .ok (.aload_n 0, 1) := by decide +kernel
theorem dX3_reckon_43 : decode cX3_reckon 43 = .ok (.getfield 29, 3) := by decide +kernel
theorem dX3_reckon_46 : decode cX3_reckon 46 = .ok (.arraylength, 1) := by decide +kernel
theorem dX3_reckon_47 : decode cX3_reckon 47 = .ok (.if_icmp .ge 14, 3) := by decide +kernel
theorem dX3_reckon_50 : decode cX3_reckon 50 = .ok (.iload_n 1, 1) := by decide +kernel
theorem dX3_reckon_51 : decode cX3_reckon 51 = .ok (.aload_n 0, 1) := by decide +kernel
theorem dX3_reckon_52 : decode cX3_reckon 52 = .ok (.getfield 29, 3) := by decide +kernel
theorem dX3_reckon_55 : decode cX3_reckon 55 = .ok (.iload_n 3, 1) := by decide +kernel
theorem dX3_reckon_56 : decode cX3_reckon 56 = .ok (.iaload, 1) := by decide +kernel
theorem dX3_reckon_57 : decode cX3_reckon 57 = .ok (.imul, 1) := by decide +kernel
theorem dX3_reckon_58 : decode cX3_reckon 58 = .ok (.goto 4, 3) := by decide +kernel
theorem dX3_reckon_61 : decode cX3_reckon 61 = .ok (.iconst 0, 1) := by decide +kernel
theorem dX3_reckon_62 : decode cX3_reckon 62 = .ok (.iadd, 1) := by decide +kernel
theorem dX3_reckon_63 : decode cX3_reckon 63 = .ok (.putfield 16, 3) := by decide +kernel
theorem dX3_reckon_66 : decode cX3_reckon 66 = .ok (.aload_n 0, 1) := by decide +kernel
theorem dX3_reckon_67 : decode cX3_reckon 67 = .ok (.dup, 1) := by decide +kernel
theorem dX3_reckon_68 : decode cX3_reckon 68 = .ok (.getfield 19, 3) := by decide +kernel
theorem dX3_reckon_71 : decode cX3_reckon 71 = .ok (.iload_n 1, 1) := by decide +kernel
theorem dX3_reckon_72 : decode cX3_reckon 72 = .ok (.aload_n 0, 1) := by decide +kernel
theorem dX3_reckon_73 : decode cX3_reckon 73 = .ok (.getfield 25, 3) := by decide +kernel
theorem dX3_reckon_76 : decode cX3_reckon 76 = .ok (.getfield 58, 3) := by decide +kernel
theorem dX3_reckon_79 : decode cX3_reckon 79 = .ok (.iload_n 2, 1) := by decide +kernel
theorem dX3_reckon_80 : decode cX3_reckon 80 = .ok (.iaload, 1) := by decide +kernel
theorem dX3_reckon_81 : decode cX3_reckon 81 = .ok (.imul, 1) := by decide +kernel
theorem dX3_reckon_82 : decode cX3_reckon 82 = .ok (.iadd, 1) := by decide +kernel
theorem dX3_reckon_83 : decode cX3_reckon 83 = .ok (.putfield 19, 3) := by decide +kernel
theorem dX3_reckon_86 : decode cX3_reckon 86 = .ok (.aload_n 0, 1) := by decide +kernel
theorem dX3_reckon_87 : decode cX3_reckon 87 = .ok (.dup, 1) := by decide +kernel
theorem dX3_reckon_88 : decode cX3_reckon 88 = .ok (.getfield 22, 3) := by decide +kernel
theorem dX3_reckon_91 : decode cX3_reckon 91 = .ok (.iload_n 1, 1) := by decide +kernel
theorem dX3_reckon_92 : decode cX3_reckon 92 = .ok (.aload_n 0, 1) := by decide +kernel
theorem dX3_reckon_93 : decode cX3_reckon 93 = .ok (.getfield 25, 3) := by decide +kernel
theorem dX3_reckon_96 : decode cX3_reckon 96 = .ok (.getfield 61, 3) := by decide +kernel
theorem dX3_reckon_99 : decode cX3_reckon 99 = .ok (.iload_n 2, 1) := by decide +kernel
theorem dX3_reckon_100 : decode cX3_reckon 100 = .ok (.iaload, 1) := by decide +kernel
theorem dX3_reckon_101 : decode cX3_reckon 101 = .ok (.imul, 1) := by decide +kernel
theorem dX3_reckon_102 : decode cX3_reckon 102 = .ok (.iadd, 1) := by decide +kernel
theorem dX3_reckon_103 : decode cX3_reckon 103 = .ok (.putfield 22, 3) := by decide +kernel
theorem dX3_reckon_106 : decode cX3_reckon 106 = .ok (.return_, 1) := by decide +kernel
theorem dX4_init_0 : decode cX4_init 0 = .ok (.aload_n 0, 1) := by decide +kernel
theorem dX4_init_1 : decode cX4_init 1 = .ok (.invokespecial 3, 3) := by decide +kernel
theorem dX4_init_4 : decode cX4_init 4 = .ok (.aload_n 0, 1) := by decide +kernel
theorem dX4_init_5 : decode cX4_init 5 = .ok (.bipush 80, 2) := by decide +kernel
theorem dX4_init_7 : decode cX4_init 7 = .ok (.newarray .int, 2) := by decide +kernel
theorem dX4_init_9 : decode cX4_init 9 = .ok (.putfield 9, 3) := by decide +kernel
theorem dX4_init_12 : decode cX4_init 12 = .ok (.aload_n 0, 1) := by decide +kernel
theorem dX4_init_13 : decode cX4_init 13 = .ok (.iconst 0, 1) := by decide +kernel
theorem dX4_init_14 : decode cX4_init 14 = .ok (.putfield 15, 3) := by decide +kernel
theorem dX4_init_17 : decode cX4_init 17 = .ok (.aload_n 0, 1) := by decide +kernel
theorem dX4_init_18 : decode cX4_init 18 = .ok (.iconst 0, 1) := by decide +kernel
theorem dX4_init_19 : decode cX4_init 19 = .ok (.putfield 19, 3) := by decide +kernel
theorem dX4_init_22 : decode cX4_init 22 = .ok (.aload_n 0, 1) := by decide +kernel
theorem dX4_init_23 : decode cX4_init 23 = .ok (.sipush 500, 3) := by decide +kernel
theorem dX4_init_26 : decode cX4_init 26 = .ok (.putfield 22, 3) := by decide +kernel
theorem dX4_init_29 : decode cX4_init 29 = .ok (.aload_n 0, 1) := by decide +kernel
theorem dX4_init_30 : decode cX4_init 30 = .ok (.lconst 0, 1) := by decide +kernel
theorem dX4_init_31 : decode cX4_init 31 = .ok (.putfield 25, 3) := by decide +kernel
theorem dX4_init_34 : decode cX4_init 34 = .ok (.return_, 1) := by decide +kernel
theorem dX4_follow_0 : decode cX4_follow 0 = .ok (.iload_n 1, 1) := by decide +kernel
theorem dX4_follow_1 : decode cX4_follow 1 = .ok (.aload_n 0, 1) := by decide +kernel
theorem dX4_follow_2 : decode cX4_follow 2 = .ok (.getfield 19, 3) := by decide +kernel
theorem dX4_follow_5 : decode cX4_follow 5 = .ok (.isub, 1) := by decide +kernel
theorem dX4_follow_6 : decode cX4_follow 6 = .ok (.istore_n 2, 1) := by decide +kernel
theorem dX4_follow_7 : decode cX4_follow 7 = .ok (.iload_n 2, 1) := by decide +kernel
theorem dX4_follow_8 : decode cX4_follow 8 = .ok (.ifCond .eq 15, 3) := by decide +kernel
theorem dX4_follow_11 : decode cX4_follow 11 = .ok (.aload_n 0, 1) := by decide +kernel
theorem dX4_follow_12 : decode cX4_follow 12 = .ok (.getfield 15, 3) := by decide +kernel
theorem dX4_follow_15 : decode cX4_follow 15 = .ok (.aload_n 0, 1) := by decide +kernel
theorem dX4_follow_16 : decode cX4_follow 16 = .ok (.getfield 9, 3) := by decide +kernel
theorem dX4_follow_19 : decode cX4_follow 19 = .ok (.arraylength, 1) := by decide +kernel
theorem dX4_follow_20 : decode cX4_follow 20 = .ok (.if_icmp .lt 4, 3) := by decide +kernel
theorem dX4_follow_23 : decode cX4_follow 23 = .ok (.return_, 1) := by decide +kernel
theorem dX4_follow_24 : decode cX4_follow 24 = .ok (.aload_n 0, 1) := by decide +kernel
theorem dX4_follow_25 : decode cX4_follow 25 = .ok (.getfield 9, 3) := by decide +kernel
theorem dX4_follow_28 : decode cX4_follow 28 = .ok (.aload_n 0, 1) := by decide +kernel
theorem dX4_follow_29 : decode cX4_follow 29 = .ok (.getfield 15, 3) := by decide +kernel
theorem dX4_follow_32 : decode cX4_follow 32 = .ok (.iload_n 2, 1) := by decide +kernel
theorem dX4_follow_33 : decode cX4_follow 33 = .ok (.iastore, 1) := by decide +kernel
theorem dX4_follow_34 : decode cX4_follow 34 = .ok (.aload_n 0, 1) := by decide +kernel
theorem dX4_follow_35 : decode cX4_follow 35 = .ok (.dup, 1) := by decide +kernel
theorem dX4_follow_36 : decode cX4_follow 36 = .ok (.getfield 15, 3) := by decide +kernel
theorem dX4_follow_39 : decode cX4_follow 39 = .ok (.iconst 1, 1) := by decide +kernel
theorem dX4_follow_40 : decode cX4_follow 40 = .ok (.iadd, 1) := by decide +kernel
theorem dX4_follow_41 : decode cX4_follow 41 = .ok (.putfield 15, 3) := by decide +kernel
theorem dX4_follow_44 : decode cX4_follow 44 = .ok (.aload_n 0, 1) := by decide +kernel
theorem dX4_follow_45 : decode cX4_follow 45 = .ok (.iload_n 1, 1) := by decide +kernel
theorem dX4_follow_46 : decode cX4_follow 46 = .ok (.putfield 19, 3) := by decide +kernel
theorem dX4_follow_49 : decode cX4_follow 49 = .ok (.return_, 1) := by decide +kernel
theorem dX4_reprice_0 : decode cX4_reprice 0 = .ok (.aload_n 0, 1) := by decide +kernel
theorem dX4_reprice_1 : decode cX4_reprice 1 = .ok (.getfield 22, 3) := by decide +kernel
theorem dX4_reprice_4 : decode cX4_reprice 4 = .ok (.istore_n 2, 1) := by decide +kernel
theorem dX4_reprice_5 : decode cX4_reprice 5 = .ok (.aload_n 0, 1) := by decide +kernel
theorem dX4_reprice_6 : decode cX4_reprice 6 = .ok (.dup, 1) := by decide +kernel
theorem dX4_reprice_7 : decode cX4_reprice 7 = .ok (.getfield 25, 3) := by decide +kernel
theorem dX4_reprice_10 : decode cX4_reprice 10 = .ok (.aload_n 0, 1) := by decide +kernel
theorem dX4_reprice_11 : decode cX4_reprice 11 = .ok (.getfield 19, 3) := by decide +kernel
theorem dX4_reprice_14 : decode cX4_reprice 14 = .ok (.i2l, 1) := by decide +kernel
theorem dX4_reprice_15 : decode cX4_reprice 15 = .ok (.iload_n 2, 1) := by decide +kernel
theorem dX4_reprice_16 : decode cX4_reprice 16 = .ok (.iload_n 1, 1) := by decide +kernel
theorem dX4_reprice_17 : decode cX4_reprice 17 = .ok (.isub, 1) := by decide +kernel
theorem dX4_reprice_18 : decode cX4_reprice 18 = .ok (.i2l, 1) := by decide +kernel
theorem dX4_reprice_19 : decode cX4_reprice 19 = .ok (.lmul, 1) := by decide +kernel
theorem dX4_reprice_20 : decode cX4_reprice 20 = .ok (.ladd, 1) := by decide +kernel
theorem dX4_reprice_21 : decode cX4_reprice 21 = .ok (.putfield 25, 3) := by decide +kernel
theorem dX4_reprice_24 : decode cX4_reprice 24 = .ok (.aload_n 0, 1) := by decide +kernel
theorem dX4_reprice_25 : decode cX4_reprice 25 = .ok (.iload_n 1, 1) := by decide +kernel
theorem dX4_reprice_26 : decode cX4_reprice 26 = .ok (.putfield 22, 3) := by decide +kernel
theorem dX4_reprice_29 : decode cX4_reprice 29 = .ok (.iload_n 2, 1) := by decide +kernel
theorem dX4_reprice_30 : decode cX4_reprice 30 = .ok (.ireturn, 1) := by decide +kernel
theorem dX5_init_0 : decode cX5_init 0 = .ok (.aload_n 0, 1) := by decide +kernel
theorem dX5_init_1 : decode cX5_init 1 = .ok (.invokespecial 3, 3) := by decide +kernel
theorem dX5_init_4 : decode cX5_init 4 = .ok (.aload_n 0, 1) := by decide +kernel
theorem dX5_init_5 : decode cX5_init 5 = .ok (.bipush 12, 2) := by decide +kernel
theorem dX5_init_7 : decode cX5_init 7 = .ok (.newarray .int, 2) := by decide +kernel
theorem dX5_init_9 : decode cX5_init 9 = .ok (.putfield 9, 3) := by decide +kernel
theorem dX5_init_12 : decode cX5_init 12 = .ok (.aload_n 0, 1) := by decide +kernel
theorem dX5_init_13 : decode cX5_init 13 = .ok (.bipush 12, 2) := by decide +kernel
theorem dX5_init_15 : decode cX5_init 15 = .ok (.newarray .int, 2) := by decide +kernel
theorem dX5_init_17 : decode cX5_init 17 = .ok (.putfield 15, 3) := by decide +kernel
theorem dX5_init_20 : decode cX5_init 20 = .ok (.aload_n 0, 1) := by decide +kernel
theorem dX5_init_21 : decode cX5_init 21 = .ok (.iconst 0, 1) := by decide +kernel
theorem dX5_init_22 : decode cX5_init 22 = .ok (.putfield 18, 3) := by decide +kernel
theorem dX5_init_25 : decode cX5_init 25 = .ok (.iconst 0, 1) := by decide +kernel
theorem dX5_init_26 : decode cX5_init 26 = .ok (.istore_n 1, 1) := by decide +kernel
theorem dX5_init_27 : decode cX5_init 27 = .ok (.iload_n 1, 1) := by decide +kernel
theorem dX5_init_28 : decode cX5_init 28 = .ok (.iconst 3, 1) := by decide +kernel
theorem dX5_init_29 : decode cX5_init 29 = .ok (.iadd, 1) := by decide +kernel
theorem dX5_init_30 : decode cX5_init 30 = .ok (.aload_n 0, 1) := by decide +kernel
theorem dX5_init_31 : decode cX5_init 31 = .ok (.getfield 9, 3) := by decide +kernel
theorem dX5_init_34 : decode cX5_init 34 = .ok (.arraylength, 1) := by decide +kernel
theorem dX5_init_35 : decode cX5_init 35 = .ok (.if_icmp .gt 68, 3) := by decide +kernel
theorem dX5_init_38 : decode cX5_init 38 = .ok (.aload_n 0, 1) := by decide +kernel
theorem dX5_init_39 : decode cX5_init 39 = .ok (.getfield 9, 3) := by decide +kernel
theorem dX5_init_42 : decode cX5_init 42 = .ok (.iload_n 1, 1) := by decide +kernel
theorem dX5_init_43 : decode cX5_init 43 = .ok (.sipush 140, 3) := by decide +kernel
theorem dX5_init_46 : decode cX5_init 46 = .ok (.iastore, 1) := by decide +kernel
theorem dX5_init_47 : decode cX5_init 47 = .ok (.aload_n 0, 1) := by decide +kernel
theorem dX5_init_48 : decode cX5_init 48 = .ok (.getfield 9, 3) := by decide +kernel
theorem dX5_init_51 : decode cX5_init 51 = .ok (.iload_n 1, 1) := by decide +kernel
theorem dX5_init_52 : decode cX5_init 52 = .ok (.iconst 1, 1) := by decide +kernel
theorem dX5_init_53 : decode cX5_init 53 = .ok (.iadd, 1) := by decide +kernel
theorem dX5_init_54 : decode cX5_init 54 = .ok (.sipush 155, 3) := by decide +kernel
theorem dX5_init_57 : decode cX5_init 57 = .ok (.iastore, 1) := by decide +kernel
theorem dX5_init_58 : decode cX5_init 58 = .ok (.aload_n 0, 1) := by decide +kernel
theorem dX5_init_59 : decode cX5_init 59 = .ok (.getfield 9, 3) := by decide +kernel
theorem dX5_init_62 : decode cX5_init 62 = .ok (.iload_n 1, 1) := by decide +kernel
theorem dX5_init_63 : decode cX5_init 63 = .ok (.iconst 2, 1) := by decide +kernel
theorem dX5_init_64 : decode cX5_init 64 = .ok (.iadd, 1) := by decide +kernel
theorem dX5_init_65 : decode cX5_init 65 = .ok (.sipush 175, 3) := by decide +kernel
theorem dX5_init_68 : decode cX5_init 68 = .ok (.iastore, 1) := by decide +kernel
theorem dX5_init_69 : decode cX5_init 69 = .ok (.aload_n 0, 1) := by decide +kernel
theorem dX5_init_70 : decode cX5_init 70 = .ok (.getfield 15, 3) := by decide +kernel
theorem dX5_init_73 : decode cX5_init 73 = .ok (.iload_n 1, 1) := by decide +kernel
theorem dX5_init_74 : decode cX5_init 74 = .ok (.bipush 20, 2) := by decide +kernel
theorem dX5_init_76 : decode cX5_init 76 = .ok (.iastore, 1) := by decide +kernel
theorem dX5_init_77 : decode cX5_init 77 = .ok (.aload_n 0, 1) := by decide +kernel
theorem dX5_init_78 : decode cX5_init 78 = .ok (.getfield 15, 3) := by decide +kernel
theorem dX5_init_81 : decode cX5_init 81 = .ok (.iload_n 1, 1) := by decide +kernel
theorem dX5_init_82 : decode cX5_init 82 = .ok (.iconst 1, 1) := by decide +kernel
theorem dX5_init_83 : decode cX5_init 83 = .ok (.iadd, 1) := by decide +kernel
theorem dX5_init_84 : decode cX5_init 84 = .ok (.bipush 30, 2) := by decide +kernel
theorem dX5_init_86 : decode cX5_init 86 = .ok (.iastore, 1) := by decide +kernel
theorem dX5_init_87 : decode cX5_init 87 = .ok (.aload_n 0, 1) := by decide +kernel
theorem dX5_init_88 : decode cX5_init 88 = .ok (.getfield 15, 3) := by decide +kernel
theorem dX5_init_91 : decode cX5_init 91 = .ok (.iload_n 1, 1) := by decide +kernel
theorem dX5_init_92 : decode cX5_init 92 = .ok (.iconst 2, 1) := by decide +kernel
theorem dX5_init_93 : decode cX5_init 93 = .ok (.iadd, 1) := by decide +kernel
theorem dX5_init_94 : decode cX5_init 94 = .ok (.bipush 40, 2) := by decide +kernel
theorem dX5_init_96 : decode cX5_init 96 = .ok (.iastore, 1) := by decide +kernel
theorem dX5_init_97 : decode cX5_init 97 = .ok (.iinc 1 3, 3) := by decide +kernel
theorem dX5_init_100 : decode cX5_init 100 = .ok (.goto (-73), 3) := by decide +kernel
theorem dX5_init_103 : decode cX5_init 103 = .ok (.return_, 1) := by decide +kernel
theorem dX5_change_0 : decode cX5_change 0 = .ok (.iload_n 1, 1) := by decide +kernel
theorem dX5_change_1 : decode cX5_change 1 = .ok (.iconst 3, 1) := by decide +kernel
theorem dX5_change_2 : decode cX5_change 2 = .ok (.imul, 1) := by decide +kernel
theorem dX5_change_3 : decode cX5_change 3 = .ok (.iload_n 2, 1) := by decide +kernel
theorem dX5_change_4 : decode cX5_change 4 = .ok (.iadd, 1) := by decide +kernel
theorem dX5_change_5 : decode cX5_change 5 = .ok (.iconst 1, 1) := by decide +kernel
theorem dX5_change_6 : decode cX5_change 6 = .ok (.isub, 1) := by decide +kernel
theorem dX5_change_7 : decode cX5_change 7 = .ok (.istore 5, 2) := by decide +kernel
theorem dX5_change_9 : decode cX5_change 9 = .ok (.iload 5, 2) := by decide +kernel
theorem dX5_change_11 : decode cX5_change 11 = .ok (.ifCond .lt 13, 3) := by decide +kernel
theorem dX5_change_14 : decode cX5_change 14 = .ok (.iload 5, 2) := by decide +kernel
theorem dX5_change_16 : decode cX5_change 16 = .ok (.aload_n 0, 1) := by decide +kernel
theorem dX5_change_17 : decode cX5_change 17 = .ok (.getfield 9, 3) := by decide +kernel
theorem dX5_change_20 : decode cX5_change 20 = .ok (.arraylength, 1) := by decide +kernel
theorem dX5_change_21 : decode cX5_change 21 = .ok (.if_icmp .lt 5, 3) := by decide +kernel
theorem dX5_change_24 : decode cX5_change 24 = .ok (.iconst 0, 1) := by decide +kernel
theorem dX5_change_25 : decode cX5_change 25 = .ok (.ireturn, 1) := by decide +kernel
theorem dX5_change_26 : decode cX5_change 26 = .ok (.aload_n 0, 1) := by decide +kernel
theorem dX5_change_27 : decode cX5_change 27 = .ok (.getfield 9, 3) := by decide +kernel
theorem dX5_change_30 : decode cX5_change 30 = .ok (.iload 5, 2) := by decide +kernel
theorem dX5_change_32 : decode cX5_change 32 = .ok (.iaload, 1) := by decide +kernel
theorem dX5_change_33 : decode cX5_change 33 = .ok (.istore 6, 2) := by decide +kernel
theorem dX5_change_35 : decode cX5_change 35 = .ok (.aload_n 0, 1) := by decide +kernel
theorem dX5_change_36 : decode cX5_change 36 = .ok (.getfield 9, 3) := by decide +kernel
theorem dX5_change_39 : decode cX5_change 39 = .ok (.iload 5, 2) := by decide +kernel
theorem dX5_change_41 : decode cX5_change 41 = .ok (.iload_n 3, 1) := by decide +kernel
theorem dX5_change_42 : decode cX5_change 42 = .ok (.iastore, 1) := by decide +kernel
theorem dX5_change_43 : decode cX5_change 43 = .ok (.aload_n 0, 1) := by decide +kernel
theorem dX5_change_44 : decode cX5_change 44 = .ok (.getfield 15, 3) := by decide +kernel
theorem dX5_change_47 : decode cX5_change 47 = .ok (.iload 5, 2) := by decide +kernel
theorem dX5_change_49 : decode cX5_change 49 = .ok (.iload 4, 2) := by decide +kernel
theorem dX5_change_51 : decode cX5_change 51 = .ok (.iastore, 1) := by decide +kernel
theorem dX5_change_52 : decode cX5_change 52 = .ok (.iload 6, 2) := by decide +kernel
theorem dX5_change_54 : decode cX5_change 54 = .ok (.ireturn, 1) := by decide +kernel
theorem dX5_gradeNow_0 : decode cX5_gradeNow 0 = .ok (.aload_n 0, 1) := by decide +kernel
theorem dX5_gradeNow_1 : decode cX5_gradeNow 1 = .ok (.getfield 18, 3) := by decide +kernel
theorem dX5_gradeNow_4 : decode cX5_gradeNow 4 = .ok (.iconst 3, 1) := by decide +kernel
theorem dX5_gradeNow_5 : decode cX5_gradeNow 5 = .ok (.imul, 1) := by decide +kernel
theorem dX5_gradeNow_6 : decode cX5_gradeNow 6 = .ok (.istore_n 3, 1) := by decide +kernel
theorem dX5_gradeNow_7 : decode cX5_gradeNow 7 = .ok (.iconst 1, 1) := by decide +kernel
theorem dX5_gradeNow_8 : decode cX5_gradeNow 8 = .ok (.istore 4, 2) := by decide +kernel
theorem dX5_gradeNow_10 : decode cX5_gradeNow 10 = .ok (.iload 4, 2) := by decide +kernel
theorem dX5_gradeNow_12 : decode cX5_gradeNow 12 = .ok (.iconst 3, 1) := by decide +kernel
theorem dX5_gradeNow_13 : decode cX5_gradeNow 13 = .ok (.if_icmp .gt 57, 3) := by decide +kernel
theorem dX5_gradeNow_16 : decode cX5_gradeNow 16 = .ok (.iload_n 3, 1) := by decide +kernel
theorem dX5_gradeNow_17 : decode cX5_gradeNow 17 = .ok (.iload 4, 2) := by decide +kernel
theorem dX5_gradeNow_19 : decode cX5_gradeNow 19 = .ok (.iadd, 1) := by decide +kernel
theorem dX5_gradeNow_20 : decode cX5_gradeNow 20 = .ok (.iconst 1, 1) := by decide +kernel
theorem dX5_gradeNow_21 : decode cX5_gradeNow 21 = .ok (.isub, 1) := by decide +kernel
theorem dX5_gradeNow_22 : decode cX5_gradeNow 22 = .ok (.istore 5, 2) := by decide +kernel
theorem dX5_gradeNow_24 : decode cX5_gradeNow 24 = .ok (.iload 5, 2) := by decide +kernel
theorem dX5_gradeNow_26 : decode cX5_gradeNow 26 = .ok (.ifCond .lt 38, 3) := by decide +kernel
theorem dX5_gradeNow_29 : decode cX5_gradeNow 29 = .ok (.iload 5, 2) := by decide +kernel
theorem dX5_gradeNow_31 : decode cX5_gradeNow 31 = .ok (.aload_n 0, 1) := by decide +kernel
theorem dX5_gradeNow_32 : decode cX5_gradeNow 32 = .ok (.getfield 9, 3) := by decide +kernel
theorem dX5_gradeNow_35 : decode cX5_gradeNow 35 = .ok (.arraylength, 1) := by decide +kernel
theorem dX5_gradeNow_36 : decode cX5_gradeNow 36 = .ok (.if_icmp .ge 28, 3) := by decide +kernel
theorem dX5_gradeNow_39 : decode cX5_gradeNow 39 = .ok (.iload_n 1, 1) := by decide +kernel
theorem dX5_gradeNow_40 : decode cX5_gradeNow 40 = .ok (.aload_n 0, 1) := by decide +kernel
theorem dX5_gradeNow_41 : decode cX5_gradeNow 41 = .ok (.getfield 9, 3) := by decide +kernel
theorem dX5_gradeNow_44 : decode cX5_gradeNow 44 = .ok (.iload 5, 2) := by decide +kernel
theorem dX5_gradeNow_46 : decode cX5_gradeNow 46 = .ok (.iaload, 1) := by decide +kernel
theorem dX5_gradeNow_47 : decode cX5_gradeNow 47 = .ok (.if_icmp .gt 17, 3) := by decide +kernel
theorem dX5_gradeNow_50 : decode cX5_gradeNow 50 = .ok (.iload_n 2, 1) := by decide +kernel
theorem dX5_gradeNow_51 : decode cX5_gradeNow 51 = .ok (.aload_n 0, 1) := by decide +kernel
theorem dX5_gradeNow_52 : decode cX5_gradeNow 52 = .ok (.getfield 15, 3) := by decide +kernel
theorem dX5_gradeNow_55 : decode cX5_gradeNow 55 = .ok (.iload 5, 2) := by decide +kernel
theorem dX5_gradeNow_57 : decode cX5_gradeNow 57 = .ok (.iaload, 1) := by decide +kernel
theorem dX5_gradeNow_58 : decode cX5_gradeNow 58 = .ok (.if_icmp .gt 6, 3) := by decide +kernel
theorem dX5_gradeNow_61 : decode cX5_gradeNow 61 = .ok (.iload 4, 2) := by decide +kernel
theorem dX5_gradeNow_63 : decode cX5_gradeNow 63 = .ok (.ireturn, 1) := by decide +kernel
theorem dX5_gradeNow_64 : decode cX5_gradeNow 64 = .ok (.iinc 4 1, 3) := by decide +kernel
theorem dX5_gradeNow_67 : decode cX5_gradeNow 67 = .ok (.goto (-57), 3) := by decide +kernel
theorem dX5_gradeNow_70 : decode cX5_gradeNow 70 = .ok (.iconst 4, 1) := by decide +kernel
theorem dX5_gradeNow_71 : decode cX5_gradeNow 71 = .ok (.ireturn, 1) := by decide +kernel
theorem dX6_init_0 : decode cX6_init 0 = .ok (.aload_n 0, 1) := by decide +kernel
theorem dX6_init_1 : decode cX6_init 1 = .ok (.invokespecial 3, 3) := by decide +kernel
theorem dX6_init_4 : decode cX6_init 4 = .ok (.aload_n 0, 1) := by decide +kernel
theorem dX6_init_5 : decode cX6_init 5 = .ok (.new 9, 3) := by decide +kernel
theorem dX6_init_8 : decode cX6_init 8 = .ok (.dup, 1) := by decide +kernel
theorem dX6_init_9 : decode cX6_init 9 = .ok (.invokespecial 11, 3) := by decide +kernel
theorem dX6_init_12 : decode cX6_init 12 = .ok (.putfield 12, 3) := by decide +kernel
theorem dX6_init_15 : decode cX6_init 15 = .ok (.aload_n 0, 1) := by decide +kernel
theorem dX6_init_16 : decode cX6_init 16 = .ok (.new 9, 3) := by decide +kernel
theorem dX6_init_19 : decode cX6_init 19 = .ok (.dup, 1) := by decide +kernel
theorem dX6_init_20 : decode cX6_init 20 = .ok (.invokespecial 11, 3) := by decide +kernel
theorem dX6_init_23 : decode cX6_init 23 = .ok (.putfield 16, 3) := by decide +kernel
theorem dX6_init_26 : decode cX6_init 26 = .ok (.aload_n 0, 1) := by decide +kernel
theorem dX6_init_27 : decode cX6_init 27 = .ok (.new 9, 3) := by decide +kernel
theorem dX6_init_30 : decode cX6_init 30 = .ok (.dup, 1) := by decide +kernel
theorem dX6_init_31 : decode cX6_init 31 = .ok (.invokespecial 11, 3) := by decide +kernel
theorem dX6_init_34 : decode cX6_init 34 = .ok (.putfield 19, 3) := by decide +kernel
theorem dX6_init_37 : decode cX6_init 37 = .ok (.aload_n 0, 1) := by decide +kernel
theorem dX6_init_38 : decode cX6_init 38 = .ok (.new 22, 3) := by decide +kernel
theorem dX6_init_41 : decode cX6_init 41 = .ok (.dup, 1) := by decide +kernel
theorem dX6_init_42 : decode cX6_init 42 = .ok (.invokespecial 24, 3) := by decide +kernel
theorem dX6_init_45 : decode cX6_init 45 = .ok (.putfield 25, 3) := by decide +kernel
theorem dX6_init_48 : decode cX6_init 48 = .ok (.aload_n 0, 1) := by decide +kernel
theorem dX6_init_49 : decode cX6_init 49 = .ok (.iconst 5, 1) := by decide +kernel
theorem dX6_init_50 : decode cX6_init 50 = .ok (.newarray .int, 2) := by decide +kernel
theorem dX6_init_52 : decode cX6_init 52 = .ok (.dup, 1) := by decide +kernel
theorem dX6_init_53 : decode cX6_init 53 = .ok (.iconst 0, 1) := by decide +kernel
theorem dX6_init_54 : decode cX6_init 54 = .ok (.iconst 0, 1) := by decide +kernel
theorem dX6_init_55 : decode cX6_init 55 = .ok (.iastore, 1) := by decide +kernel
theorem dX6_init_56 : decode cX6_init 56 = .ok (.dup, 1) := by decide +kernel
theorem dX6_init_57 : decode cX6_init 57 = .ok (.iconst 1, 1) := by decide +kernel
theorem dX6_init_58 : decode cX6_init 58 = .ok (.sipush 500, 3) := by decide +kernel
theorem dX6_init_61 : decode cX6_init 61 = .ok (.iastore, 1) := by decide +kernel
theorem dX6_init_62 : decode cX6_init 62 = .ok (.dup, 1) := by decide +kernel
theorem dX6_init_63 : decode cX6_init 63 = .ok (.iconst 2, 1) := by decide +kernel
theorem dX6_init_64 : decode cX6_init 64 = .ok (.sipush 480, 3) := by decide +kernel
theorem dX6_init_67 : decode cX6_init 67 = .ok (.iastore, 1) := by decide +kernel
theorem dX6_init_68 : decode cX6_init 68 = .ok (.dup, 1) := by decide +kernel
theorem dX6_init_69 : decode cX6_init 69 = .ok (.iconst 3, 1) := by decide +kernel
theorem dX6_init_70 : decode cX6_init 70 = .ok (.sipush 450, 3) := by decide +kernel
theorem dX6_init_73 : decode cX6_init 73 = .ok (.iastore, 1) := by decide +kernel
theorem dX6_init_74 : decode cX6_init 74 = .ok (.dup, 1) := by decide +kernel
theorem dX6_init_75 : decode cX6_init 75 = .ok (.iconst 4, 1) := by decide +kernel
theorem dX6_init_76 : decode cX6_init 76 = .ok (.sipush 380, 3) := by decide +kernel
theorem dX6_init_79 : decode cX6_init 79 = .ok (.iastore, 1) := by decide +kernel
theorem dX6_init_80 : decode cX6_init 80 = .ok (.putfield 29, 3) := by decide +kernel
theorem dX6_init_83 : decode cX6_init 83 = .ok (.aload_n 0, 1) := by decide +kernel
theorem dX6_init_84 : decode cX6_init 84 = .ok (.new 33, 3) := by decide +kernel
theorem dX6_init_87 : decode cX6_init 87 = .ok (.dup, 1) := by decide +kernel
theorem dX6_init_88 : decode cX6_init 88 = .ok (.invokespecial 35, 3) := by decide +kernel
theorem dX6_init_91 : decode cX6_init 91 = .ok (.putfield 36, 3) := by decide +kernel
theorem dX6_init_94 : decode cX6_init 94 = .ok (.aload_n 0, 1) := by decide +kernel
theorem dX6_init_95 : decode cX6_init 95 = .ok (.new 40, 3) := by decide +kernel
theorem dX6_init_98 : decode cX6_init 98 = .ok (.dup, 1) := by decide +kernel
theorem dX6_init_99 : decode cX6_init 99 = .ok (.invokespecial 42, 3) := by decide +kernel
theorem dX6_init_102 : decode cX6_init 102 = .ok (.putfield 43, 3) := by decide +kernel
theorem dX6_init_105 : decode cX6_init 105 = .ok (.aload_n 0, 1) := by decide +kernel
theorem dX6_init_106 : decode cX6_init 106 = .ok (.lconst 0, 1) := by decide +kernel
theorem dX6_init_107 : decode cX6_init 107 = .ok (.putfield 47, 3) := by decide +kernel
theorem dX6_init_110 : decode cX6_init 110 = .ok (.return_, 1) := by decide +kernel
theorem dX6_addBin_0 : decode cX6_addBin 0 = .ok (.iload_n 1, 1) := by decide +kernel
theorem dX6_addBin_1 : decode cX6_addBin 1 = .ok (.iconst 1, 1) := by decide +kernel
theorem dX6_addBin_2 : decode cX6_addBin 2 = .ok (.sipush 5000, 3) := by decide +kernel
theorem dX6_addBin_5 : decode cX6_addBin 5 = .ok (.invokestatic 51, 3) := by decide +kernel
theorem dX6_addBin_8 : decode cX6_addBin 8 = .ok (.aload_n 0, 1) := by decide +kernel
theorem dX6_addBin_9 : decode cX6_addBin 9 = .ok (.getfield 12, 3) := by decide +kernel
theorem dX6_addBin_12 : decode cX6_addBin 12 = .ok (.invokevirtual 55, 3) := by decide +kernel
theorem dX6_addBin_15 : decode cX6_addBin 15 = .ok (.bipush 6, 2) := by decide +kernel
theorem dX6_addBin_17 : decode cX6_addBin 17 = .ok (.if_icmp .lt 13, 3) := by decide +kernel
theorem dX6_addBin_20 : decode cX6_addBin 20 = .ok (.new 59, 3) := by decide +kernel
theorem dX6_addBin_23 : decode cX6_addBin 23 = .ok (.dup, 1) := by decide +kernel
theorem dX6_addBin_24 : decode cX6_addBin 24 = .ok (.ldc 61, 2) := by decide +kernel
theorem dX6_addBin_26 : decode cX6_addBin 26 = .ok (.invokespecial 63, 3) := by decide +kernel
theorem dX6_addBin_29 : decode cX6_addBin 29 = .ok (.athrow, 1) := by decide +kernel
theorem dX6_addBin_30 : decode cX6_addBin 30 = .ok (.aload_n 0, 1) := by decide +kernel
theorem dX6_addBin_31 : decode cX6_addBin 31 = .ok (.getfield 12, 3) := by decide +kernel
theorem dX6_addBin_34 : decode cX6_addBin 34 = .ok (.new 66, 3) := by decide +kernel
theorem dX6_addBin_37 : decode cX6_addBin 37 = .ok (.dup, 1) := by decide +kernel
theorem dX6_addBin_38 : decode cX6_addBin 38 = .ok (.iload_n 1, 1) := by decide +kernel
theorem dX6_addBin_39 : decode cX6_addBin 39 = .ok (.iload_n 2, 1) := by decide +kernel
theorem dX6_addBin_40 : decode cX6_addBin 40 = .ok (.invokespecial 68, 3) := by decide +kernel
theorem dX6_addBin_43 : decode cX6_addBin 43 = .ok (.invokevirtual 71, 3) := by decide +kernel
theorem dX6_addBin_46 : decode cX6_addBin 46 = .ok (.pop, 1) := by decide +kernel
theorem dX6_addBin_47 : decode cX6_addBin 47 = .ok (.aload_n 0, 1) := by decide +kernel
theorem dX6_addBin_48 : decode cX6_addBin 48 = .ok (.getfield 16, 3) := by decide +kernel
theorem dX6_addBin_51 : decode cX6_addBin 51 = .ok (.new 66, 3) := by decide +kernel
theorem dX6_addBin_54 : decode cX6_addBin 54 = .ok (.dup, 1) := by decide +kernel
theorem dX6_addBin_55 : decode cX6_addBin 55 = .ok (.iload_n 1, 1) := by decide +kernel
theorem dX6_addBin_56 : decode cX6_addBin 56 = .ok (.iload_n 2, 1) := by decide +kernel
theorem dX6_addBin_57 : decode cX6_addBin 57 = .ok (.invokespecial 68, 3) := by decide +kernel
theorem dX6_addBin_60 : decode cX6_addBin 60 = .ok (.invokevirtual 71, 3) := by decide +kernel
theorem dX6_addBin_63 : decode cX6_addBin 63 = .ok (.pop, 1) := by decide +kernel
theorem dX6_addBin_64 : decode cX6_addBin 64 = .ok (.aload_n 0, 1) := by decide +kernel
theorem dX6_addBin_65 : decode cX6_addBin 65 = .ok (.getfield 12, 3) := by decide +kernel
theorem dX6_addBin_68 : decode cX6_addBin 68 = .ok (.invokevirtual 55, 3) := by decide +kernel
theorem dX6_addBin_71 : decode cX6_addBin 71 = .ok (.iconst 1, 1) := by decide +kernel
theorem dX6_addBin_72 : decode cX6_addBin 72 = .ok (.isub, 1) := by decide +kernel
theorem dX6_addBin_73 : decode cX6_addBin 73 = .ok (.ireturn, 1) := by decide +kernel
theorem dX6_binCount_0 : decode cX6_binCount 0 = .ok (.aload_n 0, 1) := by decide +kernel
theorem dX6_binCount_1 : decode cX6_binCount 1 = .ok (.getfield 12, 3) := by decide +kernel
theorem dX6_binCount_4 : decode cX6_binCount 4 = .ok (.invokevirtual 55, 3) := by decide +kernel
theorem dX6_binCount_7 : decode cX6_binCount 7 = .ok (.ireturn, 1) := by decide +kernel
theorem dX6_capacityOf_0 : decode cX6_capacityOf 0 = .ok (.aload_n 0, 1) := by decide +kernel
theorem dX6_capacityOf_1 : decode cX6_capacityOf 1 = .ok (.getfield 12, 3) := by decide +kernel
theorem dX6_capacityOf_4 : decode cX6_capacityOf 4 = .ok (.iload_n 1, 1) := by decide +kernel
theorem dX6_capacityOf_5 : decode cX6_capacityOf 5 = .ok (.invokestatic 75, 3) := by decide +kernel
theorem dX6_capacityOf_8 : decode cX6_capacityOf 8 = .ok (.getfield 79, 3) := by decide +kernel
theorem dX6_capacityOf_11 : decode cX6_capacityOf 11 = .ok (.ireturn, 1) := by decide +kernel
theorem dX6_setRule_0 : decode cX6_setRule 0 = .ok (.iload_n 1, 1) := by decide +kernel
theorem dX6_setRule_1 : decode cX6_setRule 1 = .ok (.iconst 0, 1) := by decide +kernel
theorem dX6_setRule_2 : decode cX6_setRule 2 = .ok (.iconst 3, 1) := by decide +kernel
theorem dX6_setRule_3 : decode cX6_setRule 3 = .ok (.invokestatic 51, 3) := by decide +kernel
theorem dX6_setRule_6 : decode cX6_setRule 6 = .ok (.iload_n 2, 1) := by decide +kernel
theorem dX6_setRule_7 : decode cX6_setRule 7 = .ok (.iconst 1, 1) := by decide +kernel
theorem dX6_setRule_8 : decode cX6_setRule 8 = .ok (.iconst 3, 1) := by decide +kernel
theorem dX6_setRule_9 : decode cX6_setRule 9 = .ok (.invokestatic 51, 3) := by decide +kernel
theorem dX6_setRule_12 : decode cX6_setRule 12 = .ok (.iload_n 3, 1) := by decide +kernel
theorem dX6_setRule_13 : decode cX6_setRule 13 = .ok (.iload 4, 2) := by decide +kernel
theorem dX6_setRule_15 : decode cX6_setRule 15 = .ok (.invokestatic 83, 3) := by decide +kernel
theorem dX6_setRule_18 : decode cX6_setRule 18 = .ok (.aload_n 0, 1) := by decide +kernel
theorem dX6_setRule_19 : decode cX6_setRule 19 = .ok (.getfield 25, 3) := by decide +kernel
theorem dX6_setRule_22 : decode cX6_setRule 22 = .ok (.iload_n 1, 1) := by decide +kernel
theorem dX6_setRule_23 : decode cX6_setRule 23 = .ok (.iload_n 2, 1) := by decide +kernel
theorem dX6_setRule_24 : decode cX6_setRule 24 = .ok (.iload_n 3, 1) := by decide +kernel
theorem dX6_setRule_25 : decode cX6_setRule 25 = .ok (.iload 4, 2) := by decide +kernel
theorem dX6_setRule_27 : decode cX6_setRule 27 = .ok (.invokevirtual 87, 3) := by decide +kernel
theorem dX6_setRule_30 : decode cX6_setRule 30 = .ok (.ireturn, 1) := by decide +kernel
theorem dX6_setSeason_0 : decode cX6_setSeason 0 = .ok (.iload_n 1, 1) := by decide +kernel
theorem dX6_setSeason_1 : decode cX6_setSeason 1 = .ok (.iconst 0, 1) := by decide +kernel
theorem dX6_setSeason_2 : decode cX6_setSeason 2 = .ok (.iconst 3, 1) := by decide +kernel
theorem dX6_setSeason_3 : decode cX6_setSeason 3 = .ok (.invokestatic 51, 3) := by decide +kernel
theorem dX6_setSeason_6 : decode cX6_setSeason 6 = .ok (.aload_n 0, 1) := by decide +kernel
theorem dX6_setSeason_7 : decode cX6_setSeason 7 = .ok (.getfield 25, 3) := by decide +kernel
theorem dX6_setSeason_10 : decode cX6_setSeason 10 = .ok (.getfield 91, 3) := by decide +kernel
theorem dX6_setSeason_13 : decode cX6_setSeason 13 = .ok (.istore_n 2, 1) := by decide +kernel
theorem dX6_setSeason_14 : decode cX6_setSeason 14 = .ok (.aload_n 0, 1) := by decide +kernel
theorem dX6_setSeason_15 : decode cX6_setSeason 15 = .ok (.getfield 25, 3) := by decide +kernel
theorem dX6_setSeason_18 : decode cX6_setSeason 18 = .ok (.iload_n 1, 1) := by decide +kernel
theorem dX6_setSeason_19 : decode cX6_setSeason 19 = .ok (.putfield 91, 3) := by decide +kernel
theorem dX6_setSeason_22 : decode cX6_setSeason 22 = .ok (.iload_n 2, 1) := by decide +kernel
theorem dX6_setSeason_23 : decode cX6_setSeason 23 = .ok (.ireturn, 1) := by decide +kernel
theorem dX6_gradeFor_0 : decode cX6_gradeFor 0 = .ok (.iload_n 1, 1) := by decide +kernel
theorem dX6_gradeFor_1 : decode cX6_gradeFor 1 = .ok (.iload_n 2, 1) := by decide +kernel
theorem dX6_gradeFor_2 : decode cX6_gradeFor 2 = .ok (.invokestatic 83, 3) := by decide +kernel
theorem dX6_gradeFor_5 : decode cX6_gradeFor 5 = .ok (.aload_n 0, 1) := by decide +kernel
theorem dX6_gradeFor_6 : decode cX6_gradeFor 6 = .ok (.getfield 25, 3) := by decide +kernel
theorem dX6_gradeFor_9 : decode cX6_gradeFor 9 = .ok (.iload_n 1, 1) := by decide +kernel
theorem dX6_gradeFor_10 : decode cX6_gradeFor 10 = .ok (.iload_n 2, 1) := by decide +kernel
theorem dX6_gradeFor_11 : decode cX6_gradeFor 11 = .ok (.invokevirtual 94, 3) := by decide +kernel
theorem dX6_gradeFor_14 : decode cX6_gradeFor 14 = .ok (.ireturn, 1) := by decide +kernel
theorem dX6_setPrice_0 : decode cX6_setPrice 0 = .ok (.iload_n 1, 1) := by decide +kernel
theorem dX6_setPrice_1 : decode cX6_setPrice 1 = .ok (.iconst 1, 1) := by decide +kernel
theorem dX6_setPrice_2 : decode cX6_setPrice 2 = .ok (.iconst 4, 1) := by decide +kernel
theorem dX6_setPrice_3 : decode cX6_setPrice 3 = .ok (.invokestatic 51, 3) := by decide +kernel
theorem dX6_setPrice_6 : decode cX6_setPrice 6 = .ok (.iload_n 2, 1) := by decide +kernel
theorem dX6_setPrice_7 : decode cX6_setPrice 7 = .ok (.iconst 0, 1) := by decide +kernel
theorem dX6_setPrice_8 : decode cX6_setPrice 8 = .ok (.sipush 2000, 3) := by decide +kernel
theorem dX6_setPrice_11 : decode cX6_setPrice 11 = .ok (.invokestatic 51, 3) := by decide +kernel
theorem dX6_setPrice_14 : decode cX6_setPrice 14 = .ok (.aload_n 0, 1) := by decide +kernel
theorem dX6_setPrice_15 : decode cX6_setPrice 15 = .ok (.getfield 29, 3) := by decide +kernel
theorem dX6_setPrice_18 : decode cX6_setPrice 18 = .ok (.iload_n 1, 1) := by decide +kernel
theorem dX6_setPrice_19 : decode cX6_setPrice 19 = .ok (.iaload, 1) := by decide +kernel
theorem dX6_setPrice_20 : decode cX6_setPrice 20 = .ok (.istore_n 3, 1) := by decide +kernel
theorem dX6_setPrice_21 : decode cX6_setPrice 21 = .ok (.aload_n 0, 1) := by decide +kernel
theorem dX6_setPrice_22 : decode cX6_setPrice 22 = .ok (.getfield 29, 3) := by decide +kernel
theorem dX6_setPrice_25 : decode cX6_setPrice 25 = .ok (.iload_n 1, 1) := by decide +kernel
theorem dX6_setPrice_26 : decode cX6_setPrice 26 = .ok (.iload_n 2, 1) := by decide +kernel
theorem dX6_setPrice_27 : decode cX6_setPrice 27 = .ok (.iastore, 1) := by decide +kernel
theorem dX6_setPrice_28 : decode cX6_setPrice 28 = .ok (.iload_n 3, 1) := by decide +kernel
theorem dX6_setPrice_29 : decode cX6_setPrice 29 = .ok (.ireturn, 1) := by decide +kernel
theorem dX6_load_0 : decode cX6_load 0 = .ok (.aload_n 0, 1) := by decide +kernel
theorem dX6_load_1 : decode cX6_load 1 = .ok (.getfield 12, 3) := by decide +kernel
theorem dX6_load_4 : decode cX6_load 4 = .ok (.iload_n 1, 1) := by decide +kernel
theorem dX6_load_5 : decode cX6_load 5 = .ok (.invokestatic 75, 3) := by decide +kernel
theorem dX6_load_8 : decode cX6_load 8 = .ok (.astore 5, 2) := by decide +kernel
theorem dX6_load_10 : decode cX6_load 10 = .ok (.iload_n 2, 1) := by decide +kernel
theorem dX6_load_11 : decode cX6_load 11 = .ok (.iconst 1, 1) := by decide +kernel
theorem dX6_load_12 : decode cX6_load 12 = .ok (.sipush 2000, 3) := by decide +kernel
theorem dX6_load_15 : decode cX6_load 15 = .ok (.invokestatic 51, 3) := by decide +kernel
theorem dX6_load_18 : decode cX6_load 18 = .ok (.iload_n 3, 1) := by decide +kernel
theorem dX6_load_19 : decode cX6_load 19 = .ok (.iload 4, 2) := by decide +kernel
theorem dX6_load_21 : decode cX6_load 21 = .ok (.invokestatic 83, 3) := by decide +kernel
theorem dX6_load_24 : decode cX6_load 24 = .ok (.aload 5, 2) := by decide +kernel
theorem dX6_load_26 : decode cX6_load 26 = .ok (.iload_n 2, 1) := by decide +kernel
theorem dX6_load_27 : decode cX6_load 27 = .ok (.invokestatic 98, 3) := by decide +kernel
theorem dX6_load_30 : decode cX6_load 30 = .ok (.aload_n 0, 1) := by decide +kernel
theorem dX6_load_31 : decode cX6_load 31 = .ok (.invokevirtual 102, 3) := by decide +kernel
theorem dX6_load_34 : decode cX6_load 34 = .ok (.aload_n 0, 1) := by decide +kernel
theorem dX6_load_35 : decode cX6_load 35 = .ok (.getfield 25, 3) := by decide +kernel
theorem dX6_load_38 : decode cX6_load 38 = .ok (.iload_n 3, 1) := by decide +kernel
theorem dX6_load_39 : decode cX6_load 39 = .ok (.iload 4, 2) := by decide +kernel
theorem dX6_load_41 : decode cX6_load 41 = .ok (.invokevirtual 94, 3) := by decide +kernel
theorem dX6_load_44 : decode cX6_load 44 = .ok (.istore 6, 2) := by decide +kernel
theorem dX6_load_46 : decode cX6_load 46 = .ok (.aload_n 0, 1) := by decide +kernel
theorem dX6_load_47 : decode cX6_load 47 = .ok (.iload_n 1, 1) := by decide +kernel
theorem dX6_load_48 : decode cX6_load 48 = .ok (.iload_n 2, 1) := by decide +kernel
theorem dX6_load_49 : decode cX6_load 49 = .ok (.iload_n 3, 1) := by decide +kernel
theorem dX6_load_50 : decode cX6_load 50 = .ok (.iload 4, 2) := by decide +kernel
theorem dX6_load_52 : decode cX6_load 52 = .ok (.invokestatic 105, 3) := by decide +kernel
theorem dX6_load_55 : decode cX6_load 55 = .ok (.iload_n 2, 1) := by decide +kernel
theorem dX6_load_56 : decode cX6_load 56 = .ok (.ineg, 1) := by decide +kernel
theorem dX6_load_57 : decode cX6_load 57 = .ok (.aload_n 0, 1) := by decide +kernel
theorem dX6_load_58 : decode cX6_load 58 = .ok (.getfield 29, 3) := by decide +kernel
theorem dX6_load_61 : decode cX6_load 61 = .ok (.iload 6, 2) := by decide +kernel
theorem dX6_load_63 : decode cX6_load 63 = .ok (.iaload, 1) := by decide +kernel
theorem dX6_load_64 : decode cX6_load 64 = .ok (.imul, 1) := by decide +kernel
theorem dX6_load_65 : decode cX6_load 65 = .ok (.invokevirtual 111, 3) := by decide +kernel
theorem dX6_load_68 : decode cX6_load 68 = .ok (.iload 6, 2) := by decide +kernel
theorem dX6_load_70 : decode cX6_load 70 = .ok (.ireturn, 1) := by decide +kernel
theorem dX6_sell_0 : decode cX6_sell 0 = .ok (.aload_n 0, 1) := by decide +kernel
theorem dX6_sell_1 : decode cX6_sell 1 = .ok (.getfield 12, 3) := by decide +kernel
theorem dX6_sell_4 : decode cX6_sell 4 = .ok (.iload_n 1, 1) := by decide +kernel
theorem dX6_sell_5 : decode cX6_sell 5 = .ok (.invokestatic 75, 3) := by decide +kernel
theorem dX6_sell_8 : decode cX6_sell 8 = .ok (.astore_n 3, 1) := by decide +kernel
theorem dX6_sell_9 : decode cX6_sell 9 = .ok (.iload_n 2, 1) := by decide +kernel
theorem dX6_sell_10 : decode cX6_sell 10 = .ok (.iconst 1, 1) := by decide +kernel
theorem dX6_sell_11 : decode cX6_sell 11 = .ok (.sipush 5000, 3) := by decide +kernel
theorem dX6_sell_14 : decode cX6_sell 14 = .ok (.invokestatic 51, 3) := by decide +kernel
theorem dX6_sell_17 : decode cX6_sell 17 = .ok (.aload_n 3, 1) := by decide +kernel
theorem dX6_sell_18 : decode cX6_sell 18 = .ok (.iload_n 2, 1) := by decide +kernel
theorem dX6_sell_19 : decode cX6_sell 19 = .ok (.invokestatic 115, 3) := by decide +kernel
theorem dX6_sell_22 : decode cX6_sell 22 = .ok (.aload_n 0, 1) := by decide +kernel
theorem dX6_sell_23 : decode cX6_sell 23 = .ok (.invokevirtual 102, 3) := by decide +kernel
theorem dX6_sell_26 : decode cX6_sell 26 = .ok (.new 118, 3) := by decide +kernel
theorem dX6_sell_29 : decode cX6_sell 29 = .ok (.dup, 1) := by decide +kernel
theorem dX6_sell_30 : decode cX6_sell 30 = .ok (.aload_n 3, 1) := by decide +kernel
theorem dX6_sell_31 : decode cX6_sell 31 = .ok (.aload_n 0, 1) := by decide +kernel
theorem dX6_sell_32 : decode cX6_sell 32 = .ok (.getfield 29, 3) := by decide +kernel
theorem dX6_sell_35 : decode cX6_sell 35 = .ok (.invokespecial 120, 3) := by decide +kernel
theorem dX6_sell_38 : decode cX6_sell 38 = .ok (.astore 4, 2) := by decide +kernel
theorem dX6_sell_40 : decode cX6_sell 40 = .ok (.aload 4, 2) := by decide +kernel
theorem dX6_sell_42 : decode cX6_sell 42 = .ok (.iload_n 2, 1) := by decide +kernel
theorem dX6_sell_43 : decode cX6_sell 43 = .ok (.invokevirtual 123, 3) := by decide +kernel
theorem dX6_sell_46 : decode cX6_sell 46 = .ok (.aload 4, 2) := by decide +kernel
theorem dX6_sell_48 : decode cX6_sell 48 = .ok (.getfield 127, 3) := by decide +kernel
theorem dX6_sell_51 : decode cX6_sell 51 = .ok (.istore 5, 2) := by decide +kernel
theorem dX6_sell_53 : decode cX6_sell 53 = .ok (.aload_n 0, 1) := by decide +kernel
theorem dX6_sell_54 : decode cX6_sell 54 = .ok (.iload_n 1, 1) := by decide +kernel
theorem dX6_sell_55 : decode cX6_sell 55 = .ok (.iload_n 2, 1) := by decide +kernel
theorem dX6_sell_56 : decode cX6_sell 56 = .ok (.invokestatic 130, 3) := by decide +kernel
theorem dX6_sell_59 : decode cX6_sell 59 = .ok (.iload 5, 2) := by decide +kernel
theorem dX6_sell_61 : decode cX6_sell 61 = .ok (.invokevirtual 111, 3) := by decide +kernel
theorem dX6_sell_64 : decode cX6_sell 64 = .ok (.iload 5, 2) := by decide +kernel
theorem dX6_sell_66 : decode cX6_sell 66 = .ok (.ireturn, 1) := by decide +kernel
theorem dX6_transfer_0 : decode cX6_transfer 0 = .ok (.aload_n 0, 1) := by decide +kernel
theorem dX6_transfer_1 : decode cX6_transfer 1 = .ok (.getfield 12, 3) := by decide +kernel
theorem dX6_transfer_4 : decode cX6_transfer 4 = .ok (.iload_n 1, 1) := by decide +kernel
theorem dX6_transfer_5 : decode cX6_transfer 5 = .ok (.invokestatic 75, 3) := by decide +kernel
theorem dX6_transfer_8 : decode cX6_transfer 8 = .ok (.astore 4, 2) := by decide +kernel
theorem dX6_transfer_10 : decode cX6_transfer 10 = .ok (.aload_n 0, 1) := by decide +kernel
theorem dX6_transfer_11 : decode cX6_transfer 11 = .ok (.getfield 12, 3) := by decide +kernel
theorem dX6_transfer_14 : decode cX6_transfer 14 = .ok (.iload_n 2, 1) := by decide +kernel
theorem dX6_transfer_15 : decode cX6_transfer 15 = .ok (.invokestatic 75, 3) := by decide +kernel
theorem dX6_transfer_18 : decode cX6_transfer 18 = .ok (.astore 5, 2) := by decide +kernel
theorem dX6_transfer_20 : decode cX6_transfer 20 = .ok (.iload_n 1, 1) := by decide +kernel
theorem dX6_transfer_21 : decode cX6_transfer 21 = .ok (.iload_n 2, 1) := by decide +kernel
theorem dX6_transfer_22 : decode cX6_transfer 22 = .ok (.invokestatic 134, 3) := by decide +kernel
theorem dX6_transfer_25 : decode cX6_transfer 25 = .ok (.iload_n 3, 1) := by decide +kernel
theorem dX6_transfer_26 : decode cX6_transfer 26 = .ok (.iconst 1, 1) := by decide +kernel
theorem dX6_transfer_27 : decode cX6_transfer 27 = .ok (.sipush 5000, 3) := by decide +kernel
theorem dX6_transfer_30 : decode cX6_transfer 30 = .ok (.invokestatic 51, 3) := by decide +kernel
theorem dX6_transfer_33 : decode cX6_transfer 33 = .ok (.aload 4, 2) := by decide +kernel
theorem dX6_transfer_35 : decode cX6_transfer 35 = .ok (.iload_n 3, 1) := by decide +kernel
theorem dX6_transfer_36 : decode cX6_transfer 36 = .ok (.invokestatic 115, 3) := by decide +kernel
theorem dX6_transfer_39 : decode cX6_transfer 39 = .ok (.aload 5, 2) := by decide +kernel
theorem dX6_transfer_41 : decode cX6_transfer 41 = .ok (.iload_n 3, 1) := by decide +kernel
theorem dX6_transfer_42 : decode cX6_transfer 42 = .ok (.invokestatic 98, 3) := by decide +kernel
theorem dX6_transfer_45 : decode cX6_transfer 45 = .ok (.aload_n 0, 1) := by decide +kernel
theorem dX6_transfer_46 : decode cX6_transfer 46 = .ok (.invokevirtual 102, 3) := by decide +kernel
theorem dX6_transfer_49 : decode cX6_transfer 49 = .ok (.aload 5, 2) := by decide +kernel
theorem dX6_transfer_51 : decode cX6_transfer 51 = .ok (.getfield 137, 3) := by decide +kernel
theorem dX6_transfer_54 : decode cX6_transfer 54 = .ok (.istore 6, 2) := by decide +kernel
theorem dX6_transfer_56 : decode cX6_transfer 56 = .ok (.aload_n 0, 1) := by decide +kernel
theorem dX6_transfer_57 : decode cX6_transfer 57 = .ok (.iload_n 1, 1) := by decide +kernel
theorem dX6_transfer_58 : decode cX6_transfer 58 = .ok (.iload_n 2, 1) := by decide +kernel
theorem dX6_transfer_59 : decode cX6_transfer 59 = .ok (.iload_n 3, 1) := by decide +kernel
theorem dX6_transfer_60 : decode cX6_transfer 60 = .ok (.invokestatic 140, 3) := by decide +kernel
theorem dX6_transfer_63 : decode cX6_transfer 63 = .ok (.iconst 0, 1) := by decide +kernel
theorem dX6_transfer_64 : decode cX6_transfer 64 = .ok (.invokevirtual 111, 3) := by decide +kernel
theorem dX6_transfer_67 : decode cX6_transfer 67 = .ok (.aload 5, 2) := by decide +kernel
theorem dX6_transfer_69 : decode cX6_transfer 69 = .ok (.getfield 137, 3) := by decide +kernel
theorem dX6_transfer_72 : decode cX6_transfer 72 = .ok (.iload 6, 2) := by decide +kernel
theorem dX6_transfer_74 : decode cX6_transfer 74 = .ok (.isub, 1) := by decide +kernel
theorem dX6_transfer_75 : decode cX6_transfer 75 = .ok (.ireturn, 1) := by decide +kernel
theorem dX6_dry_0 : decode cX6_dry 0 = .ok (.aload_n 0, 1) := by decide +kernel
theorem dX6_dry_1 : decode cX6_dry 1 = .ok (.getfield 12, 3) := by decide +kernel
theorem dX6_dry_4 : decode cX6_dry 4 = .ok (.iload_n 1, 1) := by decide +kernel
theorem dX6_dry_5 : decode cX6_dry 5 = .ok (.invokestatic 75, 3) := by decide +kernel
theorem dX6_dry_8 : decode cX6_dry 8 = .ok (.astore_n 3, 1) := by decide +kernel
theorem dX6_dry_9 : decode cX6_dry 9 = .ok (.iload_n 2, 1) := by decide +kernel
theorem dX6_dry_10 : decode cX6_dry 10 = .ok (.invokestatic 144, 3) := by decide +kernel
theorem dX6_dry_13 : decode cX6_dry 13 = .ok (.aload_n 3, 1) := by decide +kernel
theorem dX6_dry_14 : decode cX6_dry 14 = .ok (.iload_n 2, 1) := by decide +kernel
theorem dX6_dry_15 : decode cX6_dry 15 = .ok (.invokevirtual 147, 3) := by decide +kernel
theorem dX6_dry_18 : decode cX6_dry 18 = .ok (.ifCond .ne 13, 3) := by decide +kernel
theorem dX6_dry_21 : decode cX6_dry 21 = .ok (.new 59, 3) := by decide +kernel
theorem dX6_dry_24 : decode cX6_dry 24 = .ok (.dup, 1) := by decide +kernel
theorem dX6_dry_25 : decode cX6_dry 25 = .ok (.ldc 151, 2) := by decide +kernel
theorem dX6_dry_27 : decode cX6_dry 27 = .ok (.invokespecial 63, 3) := by decide +kernel
theorem dX6_dry_30 : decode cX6_dry 30 = .ok (.athrow, 1) := by decide +kernel
theorem dX6_dry_31 : decode cX6_dry 31 = .ok (.aload_n 0, 1) := by decide +kernel
theorem dX6_dry_32 : decode cX6_dry 32 = .ok (.invokevirtual 102, 3) := by decide +kernel
theorem dX6_dry_35 : decode cX6_dry 35 = .ok (.aload_n 3, 1) := by decide +kernel
theorem dX6_dry_36 : decode cX6_dry 36 = .ok (.getfield 153, 3) := by decide +kernel
theorem dX6_dry_39 : decode cX6_dry 39 = .ok (.istore 4, 2) := by decide +kernel
theorem dX6_dry_41 : decode cX6_dry 41 = .ok (.aload_n 0, 1) := by decide +kernel
theorem dX6_dry_42 : decode cX6_dry 42 = .ok (.iload_n 1, 1) := by decide +kernel
theorem dX6_dry_43 : decode cX6_dry 43 = .ok (.iload_n 2, 1) := by decide +kernel
theorem dX6_dry_44 : decode cX6_dry 44 = .ok (.invokestatic 156, 3) := by decide +kernel
theorem dX6_dry_47 : decode cX6_dry 47 = .ok (.aload_n 3, 1) := by decide +kernel
theorem dX6_dry_48 : decode cX6_dry 48 = .ok (.iload_n 2, 1) := by decide +kernel
theorem dX6_dry_49 : decode cX6_dry 49 = .ok (.invokevirtual 159, 3) := by decide +kernel
theorem dX6_dry_52 : decode cX6_dry 52 = .ok (.ineg, 1) := by decide +kernel
theorem dX6_dry_53 : decode cX6_dry 53 = .ok (.invokevirtual 111, 3) := by decide +kernel
theorem dX6_dry_56 : decode cX6_dry 56 = .ok (.iload 4, 2) := by decide +kernel
theorem dX6_dry_58 : decode cX6_dry 58 = .ok (.aload_n 3, 1) := by decide +kernel
theorem dX6_dry_59 : decode cX6_dry 59 = .ok (.getfield 153, 3) := by decide +kernel
theorem dX6_dry_62 : decode cX6_dry 62 = .ok (.isub, 1) := by decide +kernel
theorem dX6_dry_63 : decode cX6_dry 63 = .ok (.ireturn, 1) := by decide +kernel
theorem dX6_dryingCost_0 : decode cX6_dryingCost 0 = .ok (.aload_n 0, 1) := by decide +kernel
theorem dX6_dryingCost_1 : decode cX6_dryingCost 1 = .ok (.getfield 12, 3) := by decide +kernel
theorem dX6_dryingCost_4 : decode cX6_dryingCost 4 = .ok (.iload_n 1, 1) := by decide +kernel
theorem dX6_dryingCost_5 : decode cX6_dryingCost 5 = .ok (.invokestatic 75, 3) := by decide +kernel
theorem dX6_dryingCost_8 : decode cX6_dryingCost 8 = .ok (.astore_n 3, 1) := by decide +kernel
theorem dX6_dryingCost_9 : decode cX6_dryingCost 9 = .ok (.iload_n 2, 1) := by decide +kernel
theorem dX6_dryingCost_10 : decode cX6_dryingCost 10 = .ok (.invokestatic 144, 3) := by decide +kernel
theorem dX6_dryingCost_13 : decode cX6_dryingCost 13 = .ok (.aload_n 3, 1) := by decide +kernel
theorem dX6_dryingCost_14 : decode cX6_dryingCost 14 = .ok (.iload_n 2, 1) := by decide +kernel
theorem dX6_dryingCost_15 : decode cX6_dryingCost 15 = .ok (.invokevirtual 159, 3) := by decide +kernel
theorem dX6_dryingCost_18 : decode cX6_dryingCost 18 = .ok (.ireturn, 1) := by decide +kernel
theorem dX6_bushelsIn_0 : decode cX6_bushelsIn 0 = .ok (.aload_n 0, 1) := by decide +kernel
theorem dX6_bushelsIn_1 : decode cX6_bushelsIn 1 = .ok (.getfield 12, 3) := by decide +kernel
theorem dX6_bushelsIn_4 : decode cX6_bushelsIn 4 = .ok (.iload_n 1, 1) := by decide +kernel
theorem dX6_bushelsIn_5 : decode cX6_bushelsIn 5 = .ok (.invokestatic 75, 3) := by decide +kernel
theorem dX6_bushelsIn_8 : decode cX6_bushelsIn 8 = .ok (.getfield 153, 3) := by decide +kernel
theorem dX6_bushelsIn_11 : decode cX6_bushelsIn 11 = .ok (.ireturn, 1) := by decide +kernel
theorem dX6_layersIn_0 : decode cX6_layersIn 0 = .ok (.aload_n 0, 1) := by decide +kernel
theorem dX6_layersIn_1 : decode cX6_layersIn 1 = .ok (.getfield 12, 3) := by decide +kernel
theorem dX6_layersIn_4 : decode cX6_layersIn 4 = .ok (.iload_n 1, 1) := by decide +kernel
theorem dX6_layersIn_5 : decode cX6_layersIn 5 = .ok (.invokestatic 75, 3) := by decide +kernel
theorem dX6_layersIn_8 : decode cX6_layersIn 8 = .ok (.getfield 137, 3) := by decide +kernel
theorem dX6_layersIn_11 : decode cX6_layersIn 11 = .ok (.ireturn, 1) := by decide +kernel
theorem dX6_layerBushels_0 : decode cX6_layerBushels 0 = .ok (.aload_n 0, 1) := by decide +kernel
theorem dX6_layerBushels_1 : decode cX6_layerBushels 1 = .ok (.getfield 12, 3) := by decide +kernel
theorem dX6_layerBushels_4 : decode cX6_layerBushels 4 = .ok (.iload_n 1, 1) := by decide +kernel
theorem dX6_layerBushels_5 : decode cX6_layerBushels 5 = .ok (.iload_n 2, 1) := by decide +kernel
theorem dX6_layerBushels_6 : decode cX6_layerBushels 6 = .ok (.invokestatic 162, 3) := by decide +kernel
theorem dX6_layerBushels_9 : decode cX6_layerBushels 9 = .ok (.iload_n 2, 1) := by decide +kernel
theorem dX6_layerBushels_10 : decode cX6_layerBushels 10 = .ok (.invokevirtual 166, 3) := by decide +kernel
theorem dX6_layerBushels_13 : decode cX6_layerBushels 13 = .ok (.ireturn, 1) := by decide +kernel
theorem dX6_layerAnew_0 : decode cX6_layerAnew 0 = .ok (.aload_n 0, 1) := by decide +kernel
theorem dX6_layerAnew_1 : decode cX6_layerAnew 1 = .ok (.invokevirtual 169, 3) := by decide +kernel
theorem dX6_layerAnew_4 : decode cX6_layerAnew 4 = .ok (.aload_n 0, 1) := by decide +kernel
theorem dX6_layerAnew_5 : decode cX6_layerAnew 5 = .ok (.getfield 16, 3) := by decide +kernel
theorem dX6_layerAnew_8 : decode cX6_layerAnew 8 = .ok (.iload_n 1, 1) := by decide +kernel
theorem dX6_layerAnew_9 : decode cX6_layerAnew 9 = .ok (.iload_n 2, 1) := by decide +kernel
theorem dX6_layerAnew_10 : decode cX6_layerAnew 10 = .ok (.invokestatic 162, 3) := by decide +kernel
theorem dX6_layerAnew_13 : decode cX6_layerAnew 13 = .ok (.iload_n 2, 1) := by decide +kernel
theorem dX6_layerAnew_14 : decode cX6_layerAnew 14 = .ok (.invokevirtual 166, 3) := by decide +kernel
theorem dX6_layerAnew_17 : decode cX6_layerAnew 17 = .ok (.ireturn, 1) := by decide +kernel
theorem dX6_layerMoisture_0 : decode cX6_layerMoisture 0 = .ok (.aload_n 0, 1) := by decide +kernel
theorem dX6_layerMoisture_1 : decode cX6_layerMoisture 1 = .ok (.getfield 12, 3) := by decide +kernel
theorem dX6_layerMoisture_4 : decode cX6_layerMoisture 4 = .ok (.iload_n 1, 1) := by decide +kernel
theorem dX6_layerMoisture_5 : decode cX6_layerMoisture 5 = .ok (.iload_n 2, 1) := by decide +kernel
theorem dX6_layerMoisture_6 : decode cX6_layerMoisture 6 = .ok (.invokestatic 162, 3) := by decide +kernel
theorem dX6_layerMoisture_9 : decode cX6_layerMoisture 9 = .ok (.iload_n 2, 1) := by decide +kernel
theorem dX6_layerMoisture_10 : decode cX6_layerMoisture 10 = .ok (.invokevirtual 172, 3) := by decide +kernel
theorem dX6_layerMoisture_13 : decode cX6_layerMoisture 13 = .ok (.ireturn, 1) := by decide +kernel
theorem dX6_layerForeign_0 : decode cX6_layerForeign 0 = .ok (.aload_n 0, 1) := by decide +kernel
theorem dX6_layerForeign_1 : decode cX6_layerForeign 1 = .ok (.getfield 12, 3) := by decide +kernel
theorem dX6_layerForeign_4 : decode cX6_layerForeign 4 = .ok (.iload_n 1, 1) := by decide +kernel
theorem dX6_layerForeign_5 : decode cX6_layerForeign 5 = .ok (.iload_n 2, 1) := by decide +kernel
theorem dX6_layerForeign_6 : decode cX6_layerForeign 6 = .ok (.invokestatic 162, 3) := by decide +kernel
theorem dX6_layerForeign_9 : decode cX6_layerForeign 9 = .ok (.iload_n 2, 1) := by decide +kernel
theorem dX6_layerForeign_10 : decode cX6_layerForeign 10 = .ok (.invokevirtual 175, 3) := by decide +kernel
theorem dX6_layerForeign_13 : decode cX6_layerForeign 13 = .ok (.ireturn, 1) := by decide +kernel
theorem dX6_layerGrade_0 : decode cX6_layerGrade 0 = .ok (.aload_n 0, 1) := by decide +kernel
theorem dX6_layerGrade_1 : decode cX6_layerGrade 1 = .ok (.getfield 12, 3) := by decide +kernel
theorem dX6_layerGrade_4 : decode cX6_layerGrade 4 = .ok (.iload_n 1, 1) := by decide +kernel
theorem dX6_layerGrade_5 : decode cX6_layerGrade 5 = .ok (.iload_n 2, 1) := by decide +kernel
theorem dX6_layerGrade_6 : decode cX6_layerGrade 6 = .ok (.invokestatic 162, 3) := by decide +kernel
theorem dX6_layerGrade_9 : decode cX6_layerGrade 9 = .ok (.iload_n 2, 1) := by decide +kernel
theorem dX6_layerGrade_10 : decode cX6_layerGrade 10 = .ok (.invokevirtual 178, 3) := by decide +kernel
theorem dX6_layerGrade_13 : decode cX6_layerGrade 13 = .ok (.ireturn, 1) := by decide +kernel
theorem dX6_sellBlend_0 : decode cX6_sellBlend 0 = .ok (.aload_n 0, 1) := by decide +kernel
theorem dX6_sellBlend_1 : decode cX6_sellBlend 1 = .ok (.iload_n 1, 1) := by decide +kernel
theorem dX6_sellBlend_2 : decode cX6_sellBlend 2 = .ok (.iload_n 2, 1) := by decide +kernel
theorem dX6_sellBlend_3 : decode cX6_sellBlend 3 = .ok (.iload_n 3, 1) := by decide +kernel
theorem dX6_sellBlend_4 : decode cX6_sellBlend 4 = .ok (.iload 4, 2) := by decide +kernel
theorem dX6_sellBlend_6 : decode cX6_sellBlend 6 = .ok (.invokevirtual 198, 3) := by decide +kernel
theorem dX6_sellBlend_9 : decode cX6_sellBlend 9 = .ok (.getfield 217, 3) := by decide +kernel
theorem dX6_sellBlend_12 : decode cX6_sellBlend 12 = .ok (.istore 5, 2) := by decide +kernel
theorem dX6_sellBlend_14 : decode cX6_sellBlend 14 = .ok (.aload_n 0, 1) := by decide +kernel
theorem dX6_sellBlend_15 : decode cX6_sellBlend 15 = .ok (.invokevirtual 102, 3) := by decide +kernel
theorem dX6_sellBlend_18 : decode cX6_sellBlend 18 = .ok (.iload_n 3, 1) := by decide +kernel
theorem dX6_sellBlend_19 : decode cX6_sellBlend 19 = .ok (.iload 5, 2) := by decide +kernel
theorem dX6_sellBlend_21 : decode cX6_sellBlend 21 = .ok (.isub, 1) := by decide +kernel
theorem dX6_sellBlend_22 : decode cX6_sellBlend 22 = .ok (.istore 6, 2) := by decide +kernel
theorem dX6_sellBlend_24 : decode cX6_sellBlend 24 = .ok (.iload_n 3, 1) := by decide +kernel
theorem dX6_sellBlend_25 : decode cX6_sellBlend 25 = .ok (.aload_n 0, 1) := by decide +kernel
theorem dX6_sellBlend_26 : decode cX6_sellBlend 26 = .ok (.getfield 29, 3) := by decide +kernel
theorem dX6_sellBlend_29 : decode cX6_sellBlend 29 = .ok (.aload_n 0, 1) := by decide +kernel
theorem dX6_sellBlend_30 : decode cX6_sellBlend 30 = .ok (.aload_n 0, 1) := by decide +kernel
theorem dX6_sellBlend_31 : decode cX6_sellBlend 31 = .ok (.getfield 12, 3) := by decide +kernel
theorem dX6_sellBlend_34 : decode cX6_sellBlend 34 = .ok (.iload_n 1, 1) := by decide +kernel
theorem dX6_sellBlend_35 : decode cX6_sellBlend 35 = .ok (.invokestatic 75, 3) := by decide +kernel
theorem dX6_sellBlend_38 : decode cX6_sellBlend 38 = .ok (.aload_n 0, 1) := by decide +kernel
theorem dX6_sellBlend_39 : decode cX6_sellBlend 39 = .ok (.getfield 12, 3) := by decide +kernel
theorem dX6_sellBlend_42 : decode cX6_sellBlend 42 = .ok (.iload_n 2, 1) := by decide +kernel
theorem dX6_sellBlend_43 : decode cX6_sellBlend 43 = .ok (.invokestatic 75, 3) := by decide +kernel
theorem dX6_sellBlend_46 : decode cX6_sellBlend 46 = .ok (.iload 5, 2) := by decide +kernel
theorem dX6_sellBlend_48 : decode cX6_sellBlend 48 = .ok (.iload 6, 2) := by decide +kernel
theorem dX6_sellBlend_50 : decode cX6_sellBlend 50 = .ok (.invokevirtual 220, 3) := by decide +kernel
theorem dX6_sellBlend_53 : decode cX6_sellBlend 53 = .ok (.iaload, 1) := by decide +kernel
theorem dX6_sellBlend_54 : decode cX6_sellBlend 54 = .ok (.imul, 1) := by decide +kernel
theorem dX6_sellBlend_55 : decode cX6_sellBlend 55 = .ok (.istore 7, 2) := by decide +kernel
theorem dX6_sellBlend_57 : decode cX6_sellBlend 57 = .ok (.aload_n 0, 1) := by decide +kernel
theorem dX6_sellBlend_58 : decode cX6_sellBlend 58 = .ok (.iload_n 1, 1) := by decide +kernel
theorem dX6_sellBlend_59 : decode cX6_sellBlend 59 = .ok (.iload_n 2, 1) := by decide +kernel
theorem dX6_sellBlend_60 : decode cX6_sellBlend 60 = .ok (.iload 5, 2) := by decide +kernel
theorem dX6_sellBlend_62 : decode cX6_sellBlend 62 = .ok (.iload 6, 2) := by decide +kernel
theorem dX6_sellBlend_64 : decode cX6_sellBlend 64 = .ok (.invokestatic 224, 3) := by decide +kernel
theorem dX6_sellBlend_67 : decode cX6_sellBlend 67 = .ok (.iload 7, 2) := by decide +kernel
theorem dX6_sellBlend_69 : decode cX6_sellBlend 69 = .ok (.invokevirtual 111, 3) := by decide +kernel
theorem dX6_sellBlend_72 : decode cX6_sellBlend 72 = .ok (.iload 7, 2) := by decide +kernel
theorem dX6_sellBlend_74 : decode cX6_sellBlend 74 = .ok (.ireturn, 1) := by decide +kernel
theorem dX6_setFutures_0 : decode cX6_setFutures 0 = .ok (.iload_n 1, 1) := by decide +kernel
theorem dX6_setFutures_1 : decode cX6_setFutures 1 = .ok (.iconst 0, 1) := by decide +kernel
theorem dX6_setFutures_2 : decode cX6_setFutures 2 = .ok (.sipush 2000, 3) := by decide +kernel
theorem dX6_setFutures_5 : decode cX6_setFutures 5 = .ok (.invokestatic 51, 3) := by decide +kernel
theorem dX6_setFutures_8 : decode cX6_setFutures 8 = .ok (.aload_n 0, 1) := by decide +kernel
theorem dX6_setFutures_9 : decode cX6_setFutures 9 = .ok (.getfield 36, 3) := by decide +kernel
theorem dX6_setFutures_12 : decode cX6_setFutures 12 = .ok (.iload_n 1, 1) := by decide +kernel
theorem dX6_setFutures_13 : decode cX6_setFutures 13 = .ok (.invokevirtual 227, 3) := by decide +kernel
theorem dX6_setFutures_16 : decode cX6_setFutures 16 = .ok (.ireturn, 1) := by decide +kernel
theorem dX6_owned_0 : decode cX6_owned 0 = .ok (.iconst 0, 1) := by decide +kernel
theorem dX6_owned_1 : decode cX6_owned 1 = .ok (.istore_n 1, 1) := by decide +kernel
theorem dX6_owned_2 : decode cX6_owned 2 = .ok (.iconst 0, 1) := by decide +kernel
theorem dX6_owned_3 : decode cX6_owned 3 = .ok (.istore_n 2, 1) := by decide +kernel
theorem dX6_owned_4 : decode cX6_owned 4 = .ok (.iload_n 2, 1) := by decide +kernel
theorem dX6_owned_5 : decode cX6_owned 5 = .ok (.aload_n 0, 1) := by decide +kernel
theorem dX6_owned_6 : decode cX6_owned 6 = .ok (.getfield 12, 3) := by decide +kernel
theorem dX6_owned_9 : decode cX6_owned 9 = .ok (.invokevirtual 55, 3) := by decide +kernel
theorem dX6_owned_12 : decode cX6_owned 12 = .ok (.if_icmp .ge 26, 3) := by decide +kernel
theorem dX6_owned_15 : decode cX6_owned 15 = .ok (.iload_n 1, 1) := by decide +kernel
theorem dX6_owned_16 : decode cX6_owned 16 = .ok (.aload_n 0, 1) := by decide +kernel
theorem dX6_owned_17 : decode cX6_owned 17 = .ok (.getfield 12, 3) := by decide +kernel
theorem dX6_owned_20 : decode cX6_owned 20 = .ok (.iload_n 2, 1) := by decide +kernel
theorem dX6_owned_21 : decode cX6_owned 21 = .ok (.invokevirtual 194, 3) := by decide +kernel
theorem dX6_owned_24 : decode cX6_owned 24 = .ok (.checkcast 66, 3) := by decide +kernel
theorem dX6_owned_27 : decode cX6_owned 27 = .ok (.getfield 153, 3) := by decide +kernel
theorem dX6_owned_30 : decode cX6_owned 30 = .ok (.iadd, 1) := by decide +kernel
theorem dX6_owned_31 : decode cX6_owned 31 = .ok (.istore_n 1, 1) := by decide +kernel
theorem dX6_owned_32 : decode cX6_owned 32 = .ok (.iinc 2 1, 3) := by decide +kernel
theorem dX6_owned_35 : decode cX6_owned 35 = .ok (.goto (-31), 3) := by decide +kernel
theorem dX6_owned_38 : decode cX6_owned 38 = .ok (.iload_n 1, 1) := by decide +kernel
theorem dX6_owned_39 : decode cX6_owned 39 = .ok (.ireturn, 1) := by decide +kernel
theorem dX6_writeBin_0 : decode cX6_writeBin 0 = .ok (.aload_n 0, 1) := by decide +kernel
theorem dX6_writeBin_1 : decode cX6_writeBin 1 = .ok (.getfield 12, 3) := by decide +kernel
theorem dX6_writeBin_4 : decode cX6_writeBin 4 = .ok (.iload_n 1, 1) := by decide +kernel
theorem dX6_writeBin_5 : decode cX6_writeBin 5 = .ok (.invokestatic 75, 3) := by decide +kernel
theorem dX6_writeBin_8 : decode cX6_writeBin 8 = .ok (.astore_n 2, 1) := by decide +kernel
theorem dX6_writeBin_9 : decode cX6_writeBin 9 = .ok (.aload_n 0, 1) := by decide +kernel
theorem dX6_writeBin_10 : decode cX6_writeBin 10 = .ok (.getfield 43, 3) := by decide +kernel
theorem dX6_writeBin_13 : decode cX6_writeBin 13 = .ok (.iconst 0, 1) := by decide +kernel
theorem dX6_writeBin_14 : decode cX6_writeBin 14 = .ok (.invokevirtual 255, 3) := by decide +kernel
theorem dX6_writeBin_17 : decode cX6_writeBin 17 = .ok (.iconst 0, 1) := by decide +kernel
theorem dX6_writeBin_18 : decode cX6_writeBin 18 = .ok (.istore_n 3, 1) := by decide +kernel
theorem dX6_writeBin_19 : decode cX6_writeBin 19 = .ok (.iload_n 3, 1) := by decide +kernel
theorem dX6_writeBin_20 : decode cX6_writeBin 20 = .ok (.aload_n 2, 1) := by decide +kernel
theorem dX6_writeBin_21 : decode cX6_writeBin 21 = .ok (.getfield 137, 3) := by decide +kernel
theorem dX6_writeBin_24 : decode cX6_writeBin 24 = .ok (.if_icmp .ge 82, 3) := by decide +kernel
theorem dX6_writeBin_27 : decode cX6_writeBin 27 = .ok (.iload_n 3, 1) := by decide +kernel
theorem dX6_writeBin_28 : decode cX6_writeBin 28 = .ok (.ifCond .le 13, 3) := by decide +kernel
theorem dX6_writeBin_31 : decode cX6_writeBin 31 = .ok (.aload_n 0, 1) := by decide +kernel
theorem dX6_writeBin_32 : decode cX6_writeBin 32 = .ok (.getfield 43, 3) := by decide +kernel
theorem dX6_writeBin_35 : decode cX6_writeBin 35 = .ok (.bipush 32, 2) := by decide +kernel
theorem dX6_writeBin_37 : decode cX6_writeBin 37 = .ok (.invokevirtual 258, 3) := by decide +kernel
theorem dX6_writeBin_40 : decode cX6_writeBin 40 = .ok (.pop, 1) := by decide +kernel
theorem dX6_writeBin_41 : decode cX6_writeBin 41 = .ok (.aload_n 0, 1) := by decide +kernel
theorem dX6_writeBin_42 : decode cX6_writeBin 42 = .ok (.getfield 43, 3) := by decide +kernel
theorem dX6_writeBin_45 : decode cX6_writeBin 45 = .ok (.aload_n 2, 1) := by decide +kernel
theorem dX6_writeBin_46 : decode cX6_writeBin 46 = .ok (.iload_n 3, 1) := by decide +kernel
theorem dX6_writeBin_47 : decode cX6_writeBin 47 = .ok (.invokevirtual 166, 3) := by decide +kernel
theorem dX6_writeBin_50 : decode cX6_writeBin 50 = .ok (.invokevirtual 262, 3) := by decide +kernel
theorem dX6_writeBin_53 : decode cX6_writeBin 53 = .ok (.pop, 1) := by decide +kernel
theorem dX6_writeBin_54 : decode cX6_writeBin 54 = .ok (.aload_n 0, 1) := by decide +kernel
theorem dX6_writeBin_55 : decode cX6_writeBin 55 = .ok (.getfield 43, 3) := by decide +kernel
theorem dX6_writeBin_58 : decode cX6_writeBin 58 = .ok (.bipush 64, 2) := by decide +kernel
theorem dX6_writeBin_60 : decode cX6_writeBin 60 = .ok (.invokevirtual 258, 3) := by decide +kernel
theorem dX6_writeBin_63 : decode cX6_writeBin 63 = .ok (.pop, 1) := by decide +kernel
theorem dX6_writeBin_64 : decode cX6_writeBin 64 = .ok (.aload_n 0, 1) := by decide +kernel
theorem dX6_writeBin_65 : decode cX6_writeBin 65 = .ok (.getfield 43, 3) := by decide +kernel
theorem dX6_writeBin_68 : decode cX6_writeBin 68 = .ok (.aload_n 2, 1) := by decide +kernel
theorem dX6_writeBin_69 : decode cX6_writeBin 69 = .ok (.iload_n 3, 1) := by decide +kernel
theorem dX6_writeBin_70 : decode cX6_writeBin 70 = .ok (.invokevirtual 172, 3) := by decide +kernel
theorem dX6_writeBin_73 : decode cX6_writeBin 73 = .ok (.invokevirtual 262, 3) := by decide +kernel
theorem dX6_writeBin_76 : decode cX6_writeBin 76 = .ok (.pop, 1) := by decide +kernel
theorem dX6_writeBin_77 : decode cX6_writeBin 77 = .ok (.aload_n 0, 1) := by decide +kernel
theorem dX6_writeBin_78 : decode cX6_writeBin 78 = .ok (.getfield 43, 3) := by decide +kernel
theorem dX6_writeBin_81 : decode cX6_writeBin 81 = .ok (.bipush 103, 2) := by decide +kernel
theorem dX6_writeBin_83 : decode cX6_writeBin 83 = .ok (.invokevirtual 258, 3) := by decide +kernel
theorem dX6_writeBin_86 : decode cX6_writeBin 86 = .ok (.pop, 1) := by decide +kernel
theorem dX6_writeBin_87 : decode cX6_writeBin 87 = .ok (.aload_n 0, 1) := by decide +kernel
theorem dX6_writeBin_88 : decode cX6_writeBin 88 = .ok (.getfield 43, 3) := by decide +kernel
theorem dX6_writeBin_91 : decode cX6_writeBin 91 = .ok (.aload_n 2, 1) := by decide +kernel
theorem dX6_writeBin_92 : decode cX6_writeBin 92 = .ok (.iload_n 3, 1) := by decide +kernel
theorem dX6_writeBin_93 : decode cX6_writeBin 93 = .ok (.invokevirtual 178, 3) := by decide +kernel
theorem dX6_writeBin_96 : decode cX6_writeBin 96 = .ok (.invokevirtual 262, 3) := by decide +kernel
theorem dX6_writeBin_99 : decode cX6_writeBin 99 = .ok (.pop, 1) := by decide +kernel
theorem dX6_writeBin_100 : decode cX6_writeBin 100 = .ok (.iinc 3 1, 3) := by decide +kernel
theorem dX6_writeBin_103 : decode cX6_writeBin 103 = .ok (.goto (-84), 3) := by decide +kernel
theorem dX6_writeBin_106 : decode cX6_writeBin 106 = .ok (.aload_n 0, 1) := by decide +kernel
theorem dX6_writeBin_107 : decode cX6_writeBin 107 = .ok (.getfield 43, 3) := by decide +kernel
theorem dX6_writeBin_110 : decode cX6_writeBin 110 = .ok (.invokevirtual 265, 3) := by decide +kernel
theorem dX6_writeBin_113 : decode cX6_writeBin 113 = .ok (.ireturn, 1) := by decide +kernel
theorem dX6_lineAt_0 : decode cX6_lineAt 0 = .ok (.iload_n 1, 1) := by decide +kernel
theorem dX6_lineAt_1 : decode cX6_lineAt 1 = .ok (.ifCond .lt 14, 3) := by decide +kernel
theorem dX6_lineAt_4 : decode cX6_lineAt 4 = .ok (.iload_n 1, 1) := by decide +kernel
theorem dX6_lineAt_5 : decode cX6_lineAt 5 = .ok (.aload_n 0, 1) := by decide +kernel
theorem dX6_lineAt_6 : decode cX6_lineAt 6 = .ok (.getfield 43, 3) := by decide +kernel
theorem dX6_lineAt_9 : decode cX6_lineAt 9 = .ok (.invokevirtual 265, 3) := by decide +kernel
theorem dX6_lineAt_12 : decode cX6_lineAt 12 = .ok (.if_icmp .lt 14, 3) := by decide +kernel
theorem dX6_lineAt_15 : decode cX6_lineAt 15 = .ok (.new 237, 3) := by decide +kernel
theorem dX6_lineAt_18 : decode cX6_lineAt 18 = .ok (.dup, 1) := by decide +kernel
theorem dX6_lineAt_19 : decode cX6_lineAt 19 = .ok (.ldc_w 268, 3) := by decide +kernel
theorem dX6_lineAt_22 : decode cX6_lineAt 22 = .ok (.invokespecial 241, 3) := by decide +kernel
theorem dX6_lineAt_25 : decode cX6_lineAt 25 = .ok (.athrow, 1) := by decide +kernel
theorem dX6_lineAt_26 : decode cX6_lineAt 26 = .ok (.aload_n 0, 1) := by decide +kernel
theorem dX6_lineAt_27 : decode cX6_lineAt 27 = .ok (.getfield 43, 3) := by decide +kernel
theorem dX6_lineAt_30 : decode cX6_lineAt 30 = .ok (.iload_n 1, 1) := by decide +kernel
theorem dX6_lineAt_31 : decode cX6_lineAt 31 = .ok (.invokevirtual 270, 3) := by decide +kernel
theorem dX6_lineAt_34 : decode cX6_lineAt 34 = .ok (.ireturn, 1) := by decide +kernel
theorem dX6_checkRange_0 : decode cX6_checkRange 0 = .ok (.iload_n 0, 1) := by decide +kernel
theorem dX6_checkRange_1 : decode cX6_checkRange 1 = .ok (.iload_n 1, 1) := by decide +kernel
theorem dX6_checkRange_2 : decode cX6_checkRange 2 = .ok (.if_icmp .lt 8, 3) := by decide +kernel
theorem dX6_checkRange_5 : decode cX6_checkRange 5 = .ok (.iload_n 0, 1) := by decide +kernel
theorem dX6_checkRange_6 : decode cX6_checkRange 6 = .ok (.iload_n 2, 1) := by decide +kernel
theorem dX6_checkRange_7 : decode cX6_checkRange 7 = .ok (.if_icmp .le 14, 3) := by decide +kernel
theorem dX6_checkRange_10 : decode cX6_checkRange 10 = .ok (.new 274, 3) := by decide +kernel
theorem dX6_checkRange_13 : decode cX6_checkRange 13 = .ok (.dup, 1) := by decide +kernel
theorem dX6_checkRange_14 : decode cX6_checkRange 14 = .ok (.ldc_w 276, 3) := by decide +kernel
theorem dX6_checkRange_17 : decode cX6_checkRange 17 = .ok (.invokespecial 278, 3) := by decide +kernel
theorem dX6_checkRange_20 : decode cX6_checkRange 20 = .ok (.athrow, 1) := by decide +kernel
theorem dX6_checkRange_21 : decode cX6_checkRange 21 = .ok (.return_, 1) := by decide +kernel
theorem dX6_checkMoisture_0 : decode cX6_checkMoisture 0 = .ok (.iload_n 0, 1) := by decide +kernel
theorem dX6_checkMoisture_1 : decode cX6_checkMoisture 1 = .ok (.bipush 80, 2) := by decide +kernel
theorem dX6_checkMoisture_3 : decode cX6_checkMoisture 3 = .ok (.sipush 300, 3) := by decide +kernel
theorem dX6_checkMoisture_6 : decode cX6_checkMoisture 6 = .ok (.invokestatic 51, 3) := by decide +kernel
theorem dX6_checkMoisture_9 : decode cX6_checkMoisture 9 = .ok (.return_, 1) := by decide +kernel
theorem dX6_checkGrain_0 : decode cX6_checkGrain 0 = .ok (.iload_n 0, 1) := by decide +kernel
theorem dX6_checkGrain_1 : decode cX6_checkGrain 1 = .ok (.invokestatic 144, 3) := by decide +kernel
theorem dX6_checkGrain_4 : decode cX6_checkGrain 4 = .ok (.iload_n 1, 1) := by decide +kernel
theorem dX6_checkGrain_5 : decode cX6_checkGrain 5 = .ok (.iconst 0, 1) := by decide +kernel
theorem dX6_checkGrain_6 : decode cX6_checkGrain 6 = .ok (.bipush 100, 2) := by decide +kernel
theorem dX6_checkGrain_8 : decode cX6_checkGrain 8 = .ok (.invokestatic 51, 3) := by decide +kernel
theorem dX6_checkGrain_11 : decode cX6_checkGrain 11 = .ok (.return_, 1) := by decide +kernel
theorem dX6_checkDifferent_0 : decode cX6_checkDifferent 0 = .ok (.iload_n 0, 1) := by decide +kernel
theorem dX6_checkDifferent_1 : decode cX6_checkDifferent 1 = .ok (.iload_n 1, 1) := by decide +kernel
theorem dX6_checkDifferent_2 : decode cX6_checkDifferent 2 = .ok (.if_icmp .ne 14, 3) := by decide +kernel
theorem dX6_checkDifferent_5 : decode cX6_checkDifferent 5 = .ok (.new 274, 3) := by decide +kernel
theorem dX6_checkDifferent_8 : decode cX6_checkDifferent 8 = .ok (.dup, 1) := by decide +kernel
theorem dX6_checkDifferent_9 : decode cX6_checkDifferent 9 = .ok (.ldc_w 279, 3) := by decide +kernel
theorem dX6_checkDifferent_12 : decode cX6_checkDifferent 12 = .ok (.invokespecial 278, 3) := by decide +kernel
theorem dX6_checkDifferent_15 : decode cX6_checkDifferent 15 = .ok (.athrow, 1) := by decide +kernel
theorem dX6_checkDifferent_16 : decode cX6_checkDifferent 16 = .ok (.return_, 1) := by decide +kernel
theorem dX6_checkStock_0 : decode cX6_checkStock 0 = .ok (.aload_n 0, 1) := by decide +kernel
theorem dX6_checkStock_1 : decode cX6_checkStock 1 = .ok (.getfield 153, 3) := by decide +kernel
theorem dX6_checkStock_4 : decode cX6_checkStock 4 = .ok (.iload_n 1, 1) := by decide +kernel
theorem dX6_checkStock_5 : decode cX6_checkStock 5 = .ok (.if_icmp .ge 14, 3) := by decide +kernel
theorem dX6_checkStock_8 : decode cX6_checkStock 8 = .ok (.new 59, 3) := by decide +kernel
theorem dX6_checkStock_11 : decode cX6_checkStock 11 = .ok (.dup, 1) := by decide +kernel
theorem dX6_checkStock_12 : decode cX6_checkStock 12 = .ok (.ldc_w 281, 3) := by decide +kernel
theorem dX6_checkStock_15 : decode cX6_checkStock 15 = .ok (.invokespecial 63, 3) := by decide +kernel
theorem dX6_checkStock_18 : decode cX6_checkStock 18 = .ok (.athrow, 1) := by decide +kernel
theorem dX6_checkStock_19 : decode cX6_checkStock 19 = .ok (.return_, 1) := by decide +kernel
theorem dX6_checkRoom_0 : decode cX6_checkRoom 0 = .ok (.aload_n 0, 1) := by decide +kernel
theorem dX6_checkRoom_1 : decode cX6_checkRoom 1 = .ok (.getfield 79, 3) := by decide +kernel
theorem dX6_checkRoom_4 : decode cX6_checkRoom 4 = .ok (.aload_n 0, 1) := by decide +kernel
theorem dX6_checkRoom_5 : decode cX6_checkRoom 5 = .ok (.getfield 153, 3) := by decide +kernel
theorem dX6_checkRoom_8 : decode cX6_checkRoom 8 = .ok (.isub, 1) := by decide +kernel
theorem dX6_checkRoom_9 : decode cX6_checkRoom 9 = .ok (.iload_n 1, 1) := by decide +kernel
theorem dX6_checkRoom_10 : decode cX6_checkRoom 10 = .ok (.if_icmp .ge 14, 3) := by decide +kernel
theorem dX6_checkRoom_13 : decode cX6_checkRoom 13 = .ok (.new 59, 3) := by decide +kernel
theorem dX6_checkRoom_16 : decode cX6_checkRoom 16 = .ok (.dup, 1) := by decide +kernel
theorem dX6_checkRoom_17 : decode cX6_checkRoom 17 = .ok (.ldc_w 283, 3) := by decide +kernel
theorem dX6_checkRoom_20 : decode cX6_checkRoom 20 = .ok (.invokespecial 63, 3) := by decide +kernel
theorem dX6_checkRoom_23 : decode cX6_checkRoom 23 = .ok (.athrow, 1) := by decide +kernel
theorem dX6_checkRoom_24 : decode cX6_checkRoom 24 = .ok (.return_, 1) := by decide +kernel
theorem dX6_checkEventLeft_0 : decode cX6_checkEventLeft 0 = .ok (.aload_n 0, 1) := by decide +kernel
theorem dX6_checkEventLeft_1 : decode cX6_checkEventLeft 1 = .ok (.getfield 19, 3) := by decide +kernel
theorem dX6_checkEventLeft_4 : decode cX6_checkEventLeft 4 = .ok (.invokevirtual 55, 3) := by decide +kernel
theorem dX6_checkEventLeft_7 : decode cX6_checkEventLeft 7 = .ok (.bipush 80, 2) := by decide +kernel
theorem dX6_checkEventLeft_9 : decode cX6_checkEventLeft 9 = .ok (.if_icmp .lt 14, 3) := by decide +kernel
theorem dX6_checkEventLeft_12 : decode cX6_checkEventLeft 12 = .ok (.new 59, 3) := by decide +kernel
theorem dX6_checkEventLeft_15 : decode cX6_checkEventLeft 15 = .ok (.dup, 1) := by decide +kernel
theorem dX6_checkEventLeft_16 : decode cX6_checkEventLeft 16 = .ok (.ldc_w 285, 3) := by decide +kernel
theorem dX6_checkEventLeft_19 : decode cX6_checkEventLeft 19 = .ok (.invokespecial 63, 3) := by decide +kernel
theorem dX6_checkEventLeft_22 : decode cX6_checkEventLeft 22 = .ok (.athrow, 1) := by decide +kernel
theorem dX6_checkEventLeft_23 : decode cX6_checkEventLeft 23 = .ok (.return_, 1) := by decide +kernel
theorem dX6_checkBlend_0 : decode cX6_checkBlend 0 = .ok (.aload_n 0, 1) := by decide +kernel
theorem dX6_checkBlend_1 : decode cX6_checkBlend 1 = .ok (.getfield 12, 3) := by decide +kernel
theorem dX6_checkBlend_4 : decode cX6_checkBlend 4 = .ok (.iload_n 1, 1) := by decide +kernel
theorem dX6_checkBlend_5 : decode cX6_checkBlend 5 = .ok (.invokestatic 75, 3) := by decide +kernel
theorem dX6_checkBlend_8 : decode cX6_checkBlend 8 = .ok (.pop, 1) := by decide +kernel
theorem dX6_checkBlend_9 : decode cX6_checkBlend 9 = .ok (.aload_n 0, 1) := by decide +kernel
theorem dX6_checkBlend_10 : decode cX6_checkBlend 10 = .ok (.getfield 12, 3) := by decide +kernel
theorem dX6_checkBlend_13 : decode cX6_checkBlend 13 = .ok (.iload_n 2, 1) := by decide +kernel
theorem dX6_checkBlend_14 : decode cX6_checkBlend 14 = .ok (.invokestatic 75, 3) := by decide +kernel
theorem dX6_checkBlend_17 : decode cX6_checkBlend 17 = .ok (.pop, 1) := by decide +kernel
theorem dX6_checkBlend_18 : decode cX6_checkBlend 18 = .ok (.iload_n 1, 1) := by decide +kernel
theorem dX6_checkBlend_19 : decode cX6_checkBlend 19 = .ok (.iload_n 2, 1) := by decide +kernel
theorem dX6_checkBlend_20 : decode cX6_checkBlend 20 = .ok (.invokestatic 134, 3) := by decide +kernel
theorem dX6_checkBlend_23 : decode cX6_checkBlend 23 = .ok (.iload_n 3, 1) := by decide +kernel
theorem dX6_checkBlend_24 : decode cX6_checkBlend 24 = .ok (.iconst 1, 1) := by decide +kernel
theorem dX6_checkBlend_25 : decode cX6_checkBlend 25 = .ok (.sipush 500, 3) := by decide +kernel
theorem dX6_checkBlend_28 : decode cX6_checkBlend 28 = .ok (.invokestatic 51, 3) := by decide +kernel
theorem dX6_checkBlend_31 : decode cX6_checkBlend 31 = .ok (.iload 4, 2) := by decide +kernel
theorem dX6_checkBlend_33 : decode cX6_checkBlend 33 = .ok (.invokestatic 144, 3) := by decide +kernel
theorem dX6_checkBlend_36 : decode cX6_checkBlend 36 = .ok (.return_, 1) := by decide +kernel
theorem dX6_checkFound_0 : decode cX6_checkFound 0 = .ok (.aload_n 0, 1) := by decide +kernel
theorem dX6_checkFound_1 : decode cX6_checkFound 1 = .ok (.getfield 287, 3) := by decide +kernel
theorem dX6_checkFound_4 : decode cX6_checkFound 4 = .ok (.ifCond .ne 14, 3) := by decide +kernel
theorem dX6_checkFound_7 : decode cX6_checkFound 7 = .ok (.new 291, 3) := by decide +kernel
theorem dX6_checkFound_10 : decode cX6_checkFound 10 = .ok (.dup, 1) := by decide +kernel
theorem dX6_checkFound_11 : decode cX6_checkFound 11 = .ok (.ldc_w 293, 3) := by decide +kernel
theorem dX6_checkFound_14 : decode cX6_checkFound 14 = .ok (.invokespecial 295, 3) := by decide +kernel
theorem dX6_checkFound_17 : decode cX6_checkFound 17 = .ok (.athrow, 1) := by decide +kernel
theorem dX6_checkFound_18 : decode cX6_checkFound 18 = .ok (.return_, 1) := by decide +kernel
theorem dX6_binIn_0 : decode cX6_binIn 0 = .ok (.iload_n 1, 1) := by decide +kernel
theorem dX6_binIn_1 : decode cX6_binIn 1 = .ok (.ifCond .lt 11, 3) := by decide +kernel
theorem dX6_binIn_4 : decode cX6_binIn 4 = .ok (.iload_n 1, 1) := by decide +kernel
theorem dX6_binIn_5 : decode cX6_binIn 5 = .ok (.aload_n 0, 1) := by decide +kernel
theorem dX6_binIn_6 : decode cX6_binIn 6 = .ok (.invokevirtual 55, 3) := by decide +kernel
theorem dX6_binIn_9 : decode cX6_binIn 9 = .ok (.if_icmp .lt 14, 3) := by decide +kernel
theorem dX6_binIn_12 : decode cX6_binIn 12 = .ok (.new 237, 3) := by decide +kernel
theorem dX6_binIn_15 : decode cX6_binIn 15 = .ok (.dup, 1) := by decide +kernel
theorem dX6_binIn_16 : decode cX6_binIn 16 = .ok (.ldc_w 296, 3) := by decide +kernel
theorem dX6_binIn_19 : decode cX6_binIn 19 = .ok (.invokespecial 241, 3) := by decide +kernel
theorem dX6_binIn_22 : decode cX6_binIn 22 = .ok (.athrow, 1) := by decide +kernel
theorem dX6_binIn_23 : decode cX6_binIn 23 = .ok (.aload_n 0, 1) := by decide +kernel
theorem dX6_binIn_24 : decode cX6_binIn 24 = .ok (.iload_n 1, 1) := by decide +kernel
theorem dX6_binIn_25 : decode cX6_binIn 25 = .ok (.invokevirtual 194, 3) := by decide +kernel
theorem dX6_binIn_28 : decode cX6_binIn 28 = .ok (.checkcast 66, 3) := by decide +kernel
theorem dX6_binIn_31 : decode cX6_binIn 31 = .ok (.areturn, 1) := by decide +kernel
theorem dX6_binWithLayer_0 : decode cX6_binWithLayer 0 = .ok (.aload_n 0, 1) := by decide +kernel
theorem dX6_binWithLayer_1 : decode cX6_binWithLayer 1 = .ok (.iload_n 1, 1) := by decide +kernel
theorem dX6_binWithLayer_2 : decode cX6_binWithLayer 2 = .ok (.invokestatic 75, 3) := by decide +kernel
theorem dX6_binWithLayer_5 : decode cX6_binWithLayer 5 = .ok (.astore_n 3, 1) := by decide +kernel
theorem dX6_binWithLayer_6 : decode cX6_binWithLayer 6 = .ok (.iload_n 2, 1) := by decide +kernel
theorem dX6_binWithLayer_7 : decode cX6_binWithLayer 7 = .ok (.ifCond .lt 11, 3) := by decide +kernel
theorem dX6_binWithLayer_10 : decode cX6_binWithLayer 10 = .ok (.iload_n 2, 1) := by decide +kernel
theorem dX6_binWithLayer_11 : decode cX6_binWithLayer 11 = .ok (.aload_n 3, 1) := by decide +kernel
theorem dX6_binWithLayer_12 : decode cX6_binWithLayer 12 = .ok (.getfield 137, 3) := by decide +kernel
theorem dX6_binWithLayer_15 : decode cX6_binWithLayer 15 = .ok (.if_icmp .lt 14, 3) := by decide +kernel
theorem dX6_binWithLayer_18 : decode cX6_binWithLayer 18 = .ok (.new 237, 3) := by decide +kernel
theorem dX6_binWithLayer_21 : decode cX6_binWithLayer 21 = .ok (.dup, 1) := by decide +kernel
theorem dX6_binWithLayer_22 : decode cX6_binWithLayer 22 = .ok (.ldc_w 298, 3) := by decide +kernel
theorem dX6_binWithLayer_25 : decode cX6_binWithLayer 25 = .ok (.invokespecial 241, 3) := by decide +kernel
theorem dX6_binWithLayer_28 : decode cX6_binWithLayer 28 = .ok (.athrow, 1) := by decide +kernel
theorem dX6_binWithLayer_29 : decode cX6_binWithLayer 29 = .ok (.aload_n 3, 1) := by decide +kernel
theorem dX6_binWithLayer_30 : decode cX6_binWithLayer 30 = .ok (.areturn, 1) := by decide +kernel
theorem dX6_happen_0 : decode cX6_happen 0 = .ok (.aload_n 0, 1) := by decide +kernel
theorem dX6_happen_1 : decode cX6_happen 1 = .ok (.aload_n 1, 1) := by decide +kernel
theorem dX6_happen_2 : decode cX6_happen 2 = .ok (.aload_n 0, 1) := by decide +kernel
theorem dX6_happen_3 : decode cX6_happen 3 = .ok (.getfield 12, 3) := by decide +kernel
theorem dX6_happen_6 : decode cX6_happen 6 = .ok (.invokevirtual 300, 3) := by decide +kernel
theorem dX6_happen_9 : decode cX6_happen 9 = .ok (.aload_n 0, 1) := by decide +kernel
theorem dX6_happen_10 : decode cX6_happen 10 = .ok (.getfield 19, 3) := by decide +kernel
theorem dX6_happen_13 : decode cX6_happen 13 = .ok (.aload_n 1, 1) := by decide +kernel
theorem dX6_happen_14 : decode cX6_happen 14 = .ok (.invokevirtual 71, 3) := by decide +kernel
theorem dX6_happen_17 : decode cX6_happen 17 = .ok (.pop, 1) := by decide +kernel
theorem dX6_happen_18 : decode cX6_happen 18 = .ok (.aload_n 0, 1) := by decide +kernel
theorem dX6_happen_19 : decode cX6_happen 19 = .ok (.dup, 1) := by decide +kernel
theorem dX6_happen_20 : decode cX6_happen 20 = .ok (.getfield 47, 3) := by decide +kernel
theorem dX6_happen_23 : decode cX6_happen 23 = .ok (.iload_n 2, 1) := by decide +kernel
theorem dX6_happen_24 : decode cX6_happen 24 = .ok (.i2l, 1) := by decide +kernel
theorem dX6_happen_25 : decode cX6_happen 25 = .ok (.ladd, 1) := by decide +kernel
theorem dX6_happen_26 : decode cX6_happen 26 = .ok (.putfield 47, 3) := by decide +kernel
theorem dX6_happen_29 : decode cX6_happen 29 = .ok (.aload_n 0, 1) := by decide +kernel
theorem dX6_happen_30 : decode cX6_happen 30 = .ok (.getfield 36, 3) := by decide +kernel
theorem dX6_happen_33 : decode cX6_happen 33 = .ok (.aload_n 0, 1) := by decide +kernel
theorem dX6_happen_34 : decode cX6_happen 34 = .ok (.invokevirtual 189, 3) := by decide +kernel
theorem dX6_happen_37 : decode cX6_happen 37 = .ok (.invokevirtual 304, 3) := by decide +kernel
theorem dX6_happen_40 : decode cX6_happen 40 = .ok (.return_, 1) := by decide +kernel
theorem dX6_goThroughEvents_0 : decode cX6_goThroughEvents 0 = .ok (.iconst 0, 1) := by decide +kernel
theorem dX6_goThroughEvents_1 : decode cX6_goThroughEvents 1 = .ok (.istore_n 1, 1) := by decide +kernel
theorem dX6_goThroughEvents_2 : decode cX6_goThroughEvents 2 = .ok (.iload_n 1, 1) := by decide +kernel
theorem dX6_goThroughEvents_3 : decode cX6_goThroughEvents 3 = .ok (.aload_n 0, 1) := by decide +kernel
theorem dX6_goThroughEvents_4 : decode cX6_goThroughEvents 4 = .ok (.getfield 16, 3) := by decide +kernel
theorem dX6_goThroughEvents_7 : decode cX6_goThroughEvents 7 = .ok (.invokevirtual 55, 3) := by decide +kernel
theorem dX6_goThroughEvents_10 : decode cX6_goThroughEvents 10 = .ok (.if_icmp .ge 23, 3) := by decide +kernel
theorem dX6_goThroughEvents_13 : decode cX6_goThroughEvents 13 = .ok (.aload_n 0, 1) := by decide +kernel
theorem dX6_goThroughEvents_14 : decode cX6_goThroughEvents 14 = .ok (.getfield 16, 3) := by decide +kernel
theorem dX6_goThroughEvents_17 : decode cX6_goThroughEvents 17 = .ok (.iload_n 1, 1) := by decide +kernel
theorem dX6_goThroughEvents_18 : decode cX6_goThroughEvents 18 = .ok (.invokevirtual 194, 3) := by decide +kernel
theorem dX6_goThroughEvents_21 : decode cX6_goThroughEvents 21 = .ok (.checkcast 66, 3) := by decide +kernel
theorem dX6_goThroughEvents_24 : decode cX6_goThroughEvents 24 = .ok (.invokevirtual 307, 3) := by decide +kernel
theorem dX6_goThroughEvents_27 : decode cX6_goThroughEvents 27 = .ok (.iinc 1 1, 3) := by decide +kernel
theorem dX6_goThroughEvents_30 : decode cX6_goThroughEvents 30 = .ok (.goto (-28), 3) := by decide +kernel
theorem dX6_goThroughEvents_33 : decode cX6_goThroughEvents 33 = .ok (.iconst 0, 1) := by decide +kernel
theorem dX6_goThroughEvents_34 : decode cX6_goThroughEvents 34 = .ok (.istore_n 1, 1) := by decide +kernel
theorem dX6_goThroughEvents_35 : decode cX6_goThroughEvents 35 = .ok (.iload_n 1, 1) := by decide +kernel
theorem dX6_goThroughEvents_36 : decode cX6_goThroughEvents 36 = .ok (.aload_n 0, 1) := by decide +kernel
theorem dX6_goThroughEvents_37 : decode cX6_goThroughEvents 37 = .ok (.getfield 19, 3) := by decide +kernel
theorem dX6_goThroughEvents_40 : decode cX6_goThroughEvents 40 = .ok (.invokevirtual 55, 3) := by decide +kernel
theorem dX6_goThroughEvents_43 : decode cX6_goThroughEvents 43 = .ok (.if_icmp .ge 28, 3) := by decide +kernel
theorem dX6_goThroughEvents_46 : decode cX6_goThroughEvents 46 = .ok (.aload_n 0, 1) := by decide +kernel
theorem dX6_goThroughEvents_47 : decode cX6_goThroughEvents 47 = .ok (.aload_n 0, 1) := by decide +kernel
theorem dX6_goThroughEvents_48 : decode cX6_goThroughEvents 48 = .ok (.getfield 19, 3) := by decide +kernel
theorem dX6_goThroughEvents_51 : decode cX6_goThroughEvents 51 = .ok (.iload_n 1, 1) := by decide +kernel
theorem dX6_goThroughEvents_52 : decode cX6_goThroughEvents 52 = .ok (.invokevirtual 194, 3) := by decide +kernel
theorem dX6_goThroughEvents_55 : decode cX6_goThroughEvents 55 = .ok (.checkcast 106, 3) := by decide +kernel
theorem dX6_goThroughEvents_58 : decode cX6_goThroughEvents 58 = .ok (.aload_n 0, 1) := by decide +kernel
theorem dX6_goThroughEvents_59 : decode cX6_goThroughEvents 59 = .ok (.getfield 16, 3) := by decide +kernel
theorem dX6_goThroughEvents_62 : decode cX6_goThroughEvents 62 = .ok (.invokevirtual 300, 3) := by decide +kernel
theorem dX6_goThroughEvents_65 : decode cX6_goThroughEvents 65 = .ok (.iinc 1 1, 3) := by decide +kernel
theorem dX6_goThroughEvents_68 : decode cX6_goThroughEvents 68 = .ok (.goto (-33), 3) := by decide +kernel
theorem dX6_goThroughEvents_71 : decode cX6_goThroughEvents 71 = .ok (.return_, 1) := by decide +kernel
theorem dX6_apply_0 : decode cX6_apply 0 = .ok (.aload_n 2, 1) := by decide +kernel
theorem dX6_apply_1 : decode cX6_apply 1 = .ok (.aload_n 1, 1) := by decide +kernel
theorem dX6_apply_2 : decode cX6_apply 2 = .ok (.getfield 310, 3) := by decide +kernel
theorem dX6_apply_5 : decode cX6_apply 5 = .ok (.invokestatic 75, 3) := by decide +kernel
theorem dX6_apply_8 : decode cX6_apply 8 = .ok (.astore_n 3, 1) := by decide +kernel
theorem dX6_apply_9 : decode cX6_apply 9 = .ok (.aload_n 2, 1) := by decide +kernel
theorem dX6_apply_10 : decode cX6_apply 10 = .ok (.aload_n 1, 1) := by decide +kernel
theorem dX6_apply_11 : decode cX6_apply 11 = .ok (.getfield 313, 3) := by decide +kernel
theorem dX6_apply_14 : decode cX6_apply 14 = .ok (.invokestatic 75, 3) := by decide +kernel
theorem dX6_apply_17 : decode cX6_apply 17 = .ok (.astore 4, 2) := by decide +kernel
theorem dX6_apply_19 : decode cX6_apply 19 = .ok (.aload_n 1, 1) := by decide +kernel
theorem dX6_apply_20 : decode cX6_apply 20 = .ok (.getfield 247, 3) := by decide +kernel
theorem dX6_apply_23 : decode cX6_apply 23 = .ok (.bipush 108, 2) := by decide +kernel
theorem dX6_apply_25 : decode cX6_apply 25 = .ok (.if_icmp .ne 37, 3) := by decide +kernel
theorem dX6_apply_28 : decode cX6_apply 28 = .ok (.aload_n 3, 1) := by decide +kernel
theorem dX6_apply_29 : decode cX6_apply 29 = .ok (.aload_n 1, 1) := by decide +kernel
theorem dX6_apply_30 : decode cX6_apply 30 = .ok (.getfield 316, 3) := by decide +kernel
theorem dX6_apply_33 : decode cX6_apply 33 = .ok (.aload_n 1, 1) := by decide +kernel
theorem dX6_apply_34 : decode cX6_apply 34 = .ok (.getfield 317, 3) := by decide +kernel
theorem dX6_apply_37 : decode cX6_apply 37 = .ok (.aload_n 1, 1) := by decide +kernel
theorem dX6_apply_38 : decode cX6_apply 38 = .ok (.getfield 320, 3) := by decide +kernel
theorem dX6_apply_41 : decode cX6_apply 41 = .ok (.aload_n 0, 1) := by decide +kernel
theorem dX6_apply_42 : decode cX6_apply 42 = .ok (.getfield 25, 3) := by decide +kernel
theorem dX6_apply_45 : decode cX6_apply 45 = .ok (.aload_n 1, 1) := by decide +kernel
theorem dX6_apply_46 : decode cX6_apply 46 = .ok (.getfield 317, 3) := by decide +kernel
theorem dX6_apply_49 : decode cX6_apply 49 = .ok (.aload_n 1, 1) := by decide +kernel
theorem dX6_apply_50 : decode cX6_apply 50 = .ok (.getfield 320, 3) := by decide +kernel
theorem dX6_apply_53 : decode cX6_apply 53 = .ok (.invokevirtual 94, 3) := by decide +kernel
theorem dX6_apply_56 : decode cX6_apply 56 = .ok (.invokevirtual 323, 3) := by decide +kernel
theorem dX6_apply_59 : decode cX6_apply 59 = .ok (.goto 66, 3) := by decide +kernel
theorem dX6_apply_62 : decode cX6_apply 62 = .ok (.aload_n 1, 1) := by decide +kernel
theorem dX6_apply_63 : decode cX6_apply 63 = .ok (.getfield 247, 3) := by decide +kernel
theorem dX6_apply_66 : decode cX6_apply 66 = .ok (.bipush 116, 2) := by decide +kernel
theorem dX6_apply_68 : decode cX6_apply 68 = .ok (.if_icmp .ne 16, 3) := by decide +kernel
theorem dX6_apply_71 : decode cX6_apply 71 = .ok (.aload_n 3, 1) := by decide +kernel
theorem dX6_apply_72 : decode cX6_apply 72 = .ok (.aload 4, 2) := by decide +kernel
theorem dX6_apply_74 : decode cX6_apply 74 = .ok (.aload_n 1, 1) := by decide +kernel
theorem dX6_apply_75 : decode cX6_apply 75 = .ok (.getfield 316, 3) := by decide +kernel
theorem dX6_apply_78 : decode cX6_apply 78 = .ok (.invokevirtual 325, 3) := by decide +kernel
theorem dX6_apply_81 : decode cX6_apply 81 = .ok (.goto 44, 3) := by decide +kernel
theorem dX6_apply_84 : decode cX6_apply 84 = .ok (.aload_n 1, 1) := by decide +kernel
theorem dX6_apply_85 : decode cX6_apply 85 = .ok (.getfield 247, 3) := by decide +kernel
theorem dX6_apply_88 : decode cX6_apply 88 = .ok (.bipush 100, 2) := by decide +kernel
theorem dX6_apply_90 : decode cX6_apply 90 = .ok (.if_icmp .ne 18, 3) := by decide +kernel
theorem dX6_apply_93 : decode cX6_apply 93 = .ok (.aload_n 3, 1) := by decide +kernel
theorem dX6_apply_94 : decode cX6_apply 94 = .ok (.aload_n 1, 1) := by decide +kernel
theorem dX6_apply_95 : decode cX6_apply 95 = .ok (.getfield 317, 3) := by decide +kernel
theorem dX6_apply_98 : decode cX6_apply 98 = .ok (.aload_n 0, 1) := by decide +kernel
theorem dX6_apply_99 : decode cX6_apply 99 = .ok (.getfield 25, 3) := by decide +kernel
theorem dX6_apply_102 : decode cX6_apply 102 = .ok (.invokevirtual 328, 3) := by decide +kernel
theorem dX6_apply_105 : decode cX6_apply 105 = .ok (.goto 20, 3) := by decide +kernel
theorem dX6_apply_108 : decode cX6_apply 108 = .ok (.aload_n 3, 1) := by decide +kernel
theorem dX6_apply_109 : decode cX6_apply 109 = .ok (.aload_n 1, 1) := by decide +kernel
theorem dX6_apply_110 : decode cX6_apply 110 = .ok (.getfield 316, 3) := by decide +kernel
theorem dX6_apply_113 : decode cX6_apply 113 = .ok (.invokevirtual 332, 3) := by decide +kernel
theorem dX6_apply_116 : decode cX6_apply 116 = .ok (.aload 4, 2) := by decide +kernel
theorem dX6_apply_118 : decode cX6_apply 118 = .ok (.aload_n 1, 1) := by decide +kernel
theorem dX6_apply_119 : decode cX6_apply 119 = .ok (.getfield 335, 3) := by decide +kernel
theorem dX6_apply_122 : decode cX6_apply 122 = .ok (.invokevirtual 332, 3) := by decide +kernel
theorem dX6_apply_125 : decode cX6_apply 125 = .ok (.return_, 1) := by decide +kernel
theorem dX6_goodBlend_0 : decode cX6_goodBlend 0 = .ok (.aload_n 0, 1) := by decide +kernel
theorem dX6_goodBlend_1 : decode cX6_goodBlend 1 = .ok (.iload_n 1, 1) := by decide +kernel
theorem dX6_goodBlend_2 : decode cX6_goodBlend 2 = .ok (.iload_n 2, 1) := by decide +kernel
theorem dX6_goodBlend_3 : decode cX6_goodBlend 3 = .ok (.iload_n 3, 1) := by decide +kernel
theorem dX6_goodBlend_4 : decode cX6_goodBlend 4 = .ok (.iload 4, 2) := by decide +kernel
theorem dX6_goodBlend_6 : decode cX6_goodBlend 6 = .ok (.invokevirtual 205, 3) := by decide +kernel
theorem dX6_goodBlend_9 : decode cX6_goodBlend 9 = .ok (.aload_n 0, 1) := by decide +kernel
theorem dX6_goodBlend_10 : decode cX6_goodBlend 10 = .ok (.aload_n 0, 1) := by decide +kernel
theorem dX6_goodBlend_11 : decode cX6_goodBlend 11 = .ok (.getfield 12, 3) := by decide +kernel
theorem dX6_goodBlend_14 : decode cX6_goodBlend 14 = .ok (.iload_n 1, 1) := by decide +kernel
theorem dX6_goodBlend_15 : decode cX6_goodBlend 15 = .ok (.invokestatic 75, 3) := by decide +kernel
theorem dX6_goodBlend_18 : decode cX6_goodBlend 18 = .ok (.aload_n 0, 1) := by decide +kernel
theorem dX6_goodBlend_19 : decode cX6_goodBlend 19 = .ok (.getfield 12, 3) := by decide +kernel
theorem dX6_goodBlend_22 : decode cX6_goodBlend 22 = .ok (.iload_n 2, 1) := by decide +kernel
theorem dX6_goodBlend_23 : decode cX6_goodBlend 23 = .ok (.invokestatic 75, 3) := by decide +kernel
theorem dX6_goodBlend_26 : decode cX6_goodBlend 26 = .ok (.iload_n 3, 1) := by decide +kernel
theorem dX6_goodBlend_27 : decode cX6_goodBlend 27 = .ok (.iload_n 3, 1) := by decide +kernel
theorem dX6_goodBlend_28 : decode cX6_goodBlend 28 = .ok (.iload 4, 2) := by decide +kernel
theorem dX6_goodBlend_30 : decode cX6_goodBlend 30 = .ok (.imul, 1) := by decide +kernel
theorem dX6_goodBlend_31 : decode cX6_goodBlend 31 = .ok (.invokevirtual 338, 3) := by decide +kernel
theorem dX6_goodBlend_34 : decode cX6_goodBlend 34 = .ok (.astore 5, 2) := by decide +kernel
theorem dX6_goodBlend_36 : decode cX6_goodBlend 36 = .ok (.aload 5, 2) := by decide +kernel
theorem dX6_goodBlend_38 : decode cX6_goodBlend 38 = .ok (.invokestatic 213, 3) := by decide +kernel
theorem dX6_goodBlend_41 : decode cX6_goodBlend 41 = .ok (.aload 5, 2) := by decide +kernel
theorem dX6_goodBlend_43 : decode cX6_goodBlend 43 = .ok (.areturn, 1) := by decide +kernel
theorem dX6_bestByGoingOn_0 : decode cX6_bestByGoingOn 0 = .ok (.new 203, 3) := by decide +kernel
theorem dX6_bestByGoingOn_3 : decode cX6_bestByGoingOn 3 = .ok (.dup, 1) := by decide +kernel
theorem dX6_bestByGoingOn_4 : decode cX6_bestByGoingOn 4 = .ok (.invokespecial 341, 3) := by decide +kernel
theorem dX6_bestByGoingOn_7 : decode cX6_bestByGoingOn 7 = .ok (.astore 5, 2) := by decide +kernel
theorem dX6_bestByGoingOn_9 : decode cX6_bestByGoingOn 9 = .ok (.new 118, 3) := by decide +kernel
theorem dX6_bestByGoingOn_12 : decode cX6_bestByGoingOn 12 = .ok (.dup, 1) := by decide +kernel
theorem dX6_bestByGoingOn_13 : decode cX6_bestByGoingOn 13 = .ok (.aload_n 1, 1) := by decide +kernel
theorem dX6_bestByGoingOn_14 : decode cX6_bestByGoingOn 14 = .ok (.aload_n 0, 1) := by decide +kernel
theorem dX6_bestByGoingOn_15 : decode cX6_bestByGoingOn 15 = .ok (.getfield 29, 3) := by decide +kernel
theorem dX6_bestByGoingOn_18 : decode cX6_bestByGoingOn 18 = .ok (.invokespecial 120, 3) := by decide +kernel
theorem dX6_bestByGoingOn_21 : decode cX6_bestByGoingOn 21 = .ok (.astore 6, 2) := by decide +kernel
theorem dX6_bestByGoingOn_23 : decode cX6_bestByGoingOn 23 = .ok (.new 118, 3) := by decide +kernel
theorem dX6_bestByGoingOn_26 : decode cX6_bestByGoingOn 26 = .ok (.dup, 1) := by decide +kernel
theorem dX6_bestByGoingOn_27 : decode cX6_bestByGoingOn 27 = .ok (.aload_n 2, 1) := by decide +kernel
theorem dX6_bestByGoingOn_28 : decode cX6_bestByGoingOn 28 = .ok (.aload_n 0, 1) := by decide +kernel
theorem dX6_bestByGoingOn_29 : decode cX6_bestByGoingOn 29 = .ok (.getfield 29, 3) := by decide +kernel
theorem dX6_bestByGoingOn_32 : decode cX6_bestByGoingOn 32 = .ok (.invokespecial 120, 3) := by decide +kernel
theorem dX6_bestByGoingOn_35 : decode cX6_bestByGoingOn 35 = .ok (.astore 7, 2) := by decide +kernel
theorem dX6_bestByGoingOn_37 : decode cX6_bestByGoingOn 37 = .ok (.aload_n 2, 1) := by decide +kernel
theorem dX6_bestByGoingOn_38 : decode cX6_bestByGoingOn 38 = .ok (.iload_n 3, 1) := by decide +kernel
theorem dX6_bestByGoingOn_39 : decode cX6_bestByGoingOn 39 = .ok (.invokestatic 342, 3) := by decide +kernel
theorem dX6_bestByGoingOn_42 : decode cX6_bestByGoingOn 42 = .ok (.istore 8, 2) := by decide +kernel
theorem dX6_bestByGoingOn_44 : decode cX6_bestByGoingOn 44 = .ok (.aload_n 1, 1) := by decide +kernel
theorem dX6_bestByGoingOn_45 : decode cX6_bestByGoingOn 45 = .ok (.getfield 153, 3) := by decide +kernel
theorem dX6_bestByGoingOn_48 : decode cX6_bestByGoingOn 48 = .ok (.iload_n 3, 1) := by decide +kernel
theorem dX6_bestByGoingOn_49 : decode cX6_bestByGoingOn 49 = .ok (.invokestatic 346, 3) := by decide +kernel
theorem dX6_bestByGoingOn_52 : decode cX6_bestByGoingOn 52 = .ok (.istore 9, 2) := by decide +kernel
theorem dX6_bestByGoingOn_54 : decode cX6_bestByGoingOn 54 = .ok (.aload 6, 2) := by decide +kernel
theorem dX6_bestByGoingOn_56 : decode cX6_bestByGoingOn 56 = .ok (.iload 8, 2) := by decide +kernel
theorem dX6_bestByGoingOn_58 : decode cX6_bestByGoingOn 58 = .ok (.invokevirtual 123, 3) := by decide +kernel
theorem dX6_bestByGoingOn_61 : decode cX6_bestByGoingOn 61 = .ok (.aload 7, 2) := by decide +kernel
theorem dX6_bestByGoingOn_63 : decode cX6_bestByGoingOn 63 = .ok (.iload_n 3, 1) := by decide +kernel
theorem dX6_bestByGoingOn_64 : decode cX6_bestByGoingOn 64 = .ok (.iload 8, 2) := by decide +kernel
theorem dX6_bestByGoingOn_66 : decode cX6_bestByGoingOn 66 = .ok (.isub, 1) := by decide +kernel
theorem dX6_bestByGoingOn_67 : decode cX6_bestByGoingOn 67 = .ok (.invokevirtual 123, 3) := by decide +kernel
theorem dX6_bestByGoingOn_70 : decode cX6_bestByGoingOn 70 = .ok (.iload 8, 2) := by decide +kernel
theorem dX6_bestByGoingOn_72 : decode cX6_bestByGoingOn 72 = .ok (.istore 10, 2) := by decide +kernel
theorem dX6_bestByGoingOn_74 : decode cX6_bestByGoingOn 74 = .ok (.iload 10, 2) := by decide +kernel
theorem dX6_bestByGoingOn_76 : decode cX6_bestByGoingOn 76 = .ok (.iload 9, 2) := by decide +kernel
theorem dX6_bestByGoingOn_78 : decode cX6_bestByGoingOn 78 = .ok (.if_icmp .gt 34, 3) := by decide +kernel
theorem dX6_bestByGoingOn_81 : decode cX6_bestByGoingOn 81 = .ok (.aload 5, 2) := by decide +kernel
theorem dX6_bestByGoingOn_83 : decode cX6_bestByGoingOn 83 = .ok (.iload 10, 2) := by decide +kernel
theorem dX6_bestByGoingOn_85 : decode cX6_bestByGoingOn 85 = .ok (.aload 6, 2) := by decide +kernel
theorem dX6_bestByGoingOn_87 : decode cX6_bestByGoingOn 87 = .ok (.aload 7, 2) := by decide +kernel
theorem dX6_bestByGoingOn_89 : decode cX6_bestByGoingOn 89 = .ok (.iload 4, 2) := by decide +kernel
theorem dX6_bestByGoingOn_91 : decode cX6_bestByGoingOn 91 = .ok (.invokevirtual 351, 3) := by decide +kernel
theorem dX6_bestByGoingOn_94 : decode cX6_bestByGoingOn 94 = .ok (.aload 6, 2) := by decide +kernel
theorem dX6_bestByGoingOn_96 : decode cX6_bestByGoingOn 96 = .ok (.iconst 1, 1) := by decide +kernel
theorem dX6_bestByGoingOn_97 : decode cX6_bestByGoingOn 97 = .ok (.invokevirtual 123, 3) := by decide +kernel
theorem dX6_bestByGoingOn_100 : decode cX6_bestByGoingOn 100 = .ok (.aload 7, 2) := by decide +kernel
theorem dX6_bestByGoingOn_102 : decode cX6_bestByGoingOn 102 = .ok (.iconst 1, 1) := by decide +kernel
theorem dX6_bestByGoingOn_103 : decode cX6_bestByGoingOn 103 = .ok (.invokevirtual 355, 3) := by decide +kernel
theorem dX6_bestByGoingOn_106 : decode cX6_bestByGoingOn 106 = .ok (.iinc 10 1, 3) := by decide +kernel
theorem dX6_bestByGoingOn_109 : decode cX6_bestByGoingOn 109 = .ok (.goto (-35), 3) := by decide +kernel
theorem dX6_bestByGoingOn_112 : decode cX6_bestByGoingOn 112 = .ok (.aload 5, 2) := by decide +kernel
theorem dX6_bestByGoingOn_114 : decode cX6_bestByGoingOn 114 = .ok (.areturn, 1) := by decide +kernel
theorem dX6_leastShare_0 : decode cX6_leastShare 0 = .ok (.iconst 0, 1) := by decide +kernel
theorem dX6_leastShare_1 : decode cX6_leastShare 1 = .ok (.iload_n 1, 1) := by decide +kernel
theorem dX6_leastShare_2 : decode cX6_leastShare 2 = .ok (.aload_n 0, 1) := by decide +kernel
theorem dX6_leastShare_3 : decode cX6_leastShare 3 = .ok (.getfield 153, 3) := by decide +kernel
theorem dX6_leastShare_6 : decode cX6_leastShare 6 = .ok (.isub, 1) := by decide +kernel
theorem dX6_leastShare_7 : decode cX6_leastShare 7 = .ok (.invokestatic 361, 3) := by decide +kernel
theorem dX6_leastShare_10 : decode cX6_leastShare 10 = .ok (.ireturn, 1) := by decide +kernel
theorem dX6_gradeOfBlend_0 : decode cX6_gradeOfBlend 0 = .ok (.new 118, 3) := by decide +kernel
theorem dX6_gradeOfBlend_3 : decode cX6_gradeOfBlend 3 = .ok (.dup, 1) := by decide +kernel
theorem dX6_gradeOfBlend_4 : decode cX6_gradeOfBlend 4 = .ok (.aload_n 1, 1) := by decide +kernel
theorem dX6_gradeOfBlend_5 : decode cX6_gradeOfBlend 5 = .ok (.aload_n 0, 1) := by decide +kernel
theorem dX6_gradeOfBlend_6 : decode cX6_gradeOfBlend 6 = .ok (.getfield 29, 3) := by decide +kernel
theorem dX6_gradeOfBlend_9 : decode cX6_gradeOfBlend 9 = .ok (.invokespecial 120, 3) := by decide +kernel
theorem dX6_gradeOfBlend_12 : decode cX6_gradeOfBlend 12 = .ok (.astore 5, 2) := by decide +kernel
theorem dX6_gradeOfBlend_14 : decode cX6_gradeOfBlend 14 = .ok (.new 118, 3) := by decide +kernel
theorem dX6_gradeOfBlend_17 : decode cX6_gradeOfBlend 17 = .ok (.dup, 1) := by decide +kernel
theorem dX6_gradeOfBlend_18 : decode cX6_gradeOfBlend 18 = .ok (.aload_n 2, 1) := by decide +kernel
theorem dX6_gradeOfBlend_19 : decode cX6_gradeOfBlend 19 = .ok (.aload_n 0, 1) := by decide +kernel
theorem dX6_gradeOfBlend_20 : decode cX6_gradeOfBlend 20 = .ok (.getfield 29, 3) := by decide +kernel
theorem dX6_gradeOfBlend_23 : decode cX6_gradeOfBlend 23 = .ok (.invokespecial 120, 3) := by decide +kernel
theorem dX6_gradeOfBlend_26 : decode cX6_gradeOfBlend 26 = .ok (.astore 6, 2) := by decide +kernel
theorem dX6_gradeOfBlend_28 : decode cX6_gradeOfBlend 28 = .ok (.aload 5, 2) := by decide +kernel
theorem dX6_gradeOfBlend_30 : decode cX6_gradeOfBlend 30 = .ok (.iload_n 3, 1) := by decide +kernel
theorem dX6_gradeOfBlend_31 : decode cX6_gradeOfBlend 31 = .ok (.invokevirtual 123, 3) := by decide +kernel
theorem dX6_gradeOfBlend_34 : decode cX6_gradeOfBlend 34 = .ok (.aload 6, 2) := by decide +kernel
theorem dX6_gradeOfBlend_36 : decode cX6_gradeOfBlend 36 = .ok (.iload 4, 2) := by decide +kernel
theorem dX6_gradeOfBlend_38 : decode cX6_gradeOfBlend 38 = .ok (.invokevirtual 123, 3) := by decide +kernel
theorem dX6_gradeOfBlend_41 : decode cX6_gradeOfBlend 41 = .ok (.iload_n 3, 1) := by decide +kernel
theorem dX6_gradeOfBlend_42 : decode cX6_gradeOfBlend 42 = .ok (.iload 4, 2) := by decide +kernel
theorem dX6_gradeOfBlend_44 : decode cX6_gradeOfBlend 44 = .ok (.iadd, 1) := by decide +kernel
theorem dX6_gradeOfBlend_45 : decode cX6_gradeOfBlend 45 = .ok (.istore 7, 2) := by decide +kernel
theorem dX6_gradeOfBlend_47 : decode cX6_gradeOfBlend 47 = .ok (.aload 5, 2) := by decide +kernel
theorem dX6_gradeOfBlend_49 : decode cX6_gradeOfBlend 49 = .ok (.getfield 186, 3) := by decide +kernel
theorem dX6_gradeOfBlend_52 : decode cX6_gradeOfBlend 52 = .ok (.aload 6, 2) := by decide +kernel
theorem dX6_gradeOfBlend_54 : decode cX6_gradeOfBlend 54 = .ok (.getfield 186, 3) := by decide +kernel
theorem dX6_gradeOfBlend_57 : decode cX6_gradeOfBlend 57 = .ok (.iadd, 1) := by decide +kernel
theorem dX6_gradeOfBlend_58 : decode cX6_gradeOfBlend 58 = .ok (.iload 7, 2) := by decide +kernel
theorem dX6_gradeOfBlend_60 : decode cX6_gradeOfBlend 60 = .ok (.invokestatic 364, 3) := by decide +kernel
theorem dX6_gradeOfBlend_63 : decode cX6_gradeOfBlend 63 = .ok (.istore 8, 2) := by decide +kernel
theorem dX6_gradeOfBlend_65 : decode cX6_gradeOfBlend 65 = .ok (.aload 5, 2) := by decide +kernel
theorem dX6_gradeOfBlend_67 : decode cX6_gradeOfBlend 67 = .ok (.getfield 367, 3) := by decide +kernel
theorem dX6_gradeOfBlend_70 : decode cX6_gradeOfBlend 70 = .ok (.aload 6, 2) := by decide +kernel
theorem dX6_gradeOfBlend_72 : decode cX6_gradeOfBlend 72 = .ok (.getfield 367, 3) := by decide +kernel
theorem dX6_gradeOfBlend_75 : decode cX6_gradeOfBlend 75 = .ok (.iadd, 1) := by decide +kernel
theorem dX6_gradeOfBlend_76 : decode cX6_gradeOfBlend 76 = .ok (.iload 7, 2) := by decide +kernel
theorem dX6_gradeOfBlend_78 : decode cX6_gradeOfBlend 78 = .ok (.invokestatic 364, 3) := by decide +kernel
theorem dX6_gradeOfBlend_81 : decode cX6_gradeOfBlend 81 = .ok (.istore 9, 2) := by decide +kernel
theorem dX6_gradeOfBlend_83 : decode cX6_gradeOfBlend 83 = .ok (.aload_n 0, 1) := by decide +kernel
theorem dX6_gradeOfBlend_84 : decode cX6_gradeOfBlend 84 = .ok (.getfield 25, 3) := by decide +kernel
theorem dX6_gradeOfBlend_87 : decode cX6_gradeOfBlend 87 = .ok (.iload 8, 2) := by decide +kernel
theorem dX6_gradeOfBlend_89 : decode cX6_gradeOfBlend 89 = .ok (.iload 9, 2) := by decide +kernel
theorem dX6_gradeOfBlend_91 : decode cX6_gradeOfBlend 91 = .ok (.invokevirtual 94, 3) := by decide +kernel
theorem dX6_gradeOfBlend_94 : decode cX6_gradeOfBlend 94 = .ok (.ireturn, 1) := by decide +kernel
theorem dX6_dividedUp_0 : decode cX6_dividedUp 0 = .ok (.iload_n 1, 1) := by decide +kernel
theorem dX6_dividedUp_1 : decode cX6_dividedUp 1 = .ok (.iconst 1, 1) := by decide +kernel
theorem dX6_dividedUp_2 : decode cX6_dividedUp 2 = .ok (.if_icmp .ge 7, 3) := by decide +kernel
theorem dX6_dividedUp_5 : decode cX6_dividedUp 5 = .ok (.iconst 0, 1) := by decide +kernel
theorem dX6_dividedUp_6 : decode cX6_dividedUp 6 = .ok (.goto 10, 3) := by decide +kernel
theorem dX6_dividedUp_9 : decode cX6_dividedUp 9 = .ok (.iload_n 0, 1) := by decide +kernel
theorem dX6_dividedUp_10 : decode cX6_dividedUp 10 = .ok (.iload_n 1, 1) := by decide +kernel
theorem dX6_dividedUp_11 : decode cX6_dividedUp 11 = .ok (.iadd, 1) := by decide +kernel
theorem dX6_dividedUp_12 : decode cX6_dividedUp 12 = .ok (.iconst 1, 1) := by decide +kernel
theorem dX6_dividedUp_13 : decode cX6_dividedUp 13 = .ok (.isub, 1) := by decide +kernel
theorem dX6_dividedUp_14 : decode cX6_dividedUp 14 = .ok (.iload_n 1, 1) := by decide +kernel
theorem dX6_dividedUp_15 : decode cX6_dividedUp 15 = .ok (.idiv, 1) := by decide +kernel
theorem dX6_dividedUp_16 : decode cX6_dividedUp 16 = .ok (.ireturn, 1) := by decide +kernel
theorem dJ5_init_d00df_0 : decode cJ5_init_d00df 0 = .ok (.aload_n 0, 1) := by decide +kernel
theorem dJ5_init_d00df_1 : decode cJ5_init_d00df 1 = .ok (.invokespecial 3, 3) := by decide +kernel
theorem dJ5_init_d00df_4 : decode cJ5_init_d00df 4 = .ok (.getstatic 18, 3) := by decide +kernel
theorem dJ5_init_d00df_7 : decode cJ5_init_d00df 7 = .ok (.ifCond .eq 18, 3) := by decide +kernel
theorem dJ5_init_d00df_10 : decode cJ5_init_d00df 10 = .ok (.aload_n 0, 1) := by decide +kernel
theorem dJ5_init_d00df_11 : decode cJ5_init_d00df 11 = .ok (.iload_n 1, 1) := by decide +kernel
theorem dJ5_init_d00df_12 : decode cJ5_init_d00df 12 = .ok (.newarray .byte, 2) := by decide +kernel
theorem dJ5_init_d00df_14 : decode cJ5_init_d00df 14 = .ok (.putfield 15, 3) := by decide +kernel
theorem dJ5_init_d00df_17 : decode cJ5_init_d00df 17 = .ok (.aload_n 0, 1) := by decide +kernel
theorem dJ5_init_d00df_18 : decode cJ5_init_d00df 18 = .ok (.iconst 0, 1) := by decide +kernel
theorem dJ5_init_d00df_19 : decode cJ5_init_d00df 19 = .ok (.putfield 22, 3) := by decide +kernel
theorem dJ5_init_d00df_22 : decode cJ5_init_d00df 22 = .ok (.goto 16, 3) := by decide +kernel
theorem dJ5_init_d00df_25 : decode cJ5_init_d00df 25 = .ok (.aload_n 0, 1) := by decide +kernel
theorem dJ5_init_d00df_26 : decode cJ5_init_d00df 26 = .ok (.iload_n 1, 1) := by decide +kernel
theorem dJ5_init_d00df_27 : decode cJ5_init_d00df 27 = .ok (.invokestatic 26, 3) := by decide +kernel
theorem dJ5_init_d00df_30 : decode cJ5_init_d00df 30 = .ok (.putfield 15, 3) := by decide +kernel
theorem dJ5_init_d00df_33 : decode cJ5_init_d00df 33 = .ok (.aload_n 0, 1) := by decide +kernel
theorem dJ5_init_d00df_34 : decode cJ5_init_d00df 34 = .ok (.iconst 1, 1) := by decide +kernel
theorem dJ5_init_d00df_35 : decode cJ5_init_d00df 35 = .ok (.putfield 22, 3) := by decide +kernel
theorem dJ5_init_d00df_38 : decode cJ5_init_d00df 38 = .ok (.return_, 1) := by decide +kernel
theorem dJ5_length_8abf5_0 : decode cJ5_length_8abf5 0 = .ok (.aload_n 0, 1) := by decide +kernel
theorem dJ5_length_8abf5_1 : decode cJ5_length_8abf5 1 = .ok (.getfield 79, 3) := by decide +kernel
theorem dJ5_length_8abf5_4 : decode cJ5_length_8abf5 4 = .ok (.ireturn, 1) := by decide +kernel
theorem dJ5_ensureCapacityInternal_d00df_0 : decode cJ5_ensureCapacityInternal_d00df 0 = .ok (.aload_n 0, 1) := by decide +kernel
theorem dJ5_ensureCapacityInternal_d00df_1 : decode cJ5_ensureCapacityInternal_d00df 1 = .ok (.getfield 15, 3) := by decide +kernel
theorem dJ5_ensureCapacityInternal_d00df_4 : decode cJ5_ensureCapacityInternal_d00df 4 = .ok (.arraylength, 1) := by decide +kernel
theorem dJ5_ensureCapacityInternal_d00df_5 : decode cJ5_ensureCapacityInternal_d00df 5 = .ok (.aload_n 0, 1) := by decide +kernel
theorem dJ5_ensureCapacityInternal_d00df_6 : decode cJ5_ensureCapacityInternal_d00df 6 = .ok (.getfield 22, 3) := by decide +kernel
theorem dJ5_ensureCapacityInternal_d00df_9 : decode cJ5_ensureCapacityInternal_d00df 9 = .ok (.ishr, 1) := by decide +kernel
theorem dJ5_ensureCapacityInternal_d00df_10 : decode cJ5_ensureCapacityInternal_d00df 10 = .ok (.istore_n 2, 1) := by decide +kernel
theorem dJ5_ensureCapacityInternal_d00df_11 : decode cJ5_ensureCapacityInternal_d00df 11 = .ok (.iload_n 1, 1) := by decide +kernel
theorem dJ5_ensureCapacityInternal_d00df_12 : decode cJ5_ensureCapacityInternal_d00df 12 = .ok (.iload_n 2, 1) := by decide +kernel
theorem dJ5_ensureCapacityInternal_d00df_13 : decode cJ5_ensureCapacityInternal_d00df 13 = .ok (.isub, 1) := by decide +kernel
theorem dJ5_ensureCapacityInternal_d00df_14 : decode cJ5_ensureCapacityInternal_d00df 14 = .ok (.ifCond .le 24, 3) := by decide +kernel
theorem dJ5_ensureCapacityInternal_d00df_17 : decode cJ5_ensureCapacityInternal_d00df 17 = .ok (.aload_n 0, 1) := by decide +kernel
theorem dJ5_ensureCapacityInternal_d00df_18 : decode cJ5_ensureCapacityInternal_d00df 18 = .ok (.aload_n 0, 1) := by decide +kernel
theorem dJ5_ensureCapacityInternal_d00df_19 : decode cJ5_ensureCapacityInternal_d00df 19 = .ok (.getfield 15, 3) := by decide +kernel
theorem dJ5_ensureCapacityInternal_d00df_22 : decode cJ5_ensureCapacityInternal_d00df 22 = .ok (.aload_n 0, 1) := by decide +kernel
theorem dJ5_ensureCapacityInternal_d00df_23 : decode cJ5_ensureCapacityInternal_d00df 23 = .ok (.iload_n 1, 1) := by decide +kernel
theorem dJ5_ensureCapacityInternal_d00df_24 : decode cJ5_ensureCapacityInternal_d00df 24 = .ok (.invokevirtual 104, 3) := by decide +kernel
theorem dJ5_ensureCapacityInternal_d00df_27 : decode cJ5_ensureCapacityInternal_d00df 27 = .ok (.aload_n 0, 1) := by decide +kernel
theorem dJ5_ensureCapacityInternal_d00df_28 : decode cJ5_ensureCapacityInternal_d00df 28 = .ok (.getfield 22, 3) := by decide +kernel
theorem dJ5_ensureCapacityInternal_d00df_31 : decode cJ5_ensureCapacityInternal_d00df 31 = .ok (.ishl, 1) := by decide +kernel
theorem dJ5_ensureCapacityInternal_d00df_32 : decode cJ5_ensureCapacityInternal_d00df 32 = .ok (.invokestatic 108, 3) := by decide +kernel
theorem dJ5_ensureCapacityInternal_d00df_35 : decode cJ5_ensureCapacityInternal_d00df 35 = .ok (.putfield 15, 3) := by decide +kernel
theorem dJ5_ensureCapacityInternal_d00df_38 : decode cJ5_ensureCapacityInternal_d00df 38 = .ok (.return_, 1) := by decide +kernel
theorem dJ5_newCapacity_0f7a4_0 : decode cJ5_newCapacity_0f7a4 0 = .ok (.aload_n 0, 1) := by decide +kernel
theorem dJ5_newCapacity_0f7a4_1 : decode cJ5_newCapacity_0f7a4 1 = .ok (.getfield 15, 3) := by decide +kernel
theorem dJ5_newCapacity_0f7a4_4 : decode cJ5_newCapacity_0f7a4 4 = .ok (.arraylength, 1) := by decide +kernel
theorem dJ5_newCapacity_0f7a4_5 : decode cJ5_newCapacity_0f7a4 5 = .ok (.istore_n 2, 1) := by decide +kernel
theorem dJ5_newCapacity_0f7a4_6 : decode cJ5_newCapacity_0f7a4 6 = .ok (.iload_n 1, 1) := by decide +kernel
theorem dJ5_newCapacity_0f7a4_7 : decode cJ5_newCapacity_0f7a4 7 = .ok (.aload_n 0, 1) := by decide +kernel
theorem dJ5_newCapacity_0f7a4_8 : decode cJ5_newCapacity_0f7a4 8 = .ok (.getfield 22, 3) := by decide +kernel
theorem dJ5_newCapacity_0f7a4_11 : decode cJ5_newCapacity_0f7a4 11 = .ok (.ishl, 1) := by decide +kernel
theorem dJ5_newCapacity_0f7a4_12 : decode cJ5_newCapacity_0f7a4 12 = .ok (.istore_n 3, 1) := by decide +kernel
theorem dJ5_newCapacity_0f7a4_13 : decode cJ5_newCapacity_0f7a4 13 = .ok (.iload_n 3, 1) := by decide +kernel
theorem dJ5_newCapacity_0f7a4_14 : decode cJ5_newCapacity_0f7a4 14 = .ok (.iload_n 2, 1) := by decide +kernel
theorem dJ5_newCapacity_0f7a4_15 : decode cJ5_newCapacity_0f7a4 15 = .ok (.isub, 1) := by decide +kernel
theorem dJ5_newCapacity_0f7a4_16 : decode cJ5_newCapacity_0f7a4 16 = .ok (.istore 4, 2) := by decide +kernel
theorem dJ5_newCapacity_0f7a4_18 : decode cJ5_newCapacity_0f7a4 18 = .ok (.iload_n 2, 1) := by decide +kernel
theorem dJ5_newCapacity_0f7a4_19 : decode cJ5_newCapacity_0f7a4 19 = .ok (.iload 4, 2) := by decide +kernel
theorem dJ5_newCapacity_0f7a4_21 : decode cJ5_newCapacity_0f7a4 21 = .ok (.iload_n 2, 1) := by decide +kernel
theorem dJ5_newCapacity_0f7a4_22 : decode cJ5_newCapacity_0f7a4 22 = .ok (.iconst 2, 1) := by decide +kernel
theorem dJ5_newCapacity_0f7a4_23 : decode cJ5_newCapacity_0f7a4 23 = .ok (.aload_n 0, 1) := by decide +kernel
theorem dJ5_newCapacity_0f7a4_24 : decode cJ5_newCapacity_0f7a4 24 = .ok (.getfield 22, 3) := by decide +kernel
theorem dJ5_newCapacity_0f7a4_27 : decode cJ5_newCapacity_0f7a4 27 = .ok (.ishl, 1) := by decide +kernel
theorem dJ5_newCapacity_0f7a4_28 : decode cJ5_newCapacity_0f7a4 28 = .ok (.iadd, 1) := by decide +kernel
theorem dJ5_newCapacity_0f7a4_29 : decode cJ5_newCapacity_0f7a4 29 = .ok (.invokestatic 114, 3) := by decide +kernel
theorem dJ5_newCapacity_0f7a4_32 : decode cJ5_newCapacity_0f7a4 32 = .ok (.istore 5, 2) := by decide +kernel
theorem dJ5_newCapacity_0f7a4_34 : decode cJ5_newCapacity_0f7a4 34 = .ok (.iload 5, 2) := by decide +kernel
theorem dJ5_newCapacity_0f7a4_36 : decode cJ5_newCapacity_0f7a4 36 = .ok (.ldc 39, 2) := by decide +kernel
theorem dJ5_newCapacity_0f7a4_38 : decode cJ5_newCapacity_0f7a4 38 = .ok (.if_icmp .ne 13, 3) := by decide +kernel
theorem dJ5_newCapacity_0f7a4_41 : decode cJ5_newCapacity_0f7a4 41 = .ok (.new 120, 3) := by decide +kernel
theorem dJ5_newCapacity_0f7a4_44 : decode cJ5_newCapacity_0f7a4 44 = .ok (.dup, 1) := by decide +kernel
theorem dJ5_newCapacity_0f7a4_45 : decode cJ5_newCapacity_0f7a4 45 = .ok (.ldc 122, 2) := by decide +kernel
theorem dJ5_newCapacity_0f7a4_47 : decode cJ5_newCapacity_0f7a4 47 = .ok (.invokespecial 124, 3) := by decide +kernel
theorem dJ5_newCapacity_0f7a4_50 : decode cJ5_newCapacity_0f7a4 50 = .ok (.athrow, 1) := by decide +kernel
theorem dJ5_newCapacity_0f7a4_51 : decode cJ5_newCapacity_0f7a4 51 = .ok (.iload 5, 2) := by decide +kernel
theorem dJ5_newCapacity_0f7a4_53 : decode cJ5_newCapacity_0f7a4 53 = .ok (.aload_n 0, 1) := by decide +kernel
theorem dJ5_newCapacity_0f7a4_54 : decode cJ5_newCapacity_0f7a4 54 = .ok (.getfield 22, 3) := by decide +kernel
theorem dJ5_newCapacity_0f7a4_57 : decode cJ5_newCapacity_0f7a4 57 = .ok (.ishr, 1) := by decide +kernel
theorem dJ5_newCapacity_0f7a4_58 : decode cJ5_newCapacity_0f7a4 58 = .ok (.ireturn, 1) := by decide +kernel
theorem dJ5_inflate_da8c8_0 : decode cJ5_inflate_da8c8 0 = .ok (.aload_n 0, 1) := by decide +kernel
theorem dJ5_inflate_da8c8_1 : decode cJ5_inflate_da8c8 1 = .ok (.invokevirtual 83, 3) := by decide +kernel
theorem dJ5_inflate_da8c8_4 : decode cJ5_inflate_da8c8 4 = .ok (.ifCond .ne 4, 3) := by decide +kernel
theorem dJ5_inflate_da8c8_7 : decode cJ5_inflate_da8c8 7 = .ok (.return_, 1) := by decide +kernel
theorem dJ5_inflate_da8c8_8 : decode cJ5_inflate_da8c8 8 = .ok (.aload_n 0, 1) := by decide +kernel
theorem dJ5_inflate_da8c8_9 : decode cJ5_inflate_da8c8 9 = .ok (.getfield 15, 3) := by decide +kernel
theorem dJ5_inflate_da8c8_12 : decode cJ5_inflate_da8c8 12 = .ok (.arraylength, 1) := by decide +kernel
theorem dJ5_inflate_da8c8_13 : decode cJ5_inflate_da8c8 13 = .ok (.invokestatic 26, 3) := by decide +kernel
theorem dJ5_inflate_da8c8_16 : decode cJ5_inflate_da8c8 16 = .ok (.astore_n 1, 1) := by decide +kernel
theorem dJ5_inflate_da8c8_17 : decode cJ5_inflate_da8c8 17 = .ok (.aload_n 0, 1) := by decide +kernel
theorem dJ5_inflate_da8c8_18 : decode cJ5_inflate_da8c8 18 = .ok (.getfield 15, 3) := by decide +kernel
theorem dJ5_inflate_da8c8_21 : decode cJ5_inflate_da8c8 21 = .ok (.iconst 0, 1) := by decide +kernel
theorem dJ5_inflate_da8c8_22 : decode cJ5_inflate_da8c8 22 = .ok (.aload_n 1, 1) := by decide +kernel
theorem dJ5_inflate_da8c8_23 : decode cJ5_inflate_da8c8 23 = .ok (.iconst 0, 1) := by decide +kernel
theorem dJ5_inflate_da8c8_24 : decode cJ5_inflate_da8c8 24 = .ok (.aload_n 0, 1) := by decide +kernel
theorem dJ5_inflate_da8c8_25 : decode cJ5_inflate_da8c8 25 = .ok (.getfield 79, 3) := by decide +kernel
theorem dJ5_inflate_da8c8_28 : decode cJ5_inflate_da8c8 28 = .ok (.invokestatic 125, 3) := by decide +kernel
theorem dJ5_inflate_da8c8_31 : decode cJ5_inflate_da8c8 31 = .ok (.aload_n 0, 1) := by decide +kernel
theorem dJ5_inflate_da8c8_32 : decode cJ5_inflate_da8c8 32 = .ok (.aload_n 1, 1) := by decide +kernel
theorem dJ5_inflate_da8c8_33 : decode cJ5_inflate_da8c8 33 = .ok (.putfield 15, 3) := by decide +kernel
theorem dJ5_inflate_da8c8_36 : decode cJ5_inflate_da8c8 36 = .ok (.aload_n 0, 1) := by decide +kernel
theorem dJ5_inflate_da8c8_37 : decode cJ5_inflate_da8c8 37 = .ok (.iconst 1, 1) := by decide +kernel
theorem dJ5_inflate_da8c8_38 : decode cJ5_inflate_da8c8 38 = .ok (.putfield 22, 3) := by decide +kernel
theorem dJ5_inflate_da8c8_41 : decode cJ5_inflate_da8c8 41 = .ok (.return_, 1) := by decide +kernel
theorem dJ5_setLength_d00df_0 : decode cJ5_setLength_d00df 0 = .ok (.iload_n 1, 1) := by decide +kernel
theorem dJ5_setLength_d00df_1 : decode cJ5_setLength_d00df 1 = .ok (.ifCond .ge 12, 3) := by decide +kernel
theorem dJ5_setLength_d00df_4 : decode cJ5_setLength_d00df 4 = .ok (.new 129, 3) := by decide +kernel
theorem dJ5_setLength_d00df_7 : decode cJ5_setLength_d00df 7 = .ok (.dup, 1) := by decide +kernel
theorem dJ5_setLength_d00df_8 : decode cJ5_setLength_d00df 8 = .ok (.iload_n 1, 1) := by decide +kernel
theorem dJ5_setLength_d00df_9 : decode cJ5_setLength_d00df 9 = .ok (.invokespecial 131, 3) := by decide +kernel
theorem dJ5_setLength_d00df_12 : decode cJ5_setLength_d00df 12 = .ok (.athrow, 1) := by decide +kernel
theorem dJ5_setLength_d00df_13 : decode cJ5_setLength_d00df 13 = .ok (.aload_n 0, 1) := by decide +kernel
theorem dJ5_setLength_d00df_14 : decode cJ5_setLength_d00df 14 = .ok (.iload_n 1, 1) := by decide +kernel
theorem dJ5_setLength_d00df_15 : decode cJ5_setLength_d00df 15 = .ok (.invokevirtual 100, 3) := by decide +kernel
theorem dJ5_setLength_d00df_18 : decode cJ5_setLength_d00df 18 = .ok (.aload_n 0, 1) := by decide +kernel
theorem dJ5_setLength_d00df_19 : decode cJ5_setLength_d00df 19 = .ok (.getfield 79, 3) := by decide +kernel
theorem dJ5_setLength_d00df_22 : decode cJ5_setLength_d00df 22 = .ok (.iload_n 1, 1) := by decide +kernel
theorem dJ5_setLength_d00df_23 : decode cJ5_setLength_d00df 23 = .ok (.if_icmp .ge 40, 3) := by decide +kernel
theorem dJ5_setLength_d00df_26 : decode cJ5_setLength_d00df 26 = .ok (.aload_n 0, 1) := by decide +kernel
theorem dJ5_setLength_d00df_27 : decode cJ5_setLength_d00df 27 = .ok (.invokevirtual 83, 3) := by decide +kernel
theorem dJ5_setLength_d00df_30 : decode cJ5_setLength_d00df 30 = .ok (.ifCond .eq 18, 3) := by decide +kernel
theorem dJ5_setLength_d00df_33 : decode cJ5_setLength_d00df 33 = .ok (.aload_n 0, 1) := by decide +kernel
theorem dJ5_setLength_d00df_34 : decode cJ5_setLength_d00df 34 = .ok (.getfield 15, 3) := by decide +kernel
theorem dJ5_setLength_d00df_37 : decode cJ5_setLength_d00df 37 = .ok (.aload_n 0, 1) := by decide +kernel
theorem dJ5_setLength_d00df_38 : decode cJ5_setLength_d00df 38 = .ok (.getfield 79, 3) := by decide +kernel
theorem dJ5_setLength_d00df_41 : decode cJ5_setLength_d00df 41 = .ok (.iload_n 1, 1) := by decide +kernel
theorem dJ5_setLength_d00df_42 : decode cJ5_setLength_d00df 42 = .ok (.invokestatic 133, 3) := by decide +kernel
theorem dJ5_setLength_d00df_45 : decode cJ5_setLength_d00df 45 = .ok (.goto 31, 3) := by decide +kernel
theorem dJ5_setLength_d00df_48 : decode cJ5_setLength_d00df 48 = .ok (.aload_n 0, 1) := by decide +kernel
theorem dJ5_setLength_d00df_49 : decode cJ5_setLength_d00df 49 = .ok (.getfield 15, 3) := by decide +kernel
theorem dJ5_setLength_d00df_52 : decode cJ5_setLength_d00df 52 = .ok (.aload_n 0, 1) := by decide +kernel
theorem dJ5_setLength_d00df_53 : decode cJ5_setLength_d00df 53 = .ok (.getfield 79, 3) := by decide +kernel
theorem dJ5_setLength_d00df_56 : decode cJ5_setLength_d00df 56 = .ok (.iload_n 1, 1) := by decide +kernel
theorem dJ5_setLength_d00df_57 : decode cJ5_setLength_d00df 57 = .ok (.invokestatic 137, 3) := by decide +kernel
theorem dJ5_setLength_d00df_60 : decode cJ5_setLength_d00df 60 = .ok (.goto 16, 3) := by decide +kernel
theorem dJ5_setLength_d00df_63 : decode cJ5_setLength_d00df 63 = .ok (.aload_n 0, 1) := by decide +kernel
theorem dJ5_setLength_d00df_64 : decode cJ5_setLength_d00df 64 = .ok (.getfield 79, 3) := by decide +kernel
theorem dJ5_setLength_d00df_67 : decode cJ5_setLength_d00df 67 = .ok (.iload_n 1, 1) := by decide +kernel
theorem dJ5_setLength_d00df_68 : decode cJ5_setLength_d00df 68 = .ok (.if_icmp .le 8, 3) := by decide +kernel
theorem dJ5_setLength_d00df_71 : decode cJ5_setLength_d00df 71 = .ok (.aload_n 0, 1) := by decide +kernel
theorem dJ5_setLength_d00df_72 : decode cJ5_setLength_d00df 72 = .ok (.iconst 1, 1) := by decide +kernel
theorem dJ5_setLength_d00df_73 : decode cJ5_setLength_d00df 73 = .ok (.putfield 73, 3) := by decide +kernel
theorem dJ5_setLength_d00df_76 : decode cJ5_setLength_d00df 76 = .ok (.aload_n 0, 1) := by decide +kernel
theorem dJ5_setLength_d00df_77 : decode cJ5_setLength_d00df 77 = .ok (.iload_n 1, 1) := by decide +kernel
theorem dJ5_setLength_d00df_78 : decode cJ5_setLength_d00df 78 = .ok (.putfield 79, 3) := by decide +kernel
theorem dJ5_setLength_d00df_81 : decode cJ5_setLength_d00df 81 = .ok (.return_, 1) := by decide +kernel
theorem dJ5_charAt_5068e_0 : decode cJ5_charAt_5068e 0 = .ok (.aload_n 0, 1) := by decide +kernel
theorem dJ5_charAt_5068e_1 : decode cJ5_charAt_5068e 1 = .ok (.getfield 22, 3) := by decide +kernel
theorem dJ5_charAt_5068e_4 : decode cJ5_charAt_5068e 4 = .ok (.istore_n 2, 1) := by decide +kernel
theorem dJ5_charAt_5068e_5 : decode cJ5_charAt_5068e 5 = .ok (.aload_n 0, 1) := by decide +kernel
theorem dJ5_charAt_5068e_6 : decode cJ5_charAt_5068e 6 = .ok (.getfield 15, 3) := by decide +kernel
theorem dJ5_charAt_5068e_9 : decode cJ5_charAt_5068e 9 = .ok (.astore_n 3, 1) := by decide +kernel
theorem dJ5_charAt_5068e_10 : decode cJ5_charAt_5068e 10 = .ok (.aload_n 0, 1) := by decide +kernel
theorem dJ5_charAt_5068e_11 : decode cJ5_charAt_5068e 11 = .ok (.getfield 79, 3) := by decide +kernel
theorem dJ5_charAt_5068e_14 : decode cJ5_charAt_5068e 14 = .ok (.aload_n 3, 1) := by decide +kernel
theorem dJ5_charAt_5068e_15 : decode cJ5_charAt_5068e 15 = .ok (.arraylength, 1) := by decide +kernel
theorem dJ5_charAt_5068e_16 : decode cJ5_charAt_5068e 16 = .ok (.iload_n 2, 1) := by decide +kernel
theorem dJ5_charAt_5068e_17 : decode cJ5_charAt_5068e 17 = .ok (.ishr, 1) := by decide +kernel
theorem dJ5_charAt_5068e_18 : decode cJ5_charAt_5068e 18 = .ok (.invokestatic 138, 3) := by decide +kernel
theorem dJ5_charAt_5068e_21 : decode cJ5_charAt_5068e 21 = .ok (.istore 4, 2) := by decide +kernel
theorem dJ5_charAt_5068e_23 : decode cJ5_charAt_5068e 23 = .ok (.iload_n 1, 1) := by decide +kernel
theorem dJ5_charAt_5068e_24 : decode cJ5_charAt_5068e 24 = .ok (.iload 4, 2) := by decide +kernel
theorem dJ5_charAt_5068e_26 : decode cJ5_charAt_5068e 26 = .ok (.invokestatic 144, 3) := by decide +kernel
theorem dJ5_charAt_5068e_29 : decode cJ5_charAt_5068e 29 = .ok (.iload_n 2, 1) := by decide +kernel
theorem dJ5_charAt_5068e_30 : decode cJ5_charAt_5068e 30 = .ok (.ifCond .ne 12, 3) := by decide +kernel
theorem dJ5_charAt_5068e_33 : decode cJ5_charAt_5068e 33 = .ok (.aload_n 3, 1) := by decide +kernel
theorem dJ5_charAt_5068e_34 : decode cJ5_charAt_5068e 34 = .ok (.iload_n 1, 1) := by decide +kernel
theorem dJ5_charAt_5068e_35 : decode cJ5_charAt_5068e 35 = .ok (.baload, 1) := by decide +kernel
theorem dJ5_charAt_5068e_36 : decode cJ5_charAt_5068e 36 = .ok (.sipush 255, 3) := by decide +kernel
theorem dJ5_charAt_5068e_39 : decode cJ5_charAt_5068e 39 = .ok (.iand, 1) := by decide +kernel
theorem dJ5_charAt_5068e_40 : decode cJ5_charAt_5068e 40 = .ok (.i2c, 1) := by decide +kernel
theorem dJ5_charAt_5068e_41 : decode cJ5_charAt_5068e 41 = .ok (.ireturn, 1) := by decide +kernel
theorem dJ5_charAt_5068e_42 : decode cJ5_charAt_5068e 42 = .ok (.aload_n 3, 1) := by decide +kernel
theorem dJ5_charAt_5068e_43 : decode cJ5_charAt_5068e 43 = .ok (.iload_n 1, 1) := by decide +kernel
theorem dJ5_charAt_5068e_44 : decode cJ5_charAt_5068e 44 = .ok (.invokestatic 148, 3) := by decide +kernel
theorem dJ5_charAt_5068e_47 : decode cJ5_charAt_5068e 47 = .ok (.ireturn, 1) := by decide +kernel
theorem dJ5_append_cf1ce_0 : decode cJ5_append_cf1ce 0 = .ok (.aload_n 1, 1) := by decide +kernel
theorem dJ5_append_cf1ce_1 : decode cJ5_append_cf1ce 1 = .ok (.ifnonnull 8, 3) := by decide +kernel
theorem dJ5_append_cf1ce_4 : decode cJ5_append_cf1ce 4 = .ok (.aload_n 0, 1) := by decide +kernel
theorem dJ5_append_cf1ce_5 : decode cJ5_append_cf1ce 5 = .ok (.invokevirtual 204, 3) := by decide +kernel
theorem dJ5_append_cf1ce_8 : decode cJ5_append_cf1ce 8 = .ok (.areturn, 1) := by decide +kernel
theorem dJ5_append_cf1ce_9 : decode cJ5_append_cf1ce 9 = .ok (.aload_n 1, 1) := by decide +kernel
theorem dJ5_append_cf1ce_10 : decode cJ5_append_cf1ce 10 = .ok (.invokevirtual 32, 3) := by decide +kernel
theorem dJ5_append_cf1ce_13 : decode cJ5_append_cf1ce 13 = .ok (.istore_n 2, 1) := by decide +kernel
theorem dJ5_append_cf1ce_14 : decode cJ5_append_cf1ce 14 = .ok (.aload_n 0, 1) := by decide +kernel
theorem dJ5_append_cf1ce_15 : decode cJ5_append_cf1ce 15 = .ok (.aload_n 0, 1) := by decide +kernel
theorem dJ5_append_cf1ce_16 : decode cJ5_append_cf1ce 16 = .ok (.getfield 79, 3) := by decide +kernel
theorem dJ5_append_cf1ce_19 : decode cJ5_append_cf1ce 19 = .ok (.iload_n 2, 1) := by decide +kernel
theorem dJ5_append_cf1ce_20 : decode cJ5_append_cf1ce 20 = .ok (.iadd, 1) := by decide +kernel
theorem dJ5_append_cf1ce_21 : decode cJ5_append_cf1ce 21 = .ok (.invokevirtual 100, 3) := by decide +kernel
theorem dJ5_append_cf1ce_24 : decode cJ5_append_cf1ce 24 = .ok (.aload_n 0, 1) := by decide +kernel
theorem dJ5_append_cf1ce_25 : decode cJ5_append_cf1ce 25 = .ok (.aload_n 0, 1) := by decide +kernel
theorem dJ5_append_cf1ce_26 : decode cJ5_append_cf1ce 26 = .ok (.getfield 79, 3) := by decide +kernel
theorem dJ5_append_cf1ce_29 : decode cJ5_append_cf1ce 29 = .ok (.aload_n 1, 1) := by decide +kernel
theorem dJ5_append_cf1ce_30 : decode cJ5_append_cf1ce 30 = .ok (.invokevirtual 208, 3) := by decide +kernel
theorem dJ5_append_cf1ce_33 : decode cJ5_append_cf1ce 33 = .ok (.aload_n 0, 1) := by decide +kernel
theorem dJ5_append_cf1ce_34 : decode cJ5_append_cf1ce 34 = .ok (.dup, 1) := by decide +kernel
theorem dJ5_append_cf1ce_35 : decode cJ5_append_cf1ce 35 = .ok (.getfield 79, 3) := by decide +kernel
theorem dJ5_append_cf1ce_38 : decode cJ5_append_cf1ce 38 = .ok (.iload_n 2, 1) := by decide +kernel
theorem dJ5_append_cf1ce_39 : decode cJ5_append_cf1ce 39 = .ok (.iadd, 1) := by decide +kernel
theorem dJ5_append_cf1ce_40 : decode cJ5_append_cf1ce 40 = .ok (.putfield 79, 3) := by decide +kernel
theorem dJ5_append_cf1ce_43 : decode cJ5_append_cf1ce 43 = .ok (.aload_n 0, 1) := by decide +kernel
theorem dJ5_append_cf1ce_44 : decode cJ5_append_cf1ce 44 = .ok (.areturn, 1) := by decide +kernel
theorem dJ5_appendNull_278bc_0 : decode cJ5_appendNull_278bc 0 = .ok (.aload_n 0, 1) := by decide +kernel
theorem dJ5_appendNull_278bc_1 : decode cJ5_appendNull_278bc 1 = .ok (.aload_n 0, 1) := by decide +kernel
theorem dJ5_appendNull_278bc_2 : decode cJ5_appendNull_278bc 2 = .ok (.getfield 79, 3) := by decide +kernel
theorem dJ5_appendNull_278bc_5 : decode cJ5_appendNull_278bc 5 = .ok (.iconst 4, 1) := by decide +kernel
theorem dJ5_appendNull_278bc_6 : decode cJ5_appendNull_278bc 6 = .ok (.iadd, 1) := by decide +kernel
theorem dJ5_appendNull_278bc_7 : decode cJ5_appendNull_278bc 7 = .ok (.invokevirtual 100, 3) := by decide +kernel
theorem dJ5_appendNull_278bc_10 : decode cJ5_appendNull_278bc 10 = .ok (.aload_n 0, 1) := by decide +kernel
theorem dJ5_appendNull_278bc_11 : decode cJ5_appendNull_278bc 11 = .ok (.getfield 79, 3) := by decide +kernel
theorem dJ5_appendNull_278bc_14 : decode cJ5_appendNull_278bc 14 = .ok (.istore_n 1, 1) := by decide +kernel
theorem dJ5_appendNull_278bc_15 : decode cJ5_appendNull_278bc 15 = .ok (.aload_n 0, 1) := by decide +kernel
theorem dJ5_appendNull_278bc_16 : decode cJ5_appendNull_278bc 16 = .ok (.getfield 15, 3) := by decide +kernel
theorem dJ5_appendNull_278bc_19 : decode cJ5_appendNull_278bc 19 = .ok (.astore_n 2, 1) := by decide +kernel
theorem dJ5_appendNull_278bc_20 : decode cJ5_appendNull_278bc 20 = .ok (.aload_n 0, 1) := by decide +kernel
theorem dJ5_appendNull_278bc_21 : decode cJ5_appendNull_278bc 21 = .ok (.invokevirtual 83, 3) := by decide +kernel
theorem dJ5_appendNull_278bc_24 : decode cJ5_appendNull_278bc 24 = .ok (.ifCond .eq 38, 3) := by decide +kernel
theorem dJ5_appendNull_278bc_27 : decode cJ5_appendNull_278bc 27 = .ok (.aload_n 2, 1) := by decide +kernel
theorem dJ5_appendNull_278bc_28 : decode cJ5_appendNull_278bc 28 = .ok (.iload_n 1, 1) := by decide +kernel
theorem dJ5_appendNull_278bc_29 : decode cJ5_appendNull_278bc 29 = .ok (.iinc 1 1, 3) := by decide +kernel
theorem dJ5_appendNull_278bc_32 : decode cJ5_appendNull_278bc 32 = .ok (.bipush 110, 2) := by decide +kernel
theorem dJ5_appendNull_278bc_34 : decode cJ5_appendNull_278bc 34 = .ok (.bastore, 1) := by decide +kernel
theorem dJ5_appendNull_278bc_35 : decode cJ5_appendNull_278bc 35 = .ok (.aload_n 2, 1) := by decide +kernel
theorem dJ5_appendNull_278bc_36 : decode cJ5_appendNull_278bc 36 = .ok (.iload_n 1, 1) := by decide +kernel
theorem dJ5_appendNull_278bc_37 : decode cJ5_appendNull_278bc 37 = .ok (.iinc 1 1, 3) := by decide +kernel
theorem dJ5_appendNull_278bc_40 : decode cJ5_appendNull_278bc 40 = .ok (.bipush 117, 2) := by decide +kernel
theorem dJ5_appendNull_278bc_42 : decode cJ5_appendNull_278bc 42 = .ok (.bastore, 1) := by decide +kernel
theorem dJ5_appendNull_278bc_43 : decode cJ5_appendNull_278bc 43 = .ok (.aload_n 2, 1) := by decide +kernel
theorem dJ5_appendNull_278bc_44 : decode cJ5_appendNull_278bc 44 = .ok (.iload_n 1, 1) := by decide +kernel
theorem dJ5_appendNull_278bc_45 : decode cJ5_appendNull_278bc 45 = .ok (.iinc 1 1, 3) := by decide +kernel
theorem dJ5_appendNull_278bc_48 : decode cJ5_appendNull_278bc 48 = .ok (.bipush 108, 2) := by decide +kernel
theorem dJ5_appendNull_278bc_50 : decode cJ5_appendNull_278bc 50 = .ok (.bastore, 1) := by decide +kernel
theorem dJ5_appendNull_278bc_51 : decode cJ5_appendNull_278bc 51 = .ok (.aload_n 2, 1) := by decide +kernel
theorem dJ5_appendNull_278bc_52 : decode cJ5_appendNull_278bc 52 = .ok (.iload_n 1, 1) := by decide +kernel
theorem dJ5_appendNull_278bc_53 : decode cJ5_appendNull_278bc 53 = .ok (.iinc 1 1, 3) := by decide +kernel
theorem dJ5_appendNull_278bc_56 : decode cJ5_appendNull_278bc 56 = .ok (.bipush 108, 2) := by decide +kernel
theorem dJ5_appendNull_278bc_58 : decode cJ5_appendNull_278bc 58 = .ok (.bastore, 1) := by decide +kernel
theorem dJ5_appendNull_278bc_59 : decode cJ5_appendNull_278bc 59 = .ok (.goto 17, 3) := by decide +kernel
theorem dJ5_appendNull_278bc_62 : decode cJ5_appendNull_278bc 62 = .ok (.aload_n 2, 1) := by decide +kernel
theorem dJ5_appendNull_278bc_63 : decode cJ5_appendNull_278bc 63 = .ok (.iload_n 1, 1) := by decide +kernel
theorem dJ5_appendNull_278bc_64 : decode cJ5_appendNull_278bc 64 = .ok (.bipush 110, 2) := by decide +kernel
theorem dJ5_appendNull_278bc_66 : decode cJ5_appendNull_278bc 66 = .ok (.bipush 117, 2) := by decide +kernel
theorem dJ5_appendNull_278bc_68 : decode cJ5_appendNull_278bc 68 = .ok (.bipush 108, 2) := by decide +kernel
theorem dJ5_appendNull_278bc_70 : decode cJ5_appendNull_278bc 70 = .ok (.bipush 108, 2) := by decide +kernel
theorem dJ5_appendNull_278bc_72 : decode cJ5_appendNull_278bc 72 = .ok (.invokestatic 226, 3) := by decide +kernel
theorem dJ5_appendNull_278bc_75 : decode cJ5_appendNull_278bc 75 = .ok (.istore_n 1, 1) := by decide +kernel
theorem dJ5_appendNull_278bc_76 : decode cJ5_appendNull_278bc 76 = .ok (.aload_n 0, 1) := by decide +kernel
theorem dJ5_appendNull_278bc_77 : decode cJ5_appendNull_278bc 77 = .ok (.iload_n 1, 1) := by decide +kernel
theorem dJ5_appendNull_278bc_78 : decode cJ5_appendNull_278bc 78 = .ok (.putfield 79, 3) := by decide +kernel
theorem dJ5_appendNull_278bc_81 : decode cJ5_appendNull_278bc 81 = .ok (.aload_n 0, 1) := by decide +kernel
theorem dJ5_appendNull_278bc_82 : decode cJ5_appendNull_278bc 82 = .ok (.areturn, 1) := by decide +kernel
theorem dJ5_append_3fe6f_0 : decode cJ5_append_3fe6f 0 = .ok (.aload_n 0, 1) := by decide +kernel
theorem dJ5_append_3fe6f_1 : decode cJ5_append_3fe6f 1 = .ok (.aload_n 0, 1) := by decide +kernel
theorem dJ5_append_3fe6f_2 : decode cJ5_append_3fe6f 2 = .ok (.getfield 79, 3) := by decide +kernel
theorem dJ5_append_3fe6f_5 : decode cJ5_append_3fe6f 5 = .ok (.iconst 1, 1) := by decide +kernel
theorem dJ5_append_3fe6f_6 : decode cJ5_append_3fe6f 6 = .ok (.iadd, 1) := by decide +kernel
theorem dJ5_append_3fe6f_7 : decode cJ5_append_3fe6f 7 = .ok (.invokevirtual 100, 3) := by decide +kernel
theorem dJ5_append_3fe6f_10 : decode cJ5_append_3fe6f 10 = .ok (.aload_n 0, 1) := by decide +kernel
theorem dJ5_append_3fe6f_11 : decode cJ5_append_3fe6f 11 = .ok (.invokevirtual 83, 3) := by decide +kernel
theorem dJ5_append_3fe6f_14 : decode cJ5_append_3fe6f 14 = .ok (.ifCond .eq 31, 3) := by decide +kernel
theorem dJ5_append_3fe6f_17 : decode cJ5_append_3fe6f 17 = .ok (.iload_n 1, 1) := by decide +kernel
theorem dJ5_append_3fe6f_18 : decode cJ5_append_3fe6f 18 = .ok (.invokestatic 191, 3) := by decide +kernel
theorem dJ5_append_3fe6f_21 : decode cJ5_append_3fe6f 21 = .ok (.ifCond .eq 24, 3) := by decide +kernel
theorem dJ5_append_3fe6f_24 : decode cJ5_append_3fe6f 24 = .ok (.aload_n 0, 1) := by decide +kernel
theorem dJ5_append_3fe6f_25 : decode cJ5_append_3fe6f 25 = .ok (.getfield 15, 3) := by decide +kernel
theorem dJ5_append_3fe6f_28 : decode cJ5_append_3fe6f 28 = .ok (.aload_n 0, 1) := by decide +kernel
theorem dJ5_append_3fe6f_29 : decode cJ5_append_3fe6f 29 = .ok (.dup, 1) := by decide +kernel
theorem dJ5_append_3fe6f_30 : decode cJ5_append_3fe6f 30 = .ok (.getfield 79, 3) := by decide +kernel
theorem dJ5_append_3fe6f_33 : decode cJ5_append_3fe6f 33 = .ok (.dup_x1, 1) := by decide +kernel
theorem dJ5_append_3fe6f_34 : decode cJ5_append_3fe6f 34 = .ok (.iconst 1, 1) := by decide +kernel
theorem dJ5_append_3fe6f_35 : decode cJ5_append_3fe6f 35 = .ok (.iadd, 1) := by decide +kernel
theorem dJ5_append_3fe6f_36 : decode cJ5_append_3fe6f 36 = .ok (.putfield 79, 3) := by decide +kernel
theorem dJ5_append_3fe6f_39 : decode cJ5_append_3fe6f 39 = .ok (.iload_n 1, 1) := by decide +kernel
theorem dJ5_append_3fe6f_40 : decode cJ5_append_3fe6f 40 = .ok (.i2b, 1) := by decide +kernel
theorem dJ5_append_3fe6f_41 : decode cJ5_append_3fe6f 41 = .ok (.bastore, 1) := by decide +kernel
theorem dJ5_append_3fe6f_42 : decode cJ5_append_3fe6f 42 = .ok (.goto 33, 3) := by decide +kernel
theorem dJ5_append_3fe6f_45 : decode cJ5_append_3fe6f 45 = .ok (.aload_n 0, 1) := by decide +kernel
theorem dJ5_append_3fe6f_46 : decode cJ5_append_3fe6f 46 = .ok (.invokevirtual 83, 3) := by decide +kernel
theorem dJ5_append_3fe6f_49 : decode cJ5_append_3fe6f 49 = .ok (.ifCond .eq 7, 3) := by decide +kernel
theorem dJ5_append_3fe6f_52 : decode cJ5_append_3fe6f 52 = .ok (.aload_n 0, 1) := by decide +kernel
theorem dJ5_append_3fe6f_53 : decode cJ5_append_3fe6f 53 = .ok (.invokevirtual 195, 3) := by decide +kernel
theorem dJ5_append_3fe6f_56 : decode cJ5_append_3fe6f 56 = .ok (.aload_n 0, 1) := by decide +kernel
theorem dJ5_append_3fe6f_57 : decode cJ5_append_3fe6f 57 = .ok (.getfield 15, 3) := by decide +kernel
theorem dJ5_append_3fe6f_60 : decode cJ5_append_3fe6f 60 = .ok (.aload_n 0, 1) := by decide +kernel
theorem dJ5_append_3fe6f_61 : decode cJ5_append_3fe6f 61 = .ok (.dup, 1) := by decide +kernel
theorem dJ5_append_3fe6f_62 : decode cJ5_append_3fe6f 62 = .ok (.getfield 79, 3) := by decide +kernel
theorem dJ5_append_3fe6f_65 : decode cJ5_append_3fe6f 65 = .ok (.dup_x1, 1) := by decide +kernel
theorem dJ5_append_3fe6f_66 : decode cJ5_append_3fe6f 66 = .ok (.iconst 1, 1) := by decide +kernel
theorem dJ5_append_3fe6f_67 : decode cJ5_append_3fe6f 67 = .ok (.iadd, 1) := by decide +kernel
theorem dJ5_append_3fe6f_68 : decode cJ5_append_3fe6f 68 = .ok (.putfield 79, 3) := by decide +kernel
theorem dJ5_append_3fe6f_71 : decode cJ5_append_3fe6f 71 = .ok (.iload_n 1, 1) := by decide +kernel
theorem dJ5_append_3fe6f_72 : decode cJ5_append_3fe6f 72 = .ok (.invokestatic 197, 3) := by decide +kernel
theorem dJ5_append_3fe6f_75 : decode cJ5_append_3fe6f 75 = .ok (.aload_n 0, 1) := by decide +kernel
theorem dJ5_append_3fe6f_76 : decode cJ5_append_3fe6f 76 = .ok (.areturn, 1) := by decide +kernel
theorem dJ5_append_c97b9_0 : decode cJ5_append_c97b9 0 = .ok (.aload_n 0, 1) := by decide +kernel
theorem dJ5_append_c97b9_1 : decode cJ5_append_c97b9 1 = .ok (.getfield 79, 3) := by decide +kernel
theorem dJ5_append_c97b9_4 : decode cJ5_append_c97b9 4 = .ok (.istore_n 2, 1) := by decide +kernel
theorem dJ5_append_c97b9_5 : decode cJ5_append_c97b9 5 = .ok (.iload_n 2, 1) := by decide +kernel
theorem dJ5_append_c97b9_6 : decode cJ5_append_c97b9 6 = .ok (.iload_n 1, 1) := by decide +kernel
theorem dJ5_append_c97b9_7 : decode cJ5_append_c97b9 7 = .ok (.invokestatic 245, 3) := by decide +kernel
theorem dJ5_append_c97b9_10 : decode cJ5_append_c97b9 10 = .ok (.iadd, 1) := by decide +kernel
theorem dJ5_append_c97b9_11 : decode cJ5_append_c97b9 11 = .ok (.istore_n 3, 1) := by decide +kernel
theorem dJ5_append_c97b9_12 : decode cJ5_append_c97b9 12 = .ok (.aload_n 0, 1) := by decide +kernel
theorem dJ5_append_c97b9_13 : decode cJ5_append_c97b9 13 = .ok (.iload_n 3, 1) := by decide +kernel
theorem dJ5_append_c97b9_14 : decode cJ5_append_c97b9 14 = .ok (.invokevirtual 100, 3) := by decide +kernel
theorem dJ5_append_c97b9_17 : decode cJ5_append_c97b9 17 = .ok (.aload_n 0, 1) := by decide +kernel
theorem dJ5_append_c97b9_18 : decode cJ5_append_c97b9 18 = .ok (.invokevirtual 83, 3) := by decide +kernel
theorem dJ5_append_c97b9_21 : decode cJ5_append_c97b9 21 = .ok (.ifCond .eq 16, 3) := by decide +kernel
theorem dJ5_append_c97b9_24 : decode cJ5_append_c97b9 24 = .ok (.iload_n 1, 1) := by decide +kernel
theorem dJ5_append_c97b9_25 : decode cJ5_append_c97b9 25 = .ok (.iload_n 3, 1) := by decide +kernel
theorem dJ5_append_c97b9_26 : decode cJ5_append_c97b9 26 = .ok (.aload_n 0, 1) := by decide +kernel
theorem dJ5_append_c97b9_27 : decode cJ5_append_c97b9 27 = .ok (.getfield 15, 3) := by decide +kernel
theorem dJ5_append_c97b9_30 : decode cJ5_append_c97b9 30 = .ok (.invokestatic 248, 3) := by decide +kernel
theorem dJ5_append_c97b9_33 : decode cJ5_append_c97b9 33 = .ok (.pop, 1) := by decide +kernel
theorem dJ5_append_c97b9_34 : decode cJ5_append_c97b9 34 = .ok (.goto 14, 3) := by decide +kernel
theorem dJ5_append_c97b9_37 : decode cJ5_append_c97b9 37 = .ok (.iload_n 1, 1) := by decide +kernel
theorem dJ5_append_c97b9_38 : decode cJ5_append_c97b9 38 = .ok (.iload_n 2, 1) := by decide +kernel
theorem dJ5_append_c97b9_39 : decode cJ5_append_c97b9 39 = .ok (.iload_n 3, 1) := by decide +kernel
theorem dJ5_append_c97b9_40 : decode cJ5_append_c97b9 40 = .ok (.aload_n 0, 1) := by decide +kernel
theorem dJ5_append_c97b9_41 : decode cJ5_append_c97b9 41 = .ok (.getfield 15, 3) := by decide +kernel
theorem dJ5_append_c97b9_44 : decode cJ5_append_c97b9 44 = .ok (.invokestatic 251, 3) := by decide +kernel
theorem dJ5_append_c97b9_47 : decode cJ5_append_c97b9 47 = .ok (.pop, 1) := by decide +kernel
theorem dJ5_append_c97b9_48 : decode cJ5_append_c97b9 48 = .ok (.aload_n 0, 1) := by decide +kernel
theorem dJ5_append_c97b9_49 : decode cJ5_append_c97b9 49 = .ok (.iload_n 3, 1) := by decide +kernel
theorem dJ5_append_c97b9_50 : decode cJ5_append_c97b9 50 = .ok (.putfield 79, 3) := by decide +kernel
theorem dJ5_append_c97b9_53 : decode cJ5_append_c97b9 53 = .ok (.aload_n 0, 1) := by decide +kernel
theorem dJ5_append_c97b9_54 : decode cJ5_append_c97b9 54 = .ok (.areturn, 1) := by decide +kernel
theorem dJ5_getValue_6d5f1_0 : decode cJ5_getValue_6d5f1 0 = .ok (.aload_n 0, 1) := by decide +kernel
theorem dJ5_getValue_6d5f1_1 : decode cJ5_getValue_6d5f1 1 = .ok (.getfield 15, 3) := by decide +kernel
theorem dJ5_getValue_6d5f1_4 : decode cJ5_getValue_6d5f1 4 = .ok (.areturn, 1) := by decide +kernel
theorem dJ5_isLatin1_aae02_0 : decode cJ5_isLatin1_aae02 0 = .ok (.getstatic 18, 3) := by decide +kernel
theorem dJ5_isLatin1_aae02_3 : decode cJ5_isLatin1_aae02 3 = .ok (.ifCond .eq 14, 3) := by decide +kernel
theorem dJ5_isLatin1_aae02_6 : decode cJ5_isLatin1_aae02 6 = .ok (.aload_n 0, 1) := by decide +kernel
theorem dJ5_isLatin1_aae02_7 : decode cJ5_isLatin1_aae02 7 = .ok (.getfield 22, 3) := by decide +kernel
theorem dJ5_isLatin1_aae02_10 : decode cJ5_isLatin1_aae02 10 = .ok (.ifCond .ne 7, 3) := by decide +kernel
theorem dJ5_isLatin1_aae02_13 : decode cJ5_isLatin1_aae02 13 = .ok (.iconst 1, 1) := by decide +kernel
theorem dJ5_isLatin1_aae02_14 : decode cJ5_isLatin1_aae02 14 = .ok (.goto 4, 3) := by decide +kernel
theorem dJ5_isLatin1_aae02_17 : decode cJ5_isLatin1_aae02 17 = .ok (.iconst 0, 1) := by decide +kernel
theorem dJ5_isLatin1_aae02_18 : decode cJ5_isLatin1_aae02 18 = .ok (.ireturn, 1) := by decide +kernel
theorem dJ5_inflateIfNeededFor_a7421_0 : decode cJ5_inflateIfNeededFor_a7421 0 = .ok (.getstatic 18, 3) := by decide +kernel
theorem dJ5_inflateIfNeededFor_a7421_3 : decode cJ5_inflateIfNeededFor_a7421 3 = .ok (.ifCond .eq 18, 3) := by decide +kernel
theorem dJ5_inflateIfNeededFor_a7421_6 : decode cJ5_inflateIfNeededFor_a7421 6 = .ok (.aload_n 0, 1) := by decide +kernel
theorem dJ5_inflateIfNeededFor_a7421_7 : decode cJ5_inflateIfNeededFor_a7421 7 = .ok (.getfield 22, 3) := by decide +kernel
theorem dJ5_inflateIfNeededFor_a7421_10 : decode cJ5_inflateIfNeededFor_a7421 10 = .ok (.aload_n 1, 1) := by decide +kernel
theorem dJ5_inflateIfNeededFor_a7421_11 : decode cJ5_inflateIfNeededFor_a7421 11 = .ok (.invokevirtual 40, 3) := by decide +kernel
theorem dJ5_inflateIfNeededFor_a7421_14 : decode cJ5_inflateIfNeededFor_a7421 14 = .ok (.if_icmp .eq 7, 3) := by decide +kernel
theorem dJ5_inflateIfNeededFor_a7421_17 : decode cJ5_inflateIfNeededFor_a7421 17 = .ok (.aload_n 0, 1) := by decide +kernel
theorem dJ5_inflateIfNeededFor_a7421_18 : decode cJ5_inflateIfNeededFor_a7421 18 = .ok (.invokevirtual 195, 3) := by decide +kernel
theorem dJ5_inflateIfNeededFor_a7421_21 : decode cJ5_inflateIfNeededFor_a7421 21 = .ok (.return_, 1) := by decide +kernel
theorem dJ5_putStringAt_47b60_0 : decode cJ5_putStringAt_47b60 0 = .ok (.aload_n 0, 1) := by decide +kernel
theorem dJ5_putStringAt_47b60_1 : decode cJ5_putStringAt_47b60 1 = .ok (.aload_n 2, 1) := by decide +kernel
theorem dJ5_putStringAt_47b60_2 : decode cJ5_putStringAt_47b60 2 = .ok (.invokevirtual 397, 3) := by decide +kernel
theorem dJ5_putStringAt_47b60_5 : decode cJ5_putStringAt_47b60 5 = .ok (.aload_n 2, 1) := by decide +kernel
theorem dJ5_putStringAt_47b60_6 : decode cJ5_putStringAt_47b60 6 = .ok (.aload_n 0, 1) := by decide +kernel
theorem dJ5_putStringAt_47b60_7 : decode cJ5_putStringAt_47b60 7 = .ok (.getfield 15, 3) := by decide +kernel
theorem dJ5_putStringAt_47b60_10 : decode cJ5_putStringAt_47b60 10 = .ok (.iload_n 1, 1) := by decide +kernel
theorem dJ5_putStringAt_47b60_11 : decode cJ5_putStringAt_47b60 11 = .ok (.aload_n 0, 1) := by decide +kernel
theorem dJ5_putStringAt_47b60_12 : decode cJ5_putStringAt_47b60 12 = .ok (.getfield 22, 3) := by decide +kernel
theorem dJ5_putStringAt_47b60_15 : decode cJ5_putStringAt_47b60 15 = .ok (.invokevirtual 399, 3) := by decide +kernel
theorem dJ5_putStringAt_47b60_18 : decode cJ5_putStringAt_47b60 18 = .ok (.return_, 1) := by decide +kernel
theorem dJx00060_init_a7421_0 : decode cJx00060_init_a7421 0 = .ok (.aload_n 0, 1) := by decide +kernel
theorem dJx00060_init_a7421_1 : decode cJx00060_init_a7421 1 = .ok (.aload_n 1, 1) := by decide +kernel
theorem dJx00060_init_a7421_2 : decode cJx00060_init_a7421 2 = .ok (.invokespecial 7, 3) := by decide +kernel
theorem dJx00060_init_a7421_5 : decode cJx00060_init_a7421 5 = .ok (.return_, 1) := by decide +kernel
theorem dJx00060_init_d00df_0 : decode cJx00060_init_d00df 0 = .ok (.aload_n 0, 1) := by decide +kernel
theorem dJx00060_init_d00df_1 : decode cJx00060_init_d00df 1 = .ok (.new 10, 3) := by decide +kernel
theorem dJx00060_init_d00df_4 : decode cJx00060_init_d00df 4 = .ok (.dup, 1) := by decide +kernel
theorem dJx00060_init_d00df_5 : decode cJx00060_init_d00df 5 = .ok (.invokespecial 12, 3) := by decide +kernel
theorem dJx00060_init_d00df_8 : decode cJx00060_init_d00df 8 = .ok (.ldc 13, 2) := by decide +kernel
theorem dJx00060_init_d00df_10 : decode cJx00060_init_d00df 10 = .ok (.invokevirtual 15, 3) := by decide +kernel
theorem dJx00060_init_d00df_13 : decode cJx00060_init_d00df 13 = .ok (.iload_n 1, 1) := by decide +kernel
theorem dJx00060_init_d00df_14 : decode cJx00060_init_d00df 14 = .ok (.invokevirtual 19, 3) := by decide +kernel
theorem dJx00060_init_d00df_17 : decode cJx00060_init_d00df 17 = .ok (.invokevirtual 22, 3) := by decide +kernel
theorem dJx00060_init_d00df_20 : decode cJx00060_init_d00df 20 = .ok (.invokespecial 7, 3) := by decide +kernel
theorem dJx00060_init_d00df_23 : decode cJx00060_init_d00df 23 = .ok (.return_, 1) := by decide +kernel
theorem dJ6_getChars_ba4f3_0 : decode cJ6_getChars_ba4f3 0 = .ok (.iload_n 1, 1) := by decide +kernel
theorem dJ6_getChars_ba4f3_1 : decode cJ6_getChars_ba4f3 1 = .ok (.istore 5, 2) := by decide +kernel
theorem dJ6_getChars_ba4f3_3 : decode cJ6_getChars_ba4f3 3 = .ok (.iload_n 0, 1) := by decide +kernel
theorem dJ6_getChars_ba4f3_4 : decode cJ6_getChars_ba4f3 4 = .ok (.ifCond .ge 7, 3) := by decide +kernel
theorem dJ6_getChars_ba4f3_7 : decode cJ6_getChars_ba4f3 7 = .ok (.iconst 1, 1) := by decide +kernel
theorem dJ6_getChars_ba4f3_8 : decode cJ6_getChars_ba4f3 8 = .ok (.goto 4, 3) := by decide +kernel
theorem dJ6_getChars_ba4f3_11 : decode cJ6_getChars_ba4f3 11 = .ok (.iconst 0, 1) := by decide +kernel
theorem dJ6_getChars_ba4f3_12 : decode cJ6_getChars_ba4f3 12 = .ok (.istore 6, 2) := by decide +kernel
theorem dJ6_getChars_ba4f3_14 : decode cJ6_getChars_ba4f3 14 = .ok (.iload 6, 2) := by decide +kernel
theorem dJ6_getChars_ba4f3_16 : decode cJ6_getChars_ba4f3 16 = .ok (.ifCond .ne 6, 3) := by decide +kernel
theorem dJ6_getChars_ba4f3_19 : decode cJ6_getChars_ba4f3 19 = .ok (.iload_n 0, 1) := by decide +kernel
theorem dJ6_getChars_ba4f3_20 : decode cJ6_getChars_ba4f3 20 = .ok (.ineg, 1) := by decide +kernel
theorem dJ6_getChars_ba4f3_21 : decode cJ6_getChars_ba4f3 21 = .ok (.istore_n 0, 1) := by decide +kernel
theorem dJ6_getChars_ba4f3_22 : decode cJ6_getChars_ba4f3 22 = .ok (.iload_n 0, 1) := by decide +kernel
theorem dJ6_getChars_ba4f3_23 : decode cJ6_getChars_ba4f3 23 = .ok (.bipush (-100), 2) := by decide +kernel
theorem dJ6_getChars_ba4f3_25 : decode cJ6_getChars_ba4f3 25 = .ok (.if_icmp .gt 47, 3) := by decide +kernel
theorem dJ6_getChars_ba4f3_28 : decode cJ6_getChars_ba4f3 28 = .ok (.iload_n 0, 1) := by decide +kernel
theorem dJ6_getChars_ba4f3_29 : decode cJ6_getChars_ba4f3 29 = .ok (.bipush 100, 2) := by decide +kernel
theorem dJ6_getChars_ba4f3_31 : decode cJ6_getChars_ba4f3 31 = .ok (.idiv, 1) := by decide +kernel
theorem dJ6_getChars_ba4f3_32 : decode cJ6_getChars_ba4f3 32 = .ok (.istore_n 3, 1) := by decide +kernel
theorem dJ6_getChars_ba4f3_33 : decode cJ6_getChars_ba4f3 33 = .ok (.iload_n 3, 1) := by decide +kernel
theorem dJ6_getChars_ba4f3_34 : decode cJ6_getChars_ba4f3 34 = .ok (.bipush 100, 2) := by decide +kernel
theorem dJ6_getChars_ba4f3_36 : decode cJ6_getChars_ba4f3 36 = .ok (.imul, 1) := by decide +kernel
theorem dJ6_getChars_ba4f3_37 : decode cJ6_getChars_ba4f3 37 = .ok (.iload_n 0, 1) := by decide +kernel
theorem dJ6_getChars_ba4f3_38 : decode cJ6_getChars_ba4f3 38 = .ok (.isub, 1) := by decide +kernel
theorem dJ6_getChars_ba4f3_39 : decode cJ6_getChars_ba4f3 39 = .ok (.istore 4, 2) := by decide +kernel
theorem dJ6_getChars_ba4f3_41 : decode cJ6_getChars_ba4f3 41 = .ok (.iload_n 3, 1) := by decide +kernel
theorem dJ6_getChars_ba4f3_42 : decode cJ6_getChars_ba4f3 42 = .ok (.istore_n 0, 1) := by decide +kernel
theorem dJ6_getChars_ba4f3_43 : decode cJ6_getChars_ba4f3 43 = .ok (.aload_n 2, 1) := by decide +kernel
theorem dJ6_getChars_ba4f3_44 : decode cJ6_getChars_ba4f3 44 = .ok (.iinc 5 (-1), 3) := by decide +kernel
theorem dJ6_getChars_ba4f3_47 : decode cJ6_getChars_ba4f3 47 = .ok (.iload 5, 2) := by decide +kernel
theorem dJ6_getChars_ba4f3_49 : decode cJ6_getChars_ba4f3 49 = .ok (.getstatic 83, 3) := by decide +kernel
theorem dJ6_getChars_ba4f3_52 : decode cJ6_getChars_ba4f3 52 = .ok (.iload 4, 2) := by decide +kernel
theorem dJ6_getChars_ba4f3_54 : decode cJ6_getChars_ba4f3 54 = .ok (.baload, 1) := by decide +kernel
theorem dJ6_getChars_ba4f3_55 : decode cJ6_getChars_ba4f3 55 = .ok (.bastore, 1) := by decide +kernel
theorem dJ6_getChars_ba4f3_56 : decode cJ6_getChars_ba4f3 56 = .ok (.aload_n 2, 1) := by decide +kernel
theorem dJ6_getChars_ba4f3_57 : decode cJ6_getChars_ba4f3 57 = .ok (.iinc 5 (-1), 3) := by decide +kernel
theorem dJ6_getChars_ba4f3_60 : decode cJ6_getChars_ba4f3 60 = .ok (.iload 5, 2) := by decide +kernel
theorem dJ6_getChars_ba4f3_62 : decode cJ6_getChars_ba4f3 62 = .ok (.getstatic 87, 3) := by decide +kernel
theorem dJ6_getChars_ba4f3_65 : decode cJ6_getChars_ba4f3 65 = .ok (.iload 4, 2) := by decide +kernel
theorem dJ6_getChars_ba4f3_67 : decode cJ6_getChars_ba4f3 67 = .ok (.baload, 1) := by decide +kernel
theorem dJ6_getChars_ba4f3_68 : decode cJ6_getChars_ba4f3 68 = .ok (.bastore, 1) := by decide +kernel
theorem dJ6_getChars_ba4f3_69 : decode cJ6_getChars_ba4f3 69 = .ok (.goto (-47), 3) := by decide +kernel
theorem dJ6_getChars_ba4f3_72 : decode cJ6_getChars_ba4f3 72 = .ok (.aload_n 2, 1) := by decide +kernel
theorem dJ6_getChars_ba4f3_73 : decode cJ6_getChars_ba4f3 73 = .ok (.iinc 5 (-1), 3) := by decide +kernel
theorem dJ6_getChars_ba4f3_76 : decode cJ6_getChars_ba4f3 76 = .ok (.iload 5, 2) := by decide +kernel
theorem dJ6_getChars_ba4f3_78 : decode cJ6_getChars_ba4f3 78 = .ok (.getstatic 83, 3) := by decide +kernel
theorem dJ6_getChars_ba4f3_81 : decode cJ6_getChars_ba4f3 81 = .ok (.iload_n 0, 1) := by decide +kernel
theorem dJ6_getChars_ba4f3_82 : decode cJ6_getChars_ba4f3 82 = .ok (.ineg, 1) := by decide +kernel
theorem dJ6_getChars_ba4f3_83 : decode cJ6_getChars_ba4f3 83 = .ok (.baload, 1) := by decide +kernel
theorem dJ6_getChars_ba4f3_84 : decode cJ6_getChars_ba4f3 84 = .ok (.bastore, 1) := by decide +kernel
theorem dJ6_getChars_ba4f3_85 : decode cJ6_getChars_ba4f3 85 = .ok (.iload_n 0, 1) := by decide +kernel
theorem dJ6_getChars_ba4f3_86 : decode cJ6_getChars_ba4f3 86 = .ok (.bipush (-9), 2) := by decide +kernel
theorem dJ6_getChars_ba4f3_88 : decode cJ6_getChars_ba4f3 88 = .ok (.if_icmp .ge 16, 3) := by decide +kernel
theorem dJ6_getChars_ba4f3_91 : decode cJ6_getChars_ba4f3 91 = .ok (.aload_n 2, 1) := by decide +kernel
theorem dJ6_getChars_ba4f3_92 : decode cJ6_getChars_ba4f3 92 = .ok (.iinc 5 (-1), 3) := by decide +kernel
theorem dJ6_getChars_ba4f3_95 : decode cJ6_getChars_ba4f3 95 = .ok (.iload 5, 2) := by decide +kernel
theorem dJ6_getChars_ba4f3_97 : decode cJ6_getChars_ba4f3 97 = .ok (.getstatic 87, 3) := by decide +kernel
theorem dJ6_getChars_ba4f3_100 : decode cJ6_getChars_ba4f3 100 = .ok (.iload_n 0, 1) := by decide +kernel
theorem dJ6_getChars_ba4f3_101 : decode cJ6_getChars_ba4f3 101 = .ok (.ineg, 1) := by decide +kernel
theorem dJ6_getChars_ba4f3_102 : decode cJ6_getChars_ba4f3 102 = .ok (.baload, 1) := by decide +kernel
theorem dJ6_getChars_ba4f3_103 : decode cJ6_getChars_ba4f3 103 = .ok (.bastore, 1) := by decide +kernel
theorem dJ6_getChars_ba4f3_104 : decode cJ6_getChars_ba4f3 104 = .ok (.iload 6, 2) := by decide +kernel
theorem dJ6_getChars_ba4f3_106 : decode cJ6_getChars_ba4f3 106 = .ok (.ifCond .eq 12, 3) := by decide +kernel
theorem dJ6_getChars_ba4f3_109 : decode cJ6_getChars_ba4f3 109 = .ok (.aload_n 2, 1) := by decide +kernel
theorem dJ6_getChars_ba4f3_110 : decode cJ6_getChars_ba4f3 110 = .ok (.iinc 5 (-1), 3) := by decide +kernel
theorem dJ6_getChars_ba4f3_113 : decode cJ6_getChars_ba4f3 113 = .ok (.iload 5, 2) := by decide +kernel
theorem dJ6_getChars_ba4f3_115 : decode cJ6_getChars_ba4f3 115 = .ok (.bipush 45, 2) := by decide +kernel
theorem dJ6_getChars_ba4f3_117 : decode cJ6_getChars_ba4f3 117 = .ok (.bastore, 1) := by decide +kernel
theorem dJ6_getChars_ba4f3_118 : decode cJ6_getChars_ba4f3 118 = .ok (.iload 5, 2) := by decide +kernel
theorem dJ6_getChars_ba4f3_120 : decode cJ6_getChars_ba4f3 120 = .ok (.ireturn, 1) := by decide +kernel
theorem dJ6_stringSize_0f7a4_0 : decode cJ6_stringSize_0f7a4 0 = .ok (.iconst 1, 1) := by decide +kernel
theorem dJ6_stringSize_0f7a4_1 : decode cJ6_stringSize_0f7a4 1 = .ok (.istore_n 1, 1) := by decide +kernel
theorem dJ6_stringSize_0f7a4_2 : decode cJ6_stringSize_0f7a4 2 = .ok (.iload_n 0, 1) := by decide +kernel
theorem dJ6_stringSize_0f7a4_3 : decode cJ6_stringSize_0f7a4 3 = .ok (.ifCond .lt 8, 3) := by decide +kernel
theorem dJ6_stringSize_0f7a4_6 : decode cJ6_stringSize_0f7a4 6 = .ok (.iconst 0, 1) := by decide +kernel
theorem dJ6_stringSize_0f7a4_7 : decode cJ6_stringSize_0f7a4 7 = .ok (.istore_n 1, 1) := by decide +kernel
theorem dJ6_stringSize_0f7a4_8 : decode cJ6_stringSize_0f7a4 8 = .ok (.iload_n 0, 1) := by decide +kernel
theorem dJ6_stringSize_0f7a4_9 : decode cJ6_stringSize_0f7a4 9 = .ok (.ineg, 1) := by decide +kernel
theorem dJ6_stringSize_0f7a4_10 : decode cJ6_stringSize_0f7a4 10 = .ok (.istore_n 0, 1) := by decide +kernel
theorem dJ6_stringSize_0f7a4_11 : decode cJ6_stringSize_0f7a4 11 = .ok (.bipush (-10), 2) := by decide +kernel
theorem dJ6_stringSize_0f7a4_13 : decode cJ6_stringSize_0f7a4 13 = .ok (.istore_n 2, 1) := by decide +kernel
theorem dJ6_stringSize_0f7a4_14 : decode cJ6_stringSize_0f7a4 14 = .ok (.iconst 1, 1) := by decide +kernel
theorem dJ6_stringSize_0f7a4_15 : decode cJ6_stringSize_0f7a4 15 = .ok (.istore_n 3, 1) := by decide +kernel
theorem dJ6_stringSize_0f7a4_16 : decode cJ6_stringSize_0f7a4 16 = .ok (.iload_n 3, 1) := by decide +kernel
theorem dJ6_stringSize_0f7a4_17 : decode cJ6_stringSize_0f7a4 17 = .ok (.bipush 10, 2) := by decide +kernel
theorem dJ6_stringSize_0f7a4_19 : decode cJ6_stringSize_0f7a4 19 = .ok (.if_icmp .ge 23, 3) := by decide +kernel
theorem dJ6_stringSize_0f7a4_22 : decode cJ6_stringSize_0f7a4 22 = .ok (.iload_n 0, 1) := by decide +kernel
theorem dJ6_stringSize_0f7a4_23 : decode cJ6_stringSize_0f7a4 23 = .ok (.iload_n 2, 1) := by decide +kernel
theorem dJ6_stringSize_0f7a4_24 : decode cJ6_stringSize_0f7a4 24 = .ok (.if_icmp .le 7, 3) := by decide +kernel
theorem dJ6_stringSize_0f7a4_27 : decode cJ6_stringSize_0f7a4 27 = .ok (.iload_n 3, 1) := by decide +kernel
theorem dJ6_stringSize_0f7a4_28 : decode cJ6_stringSize_0f7a4 28 = .ok (.iload_n 1, 1) := by decide +kernel
theorem dJ6_stringSize_0f7a4_29 : decode cJ6_stringSize_0f7a4 29 = .ok (.iadd, 1) := by decide +kernel
theorem dJ6_stringSize_0f7a4_30 : decode cJ6_stringSize_0f7a4 30 = .ok (.ireturn, 1) := by decide +kernel
theorem dJ6_stringSize_0f7a4_31 : decode cJ6_stringSize_0f7a4 31 = .ok (.bipush 10, 2) := by decide +kernel
theorem dJ6_stringSize_0f7a4_33 : decode cJ6_stringSize_0f7a4 33 = .ok (.iload_n 2, 1) := by decide +kernel
theorem dJ6_stringSize_0f7a4_34 : decode cJ6_stringSize_0f7a4 34 = .ok (.imul, 1) := by decide +kernel
theorem dJ6_stringSize_0f7a4_35 : decode cJ6_stringSize_0f7a4 35 = .ok (.istore_n 2, 1) := by decide +kernel
theorem dJ6_stringSize_0f7a4_36 : decode cJ6_stringSize_0f7a4 36 = .ok (.iinc 3 1, 3) := by decide +kernel
theorem dJ6_stringSize_0f7a4_39 : decode cJ6_stringSize_0f7a4 39 = .ok (.goto (-23), 3) := by decide +kernel
theorem dJ6_stringSize_0f7a4_42 : decode cJ6_stringSize_0f7a4 42 = .ok (.bipush 10, 2) := by decide +kernel
theorem dJ6_stringSize_0f7a4_44 : decode cJ6_stringSize_0f7a4 44 = .ok (.iload_n 1, 1) := by decide +kernel
theorem dJ6_stringSize_0f7a4_45 : decode cJ6_stringSize_0f7a4 45 = .ok (.iadd, 1) := by decide +kernel
theorem dJ6_stringSize_0f7a4_46 : decode cJ6_stringSize_0f7a4 46 = .ok (.ireturn, 1) := by decide +kernel
theorem dJ9_floorMod_7cf53_0 : decode cJ9_floorMod_7cf53 0 = .ok (.iload_n 0, 1) := by decide +kernel
theorem dJ9_floorMod_7cf53_1 : decode cJ9_floorMod_7cf53 1 = .ok (.iload_n 1, 1) := by decide +kernel
theorem dJ9_floorMod_7cf53_2 : decode cJ9_floorMod_7cf53 2 = .ok (.irem, 1) := by decide +kernel
theorem dJ9_floorMod_7cf53_3 : decode cJ9_floorMod_7cf53 3 = .ok (.istore_n 2, 1) := by decide +kernel
theorem dJ9_floorMod_7cf53_4 : decode cJ9_floorMod_7cf53 4 = .ok (.iload_n 0, 1) := by decide +kernel
theorem dJ9_floorMod_7cf53_5 : decode cJ9_floorMod_7cf53 5 = .ok (.iload_n 1, 1) := by decide +kernel
theorem dJ9_floorMod_7cf53_6 : decode cJ9_floorMod_7cf53 6 = .ok (.ixor, 1) := by decide +kernel
theorem dJ9_floorMod_7cf53_7 : decode cJ9_floorMod_7cf53 7 = .ok (.ifCond .ge 11, 3) := by decide +kernel
theorem dJ9_floorMod_7cf53_10 : decode cJ9_floorMod_7cf53 10 = .ok (.iload_n 2, 1) := by decide +kernel
theorem dJ9_floorMod_7cf53_11 : decode cJ9_floorMod_7cf53 11 = .ok (.ifCond .eq 7, 3) := by decide +kernel
theorem dJ9_floorMod_7cf53_14 : decode cJ9_floorMod_7cf53 14 = .ok (.iload_n 2, 1) := by decide +kernel
theorem dJ9_floorMod_7cf53_15 : decode cJ9_floorMod_7cf53 15 = .ok (.iload_n 1, 1) := by decide +kernel
theorem dJ9_floorMod_7cf53_16 : decode cJ9_floorMod_7cf53 16 = .ok (.iadd, 1) := by decide +kernel
theorem dJ9_floorMod_7cf53_17 : decode cJ9_floorMod_7cf53 17 = .ok (.ireturn, 1) := by decide +kernel
theorem dJ9_floorMod_7cf53_18 : decode cJ9_floorMod_7cf53 18 = .ok (.iload_n 2, 1) := by decide +kernel
theorem dJ9_floorMod_7cf53_19 : decode cJ9_floorMod_7cf53 19 = .ok (.ireturn, 1) := by decide +kernel
theorem dJ9_max_7cf53_0 : decode cJ9_max_7cf53 0 = .ok (.iload_n 0, 1) := by decide +kernel
theorem dJ9_max_7cf53_1 : decode cJ9_max_7cf53 1 = .ok (.iload_n 1, 1) := by decide +kernel
theorem dJ9_max_7cf53_2 : decode cJ9_max_7cf53 2 = .ok (.if_icmp .lt 7, 3) := by decide +kernel
theorem dJ9_max_7cf53_5 : decode cJ9_max_7cf53 5 = .ok (.iload_n 0, 1) := by decide +kernel
theorem dJ9_max_7cf53_6 : decode cJ9_max_7cf53 6 = .ok (.goto 4, 3) := by decide +kernel
theorem dJ9_max_7cf53_9 : decode cJ9_max_7cf53 9 = .ok (.iload_n 1, 1) := by decide +kernel
theorem dJ9_max_7cf53_10 : decode cJ9_max_7cf53 10 = .ok (.ireturn, 1) := by decide +kernel
theorem dJ9_min_7cf53_0 : decode cJ9_min_7cf53 0 = .ok (.iload_n 0, 1) := by decide +kernel
theorem dJ9_min_7cf53_1 : decode cJ9_min_7cf53 1 = .ok (.iload_n 1, 1) := by decide +kernel
theorem dJ9_min_7cf53_2 : decode cJ9_min_7cf53 2 = .ok (.if_icmp .gt 7, 3) := by decide +kernel
theorem dJ9_min_7cf53_5 : decode cJ9_min_7cf53 5 = .ok (.iload_n 0, 1) := by decide +kernel
theorem dJ9_min_7cf53_6 : decode cJ9_min_7cf53 6 = .ok (.goto 4, 3) := by decide +kernel
theorem dJ9_min_7cf53_9 : decode cJ9_min_7cf53 9 = .ok (.iload_n 1, 1) := by decide +kernel
theorem dJ9_min_7cf53_10 : decode cJ9_min_7cf53 10 = .ok (.ireturn, 1) := by decide +kernel
theorem dJ0_init_81219_0 : decode cJ0_init_81219 0 = .ok (.aload_n 0, 1) := by decide +kernel
theorem dJ0_init_81219_1 : decode cJ0_init_81219 1 = .ok (.aload_n 1, 1) := by decide +kernel
theorem dJ0_init_81219_2 : decode cJ0_init_81219 2 = .ok (.aconst_null, 1) := by decide +kernel
theorem dJ0_init_81219_3 : decode cJ0_init_81219 3 = .ok (.invokespecial 489, 3) := by decide +kernel
theorem dJ0_init_81219_6 : decode cJ0_init_81219 6 = .ok (.return_, 1) := by decide +kernel
theorem dJ0_length_8abf5_0 : decode cJ0_length_8abf5 0 = .ok (.aload_n 0, 1) := by decide +kernel
theorem dJ0_length_8abf5_1 : decode cJ0_length_8abf5 1 = .ok (.getfield 9, 3) := by decide +kernel
theorem dJ0_length_8abf5_4 : decode cJ0_length_8abf5 4 = .ok (.arraylength, 1) := by decide +kernel
theorem dJ0_length_8abf5_5 : decode cJ0_length_8abf5 5 = .ok (.aload_n 0, 1) := by decide +kernel
theorem dJ0_length_8abf5_6 : decode cJ0_length_8abf5 6 = .ok (.invokevirtual 335, 3) := by decide +kernel
theorem dJ0_length_8abf5_9 : decode cJ0_length_8abf5 9 = .ok (.ishr, 1) := by decide +kernel
theorem dJ0_length_8abf5_10 : decode cJ0_length_8abf5 10 = .ok (.ireturn, 1) := by decide +kernel
theorem dJ0_getBytes_840e7_0 : decode cJ0_getBytes_840e7 0 = .ok (.aload_n 0, 1) := by decide +kernel
theorem dJ0_getBytes_840e7_1 : decode cJ0_getBytes_840e7 1 = .ok (.invokevirtual 335, 3) := by decide +kernel
theorem dJ0_getBytes_840e7_4 : decode cJ0_getBytes_840e7 4 = .ok (.iload_n 3, 1) := by decide +kernel
theorem dJ0_getBytes_840e7_5 : decode cJ0_getBytes_840e7 5 = .ok (.if_icmp .ne 23, 3) := by decide +kernel
theorem dJ0_getBytes_840e7_8 : decode cJ0_getBytes_840e7 8 = .ok (.aload_n 0, 1) := by decide +kernel
theorem dJ0_getBytes_840e7_9 : decode cJ0_getBytes_840e7 9 = .ok (.getfield 9, 3) := by decide +kernel
theorem dJ0_getBytes_840e7_12 : decode cJ0_getBytes_840e7 12 = .ok (.iconst 0, 1) := by decide +kernel
theorem dJ0_getBytes_840e7_13 : decode cJ0_getBytes_840e7 13 = .ok (.aload_n 1, 1) := by decide +kernel
theorem dJ0_getBytes_840e7_14 : decode cJ0_getBytes_840e7 14 = .ok (.iload_n 2, 1) := by decide +kernel
theorem dJ0_getBytes_840e7_15 : decode cJ0_getBytes_840e7 15 = .ok (.iload_n 3, 1) := by decide +kernel
theorem dJ0_getBytes_840e7_16 : decode cJ0_getBytes_840e7 16 = .ok (.ishl, 1) := by decide +kernel
theorem dJ0_getBytes_840e7_17 : decode cJ0_getBytes_840e7 17 = .ok (.aload_n 0, 1) := by decide +kernel
theorem dJ0_getBytes_840e7_18 : decode cJ0_getBytes_840e7 18 = .ok (.getfield 9, 3) := by decide +kernel
theorem dJ0_getBytes_840e7_21 : decode cJ0_getBytes_840e7 21 = .ok (.arraylength, 1) := by decide +kernel
theorem dJ0_getBytes_840e7_22 : decode cJ0_getBytes_840e7 22 = .ok (.invokestatic 212, 3) := by decide +kernel
theorem dJ0_getBytes_840e7_25 : decode cJ0_getBytes_840e7 25 = .ok (.goto 18, 3) := by decide +kernel
theorem dJ0_getBytes_840e7_28 : decode cJ0_getBytes_840e7 28 = .ok (.aload_n 0, 1) := by decide +kernel
theorem dJ0_getBytes_840e7_29 : decode cJ0_getBytes_840e7 29 = .ok (.getfield 9, 3) := by decide +kernel
theorem dJ0_getBytes_840e7_32 : decode cJ0_getBytes_840e7 32 = .ok (.iconst 0, 1) := by decide +kernel
theorem dJ0_getBytes_840e7_33 : decode cJ0_getBytes_840e7 33 = .ok (.aload_n 1, 1) := by decide +kernel
theorem dJ0_getBytes_840e7_34 : decode cJ0_getBytes_840e7 34 = .ok (.iload_n 2, 1) := by decide +kernel
theorem dJ0_getBytes_840e7_35 : decode cJ0_getBytes_840e7 35 = .ok (.aload_n 0, 1) := by decide +kernel
theorem dJ0_getBytes_840e7_36 : decode cJ0_getBytes_840e7 36 = .ok (.getfield 9, 3) := by decide +kernel
theorem dJ0_getBytes_840e7_39 : decode cJ0_getBytes_840e7 39 = .ok (.arraylength, 1) := by decide +kernel
theorem dJ0_getBytes_840e7_40 : decode cJ0_getBytes_840e7 40 = .ok (.invokestatic 106, 3) := by decide +kernel
theorem dJ0_getBytes_840e7_43 : decode cJ0_getBytes_840e7 43 = .ok (.return_, 1) := by decide +kernel
theorem dJ0_init_db425_0 : decode cJ0_init_db425 0 = .ok (.aload_n 0, 1) := by decide +kernel
theorem dJ0_init_db425_1 : decode cJ0_init_db425 1 = .ok (.invokespecial 1, 3) := by decide +kernel
theorem dJ0_init_db425_4 : decode cJ0_init_db425 4 = .ok (.aload_n 1, 1) := by decide +kernel
theorem dJ0_init_db425_5 : decode cJ0_init_db425 5 = .ok (.invokevirtual 552, 3) := by decide +kernel
theorem dJ0_init_db425_8 : decode cJ0_init_db425 8 = .ok (.astore_n 3, 1) := by decide +kernel
theorem dJ0_init_db425_9 : decode cJ0_init_db425 9 = .ok (.aload_n 1, 1) := by decide +kernel
theorem dJ0_init_db425_10 : decode cJ0_init_db425 10 = .ok (.invokevirtual 549, 3) := by decide +kernel
theorem dJ0_init_db425_13 : decode cJ0_init_db425 13 = .ok (.istore 4, 2) := by decide +kernel
theorem dJ0_init_db425_15 : decode cJ0_init_db425 15 = .ok (.aload_n 1, 1) := by decide +kernel
theorem dJ0_init_db425_16 : decode cJ0_init_db425 16 = .ok (.invokevirtual 1047, 3) := by decide +kernel
theorem dJ0_init_db425_19 : decode cJ0_init_db425 19 = .ok (.ifCond .eq 22, 3) := by decide +kernel
theorem dJ0_init_db425_22 : decode cJ0_init_db425 22 = .ok (.aload_n 0, 1) := by decide +kernel
theorem dJ0_init_db425_23 : decode cJ0_init_db425 23 = .ok (.iconst 0, 1) := by decide +kernel
theorem dJ0_init_db425_24 : decode cJ0_init_db425 24 = .ok (.putfield 15, 3) := by decide +kernel
theorem dJ0_init_db425_27 : decode cJ0_init_db425 27 = .ok (.aload_n 0, 1) := by decide +kernel
theorem dJ0_init_db425_28 : decode cJ0_init_db425 28 = .ok (.aload_n 3, 1) := by decide +kernel
theorem dJ0_init_db425_29 : decode cJ0_init_db425 29 = .ok (.iconst 0, 1) := by decide +kernel
theorem dJ0_init_db425_30 : decode cJ0_init_db425 30 = .ok (.iload 4, 2) := by decide +kernel
theorem dJ0_init_db425_32 : decode cJ0_init_db425 32 = .ok (.invokestatic 54, 3) := by decide +kernel
theorem dJ0_init_db425_35 : decode cJ0_init_db425 35 = .ok (.putfield 9, 3) := by decide +kernel
theorem dJ0_init_db425_38 : decode cJ0_init_db425 38 = .ok (.goto 59, 3) := by decide +kernel
theorem dJ0_init_db425_41 : decode cJ0_init_db425 41 = .ok (.getstatic 38, 3) := by decide +kernel
theorem dJ0_init_db425_44 : decode cJ0_init_db425 44 = .ok (.ifCond .eq 35, 3) := by decide +kernel
theorem dJ0_init_db425_47 : decode cJ0_init_db425 47 = .ok (.aload_n 1, 1) := by decide +kernel
theorem dJ0_init_db425_48 : decode cJ0_init_db425 48 = .ok (.getfield 1048, 3) := by decide +kernel
theorem dJ0_init_db425_51 : decode cJ0_init_db425 51 = .ok (.ifCond .eq 28, 3) := by decide +kernel
theorem dJ0_init_db425_54 : decode cJ0_init_db425 54 = .ok (.aload_n 0, 1) := by decide +kernel
theorem dJ0_init_db425_55 : decode cJ0_init_db425 55 = .ok (.aload_n 3, 1) := by decide +kernel
theorem dJ0_init_db425_56 : decode cJ0_init_db425 56 = .ok (.iconst 0, 1) := by decide +kernel
theorem dJ0_init_db425_57 : decode cJ0_init_db425 57 = .ok (.iload 4, 2) := by decide +kernel
theorem dJ0_init_db425_59 : decode cJ0_init_db425 59 = .ok (.invokestatic 1051, 3) := by decide +kernel
theorem dJ0_init_db425_62 : decode cJ0_init_db425 62 = .ok (.putfield 9, 3) := by decide +kernel
theorem dJ0_init_db425_65 : decode cJ0_init_db425 65 = .ok (.aload_n 0, 1) := by decide +kernel
theorem dJ0_init_db425_66 : decode cJ0_init_db425 66 = .ok (.aload_n 0, 1) := by decide +kernel
theorem dJ0_init_db425_67 : decode cJ0_init_db425 67 = .ok (.getfield 9, 3) := by decide +kernel
theorem dJ0_init_db425_70 : decode cJ0_init_db425 70 = .ok (.iload 4, 2) := by decide +kernel
theorem dJ0_init_db425_72 : decode cJ0_init_db425 72 = .ok (.invokestatic 47, 3) := by decide +kernel
theorem dJ0_init_db425_75 : decode cJ0_init_db425 75 = .ok (.putfield 15, 3) := by decide +kernel
theorem dJ0_init_db425_78 : decode cJ0_init_db425 78 = .ok (.return_, 1) := by decide +kernel
theorem dJ0_init_db425_79 : decode cJ0_init_db425 79 = .ok (.aload_n 0, 1) := by decide +kernel
theorem dJ0_init_db425_80 : decode cJ0_init_db425 80 = .ok (.iconst 1, 1) := by decide +kernel
theorem dJ0_init_db425_81 : decode cJ0_init_db425 81 = .ok (.putfield 15, 3) := by decide +kernel
theorem dJ0_init_db425_84 : decode cJ0_init_db425 84 = .ok (.aload_n 0, 1) := by decide +kernel
theorem dJ0_init_db425_85 : decode cJ0_init_db425 85 = .ok (.aload_n 3, 1) := by decide +kernel
theorem dJ0_init_db425_86 : decode cJ0_init_db425 86 = .ok (.iconst 0, 1) := by decide +kernel
theorem dJ0_init_db425_87 : decode cJ0_init_db425 87 = .ok (.iload 4, 2) := by decide +kernel
theorem dJ0_init_db425_89 : decode cJ0_init_db425 89 = .ok (.iconst 1, 1) := by decide +kernel
theorem dJ0_init_db425_90 : decode cJ0_init_db425 90 = .ok (.ishl, 1) := by decide +kernel
theorem dJ0_init_db425_91 : decode cJ0_init_db425 91 = .ok (.invokestatic 54, 3) := by decide +kernel
theorem dJ0_init_db425_94 : decode cJ0_init_db425 94 = .ok (.putfield 9, 3) := by decide +kernel
theorem dJ0_init_db425_97 : decode cJ0_init_db425 97 = .ok (.return_, 1) := by decide +kernel
theorem dJ0_coder_7d493_0 : decode cJ0_coder_7d493 0 = .ok (.getstatic 38, 3) := by decide +kernel
theorem dJ0_coder_7d493_3 : decode cJ0_coder_7d493 3 = .ok (.ifCond .eq 10, 3) := by decide +kernel
theorem dJ0_coder_7d493_6 : decode cJ0_coder_7d493 6 = .ok (.aload_n 0, 1) := by decide +kernel
theorem dJ0_coder_7d493_7 : decode cJ0_coder_7d493 7 = .ok (.getfield 15, 3) := by decide +kernel
theorem dJ0_coder_7d493_10 : decode cJ0_coder_7d493 10 = .ok (.goto 4, 3) := by decide +kernel
theorem dJ0_coder_7d493_13 : decode cJ0_coder_7d493 13 = .ok (.iconst 1, 1) := by decide +kernel
theorem dJ0_coder_7d493_14 : decode cJ0_coder_7d493 14 = .ok (.ireturn, 1) := by decide +kernel
theorem dJ0_checkIndex_df160_0 : decode cJ0_checkIndex_df160 0 = .ok (.iload_n 0, 1) := by decide +kernel
theorem dJ0_checkIndex_df160_1 : decode cJ0_checkIndex_df160 1 = .ok (.iload_n 1, 1) := by decide +kernel
theorem dJ0_checkIndex_df160_2 : decode cJ0_checkIndex_df160 2 = .ok (.getstatic 1053, 3) := by decide +kernel
theorem dJ0_checkIndex_df160_5 : decode cJ0_checkIndex_df160 5 = .ok (.invokestatic 1059, 3) := by decide +kernel
theorem dJ0_checkIndex_df160_8 : decode cJ0_checkIndex_df160 8 = .ok (.pop, 1) := by decide +kernel
theorem dJ0_checkIndex_df160_9 : decode cJ0_checkIndex_df160 9 = .ok (.return_, 1) := by decide +kernel
theorem dJ0_checkBoundsOffCount_cabcc_0 : decode cJ0_checkBoundsOffCount_cabcc 0 = .ok (.iload_n 0, 1) := by decide +kernel
theorem dJ0_checkBoundsOffCount_cabcc_1 : decode cJ0_checkBoundsOffCount_cabcc 1 = .ok (.iload_n 1, 1) := by decide +kernel
theorem dJ0_checkBoundsOffCount_cabcc_2 : decode cJ0_checkBoundsOffCount_cabcc 2 = .ok (.iload_n 2, 1) := by decide +kernel
theorem dJ0_checkBoundsOffCount_cabcc_3 : decode cJ0_checkBoundsOffCount_cabcc 3 = .ok (.getstatic 1053, 3) := by decide +kernel
theorem dJ0_checkBoundsOffCount_cabcc_6 : decode cJ0_checkBoundsOffCount_cabcc 6 = .ok (.invokestatic 1065, 3) := by decide +kernel
theorem dJ0_checkBoundsOffCount_cabcc_9 : decode cJ0_checkBoundsOffCount_cabcc 9 = .ok (.ireturn, 1) := by decide +kernel
theorem dJ0_checkBoundsBeginEnd_23922_0 : decode cJ0_checkBoundsBeginEnd_23922 0 = .ok (.iload_n 0, 1) := by decide +kernel
theorem dJ0_checkBoundsBeginEnd_23922_1 : decode cJ0_checkBoundsBeginEnd_23922 1 = .ok (.iload_n 1, 1) := by decide +kernel
theorem dJ0_checkBoundsBeginEnd_23922_2 : decode cJ0_checkBoundsBeginEnd_23922 2 = .ok (.iload_n 2, 1) := by decide +kernel
theorem dJ0_checkBoundsBeginEnd_23922_3 : decode cJ0_checkBoundsBeginEnd_23922 3 = .ok (.getstatic 1053, 3) := by decide +kernel
theorem dJ0_checkBoundsBeginEnd_23922_6 : decode cJ0_checkBoundsBeginEnd_23922 6 = .ok (.invokestatic 1062, 3) := by decide +kernel
theorem dJ0_checkBoundsBeginEnd_23922_9 : decode cJ0_checkBoundsBeginEnd_23922 9 = .ok (.pop, 1) := by decide +kernel
theorem dJ0_checkBoundsBeginEnd_23922_10 : decode cJ0_checkBoundsBeginEnd_23922 10 = .ok (.return_, 1) := by decide +kernel
theorem dJ4_init_da8c8_0 : decode cJ4_init_da8c8 0 = .ok (.aload_n 0, 1) := by decide +kernel
theorem dJ4_init_da8c8_1 : decode cJ4_init_da8c8 1 = .ok (.bipush 16, 2) := by decide +kernel
theorem dJ4_init_da8c8_3 : decode cJ4_init_da8c8 3 = .ok (.invokespecial 1, 3) := by decide +kernel
theorem dJ4_init_da8c8_6 : decode cJ4_init_da8c8 6 = .ok (.return_, 1) := by decide +kernel
theorem dJ4_append_15ec4_0 : decode cJ4_append_15ec4 0 = .ok (.aload_n 0, 1) := by decide +kernel
theorem dJ4_append_15ec4_1 : decode cJ4_append_15ec4 1 = .ok (.aload_n 1, 1) := by decide +kernel
theorem dJ4_append_15ec4_2 : decode cJ4_append_15ec4 2 = .ok (.invokespecial 29, 3) := by decide +kernel
theorem dJ4_append_15ec4_5 : decode cJ4_append_15ec4 5 = .ok (.pop, 1) := by decide +kernel
theorem dJ4_append_15ec4_6 : decode cJ4_append_15ec4 6 = .ok (.aload_n 0, 1) := by decide +kernel
theorem dJ4_append_15ec4_7 : decode cJ4_append_15ec4 7 = .ok (.areturn, 1) := by decide +kernel
theorem dJ4_append_cf468_0 : decode cJ4_append_cf468 0 = .ok (.aload_n 0, 1) := by decide +kernel
theorem dJ4_append_cf468_1 : decode cJ4_append_cf468 1 = .ok (.iload_n 1, 1) := by decide +kernel
theorem dJ4_append_cf468_2 : decode cJ4_append_cf468 2 = .ok (.invokespecial 50, 3) := by decide +kernel
theorem dJ4_append_cf468_5 : decode cJ4_append_cf468 5 = .ok (.pop, 1) := by decide +kernel
theorem dJ4_append_cf468_6 : decode cJ4_append_cf468 6 = .ok (.aload_n 0, 1) := by decide +kernel
theorem dJ4_append_cf468_7 : decode cJ4_append_cf468 7 = .ok (.areturn, 1) := by decide +kernel
theorem dJ4_append_bf812_0 : decode cJ4_append_bf812 0 = .ok (.aload_n 0, 1) := by decide +kernel
theorem dJ4_append_bf812_1 : decode cJ4_append_bf812 1 = .ok (.iload_n 1, 1) := by decide +kernel
theorem dJ4_append_bf812_2 : decode cJ4_append_bf812 2 = .ok (.invokespecial 53, 3) := by decide +kernel
theorem dJ4_append_bf812_5 : decode cJ4_append_bf812 5 = .ok (.pop, 1) := by decide +kernel
theorem dJ4_append_bf812_6 : decode cJ4_append_bf812 6 = .ok (.aload_n 0, 1) := by decide +kernel
theorem dJ4_append_bf812_7 : decode cJ4_append_bf812 7 = .ok (.areturn, 1) := by decide +kernel
theorem dJ4_toString_0e30d_0 : decode cJ4_toString_0e30d 0 = .ok (.new 18, 3) := by decide +kernel
theorem dJ4_toString_0e30d_3 : decode cJ4_toString_0e30d 3 = .ok (.dup, 1) := by decide +kernel
theorem dJ4_toString_0e30d_4 : decode cJ4_toString_0e30d 4 = .ok (.aload_n 0, 1) := by decide +kernel
theorem dJ4_toString_0e30d_5 : decode cJ4_toString_0e30d 5 = .ok (.invokespecial 137, 3) := by decide +kernel
theorem dJ4_toString_0e30d_8 : decode cJ4_toString_0e30d 8 = .ok (.areturn, 1) := by decide +kernel
theorem dJ4_charAt_5068e_0 : decode cJ4_charAt_5068e 0 = .ok (.aload_n 0, 1) := by decide +kernel
theorem dJ4_charAt_5068e_1 : decode cJ4_charAt_5068e 1 = .ok (.iload_n 1, 1) := by decide +kernel
theorem dJ4_charAt_5068e_2 : decode cJ4_charAt_5068e 2 = .ok (.invokespecial 329, 3) := by decide +kernel
theorem dJ4_charAt_5068e_5 : decode cJ4_charAt_5068e 5 = .ok (.ireturn, 1) := by decide +kernel
theorem dJ4_setLength_d00df_0 : decode cJ4_setLength_d00df 0 = .ok (.aload_n 0, 1) := by decide +kernel
theorem dJ4_setLength_d00df_1 : decode cJ4_setLength_d00df 1 = .ok (.iload_n 1, 1) := by decide +kernel
theorem dJ4_setLength_d00df_2 : decode cJ4_setLength_d00df 2 = .ok (.invokespecial 333, 3) := by decide +kernel
theorem dJ4_setLength_d00df_5 : decode cJ4_setLength_d00df 5 = .ok (.return_, 1) := by decide +kernel
theorem dJ4_length_8abf5_0 : decode cJ4_length_8abf5 0 = .ok (.aload_n 0, 1) := by decide +kernel
theorem dJ4_length_8abf5_1 : decode cJ4_length_8abf5 1 = .ok (.invokespecial 343, 3) := by decide +kernel
theorem dJ4_length_8abf5_4 : decode cJ4_length_8abf5 4 = .ok (.ireturn, 1) := by decide +kernel
theorem dJx7c733_init_d00df_0 : decode cJx7c733_init_d00df 0 = .ok (.aload_n 0, 1) := by decide +kernel
theorem dJx7c733_init_d00df_1 : decode cJx7c733_init_d00df 1 = .ok (.new 10, 3) := by decide +kernel
theorem dJx7c733_init_d00df_4 : decode cJx7c733_init_d00df 4 = .ok (.dup, 1) := by decide +kernel
theorem dJx7c733_init_d00df_5 : decode cJx7c733_init_d00df 5 = .ok (.invokespecial 12, 3) := by decide +kernel
theorem dJx7c733_init_d00df_8 : decode cJx7c733_init_d00df 8 = .ok (.ldc 13, 2) := by decide +kernel
theorem dJx7c733_init_d00df_10 : decode cJx7c733_init_d00df 10 = .ok (.invokevirtual 15, 3) := by decide +kernel
theorem dJx7c733_init_d00df_13 : decode cJx7c733_init_d00df 13 = .ok (.iload_n 1, 1) := by decide +kernel
theorem dJx7c733_init_d00df_14 : decode cJx7c733_init_d00df 14 = .ok (.invokevirtual 19, 3) := by decide +kernel
theorem dJx7c733_init_d00df_17 : decode cJx7c733_init_d00df 17 = .ok (.invokevirtual 22, 3) := by decide +kernel
theorem dJx7c733_init_d00df_20 : decode cJx7c733_init_d00df 20 = .ok (.invokespecial 7, 3) := by decide +kernel
theorem dJx7c733_init_d00df_23 : decode cJx7c733_init_d00df 23 = .ok (.return_, 1) := by decide +kernel
theorem dJ1_canEncode_fc78d_0 : decode cJ1_canEncode_fc78d 0 = .ok (.iload_n 0, 1) := by decide +kernel
theorem dJ1_canEncode_fc78d_1 : decode cJ1_canEncode_fc78d 1 = .ok (.sipush 255, 3) := by decide +kernel
theorem dJ1_canEncode_fc78d_4 : decode cJ1_canEncode_fc78d 4 = .ok (.if_icmp .gt 7, 3) := by decide +kernel
theorem dJ1_canEncode_fc78d_7 : decode cJ1_canEncode_fc78d 7 = .ok (.iconst 1, 1) := by decide +kernel
theorem dJ1_canEncode_fc78d_8 : decode cJ1_canEncode_fc78d 8 = .ok (.goto 4, 3) := by decide +kernel
theorem dJ1_canEncode_fc78d_11 : decode cJ1_canEncode_fc78d 11 = .ok (.iconst 0, 1) := by decide +kernel
theorem dJ1_canEncode_fc78d_12 : decode cJ1_canEncode_fc78d 12 = .ok (.ireturn, 1) := by decide +kernel
theorem dJ1_fillNull_b72d1_0 : decode cJ1_fillNull_b72d1 0 = .ok (.aload_n 0, 1) := by decide +kernel
theorem dJ1_fillNull_b72d1_1 : decode cJ1_fillNull_b72d1 1 = .ok (.iload_n 1, 1) := by decide +kernel
theorem dJ1_fillNull_b72d1_2 : decode cJ1_fillNull_b72d1 2 = .ok (.iload_n 2, 1) := by decide +kernel
theorem dJ1_fillNull_b72d1_3 : decode cJ1_fillNull_b72d1 3 = .ok (.iconst 0, 1) := by decide +kernel
theorem dJ1_fillNull_b72d1_4 : decode cJ1_fillNull_b72d1 4 = .ok (.invokestatic 236, 3) := by decide +kernel
theorem dJ1_fillNull_b72d1_7 : decode cJ1_fillNull_b72d1 7 = .ok (.return_, 1) := by decide +kernel
theorem dJ1_inflate_0e8fd_0 : decode cJ1_inflate_0e8fd 0 = .ok (.aload_n 0, 1) := by decide +kernel
theorem dJ1_inflate_0e8fd_1 : decode cJ1_inflate_0e8fd 1 = .ok (.iload_n 1, 1) := by decide +kernel
theorem dJ1_inflate_0e8fd_2 : decode cJ1_inflate_0e8fd 2 = .ok (.aload_n 2, 1) := by decide +kernel
theorem dJ1_inflate_0e8fd_3 : decode cJ1_inflate_0e8fd 3 = .ok (.iload_n 3, 1) := by decide +kernel
theorem dJ1_inflate_0e8fd_4 : decode cJ1_inflate_0e8fd 4 = .ok (.iload 4, 2) := by decide +kernel
theorem dJ1_inflate_0e8fd_6 : decode cJ1_inflate_0e8fd 6 = .ok (.invokestatic 240, 3) := by decide +kernel
theorem dJ1_inflate_0e8fd_9 : decode cJ1_inflate_0e8fd 9 = .ok (.return_, 1) := by decide +kernel
theorem dJ2_newBytesFor_77867_0 : decode cJ2_newBytesFor_77867 0 = .ok (.iload_n 0, 1) := by decide +kernel
theorem dJ2_newBytesFor_77867_1 : decode cJ2_newBytesFor_77867 1 = .ok (.invokestatic 11, 3) := by decide +kernel
theorem dJ2_newBytesFor_77867_4 : decode cJ2_newBytesFor_77867 4 = .ok (.newarray .byte, 2) := by decide +kernel
theorem dJ2_newBytesFor_77867_6 : decode cJ2_newBytesFor_77867 6 = .ok (.areturn, 1) := by decide +kernel
theorem dJ2_newBytesLength_0f7a4_0 : decode cJ2_newBytesLength_0f7a4 0 = .ok (.iload_n 0, 1) := by decide +kernel
theorem dJ2_newBytesLength_0f7a4_1 : decode cJ2_newBytesLength_0f7a4 1 = .ok (.ifCond .ge 11, 3) := by decide +kernel
theorem dJ2_newBytesLength_0f7a4_4 : decode cJ2_newBytesLength_0f7a4 4 = .ok (.new 17, 3) := by decide +kernel
theorem dJ2_newBytesLength_0f7a4_7 : decode cJ2_newBytesLength_0f7a4 7 = .ok (.dup, 1) := by decide +kernel
theorem dJ2_newBytesLength_0f7a4_8 : decode cJ2_newBytesLength_0f7a4 8 = .ok (.invokespecial 19, 3) := by decide +kernel
theorem dJ2_newBytesLength_0f7a4_11 : decode cJ2_newBytesLength_0f7a4 11 = .ok (.athrow, 1) := by decide +kernel
theorem dJ2_newBytesLength_0f7a4_12 : decode cJ2_newBytesLength_0f7a4 12 = .ok (.iload_n 0, 1) := by decide +kernel
theorem dJ2_newBytesLength_0f7a4_13 : decode cJ2_newBytesLength_0f7a4 13 = .ok (.ldc 20, 2) := by decide +kernel
theorem dJ2_newBytesLength_0f7a4_15 : decode cJ2_newBytesLength_0f7a4 15 = .ok (.if_icmp .lt 40, 3) := by decide +kernel
theorem dJ2_newBytesLength_0f7a4_18 : decode cJ2_newBytesLength_0f7a4 18 = .ok (.new 21, 3) := by decide +kernel
theorem dJ2_newBytesLength_0f7a4_21 : decode cJ2_newBytesLength_0f7a4 21 = .ok (.dup, 1) := by decide +kernel
theorem dJ2_newBytesLength_0f7a4_22 : decode cJ2_newBytesLength_0f7a4 22 = .ok (.new 23, 3) := by decide +kernel
theorem dJ2_newBytesLength_0f7a4_25 : decode cJ2_newBytesLength_0f7a4 25 = .ok (.dup, 1) := by decide +kernel
theorem dJ2_newBytesLength_0f7a4_26 : decode cJ2_newBytesLength_0f7a4 26 = .ok (.invokespecial 25, 3) := by decide +kernel
theorem dJ2_newBytesLength_0f7a4_29 : decode cJ2_newBytesLength_0f7a4 29 = .ok (.ldc 26, 2) := by decide +kernel
theorem dJ2_newBytesLength_0f7a4_31 : decode cJ2_newBytesLength_0f7a4 31 = .ok (.invokevirtual 28, 3) := by decide +kernel
theorem dJ2_newBytesLength_0f7a4_34 : decode cJ2_newBytesLength_0f7a4 34 = .ok (.iload_n 0, 1) := by decide +kernel
theorem dJ2_newBytesLength_0f7a4_35 : decode cJ2_newBytesLength_0f7a4 35 = .ok (.invokevirtual 32, 3) := by decide +kernel
theorem dJ2_newBytesLength_0f7a4_38 : decode cJ2_newBytesLength_0f7a4 38 = .ok (.ldc 35, 2) := by decide +kernel
theorem dJ2_newBytesLength_0f7a4_40 : decode cJ2_newBytesLength_0f7a4 40 = .ok (.invokevirtual 28, 3) := by decide +kernel
theorem dJ2_newBytesLength_0f7a4_43 : decode cJ2_newBytesLength_0f7a4 43 = .ok (.ldc 20, 2) := by decide +kernel
theorem dJ2_newBytesLength_0f7a4_45 : decode cJ2_newBytesLength_0f7a4 45 = .ok (.invokevirtual 32, 3) := by decide +kernel
theorem dJ2_newBytesLength_0f7a4_48 : decode cJ2_newBytesLength_0f7a4 48 = .ok (.invokevirtual 37, 3) := by decide +kernel
theorem dJ2_newBytesLength_0f7a4_51 : decode cJ2_newBytesLength_0f7a4 51 = .ok (.invokespecial 41, 3) := by decide +kernel
theorem dJ2_newBytesLength_0f7a4_54 : decode cJ2_newBytesLength_0f7a4 54 = .ok (.athrow, 1) := by decide +kernel
theorem dJ2_newBytesLength_0f7a4_55 : decode cJ2_newBytesLength_0f7a4 55 = .ok (.iload_n 0, 1) := by decide +kernel
theorem dJ2_newBytesLength_0f7a4_56 : decode cJ2_newBytesLength_0f7a4 56 = .ok (.iconst 1, 1) := by decide +kernel
theorem dJ2_newBytesLength_0f7a4_57 : decode cJ2_newBytesLength_0f7a4 57 = .ok (.ishl, 1) := by decide +kernel
theorem dJ2_newBytesLength_0f7a4_58 : decode cJ2_newBytesLength_0f7a4 58 = .ok (.ireturn, 1) := by decide +kernel
theorem dJ2_putChar_b72d1_0 : decode cJ2_putChar_b72d1 0 = .ok (.getstatic 44, 3) := by decide +kernel
theorem dJ2_putChar_b72d1_3 : decode cJ2_putChar_b72d1 3 = .ok (.ifCond .ne 25, 3) := by decide +kernel
theorem dJ2_putChar_b72d1_6 : decode cJ2_putChar_b72d1 6 = .ok (.iload_n 1, 1) := by decide +kernel
theorem dJ2_putChar_b72d1_7 : decode cJ2_putChar_b72d1 7 = .ok (.ifCond .lt 11, 3) := by decide +kernel
theorem dJ2_putChar_b72d1_10 : decode cJ2_putChar_b72d1 10 = .ok (.iload_n 1, 1) := by decide +kernel
theorem dJ2_putChar_b72d1_11 : decode cJ2_putChar_b72d1 11 = .ok (.aload_n 0, 1) := by decide +kernel
theorem dJ2_putChar_b72d1_12 : decode cJ2_putChar_b72d1 12 = .ok (.invokestatic 48, 3) := by decide +kernel
theorem dJ2_putChar_b72d1_15 : decode cJ2_putChar_b72d1 15 = .ok (.if_icmp .lt 13, 3) := by decide +kernel
theorem dJ2_putChar_b72d1_18 : decode cJ2_putChar_b72d1 18 = .ok (.new 52, 3) := by decide +kernel
theorem dJ2_putChar_b72d1_21 : decode cJ2_putChar_b72d1 21 = .ok (.dup, 1) := by decide +kernel
theorem dJ2_putChar_b72d1_22 : decode cJ2_putChar_b72d1 22 = .ok (.ldc 54, 2) := by decide +kernel
theorem dJ2_putChar_b72d1_24 : decode cJ2_putChar_b72d1 24 = .ok (.invokespecial 56, 3) := by decide +kernel
theorem dJ2_putChar_b72d1_27 : decode cJ2_putChar_b72d1 27 = .ok (.athrow, 1) := by decide +kernel
theorem dJ2_putChar_b72d1_28 : decode cJ2_putChar_b72d1 28 = .ok (.iload_n 1, 1) := by decide +kernel
theorem dJ2_putChar_b72d1_29 : decode cJ2_putChar_b72d1 29 = .ok (.iconst 1, 1) := by decide +kernel
theorem dJ2_putChar_b72d1_30 : decode cJ2_putChar_b72d1 30 = .ok (.ishl, 1) := by decide +kernel
theorem dJ2_putChar_b72d1_31 : decode cJ2_putChar_b72d1 31 = .ok (.istore_n 1, 1) := by decide +kernel
theorem dJ2_putChar_b72d1_32 : decode cJ2_putChar_b72d1 32 = .ok (.aload_n 0, 1) := by decide +kernel
theorem dJ2_putChar_b72d1_33 : decode cJ2_putChar_b72d1 33 = .ok (.iload_n 1, 1) := by decide +kernel
theorem dJ2_putChar_b72d1_34 : decode cJ2_putChar_b72d1 34 = .ok (.iinc 1 1, 3) := by decide +kernel
theorem dJ2_putChar_b72d1_37 : decode cJ2_putChar_b72d1 37 = .ok (.iload_n 2, 1) := by decide +kernel
theorem dJ2_putChar_b72d1_38 : decode cJ2_putChar_b72d1 38 = .ok (.getstatic 59, 3) := by decide +kernel
theorem dJ2_putChar_b72d1_41 : decode cJ2_putChar_b72d1 41 = .ok (.ishr, 1) := by decide +kernel
theorem dJ2_putChar_b72d1_42 : decode cJ2_putChar_b72d1 42 = .ok (.i2b, 1) := by decide +kernel
theorem dJ2_putChar_b72d1_43 : decode cJ2_putChar_b72d1 43 = .ok (.bastore, 1) := by decide +kernel
theorem dJ2_putChar_b72d1_44 : decode cJ2_putChar_b72d1 44 = .ok (.aload_n 0, 1) := by decide +kernel
theorem dJ2_putChar_b72d1_45 : decode cJ2_putChar_b72d1 45 = .ok (.iload_n 1, 1) := by decide +kernel
theorem dJ2_putChar_b72d1_46 : decode cJ2_putChar_b72d1 46 = .ok (.iload_n 2, 1) := by decide +kernel
theorem dJ2_putChar_b72d1_47 : decode cJ2_putChar_b72d1 47 = .ok (.getstatic 63, 3) := by decide +kernel
theorem dJ2_putChar_b72d1_50 : decode cJ2_putChar_b72d1 50 = .ok (.ishr, 1) := by decide +kernel
theorem dJ2_putChar_b72d1_51 : decode cJ2_putChar_b72d1 51 = .ok (.i2b, 1) := by decide +kernel
theorem dJ2_putChar_b72d1_52 : decode cJ2_putChar_b72d1 52 = .ok (.bastore, 1) := by decide +kernel
theorem dJ2_putChar_b72d1_53 : decode cJ2_putChar_b72d1 53 = .ok (.return_, 1) := by decide +kernel
theorem dJ2_getChar_3b067_0 : decode cJ2_getChar_3b067 0 = .ok (.getstatic 44, 3) := by decide +kernel
theorem dJ2_getChar_3b067_3 : decode cJ2_getChar_3b067 3 = .ok (.ifCond .ne 25, 3) := by decide +kernel
theorem dJ2_getChar_3b067_6 : decode cJ2_getChar_3b067 6 = .ok (.iload_n 1, 1) := by decide +kernel
theorem dJ2_getChar_3b067_7 : decode cJ2_getChar_3b067 7 = .ok (.ifCond .lt 11, 3) := by decide +kernel
theorem dJ2_getChar_3b067_10 : decode cJ2_getChar_3b067 10 = .ok (.iload_n 1, 1) := by decide +kernel
theorem dJ2_getChar_3b067_11 : decode cJ2_getChar_3b067 11 = .ok (.aload_n 0, 1) := by decide +kernel
theorem dJ2_getChar_3b067_12 : decode cJ2_getChar_3b067 12 = .ok (.invokestatic 48, 3) := by decide +kernel
theorem dJ2_getChar_3b067_15 : decode cJ2_getChar_3b067 15 = .ok (.if_icmp .lt 13, 3) := by decide +kernel
theorem dJ2_getChar_3b067_18 : decode cJ2_getChar_3b067 18 = .ok (.new 52, 3) := by decide +kernel
theorem dJ2_getChar_3b067_21 : decode cJ2_getChar_3b067 21 = .ok (.dup, 1) := by decide +kernel
theorem dJ2_getChar_3b067_22 : decode cJ2_getChar_3b067 22 = .ok (.ldc 54, 2) := by decide +kernel
theorem dJ2_getChar_3b067_24 : decode cJ2_getChar_3b067 24 = .ok (.invokespecial 56, 3) := by decide +kernel
theorem dJ2_getChar_3b067_27 : decode cJ2_getChar_3b067 27 = .ok (.athrow, 1) := by decide +kernel
theorem dJ2_getChar_3b067_28 : decode cJ2_getChar_3b067 28 = .ok (.iload_n 1, 1) := by decide +kernel
theorem dJ2_getChar_3b067_29 : decode cJ2_getChar_3b067 29 = .ok (.iconst 1, 1) := by decide +kernel
theorem dJ2_getChar_3b067_30 : decode cJ2_getChar_3b067 30 = .ok (.ishl, 1) := by decide +kernel
theorem dJ2_getChar_3b067_31 : decode cJ2_getChar_3b067 31 = .ok (.istore_n 1, 1) := by decide +kernel
theorem dJ2_getChar_3b067_32 : decode cJ2_getChar_3b067 32 = .ok (.aload_n 0, 1) := by decide +kernel
theorem dJ2_getChar_3b067_33 : decode cJ2_getChar_3b067 33 = .ok (.iload_n 1, 1) := by decide +kernel
theorem dJ2_getChar_3b067_34 : decode cJ2_getChar_3b067 34 = .ok (.iinc 1 1, 3) := by decide +kernel
theorem dJ2_getChar_3b067_37 : decode cJ2_getChar_3b067 37 = .ok (.baload, 1) := by decide +kernel
theorem dJ2_getChar_3b067_38 : decode cJ2_getChar_3b067 38 = .ok (.sipush 255, 3) := by decide +kernel
theorem dJ2_getChar_3b067_41 : decode cJ2_getChar_3b067 41 = .ok (.iand, 1) := by decide +kernel
theorem dJ2_getChar_3b067_42 : decode cJ2_getChar_3b067 42 = .ok (.getstatic 59, 3) := by decide +kernel
theorem dJ2_getChar_3b067_45 : decode cJ2_getChar_3b067 45 = .ok (.ishl, 1) := by decide +kernel
theorem dJ2_getChar_3b067_46 : decode cJ2_getChar_3b067 46 = .ok (.aload_n 0, 1) := by decide +kernel
theorem dJ2_getChar_3b067_47 : decode cJ2_getChar_3b067 47 = .ok (.iload_n 1, 1) := by decide +kernel
theorem dJ2_getChar_3b067_48 : decode cJ2_getChar_3b067 48 = .ok (.baload, 1) := by decide +kernel
theorem dJ2_getChar_3b067_49 : decode cJ2_getChar_3b067 49 = .ok (.sipush 255, 3) := by decide +kernel
theorem dJ2_getChar_3b067_52 : decode cJ2_getChar_3b067 52 = .ok (.iand, 1) := by decide +kernel
theorem dJ2_getChar_3b067_53 : decode cJ2_getChar_3b067 53 = .ok (.getstatic 63, 3) := by decide +kernel
theorem dJ2_getChar_3b067_56 : decode cJ2_getChar_3b067 56 = .ok (.ishl, 1) := by decide +kernel
theorem dJ2_getChar_3b067_57 : decode cJ2_getChar_3b067 57 = .ok (.ior, 1) := by decide +kernel
theorem dJ2_getChar_3b067_58 : decode cJ2_getChar_3b067 58 = .ok (.i2c, 1) := by decide +kernel
theorem dJ2_getChar_3b067_59 : decode cJ2_getChar_3b067 59 = .ok (.ireturn, 1) := by decide +kernel
theorem dJ2_length_9d52b_0 : decode cJ2_length_9d52b 0 = .ok (.aload_n 0, 1) := by decide +kernel
theorem dJ2_length_9d52b_1 : decode cJ2_length_9d52b 1 = .ok (.arraylength, 1) := by decide +kernel
theorem dJ2_length_9d52b_2 : decode cJ2_length_9d52b 2 = .ok (.iconst 1, 1) := by decide +kernel
theorem dJ2_length_9d52b_3 : decode cJ2_length_9d52b 3 = .ok (.ishr, 1) := by decide +kernel
theorem dJ2_length_9d52b_4 : decode cJ2_length_9d52b 4 = .ok (.ireturn, 1) := by decide +kernel
theorem dJ2_coderFromArrayLen_85cad_0 : decode cJ2_coderFromArrayLen_85cad 0 = .ok (.iload_n 1, 1) := by decide +kernel
theorem dJ2_coderFromArrayLen_85cad_1 : decode cJ2_coderFromArrayLen_85cad 1 = .ok (.aload_n 0, 1) := by decide +kernel
theorem dJ2_coderFromArrayLen_85cad_2 : decode cJ2_coderFromArrayLen_85cad 2 = .ok (.arraylength, 1) := by decide +kernel
theorem dJ2_coderFromArrayLen_85cad_3 : decode cJ2_coderFromArrayLen_85cad 3 = .ok (.isub, 1) := by decide +kernel
theorem dJ2_coderFromArrayLen_85cad_4 : decode cJ2_coderFromArrayLen_85cad 4 = .ok (.bipush 31, 2) := by decide +kernel
theorem dJ2_coderFromArrayLen_85cad_6 : decode cJ2_coderFromArrayLen_85cad 6 = .ok (.iushr, 1) := by decide +kernel
theorem dJ2_coderFromArrayLen_85cad_7 : decode cJ2_coderFromArrayLen_85cad 7 = .ok (.i2b, 1) := by decide +kernel
theorem dJ2_coderFromArrayLen_85cad_8 : decode cJ2_coderFromArrayLen_85cad 8 = .ok (.ireturn, 1) := by decide +kernel
theorem dJ2_compress_39247_0 : decode cJ2_compress_39247 0 = .ok (.iload_n 2, 1) := by decide +kernel
theorem dJ2_compress_39247_1 : decode cJ2_compress_39247 1 = .ok (.newarray .byte, 2) := by decide +kernel
theorem dJ2_compress_39247_3 : decode cJ2_compress_39247 3 = .ok (.astore_n 3, 1) := by decide +kernel
theorem dJ2_compress_39247_4 : decode cJ2_compress_39247 4 = .ok (.aload_n 0, 1) := by decide +kernel
theorem dJ2_compress_39247_5 : decode cJ2_compress_39247 5 = .ok (.iload_n 1, 1) := by decide +kernel
theorem dJ2_compress_39247_6 : decode cJ2_compress_39247 6 = .ok (.aload_n 3, 1) := by decide +kernel
theorem dJ2_compress_39247_7 : decode cJ2_compress_39247 7 = .ok (.iconst 0, 1) := by decide +kernel
theorem dJ2_compress_39247_8 : decode cJ2_compress_39247 8 = .ok (.iload_n 2, 1) := by decide +kernel
theorem dJ2_compress_39247_9 : decode cJ2_compress_39247 9 = .ok (.invokestatic 123, 3) := by decide +kernel
theorem dJ2_compress_39247_12 : decode cJ2_compress_39247 12 = .ok (.istore 4, 2) := by decide +kernel
theorem dJ2_compress_39247_14 : decode cJ2_compress_39247 14 = .ok (.iload 4, 2) := by decide +kernel
theorem dJ2_compress_39247_16 : decode cJ2_compress_39247 16 = .ok (.iload_n 2, 1) := by decide +kernel
theorem dJ2_compress_39247_17 : decode cJ2_compress_39247 17 = .ok (.if_icmp .eq 47, 3) := by decide +kernel
theorem dJ2_compress_39247_20 : decode cJ2_compress_39247 20 = .ok (.aload_n 0, 1) := by decide +kernel
theorem dJ2_compress_39247_21 : decode cJ2_compress_39247 21 = .ok (.iload_n 1, 1) := by decide +kernel
theorem dJ2_compress_39247_22 : decode cJ2_compress_39247 22 = .ok (.iconst 1, 1) := by decide +kernel
theorem dJ2_compress_39247_23 : decode cJ2_compress_39247 23 = .ok (.ishl, 1) := by decide +kernel
theorem dJ2_compress_39247_24 : decode cJ2_compress_39247 24 = .ok (.iload_n 1, 1) := by decide +kernel
theorem dJ2_compress_39247_25 : decode cJ2_compress_39247 25 = .ok (.iload_n 2, 1) := by decide +kernel
theorem dJ2_compress_39247_26 : decode cJ2_compress_39247 26 = .ok (.iadd, 1) := by decide +kernel
theorem dJ2_compress_39247_27 : decode cJ2_compress_39247 27 = .ok (.invokestatic 11, 3) := by decide +kernel
theorem dJ2_compress_39247_30 : decode cJ2_compress_39247 30 = .ok (.invokestatic 126, 3) := by decide +kernel
theorem dJ2_compress_39247_33 : decode cJ2_compress_39247 33 = .ok (.astore 5, 2) := by decide +kernel
theorem dJ2_compress_39247_35 : decode cJ2_compress_39247 35 = .ok (.aload 5, 2) := by decide +kernel
theorem dJ2_compress_39247_37 : decode cJ2_compress_39247 37 = .ok (.iload 4, 2) := by decide +kernel
theorem dJ2_compress_39247_39 : decode cJ2_compress_39247 39 = .ok (.invokestatic 71, 3) := by decide +kernel
theorem dJ2_compress_39247_42 : decode cJ2_compress_39247 42 = .ok (.sipush 255, 3) := by decide +kernel
theorem dJ2_compress_39247_45 : decode cJ2_compress_39247 45 = .ok (.if_icmp .gt 16, 3) := by decide +kernel
theorem dJ2_compress_39247_48 : decode cJ2_compress_39247 48 = .ok (.aload 5, 2) := by decide +kernel
theorem dJ2_compress_39247_50 : decode cJ2_compress_39247 50 = .ok (.iconst 0, 1) := by decide +kernel
theorem dJ2_compress_39247_51 : decode cJ2_compress_39247 51 = .ok (.aload_n 3, 1) := by decide +kernel
theorem dJ2_compress_39247_52 : decode cJ2_compress_39247 52 = .ok (.iconst 0, 1) := by decide +kernel
theorem dJ2_compress_39247_53 : decode cJ2_compress_39247 53 = .ok (.iload_n 2, 1) := by decide +kernel
theorem dJ2_compress_39247_54 : decode cJ2_compress_39247 54 = .ok (.invokestatic 123, 3) := by decide +kernel
theorem dJ2_compress_39247_57 : decode cJ2_compress_39247 57 = .ok (.iload_n 2, 1) := by decide +kernel
theorem dJ2_compress_39247_58 : decode cJ2_compress_39247 58 = .ok (.if_icmp .eq 6, 3) := by decide +kernel
theorem dJ2_compress_39247_61 : decode cJ2_compress_39247 61 = .ok (.aload 5, 2) := by decide +kernel
theorem dJ2_compress_39247_63 : decode cJ2_compress_39247 63 = .ok (.areturn, 1) := by decide +kernel
theorem dJ2_compress_39247_64 : decode cJ2_compress_39247 64 = .ok (.aload_n 3, 1) := by decide +kernel
theorem dJ2_compress_39247_65 : decode cJ2_compress_39247 65 = .ok (.areturn, 1) := by decide +kernel
theorem dJ2_compress_5af95_0 : decode cJ2_compress_5af95 0 = .ok (.iload_n 1, 1) := by decide +kernel
theorem dJ2_compress_5af95_1 : decode cJ2_compress_5af95 1 = .ok (.iload 4, 2) := by decide +kernel
theorem dJ2_compress_5af95_3 : decode cJ2_compress_5af95 3 = .ok (.aload_n 0, 1) := by decide +kernel
theorem dJ2_compress_5af95_4 : decode cJ2_compress_5af95 4 = .ok (.invokestatic 173, 3) := by decide +kernel
theorem dJ2_compress_5af95_7 : decode cJ2_compress_5af95 7 = .ok (.iconst 0, 1) := by decide +kernel
theorem dJ2_compress_5af95_8 : decode cJ2_compress_5af95 8 = .ok (.istore 5, 2) := by decide +kernel
theorem dJ2_compress_5af95_10 : decode cJ2_compress_5af95 10 = .ok (.iload 5, 2) := by decide +kernel
theorem dJ2_compress_5af95_12 : decode cJ2_compress_5af95 12 = .ok (.iload 4, 2) := by decide +kernel
theorem dJ2_compress_5af95_14 : decode cJ2_compress_5af95 14 = .ok (.if_icmp .ge 39, 3) := by decide +kernel
theorem dJ2_compress_5af95_17 : decode cJ2_compress_5af95 17 = .ok (.aload_n 0, 1) := by decide +kernel
theorem dJ2_compress_5af95_18 : decode cJ2_compress_5af95 18 = .ok (.iload_n 1, 1) := by decide +kernel
theorem dJ2_compress_5af95_19 : decode cJ2_compress_5af95 19 = .ok (.invokestatic 71, 3) := by decide +kernel
theorem dJ2_compress_5af95_22 : decode cJ2_compress_5af95 22 = .ok (.istore 6, 2) := by decide +kernel
theorem dJ2_compress_5af95_24 : decode cJ2_compress_5af95 24 = .ok (.iload 6, 2) := by decide +kernel
theorem dJ2_compress_5af95_26 : decode cJ2_compress_5af95 26 = .ok (.sipush 255, 3) := by decide +kernel
theorem dJ2_compress_5af95_29 : decode cJ2_compress_5af95 29 = .ok (.if_icmp .le 6, 3) := by decide +kernel
theorem dJ2_compress_5af95_32 : decode cJ2_compress_5af95 32 = .ok (.iload 5, 2) := by decide +kernel
theorem dJ2_compress_5af95_34 : decode cJ2_compress_5af95 34 = .ok (.ireturn, 1) := by decide +kernel
theorem dJ2_compress_5af95_35 : decode cJ2_compress_5af95 35 = .ok (.aload_n 2, 1) := by decide +kernel
theorem dJ2_compress_5af95_36 : decode cJ2_compress_5af95 36 = .ok (.iload_n 3, 1) := by decide +kernel
theorem dJ2_compress_5af95_37 : decode cJ2_compress_5af95 37 = .ok (.iload 6, 2) := by decide +kernel
theorem dJ2_compress_5af95_39 : decode cJ2_compress_5af95 39 = .ok (.i2b, 1) := by decide +kernel
theorem dJ2_compress_5af95_40 : decode cJ2_compress_5af95 40 = .ok (.bastore, 1) := by decide +kernel
theorem dJ2_compress_5af95_41 : decode cJ2_compress_5af95 41 = .ok (.iinc 1 1, 3) := by decide +kernel
theorem dJ2_compress_5af95_44 : decode cJ2_compress_5af95 44 = .ok (.iinc 3 1, 3) := by decide +kernel
theorem dJ2_compress_5af95_47 : decode cJ2_compress_5af95 47 = .ok (.iinc 5 1, 3) := by decide +kernel
theorem dJ2_compress_5af95_50 : decode cJ2_compress_5af95 50 = .ok (.goto (-40), 3) := by decide +kernel
theorem dJ2_compress_5af95_53 : decode cJ2_compress_5af95 53 = .ok (.iload 4, 2) := by decide +kernel
theorem dJ2_compress_5af95_55 : decode cJ2_compress_5af95 55 = .ok (.ireturn, 1) := by decide +kernel
theorem dJ2_fillNull_b72d1_0 : decode cJ2_fillNull_b72d1 0 = .ok (.aload_n 0, 1) := by decide +kernel
theorem dJ2_fillNull_b72d1_1 : decode cJ2_fillNull_b72d1 1 = .ok (.iload_n 1, 1) := by decide +kernel
theorem dJ2_fillNull_b72d1_2 : decode cJ2_fillNull_b72d1 2 = .ok (.iconst 1, 1) := by decide +kernel
theorem dJ2_fillNull_b72d1_3 : decode cJ2_fillNull_b72d1 3 = .ok (.ishl, 1) := by decide +kernel
theorem dJ2_fillNull_b72d1_4 : decode cJ2_fillNull_b72d1 4 = .ok (.iload_n 2, 1) := by decide +kernel
theorem dJ2_fillNull_b72d1_5 : decode cJ2_fillNull_b72d1 5 = .ok (.iconst 1, 1) := by decide +kernel
theorem dJ2_fillNull_b72d1_6 : decode cJ2_fillNull_b72d1 6 = .ok (.ishl, 1) := by decide +kernel
theorem dJ2_fillNull_b72d1_7 : decode cJ2_fillNull_b72d1 7 = .ok (.iconst 0, 1) := by decide +kernel
theorem dJ2_fillNull_b72d1_8 : decode cJ2_fillNull_b72d1 8 = .ok (.invokestatic 380, 3) := by decide +kernel
theorem dJ2_fillNull_b72d1_11 : decode cJ2_fillNull_b72d1 11 = .ok (.return_, 1) := by decide +kernel
theorem dJ2_putCharSB_b72d1_0 : decode cJ2_putCharSB_b72d1 0 = .ok (.iload_n 1, 1) := by decide +kernel
theorem dJ2_putCharSB_b72d1_1 : decode cJ2_putCharSB_b72d1 1 = .ok (.aload_n 0, 1) := by decide +kernel
theorem dJ2_putCharSB_b72d1_2 : decode cJ2_putCharSB_b72d1 2 = .ok (.invokestatic 67, 3) := by decide +kernel
theorem dJ2_putCharSB_b72d1_5 : decode cJ2_putCharSB_b72d1 5 = .ok (.aload_n 0, 1) := by decide +kernel
theorem dJ2_putCharSB_b72d1_6 : decode cJ2_putCharSB_b72d1 6 = .ok (.iload_n 1, 1) := by decide +kernel
theorem dJ2_putCharSB_b72d1_7 : decode cJ2_putCharSB_b72d1 7 = .ok (.iload_n 2, 1) := by decide +kernel
theorem dJ2_putCharSB_b72d1_8 : decode cJ2_putCharSB_b72d1 8 = .ok (.invokestatic 111, 3) := by decide +kernel
theorem dJ2_putCharSB_b72d1_11 : decode cJ2_putCharSB_b72d1 11 = .ok (.return_, 1) := by decide +kernel
theorem dJ2_getChars_46870_0 : decode cJ2_getChars_46870 0 = .ok (.iload_n 1, 1) := by decide +kernel
theorem dJ2_getChars_46870_1 : decode cJ2_getChars_46870 1 = .ok (.iload_n 2, 1) := by decide +kernel
theorem dJ2_getChars_46870_2 : decode cJ2_getChars_46870 2 = .ok (.aload_n 3, 1) := by decide +kernel
theorem dJ2_getChars_46870_3 : decode cJ2_getChars_46870 3 = .ok (.invokestatic 96, 3) := by decide +kernel
theorem dJ2_getChars_46870_6 : decode cJ2_getChars_46870 6 = .ok (.iload_n 0, 1) := by decide +kernel
theorem dJ2_getChars_46870_7 : decode cJ2_getChars_46870 7 = .ok (.iload_n 2, 1) := by decide +kernel
theorem dJ2_getChars_46870_8 : decode cJ2_getChars_46870 8 = .ok (.aload_n 3, 1) := by decide +kernel
theorem dJ2_getChars_46870_9 : decode cJ2_getChars_46870 9 = .ok (.invokestatic 393, 3) := by decide +kernel
theorem dJ2_getChars_46870_12 : decode cJ2_getChars_46870 12 = .ok (.istore 4, 2) := by decide +kernel
theorem dJ2_getChars_46870_14 : decode cJ2_getChars_46870 14 = .ok (.getstatic 44, 3) := by decide +kernel
theorem dJ2_getChars_46870_17 : decode cJ2_getChars_46870 17 = .ok (.ifCond .ne 17, 3) := by decide +kernel
theorem dJ2_getChars_46870_20 : decode cJ2_getChars_46870 20 = .ok (.iload_n 1, 1) := by decide +kernel
theorem dJ2_getChars_46870_21 : decode cJ2_getChars_46870 21 = .ok (.iload 4, 2) := by decide +kernel
theorem dJ2_getChars_46870_23 : decode cJ2_getChars_46870 23 = .ok (.if_icmp .eq 11, 3) := by decide +kernel
theorem dJ2_getChars_46870_26 : decode cJ2_getChars_46870 26 = .ok (.new 52, 3) := by decide +kernel
theorem dJ2_getChars_46870_29 : decode cJ2_getChars_46870 29 = .ok (.dup, 1) := by decide +kernel
theorem dJ2_getChars_46870_30 : decode cJ2_getChars_46870 30 = .ok (.invokespecial 66, 3) := by decide +kernel
theorem dJ2_getChars_46870_33 : decode cJ2_getChars_46870 33 = .ok (.athrow, 1) := by decide +kernel
theorem dJ2_getChars_46870_34 : decode cJ2_getChars_46870 34 = .ok (.iload 4, 2) := by decide +kernel
theorem dJ2_getChars_46870_36 : decode cJ2_getChars_46870 36 = .ok (.ireturn, 1) := by decide +kernel
theorem dJ2_putCharsAt_cd4e5_0 : decode cJ2_putCharsAt_cd4e5 0 = .ok (.iload_n 1, 1) := by decide +kernel
theorem dJ2_putCharsAt_cd4e5_1 : decode cJ2_putCharsAt_cd4e5 1 = .ok (.iconst 4, 1) := by decide +kernel
theorem dJ2_putCharsAt_cd4e5_2 : decode cJ2_putCharsAt_cd4e5 2 = .ok (.iadd, 1) := by decide +kernel
theorem dJ2_putCharsAt_cd4e5_3 : decode cJ2_putCharsAt_cd4e5 3 = .ok (.istore 6, 2) := by decide +kernel
theorem dJ2_putCharsAt_cd4e5_5 : decode cJ2_putCharsAt_cd4e5 5 = .ok (.iload_n 1, 1) := by decide +kernel
theorem dJ2_putCharsAt_cd4e5_6 : decode cJ2_putCharsAt_cd4e5 6 = .ok (.iload 6, 2) := by decide +kernel
theorem dJ2_putCharsAt_cd4e5_8 : decode cJ2_putCharsAt_cd4e5 8 = .ok (.aload_n 0, 1) := by decide +kernel
theorem dJ2_putCharsAt_cd4e5_9 : decode cJ2_putCharsAt_cd4e5 9 = .ok (.invokestatic 96, 3) := by decide +kernel
theorem dJ2_putCharsAt_cd4e5_12 : decode cJ2_putCharsAt_cd4e5 12 = .ok (.aload_n 0, 1) := by decide +kernel
theorem dJ2_putCharsAt_cd4e5_13 : decode cJ2_putCharsAt_cd4e5 13 = .ok (.iload_n 1, 1) := by decide +kernel
theorem dJ2_putCharsAt_cd4e5_14 : decode cJ2_putCharsAt_cd4e5 14 = .ok (.iinc 1 1, 3) := by decide +kernel
theorem dJ2_putCharsAt_cd4e5_17 : decode cJ2_putCharsAt_cd4e5 17 = .ok (.iload_n 2, 1) := by decide +kernel
theorem dJ2_putCharsAt_cd4e5_18 : decode cJ2_putCharsAt_cd4e5 18 = .ok (.invokestatic 111, 3) := by decide +kernel
theorem dJ2_putCharsAt_cd4e5_21 : decode cJ2_putCharsAt_cd4e5 21 = .ok (.aload_n 0, 1) := by decide +kernel
theorem dJ2_putCharsAt_cd4e5_22 : decode cJ2_putCharsAt_cd4e5 22 = .ok (.iload_n 1, 1) := by decide +kernel
theorem dJ2_putCharsAt_cd4e5_23 : decode cJ2_putCharsAt_cd4e5 23 = .ok (.iinc 1 1, 3) := by decide +kernel
theorem dJ2_putCharsAt_cd4e5_26 : decode cJ2_putCharsAt_cd4e5 26 = .ok (.iload_n 3, 1) := by decide +kernel
theorem dJ2_putCharsAt_cd4e5_27 : decode cJ2_putCharsAt_cd4e5 27 = .ok (.invokestatic 111, 3) := by decide +kernel
theorem dJ2_putCharsAt_cd4e5_30 : decode cJ2_putCharsAt_cd4e5 30 = .ok (.aload_n 0, 1) := by decide +kernel
theorem dJ2_putCharsAt_cd4e5_31 : decode cJ2_putCharsAt_cd4e5 31 = .ok (.iload_n 1, 1) := by decide +kernel
theorem dJ2_putCharsAt_cd4e5_32 : decode cJ2_putCharsAt_cd4e5 32 = .ok (.iinc 1 1, 3) := by decide +kernel
theorem dJ2_putCharsAt_cd4e5_35 : decode cJ2_putCharsAt_cd4e5 35 = .ok (.iload 4, 2) := by decide +kernel
theorem dJ2_putCharsAt_cd4e5_37 : decode cJ2_putCharsAt_cd4e5 37 = .ok (.invokestatic 111, 3) := by decide +kernel
theorem dJ2_putCharsAt_cd4e5_40 : decode cJ2_putCharsAt_cd4e5 40 = .ok (.aload_n 0, 1) := by decide +kernel
theorem dJ2_putCharsAt_cd4e5_41 : decode cJ2_putCharsAt_cd4e5 41 = .ok (.iload_n 1, 1) := by decide +kernel
theorem dJ2_putCharsAt_cd4e5_42 : decode cJ2_putCharsAt_cd4e5 42 = .ok (.iinc 1 1, 3) := by decide +kernel
theorem dJ2_putCharsAt_cd4e5_45 : decode cJ2_putCharsAt_cd4e5 45 = .ok (.iload 5, 2) := by decide +kernel
theorem dJ2_putCharsAt_cd4e5_47 : decode cJ2_putCharsAt_cd4e5 47 = .ok (.invokestatic 111, 3) := by decide +kernel
theorem dJ2_putCharsAt_cd4e5_50 : decode cJ2_putCharsAt_cd4e5 50 = .ok (.getstatic 44, 3) := by decide +kernel
theorem dJ2_putCharsAt_cd4e5_53 : decode cJ2_putCharsAt_cd4e5 53 = .ok (.ifCond .ne 17, 3) := by decide +kernel
theorem dJ2_putCharsAt_cd4e5_56 : decode cJ2_putCharsAt_cd4e5 56 = .ok (.iload_n 1, 1) := by decide +kernel
theorem dJ2_putCharsAt_cd4e5_57 : decode cJ2_putCharsAt_cd4e5 57 = .ok (.iload 6, 2) := by decide +kernel
theorem dJ2_putCharsAt_cd4e5_59 : decode cJ2_putCharsAt_cd4e5 59 = .ok (.if_icmp .eq 11, 3) := by decide +kernel
theorem dJ2_putCharsAt_cd4e5_62 : decode cJ2_putCharsAt_cd4e5 62 = .ok (.new 52, 3) := by decide +kernel
theorem dJ2_putCharsAt_cd4e5_65 : decode cJ2_putCharsAt_cd4e5 65 = .ok (.dup, 1) := by decide +kernel
theorem dJ2_putCharsAt_cd4e5_66 : decode cJ2_putCharsAt_cd4e5 66 = .ok (.invokespecial 66, 3) := by decide +kernel
theorem dJ2_putCharsAt_cd4e5_69 : decode cJ2_putCharsAt_cd4e5 69 = .ok (.athrow, 1) := by decide +kernel
theorem dJ2_putCharsAt_cd4e5_70 : decode cJ2_putCharsAt_cd4e5 70 = .ok (.iload 6, 2) := by decide +kernel
theorem dJ2_putCharsAt_cd4e5_72 : decode cJ2_putCharsAt_cd4e5 72 = .ok (.ireturn, 1) := by decide +kernel
theorem dJ2_inflate_0e8fd_0 : decode cJ2_inflate_0e8fd 0 = .ok (.iload_n 3, 1) := by decide +kernel
theorem dJ2_inflate_0e8fd_1 : decode cJ2_inflate_0e8fd 1 = .ok (.iload 4, 2) := by decide +kernel
theorem dJ2_inflate_0e8fd_3 : decode cJ2_inflate_0e8fd 3 = .ok (.aload_n 2, 1) := by decide +kernel
theorem dJ2_inflate_0e8fd_4 : decode cJ2_inflate_0e8fd 4 = .ok (.invokestatic 173, 3) := by decide +kernel
theorem dJ2_inflate_0e8fd_7 : decode cJ2_inflate_0e8fd 7 = .ok (.iconst 0, 1) := by decide +kernel
theorem dJ2_inflate_0e8fd_8 : decode cJ2_inflate_0e8fd 8 = .ok (.istore 5, 2) := by decide +kernel
theorem dJ2_inflate_0e8fd_10 : decode cJ2_inflate_0e8fd 10 = .ok (.iload 5, 2) := by decide +kernel
theorem dJ2_inflate_0e8fd_12 : decode cJ2_inflate_0e8fd 12 = .ok (.iload 4, 2) := by decide +kernel
theorem dJ2_inflate_0e8fd_14 : decode cJ2_inflate_0e8fd 14 = .ok (.if_icmp .ge 27, 3) := by decide +kernel
theorem dJ2_inflate_0e8fd_17 : decode cJ2_inflate_0e8fd 17 = .ok (.aload_n 2, 1) := by decide +kernel
theorem dJ2_inflate_0e8fd_18 : decode cJ2_inflate_0e8fd 18 = .ok (.iload_n 3, 1) := by decide +kernel
theorem dJ2_inflate_0e8fd_19 : decode cJ2_inflate_0e8fd 19 = .ok (.iinc 3 1, 3) := by decide +kernel
theorem dJ2_inflate_0e8fd_22 : decode cJ2_inflate_0e8fd 22 = .ok (.aload_n 0, 1) := by decide +kernel
theorem dJ2_inflate_0e8fd_23 : decode cJ2_inflate_0e8fd 23 = .ok (.iload_n 1, 1) := by decide +kernel
theorem dJ2_inflate_0e8fd_24 : decode cJ2_inflate_0e8fd 24 = .ok (.iinc 1 1, 3) := by decide +kernel
theorem dJ2_inflate_0e8fd_27 : decode cJ2_inflate_0e8fd 27 = .ok (.baload, 1) := by decide +kernel
theorem dJ2_inflate_0e8fd_28 : decode cJ2_inflate_0e8fd 28 = .ok (.sipush 255, 3) := by decide +kernel
theorem dJ2_inflate_0e8fd_31 : decode cJ2_inflate_0e8fd 31 = .ok (.iand, 1) := by decide +kernel
theorem dJ2_inflate_0e8fd_32 : decode cJ2_inflate_0e8fd 32 = .ok (.invokestatic 111, 3) := by decide +kernel
theorem dJ2_inflate_0e8fd_35 : decode cJ2_inflate_0e8fd 35 = .ok (.iinc 5 1, 3) := by decide +kernel
theorem dJ2_inflate_0e8fd_38 : decode cJ2_inflate_0e8fd 38 = .ok (.goto (-28), 3) := by decide +kernel
theorem dJ2_inflate_0e8fd_41 : decode cJ2_inflate_0e8fd 41 = .ok (.return_, 1) := by decide +kernel
theorem dJ2_getChars_ba4f3_0 : decode cJ2_getChars_ba4f3 0 = .ok (.iload_n 1, 1) := by decide +kernel
theorem dJ2_getChars_ba4f3_1 : decode cJ2_getChars_ba4f3 1 = .ok (.istore 5, 2) := by decide +kernel
theorem dJ2_getChars_ba4f3_3 : decode cJ2_getChars_ba4f3 3 = .ok (.iload_n 0, 1) := by decide +kernel
theorem dJ2_getChars_ba4f3_4 : decode cJ2_getChars_ba4f3 4 = .ok (.ifCond .ge 7, 3) := by decide +kernel
theorem dJ2_getChars_ba4f3_7 : decode cJ2_getChars_ba4f3 7 = .ok (.iconst 1, 1) := by decide +kernel
theorem dJ2_getChars_ba4f3_8 : decode cJ2_getChars_ba4f3 8 = .ok (.goto 4, 3) := by decide +kernel
theorem dJ2_getChars_ba4f3_11 : decode cJ2_getChars_ba4f3 11 = .ok (.iconst 0, 1) := by decide +kernel
theorem dJ2_getChars_ba4f3_12 : decode cJ2_getChars_ba4f3 12 = .ok (.istore 6, 2) := by decide +kernel
theorem dJ2_getChars_ba4f3_14 : decode cJ2_getChars_ba4f3 14 = .ok (.iload 6, 2) := by decide +kernel
theorem dJ2_getChars_ba4f3_16 : decode cJ2_getChars_ba4f3 16 = .ok (.ifCond .ne 6, 3) := by decide +kernel
theorem dJ2_getChars_ba4f3_19 : decode cJ2_getChars_ba4f3 19 = .ok (.iload_n 0, 1) := by decide +kernel
theorem dJ2_getChars_ba4f3_20 : decode cJ2_getChars_ba4f3 20 = .ok (.ineg, 1) := by decide +kernel
theorem dJ2_getChars_ba4f3_21 : decode cJ2_getChars_ba4f3 21 = .ok (.istore_n 0, 1) := by decide +kernel
theorem dJ2_getChars_ba4f3_22 : decode cJ2_getChars_ba4f3 22 = .ok (.iload_n 0, 1) := by decide +kernel
theorem dJ2_getChars_ba4f3_23 : decode cJ2_getChars_ba4f3 23 = .ok (.bipush (-100), 2) := by decide +kernel
theorem dJ2_getChars_ba4f3_25 : decode cJ2_getChars_ba4f3 25 = .ok (.if_icmp .gt 51, 3) := by decide +kernel
theorem dJ2_getChars_ba4f3_28 : decode cJ2_getChars_ba4f3 28 = .ok (.iload_n 0, 1) := by decide +kernel
theorem dJ2_getChars_ba4f3_29 : decode cJ2_getChars_ba4f3 29 = .ok (.bipush 100, 2) := by decide +kernel
theorem dJ2_getChars_ba4f3_31 : decode cJ2_getChars_ba4f3 31 = .ok (.idiv, 1) := by decide +kernel
theorem dJ2_getChars_ba4f3_32 : decode cJ2_getChars_ba4f3 32 = .ok (.istore_n 3, 1) := by decide +kernel
theorem dJ2_getChars_ba4f3_33 : decode cJ2_getChars_ba4f3 33 = .ok (.iload_n 3, 1) := by decide +kernel
theorem dJ2_getChars_ba4f3_34 : decode cJ2_getChars_ba4f3 34 = .ok (.bipush 100, 2) := by decide +kernel
theorem dJ2_getChars_ba4f3_36 : decode cJ2_getChars_ba4f3 36 = .ok (.imul, 1) := by decide +kernel
theorem dJ2_getChars_ba4f3_37 : decode cJ2_getChars_ba4f3 37 = .ok (.iload_n 0, 1) := by decide +kernel
theorem dJ2_getChars_ba4f3_38 : decode cJ2_getChars_ba4f3 38 = .ok (.isub, 1) := by decide +kernel
theorem dJ2_getChars_ba4f3_39 : decode cJ2_getChars_ba4f3 39 = .ok (.istore 4, 2) := by decide +kernel
theorem dJ2_getChars_ba4f3_41 : decode cJ2_getChars_ba4f3 41 = .ok (.iload_n 3, 1) := by decide +kernel
theorem dJ2_getChars_ba4f3_42 : decode cJ2_getChars_ba4f3 42 = .ok (.istore_n 0, 1) := by decide +kernel
theorem dJ2_getChars_ba4f3_43 : decode cJ2_getChars_ba4f3 43 = .ok (.aload_n 2, 1) := by decide +kernel
theorem dJ2_getChars_ba4f3_44 : decode cJ2_getChars_ba4f3 44 = .ok (.iinc 5 (-1), 3) := by decide +kernel
theorem dJ2_getChars_ba4f3_47 : decode cJ2_getChars_ba4f3 47 = .ok (.iload 5, 2) := by decide +kernel
theorem dJ2_getChars_ba4f3_49 : decode cJ2_getChars_ba4f3 49 = .ok (.getstatic 403, 3) := by decide +kernel
theorem dJ2_getChars_ba4f3_52 : decode cJ2_getChars_ba4f3 52 = .ok (.iload 4, 2) := by decide +kernel
theorem dJ2_getChars_ba4f3_54 : decode cJ2_getChars_ba4f3 54 = .ok (.baload, 1) := by decide +kernel
theorem dJ2_getChars_ba4f3_55 : decode cJ2_getChars_ba4f3 55 = .ok (.invokestatic 111, 3) := by decide +kernel
theorem dJ2_getChars_ba4f3_58 : decode cJ2_getChars_ba4f3 58 = .ok (.aload_n 2, 1) := by decide +kernel
theorem dJ2_getChars_ba4f3_59 : decode cJ2_getChars_ba4f3 59 = .ok (.iinc 5 (-1), 3) := by decide +kernel
theorem dJ2_getChars_ba4f3_62 : decode cJ2_getChars_ba4f3 62 = .ok (.iload 5, 2) := by decide +kernel
theorem dJ2_getChars_ba4f3_64 : decode cJ2_getChars_ba4f3 64 = .ok (.getstatic 407, 3) := by decide +kernel
theorem dJ2_getChars_ba4f3_67 : decode cJ2_getChars_ba4f3 67 = .ok (.iload 4, 2) := by decide +kernel
theorem dJ2_getChars_ba4f3_69 : decode cJ2_getChars_ba4f3 69 = .ok (.baload, 1) := by decide +kernel
theorem dJ2_getChars_ba4f3_70 : decode cJ2_getChars_ba4f3 70 = .ok (.invokestatic 111, 3) := by decide +kernel
theorem dJ2_getChars_ba4f3_73 : decode cJ2_getChars_ba4f3 73 = .ok (.goto (-51), 3) := by decide +kernel
theorem dJ2_getChars_ba4f3_76 : decode cJ2_getChars_ba4f3 76 = .ok (.aload_n 2, 1) := by decide +kernel
theorem dJ2_getChars_ba4f3_77 : decode cJ2_getChars_ba4f3 77 = .ok (.iinc 5 (-1), 3) := by decide +kernel
theorem dJ2_getChars_ba4f3_80 : decode cJ2_getChars_ba4f3 80 = .ok (.iload 5, 2) := by decide +kernel
theorem dJ2_getChars_ba4f3_82 : decode cJ2_getChars_ba4f3 82 = .ok (.getstatic 403, 3) := by decide +kernel
theorem dJ2_getChars_ba4f3_85 : decode cJ2_getChars_ba4f3 85 = .ok (.iload_n 0, 1) := by decide +kernel
theorem dJ2_getChars_ba4f3_86 : decode cJ2_getChars_ba4f3 86 = .ok (.ineg, 1) := by decide +kernel
theorem dJ2_getChars_ba4f3_87 : decode cJ2_getChars_ba4f3 87 = .ok (.baload, 1) := by decide +kernel
theorem dJ2_getChars_ba4f3_88 : decode cJ2_getChars_ba4f3 88 = .ok (.invokestatic 111, 3) := by decide +kernel
theorem dJ2_getChars_ba4f3_91 : decode cJ2_getChars_ba4f3 91 = .ok (.iload_n 0, 1) := by decide +kernel
theorem dJ2_getChars_ba4f3_92 : decode cJ2_getChars_ba4f3 92 = .ok (.bipush (-9), 2) := by decide +kernel
theorem dJ2_getChars_ba4f3_94 : decode cJ2_getChars_ba4f3 94 = .ok (.if_icmp .ge 18, 3) := by decide +kernel
theorem dJ2_getChars_ba4f3_97 : decode cJ2_getChars_ba4f3 97 = .ok (.aload_n 2, 1) := by decide +kernel
theorem dJ2_getChars_ba4f3_98 : decode cJ2_getChars_ba4f3 98 = .ok (.iinc 5 (-1), 3) := by decide +kernel
theorem dJ2_getChars_ba4f3_101 : decode cJ2_getChars_ba4f3 101 = .ok (.iload 5, 2) := by decide +kernel
theorem dJ2_getChars_ba4f3_103 : decode cJ2_getChars_ba4f3 103 = .ok (.getstatic 407, 3) := by decide +kernel
theorem dJ2_getChars_ba4f3_106 : decode cJ2_getChars_ba4f3 106 = .ok (.iload_n 0, 1) := by decide +kernel
theorem dJ2_getChars_ba4f3_107 : decode cJ2_getChars_ba4f3 107 = .ok (.ineg, 1) := by decide +kernel
theorem dJ2_getChars_ba4f3_108 : decode cJ2_getChars_ba4f3 108 = .ok (.baload, 1) := by decide +kernel
theorem dJ2_getChars_ba4f3_109 : decode cJ2_getChars_ba4f3 109 = .ok (.invokestatic 111, 3) := by decide +kernel
theorem dJ2_getChars_ba4f3_112 : decode cJ2_getChars_ba4f3 112 = .ok (.iload 6, 2) := by decide +kernel
theorem dJ2_getChars_ba4f3_114 : decode cJ2_getChars_ba4f3 114 = .ok (.ifCond .eq 14, 3) := by decide +kernel
theorem dJ2_getChars_ba4f3_117 : decode cJ2_getChars_ba4f3 117 = .ok (.aload_n 2, 1) := by decide +kernel
theorem dJ2_getChars_ba4f3_118 : decode cJ2_getChars_ba4f3 118 = .ok (.iinc 5 (-1), 3) := by decide +kernel
theorem dJ2_getChars_ba4f3_121 : decode cJ2_getChars_ba4f3 121 = .ok (.iload 5, 2) := by decide +kernel
theorem dJ2_getChars_ba4f3_123 : decode cJ2_getChars_ba4f3 123 = .ok (.bipush 45, 2) := by decide +kernel
theorem dJ2_getChars_ba4f3_125 : decode cJ2_getChars_ba4f3 125 = .ok (.invokestatic 111, 3) := by decide +kernel
theorem dJ2_getChars_ba4f3_128 : decode cJ2_getChars_ba4f3 128 = .ok (.iload 5, 2) := by decide +kernel
theorem dJ2_getChars_ba4f3_130 : decode cJ2_getChars_ba4f3 130 = .ok (.ireturn, 1) := by decide +kernel
theorem dJ2_checkIndex_2214a_0 : decode cJ2_checkIndex_2214a 0 = .ok (.iload_n 0, 1) := by decide +kernel
theorem dJ2_checkIndex_2214a_1 : decode cJ2_checkIndex_2214a 1 = .ok (.aload_n 1, 1) := by decide +kernel
theorem dJ2_checkIndex_2214a_2 : decode cJ2_checkIndex_2214a 2 = .ok (.invokestatic 48, 3) := by decide +kernel
theorem dJ2_checkIndex_2214a_5 : decode cJ2_checkIndex_2214a 5 = .ok (.invokestatic 414, 3) := by decide +kernel
theorem dJ2_checkIndex_2214a_8 : decode cJ2_checkIndex_2214a 8 = .ok (.return_, 1) := by decide +kernel
theorem dJ2_checkBoundsBeginEnd_d044e_0 : decode cJ2_checkBoundsBeginEnd_d044e 0 = .ok (.iload_n 0, 1) := by decide +kernel
theorem dJ2_checkBoundsBeginEnd_d044e_1 : decode cJ2_checkBoundsBeginEnd_d044e 1 = .ok (.iload_n 1, 1) := by decide +kernel
theorem dJ2_checkBoundsBeginEnd_d044e_2 : decode cJ2_checkBoundsBeginEnd_d044e 2 = .ok (.aload_n 2, 1) := by decide +kernel
theorem dJ2_checkBoundsBeginEnd_d044e_3 : decode cJ2_checkBoundsBeginEnd_d044e 3 = .ok (.invokestatic 48, 3) := by decide +kernel
theorem dJ2_checkBoundsBeginEnd_d044e_6 : decode cJ2_checkBoundsBeginEnd_d044e 6 = .ok (.invokestatic 241, 3) := by decide +kernel
theorem dJ2_checkBoundsBeginEnd_d044e_9 : decode cJ2_checkBoundsBeginEnd_d044e 9 = .ok (.return_, 1) := by decide +kernel
theorem dJ2_checkBoundsOffCount_d044e_0 : decode cJ2_checkBoundsOffCount_d044e 0 = .ok (.iload_n 0, 1) := by decide +kernel
theorem dJ2_checkBoundsOffCount_d044e_1 : decode cJ2_checkBoundsOffCount_d044e 1 = .ok (.iload_n 1, 1) := by decide +kernel
theorem dJ2_checkBoundsOffCount_d044e_2 : decode cJ2_checkBoundsOffCount_d044e 2 = .ok (.aload_n 2, 1) := by decide +kernel
theorem dJ2_checkBoundsOffCount_d044e_3 : decode cJ2_checkBoundsOffCount_d044e 3 = .ok (.invokestatic 48, 3) := by decide +kernel
theorem dJ2_checkBoundsOffCount_d044e_6 : decode cJ2_checkBoundsOffCount_d044e 6 = .ok (.invokestatic 419, 3) := by decide +kernel
theorem dJ2_checkBoundsOffCount_d044e_9 : decode cJ2_checkBoundsOffCount_d044e 9 = .ok (.pop, 1) := by decide +kernel
theorem dJ2_checkBoundsOffCount_d044e_10 : decode cJ2_checkBoundsOffCount_d044e 10 = .ok (.return_, 1) := by decide +kernel
theorem dJxa1e45_init_da8c8_0 : decode cJxa1e45_init_da8c8 0 = .ok (.aload_n 0, 1) := by decide +kernel
theorem dJxa1e45_init_da8c8_1 : decode cJxa1e45_init_da8c8 1 = .ok (.invokespecial 1, 3) := by decide +kernel
theorem dJxa1e45_init_da8c8_4 : decode cJxa1e45_init_da8c8 4 = .ok (.return_, 1) := by decide +kernel
theorem dJxc12de_init_da8c8_0 : decode cJxc12de_init_da8c8 0 = .ok (.aload_n 0, 1) := by decide +kernel
theorem dJxc12de_init_da8c8_1 : decode cJxc12de_init_da8c8 1 = .ok (.invokespecial 1, 3) := by decide +kernel
theorem dJxc12de_init_da8c8_4 : decode cJxc12de_init_da8c8 4 = .ok (.aload_n 0, 1) := by decide +kernel
theorem dJxc12de_init_da8c8_5 : decode cJxc12de_init_da8c8 5 = .ok (.iconst 0, 1) := by decide +kernel
theorem dJxc12de_init_da8c8_6 : decode cJxc12de_init_da8c8 6 = .ok (.putfield 7, 3) := by decide +kernel
theorem dJxc12de_init_da8c8_9 : decode cJxc12de_init_da8c8 9 = .ok (.return_, 1) := by decide +kernel
theorem dJx4a65c_init_da8c8_0 : decode cJx4a65c_init_da8c8 0 = .ok (.aload_n 0, 1) := by decide +kernel
theorem dJx4a65c_init_da8c8_1 : decode cJx4a65c_init_da8c8 1 = .ok (.invokespecial 1, 3) := by decide +kernel
theorem dJx4a65c_init_da8c8_4 : decode cJx4a65c_init_da8c8 4 = .ok (.aload_n 0, 1) := by decide +kernel
theorem dJx4a65c_init_da8c8_5 : decode cJx4a65c_init_da8c8 5 = .ok (.getstatic 39, 3) := by decide +kernel
theorem dJx4a65c_init_da8c8_8 : decode cJx4a65c_init_da8c8 8 = .ok (.putfield 9, 3) := by decide +kernel
theorem dJx4a65c_init_da8c8_11 : decode cJx4a65c_init_da8c8 11 = .ok (.return_, 1) := by decide +kernel
theorem dJx4a65c_grow_92f84_0 : decode cJx4a65c_grow_92f84 0 = .ok (.aload_n 0, 1) := by decide +kernel
theorem dJx4a65c_grow_92f84_1 : decode cJx4a65c_grow_92f84 1 = .ok (.getfield 9, 3) := by decide +kernel
theorem dJx4a65c_grow_92f84_4 : decode cJx4a65c_grow_92f84 4 = .ok (.arraylength, 1) := by decide +kernel
theorem dJx4a65c_grow_92f84_5 : decode cJx4a65c_grow_92f84 5 = .ok (.istore_n 2, 1) := by decide +kernel
theorem dJx4a65c_grow_92f84_6 : decode cJx4a65c_grow_92f84 6 = .ok (.iload_n 2, 1) := by decide +kernel
theorem dJx4a65c_grow_92f84_7 : decode cJx4a65c_grow_92f84 7 = .ok (.ifCond .gt 13, 3) := by decide +kernel
theorem dJx4a65c_grow_92f84_10 : decode cJx4a65c_grow_92f84 10 = .ok (.aload_n 0, 1) := by decide +kernel
theorem dJx4a65c_grow_92f84_11 : decode cJx4a65c_grow_92f84 11 = .ok (.getfield 9, 3) := by decide +kernel
theorem dJx4a65c_grow_92f84_14 : decode cJx4a65c_grow_92f84 14 = .ok (.getstatic 39, 3) := by decide +kernel
theorem dJx4a65c_grow_92f84_17 : decode cJx4a65c_grow_92f84 17 = .ok (.if_acmp .eq 28, 3) := by decide +kernel
theorem dJx4a65c_grow_92f84_20 : decode cJx4a65c_grow_92f84 20 = .ok (.iload_n 2, 1) := by decide +kernel
theorem dJx4a65c_grow_92f84_21 : decode cJx4a65c_grow_92f84 21 = .ok (.iload_n 1, 1) := by decide +kernel
theorem dJx4a65c_grow_92f84_22 : decode cJx4a65c_grow_92f84 22 = .ok (.iload_n 2, 1) := by decide +kernel
theorem dJx4a65c_grow_92f84_23 : decode cJx4a65c_grow_92f84 23 = .ok (.isub, 1) := by decide +kernel
theorem dJx4a65c_grow_92f84_24 : decode cJx4a65c_grow_92f84 24 = .ok (.iload_n 2, 1) := by decide +kernel
theorem dJx4a65c_grow_92f84_25 : decode cJx4a65c_grow_92f84 25 = .ok (.iconst 1, 1) := by decide +kernel
theorem dJx4a65c_grow_92f84_26 : decode cJx4a65c_grow_92f84 26 = .ok (.ishr, 1) := by decide +kernel
theorem dJx4a65c_grow_92f84_27 : decode cJx4a65c_grow_92f84 27 = .ok (.invokestatic 73, 3) := by decide +kernel
theorem dJx4a65c_grow_92f84_30 : decode cJx4a65c_grow_92f84 30 = .ok (.istore_n 3, 1) := by decide +kernel
theorem dJx4a65c_grow_92f84_31 : decode cJx4a65c_grow_92f84 31 = .ok (.aload_n 0, 1) := by decide +kernel
theorem dJx4a65c_grow_92f84_32 : decode cJx4a65c_grow_92f84 32 = .ok (.aload_n 0, 1) := by decide +kernel
theorem dJx4a65c_grow_92f84_33 : decode cJx4a65c_grow_92f84 33 = .ok (.getfield 9, 3) := by decide +kernel
theorem dJx4a65c_grow_92f84_36 : decode cJx4a65c_grow_92f84 36 = .ok (.iload_n 3, 1) := by decide +kernel
theorem dJx4a65c_grow_92f84_37 : decode cJx4a65c_grow_92f84 37 = .ok (.invokestatic 66, 3) := by decide +kernel
theorem dJx4a65c_grow_92f84_40 : decode cJx4a65c_grow_92f84 40 = .ok (.dup_x1, 1) := by decide +kernel
theorem dJx4a65c_grow_92f84_41 : decode cJx4a65c_grow_92f84 41 = .ok (.putfield 9, 3) := by decide +kernel
theorem dJx4a65c_grow_92f84_44 : decode cJx4a65c_grow_92f84 44 = .ok (.areturn, 1) := by decide +kernel
theorem dJx4a65c_grow_92f84_45 : decode cJx4a65c_grow_92f84 45 = .ok (.aload_n 0, 1) := by decide +kernel
theorem dJx4a65c_grow_92f84_46 : decode cJx4a65c_grow_92f84 46 = .ok (.bipush 10, 2) := by decide +kernel
theorem dJx4a65c_grow_92f84_48 : decode cJx4a65c_grow_92f84 48 = .ok (.iload_n 1, 1) := by decide +kernel
theorem dJx4a65c_grow_92f84_49 : decode cJx4a65c_grow_92f84 49 = .ok (.invokestatic 79, 3) := by decide +kernel
theorem dJx4a65c_grow_92f84_52 : decode cJx4a65c_grow_92f84 52 = .ok (.anewarray 7, 3) := by decide +kernel
theorem dJx4a65c_grow_92f84_55 : decode cJx4a65c_grow_92f84 55 = .ok (.dup_x1, 1) := by decide +kernel
theorem dJx4a65c_grow_92f84_56 : decode cJx4a65c_grow_92f84 56 = .ok (.putfield 9, 3) := by decide +kernel
theorem dJx4a65c_grow_92f84_59 : decode cJx4a65c_grow_92f84 59 = .ok (.areturn, 1) := by decide +kernel
theorem dJx4a65c_grow_d5877_0 : decode cJx4a65c_grow_d5877 0 = .ok (.aload_n 0, 1) := by decide +kernel
theorem dJx4a65c_grow_d5877_1 : decode cJx4a65c_grow_d5877 1 = .ok (.aload_n 0, 1) := by decide +kernel
theorem dJx4a65c_grow_d5877_2 : decode cJx4a65c_grow_d5877 2 = .ok (.getfield 48, 3) := by decide +kernel
theorem dJx4a65c_grow_d5877_5 : decode cJx4a65c_grow_d5877 5 = .ok (.iconst 1, 1) := by decide +kernel
theorem dJx4a65c_grow_d5877_6 : decode cJx4a65c_grow_d5877 6 = .ok (.iadd, 1) := by decide +kernel
theorem dJx4a65c_grow_d5877_7 : decode cJx4a65c_grow_d5877 7 = .ok (.invokevirtual 69, 3) := by decide +kernel
theorem dJx4a65c_grow_d5877_10 : decode cJx4a65c_grow_d5877 10 = .ok (.areturn, 1) := by decide +kernel
theorem dJx4a65c_size_8abf5_0 : decode cJx4a65c_size_8abf5 0 = .ok (.aload_n 0, 1) := by decide +kernel
theorem dJx4a65c_size_8abf5_1 : decode cJx4a65c_size_8abf5 1 = .ok (.getfield 48, 3) := by decide +kernel
theorem dJx4a65c_size_8abf5_4 : decode cJx4a65c_size_8abf5 4 = .ok (.ireturn, 1) := by decide +kernel
theorem dJx4a65c_elementData_915e3_0 : decode cJx4a65c_elementData_915e3 0 = .ok (.aload_n 0, 1) := by decide +kernel
theorem dJx4a65c_elementData_915e3_1 : decode cJx4a65c_elementData_915e3 1 = .ok (.getfield 9, 3) := by decide +kernel
theorem dJx4a65c_elementData_915e3_4 : decode cJx4a65c_elementData_915e3 4 = .ok (.iload_n 1, 1) := by decide +kernel
theorem dJx4a65c_elementData_915e3_5 : decode cJx4a65c_elementData_915e3 5 = .ok (.aaload, 1) := by decide +kernel
theorem dJx4a65c_elementData_915e3_6 : decode cJx4a65c_elementData_915e3 6 = .ok (.areturn, 1) := by decide +kernel
theorem dJx4a65c_get_915e3_0 : decode cJx4a65c_get_915e3 0 = .ok (.iload_n 1, 1) := by decide +kernel
theorem dJx4a65c_get_915e3_1 : decode cJx4a65c_get_915e3 1 = .ok (.aload_n 0, 1) := by decide +kernel
theorem dJx4a65c_get_915e3_2 : decode cJx4a65c_get_915e3 2 = .ok (.getfield 48, 3) := by decide +kernel
theorem dJx4a65c_get_915e3_5 : decode cJx4a65c_get_915e3 5 = .ok (.invokestatic 118, 3) := by decide +kernel
theorem dJx4a65c_get_915e3_8 : decode cJx4a65c_get_915e3 8 = .ok (.pop, 1) := by decide +kernel
theorem dJx4a65c_get_915e3_9 : decode cJx4a65c_get_915e3 9 = .ok (.aload_n 0, 1) := by decide +kernel
theorem dJx4a65c_get_915e3_10 : decode cJx4a65c_get_915e3 10 = .ok (.iload_n 1, 1) := by decide +kernel
theorem dJx4a65c_get_915e3_11 : decode cJx4a65c_get_915e3 11 = .ok (.invokevirtual 123, 3) := by decide +kernel
theorem dJx4a65c_get_915e3_14 : decode cJx4a65c_get_915e3 14 = .ok (.areturn, 1) := by decide +kernel
theorem dJx4a65c_add_72be8_0 : decode cJx4a65c_add_72be8 0 = .ok (.iload_n 3, 1) := by decide +kernel
theorem dJx4a65c_add_72be8_1 : decode cJx4a65c_add_72be8 1 = .ok (.aload_n 2, 1) := by decide +kernel
theorem dJx4a65c_add_72be8_2 : decode cJx4a65c_add_72be8 2 = .ok (.arraylength, 1) := by decide +kernel
theorem dJx4a65c_add_72be8_3 : decode cJx4a65c_add_72be8 3 = .ok (.if_icmp .ne 8, 3) := by decide +kernel
theorem dJx4a65c_add_72be8_6 : decode cJx4a65c_add_72be8 6 = .ok (.aload_n 0, 1) := by decide +kernel
theorem dJx4a65c_add_72be8_7 : decode cJx4a65c_add_72be8 7 = .ok (.invokevirtual 129, 3) := by decide +kernel
theorem dJx4a65c_add_72be8_10 : decode cJx4a65c_add_72be8 10 = .ok (.astore_n 2, 1) := by decide +kernel
theorem dJx4a65c_add_72be8_11 : decode cJx4a65c_add_72be8 11 = .ok (.aload_n 2, 1) := by decide +kernel
theorem dJx4a65c_add_72be8_12 : decode cJx4a65c_add_72be8 12 = .ok (.iload_n 3, 1) := by decide +kernel
theorem dJx4a65c_add_72be8_13 : decode cJx4a65c_add_72be8 13 = .ok (.aload_n 1, 1) := by decide +kernel
theorem dJx4a65c_add_72be8_14 : decode cJx4a65c_add_72be8 14 = .ok (.aastore, 1) := by decide +kernel
theorem dJx4a65c_add_72be8_15 : decode cJx4a65c_add_72be8 15 = .ok (.aload_n 0, 1) := by decide +kernel
theorem dJx4a65c_add_72be8_16 : decode cJx4a65c_add_72be8 16 = .ok (.iload_n 3, 1) := by decide +kernel
theorem dJx4a65c_add_72be8_17 : decode cJx4a65c_add_72be8 17 = .ok (.iconst 1, 1) := by decide +kernel
theorem dJx4a65c_add_72be8_18 : decode cJx4a65c_add_72be8 18 = .ok (.iadd, 1) := by decide +kernel
theorem dJx4a65c_add_72be8_19 : decode cJx4a65c_add_72be8 19 = .ok (.putfield 48, 3) := by decide +kernel
theorem dJx4a65c_add_72be8_22 : decode cJx4a65c_add_72be8 22 = .ok (.return_, 1) := by decide +kernel
theorem dJx4a65c_add_9ea2d_0 : decode cJx4a65c_add_9ea2d 0 = .ok (.aload_n 0, 1) := by decide +kernel
theorem dJx4a65c_add_9ea2d_1 : decode cJx4a65c_add_9ea2d 1 = .ok (.dup, 1) := by decide +kernel
theorem dJx4a65c_add_9ea2d_2 : decode cJx4a65c_add_9ea2d 2 = .ok (.getfield 63, 3) := by decide +kernel
theorem dJx4a65c_add_9ea2d_5 : decode cJx4a65c_add_9ea2d 5 = .ok (.iconst 1, 1) := by decide +kernel
theorem dJx4a65c_add_9ea2d_6 : decode cJx4a65c_add_9ea2d 6 = .ok (.iadd, 1) := by decide +kernel
theorem dJx4a65c_add_9ea2d_7 : decode cJx4a65c_add_9ea2d 7 = .ok (.putfield 63, 3) := by decide +kernel
theorem dJx4a65c_add_9ea2d_10 : decode cJx4a65c_add_9ea2d 10 = .ok (.aload_n 0, 1) := by decide +kernel
theorem dJx4a65c_add_9ea2d_11 : decode cJx4a65c_add_9ea2d 11 = .ok (.aload_n 1, 1) := by decide +kernel
theorem dJx4a65c_add_9ea2d_12 : decode cJx4a65c_add_9ea2d 12 = .ok (.aload_n 0, 1) := by decide +kernel
theorem dJx4a65c_add_9ea2d_13 : decode cJx4a65c_add_9ea2d 13 = .ok (.getfield 9, 3) := by decide +kernel
theorem dJx4a65c_add_9ea2d_16 : decode cJx4a65c_add_9ea2d 16 = .ok (.aload_n 0, 1) := by decide +kernel
theorem dJx4a65c_add_9ea2d_17 : decode cJx4a65c_add_9ea2d 17 = .ok (.getfield 48, 3) := by decide +kernel
theorem dJx4a65c_add_9ea2d_20 : decode cJx4a65c_add_9ea2d 20 = .ok (.invokevirtual 131, 3) := by decide +kernel
theorem dJx4a65c_add_9ea2d_23 : decode cJx4a65c_add_9ea2d 23 = .ok (.iconst 1, 1) := by decide +kernel
theorem dJx4a65c_add_9ea2d_24 : decode cJx4a65c_add_9ea2d 24 = .ok (.ireturn, 1) := by decide +kernel
theorem dJ7_rangeCheck_23922_0 : decode cJ7_rangeCheck_23922 0 = .ok (.iload_n 1, 1) := by decide +kernel
theorem dJ7_rangeCheck_23922_1 : decode cJ7_rangeCheck_23922 1 = .ok (.iload_n 2, 1) := by decide +kernel
theorem dJ7_rangeCheck_23922_2 : decode cJ7_rangeCheck_23922 2 = .ok (.if_icmp .le 44, 3) := by decide +kernel
theorem dJ7_rangeCheck_23922_5 : decode cJ7_rangeCheck_23922 5 = .ok (.new 43, 3) := by decide +kernel
theorem dJ7_rangeCheck_23922_8 : decode cJ7_rangeCheck_23922 8 = .ok (.dup, 1) := by decide +kernel
theorem dJ7_rangeCheck_23922_9 : decode cJ7_rangeCheck_23922 9 = .ok (.new 45, 3) := by decide +kernel
theorem dJ7_rangeCheck_23922_12 : decode cJ7_rangeCheck_23922 12 = .ok (.dup, 1) := by decide +kernel
theorem dJ7_rangeCheck_23922_13 : decode cJ7_rangeCheck_23922 13 = .ok (.invokespecial 47, 3) := by decide +kernel
theorem dJ7_rangeCheck_23922_16 : decode cJ7_rangeCheck_23922 16 = .ok (.ldc 48, 2) := by decide +kernel
theorem dJ7_rangeCheck_23922_18 : decode cJ7_rangeCheck_23922 18 = .ok (.invokevirtual 50, 3) := by decide +kernel
theorem dJ7_rangeCheck_23922_21 : decode cJ7_rangeCheck_23922 21 = .ok (.iload_n 1, 1) := by decide +kernel
theorem dJ7_rangeCheck_23922_22 : decode cJ7_rangeCheck_23922 22 = .ok (.invokevirtual 54, 3) := by decide +kernel
theorem dJ7_rangeCheck_23922_25 : decode cJ7_rangeCheck_23922 25 = .ok (.ldc 57, 2) := by decide +kernel
theorem dJ7_rangeCheck_23922_27 : decode cJ7_rangeCheck_23922 27 = .ok (.invokevirtual 50, 3) := by decide +kernel
theorem dJ7_rangeCheck_23922_30 : decode cJ7_rangeCheck_23922 30 = .ok (.iload_n 2, 1) := by decide +kernel
theorem dJ7_rangeCheck_23922_31 : decode cJ7_rangeCheck_23922 31 = .ok (.invokevirtual 54, 3) := by decide +kernel
theorem dJ7_rangeCheck_23922_34 : decode cJ7_rangeCheck_23922 34 = .ok (.ldc 59, 2) := by decide +kernel
theorem dJ7_rangeCheck_23922_36 : decode cJ7_rangeCheck_23922 36 = .ok (.invokevirtual 50, 3) := by decide +kernel
theorem dJ7_rangeCheck_23922_39 : decode cJ7_rangeCheck_23922 39 = .ok (.invokevirtual 61, 3) := by decide +kernel
theorem dJ7_rangeCheck_23922_42 : decode cJ7_rangeCheck_23922 42 = .ok (.invokespecial 65, 3) := by decide +kernel
theorem dJ7_rangeCheck_23922_45 : decode cJ7_rangeCheck_23922 45 = .ok (.athrow, 1) := by decide +kernel
theorem dJ7_rangeCheck_23922_46 : decode cJ7_rangeCheck_23922 46 = .ok (.iload_n 1, 1) := by decide +kernel
theorem dJ7_rangeCheck_23922_47 : decode cJ7_rangeCheck_23922 47 = .ok (.ifCond .ge 12, 3) := by decide +kernel
theorem dJ7_rangeCheck_23922_50 : decode cJ7_rangeCheck_23922 50 = .ok (.new 68, 3) := by decide +kernel
theorem dJ7_rangeCheck_23922_53 : decode cJ7_rangeCheck_23922 53 = .ok (.dup, 1) := by decide +kernel
theorem dJ7_rangeCheck_23922_54 : decode cJ7_rangeCheck_23922 54 = .ok (.iload_n 1, 1) := by decide +kernel
theorem dJ7_rangeCheck_23922_55 : decode cJ7_rangeCheck_23922 55 = .ok (.invokespecial 70, 3) := by decide +kernel
theorem dJ7_rangeCheck_23922_58 : decode cJ7_rangeCheck_23922 58 = .ok (.athrow, 1) := by decide +kernel
theorem dJ7_rangeCheck_23922_59 : decode cJ7_rangeCheck_23922 59 = .ok (.iload_n 2, 1) := by decide +kernel
theorem dJ7_rangeCheck_23922_60 : decode cJ7_rangeCheck_23922 60 = .ok (.iload_n 0, 1) := by decide +kernel
theorem dJ7_rangeCheck_23922_61 : decode cJ7_rangeCheck_23922 61 = .ok (.if_icmp .le 12, 3) := by decide +kernel
theorem dJ7_rangeCheck_23922_64 : decode cJ7_rangeCheck_23922 64 = .ok (.new 68, 3) := by decide +kernel
theorem dJ7_rangeCheck_23922_67 : decode cJ7_rangeCheck_23922 67 = .ok (.dup, 1) := by decide +kernel
theorem dJ7_rangeCheck_23922_68 : decode cJ7_rangeCheck_23922 68 = .ok (.iload_n 2, 1) := by decide +kernel
theorem dJ7_rangeCheck_23922_69 : decode cJ7_rangeCheck_23922 69 = .ok (.invokespecial 70, 3) := by decide +kernel
theorem dJ7_rangeCheck_23922_72 : decode cJ7_rangeCheck_23922 72 = .ok (.athrow, 1) := by decide +kernel
theorem dJ7_rangeCheck_23922_73 : decode cJ7_rangeCheck_23922 73 = .ok (.return_, 1) := by decide +kernel
theorem dJ7_fill_eb02e_0 : decode cJ7_fill_eb02e 0 = .ok (.aload_n 0, 1) := by decide +kernel
theorem dJ7_fill_eb02e_1 : decode cJ7_fill_eb02e 1 = .ok (.arraylength, 1) := by decide +kernel
theorem dJ7_fill_eb02e_2 : decode cJ7_fill_eb02e 2 = .ok (.iload_n 1, 1) := by decide +kernel
theorem dJ7_fill_eb02e_3 : decode cJ7_fill_eb02e 3 = .ok (.iload_n 2, 1) := by decide +kernel
theorem dJ7_fill_eb02e_4 : decode cJ7_fill_eb02e 4 = .ok (.invokestatic 13, 3) := by decide +kernel
theorem dJ7_fill_eb02e_7 : decode cJ7_fill_eb02e 7 = .ok (.iload_n 1, 1) := by decide +kernel
theorem dJ7_fill_eb02e_8 : decode cJ7_fill_eb02e 8 = .ok (.istore 4, 2) := by decide +kernel
theorem dJ7_fill_eb02e_10 : decode cJ7_fill_eb02e 10 = .ok (.iload 4, 2) := by decide +kernel
theorem dJ7_fill_eb02e_12 : decode cJ7_fill_eb02e 12 = .ok (.iload_n 2, 1) := by decide +kernel
theorem dJ7_fill_eb02e_13 : decode cJ7_fill_eb02e 13 = .ok (.if_icmp .ge 14, 3) := by decide +kernel
theorem dJ7_fill_eb02e_16 : decode cJ7_fill_eb02e 16 = .ok (.aload_n 0, 1) := by decide +kernel
theorem dJ7_fill_eb02e_17 : decode cJ7_fill_eb02e 17 = .ok (.iload 4, 2) := by decide +kernel
theorem dJ7_fill_eb02e_19 : decode cJ7_fill_eb02e 19 = .ok (.iload_n 3, 1) := by decide +kernel
theorem dJ7_fill_eb02e_20 : decode cJ7_fill_eb02e 20 = .ok (.bastore, 1) := by decide +kernel
theorem dJ7_fill_eb02e_21 : decode cJ7_fill_eb02e 21 = .ok (.iinc 4 1, 3) := by decide +kernel
theorem dJ7_fill_eb02e_24 : decode cJ7_fill_eb02e 24 = .ok (.goto (-14), 3) := by decide +kernel
theorem dJ7_fill_eb02e_27 : decode cJ7_fill_eb02e 27 = .ok (.return_, 1) := by decide +kernel
theorem dJ7_copyOf_1904c_0 : decode cJ7_copyOf_1904c 0 = .ok (.aload_n 0, 1) := by decide +kernel
theorem dJ7_copyOf_1904c_1 : decode cJ7_copyOf_1904c 1 = .ok (.iload_n 1, 1) := by decide +kernel
theorem dJ7_copyOf_1904c_2 : decode cJ7_copyOf_1904c 2 = .ok (.aload_n 0, 1) := by decide +kernel
theorem dJ7_copyOf_1904c_3 : decode cJ7_copyOf_1904c 3 = .ok (.invokevirtual 86, 3) := by decide +kernel
theorem dJ7_copyOf_1904c_6 : decode cJ7_copyOf_1904c 6 = .ok (.invokestatic 300, 3) := by decide +kernel
theorem dJ7_copyOf_1904c_9 : decode cJ7_copyOf_1904c 9 = .ok (.areturn, 1) := by decide +kernel
theorem dJ7_copyOf_6403c_0 : decode cJ7_copyOf_6403c 0 = .ok (.aload_n 2, 1) := by decide +kernel
theorem dJ7_copyOf_6403c_1 : decode cJ7_copyOf_6403c 1 = .ok (.ldc 110, 2) := by decide +kernel
theorem dJ7_copyOf_6403c_3 : decode cJ7_copyOf_6403c 3 = .ok (.if_acmp .ne 10, 3) := by decide +kernel
theorem dJ7_copyOf_6403c_6 : decode cJ7_copyOf_6403c 6 = .ok (.iload_n 1, 1) := by decide +kernel
theorem dJ7_copyOf_6403c_7 : decode cJ7_copyOf_6403c 7 = .ok (.anewarray 2, 3) := by decide +kernel
theorem dJ7_copyOf_6403c_10 : decode cJ7_copyOf_6403c 10 = .ok (.goto 14, 3) := by decide +kernel
theorem dJ7_copyOf_6403c_13 : decode cJ7_copyOf_6403c 13 = .ok (.aload_n 2, 1) := by decide +kernel
theorem dJ7_copyOf_6403c_14 : decode cJ7_copyOf_6403c 14 = .ok (.invokevirtual 90, 3) := by decide +kernel
theorem dJ7_copyOf_6403c_17 : decode cJ7_copyOf_6403c 17 = .ok (.iload_n 1, 1) := by decide +kernel
theorem dJ7_copyOf_6403c_18 : decode cJ7_copyOf_6403c 18 = .ok (.invokestatic 95, 3) := by decide +kernel
theorem dJ7_copyOf_6403c_21 : decode cJ7_copyOf_6403c 21 = .ok (.checkcast 110, 3) := by decide +kernel
theorem dJ7_copyOf_6403c_24 : decode cJ7_copyOf_6403c 24 = .ok (.astore_n 3, 1) := by decide +kernel
theorem dJ7_copyOf_6403c_25 : decode cJ7_copyOf_6403c 25 = .ok (.aload_n 0, 1) := by decide +kernel
theorem dJ7_copyOf_6403c_26 : decode cJ7_copyOf_6403c 26 = .ok (.iconst 0, 1) := by decide +kernel
theorem dJ7_copyOf_6403c_27 : decode cJ7_copyOf_6403c 27 = .ok (.aload_n 3, 1) := by decide +kernel
theorem dJ7_copyOf_6403c_28 : decode cJ7_copyOf_6403c 28 = .ok (.iconst 0, 1) := by decide +kernel
theorem dJ7_copyOf_6403c_29 : decode cJ7_copyOf_6403c 29 = .ok (.aload_n 0, 1) := by decide +kernel
theorem dJ7_copyOf_6403c_30 : decode cJ7_copyOf_6403c 30 = .ok (.arraylength, 1) := by decide +kernel
theorem dJ7_copyOf_6403c_31 : decode cJ7_copyOf_6403c 31 = .ok (.iload_n 1, 1) := by decide +kernel
theorem dJ7_copyOf_6403c_32 : decode cJ7_copyOf_6403c 32 = .ok (.invokestatic 304, 3) := by decide +kernel
theorem dJ7_copyOf_6403c_35 : decode cJ7_copyOf_6403c 35 = .ok (.invokestatic 150, 3) := by decide +kernel
theorem dJ7_copyOf_6403c_38 : decode cJ7_copyOf_6403c 38 = .ok (.aload_n 3, 1) := by decide +kernel
theorem dJ7_copyOf_6403c_39 : decode cJ7_copyOf_6403c 39 = .ok (.areturn, 1) := by decide +kernel
theorem dJ7_copyOf_9075b_0 : decode cJ7_copyOf_9075b 0 = .ok (.iload_n 1, 1) := by decide +kernel
theorem dJ7_copyOf_9075b_1 : decode cJ7_copyOf_9075b 1 = .ok (.aload_n 0, 1) := by decide +kernel
theorem dJ7_copyOf_9075b_2 : decode cJ7_copyOf_9075b 2 = .ok (.arraylength, 1) := by decide +kernel
theorem dJ7_copyOf_9075b_3 : decode cJ7_copyOf_9075b 3 = .ok (.if_icmp .ne 11, 3) := by decide +kernel
theorem dJ7_copyOf_9075b_6 : decode cJ7_copyOf_9075b 6 = .ok (.aload_n 0, 1) := by decide +kernel
theorem dJ7_copyOf_9075b_7 : decode cJ7_copyOf_9075b 7 = .ok (.invokevirtual 310, 3) := by decide +kernel
theorem dJ7_copyOf_9075b_10 : decode cJ7_copyOf_9075b 10 = .ok (.checkcast 311, 3) := by decide +kernel
theorem dJ7_copyOf_9075b_13 : decode cJ7_copyOf_9075b 13 = .ok (.areturn, 1) := by decide +kernel
theorem dJ7_copyOf_9075b_14 : decode cJ7_copyOf_9075b 14 = .ok (.iload_n 1, 1) := by decide +kernel
theorem dJ7_copyOf_9075b_15 : decode cJ7_copyOf_9075b 15 = .ok (.newarray .byte, 2) := by decide +kernel
theorem dJ7_copyOf_9075b_17 : decode cJ7_copyOf_9075b 17 = .ok (.astore_n 2, 1) := by decide +kernel
theorem dJ7_copyOf_9075b_18 : decode cJ7_copyOf_9075b 18 = .ok (.aload_n 0, 1) := by decide +kernel
theorem dJ7_copyOf_9075b_19 : decode cJ7_copyOf_9075b 19 = .ok (.iconst 0, 1) := by decide +kernel
theorem dJ7_copyOf_9075b_20 : decode cJ7_copyOf_9075b 20 = .ok (.aload_n 2, 1) := by decide +kernel
theorem dJ7_copyOf_9075b_21 : decode cJ7_copyOf_9075b 21 = .ok (.iconst 0, 1) := by decide +kernel
theorem dJ7_copyOf_9075b_22 : decode cJ7_copyOf_9075b 22 = .ok (.aload_n 0, 1) := by decide +kernel
theorem dJ7_copyOf_9075b_23 : decode cJ7_copyOf_9075b 23 = .ok (.arraylength, 1) := by decide +kernel
theorem dJ7_copyOf_9075b_24 : decode cJ7_copyOf_9075b 24 = .ok (.iload_n 1, 1) := by decide +kernel
theorem dJ7_copyOf_9075b_25 : decode cJ7_copyOf_9075b 25 = .ok (.invokestatic 304, 3) := by decide +kernel
theorem dJ7_copyOf_9075b_28 : decode cJ7_copyOf_9075b 28 = .ok (.invokestatic 150, 3) := by decide +kernel
theorem dJ7_copyOf_9075b_31 : decode cJ7_copyOf_9075b 31 = .ok (.aload_n 2, 1) := by decide +kernel
theorem dJ7_copyOf_9075b_32 : decode cJ7_copyOf_9075b 32 = .ok (.areturn, 1) := by decide +kernel
theorem dJ7_checkLength_df160_0 : decode cJ7_checkLength_df160 0 = .ok (.iload_n 1, 1) := by decide +kernel
theorem dJ7_checkLength_df160_1 : decode cJ7_checkLength_df160 1 = .ok (.iload_n 0, 1) := by decide +kernel
theorem dJ7_checkLength_df160_2 : decode cJ7_checkLength_df160 2 = .ok (.if_icmp .ge 35, 3) := by decide +kernel
theorem dJ7_checkLength_df160_5 : decode cJ7_checkLength_df160 5 = .ok (.new 43, 3) := by decide +kernel
theorem dJ7_checkLength_df160_8 : decode cJ7_checkLength_df160 8 = .ok (.dup, 1) := by decide +kernel
theorem dJ7_checkLength_df160_9 : decode cJ7_checkLength_df160 9 = .ok (.new 45, 3) := by decide +kernel
theorem dJ7_checkLength_df160_12 : decode cJ7_checkLength_df160 12 = .ok (.dup, 1) := by decide +kernel
theorem dJ7_checkLength_df160_13 : decode cJ7_checkLength_df160 13 = .ok (.invokespecial 47, 3) := by decide +kernel
theorem dJ7_checkLength_df160_16 : decode cJ7_checkLength_df160 16 = .ok (.iload_n 0, 1) := by decide +kernel
theorem dJ7_checkLength_df160_17 : decode cJ7_checkLength_df160 17 = .ok (.invokevirtual 54, 3) := by decide +kernel
theorem dJ7_checkLength_df160_20 : decode cJ7_checkLength_df160 20 = .ok (.ldc_w 337, 3) := by decide +kernel
theorem dJ7_checkLength_df160_23 : decode cJ7_checkLength_df160 23 = .ok (.invokevirtual 50, 3) := by decide +kernel
theorem dJ7_checkLength_df160_26 : decode cJ7_checkLength_df160 26 = .ok (.iload_n 1, 1) := by decide +kernel
theorem dJ7_checkLength_df160_27 : decode cJ7_checkLength_df160 27 = .ok (.invokevirtual 54, 3) := by decide +kernel
theorem dJ7_checkLength_df160_30 : decode cJ7_checkLength_df160 30 = .ok (.invokevirtual 61, 3) := by decide +kernel
theorem dJ7_checkLength_df160_33 : decode cJ7_checkLength_df160 33 = .ok (.invokespecial 65, 3) := by decide +kernel
theorem dJ7_checkLength_df160_36 : decode cJ7_checkLength_df160 36 = .ok (.athrow, 1) := by decide +kernel
theorem dJ7_checkLength_df160_37 : decode cJ7_checkLength_df160 37 = .ok (.return_, 1) := by decide +kernel
theorem dJ7_copyOfRange_39247_0 : decode cJ7_copyOfRange_39247 0 = .ok (.iload_n 1, 1) := by decide +kernel
theorem dJ7_copyOfRange_39247_1 : decode cJ7_copyOfRange_39247 1 = .ok (.ifCond .ne 9, 3) := by decide +kernel
theorem dJ7_copyOfRange_39247_4 : decode cJ7_copyOfRange_39247 4 = .ok (.iload_n 2, 1) := by decide +kernel
theorem dJ7_copyOfRange_39247_5 : decode cJ7_copyOfRange_39247 5 = .ok (.aload_n 0, 1) := by decide +kernel
theorem dJ7_copyOfRange_39247_6 : decode cJ7_copyOfRange_39247 6 = .ok (.arraylength, 1) := by decide +kernel
theorem dJ7_copyOfRange_39247_7 : decode cJ7_copyOfRange_39247 7 = .ok (.if_icmp .eq 10, 3) := by decide +kernel
theorem dJ7_copyOfRange_39247_10 : decode cJ7_copyOfRange_39247 10 = .ok (.aload_n 0, 1) := by decide +kernel
theorem dJ7_copyOfRange_39247_11 : decode cJ7_copyOfRange_39247 11 = .ok (.iload_n 1, 1) := by decide +kernel
theorem dJ7_copyOfRange_39247_12 : decode cJ7_copyOfRange_39247 12 = .ok (.iload_n 2, 1) := by decide +kernel
theorem dJ7_copyOfRange_39247_13 : decode cJ7_copyOfRange_39247 13 = .ok (.invokestatic 339, 3) := by decide +kernel
theorem dJ7_copyOfRange_39247_16 : decode cJ7_copyOfRange_39247 16 = .ok (.areturn, 1) := by decide +kernel
theorem dJ7_copyOfRange_39247_17 : decode cJ7_copyOfRange_39247 17 = .ok (.aload_n 0, 1) := by decide +kernel
theorem dJ7_copyOfRange_39247_18 : decode cJ7_copyOfRange_39247 18 = .ok (.invokevirtual 310, 3) := by decide +kernel
theorem dJ7_copyOfRange_39247_21 : decode cJ7_copyOfRange_39247 21 = .ok (.checkcast 311, 3) := by decide +kernel
theorem dJ7_copyOfRange_39247_24 : decode cJ7_copyOfRange_39247 24 = .ok (.areturn, 1) := by decide +kernel
theorem dJ7_copyOfRangeByte_39247_0 : decode cJ7_copyOfRangeByte_39247 0 = .ok (.iload_n 1, 1) := by decide +kernel
theorem dJ7_copyOfRangeByte_39247_1 : decode cJ7_copyOfRangeByte_39247 1 = .ok (.iload_n 2, 1) := by decide +kernel
theorem dJ7_copyOfRangeByte_39247_2 : decode cJ7_copyOfRangeByte_39247 2 = .ok (.invokestatic 343, 3) := by decide +kernel
theorem dJ7_copyOfRangeByte_39247_5 : decode cJ7_copyOfRangeByte_39247 5 = .ok (.iload_n 2, 1) := by decide +kernel
theorem dJ7_copyOfRangeByte_39247_6 : decode cJ7_copyOfRangeByte_39247 6 = .ok (.iload_n 1, 1) := by decide +kernel
theorem dJ7_copyOfRangeByte_39247_7 : decode cJ7_copyOfRangeByte_39247 7 = .ok (.isub, 1) := by decide +kernel
theorem dJ7_copyOfRangeByte_39247_8 : decode cJ7_copyOfRangeByte_39247 8 = .ok (.istore_n 3, 1) := by decide +kernel
theorem dJ7_copyOfRangeByte_39247_9 : decode cJ7_copyOfRangeByte_39247 9 = .ok (.iload_n 3, 1) := by decide +kernel
theorem dJ7_copyOfRangeByte_39247_10 : decode cJ7_copyOfRangeByte_39247 10 = .ok (.newarray .byte, 2) := by decide +kernel
theorem dJ7_copyOfRangeByte_39247_12 : decode cJ7_copyOfRangeByte_39247 12 = .ok (.astore 4, 2) := by decide +kernel
theorem dJ7_copyOfRangeByte_39247_14 : decode cJ7_copyOfRangeByte_39247 14 = .ok (.aload_n 0, 1) := by decide +kernel
theorem dJ7_copyOfRangeByte_39247_15 : decode cJ7_copyOfRangeByte_39247 15 = .ok (.iload_n 1, 1) := by decide +kernel
theorem dJ7_copyOfRangeByte_39247_16 : decode cJ7_copyOfRangeByte_39247 16 = .ok (.aload 4, 2) := by decide +kernel
theorem dJ7_copyOfRangeByte_39247_18 : decode cJ7_copyOfRangeByte_39247 18 = .ok (.iconst 0, 1) := by decide +kernel
theorem dJ7_copyOfRangeByte_39247_19 : decode cJ7_copyOfRangeByte_39247 19 = .ok (.aload_n 0, 1) := by decide +kernel
theorem dJ7_copyOfRangeByte_39247_20 : decode cJ7_copyOfRangeByte_39247 20 = .ok (.arraylength, 1) := by decide +kernel
theorem dJ7_copyOfRangeByte_39247_21 : decode cJ7_copyOfRangeByte_39247 21 = .ok (.iload_n 1, 1) := by decide +kernel
theorem dJ7_copyOfRangeByte_39247_22 : decode cJ7_copyOfRangeByte_39247 22 = .ok (.isub, 1) := by decide +kernel
theorem dJ7_copyOfRangeByte_39247_23 : decode cJ7_copyOfRangeByte_39247 23 = .ok (.iload_n 3, 1) := by decide +kernel
theorem dJ7_copyOfRangeByte_39247_24 : decode cJ7_copyOfRangeByte_39247 24 = .ok (.invokestatic 304, 3) := by decide +kernel
theorem dJ7_copyOfRangeByte_39247_27 : decode cJ7_copyOfRangeByte_39247 27 = .ok (.invokestatic 150, 3) := by decide +kernel
theorem dJ7_copyOfRangeByte_39247_30 : decode cJ7_copyOfRangeByte_39247 30 = .ok (.aload 4, 2) := by decide +kernel
theorem dJ7_copyOfRangeByte_39247_32 : decode cJ7_copyOfRangeByte_39247 32 = .ok (.areturn, 1) := by decide +kernel
theorem dJ15_checkIndex_7cf53_0 : decode cJ15_checkIndex_7cf53 0 = .ok (.iload_n 0, 1) := by decide +kernel
theorem dJ15_checkIndex_7cf53_1 : decode cJ15_checkIndex_7cf53 1 = .ok (.iload_n 1, 1) := by decide +kernel
theorem dJ15_checkIndex_7cf53_2 : decode cJ15_checkIndex_7cf53 2 = .ok (.aconst_null, 1) := by decide +kernel
theorem dJ15_checkIndex_7cf53_3 : decode cJ15_checkIndex_7cf53 3 = .ok (.invokestatic 105, 3) := by decide +kernel
theorem dJ15_checkIndex_7cf53_6 : decode cJ15_checkIndex_7cf53 6 = .ok (.ireturn, 1) := by decide +kernel
theorem dJ8_newLength_cabcc_0 : decode cJ8_newLength_cabcc 0 = .ok (.iload_n 0, 1) := by decide +kernel
theorem dJ8_newLength_cabcc_1 : decode cJ8_newLength_cabcc 1 = .ok (.iload_n 1, 1) := by decide +kernel
theorem dJ8_newLength_cabcc_2 : decode cJ8_newLength_cabcc 2 = .ok (.iload_n 2, 1) := by decide +kernel
theorem dJ8_newLength_cabcc_3 : decode cJ8_newLength_cabcc 3 = .ok (.invokestatic 194, 3) := by decide +kernel
theorem dJ8_newLength_cabcc_6 : decode cJ8_newLength_cabcc 6 = .ok (.iadd, 1) := by decide +kernel
theorem dJ8_newLength_cabcc_7 : decode cJ8_newLength_cabcc 7 = .ok (.istore_n 3, 1) := by decide +kernel
theorem dJ8_newLength_cabcc_8 : decode cJ8_newLength_cabcc 8 = .ok (.iconst 0, 1) := by decide +kernel
theorem dJ8_newLength_cabcc_9 : decode cJ8_newLength_cabcc 9 = .ok (.iload_n 3, 1) := by decide +kernel
theorem dJ8_newLength_cabcc_10 : decode cJ8_newLength_cabcc 10 = .ok (.if_icmp .ge 11, 3) := by decide +kernel
theorem dJ8_newLength_cabcc_13 : decode cJ8_newLength_cabcc 13 = .ok (.iload_n 3, 1) := by decide +kernel
theorem dJ8_newLength_cabcc_14 : decode cJ8_newLength_cabcc 14 = .ok (.ldc 200, 2) := by decide +kernel
theorem dJ8_newLength_cabcc_16 : decode cJ8_newLength_cabcc 16 = .ok (.if_icmp .gt 5, 3) := by decide +kernel
theorem dJ8_newLength_cabcc_19 : decode cJ8_newLength_cabcc 19 = .ok (.iload_n 3, 1) := by decide +kernel
theorem dJ8_newLength_cabcc_20 : decode cJ8_newLength_cabcc 20 = .ok (.ireturn, 1) := by decide +kernel
theorem dJ8_newLength_cabcc_21 : decode cJ8_newLength_cabcc 21 = .ok (.iload_n 0, 1) := by decide +kernel
theorem dJ8_newLength_cabcc_22 : decode cJ8_newLength_cabcc 22 = .ok (.iload_n 1, 1) := by decide +kernel
theorem dJ8_newLength_cabcc_23 : decode cJ8_newLength_cabcc 23 = .ok (.invokestatic 201, 3) := by decide +kernel
theorem dJ8_newLength_cabcc_26 : decode cJ8_newLength_cabcc 26 = .ok (.ireturn, 1) := by decide +kernel
theorem dJ8_hugeLength_7cf53_0 : decode cJ8_hugeLength_7cf53 0 = .ok (.iload_n 0, 1) := by decide +kernel
theorem dJ8_hugeLength_7cf53_1 : decode cJ8_hugeLength_7cf53 1 = .ok (.iload_n 1, 1) := by decide +kernel
theorem dJ8_hugeLength_7cf53_2 : decode cJ8_hugeLength_7cf53 2 = .ok (.iadd, 1) := by decide +kernel
theorem dJ8_hugeLength_7cf53_3 : decode cJ8_hugeLength_7cf53 3 = .ok (.istore_n 2, 1) := by decide +kernel
theorem dJ8_hugeLength_7cf53_4 : decode cJ8_hugeLength_7cf53 4 = .ok (.iload_n 2, 1) := by decide +kernel
theorem dJ8_hugeLength_7cf53_5 : decode cJ8_hugeLength_7cf53 5 = .ok (.ifCond .ge 44, 3) := by decide +kernel
theorem dJ8_hugeLength_7cf53_8 : decode cJ8_hugeLength_7cf53 8 = .ok (.new 204, 3) := by decide +kernel
theorem dJ8_hugeLength_7cf53_11 : decode cJ8_hugeLength_7cf53 11 = .ok (.dup, 1) := by decide +kernel
theorem dJ8_hugeLength_7cf53_12 : decode cJ8_hugeLength_7cf53 12 = .ok (.new 89, 3) := by decide +kernel
theorem dJ8_hugeLength_7cf53_15 : decode cJ8_hugeLength_7cf53 15 = .ok (.dup, 1) := by decide +kernel
theorem dJ8_hugeLength_7cf53_16 : decode cJ8_hugeLength_7cf53 16 = .ok (.invokespecial 91, 3) := by decide +kernel
theorem dJ8_hugeLength_7cf53_19 : decode cJ8_hugeLength_7cf53 19 = .ok (.ldc 206, 2) := by decide +kernel
theorem dJ8_hugeLength_7cf53_21 : decode cJ8_hugeLength_7cf53 21 = .ok (.invokevirtual 94, 3) := by decide +kernel
theorem dJ8_hugeLength_7cf53_24 : decode cJ8_hugeLength_7cf53 24 = .ok (.iload_n 0, 1) := by decide +kernel
theorem dJ8_hugeLength_7cf53_25 : decode cJ8_hugeLength_7cf53 25 = .ok (.invokevirtual 98, 3) := by decide +kernel
theorem dJ8_hugeLength_7cf53_28 : decode cJ8_hugeLength_7cf53 28 = .ok (.ldc 208, 2) := by decide +kernel
theorem dJ8_hugeLength_7cf53_30 : decode cJ8_hugeLength_7cf53 30 = .ok (.invokevirtual 94, 3) := by decide +kernel
theorem dJ8_hugeLength_7cf53_33 : decode cJ8_hugeLength_7cf53 33 = .ok (.iload_n 1, 1) := by decide +kernel
theorem dJ8_hugeLength_7cf53_34 : decode cJ8_hugeLength_7cf53 34 = .ok (.invokevirtual 98, 3) := by decide +kernel
theorem dJ8_hugeLength_7cf53_37 : decode cJ8_hugeLength_7cf53 37 = .ok (.ldc 210, 2) := by decide +kernel
theorem dJ8_hugeLength_7cf53_39 : decode cJ8_hugeLength_7cf53 39 = .ok (.invokevirtual 94, 3) := by decide +kernel
theorem dJ8_hugeLength_7cf53_42 : decode cJ8_hugeLength_7cf53 42 = .ok (.invokevirtual 101, 3) := by decide +kernel
theorem dJ8_hugeLength_7cf53_45 : decode cJ8_hugeLength_7cf53 45 = .ok (.invokespecial 212, 3) := by decide +kernel
theorem dJ8_hugeLength_7cf53_48 : decode cJ8_hugeLength_7cf53 48 = .ok (.athrow, 1) := by decide +kernel
theorem dJ8_hugeLength_7cf53_49 : decode cJ8_hugeLength_7cf53 49 = .ok (.iload_n 2, 1) := by decide +kernel
theorem dJ8_hugeLength_7cf53_50 : decode cJ8_hugeLength_7cf53 50 = .ok (.ldc 200, 2) := by decide +kernel
theorem dJ8_hugeLength_7cf53_52 : decode cJ8_hugeLength_7cf53 52 = .ok (.if_icmp .gt 6, 3) := by decide +kernel
theorem dJ8_hugeLength_7cf53_55 : decode cJ8_hugeLength_7cf53 55 = .ok (.ldc 200, 2) := by decide +kernel
theorem dJ8_hugeLength_7cf53_57 : decode cJ8_hugeLength_7cf53 57 = .ok (.ireturn, 1) := by decide +kernel
theorem dJ8_hugeLength_7cf53_58 : decode cJ8_hugeLength_7cf53 58 = .ok (.iload_n 2, 1) := by decide +kernel
theorem dJ8_hugeLength_7cf53_59 : decode cJ8_hugeLength_7cf53 59 = .ok (.ireturn, 1) := by decide +kernel
theorem dJ3_checkIndex_8e157_0 : decode cJ3_checkIndex_8e157 0 = .ok (.iload_n 0, 1) := by decide +kernel
theorem dJ3_checkIndex_8e157_1 : decode cJ3_checkIndex_8e157 1 = .ok (.ifCond .lt 8, 3) := by decide +kernel
theorem dJ3_checkIndex_8e157_4 : decode cJ3_checkIndex_8e157 4 = .ok (.iload_n 0, 1) := by decide +kernel
theorem dJ3_checkIndex_8e157_5 : decode cJ3_checkIndex_8e157 5 = .ok (.iload_n 1, 1) := by decide +kernel
theorem dJ3_checkIndex_8e157_6 : decode cJ3_checkIndex_8e157 6 = .ok (.if_icmp .lt 10, 3) := by decide +kernel
theorem dJ3_checkIndex_8e157_9 : decode cJ3_checkIndex_8e157 9 = .ok (.aload_n 2, 1) := by decide +kernel
theorem dJ3_checkIndex_8e157_10 : decode cJ3_checkIndex_8e157 10 = .ok (.iload_n 0, 1) := by decide +kernel
theorem dJ3_checkIndex_8e157_11 : decode cJ3_checkIndex_8e157 11 = .ok (.iload_n 1, 1) := by decide +kernel
theorem dJ3_checkIndex_8e157_12 : decode cJ3_checkIndex_8e157 12 = .ok (.invokestatic 95, 3) := by decide +kernel
theorem dJ3_checkIndex_8e157_15 : decode cJ3_checkIndex_8e157 15 = .ok (.athrow, 1) := by decide +kernel
theorem dJ3_checkIndex_8e157_16 : decode cJ3_checkIndex_8e157 16 = .ok (.iload_n 0, 1) := by decide +kernel
theorem dJ3_checkIndex_8e157_17 : decode cJ3_checkIndex_8e157 17 = .ok (.ireturn, 1) := by decide +kernel
theorem dJ3_checkFromToIndex_8c36e_0 : decode cJ3_checkFromToIndex_8c36e 0 = .ok (.iload_n 0, 1) := by decide +kernel
theorem dJ3_checkFromToIndex_8c36e_1 : decode cJ3_checkFromToIndex_8c36e 1 = .ok (.ifCond .lt 13, 3) := by decide +kernel
theorem dJ3_checkFromToIndex_8c36e_4 : decode cJ3_checkFromToIndex_8c36e 4 = .ok (.iload_n 0, 1) := by decide +kernel
theorem dJ3_checkFromToIndex_8c36e_5 : decode cJ3_checkFromToIndex_8c36e 5 = .ok (.iload_n 1, 1) := by decide +kernel
theorem dJ3_checkFromToIndex_8c36e_6 : decode cJ3_checkFromToIndex_8c36e 6 = .ok (.if_icmp .gt 8, 3) := by decide +kernel
theorem dJ3_checkFromToIndex_8c36e_9 : decode cJ3_checkFromToIndex_8c36e 9 = .ok (.iload_n 1, 1) := by decide +kernel
theorem dJ3_checkFromToIndex_8c36e_10 : decode cJ3_checkFromToIndex_8c36e 10 = .ok (.iload_n 2, 1) := by decide +kernel
theorem dJ3_checkFromToIndex_8c36e_11 : decode cJ3_checkFromToIndex_8c36e 11 = .ok (.if_icmp .le 11, 3) := by decide +kernel
theorem dJ3_checkFromToIndex_8c36e_14 : decode cJ3_checkFromToIndex_8c36e 14 = .ok (.aload_n 3, 1) := by decide +kernel
theorem dJ3_checkFromToIndex_8c36e_15 : decode cJ3_checkFromToIndex_8c36e 15 = .ok (.iload_n 0, 1) := by decide +kernel
theorem dJ3_checkFromToIndex_8c36e_16 : decode cJ3_checkFromToIndex_8c36e 16 = .ok (.iload_n 1, 1) := by decide +kernel
theorem dJ3_checkFromToIndex_8c36e_17 : decode cJ3_checkFromToIndex_8c36e 17 = .ok (.iload_n 2, 1) := by decide +kernel
theorem dJ3_checkFromToIndex_8c36e_18 : decode cJ3_checkFromToIndex_8c36e 18 = .ok (.invokestatic 99, 3) := by decide +kernel
theorem dJ3_checkFromToIndex_8c36e_21 : decode cJ3_checkFromToIndex_8c36e 21 = .ok (.athrow, 1) := by decide +kernel
theorem dJ3_checkFromToIndex_8c36e_22 : decode cJ3_checkFromToIndex_8c36e 22 = .ok (.iload_n 0, 1) := by decide +kernel
theorem dJ3_checkFromToIndex_8c36e_23 : decode cJ3_checkFromToIndex_8c36e 23 = .ok (.ireturn, 1) := by decide +kernel
theorem dJ3_checkFromIndexSize_8c36e_0 : decode cJ3_checkFromIndexSize_8c36e 0 = .ok (.iload_n 2, 1) := by decide +kernel
theorem dJ3_checkFromIndexSize_8c36e_1 : decode cJ3_checkFromIndexSize_8c36e 1 = .ok (.iload_n 0, 1) := by decide +kernel
theorem dJ3_checkFromIndexSize_8c36e_2 : decode cJ3_checkFromIndexSize_8c36e 2 = .ok (.ior, 1) := by decide +kernel
theorem dJ3_checkFromIndexSize_8c36e_3 : decode cJ3_checkFromIndexSize_8c36e 3 = .ok (.iload_n 1, 1) := by decide +kernel
theorem dJ3_checkFromIndexSize_8c36e_4 : decode cJ3_checkFromIndexSize_8c36e 4 = .ok (.ior, 1) := by decide +kernel
theorem dJ3_checkFromIndexSize_8c36e_5 : decode cJ3_checkFromIndexSize_8c36e 5 = .ok (.ifCond .lt 10, 3) := by decide +kernel
theorem dJ3_checkFromIndexSize_8c36e_8 : decode cJ3_checkFromIndexSize_8c36e 8 = .ok (.iload_n 1, 1) := by decide +kernel
theorem dJ3_checkFromIndexSize_8c36e_9 : decode cJ3_checkFromIndexSize_8c36e 9 = .ok (.iload_n 2, 1) := by decide +kernel
theorem dJ3_checkFromIndexSize_8c36e_10 : decode cJ3_checkFromIndexSize_8c36e 10 = .ok (.iload_n 0, 1) := by decide +kernel
theorem dJ3_checkFromIndexSize_8c36e_11 : decode cJ3_checkFromIndexSize_8c36e 11 = .ok (.isub, 1) := by decide +kernel
theorem dJ3_checkFromIndexSize_8c36e_12 : decode cJ3_checkFromIndexSize_8c36e 12 = .ok (.if_icmp .le 11, 3) := by decide +kernel
theorem dJ3_checkFromIndexSize_8c36e_15 : decode cJ3_checkFromIndexSize_8c36e 15 = .ok (.aload_n 3, 1) := by decide +kernel
theorem dJ3_checkFromIndexSize_8c36e_16 : decode cJ3_checkFromIndexSize_8c36e 16 = .ok (.iload_n 0, 1) := by decide +kernel
theorem dJ3_checkFromIndexSize_8c36e_17 : decode cJ3_checkFromIndexSize_8c36e 17 = .ok (.iload_n 1, 1) := by decide +kernel
theorem dJ3_checkFromIndexSize_8c36e_18 : decode cJ3_checkFromIndexSize_8c36e 18 = .ok (.iload_n 2, 1) := by decide +kernel
theorem dJ3_checkFromIndexSize_8c36e_19 : decode cJ3_checkFromIndexSize_8c36e 19 = .ok (.invokestatic 103, 3) := by decide +kernel
theorem dJ3_checkFromIndexSize_8c36e_22 : decode cJ3_checkFromIndexSize_8c36e 22 = .ok (.athrow, 1) := by decide +kernel
theorem dJ3_checkFromIndexSize_8c36e_23 : decode cJ3_checkFromIndexSize_8c36e 23 = .ok (.iload_n 0, 1) := by decide +kernel
theorem dJ3_checkFromIndexSize_8c36e_24 : decode cJ3_checkFromIndexSize_8c36e 24 = .ok (.ireturn, 1) := by decide +kernel
theorem dL_cell_0 : decode cL_cell 0 = .ok (.ldc 7, 2) := by decide +kernel
theorem dL_cell_2 : decode cL_cell 2 = .ok (.iload_n 1, 1) := by decide +kernel
theorem dL_cell_3 : decode cL_cell 3 = .ok (.aload_n 0, 1) := by decide +kernel
theorem dL_cell_4 : decode cL_cell 4 = .ok (.arraylength, 1) := by decide +kernel
theorem dL_cell_5 : decode cL_cell 5 = .ok (.if_icmp .ge 9, 3) := by decide +kernel
theorem dL_cell_8 : decode cL_cell 8 = .ok (.aload_n 0, 1) := by decide +kernel
theorem dL_cell_9 : decode cL_cell 9 = .ok (.iload_n 1, 1) := by decide +kernel
theorem dL_cell_10 : decode cL_cell 10 = .ok (.iaload, 1) := by decide +kernel
theorem dL_cell_11 : decode cL_cell 11 = .ok (.goto 4, 3) := by decide +kernel
theorem dL_cell_14 : decode cL_cell 14 = .ok (.iconst 0, 1) := by decide +kernel
theorem dL_cell_15 : decode cL_cell 15 = .ok (.sipush 1009, 3) := by decide +kernel
theorem dL_cell_18 : decode cL_cell 18 = .ok (.iload_n 1, 1) := by decide +kernel
theorem dL_cell_19 : decode cL_cell 19 = .ok (.imul, 1) := by decide +kernel
theorem dL_cell_20 : decode cL_cell 20 = .ok (.iadd, 1) := by decide +kernel
theorem dL_cell_21 : decode cL_cell 21 = .ok (.imul, 1) := by decide +kernel
theorem dL_cell_22 : decode cL_cell 22 = .ok (.sipush 12345, 3) := by decide +kernel
theorem dL_cell_25 : decode cL_cell 25 = .ok (.iadd, 1) := by decide +kernel
theorem dL_cell_26 : decode cL_cell 26 = .ok (.istore_n 2, 1) := by decide +kernel
theorem dL_cell_27 : decode cL_cell 27 = .ok (.iload_n 2, 1) := by decide +kernel
theorem dL_cell_28 : decode cL_cell 28 = .ok (.iload_n 2, 1) := by decide +kernel
theorem dL_cell_29 : decode cL_cell 29 = .ok (.bipush 13, 2) := by decide +kernel
theorem dL_cell_31 : decode cL_cell 31 = .ok (.iushr, 1) := by decide +kernel
theorem dL_cell_32 : decode cL_cell 32 = .ok (.ixor, 1) := by decide +kernel
theorem dL_cell_33 : decode cL_cell 33 = .ok (.ldc 8, 2) := by decide +kernel
theorem dL_cell_35 : decode cL_cell 35 = .ok (.imul, 1) := by decide +kernel
theorem dL_cell_36 : decode cL_cell 36 = .ok (.istore_n 2, 1) := by decide +kernel
theorem dL_cell_37 : decode cL_cell 37 = .ok (.iload_n 2, 1) := by decide +kernel
theorem dL_cell_38 : decode cL_cell 38 = .ok (.iload_n 2, 1) := by decide +kernel
theorem dL_cell_39 : decode cL_cell 39 = .ok (.bipush 16, 2) := by decide +kernel
theorem dL_cell_41 : decode cL_cell 41 = .ok (.iushr, 1) := by decide +kernel
theorem dL_cell_42 : decode cL_cell 42 = .ok (.ixor, 1) := by decide +kernel
theorem dL_cell_43 : decode cL_cell 43 = .ok (.ireturn, 1) := by decide +kernel
theorem dL_addBin_0 : decode cL_addBin 0 = .ok (.aload_n 0, 1) := by decide +kernel
theorem dL_addBin_1 : decode cL_addBin 1 = .ok (.iload_n 1, 1) := by decide +kernel
theorem dL_addBin_2 : decode cL_addBin 2 = .ok (.iload_n 2, 1) := by decide +kernel
theorem dL_addBin_3 : decode cL_addBin 3 = .ok (.invokevirtual 9, 3) := by decide +kernel
theorem dL_addBin_6 : decode cL_addBin 6 = .ok (.ireturn, 1) := by decide +kernel
theorem dL_addBin_7 : decode cL_addBin 7 = .ok (.astore_n 3, 1) := by decide +kernel
theorem dL_addBin_8 : decode cL_addBin 8 = .ok (.ldc 17, 2) := by decide +kernel
theorem dL_addBin_10 : decode cL_addBin 10 = .ok (.ireturn, 1) := by decide +kernel
theorem dL_addBin_11 : decode cL_addBin 11 = .ok (.astore_n 3, 1) := by decide +kernel
theorem dL_addBin_12 : decode cL_addBin 12 = .ok (.ldc 20, 2) := by decide +kernel
theorem dL_addBin_14 : decode cL_addBin 14 = .ok (.ireturn, 1) := by decide +kernel
theorem dL_capacityOf_0 : decode cL_capacityOf 0 = .ok (.aload_n 0, 1) := by decide +kernel
theorem dL_capacityOf_1 : decode cL_capacityOf 1 = .ok (.iload_n 1, 1) := by decide +kernel
theorem dL_capacityOf_2 : decode cL_capacityOf 2 = .ok (.invokevirtual 21, 3) := by decide +kernel
theorem dL_capacityOf_5 : decode cL_capacityOf 5 = .ok (.ireturn, 1) := by decide +kernel
theorem dL_capacityOf_6 : decode cL_capacityOf 6 = .ok (.astore_n 2, 1) := by decide +kernel
theorem dL_capacityOf_7 : decode cL_capacityOf 7 = .ok (.ldc 17, 2) := by decide +kernel
theorem dL_capacityOf_9 : decode cL_capacityOf 9 = .ok (.ireturn, 1) := by decide +kernel
theorem dL_setRule_0 : decode cL_setRule 0 = .ok (.aload_n 0, 1) := by decide +kernel
theorem dL_setRule_1 : decode cL_setRule 1 = .ok (.iload_n 1, 1) := by decide +kernel
theorem dL_setRule_2 : decode cL_setRule 2 = .ok (.iload_n 2, 1) := by decide +kernel
theorem dL_setRule_3 : decode cL_setRule 3 = .ok (.iload_n 3, 1) := by decide +kernel
theorem dL_setRule_4 : decode cL_setRule 4 = .ok (.iload 4, 2) := by decide +kernel
theorem dL_setRule_6 : decode cL_setRule 6 = .ok (.invokevirtual 27, 3) := by decide +kernel
theorem dL_setRule_9 : decode cL_setRule 9 = .ok (.ireturn, 1) := by decide +kernel
theorem dL_setRule_10 : decode cL_setRule 10 = .ok (.astore 5, 2) := by decide +kernel
theorem dL_setRule_12 : decode cL_setRule 12 = .ok (.ldc 17, 2) := by decide +kernel
theorem dL_setRule_14 : decode cL_setRule 14 = .ok (.ireturn, 1) := by decide +kernel
theorem dL_setSeason_0 : decode cL_setSeason 0 = .ok (.aload_n 0, 1) := by decide +kernel
theorem dL_setSeason_1 : decode cL_setSeason 1 = .ok (.iload_n 1, 1) := by decide +kernel
theorem dL_setSeason_2 : decode cL_setSeason 2 = .ok (.invokevirtual 31, 3) := by decide +kernel
theorem dL_setSeason_5 : decode cL_setSeason 5 = .ok (.ireturn, 1) := by decide +kernel
theorem dL_setSeason_6 : decode cL_setSeason 6 = .ok (.astore_n 2, 1) := by decide +kernel
theorem dL_setSeason_7 : decode cL_setSeason 7 = .ok (.ldc 17, 2) := by decide +kernel
theorem dL_setSeason_9 : decode cL_setSeason 9 = .ok (.ireturn, 1) := by decide +kernel
theorem dL_gradeFor_0 : decode cL_gradeFor 0 = .ok (.aload_n 0, 1) := by decide +kernel
theorem dL_gradeFor_1 : decode cL_gradeFor 1 = .ok (.iload_n 1, 1) := by decide +kernel
theorem dL_gradeFor_2 : decode cL_gradeFor 2 = .ok (.iload_n 2, 1) := by decide +kernel
theorem dL_gradeFor_3 : decode cL_gradeFor 3 = .ok (.invokevirtual 34, 3) := by decide +kernel
theorem dL_gradeFor_6 : decode cL_gradeFor 6 = .ok (.ireturn, 1) := by decide +kernel
theorem dL_gradeFor_7 : decode cL_gradeFor 7 = .ok (.astore_n 3, 1) := by decide +kernel
theorem dL_gradeFor_8 : decode cL_gradeFor 8 = .ok (.ldc 17, 2) := by decide +kernel
theorem dL_gradeFor_10 : decode cL_gradeFor 10 = .ok (.ireturn, 1) := by decide +kernel
theorem dL_setPrice_0 : decode cL_setPrice 0 = .ok (.aload_n 0, 1) := by decide +kernel
theorem dL_setPrice_1 : decode cL_setPrice 1 = .ok (.iload_n 1, 1) := by decide +kernel
theorem dL_setPrice_2 : decode cL_setPrice 2 = .ok (.iload_n 2, 1) := by decide +kernel
theorem dL_setPrice_3 : decode cL_setPrice 3 = .ok (.invokevirtual 38, 3) := by decide +kernel
theorem dL_setPrice_6 : decode cL_setPrice 6 = .ok (.ireturn, 1) := by decide +kernel
theorem dL_setPrice_7 : decode cL_setPrice 7 = .ok (.astore_n 3, 1) := by decide +kernel
theorem dL_setPrice_8 : decode cL_setPrice 8 = .ok (.ldc 17, 2) := by decide +kernel
theorem dL_setPrice_10 : decode cL_setPrice 10 = .ok (.ireturn, 1) := by decide +kernel
theorem dL_load_0 : decode cL_load 0 = .ok (.aload_n 0, 1) := by decide +kernel
theorem dL_load_1 : decode cL_load 1 = .ok (.iload_n 1, 1) := by decide +kernel
theorem dL_load_2 : decode cL_load 2 = .ok (.iload_n 2, 1) := by decide +kernel
theorem dL_load_3 : decode cL_load 3 = .ok (.iload_n 3, 1) := by decide +kernel
theorem dL_load_4 : decode cL_load 4 = .ok (.iload 4, 2) := by decide +kernel
theorem dL_load_6 : decode cL_load 6 = .ok (.invokevirtual 41, 3) := by decide +kernel
theorem dL_load_9 : decode cL_load 9 = .ok (.ireturn, 1) := by decide +kernel
theorem dL_load_10 : decode cL_load 10 = .ok (.astore 5, 2) := by decide +kernel
theorem dL_load_12 : decode cL_load 12 = .ok (.ldc 17, 2) := by decide +kernel
theorem dL_load_14 : decode cL_load 14 = .ok (.ireturn, 1) := by decide +kernel
theorem dL_load_15 : decode cL_load 15 = .ok (.astore 5, 2) := by decide +kernel
theorem dL_load_17 : decode cL_load 17 = .ok (.ldc 20, 2) := by decide +kernel
theorem dL_load_19 : decode cL_load 19 = .ok (.ireturn, 1) := by decide +kernel
theorem dL_load_20 : decode cL_load 20 = .ok (.astore 5, 2) := by decide +kernel
theorem dL_load_22 : decode cL_load 22 = .ok (.ldc 44, 2) := by decide +kernel
theorem dL_load_24 : decode cL_load 24 = .ok (.ireturn, 1) := by decide +kernel
theorem dL_sell_0 : decode cL_sell 0 = .ok (.aload_n 0, 1) := by decide +kernel
theorem dL_sell_1 : decode cL_sell 1 = .ok (.iload_n 1, 1) := by decide +kernel
theorem dL_sell_2 : decode cL_sell 2 = .ok (.iload_n 2, 1) := by decide +kernel
theorem dL_sell_3 : decode cL_sell 3 = .ok (.invokevirtual 45, 3) := by decide +kernel
theorem dL_sell_6 : decode cL_sell 6 = .ok (.ireturn, 1) := by decide +kernel
theorem dL_sell_7 : decode cL_sell 7 = .ok (.astore_n 3, 1) := by decide +kernel
theorem dL_sell_8 : decode cL_sell 8 = .ok (.ldc 17, 2) := by decide +kernel
theorem dL_sell_10 : decode cL_sell 10 = .ok (.ireturn, 1) := by decide +kernel
theorem dL_sell_11 : decode cL_sell 11 = .ok (.astore_n 3, 1) := by decide +kernel
theorem dL_sell_12 : decode cL_sell 12 = .ok (.ldc 20, 2) := by decide +kernel
theorem dL_sell_14 : decode cL_sell 14 = .ok (.ireturn, 1) := by decide +kernel
theorem dL_sell_15 : decode cL_sell 15 = .ok (.astore_n 3, 1) := by decide +kernel
theorem dL_sell_16 : decode cL_sell 16 = .ok (.ldc 44, 2) := by decide +kernel
theorem dL_sell_18 : decode cL_sell 18 = .ok (.ireturn, 1) := by decide +kernel
theorem dL_transfer_0 : decode cL_transfer 0 = .ok (.aload_n 0, 1) := by decide +kernel
theorem dL_transfer_1 : decode cL_transfer 1 = .ok (.iload_n 1, 1) := by decide +kernel
theorem dL_transfer_2 : decode cL_transfer 2 = .ok (.iload_n 2, 1) := by decide +kernel
theorem dL_transfer_3 : decode cL_transfer 3 = .ok (.iload_n 3, 1) := by decide +kernel
theorem dL_transfer_4 : decode cL_transfer 4 = .ok (.invokevirtual 48, 3) := by decide +kernel
theorem dL_transfer_7 : decode cL_transfer 7 = .ok (.ireturn, 1) := by decide +kernel
theorem dL_transfer_8 : decode cL_transfer 8 = .ok (.astore 4, 2) := by decide +kernel
theorem dL_transfer_10 : decode cL_transfer 10 = .ok (.ldc 17, 2) := by decide +kernel
theorem dL_transfer_12 : decode cL_transfer 12 = .ok (.ireturn, 1) := by decide +kernel
theorem dL_transfer_13 : decode cL_transfer 13 = .ok (.astore 4, 2) := by decide +kernel
theorem dL_transfer_15 : decode cL_transfer 15 = .ok (.ldc 20, 2) := by decide +kernel
theorem dL_transfer_17 : decode cL_transfer 17 = .ok (.ireturn, 1) := by decide +kernel
theorem dL_transfer_18 : decode cL_transfer 18 = .ok (.astore 4, 2) := by decide +kernel
theorem dL_transfer_20 : decode cL_transfer 20 = .ok (.ldc 44, 2) := by decide +kernel
theorem dL_transfer_22 : decode cL_transfer 22 = .ok (.ireturn, 1) := by decide +kernel
theorem dL_dry_0 : decode cL_dry 0 = .ok (.aload_n 0, 1) := by decide +kernel
theorem dL_dry_1 : decode cL_dry 1 = .ok (.iload_n 1, 1) := by decide +kernel
theorem dL_dry_2 : decode cL_dry 2 = .ok (.iload_n 2, 1) := by decide +kernel
theorem dL_dry_3 : decode cL_dry 3 = .ok (.invokevirtual 52, 3) := by decide +kernel
theorem dL_dry_6 : decode cL_dry 6 = .ok (.ireturn, 1) := by decide +kernel
theorem dL_dry_7 : decode cL_dry 7 = .ok (.astore_n 3, 1) := by decide +kernel
theorem dL_dry_8 : decode cL_dry 8 = .ok (.ldc 17, 2) := by decide +kernel
theorem dL_dry_10 : decode cL_dry 10 = .ok (.ireturn, 1) := by decide +kernel
theorem dL_dry_11 : decode cL_dry 11 = .ok (.astore_n 3, 1) := by decide +kernel
theorem dL_dry_12 : decode cL_dry 12 = .ok (.ldc 20, 2) := by decide +kernel
theorem dL_dry_14 : decode cL_dry 14 = .ok (.ireturn, 1) := by decide +kernel
theorem dL_dry_15 : decode cL_dry 15 = .ok (.astore_n 3, 1) := by decide +kernel
theorem dL_dry_16 : decode cL_dry 16 = .ok (.ldc 44, 2) := by decide +kernel
theorem dL_dry_18 : decode cL_dry 18 = .ok (.ireturn, 1) := by decide +kernel
theorem dL_dryingCost_0 : decode cL_dryingCost 0 = .ok (.aload_n 0, 1) := by decide +kernel
theorem dL_dryingCost_1 : decode cL_dryingCost 1 = .ok (.iload_n 1, 1) := by decide +kernel
theorem dL_dryingCost_2 : decode cL_dryingCost 2 = .ok (.iload_n 2, 1) := by decide +kernel
theorem dL_dryingCost_3 : decode cL_dryingCost 3 = .ok (.invokevirtual 55, 3) := by decide +kernel
theorem dL_dryingCost_6 : decode cL_dryingCost 6 = .ok (.ireturn, 1) := by decide +kernel
theorem dL_dryingCost_7 : decode cL_dryingCost 7 = .ok (.astore_n 3, 1) := by decide +kernel
theorem dL_dryingCost_8 : decode cL_dryingCost 8 = .ok (.ldc 17, 2) := by decide +kernel
theorem dL_dryingCost_10 : decode cL_dryingCost 10 = .ok (.ireturn, 1) := by decide +kernel
theorem dL_dryingCost_11 : decode cL_dryingCost 11 = .ok (.astore_n 3, 1) := by decide +kernel
theorem dL_dryingCost_12 : decode cL_dryingCost 12 = .ok (.ldc 20, 2) := by decide +kernel
theorem dL_dryingCost_14 : decode cL_dryingCost 14 = .ok (.ireturn, 1) := by decide +kernel
theorem dL_bushelsIn_0 : decode cL_bushelsIn 0 = .ok (.aload_n 0, 1) := by decide +kernel
theorem dL_bushelsIn_1 : decode cL_bushelsIn 1 = .ok (.iload_n 1, 1) := by decide +kernel
theorem dL_bushelsIn_2 : decode cL_bushelsIn 2 = .ok (.invokevirtual 58, 3) := by decide +kernel
theorem dL_bushelsIn_5 : decode cL_bushelsIn 5 = .ok (.ireturn, 1) := by decide +kernel
theorem dL_bushelsIn_6 : decode cL_bushelsIn 6 = .ok (.astore_n 2, 1) := by decide +kernel
theorem dL_bushelsIn_7 : decode cL_bushelsIn 7 = .ok (.ldc 17, 2) := by decide +kernel
theorem dL_bushelsIn_9 : decode cL_bushelsIn 9 = .ok (.ireturn, 1) := by decide +kernel
theorem dL_layersIn_0 : decode cL_layersIn 0 = .ok (.aload_n 0, 1) := by decide +kernel
theorem dL_layersIn_1 : decode cL_layersIn 1 = .ok (.iload_n 1, 1) := by decide +kernel
theorem dL_layersIn_2 : decode cL_layersIn 2 = .ok (.invokevirtual 61, 3) := by decide +kernel
theorem dL_layersIn_5 : decode cL_layersIn 5 = .ok (.ireturn, 1) := by decide +kernel
theorem dL_layersIn_6 : decode cL_layersIn 6 = .ok (.astore_n 2, 1) := by decide +kernel
theorem dL_layersIn_7 : decode cL_layersIn 7 = .ok (.ldc 17, 2) := by decide +kernel
theorem dL_layersIn_9 : decode cL_layersIn 9 = .ok (.ireturn, 1) := by decide +kernel
theorem dL_layerBushels_0 : decode cL_layerBushels 0 = .ok (.aload_n 0, 1) := by decide +kernel
theorem dL_layerBushels_1 : decode cL_layerBushels 1 = .ok (.iload_n 1, 1) := by decide +kernel
theorem dL_layerBushels_2 : decode cL_layerBushels 2 = .ok (.iload_n 2, 1) := by decide +kernel
theorem dL_layerBushels_3 : decode cL_layerBushels 3 = .ok (.invokevirtual 64, 3) := by decide +kernel
theorem dL_layerBushels_6 : decode cL_layerBushels 6 = .ok (.ireturn, 1) := by decide +kernel
theorem dL_layerBushels_7 : decode cL_layerBushels 7 = .ok (.astore_n 3, 1) := by decide +kernel
theorem dL_layerBushels_8 : decode cL_layerBushels 8 = .ok (.ldc 17, 2) := by decide +kernel
theorem dL_layerBushels_10 : decode cL_layerBushels 10 = .ok (.ireturn, 1) := by decide +kernel
theorem dL_layerAnew_0 : decode cL_layerAnew 0 = .ok (.aload_n 0, 1) := by decide +kernel
theorem dL_layerAnew_1 : decode cL_layerAnew 1 = .ok (.iload_n 1, 1) := by decide +kernel
theorem dL_layerAnew_2 : decode cL_layerAnew 2 = .ok (.iload_n 2, 1) := by decide +kernel
theorem dL_layerAnew_3 : decode cL_layerAnew 3 = .ok (.invokevirtual 67, 3) := by decide +kernel
theorem dL_layerAnew_6 : decode cL_layerAnew 6 = .ok (.ireturn, 1) := by decide +kernel
theorem dL_layerAnew_7 : decode cL_layerAnew 7 = .ok (.astore_n 3, 1) := by decide +kernel
theorem dL_layerAnew_8 : decode cL_layerAnew 8 = .ok (.ldc 17, 2) := by decide +kernel
theorem dL_layerAnew_10 : decode cL_layerAnew 10 = .ok (.ireturn, 1) := by decide +kernel
theorem dL_layerMoisture_0 : decode cL_layerMoisture 0 = .ok (.aload_n 0, 1) := by decide +kernel
theorem dL_layerMoisture_1 : decode cL_layerMoisture 1 = .ok (.iload_n 1, 1) := by decide +kernel
theorem dL_layerMoisture_2 : decode cL_layerMoisture 2 = .ok (.iload_n 2, 1) := by decide +kernel
theorem dL_layerMoisture_3 : decode cL_layerMoisture 3 = .ok (.invokevirtual 70, 3) := by decide +kernel
theorem dL_layerMoisture_6 : decode cL_layerMoisture 6 = .ok (.ireturn, 1) := by decide +kernel
theorem dL_layerMoisture_7 : decode cL_layerMoisture 7 = .ok (.astore_n 3, 1) := by decide +kernel
theorem dL_layerMoisture_8 : decode cL_layerMoisture 8 = .ok (.ldc 17, 2) := by decide +kernel
theorem dL_layerMoisture_10 : decode cL_layerMoisture 10 = .ok (.ireturn, 1) := by decide +kernel
theorem dL_layerForeign_0 : decode cL_layerForeign 0 = .ok (.aload_n 0, 1) := by decide +kernel
theorem dL_layerForeign_1 : decode cL_layerForeign 1 = .ok (.iload_n 1, 1) := by decide +kernel
theorem dL_layerForeign_2 : decode cL_layerForeign 2 = .ok (.iload_n 2, 1) := by decide +kernel
theorem dL_layerForeign_3 : decode cL_layerForeign 3 = .ok (.invokevirtual 73, 3) := by decide +kernel
theorem dL_layerForeign_6 : decode cL_layerForeign 6 = .ok (.ireturn, 1) := by decide +kernel
theorem dL_layerForeign_7 : decode cL_layerForeign 7 = .ok (.astore_n 3, 1) := by decide +kernel
theorem dL_layerForeign_8 : decode cL_layerForeign 8 = .ok (.ldc 17, 2) := by decide +kernel
theorem dL_layerForeign_10 : decode cL_layerForeign 10 = .ok (.ireturn, 1) := by decide +kernel
theorem dL_layerGrade_0 : decode cL_layerGrade 0 = .ok (.aload_n 0, 1) := by decide +kernel
theorem dL_layerGrade_1 : decode cL_layerGrade 1 = .ok (.iload_n 1, 1) := by decide +kernel
theorem dL_layerGrade_2 : decode cL_layerGrade 2 = .ok (.iload_n 2, 1) := by decide +kernel
theorem dL_layerGrade_3 : decode cL_layerGrade 3 = .ok (.invokevirtual 76, 3) := by decide +kernel
theorem dL_layerGrade_6 : decode cL_layerGrade 6 = .ok (.ireturn, 1) := by decide +kernel
theorem dL_layerGrade_7 : decode cL_layerGrade 7 = .ok (.astore_n 3, 1) := by decide +kernel
theorem dL_layerGrade_8 : decode cL_layerGrade 8 = .ok (.ldc 17, 2) := by decide +kernel
theorem dL_layerGrade_10 : decode cL_layerGrade 10 = .ok (.ireturn, 1) := by decide +kernel
theorem dL_sellBlend_0 : decode cL_sellBlend 0 = .ok (.aload_n 0, 1) := by decide +kernel
theorem dL_sellBlend_1 : decode cL_sellBlend 1 = .ok (.iload_n 1, 1) := by decide +kernel
theorem dL_sellBlend_2 : decode cL_sellBlend 2 = .ok (.iload_n 2, 1) := by decide +kernel
theorem dL_sellBlend_3 : decode cL_sellBlend 3 = .ok (.iload_n 3, 1) := by decide +kernel
theorem dL_sellBlend_4 : decode cL_sellBlend 4 = .ok (.iload 4, 2) := by decide +kernel
theorem dL_sellBlend_6 : decode cL_sellBlend 6 = .ok (.invokevirtual 79, 3) := by decide +kernel
theorem dL_sellBlend_9 : decode cL_sellBlend 9 = .ok (.ireturn, 1) := by decide +kernel
theorem dL_sellBlend_10 : decode cL_sellBlend 10 = .ok (.astore 5, 2) := by decide +kernel
theorem dL_sellBlend_12 : decode cL_sellBlend 12 = .ok (.ldc 17, 2) := by decide +kernel
theorem dL_sellBlend_14 : decode cL_sellBlend 14 = .ok (.ireturn, 1) := by decide +kernel
theorem dL_sellBlend_15 : decode cL_sellBlend 15 = .ok (.astore 5, 2) := by decide +kernel
theorem dL_sellBlend_17 : decode cL_sellBlend 17 = .ok (.ldc 20, 2) := by decide +kernel
theorem dL_sellBlend_19 : decode cL_sellBlend 19 = .ok (.ireturn, 1) := by decide +kernel
theorem dL_sellBlend_20 : decode cL_sellBlend 20 = .ok (.astore 5, 2) := by decide +kernel
theorem dL_sellBlend_22 : decode cL_sellBlend 22 = .ok (.ldc 44, 2) := by decide +kernel
theorem dL_sellBlend_24 : decode cL_sellBlend 24 = .ok (.ireturn, 1) := by decide +kernel
theorem dL_sellBlend_25 : decode cL_sellBlend 25 = .ok (.astore 5, 2) := by decide +kernel
theorem dL_sellBlend_27 : decode cL_sellBlend 27 = .ok (.ldc 84, 2) := by decide +kernel
theorem dL_sellBlend_29 : decode cL_sellBlend 29 = .ok (.ireturn, 1) := by decide +kernel
theorem dL_setFutures_0 : decode cL_setFutures 0 = .ok (.aload_n 0, 1) := by decide +kernel
theorem dL_setFutures_1 : decode cL_setFutures 1 = .ok (.iload_n 1, 1) := by decide +kernel
theorem dL_setFutures_2 : decode cL_setFutures 2 = .ok (.invokevirtual 85, 3) := by decide +kernel
theorem dL_setFutures_5 : decode cL_setFutures 5 = .ok (.ireturn, 1) := by decide +kernel
theorem dL_setFutures_6 : decode cL_setFutures 6 = .ok (.astore_n 2, 1) := by decide +kernel
theorem dL_setFutures_7 : decode cL_setFutures 7 = .ok (.ldc 17, 2) := by decide +kernel
theorem dL_setFutures_9 : decode cL_setFutures 9 = .ok (.ireturn, 1) := by decide +kernel
theorem dL_writeBin_0 : decode cL_writeBin 0 = .ok (.aload_n 0, 1) := by decide +kernel
theorem dL_writeBin_1 : decode cL_writeBin 1 = .ok (.iload_n 1, 1) := by decide +kernel
theorem dL_writeBin_2 : decode cL_writeBin 2 = .ok (.invokevirtual 88, 3) := by decide +kernel
theorem dL_writeBin_5 : decode cL_writeBin 5 = .ok (.ireturn, 1) := by decide +kernel
theorem dL_writeBin_6 : decode cL_writeBin 6 = .ok (.astore_n 2, 1) := by decide +kernel
theorem dL_writeBin_7 : decode cL_writeBin 7 = .ok (.ldc 17, 2) := by decide +kernel
theorem dL_writeBin_9 : decode cL_writeBin 9 = .ok (.ireturn, 1) := by decide +kernel
theorem dL_lineAt_0 : decode cL_lineAt 0 = .ok (.aload_n 0, 1) := by decide +kernel
theorem dL_lineAt_1 : decode cL_lineAt 1 = .ok (.iload_n 1, 1) := by decide +kernel
theorem dL_lineAt_2 : decode cL_lineAt 2 = .ok (.invokevirtual 91, 3) := by decide +kernel
theorem dL_lineAt_5 : decode cL_lineAt 5 = .ok (.ireturn, 1) := by decide +kernel
theorem dL_lineAt_6 : decode cL_lineAt 6 = .ok (.astore_n 2, 1) := by decide +kernel
theorem dL_lineAt_7 : decode cL_lineAt 7 = .ok (.ldc 17, 2) := by decide +kernel
theorem dL_lineAt_9 : decode cL_lineAt 9 = .ok (.ireturn, 1) := by decide +kernel
theorem dL_in_0 : decode cL_in 0 = .ok (.aload_n 0, 1) := by decide +kernel
theorem dL_in_1 : decode cL_in 1 = .ok (.iload_n 1, 1) := by decide +kernel
theorem dL_in_2 : decode cL_in 2 = .ok (.invokestatic 95, 3) := by decide +kernel
theorem dL_in_5 : decode cL_in 5 = .ok (.ldc 101, 2) := by decide +kernel
theorem dL_in_7 : decode cL_in 7 = .ok (.iand, 1) := by decide +kernel
theorem dL_in_8 : decode cL_in 8 = .ok (.iload_n 2, 1) := by decide +kernel
theorem dL_in_9 : decode cL_in 9 = .ok (.irem, 1) := by decide +kernel
theorem dL_in_10 : decode cL_in 10 = .ok (.ireturn, 1) := by decide +kernel
theorem dL_begun_0 : decode cL_begun 0 = .ok (.sipush 2700, 3) := by decide +kernel
theorem dL_begun_3 : decode cL_begun 3 = .ok (.newarray .int, 2) := by decide +kernel
theorem dL_begun_5 : decode cL_begun 5 = .ok (.astore_n 0, 1) := by decide +kernel
theorem dL_begun_6 : decode cL_begun 6 = .ok (.bipush 6, 2) := by decide +kernel
theorem dL_begun_8 : decode cL_begun 8 = .ok (.newarray .int, 2) := by decide +kernel
theorem dL_begun_10 : decode cL_begun 10 = .ok (.dup, 1) := by decide +kernel
theorem dL_begun_11 : decode cL_begun 11 = .ok (.iconst 0, 1) := by decide +kernel
theorem dL_begun_12 : decode cL_begun 12 = .ok (.sipush 140, 3) := by decide +kernel
theorem dL_begun_15 : decode cL_begun 15 = .ok (.iastore, 1) := by decide +kernel
theorem dL_begun_16 : decode cL_begun 16 = .ok (.dup, 1) := by decide +kernel
theorem dL_begun_17 : decode cL_begun 17 = .ok (.iconst 1, 1) := by decide +kernel
theorem dL_begun_18 : decode cL_begun 18 = .ok (.bipush 20, 2) := by decide +kernel
theorem dL_begun_20 : decode cL_begun 20 = .ok (.iastore, 1) := by decide +kernel
theorem dL_begun_21 : decode cL_begun 21 = .ok (.dup, 1) := by decide +kernel
theorem dL_begun_22 : decode cL_begun 22 = .ok (.iconst 2, 1) := by decide +kernel
theorem dL_begun_23 : decode cL_begun 23 = .ok (.sipush 155, 3) := by decide +kernel
theorem dL_begun_26 : decode cL_begun 26 = .ok (.iastore, 1) := by decide +kernel
theorem dL_begun_27 : decode cL_begun 27 = .ok (.dup, 1) := by decide +kernel
theorem dL_begun_28 : decode cL_begun 28 = .ok (.iconst 3, 1) := by decide +kernel
theorem dL_begun_29 : decode cL_begun 29 = .ok (.bipush 30, 2) := by decide +kernel
theorem dL_begun_31 : decode cL_begun 31 = .ok (.iastore, 1) := by decide +kernel
theorem dL_begun_32 : decode cL_begun 32 = .ok (.dup, 1) := by decide +kernel
theorem dL_begun_33 : decode cL_begun 33 = .ok (.iconst 4, 1) := by decide +kernel
theorem dL_begun_34 : decode cL_begun 34 = .ok (.sipush 175, 3) := by decide +kernel
theorem dL_begun_37 : decode cL_begun 37 = .ok (.iastore, 1) := by decide +kernel
theorem dL_begun_38 : decode cL_begun 38 = .ok (.dup, 1) := by decide +kernel
theorem dL_begun_39 : decode cL_begun 39 = .ok (.iconst 5, 1) := by decide +kernel
theorem dL_begun_40 : decode cL_begun 40 = .ok (.bipush 40, 2) := by decide +kernel
theorem dL_begun_42 : decode cL_begun 42 = .ok (.iastore, 1) := by decide +kernel
theorem dL_begun_43 : decode cL_begun 43 = .ok (.astore_n 1, 1) := by decide +kernel
theorem dL_begun_44 : decode cL_begun 44 = .ok (.iconst 0, 1) := by decide +kernel
theorem dL_begun_45 : decode cL_begun 45 = .ok (.istore_n 2, 1) := by decide +kernel
theorem dL_begun_46 : decode cL_begun 46 = .ok (.iload_n 2, 1) := by decide +kernel
theorem dL_begun_47 : decode cL_begun 47 = .ok (.bipush 24, 2) := by decide +kernel
theorem dL_begun_49 : decode cL_begun 49 = .ok (.if_icmp .ge 21, 3) := by decide +kernel
theorem dL_begun_52 : decode cL_begun 52 = .ok (.aload_n 0, 1) := by decide +kernel
theorem dL_begun_53 : decode cL_begun 53 = .ok (.bipush 40, 2) := by decide +kernel
theorem dL_begun_55 : decode cL_begun 55 = .ok (.iload_n 2, 1) := by decide +kernel
theorem dL_begun_56 : decode cL_begun 56 = .ok (.iadd, 1) := by decide +kernel
theorem dL_begun_57 : decode cL_begun 57 = .ok (.aload_n 1, 1) := by decide +kernel
theorem dL_begun_58 : decode cL_begun 58 = .ok (.iload_n 2, 1) := by decide +kernel
theorem dL_begun_59 : decode cL_begun 59 = .ok (.bipush 6, 2) := by decide +kernel
theorem dL_begun_61 : decode cL_begun 61 = .ok (.irem, 1) := by decide +kernel
theorem dL_begun_62 : decode cL_begun 62 = .ok (.iaload, 1) := by decide +kernel
theorem dL_begun_63 : decode cL_begun 63 = .ok (.iastore, 1) := by decide +kernel
theorem dL_begun_64 : decode cL_begun 64 = .ok (.iinc 2 1, 3) := by decide +kernel
theorem dL_begun_67 : decode cL_begun 67 = .ok (.goto (-21), 3) := by decide +kernel
theorem dL_begun_70 : decode cL_begun 70 = .ok (.aload_n 0, 1) := by decide +kernel
theorem dL_begun_71 : decode cL_begun 71 = .ok (.iconst 4, 1) := by decide +kernel
theorem dL_begun_72 : decode cL_begun 72 = .ok (.sipush 500, 3) := by decide +kernel
theorem dL_begun_75 : decode cL_begun 75 = .ok (.iastore, 1) := by decide +kernel
theorem dL_begun_76 : decode cL_begun 76 = .ok (.aload_n 0, 1) := by decide +kernel
theorem dL_begun_77 : decode cL_begun 77 = .ok (.bipush 71, 2) := by decide +kernel
theorem dL_begun_79 : decode cL_begun 79 = .ok (.sipush 500, 3) := by decide +kernel
theorem dL_begun_82 : decode cL_begun 82 = .ok (.iastore, 1) := by decide +kernel
theorem dL_begun_83 : decode cL_begun 83 = .ok (.aload_n 0, 1) := by decide +kernel
theorem dL_begun_84 : decode cL_begun 84 = .ok (.bipush 72, 2) := by decide +kernel
theorem dL_begun_86 : decode cL_begun 86 = .ok (.sipush 480, 3) := by decide +kernel
theorem dL_begun_89 : decode cL_begun 89 = .ok (.iastore, 1) := by decide +kernel
theorem dL_begun_90 : decode cL_begun 90 = .ok (.aload_n 0, 1) := by decide +kernel
theorem dL_begun_91 : decode cL_begun 91 = .ok (.bipush 73, 2) := by decide +kernel
theorem dL_begun_93 : decode cL_begun 93 = .ok (.sipush 450, 3) := by decide +kernel
theorem dL_begun_96 : decode cL_begun 96 = .ok (.iastore, 1) := by decide +kernel
theorem dL_begun_97 : decode cL_begun 97 = .ok (.aload_n 0, 1) := by decide +kernel
theorem dL_begun_98 : decode cL_begun 98 = .ok (.bipush 74, 2) := by decide +kernel
theorem dL_begun_100 : decode cL_begun 100 = .ok (.sipush 380, 3) := by decide +kernel
theorem dL_begun_103 : decode cL_begun 103 = .ok (.iastore, 1) := by decide +kernel
theorem dL_begun_104 : decode cL_begun 104 = .ok (.aload_n 0, 1) := by decide +kernel
theorem dL_begun_105 : decode cL_begun 105 = .ok (.areturn, 1) := by decide +kernel
theorem dL_at_0 : decode cL_at 0 = .ok (.sipush 260, 3) := by decide +kernel
theorem dL_at_3 : decode cL_at 3 = .ok (.sipush 400, 3) := by decide +kernel
theorem dL_at_6 : decode cL_at 6 = .ok (.iload_n 0, 1) := by decide +kernel
theorem dL_at_7 : decode cL_at 7 = .ok (.imul, 1) := by decide +kernel
theorem dL_at_8 : decode cL_at 8 = .ok (.iadd, 1) := by decide +kernel
theorem dL_at_9 : decode cL_at 9 = .ok (.iconst 4, 1) := by decide +kernel
theorem dL_at_10 : decode cL_at 10 = .ok (.iload_n 1, 1) := by decide +kernel
theorem dL_at_11 : decode cL_at 11 = .ok (.imul, 1) := by decide +kernel
theorem dL_at_12 : decode cL_at 12 = .ok (.iadd, 1) := by decide +kernel
theorem dL_at_13 : decode cL_at 13 = .ok (.ireturn, 1) := by decide +kernel
theorem dL_within_0 : decode cL_within 0 = .ok (.iconst 0, 1) := by decide +kernel
theorem dL_within_1 : decode cL_within 1 = .ok (.istore_n 2, 1) := by decide +kernel
theorem dL_within_2 : decode cL_within 2 = .ok (.iconst 0, 1) := by decide +kernel
theorem dL_within_3 : decode cL_within 3 = .ok (.istore_n 3, 1) := by decide +kernel
theorem dL_within_4 : decode cL_within 4 = .ok (.iload_n 3, 1) := by decide +kernel
theorem dL_within_5 : decode cL_within 5 = .ok (.aload_n 0, 1) := by decide +kernel
theorem dL_within_6 : decode cL_within 6 = .ok (.bipush 30, 2) := by decide +kernel
theorem dL_within_8 : decode cL_within 8 = .ok (.iload_n 1, 1) := by decide +kernel
theorem dL_within_9 : decode cL_within 9 = .ok (.iadd, 1) := by decide +kernel
theorem dL_within_10 : decode cL_within 10 = .ok (.iaload, 1) := by decide +kernel
theorem dL_within_11 : decode cL_within 11 = .ok (.if_icmp .ge 19, 3) := by decide +kernel
theorem dL_within_14 : decode cL_within 14 = .ok (.iload_n 2, 1) := by decide +kernel
theorem dL_within_15 : decode cL_within 15 = .ok (.aload_n 0, 1) := by decide +kernel
theorem dL_within_16 : decode cL_within 16 = .ok (.iload_n 1, 1) := by decide +kernel
theorem dL_within_17 : decode cL_within 17 = .ok (.iload_n 3, 1) := by decide +kernel
theorem dL_within_18 : decode cL_within 18 = .ok (.invokestatic 102, 3) := by decide +kernel
theorem dL_within_21 : decode cL_within 21 = .ok (.iaload, 1) := by decide +kernel
theorem dL_within_22 : decode cL_within 22 = .ok (.iadd, 1) := by decide +kernel
theorem dL_within_23 : decode cL_within 23 = .ok (.istore_n 2, 1) := by decide +kernel
theorem dL_within_24 : decode cL_within 24 = .ok (.iinc 3 1, 3) := by decide +kernel
theorem dL_within_27 : decode cL_within 27 = .ok (.goto (-23), 3) := by decide +kernel
theorem dL_within_30 : decode cL_within 30 = .ok (.iload_n 2, 1) := by decide +kernel
theorem dL_within_31 : decode cL_within 31 = .ok (.ireturn, 1) := by decide +kernel
theorem dL_graded_0 : decode cL_graded 0 = .ok (.iconst 1, 1) := by decide +kernel
theorem dL_graded_1 : decode cL_graded 1 = .ok (.istore_n 3, 1) := by decide +kernel
theorem dL_graded_2 : decode cL_graded 2 = .ok (.iload_n 3, 1) := by decide +kernel
theorem dL_graded_3 : decode cL_graded 3 = .ok (.iconst 4, 1) := by decide +kernel
theorem dL_graded_4 : decode cL_graded 4 = .ok (.if_icmp .ge 44, 3) := by decide +kernel
theorem dL_graded_7 : decode cL_graded 7 = .ok (.bipush 38, 2) := by decide +kernel
theorem dL_graded_9 : decode cL_graded 9 = .ok (.bipush 6, 2) := by decide +kernel
theorem dL_graded_11 : decode cL_graded 11 = .ok (.aload_n 0, 1) := by decide +kernel
theorem dL_graded_12 : decode cL_graded 12 = .ok (.iconst 1, 1) := by decide +kernel
theorem dL_graded_13 : decode cL_graded 13 = .ok (.iaload, 1) := by decide +kernel
theorem dL_graded_14 : decode cL_graded 14 = .ok (.imul, 1) := by decide +kernel
theorem dL_graded_15 : decode cL_graded 15 = .ok (.iadd, 1) := by decide +kernel
theorem dL_graded_16 : decode cL_graded 16 = .ok (.iconst 2, 1) := by decide +kernel
theorem dL_graded_17 : decode cL_graded 17 = .ok (.iload_n 3, 1) := by decide +kernel
theorem dL_graded_18 : decode cL_graded 18 = .ok (.imul, 1) := by decide +kernel
theorem dL_graded_19 : decode cL_graded 19 = .ok (.iadd, 1) := by decide +kernel
theorem dL_graded_20 : decode cL_graded 20 = .ok (.istore 4, 2) := by decide +kernel
theorem dL_graded_22 : decode cL_graded 22 = .ok (.iload_n 1, 1) := by decide +kernel
theorem dL_graded_23 : decode cL_graded 23 = .ok (.aload_n 0, 1) := by decide +kernel
theorem dL_graded_24 : decode cL_graded 24 = .ok (.iload 4, 2) := by decide +kernel
theorem dL_graded_26 : decode cL_graded 26 = .ok (.iaload, 1) := by decide +kernel
theorem dL_graded_27 : decode cL_graded 27 = .ok (.if_icmp .gt 15, 3) := by decide +kernel
theorem dL_graded_30 : decode cL_graded 30 = .ok (.iload_n 2, 1) := by decide +kernel
theorem dL_graded_31 : decode cL_graded 31 = .ok (.aload_n 0, 1) := by decide +kernel
theorem dL_graded_32 : decode cL_graded 32 = .ok (.iload 4, 2) := by decide +kernel
theorem dL_graded_34 : decode cL_graded 34 = .ok (.iconst 1, 1) := by decide +kernel
theorem dL_graded_35 : decode cL_graded 35 = .ok (.iadd, 1) := by decide +kernel
theorem dL_graded_36 : decode cL_graded 36 = .ok (.iaload, 1) := by decide +kernel
theorem dL_graded_37 : decode cL_graded 37 = .ok (.if_icmp .gt 5, 3) := by decide +kernel
theorem dL_graded_40 : decode cL_graded 40 = .ok (.iload_n 3, 1) := by decide +kernel
theorem dL_graded_41 : decode cL_graded 41 = .ok (.ireturn, 1) := by decide +kernel
theorem dL_graded_42 : decode cL_graded 42 = .ok (.iinc 3 1, 3) := by decide +kernel
theorem dL_graded_45 : decode cL_graded 45 = .ok (.goto (-43), 3) := by decide +kernel
theorem dL_graded_48 : decode cL_graded 48 = .ok (.iconst 4, 1) := by decide +kernel
theorem dL_graded_49 : decode cL_graded 49 = .ok (.ireturn, 1) := by decide +kernel
theorem dL_come_0 : decode cL_come 0 = .ok (.aload_n 0, 1) := by decide +kernel
theorem dL_come_1 : decode cL_come 1 = .ok (.bipush 20, 2) := by decide +kernel
theorem dL_come_3 : decode cL_come 3 = .ok (.iload_n 1, 1) := by decide +kernel
theorem dL_come_4 : decode cL_come 4 = .ok (.iadd, 1) := by decide +kernel
theorem dL_come_5 : decode cL_come 5 = .ok (.iaload, 1) := by decide +kernel
theorem dL_come_6 : decode cL_come 6 = .ok (.iconst 1, 1) := by decide +kernel
theorem dL_come_7 : decode cL_come 7 = .ok (.if_icmp .ne 12, 3) := by decide +kernel
theorem dL_come_10 : decode cL_come 10 = .ok (.aload_n 0, 1) := by decide +kernel
theorem dL_come_11 : decode cL_come 11 = .ok (.bipush 30, 2) := by decide +kernel
theorem dL_come_13 : decode cL_come 13 = .ok (.iload_n 1, 1) := by decide +kernel
theorem dL_come_14 : decode cL_come 14 = .ok (.iadd, 1) := by decide +kernel
theorem dL_come_15 : decode cL_come 15 = .ok (.iaload, 1) := by decide +kernel
theorem dL_come_16 : decode cL_come 16 = .ok (.goto 4, 3) := by decide +kernel
theorem dL_come_19 : decode cL_come 19 = .ok (.iconst 0, 1) := by decide +kernel
theorem dL_come_20 : decode cL_come 20 = .ok (.istore 6, 2) := by decide +kernel
theorem dL_come_22 : decode cL_come 22 = .ok (.aload_n 0, 1) := by decide +kernel
theorem dL_come_23 : decode cL_come 23 = .ok (.bipush 30, 2) := by decide +kernel
theorem dL_come_25 : decode cL_come 25 = .ok (.iload_n 1, 1) := by decide +kernel
theorem dL_come_26 : decode cL_come 26 = .ok (.iadd, 1) := by decide +kernel
theorem dL_come_27 : decode cL_come 27 = .ok (.iaload, 1) := by decide +kernel
theorem dL_come_28 : decode cL_come 28 = .ok (.istore 7, 2) := by decide +kernel
theorem dL_come_30 : decode cL_come 30 = .ok (.iload 7, 2) := by decide +kernel
theorem dL_come_32 : decode cL_come 32 = .ok (.iload 6, 2) := by decide +kernel
theorem dL_come_34 : decode cL_come 34 = .ok (.if_icmp .le 48, 3) := by decide +kernel
theorem dL_come_37 : decode cL_come 37 = .ok (.iconst 0, 1) := by decide +kernel
theorem dL_come_38 : decode cL_come 38 = .ok (.istore 8, 2) := by decide +kernel
theorem dL_come_40 : decode cL_come 40 = .ok (.iload 8, 2) := by decide +kernel
theorem dL_come_42 : decode cL_come 42 = .ok (.iconst 4, 1) := by decide +kernel
theorem dL_come_43 : decode cL_come 43 = .ok (.if_icmp .ge 33, 3) := by decide +kernel
theorem dL_come_46 : decode cL_come 46 = .ok (.aload_n 0, 1) := by decide +kernel
theorem dL_come_47 : decode cL_come 47 = .ok (.iload_n 1, 1) := by decide +kernel
theorem dL_come_48 : decode cL_come 48 = .ok (.iload 7, 2) := by decide +kernel
theorem dL_come_50 : decode cL_come 50 = .ok (.invokestatic 102, 3) := by decide +kernel
theorem dL_come_53 : decode cL_come 53 = .ok (.iload 8, 2) := by decide +kernel
theorem dL_come_55 : decode cL_come 55 = .ok (.iadd, 1) := by decide +kernel
theorem dL_come_56 : decode cL_come 56 = .ok (.aload_n 0, 1) := by decide +kernel
theorem dL_come_57 : decode cL_come 57 = .ok (.iload_n 1, 1) := by decide +kernel
theorem dL_come_58 : decode cL_come 58 = .ok (.iload 7, 2) := by decide +kernel
theorem dL_come_60 : decode cL_come 60 = .ok (.iconst 1, 1) := by decide +kernel
theorem dL_come_61 : decode cL_come 61 = .ok (.isub, 1) := by decide +kernel
theorem dL_come_62 : decode cL_come 62 = .ok (.invokestatic 102, 3) := by decide +kernel
theorem dL_come_65 : decode cL_come 65 = .ok (.iload 8, 2) := by decide +kernel
theorem dL_come_67 : decode cL_come 67 = .ok (.iadd, 1) := by decide +kernel
theorem dL_come_68 : decode cL_come 68 = .ok (.iaload, 1) := by decide +kernel
theorem dL_come_69 : decode cL_come 69 = .ok (.iastore, 1) := by decide +kernel
theorem dL_come_70 : decode cL_come 70 = .ok (.iinc 8 1, 3) := by decide +kernel
theorem dL_come_73 : decode cL_come 73 = .ok (.goto (-33), 3) := by decide +kernel
theorem dL_come_76 : decode cL_come 76 = .ok (.iinc 7 (-1), 3) := by decide +kernel
theorem dL_come_79 : decode cL_come 79 = .ok (.goto (-49), 3) := by decide +kernel
theorem dL_come_82 : decode cL_come 82 = .ok (.aload_n 0, 1) := by decide +kernel
theorem dL_come_83 : decode cL_come 83 = .ok (.iload_n 1, 1) := by decide +kernel
theorem dL_come_84 : decode cL_come 84 = .ok (.iload 6, 2) := by decide +kernel
theorem dL_come_86 : decode cL_come 86 = .ok (.invokestatic 102, 3) := by decide +kernel
theorem dL_come_89 : decode cL_come 89 = .ok (.iload_n 2, 1) := by decide +kernel
theorem dL_come_90 : decode cL_come 90 = .ok (.iastore, 1) := by decide +kernel
theorem dL_come_91 : decode cL_come 91 = .ok (.aload_n 0, 1) := by decide +kernel
theorem dL_come_92 : decode cL_come 92 = .ok (.iload_n 1, 1) := by decide +kernel
theorem dL_come_93 : decode cL_come 93 = .ok (.iload 6, 2) := by decide +kernel
theorem dL_come_95 : decode cL_come 95 = .ok (.invokestatic 102, 3) := by decide +kernel
theorem dL_come_98 : decode cL_come 98 = .ok (.iconst 1, 1) := by decide +kernel
theorem dL_come_99 : decode cL_come 99 = .ok (.iadd, 1) := by decide +kernel
theorem dL_come_100 : decode cL_come 100 = .ok (.iload_n 3, 1) := by decide +kernel
theorem dL_come_101 : decode cL_come 101 = .ok (.iastore, 1) := by decide +kernel
theorem dL_come_102 : decode cL_come 102 = .ok (.aload_n 0, 1) := by decide +kernel
theorem dL_come_103 : decode cL_come 103 = .ok (.iload_n 1, 1) := by decide +kernel
theorem dL_come_104 : decode cL_come 104 = .ok (.iload 6, 2) := by decide +kernel
theorem dL_come_106 : decode cL_come 106 = .ok (.invokestatic 102, 3) := by decide +kernel
theorem dL_come_109 : decode cL_come 109 = .ok (.iconst 2, 1) := by decide +kernel
theorem dL_come_110 : decode cL_come 110 = .ok (.iadd, 1) := by decide +kernel
theorem dL_come_111 : decode cL_come 111 = .ok (.iload 4, 2) := by decide +kernel
theorem dL_come_113 : decode cL_come 113 = .ok (.iastore, 1) := by decide +kernel
theorem dL_come_114 : decode cL_come 114 = .ok (.aload_n 0, 1) := by decide +kernel
theorem dL_come_115 : decode cL_come 115 = .ok (.iload_n 1, 1) := by decide +kernel
theorem dL_come_116 : decode cL_come 116 = .ok (.iload 6, 2) := by decide +kernel
theorem dL_come_118 : decode cL_come 118 = .ok (.invokestatic 102, 3) := by decide +kernel
theorem dL_come_121 : decode cL_come 121 = .ok (.iconst 3, 1) := by decide +kernel
theorem dL_come_122 : decode cL_come 122 = .ok (.iadd, 1) := by decide +kernel
theorem dL_come_123 : decode cL_come 123 = .ok (.iload 5, 2) := by decide +kernel
theorem dL_come_125 : decode cL_come 125 = .ok (.iastore, 1) := by decide +kernel
theorem dL_come_126 : decode cL_come 126 = .ok (.aload_n 0, 1) := by decide +kernel
theorem dL_come_127 : decode cL_come 127 = .ok (.bipush 30, 2) := by decide +kernel
theorem dL_come_129 : decode cL_come 129 = .ok (.iload_n 1, 1) := by decide +kernel
theorem dL_come_130 : decode cL_come 130 = .ok (.iadd, 1) := by decide +kernel
theorem dL_come_131 : decode cL_come 131 = .ok (.dup2, 1) := by decide +kernel
theorem dL_come_132 : decode cL_come 132 = .ok (.iaload, 1) := by decide +kernel
theorem dL_come_133 : decode cL_come 133 = .ok (.iconst 1, 1) := by decide +kernel
theorem dL_come_134 : decode cL_come 134 = .ok (.iadd, 1) := by decide +kernel
theorem dL_come_135 : decode cL_come 135 = .ok (.iastore, 1) := by decide +kernel
theorem dL_come_136 : decode cL_come 136 = .ok (.return_, 1) := by decide +kernel
theorem dL_dropFirst_0 : decode cL_dropFirst 0 = .ok (.aload_n 0, 1) := by decide +kernel
theorem dL_dropFirst_1 : decode cL_dropFirst 1 = .ok (.bipush 30, 2) := by decide +kernel
theorem dL_dropFirst_3 : decode cL_dropFirst 3 = .ok (.iload_n 1, 1) := by decide +kernel
theorem dL_dropFirst_4 : decode cL_dropFirst 4 = .ok (.iadd, 1) := by decide +kernel
theorem dL_dropFirst_5 : decode cL_dropFirst 5 = .ok (.dup2, 1) := by decide +kernel
theorem dL_dropFirst_6 : decode cL_dropFirst 6 = .ok (.iaload, 1) := by decide +kernel
theorem dL_dropFirst_7 : decode cL_dropFirst 7 = .ok (.iconst 1, 1) := by decide +kernel
theorem dL_dropFirst_8 : decode cL_dropFirst 8 = .ok (.isub, 1) := by decide +kernel
theorem dL_dropFirst_9 : decode cL_dropFirst 9 = .ok (.iastore, 1) := by decide +kernel
theorem dL_dropFirst_10 : decode cL_dropFirst 10 = .ok (.iload_n 1, 1) := by decide +kernel
theorem dL_dropFirst_11 : decode cL_dropFirst 11 = .ok (.iload_n 2, 1) := by decide +kernel
theorem dL_dropFirst_12 : decode cL_dropFirst 12 = .ok (.invokestatic 102, 3) := by decide +kernel
theorem dL_dropFirst_15 : decode cL_dropFirst 15 = .ok (.istore_n 3, 1) := by decide +kernel
theorem dL_dropFirst_16 : decode cL_dropFirst 16 = .ok (.iload_n 3, 1) := by decide +kernel
theorem dL_dropFirst_17 : decode cL_dropFirst 17 = .ok (.iload_n 1, 1) := by decide +kernel
theorem dL_dropFirst_18 : decode cL_dropFirst 18 = .ok (.aload_n 0, 1) := by decide +kernel
theorem dL_dropFirst_19 : decode cL_dropFirst 19 = .ok (.bipush 30, 2) := by decide +kernel
theorem dL_dropFirst_21 : decode cL_dropFirst 21 = .ok (.iload_n 1, 1) := by decide +kernel
theorem dL_dropFirst_22 : decode cL_dropFirst 22 = .ok (.iadd, 1) := by decide +kernel
theorem dL_dropFirst_23 : decode cL_dropFirst 23 = .ok (.iaload, 1) := by decide +kernel
theorem dL_dropFirst_24 : decode cL_dropFirst 24 = .ok (.invokestatic 102, 3) := by decide +kernel
theorem dL_dropFirst_27 : decode cL_dropFirst 27 = .ok (.if_icmp .ge 17, 3) := by decide +kernel
theorem dL_dropFirst_30 : decode cL_dropFirst 30 = .ok (.aload_n 0, 1) := by decide +kernel
theorem dL_dropFirst_31 : decode cL_dropFirst 31 = .ok (.iload_n 3, 1) := by decide +kernel
theorem dL_dropFirst_32 : decode cL_dropFirst 32 = .ok (.aload_n 0, 1) := by decide +kernel
theorem dL_dropFirst_33 : decode cL_dropFirst 33 = .ok (.iload_n 3, 1) := by decide +kernel
theorem dL_dropFirst_34 : decode cL_dropFirst 34 = .ok (.iconst 4, 1) := by decide +kernel
theorem dL_dropFirst_35 : decode cL_dropFirst 35 = .ok (.iadd, 1) := by decide +kernel
theorem dL_dropFirst_36 : decode cL_dropFirst 36 = .ok (.iaload, 1) := by decide +kernel
theorem dL_dropFirst_37 : decode cL_dropFirst 37 = .ok (.iastore, 1) := by decide +kernel
theorem dL_dropFirst_38 : decode cL_dropFirst 38 = .ok (.iinc 3 1, 3) := by decide +kernel
theorem dL_dropFirst_41 : decode cL_dropFirst 41 = .ok (.goto (-25), 3) := by decide +kernel
theorem dL_dropFirst_44 : decode cL_dropFirst 44 = .ok (.return_, 1) := by decide +kernel
theorem dL_out_0 : decode cL_out 0 = .ok (.iconst 3, 1) := by decide +kernel
theorem dL_out_1 : decode cL_out 1 = .ok (.newarray .int, 2) := by decide +kernel
theorem dL_out_3 : decode cL_out 3 = .ok (.astore 4, 2) := by decide +kernel
theorem dL_out_5 : decode cL_out 5 = .ok (.iload_n 2, 1) := by decide +kernel
theorem dL_out_6 : decode cL_out 6 = .ok (.istore 5, 2) := by decide +kernel
theorem dL_out_8 : decode cL_out 8 = .ok (.iload 5, 2) := by decide +kernel
theorem dL_out_10 : decode cL_out 10 = .ok (.ifCond .le 144, 3) := by decide +kernel
theorem dL_out_13 : decode cL_out 13 = .ok (.iload_n 1, 1) := by decide +kernel
theorem dL_out_14 : decode cL_out 14 = .ok (.iconst 0, 1) := by decide +kernel
theorem dL_out_15 : decode cL_out 15 = .ok (.invokestatic 102, 3) := by decide +kernel
theorem dL_out_18 : decode cL_out 18 = .ok (.istore 6, 2) := by decide +kernel
theorem dL_out_20 : decode cL_out 20 = .ok (.iload 5, 2) := by decide +kernel
theorem dL_out_22 : decode cL_out 22 = .ok (.aload_n 0, 1) := by decide +kernel
theorem dL_out_23 : decode cL_out 23 = .ok (.iload 6, 2) := by decide +kernel
theorem dL_out_25 : decode cL_out 25 = .ok (.iaload, 1) := by decide +kernel
theorem dL_out_26 : decode cL_out 26 = .ok (.if_icmp .ge 8, 3) := by decide +kernel
theorem dL_out_29 : decode cL_out 29 = .ok (.iload 5, 2) := by decide +kernel
theorem dL_out_31 : decode cL_out 31 = .ok (.goto 7, 3) := by decide +kernel
theorem dL_out_34 : decode cL_out 34 = .ok (.aload_n 0, 1) := by decide +kernel
theorem dL_out_35 : decode cL_out 35 = .ok (.iload 6, 2) := by decide +kernel
theorem dL_out_37 : decode cL_out 37 = .ok (.iaload, 1) := by decide +kernel
theorem dL_out_38 : decode cL_out 38 = .ok (.istore 7, 2) := by decide +kernel
theorem dL_out_40 : decode cL_out 40 = .ok (.aload 4, 2) := by decide +kernel
theorem dL_out_42 : decode cL_out 42 = .ok (.iconst 0, 1) := by decide +kernel
theorem dL_out_43 : decode cL_out 43 = .ok (.dup2, 1) := by decide +kernel
theorem dL_out_44 : decode cL_out 44 = .ok (.iaload, 1) := by decide +kernel
theorem dL_out_45 : decode cL_out 45 = .ok (.iload 7, 2) := by decide +kernel
theorem dL_out_47 : decode cL_out 47 = .ok (.aload_n 0, 1) := by decide +kernel
theorem dL_out_48 : decode cL_out 48 = .ok (.bipush 70, 2) := by decide +kernel
theorem dL_out_50 : decode cL_out 50 = .ok (.aload_n 0, 1) := by decide +kernel
theorem dL_out_51 : decode cL_out 51 = .ok (.iload 6, 2) := by decide +kernel
theorem dL_out_53 : decode cL_out 53 = .ok (.iconst 3, 1) := by decide +kernel
theorem dL_out_54 : decode cL_out 54 = .ok (.iadd, 1) := by decide +kernel
theorem dL_out_55 : decode cL_out 55 = .ok (.iaload, 1) := by decide +kernel
theorem dL_out_56 : decode cL_out 56 = .ok (.iadd, 1) := by decide +kernel
theorem dL_out_57 : decode cL_out 57 = .ok (.iaload, 1) := by decide +kernel
theorem dL_out_58 : decode cL_out 58 = .ok (.imul, 1) := by decide +kernel
theorem dL_out_59 : decode cL_out 59 = .ok (.iadd, 1) := by decide +kernel
theorem dL_out_60 : decode cL_out 60 = .ok (.iastore, 1) := by decide +kernel
theorem dL_out_61 : decode cL_out 61 = .ok (.aload 4, 2) := by decide +kernel
theorem dL_out_63 : decode cL_out 63 = .ok (.iconst 1, 1) := by decide +kernel
theorem dL_out_64 : decode cL_out 64 = .ok (.dup2, 1) := by decide +kernel
theorem dL_out_65 : decode cL_out 65 = .ok (.iaload, 1) := by decide +kernel
theorem dL_out_66 : decode cL_out 66 = .ok (.iload 7, 2) := by decide +kernel
theorem dL_out_68 : decode cL_out 68 = .ok (.aload_n 0, 1) := by decide +kernel
theorem dL_out_69 : decode cL_out 69 = .ok (.iload 6, 2) := by decide +kernel
theorem dL_out_71 : decode cL_out 71 = .ok (.iconst 1, 1) := by decide +kernel
theorem dL_out_72 : decode cL_out 72 = .ok (.iadd, 1) := by decide +kernel
theorem dL_out_73 : decode cL_out 73 = .ok (.iaload, 1) := by decide +kernel
theorem dL_out_74 : decode cL_out 74 = .ok (.imul, 1) := by decide +kernel
theorem dL_out_75 : decode cL_out 75 = .ok (.iadd, 1) := by decide +kernel
theorem dL_out_76 : decode cL_out 76 = .ok (.iastore, 1) := by decide +kernel
theorem dL_out_77 : decode cL_out 77 = .ok (.aload 4, 2) := by decide +kernel
theorem dL_out_79 : decode cL_out 79 = .ok (.iconst 2, 1) := by decide +kernel
theorem dL_out_80 : decode cL_out 80 = .ok (.dup2, 1) := by decide +kernel
theorem dL_out_81 : decode cL_out 81 = .ok (.iaload, 1) := by decide +kernel
theorem dL_out_82 : decode cL_out 82 = .ok (.iload 7, 2) := by decide +kernel
theorem dL_out_84 : decode cL_out 84 = .ok (.aload_n 0, 1) := by decide +kernel
theorem dL_out_85 : decode cL_out 85 = .ok (.iload 6, 2) := by decide +kernel
theorem dL_out_87 : decode cL_out 87 = .ok (.iconst 2, 1) := by decide +kernel
theorem dL_out_88 : decode cL_out 88 = .ok (.iadd, 1) := by decide +kernel
theorem dL_out_89 : decode cL_out 89 = .ok (.iaload, 1) := by decide +kernel
theorem dL_out_90 : decode cL_out 90 = .ok (.imul, 1) := by decide +kernel
theorem dL_out_91 : decode cL_out 91 = .ok (.iadd, 1) := by decide +kernel
theorem dL_out_92 : decode cL_out 92 = .ok (.iastore, 1) := by decide +kernel
theorem dL_out_93 : decode cL_out 93 = .ok (.iload_n 3, 1) := by decide +kernel
theorem dL_out_94 : decode cL_out 94 = .ok (.ifCond .lt 28, 3) := by decide +kernel
theorem dL_out_97 : decode cL_out 97 = .ok (.aload_n 0, 1) := by decide +kernel
theorem dL_out_98 : decode cL_out 98 = .ok (.iload_n 3, 1) := by decide +kernel
theorem dL_out_99 : decode cL_out 99 = .ok (.iload 7, 2) := by decide +kernel
theorem dL_out_101 : decode cL_out 101 = .ok (.aload_n 0, 1) := by decide +kernel
theorem dL_out_102 : decode cL_out 102 = .ok (.iload 6, 2) := by decide +kernel
theorem dL_out_104 : decode cL_out 104 = .ok (.iconst 1, 1) := by decide +kernel
theorem dL_out_105 : decode cL_out 105 = .ok (.iadd, 1) := by decide +kernel
theorem dL_out_106 : decode cL_out 106 = .ok (.iaload, 1) := by decide +kernel
theorem dL_out_107 : decode cL_out 107 = .ok (.aload_n 0, 1) := by decide +kernel
theorem dL_out_108 : decode cL_out 108 = .ok (.iload 6, 2) := by decide +kernel
theorem dL_out_110 : decode cL_out 110 = .ok (.iconst 2, 1) := by decide +kernel
theorem dL_out_111 : decode cL_out 111 = .ok (.iadd, 1) := by decide +kernel
theorem dL_out_112 : decode cL_out 112 = .ok (.iaload, 1) := by decide +kernel
theorem dL_out_113 : decode cL_out 113 = .ok (.aload_n 0, 1) := by decide +kernel
theorem dL_out_114 : decode cL_out 114 = .ok (.iload 6, 2) := by decide +kernel
theorem dL_out_116 : decode cL_out 116 = .ok (.iconst 3, 1) := by decide +kernel
theorem dL_out_117 : decode cL_out 117 = .ok (.iadd, 1) := by decide +kernel
theorem dL_out_118 : decode cL_out 118 = .ok (.iaload, 1) := by decide +kernel
theorem dL_out_119 : decode cL_out 119 = .ok (.invokestatic 105, 3) := by decide +kernel
theorem dL_out_122 : decode cL_out 122 = .ok (.aload_n 0, 1) := by decide +kernel
theorem dL_out_123 : decode cL_out 123 = .ok (.iload 6, 2) := by decide +kernel
theorem dL_out_125 : decode cL_out 125 = .ok (.dup2, 1) := by decide +kernel
theorem dL_out_126 : decode cL_out 126 = .ok (.iaload, 1) := by decide +kernel
theorem dL_out_127 : decode cL_out 127 = .ok (.iload 7, 2) := by decide +kernel
theorem dL_out_129 : decode cL_out 129 = .ok (.isub, 1) := by decide +kernel
theorem dL_out_130 : decode cL_out 130 = .ok (.iastore, 1) := by decide +kernel
theorem dL_out_131 : decode cL_out 131 = .ok (.iload 5, 2) := by decide +kernel
theorem dL_out_133 : decode cL_out 133 = .ok (.iload 7, 2) := by decide +kernel
theorem dL_out_135 : decode cL_out 135 = .ok (.isub, 1) := by decide +kernel
theorem dL_out_136 : decode cL_out 136 = .ok (.istore 5, 2) := by decide +kernel
theorem dL_out_138 : decode cL_out 138 = .ok (.aload_n 0, 1) := by decide +kernel
theorem dL_out_139 : decode cL_out 139 = .ok (.iload 6, 2) := by decide +kernel
theorem dL_out_141 : decode cL_out 141 = .ok (.iaload, 1) := by decide +kernel
theorem dL_out_142 : decode cL_out 142 = .ok (.ifCond .ne 9, 3) := by decide +kernel
theorem dL_out_145 : decode cL_out 145 = .ok (.aload_n 0, 1) := by decide +kernel
theorem dL_out_146 : decode cL_out 146 = .ok (.iload_n 1, 1) := by decide +kernel
theorem dL_out_147 : decode cL_out 147 = .ok (.iconst 0, 1) := by decide +kernel
theorem dL_out_148 : decode cL_out 148 = .ok (.invokestatic 109, 3) := by decide +kernel
theorem dL_out_151 : decode cL_out 151 = .ok (.goto (-143), 3) := by decide +kernel
theorem dL_out_154 : decode cL_out 154 = .ok (.aload 4, 2) := by decide +kernel
theorem dL_out_156 : decode cL_out 156 = .ok (.areturn, 1) := by decide +kernel
theorem dL_all_0 : decode cL_all 0 = .ok (.iconst 0, 1) := by decide +kernel
theorem dL_all_1 : decode cL_all 1 = .ok (.istore_n 1, 1) := by decide +kernel
theorem dL_all_2 : decode cL_all 2 = .ok (.iconst 0, 1) := by decide +kernel
theorem dL_all_3 : decode cL_all 3 = .ok (.istore_n 2, 1) := by decide +kernel
theorem dL_all_4 : decode cL_all 4 = .ok (.iload_n 2, 1) := by decide +kernel
theorem dL_all_5 : decode cL_all 5 = .ok (.aload_n 0, 1) := by decide +kernel
theorem dL_all_6 : decode cL_all 6 = .ok (.iconst 0, 1) := by decide +kernel
theorem dL_all_7 : decode cL_all 7 = .ok (.iaload, 1) := by decide +kernel
theorem dL_all_8 : decode cL_all 8 = .ok (.if_icmp .ge 17, 3) := by decide +kernel
theorem dL_all_11 : decode cL_all 11 = .ok (.iload_n 1, 1) := by decide +kernel
theorem dL_all_12 : decode cL_all 12 = .ok (.aload_n 0, 1) := by decide +kernel
theorem dL_all_13 : decode cL_all 13 = .ok (.iload_n 2, 1) := by decide +kernel
theorem dL_all_14 : decode cL_all 14 = .ok (.invokestatic 113, 3) := by decide +kernel
theorem dL_all_17 : decode cL_all 17 = .ok (.iadd, 1) := by decide +kernel
theorem dL_all_18 : decode cL_all 18 = .ok (.istore_n 1, 1) := by decide +kernel
theorem dL_all_19 : decode cL_all 19 = .ok (.iinc 2 1, 3) := by decide +kernel
theorem dL_all_22 : decode cL_all 22 = .ok (.goto (-18), 3) := by decide +kernel
theorem dL_all_25 : decode cL_all 25 = .ok (.iload_n 1, 1) := by decide +kernel
theorem dL_all_26 : decode cL_all 26 = .ok (.ireturn, 1) := by decide +kernel
theorem dL_note_0 : decode cL_note 0 = .ok (.aload_n 0, 1) := by decide +kernel
theorem dL_note_1 : decode cL_note 1 = .ok (.bipush 80, 2) := by decide +kernel
theorem dL_note_3 : decode cL_note 3 = .ok (.aload_n 0, 1) := by decide +kernel
theorem dL_note_4 : decode cL_note 4 = .ok (.iconst 2, 1) := by decide +kernel
theorem dL_note_5 : decode cL_note 5 = .ok (.iaload, 1) := by decide +kernel
theorem dL_note_6 : decode cL_note 6 = .ok (.iadd, 1) := by decide +kernel
theorem dL_note_7 : decode cL_note 7 = .ok (.iload_n 1, 1) := by decide +kernel
theorem dL_note_8 : decode cL_note 8 = .ok (.iastore, 1) := by decide +kernel
theorem dL_note_9 : decode cL_note 9 = .ok (.aload_n 0, 1) := by decide +kernel
theorem dL_note_10 : decode cL_note 10 = .ok (.iconst 2, 1) := by decide +kernel
theorem dL_note_11 : decode cL_note 11 = .ok (.dup2, 1) := by decide +kernel
theorem dL_note_12 : decode cL_note 12 = .ok (.iaload, 1) := by decide +kernel
theorem dL_note_13 : decode cL_note 13 = .ok (.iconst 1, 1) := by decide +kernel
theorem dL_note_14 : decode cL_note 14 = .ok (.iadd, 1) := by decide +kernel
theorem dL_note_15 : decode cL_note 15 = .ok (.iastore, 1) := by decide +kernel
theorem dL_note_16 : decode cL_note 16 = .ok (.aload_n 0, 1) := by decide +kernel
theorem dL_note_17 : decode cL_note 17 = .ok (.invokestatic 116, 3) := by decide +kernel
theorem dL_note_20 : decode cL_note 20 = .ok (.aload_n 0, 1) := by decide +kernel
theorem dL_note_21 : decode cL_note 21 = .ok (.iconst 5, 1) := by decide +kernel
theorem dL_note_22 : decode cL_note 22 = .ok (.iaload, 1) := by decide +kernel
theorem dL_note_23 : decode cL_note 23 = .ok (.isub, 1) := by decide +kernel
theorem dL_note_24 : decode cL_note 24 = .ok (.istore_n 2, 1) := by decide +kernel
theorem dL_note_25 : decode cL_note 25 = .ok (.iload_n 2, 1) := by decide +kernel
theorem dL_note_26 : decode cL_note 26 = .ok (.ifCond .eq 27, 3) := by decide +kernel
theorem dL_note_29 : decode cL_note 29 = .ok (.aload_n 0, 1) := by decide +kernel
theorem dL_note_30 : decode cL_note 30 = .ok (.sipush 170, 3) := by decide +kernel
theorem dL_note_33 : decode cL_note 33 = .ok (.aload_n 0, 1) := by decide +kernel
theorem dL_note_34 : decode cL_note 34 = .ok (.iconst 3, 1) := by decide +kernel
theorem dL_note_35 : decode cL_note 35 = .ok (.iaload, 1) := by decide +kernel
theorem dL_note_36 : decode cL_note 36 = .ok (.iadd, 1) := by decide +kernel
theorem dL_note_37 : decode cL_note 37 = .ok (.iload_n 2, 1) := by decide +kernel
theorem dL_note_38 : decode cL_note 38 = .ok (.iastore, 1) := by decide +kernel
theorem dL_note_39 : decode cL_note 39 = .ok (.aload_n 0, 1) := by decide +kernel
theorem dL_note_40 : decode cL_note 40 = .ok (.iconst 3, 1) := by decide +kernel
theorem dL_note_41 : decode cL_note 41 = .ok (.dup2, 1) := by decide +kernel
theorem dL_note_42 : decode cL_note 42 = .ok (.iaload, 1) := by decide +kernel
theorem dL_note_43 : decode cL_note 43 = .ok (.iconst 1, 1) := by decide +kernel
theorem dL_note_44 : decode cL_note 44 = .ok (.iadd, 1) := by decide +kernel
theorem dL_note_45 : decode cL_note 45 = .ok (.iastore, 1) := by decide +kernel
theorem dL_note_46 : decode cL_note 46 = .ok (.aload_n 0, 1) := by decide +kernel
theorem dL_note_47 : decode cL_note 47 = .ok (.iconst 5, 1) := by decide +kernel
theorem dL_note_48 : decode cL_note 48 = .ok (.dup2, 1) := by decide +kernel
theorem dL_note_49 : decode cL_note 49 = .ok (.iaload, 1) := by decide +kernel
theorem dL_note_50 : decode cL_note 50 = .ok (.iload_n 2, 1) := by decide +kernel
theorem dL_note_51 : decode cL_note 51 = .ok (.iadd, 1) := by decide +kernel
theorem dL_note_52 : decode cL_note 52 = .ok (.iastore, 1) := by decide +kernel
theorem dL_note_53 : decode cL_note 53 = .ok (.return_, 1) := by decide +kernel
theorem dL_copied_0 : decode cL_copied 0 = .ok (.aload_n 0, 1) := by decide +kernel
theorem dL_copied_1 : decode cL_copied 1 = .ok (.arraylength, 1) := by decide +kernel
theorem dL_copied_2 : decode cL_copied 2 = .ok (.newarray .int, 2) := by decide +kernel
theorem dL_copied_4 : decode cL_copied 4 = .ok (.astore_n 1, 1) := by decide +kernel
theorem dL_copied_5 : decode cL_copied 5 = .ok (.iconst 0, 1) := by decide +kernel
theorem dL_copied_6 : decode cL_copied 6 = .ok (.istore_n 2, 1) := by decide +kernel
theorem dL_copied_7 : decode cL_copied 7 = .ok (.iload_n 2, 1) := by decide +kernel
theorem dL_copied_8 : decode cL_copied 8 = .ok (.aload_n 1, 1) := by decide +kernel
theorem dL_copied_9 : decode cL_copied 9 = .ok (.arraylength, 1) := by decide +kernel
theorem dL_copied_10 : decode cL_copied 10 = .ok (.if_icmp .ge 15, 3) := by decide +kernel
theorem dL_copied_13 : decode cL_copied 13 = .ok (.aload_n 1, 1) := by decide +kernel
theorem dL_copied_14 : decode cL_copied 14 = .ok (.iload_n 2, 1) := by decide +kernel
theorem dL_copied_15 : decode cL_copied 15 = .ok (.aload_n 0, 1) := by decide +kernel
theorem dL_copied_16 : decode cL_copied 16 = .ok (.iload_n 2, 1) := by decide +kernel
theorem dL_copied_17 : decode cL_copied 17 = .ok (.iaload, 1) := by decide +kernel
theorem dL_copied_18 : decode cL_copied 18 = .ok (.iastore, 1) := by decide +kernel
theorem dL_copied_19 : decode cL_copied 19 = .ok (.iinc 2 1, 3) := by decide +kernel
theorem dL_copied_22 : decode cL_copied 22 = .ok (.goto (-15), 3) := by decide +kernel
theorem dL_copied_25 : decode cL_copied 25 = .ok (.aload_n 1, 1) := by decide +kernel
theorem dL_copied_26 : decode cL_copied 26 = .ok (.areturn, 1) := by decide +kernel
theorem dL_cost_0 : decode cL_cost 0 = .ok (.iload_n 3, 1) := by decide +kernel
theorem dL_cost_1 : decode cL_cost 1 = .ok (.aload_n 0, 1) := by decide +kernel
theorem dL_cost_2 : decode cL_cost 2 = .ok (.iload_n 1, 1) := by decide +kernel
theorem dL_cost_3 : decode cL_cost 3 = .ok (.invokestatic 113, 3) := by decide +kernel
theorem dL_cost_6 : decode cL_cost 6 = .ok (.if_icmp .gt 15, 3) := by decide +kernel
theorem dL_cost_9 : decode cL_cost 9 = .ok (.iload 4, 2) := by decide +kernel
theorem dL_cost_11 : decode cL_cost 11 = .ok (.iload_n 3, 1) := by decide +kernel
theorem dL_cost_12 : decode cL_cost 12 = .ok (.isub, 1) := by decide +kernel
theorem dL_cost_13 : decode cL_cost 13 = .ok (.aload_n 0, 1) := by decide +kernel
theorem dL_cost_14 : decode cL_cost 14 = .ok (.iload_n 2, 1) := by decide +kernel
theorem dL_cost_15 : decode cL_cost 15 = .ok (.invokestatic 113, 3) := by decide +kernel
theorem dL_cost_18 : decode cL_cost 18 = .ok (.if_icmp .le 5, 3) := by decide +kernel
theorem dL_cost_21 : decode cL_cost 21 = .ok (.iconst (-1), 1) := by decide +kernel
theorem dL_cost_22 : decode cL_cost 22 = .ok (.ireturn, 1) := by decide +kernel
theorem dL_cost_23 : decode cL_cost 23 = .ok (.aload_n 0, 1) := by decide +kernel
theorem dL_cost_24 : decode cL_cost 24 = .ok (.invokestatic 120, 3) := by decide +kernel
theorem dL_cost_27 : decode cL_cost 27 = .ok (.astore 6, 2) := by decide +kernel
theorem dL_cost_29 : decode cL_cost 29 = .ok (.aload 6, 2) := by decide +kernel
theorem dL_cost_31 : decode cL_cost 31 = .ok (.iload_n 1, 1) := by decide +kernel
theorem dL_cost_32 : decode cL_cost 32 = .ok (.iload_n 3, 1) := by decide +kernel
theorem dL_cost_33 : decode cL_cost 33 = .ok (.iconst (-1), 1) := by decide +kernel
theorem dL_cost_34 : decode cL_cost 34 = .ok (.invokestatic 124, 3) := by decide +kernel
theorem dL_cost_37 : decode cL_cost 37 = .ok (.astore 7, 2) := by decide +kernel
theorem dL_cost_39 : decode cL_cost 39 = .ok (.aload 6, 2) := by decide +kernel
theorem dL_cost_41 : decode cL_cost 41 = .ok (.iload_n 2, 1) := by decide +kernel
theorem dL_cost_42 : decode cL_cost 42 = .ok (.iload 4, 2) := by decide +kernel
theorem dL_cost_44 : decode cL_cost 44 = .ok (.iload_n 3, 1) := by decide +kernel
theorem dL_cost_45 : decode cL_cost 45 = .ok (.isub, 1) := by decide +kernel
theorem dL_cost_46 : decode cL_cost 46 = .ok (.iconst (-1), 1) := by decide +kernel
theorem dL_cost_47 : decode cL_cost 47 = .ok (.invokestatic 124, 3) := by decide +kernel
theorem dL_cost_50 : decode cL_cost 50 = .ok (.astore 8, 2) := by decide +kernel
theorem dL_cost_52 : decode cL_cost 52 = .ok (.aload 7, 2) := by decide +kernel
theorem dL_cost_54 : decode cL_cost 54 = .ok (.iconst 1, 1) := by decide +kernel
theorem dL_cost_55 : decode cL_cost 55 = .ok (.iaload, 1) := by decide +kernel
theorem dL_cost_56 : decode cL_cost 56 = .ok (.aload 8, 2) := by decide +kernel
theorem dL_cost_58 : decode cL_cost 58 = .ok (.iconst 1, 1) := by decide +kernel
theorem dL_cost_59 : decode cL_cost 59 = .ok (.iaload, 1) := by decide +kernel
theorem dL_cost_60 : decode cL_cost 60 = .ok (.iadd, 1) := by decide +kernel
theorem dL_cost_61 : decode cL_cost 61 = .ok (.iload 5, 2) := by decide +kernel
theorem dL_cost_63 : decode cL_cost 63 = .ok (.iload 4, 2) := by decide +kernel
theorem dL_cost_65 : decode cL_cost 65 = .ok (.imul, 1) := by decide +kernel
theorem dL_cost_66 : decode cL_cost 66 = .ok (.if_icmp .le 7, 3) := by decide +kernel
theorem dL_cost_69 : decode cL_cost 69 = .ok (.iconst (-1), 1) := by decide +kernel
theorem dL_cost_70 : decode cL_cost 70 = .ok (.goto 12, 3) := by decide +kernel
theorem dL_cost_73 : decode cL_cost 73 = .ok (.aload 7, 2) := by decide +kernel
theorem dL_cost_75 : decode cL_cost 75 = .ok (.iconst 0, 1) := by decide +kernel
theorem dL_cost_76 : decode cL_cost 76 = .ok (.iaload, 1) := by decide +kernel
theorem dL_cost_77 : decode cL_cost 77 = .ok (.aload 8, 2) := by decide +kernel
theorem dL_cost_79 : decode cL_cost 79 = .ok (.iconst 0, 1) := by decide +kernel
theorem dL_cost_80 : decode cL_cost 80 = .ok (.iaload, 1) := by decide +kernel
theorem dL_cost_81 : decode cL_cost 81 = .ok (.iadd, 1) := by decide +kernel
theorem dL_cost_82 : decode cL_cost 82 = .ok (.ireturn, 1) := by decide +kernel
theorem dL_share_0 : decode cL_share 0 = .ok (.iconst (-1), 1) := by decide +kernel
theorem dL_share_1 : decode cL_share 1 = .ok (.istore 5, 2) := by decide +kernel
theorem dL_share_3 : decode cL_share 3 = .ok (.iconst 0, 1) := by decide +kernel
theorem dL_share_4 : decode cL_share 4 = .ok (.istore 6, 2) := by decide +kernel
theorem dL_share_6 : decode cL_share 6 = .ok (.iconst 0, 1) := by decide +kernel
theorem dL_share_7 : decode cL_share 7 = .ok (.istore 7, 2) := by decide +kernel
theorem dL_share_9 : decode cL_share 9 = .ok (.iload 7, 2) := by decide +kernel
theorem dL_share_11 : decode cL_share 11 = .ok (.iload_n 3, 1) := by decide +kernel
theorem dL_share_12 : decode cL_share 12 = .ok (.if_icmp .gt 47, 3) := by decide +kernel
theorem dL_share_15 : decode cL_share 15 = .ok (.aload_n 0, 1) := by decide +kernel
theorem dL_share_16 : decode cL_share 16 = .ok (.iload_n 1, 1) := by decide +kernel
theorem dL_share_17 : decode cL_share 17 = .ok (.iload_n 2, 1) := by decide +kernel
theorem dL_share_18 : decode cL_share 18 = .ok (.iload 7, 2) := by decide +kernel
theorem dL_share_20 : decode cL_share 20 = .ok (.iload_n 3, 1) := by decide +kernel
theorem dL_share_21 : decode cL_share 21 = .ok (.iload 4, 2) := by decide +kernel
theorem dL_share_23 : decode cL_share 23 = .ok (.invokestatic 128, 3) := by decide +kernel
theorem dL_share_26 : decode cL_share 26 = .ok (.istore 8, 2) := by decide +kernel
theorem dL_share_28 : decode cL_share 28 = .ok (.iload 8, 2) := by decide +kernel
theorem dL_share_30 : decode cL_share 30 = .ok (.ifCond .lt 23, 3) := by decide +kernel
theorem dL_share_33 : decode cL_share 33 = .ok (.iload 5, 2) := by decide +kernel
theorem dL_share_35 : decode cL_share 35 = .ok (.ifCond .lt 10, 3) := by decide +kernel
theorem dL_share_38 : decode cL_share 38 = .ok (.iload 8, 2) := by decide +kernel
theorem dL_share_40 : decode cL_share 40 = .ok (.iload 6, 2) := by decide +kernel
theorem dL_share_42 : decode cL_share 42 = .ok (.if_icmp .ge 11, 3) := by decide +kernel
theorem dL_share_45 : decode cL_share 45 = .ok (.iload 7, 2) := by decide +kernel
theorem dL_share_47 : decode cL_share 47 = .ok (.istore 5, 2) := by decide +kernel
theorem dL_share_49 : decode cL_share 49 = .ok (.iload 8, 2) := by decide +kernel
theorem dL_share_51 : decode cL_share 51 = .ok (.istore 6, 2) := by decide +kernel
theorem dL_share_53 : decode cL_share 53 = .ok (.iinc 7 1, 3) := by decide +kernel
theorem dL_share_56 : decode cL_share 56 = .ok (.goto (-47), 3) := by decide +kernel
theorem dL_share_59 : decode cL_share 59 = .ok (.iload 5, 2) := by decide +kernel
theorem dL_share_61 : decode cL_share 61 = .ok (.ireturn, 1) := by decide +kernel
theorem dL_isLoaded_0 : decode cL_isLoaded 0 = .ok (.aload_n 3, 1) := by decide +kernel
theorem dL_isLoaded_1 : decode cL_isLoaded 1 = .ok (.iload 4, 2) := by decide +kernel
theorem dL_isLoaded_3 : decode cL_isLoaded 3 = .ok (.aload_n 1, 1) := by decide +kernel
theorem dL_isLoaded_4 : decode cL_isLoaded 4 = .ok (.iconst 0, 1) := by decide +kernel
theorem dL_isLoaded_5 : decode cL_isLoaded 5 = .ok (.iaload, 1) := by decide +kernel
theorem dL_isLoaded_6 : decode cL_isLoaded 6 = .ok (.invokestatic 132, 3) := by decide +kernel
theorem dL_isLoaded_9 : decode cL_isLoaded 9 = .ok (.istore 5, 2) := by decide +kernel
theorem dL_isLoaded_11 : decode cL_isLoaded 11 = .ok (.iconst 1, 1) := by decide +kernel
theorem dL_isLoaded_12 : decode cL_isLoaded 12 = .ok (.aload_n 3, 1) := by decide +kernel
theorem dL_isLoaded_13 : decode cL_isLoaded 13 = .ok (.iload 4, 2) := by decide +kernel
theorem dL_isLoaded_15 : decode cL_isLoaded 15 = .ok (.iconst 1, 1) := by decide +kernel
theorem dL_isLoaded_16 : decode cL_isLoaded 16 = .ok (.iadd, 1) := by decide +kernel
theorem dL_isLoaded_17 : decode cL_isLoaded 17 = .ok (.bipush 60, 2) := by decide +kernel
theorem dL_isLoaded_19 : decode cL_isLoaded 19 = .ok (.invokestatic 132, 3) := by decide +kernel
theorem dL_isLoaded_22 : decode cL_isLoaded 22 = .ok (.iadd, 1) := by decide +kernel
theorem dL_isLoaded_23 : decode cL_isLoaded 23 = .ok (.istore 6, 2) := by decide +kernel
theorem dL_isLoaded_25 : decode cL_isLoaded 25 = .ok (.bipush 100, 2) := by decide +kernel
theorem dL_isLoaded_27 : decode cL_isLoaded 27 = .ok (.aload_n 3, 1) := by decide +kernel
theorem dL_isLoaded_28 : decode cL_isLoaded 28 = .ok (.iload 4, 2) := by decide +kernel
theorem dL_isLoaded_30 : decode cL_isLoaded 30 = .ok (.iconst 2, 1) := by decide +kernel
theorem dL_isLoaded_31 : decode cL_isLoaded 31 = .ok (.iadd, 1) := by decide +kernel
theorem dL_isLoaded_32 : decode cL_isLoaded 32 = .ok (.bipush 120, 2) := by decide +kernel
theorem dL_isLoaded_34 : decode cL_isLoaded 34 = .ok (.invokestatic 132, 3) := by decide +kernel
theorem dL_isLoaded_37 : decode cL_isLoaded 37 = .ok (.iadd, 1) := by decide +kernel
theorem dL_isLoaded_38 : decode cL_isLoaded 38 = .ok (.istore 7, 2) := by decide +kernel
theorem dL_isLoaded_40 : decode cL_isLoaded 40 = .ok (.aload_n 3, 1) := by decide +kernel
theorem dL_isLoaded_41 : decode cL_isLoaded 41 = .ok (.iload 4, 2) := by decide +kernel
theorem dL_isLoaded_43 : decode cL_isLoaded 43 = .ok (.iconst 3, 1) := by decide +kernel
theorem dL_isLoaded_44 : decode cL_isLoaded 44 = .ok (.iadd, 1) := by decide +kernel
theorem dL_isLoaded_45 : decode cL_isLoaded 45 = .ok (.bipush 50, 2) := by decide +kernel
theorem dL_isLoaded_47 : decode cL_isLoaded 47 = .ok (.invokestatic 132, 3) := by decide +kernel
theorem dL_isLoaded_50 : decode cL_isLoaded 50 = .ok (.istore 8, 2) := by decide +kernel
theorem dL_isLoaded_52 : decode cL_isLoaded 52 = .ok (.aload_n 1, 1) := by decide +kernel
theorem dL_isLoaded_53 : decode cL_isLoaded 53 = .ok (.iload 5, 2) := by decide +kernel
theorem dL_isLoaded_55 : decode cL_isLoaded 55 = .ok (.invokestatic 113, 3) := by decide +kernel
theorem dL_isLoaded_58 : decode cL_isLoaded 58 = .ok (.iload 6, 2) := by decide +kernel
theorem dL_isLoaded_60 : decode cL_isLoaded 60 = .ok (.iadd, 1) := by decide +kernel
theorem dL_isLoaded_61 : decode cL_isLoaded 61 = .ok (.aload_n 1, 1) := by decide +kernel
theorem dL_isLoaded_62 : decode cL_isLoaded 62 = .ok (.bipush 10, 2) := by decide +kernel
theorem dL_isLoaded_64 : decode cL_isLoaded 64 = .ok (.iload 5, 2) := by decide +kernel
theorem dL_isLoaded_66 : decode cL_isLoaded 66 = .ok (.iadd, 1) := by decide +kernel
theorem dL_isLoaded_67 : decode cL_isLoaded 67 = .ok (.iaload, 1) := by decide +kernel
theorem dL_isLoaded_68 : decode cL_isLoaded 68 = .ok (.if_icmp .gt 11, 3) := by decide +kernel
theorem dL_isLoaded_71 : decode cL_isLoaded 71 = .ok (.aload_n 1, 1) := by decide +kernel
theorem dL_isLoaded_72 : decode cL_isLoaded 72 = .ok (.iconst 2, 1) := by decide +kernel
theorem dL_isLoaded_73 : decode cL_isLoaded 73 = .ok (.iaload, 1) := by decide +kernel
theorem dL_isLoaded_74 : decode cL_isLoaded 74 = .ok (.bipush 80, 2) := by decide +kernel
theorem dL_isLoaded_76 : decode cL_isLoaded 76 = .ok (.if_icmp .ne 26, 3) := by decide +kernel
theorem dL_isLoaded_79 : decode cL_isLoaded 79 = .ok (.aload_n 0, 1) := by decide +kernel
theorem dL_isLoaded_80 : decode cL_isLoaded 80 = .ok (.iload 5, 2) := by decide +kernel
theorem dL_isLoaded_82 : decode cL_isLoaded 82 = .ok (.iload 6, 2) := by decide +kernel
theorem dL_isLoaded_84 : decode cL_isLoaded 84 = .ok (.iload 7, 2) := by decide +kernel
theorem dL_isLoaded_86 : decode cL_isLoaded 86 = .ok (.iload 8, 2) := by decide +kernel
theorem dL_isLoaded_88 : decode cL_isLoaded 88 = .ok (.invokestatic 136, 3) := by decide +kernel
theorem dL_isLoaded_91 : decode cL_isLoaded 91 = .ok (.ldc 44, 2) := by decide +kernel
theorem dL_isLoaded_93 : decode cL_isLoaded 93 = .ok (.if_icmp .ne 7, 3) := by decide +kernel
theorem dL_isLoaded_96 : decode cL_isLoaded 96 = .ok (.iconst 1, 1) := by decide +kernel
theorem dL_isLoaded_97 : decode cL_isLoaded 97 = .ok (.goto 4, 3) := by decide +kernel
theorem dL_isLoaded_100 : decode cL_isLoaded 100 = .ok (.iconst 0, 1) := by decide +kernel
theorem dL_isLoaded_101 : decode cL_isLoaded 101 = .ok (.ireturn, 1) := by decide +kernel
theorem dL_isLoaded_102 : decode cL_isLoaded 102 = .ok (.aload_n 1, 1) := by decide +kernel
theorem dL_isLoaded_103 : decode cL_isLoaded 103 = .ok (.iload 7, 2) := by decide +kernel
theorem dL_isLoaded_105 : decode cL_isLoaded 105 = .ok (.iload 8, 2) := by decide +kernel
theorem dL_isLoaded_107 : decode cL_isLoaded 107 = .ok (.invokestatic 139, 3) := by decide +kernel
theorem dL_isLoaded_110 : decode cL_isLoaded 110 = .ok (.istore 9, 2) := by decide +kernel
theorem dL_isLoaded_112 : decode cL_isLoaded 112 = .ok (.aload_n 1, 1) := by decide +kernel
theorem dL_isLoaded_113 : decode cL_isLoaded 113 = .ok (.iload 5, 2) := by decide +kernel
theorem dL_isLoaded_115 : decode cL_isLoaded 115 = .ok (.iload 6, 2) := by decide +kernel
theorem dL_isLoaded_117 : decode cL_isLoaded 117 = .ok (.iload 7, 2) := by decide +kernel
theorem dL_isLoaded_119 : decode cL_isLoaded 119 = .ok (.iload 8, 2) := by decide +kernel
theorem dL_isLoaded_121 : decode cL_isLoaded 121 = .ok (.iload 9, 2) := by decide +kernel
theorem dL_isLoaded_123 : decode cL_isLoaded 123 = .ok (.invokestatic 105, 3) := by decide +kernel
theorem dL_isLoaded_126 : decode cL_isLoaded 126 = .ok (.aload_n 2, 1) := by decide +kernel
theorem dL_isLoaded_127 : decode cL_isLoaded 127 = .ok (.iconst 1, 1) := by decide +kernel
theorem dL_isLoaded_128 : decode cL_isLoaded 128 = .ok (.dup2, 1) := by decide +kernel
theorem dL_isLoaded_129 : decode cL_isLoaded 129 = .ok (.laload, 1) := by decide +kernel
theorem dL_isLoaded_130 : decode cL_isLoaded 130 = .ok (.iload 6, 2) := by decide +kernel
theorem dL_isLoaded_132 : decode cL_isLoaded 132 = .ok (.aload_n 1, 1) := by decide +kernel
theorem dL_isLoaded_133 : decode cL_isLoaded 133 = .ok (.bipush 70, 2) := by decide +kernel
theorem dL_isLoaded_135 : decode cL_isLoaded 135 = .ok (.iload 9, 2) := by decide +kernel
theorem dL_isLoaded_137 : decode cL_isLoaded 137 = .ok (.iadd, 1) := by decide +kernel
theorem dL_isLoaded_138 : decode cL_isLoaded 138 = .ok (.iaload, 1) := by decide +kernel
theorem dL_isLoaded_139 : decode cL_isLoaded 139 = .ok (.imul, 1) := by decide +kernel
theorem dL_isLoaded_140 : decode cL_isLoaded 140 = .ok (.i2l, 1) := by decide +kernel
theorem dL_isLoaded_141 : decode cL_isLoaded 141 = .ok (.lsub, 1) := by decide +kernel
theorem dL_isLoaded_142 : decode cL_isLoaded 142 = .ok (.lastore, 1) := by decide +kernel
theorem dL_isLoaded_143 : decode cL_isLoaded 143 = .ok (.aload_n 1, 1) := by decide +kernel
theorem dL_isLoaded_144 : decode cL_isLoaded 144 = .ok (.bipush 108, 2) := by decide +kernel
theorem dL_isLoaded_146 : decode cL_isLoaded 146 = .ok (.invokestatic 142, 3) := by decide +kernel
theorem dL_isLoaded_149 : decode cL_isLoaded 149 = .ok (.aload_n 0, 1) := by decide +kernel
theorem dL_isLoaded_150 : decode cL_isLoaded 150 = .ok (.iload 5, 2) := by decide +kernel
theorem dL_isLoaded_152 : decode cL_isLoaded 152 = .ok (.iload 6, 2) := by decide +kernel
theorem dL_isLoaded_154 : decode cL_isLoaded 154 = .ok (.iload 7, 2) := by decide +kernel
theorem dL_isLoaded_156 : decode cL_isLoaded 156 = .ok (.iload 8, 2) := by decide +kernel
theorem dL_isLoaded_158 : decode cL_isLoaded 158 = .ok (.invokestatic 136, 3) := by decide +kernel
theorem dL_isLoaded_161 : decode cL_isLoaded 161 = .ok (.iload 9, 2) := by decide +kernel
theorem dL_isLoaded_163 : decode cL_isLoaded 163 = .ok (.if_icmp .ne 7, 3) := by decide +kernel
theorem dL_isLoaded_166 : decode cL_isLoaded 166 = .ok (.iconst 1, 1) := by decide +kernel
theorem dL_isLoaded_167 : decode cL_isLoaded 167 = .ok (.goto 4, 3) := by decide +kernel
theorem dL_isLoaded_170 : decode cL_isLoaded 170 = .ok (.iconst 0, 1) := by decide +kernel
theorem dL_isLoaded_171 : decode cL_isLoaded 171 = .ok (.ireturn, 1) := by decide +kernel
theorem dL_isBin_0 : decode cL_isBin 0 = .ok (.aload_n 1, 1) := by decide +kernel
theorem dL_isBin_1 : decode cL_isBin 1 = .ok (.iconst 0, 1) := by decide +kernel
theorem dL_isBin_2 : decode cL_isBin 2 = .ok (.iaload, 1) := by decide +kernel
theorem dL_isBin_3 : decode cL_isBin 3 = .ok (.bipush 6, 2) := by decide +kernel
theorem dL_isBin_5 : decode cL_isBin 5 = .ok (.if_icmp .ne 20, 3) := by decide +kernel
theorem dL_isBin_8 : decode cL_isBin 8 = .ok (.aload_n 0, 1) := by decide +kernel
theorem dL_isBin_9 : decode cL_isBin 9 = .ok (.iload_n 2, 1) := by decide +kernel
theorem dL_isBin_10 : decode cL_isBin 10 = .ok (.iload_n 3, 1) := by decide +kernel
theorem dL_isBin_11 : decode cL_isBin 11 = .ok (.invokestatic 146, 3) := by decide +kernel
theorem dL_isBin_14 : decode cL_isBin 14 = .ok (.ldc 20, 2) := by decide +kernel
theorem dL_isBin_16 : decode cL_isBin 16 = .ok (.if_icmp .ne 7, 3) := by decide +kernel
theorem dL_isBin_19 : decode cL_isBin 19 = .ok (.iconst 1, 1) := by decide +kernel
theorem dL_isBin_20 : decode cL_isBin 20 = .ok (.goto 4, 3) := by decide +kernel
theorem dL_isBin_23 : decode cL_isBin 23 = .ok (.iconst 0, 1) := by decide +kernel
theorem dL_isBin_24 : decode cL_isBin 24 = .ok (.ireturn, 1) := by decide +kernel
theorem dL_isBin_25 : decode cL_isBin 25 = .ok (.aload_n 1, 1) := by decide +kernel
theorem dL_isBin_26 : decode cL_isBin 26 = .ok (.bipush 10, 2) := by decide +kernel
theorem dL_isBin_28 : decode cL_isBin 28 = .ok (.aload_n 1, 1) := by decide +kernel
theorem dL_isBin_29 : decode cL_isBin 29 = .ok (.iconst 0, 1) := by decide +kernel
theorem dL_isBin_30 : decode cL_isBin 30 = .ok (.iaload, 1) := by decide +kernel
theorem dL_isBin_31 : decode cL_isBin 31 = .ok (.iadd, 1) := by decide +kernel
theorem dL_isBin_32 : decode cL_isBin 32 = .ok (.iload_n 2, 1) := by decide +kernel
theorem dL_isBin_33 : decode cL_isBin 33 = .ok (.iastore, 1) := by decide +kernel
theorem dL_isBin_34 : decode cL_isBin 34 = .ok (.aload_n 1, 1) := by decide +kernel
theorem dL_isBin_35 : decode cL_isBin 35 = .ok (.bipush 20, 2) := by decide +kernel
theorem dL_isBin_37 : decode cL_isBin 37 = .ok (.aload_n 1, 1) := by decide +kernel
theorem dL_isBin_38 : decode cL_isBin 38 = .ok (.iconst 0, 1) := by decide +kernel
theorem dL_isBin_39 : decode cL_isBin 39 = .ok (.iaload, 1) := by decide +kernel
theorem dL_isBin_40 : decode cL_isBin 40 = .ok (.iadd, 1) := by decide +kernel
theorem dL_isBin_41 : decode cL_isBin 41 = .ok (.iload_n 3, 1) := by decide +kernel
theorem dL_isBin_42 : decode cL_isBin 42 = .ok (.ifCond .eq 7, 3) := by decide +kernel
theorem dL_isBin_45 : decode cL_isBin 45 = .ok (.iconst 1, 1) := by decide +kernel
theorem dL_isBin_46 : decode cL_isBin 46 = .ok (.goto 4, 3) := by decide +kernel
theorem dL_isBin_49 : decode cL_isBin 49 = .ok (.iconst 0, 1) := by decide +kernel
theorem dL_isBin_50 : decode cL_isBin 50 = .ok (.iastore, 1) := by decide +kernel
theorem dL_isBin_51 : decode cL_isBin 51 = .ok (.aload_n 1, 1) := by decide +kernel
theorem dL_isBin_52 : decode cL_isBin 52 = .ok (.iconst 0, 1) := by decide +kernel
theorem dL_isBin_53 : decode cL_isBin 53 = .ok (.dup2, 1) := by decide +kernel
theorem dL_isBin_54 : decode cL_isBin 54 = .ok (.iaload, 1) := by decide +kernel
theorem dL_isBin_55 : decode cL_isBin 55 = .ok (.iconst 1, 1) := by decide +kernel
theorem dL_isBin_56 : decode cL_isBin 56 = .ok (.iadd, 1) := by decide +kernel
theorem dL_isBin_57 : decode cL_isBin 57 = .ok (.iastore, 1) := by decide +kernel
theorem dL_isBin_58 : decode cL_isBin 58 = .ok (.aload_n 0, 1) := by decide +kernel
theorem dL_isBin_59 : decode cL_isBin 59 = .ok (.iload_n 2, 1) := by decide +kernel
theorem dL_isBin_60 : decode cL_isBin 60 = .ok (.iload_n 3, 1) := by decide +kernel
theorem dL_isBin_61 : decode cL_isBin 61 = .ok (.invokestatic 146, 3) := by decide +kernel
theorem dL_isBin_64 : decode cL_isBin 64 = .ok (.aload_n 1, 1) := by decide +kernel
theorem dL_isBin_65 : decode cL_isBin 65 = .ok (.iconst 0, 1) := by decide +kernel
theorem dL_isBin_66 : decode cL_isBin 66 = .ok (.iaload, 1) := by decide +kernel
theorem dL_isBin_67 : decode cL_isBin 67 = .ok (.iconst 1, 1) := by decide +kernel
theorem dL_isBin_68 : decode cL_isBin 68 = .ok (.isub, 1) := by decide +kernel
theorem dL_isBin_69 : decode cL_isBin 69 = .ok (.if_icmp .ne 7, 3) := by decide +kernel
theorem dL_isBin_72 : decode cL_isBin 72 = .ok (.iconst 1, 1) := by decide +kernel
theorem dL_isBin_73 : decode cL_isBin 73 = .ok (.goto 4, 3) := by decide +kernel
theorem dL_isBin_76 : decode cL_isBin 76 = .ok (.iconst 0, 1) := by decide +kernel
theorem dL_isBin_77 : decode cL_isBin 77 = .ok (.ireturn, 1) := by decide +kernel
theorem dL_begun__0 : decode cL_begun_ 0 = .ok (.new 10, 3) := by decide +kernel
theorem dL_begun__3 : decode cL_begun_ 3 = .ok (.dup, 1) := by decide +kernel
theorem dL_begun__4 : decode cL_begun_ 4 = .ok (.invokespecial 149, 3) := by decide +kernel
theorem dL_begun__7 : decode cL_begun_ 7 = .ok (.astore_n 3, 1) := by decide +kernel
theorem dL_begun__8 : decode cL_begun_ 8 = .ok (.iconst 1, 1) := by decide +kernel
theorem dL_begun__9 : decode cL_begun_ 9 = .ok (.istore 4, 2) := by decide +kernel
theorem dL_begun__11 : decode cL_begun_ 11 = .ok (.iconst 2, 1) := by decide +kernel
theorem dL_begun__12 : decode cL_begun_ 12 = .ok (.aload_n 0, 1) := by decide +kernel
theorem dL_begun__13 : decode cL_begun_ 13 = .ok (.iconst 0, 1) := by decide +kernel
theorem dL_begun__14 : decode cL_begun_ 14 = .ok (.iconst 3, 1) := by decide +kernel
theorem dL_begun__15 : decode cL_begun_ 15 = .ok (.invokestatic 132, 3) := by decide +kernel
theorem dL_begun__18 : decode cL_begun_ 18 = .ok (.iadd, 1) := by decide +kernel
theorem dL_begun__19 : decode cL_begun_ 19 = .ok (.istore 5, 2) := by decide +kernel
theorem dL_begun__21 : decode cL_begun_ 21 = .ok (.iload 5, 2) := by decide +kernel
theorem dL_begun__23 : decode cL_begun_ 23 = .ok (.ifCond .le 52, 3) := by decide +kernel
theorem dL_begun__26 : decode cL_begun_ 26 = .ok (.iload 4, 2) := by decide +kernel
theorem dL_begun__28 : decode cL_begun_ 28 = .ok (.aload_n 3, 1) := by decide +kernel
theorem dL_begun__29 : decode cL_begun_ 29 = .ok (.aload_n 1, 1) := by decide +kernel
theorem dL_begun__30 : decode cL_begun_ 30 = .ok (.bipush 40, 2) := by decide +kernel
theorem dL_begun__32 : decode cL_begun_ 32 = .ok (.aload_n 0, 1) := by decide +kernel
theorem dL_begun__33 : decode cL_begun_ 33 = .ok (.iconst 2, 1) := by decide +kernel
theorem dL_begun__34 : decode cL_begun_ 34 = .ok (.iload 5, 2) := by decide +kernel
theorem dL_begun__36 : decode cL_begun_ 36 = .ok (.imul, 1) := by decide +kernel
theorem dL_begun__37 : decode cL_begun_ 37 = .ok (.sipush 300, 3) := by decide +kernel
theorem dL_begun__40 : decode cL_begun_ 40 = .ok (.invokestatic 132, 3) := by decide +kernel
theorem dL_begun__43 : decode cL_begun_ 43 = .ok (.iadd, 1) := by decide +kernel
theorem dL_begun__44 : decode cL_begun_ 44 = .ok (.aload_n 0, 1) := by decide +kernel
theorem dL_begun__45 : decode cL_begun_ 45 = .ok (.iconst 1, 1) := by decide +kernel
theorem dL_begun__46 : decode cL_begun_ 46 = .ok (.iconst 2, 1) := by decide +kernel
theorem dL_begun__47 : decode cL_begun_ 47 = .ok (.iload 5, 2) := by decide +kernel
theorem dL_begun__49 : decode cL_begun_ 49 = .ok (.imul, 1) := by decide +kernel
theorem dL_begun__50 : decode cL_begun_ 50 = .ok (.iadd, 1) := by decide +kernel
theorem dL_begun__51 : decode cL_begun_ 51 = .ok (.iconst 2, 1) := by decide +kernel
theorem dL_begun__52 : decode cL_begun_ 52 = .ok (.invokestatic 132, 3) := by decide +kernel
theorem dL_begun__55 : decode cL_begun_ 55 = .ok (.ifCond .ne 7, 3) := by decide +kernel
theorem dL_begun__58 : decode cL_begun_ 58 = .ok (.iconst 1, 1) := by decide +kernel
theorem dL_begun__59 : decode cL_begun_ 59 = .ok (.goto 4, 3) := by decide +kernel
theorem dL_begun__62 : decode cL_begun_ 62 = .ok (.iconst 0, 1) := by decide +kernel
theorem dL_begun__63 : decode cL_begun_ 63 = .ok (.invokestatic 150, 3) := by decide +kernel
theorem dL_begun__66 : decode cL_begun_ 66 = .ok (.iand, 1) := by decide +kernel
theorem dL_begun__67 : decode cL_begun_ 67 = .ok (.istore 4, 2) := by decide +kernel
theorem dL_begun__69 : decode cL_begun_ 69 = .ok (.iinc 5 (-1), 3) := by decide +kernel
theorem dL_begun__72 : decode cL_begun_ 72 = .ok (.goto (-51), 3) := by decide +kernel
theorem dL_begun__75 : decode cL_begun_ 75 = .ok (.iconst 0, 1) := by decide +kernel
theorem dL_begun__76 : decode cL_begun_ 76 = .ok (.istore 5, 2) := by decide +kernel
theorem dL_begun__78 : decode cL_begun_ 78 = .ok (.iload 5, 2) := by decide +kernel
theorem dL_begun__80 : decode cL_begun_ 80 = .ok (.iconst 4, 1) := by decide +kernel
theorem dL_begun__81 : decode cL_begun_ 81 = .ok (.if_icmp .ge 28, 3) := by decide +kernel
theorem dL_begun__84 : decode cL_begun_ 84 = .ok (.iload 4, 2) := by decide +kernel
theorem dL_begun__86 : decode cL_begun_ 86 = .ok (.aload_n 3, 1) := by decide +kernel
theorem dL_begun__87 : decode cL_begun_ 87 = .ok (.aload_n 1, 1) := by decide +kernel
theorem dL_begun__88 : decode cL_begun_ 88 = .ok (.aload_n 2, 1) := by decide +kernel
theorem dL_begun__89 : decode cL_begun_ 89 = .ok (.aload_n 0, 1) := by decide +kernel
theorem dL_begun__90 : decode cL_begun_ 90 = .ok (.bipush 14, 2) := by decide +kernel
theorem dL_begun__92 : decode cL_begun_ 92 = .ok (.iconst 4, 1) := by decide +kernel
theorem dL_begun__93 : decode cL_begun_ 93 = .ok (.iload 5, 2) := by decide +kernel
theorem dL_begun__95 : decode cL_begun_ 95 = .ok (.imul, 1) := by decide +kernel
theorem dL_begun__96 : decode cL_begun_ 96 = .ok (.iadd, 1) := by decide +kernel
theorem dL_begun__97 : decode cL_begun_ 97 = .ok (.invokestatic 154, 3) := by decide +kernel
theorem dL_begun__100 : decode cL_begun_ 100 = .ok (.iand, 1) := by decide +kernel
theorem dL_begun__101 : decode cL_begun_ 101 = .ok (.istore 4, 2) := by decide +kernel
theorem dL_begun__103 : decode cL_begun_ 103 = .ok (.iinc 5 1, 3) := by decide +kernel
theorem dL_begun__106 : decode cL_begun_ 106 = .ok (.goto (-28), 3) := by decide +kernel
theorem dL_begun__109 : decode cL_begun_ 109 = .ok (.iload 4, 2) := by decide +kernel
theorem dL_begun__111 : decode cL_begun_ 111 = .ok (.ifCond .eq 7, 3) := by decide +kernel
theorem dL_begun__114 : decode cL_begun_ 114 = .ok (.aload_n 3, 1) := by decide +kernel
theorem dL_begun__115 : decode cL_begun_ 115 = .ok (.goto 4, 3) := by decide +kernel
theorem dL_begun__118 : decode cL_begun_ 118 = .ok (.aconst_null, 1) := by decide +kernel
theorem dL_begun__119 : decode cL_begun_ 119 = .ok (.areturn, 1) := by decide +kernel
theorem dL_isDried_0 : decode cL_isDried 0 = .ok (.iconst 0, 1) := by decide +kernel
theorem dL_isDried_1 : decode cL_isDried 1 = .ok (.istore 5, 2) := by decide +kernel
theorem dL_isDried_3 : decode cL_isDried 3 = .ok (.iconst 0, 1) := by decide +kernel
theorem dL_isDried_4 : decode cL_isDried 4 = .ok (.istore 6, 2) := by decide +kernel
theorem dL_isDried_6 : decode cL_isDried 6 = .ok (.iconst 0, 1) := by decide +kernel
theorem dL_isDried_7 : decode cL_isDried 7 = .ok (.istore 7, 2) := by decide +kernel
theorem dL_isDried_9 : decode cL_isDried 9 = .ok (.aload_n 1, 1) := by decide +kernel
theorem dL_isDried_10 : decode cL_isDried 10 = .ok (.invokestatic 120, 3) := by decide +kernel
theorem dL_isDried_13 : decode cL_isDried 13 = .ok (.astore 8, 2) := by decide +kernel
theorem dL_isDried_15 : decode cL_isDried 15 = .ok (.aload_n 1, 1) := by decide +kernel
theorem dL_isDried_16 : decode cL_isDried 16 = .ok (.bipush 30, 2) := by decide +kernel
theorem dL_isDried_18 : decode cL_isDried 18 = .ok (.iload_n 3, 1) := by decide +kernel
theorem dL_isDried_19 : decode cL_isDried 19 = .ok (.iadd, 1) := by decide +kernel
theorem dL_isDried_20 : decode cL_isDried 20 = .ok (.iaload, 1) := by decide +kernel
theorem dL_isDried_21 : decode cL_isDried 21 = .ok (.iconst 1, 1) := by decide +kernel
theorem dL_isDried_22 : decode cL_isDried 22 = .ok (.isub, 1) := by decide +kernel
theorem dL_isDried_23 : decode cL_isDried 23 = .ok (.istore 9, 2) := by decide +kernel
theorem dL_isDried_25 : decode cL_isDried 25 = .ok (.iload 9, 2) := by decide +kernel
theorem dL_isDried_27 : decode cL_isDried 27 = .ok (.ifCond .lt 137, 3) := by decide +kernel
theorem dL_isDried_30 : decode cL_isDried 30 = .ok (.iload_n 3, 1) := by decide +kernel
theorem dL_isDried_31 : decode cL_isDried 31 = .ok (.iload 9, 2) := by decide +kernel
theorem dL_isDried_33 : decode cL_isDried 33 = .ok (.invokestatic 102, 3) := by decide +kernel
theorem dL_isDried_36 : decode cL_isDried 36 = .ok (.istore 10, 2) := by decide +kernel
theorem dL_isDried_38 : decode cL_isDried 38 = .ok (.aload_n 1, 1) := by decide +kernel
theorem dL_isDried_39 : decode cL_isDried 39 = .ok (.iload 10, 2) := by decide +kernel
theorem dL_isDried_41 : decode cL_isDried 41 = .ok (.iconst 1, 1) := by decide +kernel
theorem dL_isDried_42 : decode cL_isDried 42 = .ok (.iadd, 1) := by decide +kernel
theorem dL_isDried_43 : decode cL_isDried 43 = .ok (.iaload, 1) := by decide +kernel
theorem dL_isDried_44 : decode cL_isDried 44 = .ok (.iload 4, 2) := by decide +kernel
theorem dL_isDried_46 : decode cL_isDried 46 = .ok (.if_icmp .le 112, 3) := by decide +kernel
theorem dL_isDried_49 : decode cL_isDried 49 = .ok (.aload_n 1, 1) := by decide +kernel
theorem dL_isDried_50 : decode cL_isDried 50 = .ok (.iload 10, 2) := by decide +kernel
theorem dL_isDried_52 : decode cL_isDried 52 = .ok (.iaload, 1) := by decide +kernel
theorem dL_isDried_53 : decode cL_isDried 53 = .ok (.sipush 1000, 3) := by decide +kernel
theorem dL_isDried_56 : decode cL_isDried 56 = .ok (.aload_n 1, 1) := by decide +kernel
theorem dL_isDried_57 : decode cL_isDried 57 = .ok (.iload 10, 2) := by decide +kernel
theorem dL_isDried_59 : decode cL_isDried 59 = .ok (.iconst 1, 1) := by decide +kernel
theorem dL_isDried_60 : decode cL_isDried 60 = .ok (.iadd, 1) := by decide +kernel
theorem dL_isDried_61 : decode cL_isDried 61 = .ok (.iaload, 1) := by decide +kernel
theorem dL_isDried_62 : decode cL_isDried 62 = .ok (.isub, 1) := by decide +kernel
theorem dL_isDried_63 : decode cL_isDried 63 = .ok (.imul, 1) := by decide +kernel
theorem dL_isDried_64 : decode cL_isDried 64 = .ok (.sipush 1000, 3) := by decide +kernel
theorem dL_isDried_67 : decode cL_isDried 67 = .ok (.iload 4, 2) := by decide +kernel
theorem dL_isDried_69 : decode cL_isDried 69 = .ok (.isub, 1) := by decide +kernel
theorem dL_isDried_70 : decode cL_isDried 70 = .ok (.idiv, 1) := by decide +kernel
theorem dL_isDried_71 : decode cL_isDried 71 = .ok (.istore 11, 2) := by decide +kernel
theorem dL_isDried_73 : decode cL_isDried 73 = .ok (.iconst 1, 1) := by decide +kernel
theorem dL_isDried_74 : decode cL_isDried 74 = .ok (.istore 7, 2) := by decide +kernel
theorem dL_isDried_76 : decode cL_isDried 76 = .ok (.iload 5, 2) := by decide +kernel
theorem dL_isDried_78 : decode cL_isDried 78 = .ok (.aload_n 1, 1) := by decide +kernel
theorem dL_isDried_79 : decode cL_isDried 79 = .ok (.iload 10, 2) := by decide +kernel
theorem dL_isDried_81 : decode cL_isDried 81 = .ok (.iaload, 1) := by decide +kernel
theorem dL_isDried_82 : decode cL_isDried 82 = .ok (.iload 11, 2) := by decide +kernel
theorem dL_isDried_84 : decode cL_isDried 84 = .ok (.isub, 1) := by decide +kernel
theorem dL_isDried_85 : decode cL_isDried 85 = .ok (.iadd, 1) := by decide +kernel
theorem dL_isDried_86 : decode cL_isDried 86 = .ok (.istore 5, 2) := by decide +kernel
theorem dL_isDried_88 : decode cL_isDried 88 = .ok (.iload 6, 2) := by decide +kernel
theorem dL_isDried_90 : decode cL_isDried 90 = .ok (.aload_n 1, 1) := by decide +kernel
theorem dL_isDried_91 : decode cL_isDried 91 = .ok (.iload 10, 2) := by decide +kernel
theorem dL_isDried_93 : decode cL_isDried 93 = .ok (.iaload, 1) := by decide +kernel
theorem dL_isDried_94 : decode cL_isDried 94 = .ok (.aload_n 1, 1) := by decide +kernel
theorem dL_isDried_95 : decode cL_isDried 95 = .ok (.iload 10, 2) := by decide +kernel
theorem dL_isDried_97 : decode cL_isDried 97 = .ok (.iconst 1, 1) := by decide +kernel
theorem dL_isDried_98 : decode cL_isDried 98 = .ok (.iadd, 1) := by decide +kernel
theorem dL_isDried_99 : decode cL_isDried 99 = .ok (.iaload, 1) := by decide +kernel
theorem dL_isDried_100 : decode cL_isDried 100 = .ok (.iload 4, 2) := by decide +kernel
theorem dL_isDried_102 : decode cL_isDried 102 = .ok (.isub, 1) := by decide +kernel
theorem dL_isDried_103 : decode cL_isDried 103 = .ok (.imul, 1) := by decide +kernel
theorem dL_isDried_104 : decode cL_isDried 104 = .ok (.bipush 10, 2) := by decide +kernel
theorem dL_isDried_106 : decode cL_isDried 106 = .ok (.idiv, 1) := by decide +kernel
theorem dL_isDried_107 : decode cL_isDried 107 = .ok (.iadd, 1) := by decide +kernel
theorem dL_isDried_108 : decode cL_isDried 108 = .ok (.istore 6, 2) := by decide +kernel
theorem dL_isDried_110 : decode cL_isDried 110 = .ok (.aload 8, 2) := by decide +kernel
theorem dL_isDried_112 : decode cL_isDried 112 = .ok (.iload 10, 2) := by decide +kernel
theorem dL_isDried_114 : decode cL_isDried 114 = .ok (.iload 11, 2) := by decide +kernel
theorem dL_isDried_116 : decode cL_isDried 116 = .ok (.iastore, 1) := by decide +kernel
theorem dL_isDried_117 : decode cL_isDried 117 = .ok (.aload 8, 2) := by decide +kernel
theorem dL_isDried_119 : decode cL_isDried 119 = .ok (.iload 10, 2) := by decide +kernel
theorem dL_isDried_121 : decode cL_isDried 121 = .ok (.iconst 1, 1) := by decide +kernel
theorem dL_isDried_122 : decode cL_isDried 122 = .ok (.iadd, 1) := by decide +kernel
theorem dL_isDried_123 : decode cL_isDried 123 = .ok (.iload 4, 2) := by decide +kernel
theorem dL_isDried_125 : decode cL_isDried 125 = .ok (.iastore, 1) := by decide +kernel
theorem dL_isDried_126 : decode cL_isDried 126 = .ok (.aload 8, 2) := by decide +kernel
theorem dL_isDried_128 : decode cL_isDried 128 = .ok (.iload 10, 2) := by decide +kernel
theorem dL_isDried_130 : decode cL_isDried 130 = .ok (.iconst 3, 1) := by decide +kernel
theorem dL_isDried_131 : decode cL_isDried 131 = .ok (.iadd, 1) := by decide +kernel
theorem dL_isDried_132 : decode cL_isDried 132 = .ok (.aload_n 1, 1) := by decide +kernel
theorem dL_isDried_133 : decode cL_isDried 133 = .ok (.iload 4, 2) := by decide +kernel
theorem dL_isDried_135 : decode cL_isDried 135 = .ok (.aload_n 1, 1) := by decide +kernel
theorem dL_isDried_136 : decode cL_isDried 136 = .ok (.iload 10, 2) := by decide +kernel
theorem dL_isDried_138 : decode cL_isDried 138 = .ok (.iconst 2, 1) := by decide +kernel
theorem dL_isDried_139 : decode cL_isDried 139 = .ok (.iadd, 1) := by decide +kernel
theorem dL_isDried_140 : decode cL_isDried 140 = .ok (.iaload, 1) := by decide +kernel
theorem dL_isDried_141 : decode cL_isDried 141 = .ok (.invokestatic 139, 3) := by decide +kernel
theorem dL_isDried_144 : decode cL_isDried 144 = .ok (.iastore, 1) := by decide +kernel
theorem dL_isDried_145 : decode cL_isDried 145 = .ok (.iload 11, 2) := by decide +kernel
theorem dL_isDried_147 : decode cL_isDried 147 = .ok (.ifCond .ne 11, 3) := by decide +kernel
theorem dL_isDried_150 : decode cL_isDried 150 = .ok (.aload 8, 2) := by decide +kernel
theorem dL_isDried_152 : decode cL_isDried 152 = .ok (.iload_n 3, 1) := by decide +kernel
theorem dL_isDried_153 : decode cL_isDried 153 = .ok (.iload 9, 2) := by decide +kernel
theorem dL_isDried_155 : decode cL_isDried 155 = .ok (.invokestatic 109, 3) := by decide +kernel
theorem dL_isDried_158 : decode cL_isDried 158 = .ok (.iinc 9 (-1), 3) := by decide +kernel
theorem dL_isDried_161 : decode cL_isDried 161 = .ok (.goto (-136), 3) := by decide +kernel
theorem dL_isDried_164 : decode cL_isDried 164 = .ok (.aload_n 0, 1) := by decide +kernel
theorem dL_isDried_165 : decode cL_isDried 165 = .ok (.iload_n 3, 1) := by decide +kernel
theorem dL_isDried_166 : decode cL_isDried 166 = .ok (.iload 4, 2) := by decide +kernel
theorem dL_isDried_168 : decode cL_isDried 168 = .ok (.invokestatic 158, 3) := by decide +kernel
theorem dL_isDried_171 : decode cL_isDried 171 = .ok (.iload 6, 2) := by decide +kernel
theorem dL_isDried_173 : decode cL_isDried 173 = .ok (.if_icmp .eq 5, 3) := by decide +kernel
theorem dL_isDried_176 : decode cL_isDried 176 = .ok (.iconst 0, 1) := by decide +kernel
theorem dL_isDried_177 : decode cL_isDried 177 = .ok (.ireturn, 1) := by decide +kernel
theorem dL_isDried_178 : decode cL_isDried 178 = .ok (.iload 7, 2) := by decide +kernel
theorem dL_isDried_180 : decode cL_isDried 180 = .ok (.ifCond .eq 11, 3) := by decide +kernel
theorem dL_isDried_183 : decode cL_isDried 183 = .ok (.aload_n 1, 1) := by decide +kernel
theorem dL_isDried_184 : decode cL_isDried 184 = .ok (.iconst 2, 1) := by decide +kernel
theorem dL_isDried_185 : decode cL_isDried 185 = .ok (.iaload, 1) := by decide +kernel
theorem dL_isDried_186 : decode cL_isDried 186 = .ok (.bipush 80, 2) := by decide +kernel
theorem dL_isDried_188 : decode cL_isDried 188 = .ok (.if_icmp .ne 21, 3) := by decide +kernel
theorem dL_isDried_191 : decode cL_isDried 191 = .ok (.aload_n 0, 1) := by decide +kernel
theorem dL_isDried_192 : decode cL_isDried 192 = .ok (.iload_n 3, 1) := by decide +kernel
theorem dL_isDried_193 : decode cL_isDried 193 = .ok (.iload 4, 2) := by decide +kernel
theorem dL_isDried_195 : decode cL_isDried 195 = .ok (.invokestatic 161, 3) := by decide +kernel
theorem dL_isDried_198 : decode cL_isDried 198 = .ok (.ldc 44, 2) := by decide +kernel
theorem dL_isDried_200 : decode cL_isDried 200 = .ok (.if_icmp .ne 7, 3) := by decide +kernel
theorem dL_isDried_203 : decode cL_isDried 203 = .ok (.iconst 1, 1) := by decide +kernel
theorem dL_isDried_204 : decode cL_isDried 204 = .ok (.goto 4, 3) := by decide +kernel
theorem dL_isDried_207 : decode cL_isDried 207 = .ok (.iconst 0, 1) := by decide +kernel
theorem dL_isDried_208 : decode cL_isDried 208 = .ok (.ireturn, 1) := by decide +kernel
theorem dL_isDried_209 : decode cL_isDried 209 = .ok (.iconst 0, 1) := by decide +kernel
theorem dL_isDried_210 : decode cL_isDried 210 = .ok (.istore 9, 2) := by decide +kernel
theorem dL_isDried_212 : decode cL_isDried 212 = .ok (.iload 9, 2) := by decide +kernel
theorem dL_isDried_214 : decode cL_isDried 214 = .ok (.aload_n 1, 1) := by decide +kernel
theorem dL_isDried_215 : decode cL_isDried 215 = .ok (.arraylength, 1) := by decide +kernel
theorem dL_isDried_216 : decode cL_isDried 216 = .ok (.if_icmp .ge 18, 3) := by decide +kernel
theorem dL_isDried_219 : decode cL_isDried 219 = .ok (.aload_n 1, 1) := by decide +kernel
theorem dL_isDried_220 : decode cL_isDried 220 = .ok (.iload 9, 2) := by decide +kernel
theorem dL_isDried_222 : decode cL_isDried 222 = .ok (.aload 8, 2) := by decide +kernel
theorem dL_isDried_224 : decode cL_isDried 224 = .ok (.iload 9, 2) := by decide +kernel
theorem dL_isDried_226 : decode cL_isDried 226 = .ok (.iaload, 1) := by decide +kernel
theorem dL_isDried_227 : decode cL_isDried 227 = .ok (.iastore, 1) := by decide +kernel
theorem dL_isDried_228 : decode cL_isDried 228 = .ok (.iinc 9 1, 3) := by decide +kernel
theorem dL_isDried_231 : decode cL_isDried 231 = .ok (.goto (-19), 3) := by decide +kernel
theorem dL_isDried_234 : decode cL_isDried 234 = .ok (.aload_n 2, 1) := by decide +kernel
theorem dL_isDried_235 : decode cL_isDried 235 = .ok (.iconst 1, 1) := by decide +kernel
theorem dL_isDried_236 : decode cL_isDried 236 = .ok (.dup2, 1) := by decide +kernel
theorem dL_isDried_237 : decode cL_isDried 237 = .ok (.laload, 1) := by decide +kernel
theorem dL_isDried_238 : decode cL_isDried 238 = .ok (.iload 6, 2) := by decide +kernel
theorem dL_isDried_240 : decode cL_isDried 240 = .ok (.i2l, 1) := by decide +kernel
theorem dL_isDried_241 : decode cL_isDried 241 = .ok (.lsub, 1) := by decide +kernel
theorem dL_isDried_242 : decode cL_isDried 242 = .ok (.lastore, 1) := by decide +kernel
theorem dL_isDried_243 : decode cL_isDried 243 = .ok (.aload_n 1, 1) := by decide +kernel
theorem dL_isDried_244 : decode cL_isDried 244 = .ok (.bipush 100, 2) := by decide +kernel
theorem dL_isDried_246 : decode cL_isDried 246 = .ok (.invokestatic 142, 3) := by decide +kernel
theorem dL_isDried_249 : decode cL_isDried 249 = .ok (.aload_n 0, 1) := by decide +kernel
theorem dL_isDried_250 : decode cL_isDried 250 = .ok (.iload_n 3, 1) := by decide +kernel
theorem dL_isDried_251 : decode cL_isDried 251 = .ok (.iload 4, 2) := by decide +kernel
theorem dL_isDried_253 : decode cL_isDried 253 = .ok (.invokestatic 161, 3) := by decide +kernel
theorem dL_isDried_256 : decode cL_isDried 256 = .ok (.iload 5, 2) := by decide +kernel
theorem dL_isDried_258 : decode cL_isDried 258 = .ok (.if_icmp .ne 7, 3) := by decide +kernel
theorem dL_isDried_261 : decode cL_isDried 261 = .ok (.iconst 1, 1) := by decide +kernel
theorem dL_isDried_262 : decode cL_isDried 262 = .ok (.goto 4, 3) := by decide +kernel
theorem dL_isDried_265 : decode cL_isDried 265 = .ok (.iconst 0, 1) := by decide +kernel
theorem dL_isDried_266 : decode cL_isDried 266 = .ok (.ireturn, 1) := by decide +kernel
theorem dL_isBlended_0 : decode cL_isBlended 0 = .ok (.iload_n 3, 1) := by decide +kernel
theorem dL_isBlended_1 : decode cL_isBlended 1 = .ok (.iload 4, 2) := by decide +kernel
theorem dL_isBlended_3 : decode cL_isBlended 3 = .ok (.if_icmp .ne 25, 3) := by decide +kernel
theorem dL_isBlended_6 : decode cL_isBlended 6 = .ok (.aload_n 0, 1) := by decide +kernel
theorem dL_isBlended_7 : decode cL_isBlended 7 = .ok (.iload_n 3, 1) := by decide +kernel
theorem dL_isBlended_8 : decode cL_isBlended 8 = .ok (.iload 4, 2) := by decide +kernel
theorem dL_isBlended_10 : decode cL_isBlended 10 = .ok (.iload 5, 2) := by decide +kernel
theorem dL_isBlended_12 : decode cL_isBlended 12 = .ok (.iload 6, 2) := by decide +kernel
theorem dL_isBlended_14 : decode cL_isBlended 14 = .ok (.invokestatic 163, 3) := by decide +kernel
theorem dL_isBlended_17 : decode cL_isBlended 17 = .ok (.ldc 20, 2) := by decide +kernel
theorem dL_isBlended_19 : decode cL_isBlended 19 = .ok (.if_icmp .ne 7, 3) := by decide +kernel
theorem dL_isBlended_22 : decode cL_isBlended 22 = .ok (.iconst 1, 1) := by decide +kernel
theorem dL_isBlended_23 : decode cL_isBlended 23 = .ok (.goto 4, 3) := by decide +kernel
theorem dL_isBlended_26 : decode cL_isBlended 26 = .ok (.iconst 0, 1) := by decide +kernel
theorem dL_isBlended_27 : decode cL_isBlended 27 = .ok (.ireturn, 1) := by decide +kernel
theorem dL_isBlended_28 : decode cL_isBlended 28 = .ok (.aload_n 1, 1) := by decide +kernel
theorem dL_isBlended_29 : decode cL_isBlended 29 = .ok (.iload_n 3, 1) := by decide +kernel
theorem dL_isBlended_30 : decode cL_isBlended 30 = .ok (.iload 4, 2) := by decide +kernel
theorem dL_isBlended_32 : decode cL_isBlended 32 = .ok (.iload 5, 2) := by decide +kernel
theorem dL_isBlended_34 : decode cL_isBlended 34 = .ok (.iload 6, 2) := by decide +kernel
theorem dL_isBlended_36 : decode cL_isBlended 36 = .ok (.invokestatic 165, 3) := by decide +kernel
theorem dL_isBlended_39 : decode cL_isBlended 39 = .ok (.istore 7, 2) := by decide +kernel
theorem dL_isBlended_41 : decode cL_isBlended 41 = .ok (.iload 7, 2) := by decide +kernel
theorem dL_isBlended_43 : decode cL_isBlended 43 = .ok (.ifCond .lt 11, 3) := by decide +kernel
theorem dL_isBlended_46 : decode cL_isBlended 46 = .ok (.aload_n 1, 1) := by decide +kernel
theorem dL_isBlended_47 : decode cL_isBlended 47 = .ok (.iconst 2, 1) := by decide +kernel
theorem dL_isBlended_48 : decode cL_isBlended 48 = .ok (.iaload, 1) := by decide +kernel
theorem dL_isBlended_49 : decode cL_isBlended 49 = .ok (.bipush 80, 2) := by decide +kernel
theorem dL_isBlended_51 : decode cL_isBlended 51 = .ok (.if_icmp .ne 35, 3) := by decide +kernel
theorem dL_isBlended_54 : decode cL_isBlended 54 = .ok (.aload_n 0, 1) := by decide +kernel
theorem dL_isBlended_55 : decode cL_isBlended 55 = .ok (.iload_n 3, 1) := by decide +kernel
theorem dL_isBlended_56 : decode cL_isBlended 56 = .ok (.iload 4, 2) := by decide +kernel
theorem dL_isBlended_58 : decode cL_isBlended 58 = .ok (.iload 5, 2) := by decide +kernel
theorem dL_isBlended_60 : decode cL_isBlended 60 = .ok (.iload 6, 2) := by decide +kernel
theorem dL_isBlended_62 : decode cL_isBlended 62 = .ok (.invokestatic 163, 3) := by decide +kernel
theorem dL_isBlended_65 : decode cL_isBlended 65 = .ok (.iload 7, 2) := by decide +kernel
theorem dL_isBlended_67 : decode cL_isBlended 67 = .ok (.ifCond .ge 8, 3) := by decide +kernel
theorem dL_isBlended_70 : decode cL_isBlended 70 = .ok (.ldc 44, 2) := by decide +kernel
theorem dL_isBlended_72 : decode cL_isBlended 72 = .ok (.goto 5, 3) := by decide +kernel
theorem dL_isBlended_75 : decode cL_isBlended 75 = .ok (.ldc 84, 2) := by decide +kernel
theorem dL_isBlended_77 : decode cL_isBlended 77 = .ok (.if_icmp .ne 7, 3) := by decide +kernel
theorem dL_isBlended_80 : decode cL_isBlended 80 = .ok (.iconst 1, 1) := by decide +kernel
theorem dL_isBlended_81 : decode cL_isBlended 81 = .ok (.goto 4, 3) := by decide +kernel
theorem dL_isBlended_84 : decode cL_isBlended 84 = .ok (.iconst 0, 1) := by decide +kernel
theorem dL_isBlended_85 : decode cL_isBlended 85 = .ok (.ireturn, 1) := by decide +kernel
theorem dL_isBlended_86 : decode cL_isBlended 86 = .ok (.aload_n 1, 1) := by decide +kernel
theorem dL_isBlended_87 : decode cL_isBlended 87 = .ok (.iload_n 3, 1) := by decide +kernel
theorem dL_isBlended_88 : decode cL_isBlended 88 = .ok (.iload 7, 2) := by decide +kernel
theorem dL_isBlended_90 : decode cL_isBlended 90 = .ok (.iconst (-1), 1) := by decide +kernel
theorem dL_isBlended_91 : decode cL_isBlended 91 = .ok (.invokestatic 124, 3) := by decide +kernel
theorem dL_isBlended_94 : decode cL_isBlended 94 = .ok (.astore 8, 2) := by decide +kernel
theorem dL_isBlended_96 : decode cL_isBlended 96 = .ok (.aload_n 1, 1) := by decide +kernel
theorem dL_isBlended_97 : decode cL_isBlended 97 = .ok (.iload 4, 2) := by decide +kernel
theorem dL_isBlended_99 : decode cL_isBlended 99 = .ok (.iload 5, 2) := by decide +kernel
theorem dL_isBlended_101 : decode cL_isBlended 101 = .ok (.iload 7, 2) := by decide +kernel
theorem dL_isBlended_103 : decode cL_isBlended 103 = .ok (.isub, 1) := by decide +kernel
theorem dL_isBlended_104 : decode cL_isBlended 104 = .ok (.iconst (-1), 1) := by decide +kernel
theorem dL_isBlended_105 : decode cL_isBlended 105 = .ok (.invokestatic 124, 3) := by decide +kernel
theorem dL_isBlended_108 : decode cL_isBlended 108 = .ok (.astore 9, 2) := by decide +kernel
theorem dL_isBlended_110 : decode cL_isBlended 110 = .ok (.aload 8, 2) := by decide +kernel
theorem dL_isBlended_112 : decode cL_isBlended 112 = .ok (.iconst 1, 1) := by decide +kernel
theorem dL_isBlended_113 : decode cL_isBlended 113 = .ok (.iaload, 1) := by decide +kernel
theorem dL_isBlended_114 : decode cL_isBlended 114 = .ok (.aload 9, 2) := by decide +kernel
theorem dL_isBlended_116 : decode cL_isBlended 116 = .ok (.iconst 1, 1) := by decide +kernel
theorem dL_isBlended_117 : decode cL_isBlended 117 = .ok (.iaload, 1) := by decide +kernel
theorem dL_isBlended_118 : decode cL_isBlended 118 = .ok (.iadd, 1) := by decide +kernel
theorem dL_isBlended_119 : decode cL_isBlended 119 = .ok (.istore 10, 2) := by decide +kernel
theorem dL_isBlended_121 : decode cL_isBlended 121 = .ok (.aload 8, 2) := by decide +kernel
theorem dL_isBlended_123 : decode cL_isBlended 123 = .ok (.iconst 2, 1) := by decide +kernel
theorem dL_isBlended_124 : decode cL_isBlended 124 = .ok (.iaload, 1) := by decide +kernel
theorem dL_isBlended_125 : decode cL_isBlended 125 = .ok (.aload 9, 2) := by decide +kernel
theorem dL_isBlended_127 : decode cL_isBlended 127 = .ok (.iconst 2, 1) := by decide +kernel
theorem dL_isBlended_128 : decode cL_isBlended 128 = .ok (.iaload, 1) := by decide +kernel
theorem dL_isBlended_129 : decode cL_isBlended 129 = .ok (.iadd, 1) := by decide +kernel
theorem dL_isBlended_130 : decode cL_isBlended 130 = .ok (.istore 11, 2) := by decide +kernel
theorem dL_isBlended_132 : decode cL_isBlended 132 = .ok (.aload_n 1, 1) := by decide +kernel
theorem dL_isBlended_133 : decode cL_isBlended 133 = .ok (.iload 10, 2) := by decide +kernel
theorem dL_isBlended_135 : decode cL_isBlended 135 = .ok (.iload 5, 2) := by decide +kernel
theorem dL_isBlended_137 : decode cL_isBlended 137 = .ok (.idiv, 1) := by decide +kernel
theorem dL_isBlended_138 : decode cL_isBlended 138 = .ok (.iload 10, 2) := by decide +kernel
theorem dL_isBlended_140 : decode cL_isBlended 140 = .ok (.iload 5, 2) := by decide +kernel
theorem dL_isBlended_142 : decode cL_isBlended 142 = .ok (.irem, 1) := by decide +kernel
theorem dL_isBlended_143 : decode cL_isBlended 143 = .ok (.ifCond .le 7, 3) := by decide +kernel
theorem dL_isBlended_146 : decode cL_isBlended 146 = .ok (.iconst 1, 1) := by decide +kernel
theorem dL_isBlended_147 : decode cL_isBlended 147 = .ok (.goto 4, 3) := by decide +kernel
theorem dL_isBlended_150 : decode cL_isBlended 150 = .ok (.iconst 0, 1) := by decide +kernel
theorem dL_isBlended_151 : decode cL_isBlended 151 = .ok (.iadd, 1) := by decide +kernel
theorem dL_isBlended_152 : decode cL_isBlended 152 = .ok (.iload 11, 2) := by decide +kernel
theorem dL_isBlended_154 : decode cL_isBlended 154 = .ok (.iload 5, 2) := by decide +kernel
theorem dL_isBlended_156 : decode cL_isBlended 156 = .ok (.idiv, 1) := by decide +kernel
theorem dL_isBlended_157 : decode cL_isBlended 157 = .ok (.iload 11, 2) := by decide +kernel
theorem dL_isBlended_159 : decode cL_isBlended 159 = .ok (.iload 5, 2) := by decide +kernel
theorem dL_isBlended_161 : decode cL_isBlended 161 = .ok (.irem, 1) := by decide +kernel
theorem dL_isBlended_162 : decode cL_isBlended 162 = .ok (.ifCond .le 7, 3) := by decide +kernel
theorem dL_isBlended_165 : decode cL_isBlended 165 = .ok (.iconst 1, 1) := by decide +kernel
theorem dL_isBlended_166 : decode cL_isBlended 166 = .ok (.goto 4, 3) := by decide +kernel
theorem dL_isBlended_169 : decode cL_isBlended 169 = .ok (.iconst 0, 1) := by decide +kernel
theorem dL_isBlended_170 : decode cL_isBlended 170 = .ok (.iadd, 1) := by decide +kernel
theorem dL_isBlended_171 : decode cL_isBlended 171 = .ok (.invokestatic 139, 3) := by decide +kernel
theorem dL_isBlended_174 : decode cL_isBlended 174 = .ok (.istore 12, 2) := by decide +kernel
theorem dL_isBlended_176 : decode cL_isBlended 176 = .ok (.aload_n 2, 1) := by decide +kernel
theorem dL_isBlended_177 : decode cL_isBlended 177 = .ok (.iconst 1, 1) := by decide +kernel
theorem dL_isBlended_178 : decode cL_isBlended 178 = .ok (.dup2, 1) := by decide +kernel
theorem dL_isBlended_179 : decode cL_isBlended 179 = .ok (.laload, 1) := by decide +kernel
theorem dL_isBlended_180 : decode cL_isBlended 180 = .ok (.iload 5, 2) := by decide +kernel
theorem dL_isBlended_182 : decode cL_isBlended 182 = .ok (.aload_n 1, 1) := by decide +kernel
theorem dL_isBlended_183 : decode cL_isBlended 183 = .ok (.bipush 70, 2) := by decide +kernel
theorem dL_isBlended_185 : decode cL_isBlended 185 = .ok (.iload 12, 2) := by decide +kernel
theorem dL_isBlended_187 : decode cL_isBlended 187 = .ok (.iadd, 1) := by decide +kernel
theorem dL_isBlended_188 : decode cL_isBlended 188 = .ok (.iaload, 1) := by decide +kernel
theorem dL_isBlended_189 : decode cL_isBlended 189 = .ok (.imul, 1) := by decide +kernel
theorem dL_isBlended_190 : decode cL_isBlended 190 = .ok (.i2l, 1) := by decide +kernel
theorem dL_isBlended_191 : decode cL_isBlended 191 = .ok (.ladd, 1) := by decide +kernel
theorem dL_isBlended_192 : decode cL_isBlended 192 = .ok (.lastore, 1) := by decide +kernel
theorem dL_isBlended_193 : decode cL_isBlended 193 = .ok (.aload_n 1, 1) := by decide +kernel
theorem dL_isBlended_194 : decode cL_isBlended 194 = .ok (.bipush 98, 2) := by decide +kernel
theorem dL_isBlended_196 : decode cL_isBlended 196 = .ok (.invokestatic 142, 3) := by decide +kernel
theorem dL_isBlended_199 : decode cL_isBlended 199 = .ok (.aload_n 0, 1) := by decide +kernel
theorem dL_isBlended_200 : decode cL_isBlended 200 = .ok (.iload_n 3, 1) := by decide +kernel
theorem dL_isBlended_201 : decode cL_isBlended 201 = .ok (.iload 4, 2) := by decide +kernel
theorem dL_isBlended_203 : decode cL_isBlended 203 = .ok (.iload 5, 2) := by decide +kernel
theorem dL_isBlended_205 : decode cL_isBlended 205 = .ok (.iload 6, 2) := by decide +kernel
theorem dL_isBlended_207 : decode cL_isBlended 207 = .ok (.invokestatic 163, 3) := by decide +kernel
theorem dL_isBlended_210 : decode cL_isBlended 210 = .ok (.iload 5, 2) := by decide +kernel
theorem dL_isBlended_212 : decode cL_isBlended 212 = .ok (.aload_n 1, 1) := by decide +kernel
theorem dL_isBlended_213 : decode cL_isBlended 213 = .ok (.bipush 70, 2) := by decide +kernel
theorem dL_isBlended_215 : decode cL_isBlended 215 = .ok (.iload 12, 2) := by decide +kernel
theorem dL_isBlended_217 : decode cL_isBlended 217 = .ok (.iadd, 1) := by decide +kernel
theorem dL_isBlended_218 : decode cL_isBlended 218 = .ok (.iaload, 1) := by decide +kernel
theorem dL_isBlended_219 : decode cL_isBlended 219 = .ok (.imul, 1) := by decide +kernel
theorem dL_isBlended_220 : decode cL_isBlended 220 = .ok (.if_icmp .ne 7, 3) := by decide +kernel
theorem dL_isBlended_223 : decode cL_isBlended 223 = .ok (.iconst 1, 1) := by decide +kernel
theorem dL_isBlended_224 : decode cL_isBlended 224 = .ok (.goto 4, 3) := by decide +kernel
theorem dL_isBlended_227 : decode cL_isBlended 227 = .ok (.iconst 0, 1) := by decide +kernel
theorem dL_isBlended_228 : decode cL_isBlended 228 = .ok (.ireturn, 1) := by decide +kernel
theorem dL_isMoved_0 : decode cL_isMoved 0 = .ok (.iload_n 2, 1) := by decide +kernel
theorem dL_isMoved_1 : decode cL_isMoved 1 = .ok (.iload_n 3, 1) := by decide +kernel
theorem dL_isMoved_2 : decode cL_isMoved 2 = .ok (.if_icmp .ne 22, 3) := by decide +kernel
theorem dL_isMoved_5 : decode cL_isMoved 5 = .ok (.aload_n 0, 1) := by decide +kernel
theorem dL_isMoved_6 : decode cL_isMoved 6 = .ok (.iload_n 2, 1) := by decide +kernel
theorem dL_isMoved_7 : decode cL_isMoved 7 = .ok (.iload_n 3, 1) := by decide +kernel
theorem dL_isMoved_8 : decode cL_isMoved 8 = .ok (.iload 4, 2) := by decide +kernel
theorem dL_isMoved_10 : decode cL_isMoved 10 = .ok (.invokestatic 169, 3) := by decide +kernel
theorem dL_isMoved_13 : decode cL_isMoved 13 = .ok (.ldc 20, 2) := by decide +kernel
theorem dL_isMoved_15 : decode cL_isMoved 15 = .ok (.if_icmp .ne 7, 3) := by decide +kernel
theorem dL_isMoved_18 : decode cL_isMoved 18 = .ok (.iconst 1, 1) := by decide +kernel
theorem dL_isMoved_19 : decode cL_isMoved 19 = .ok (.goto 4, 3) := by decide +kernel
theorem dL_isMoved_22 : decode cL_isMoved 22 = .ok (.iconst 0, 1) := by decide +kernel
theorem dL_isMoved_23 : decode cL_isMoved 23 = .ok (.ireturn, 1) := by decide +kernel
theorem dL_isMoved_24 : decode cL_isMoved 24 = .ok (.aload_n 1, 1) := by decide +kernel
theorem dL_isMoved_25 : decode cL_isMoved 25 = .ok (.iload_n 2, 1) := by decide +kernel
theorem dL_isMoved_26 : decode cL_isMoved 26 = .ok (.invokestatic 113, 3) := by decide +kernel
theorem dL_isMoved_29 : decode cL_isMoved 29 = .ok (.iload 4, 2) := by decide +kernel
theorem dL_isMoved_31 : decode cL_isMoved 31 = .ok (.if_icmp .lt 28, 3) := by decide +kernel
theorem dL_isMoved_34 : decode cL_isMoved 34 = .ok (.aload_n 1, 1) := by decide +kernel
theorem dL_isMoved_35 : decode cL_isMoved 35 = .ok (.iload_n 3, 1) := by decide +kernel
theorem dL_isMoved_36 : decode cL_isMoved 36 = .ok (.invokestatic 113, 3) := by decide +kernel
theorem dL_isMoved_39 : decode cL_isMoved 39 = .ok (.iload 4, 2) := by decide +kernel
theorem dL_isMoved_41 : decode cL_isMoved 41 = .ok (.iadd, 1) := by decide +kernel
theorem dL_isMoved_42 : decode cL_isMoved 42 = .ok (.aload_n 1, 1) := by decide +kernel
theorem dL_isMoved_43 : decode cL_isMoved 43 = .ok (.bipush 10, 2) := by decide +kernel
theorem dL_isMoved_45 : decode cL_isMoved 45 = .ok (.iload_n 3, 1) := by decide +kernel
theorem dL_isMoved_46 : decode cL_isMoved 46 = .ok (.iadd, 1) := by decide +kernel
theorem dL_isMoved_47 : decode cL_isMoved 47 = .ok (.iaload, 1) := by decide +kernel
theorem dL_isMoved_48 : decode cL_isMoved 48 = .ok (.if_icmp .gt 11, 3) := by decide +kernel
theorem dL_isMoved_51 : decode cL_isMoved 51 = .ok (.aload_n 1, 1) := by decide +kernel
theorem dL_isMoved_52 : decode cL_isMoved 52 = .ok (.iconst 2, 1) := by decide +kernel
theorem dL_isMoved_53 : decode cL_isMoved 53 = .ok (.iaload, 1) := by decide +kernel
theorem dL_isMoved_54 : decode cL_isMoved 54 = .ok (.bipush 80, 2) := by decide +kernel
theorem dL_isMoved_56 : decode cL_isMoved 56 = .ok (.if_icmp .ne 22, 3) := by decide +kernel
theorem dL_isMoved_59 : decode cL_isMoved 59 = .ok (.aload_n 0, 1) := by decide +kernel
theorem dL_isMoved_60 : decode cL_isMoved 60 = .ok (.iload_n 2, 1) := by decide +kernel
theorem dL_isMoved_61 : decode cL_isMoved 61 = .ok (.iload_n 3, 1) := by decide +kernel
theorem dL_isMoved_62 : decode cL_isMoved 62 = .ok (.iload 4, 2) := by decide +kernel
theorem dL_isMoved_64 : decode cL_isMoved 64 = .ok (.invokestatic 169, 3) := by decide +kernel
theorem dL_isMoved_67 : decode cL_isMoved 67 = .ok (.ldc 44, 2) := by decide +kernel
theorem dL_isMoved_69 : decode cL_isMoved 69 = .ok (.if_icmp .ne 7, 3) := by decide +kernel
theorem dL_isMoved_72 : decode cL_isMoved 72 = .ok (.iconst 1, 1) := by decide +kernel
theorem dL_isMoved_73 : decode cL_isMoved 73 = .ok (.goto 4, 3) := by decide +kernel
theorem dL_isMoved_76 : decode cL_isMoved 76 = .ok (.iconst 0, 1) := by decide +kernel
theorem dL_isMoved_77 : decode cL_isMoved 77 = .ok (.ireturn, 1) := by decide +kernel
theorem dL_isMoved_78 : decode cL_isMoved 78 = .ok (.aload_n 1, 1) := by decide +kernel
theorem dL_isMoved_79 : decode cL_isMoved 79 = .ok (.bipush 30, 2) := by decide +kernel
theorem dL_isMoved_81 : decode cL_isMoved 81 = .ok (.iload_n 3, 1) := by decide +kernel
theorem dL_isMoved_82 : decode cL_isMoved 82 = .ok (.iadd, 1) := by decide +kernel
theorem dL_isMoved_83 : decode cL_isMoved 83 = .ok (.iaload, 1) := by decide +kernel
theorem dL_isMoved_84 : decode cL_isMoved 84 = .ok (.istore 5, 2) := by decide +kernel
theorem dL_isMoved_86 : decode cL_isMoved 86 = .ok (.aload_n 1, 1) := by decide +kernel
theorem dL_isMoved_87 : decode cL_isMoved 87 = .ok (.iload_n 2, 1) := by decide +kernel
theorem dL_isMoved_88 : decode cL_isMoved 88 = .ok (.iload 4, 2) := by decide +kernel
theorem dL_isMoved_90 : decode cL_isMoved 90 = .ok (.iload_n 3, 1) := by decide +kernel
theorem dL_isMoved_91 : decode cL_isMoved 91 = .ok (.invokestatic 124, 3) := by decide +kernel
theorem dL_isMoved_94 : decode cL_isMoved 94 = .ok (.astore 6, 2) := by decide +kernel
theorem dL_isMoved_96 : decode cL_isMoved 96 = .ok (.aload_n 1, 1) := by decide +kernel
theorem dL_isMoved_97 : decode cL_isMoved 97 = .ok (.bipush 116, 2) := by decide +kernel
theorem dL_isMoved_99 : decode cL_isMoved 99 = .ok (.invokestatic 142, 3) := by decide +kernel
theorem dL_isMoved_102 : decode cL_isMoved 102 = .ok (.aload_n 0, 1) := by decide +kernel
theorem dL_isMoved_103 : decode cL_isMoved 103 = .ok (.iload_n 2, 1) := by decide +kernel
theorem dL_isMoved_104 : decode cL_isMoved 104 = .ok (.iload_n 3, 1) := by decide +kernel
theorem dL_isMoved_105 : decode cL_isMoved 105 = .ok (.iload 4, 2) := by decide +kernel
theorem dL_isMoved_107 : decode cL_isMoved 107 = .ok (.invokestatic 169, 3) := by decide +kernel
theorem dL_isMoved_110 : decode cL_isMoved 110 = .ok (.aload_n 1, 1) := by decide +kernel
theorem dL_isMoved_111 : decode cL_isMoved 111 = .ok (.bipush 30, 2) := by decide +kernel
theorem dL_isMoved_113 : decode cL_isMoved 113 = .ok (.iload_n 3, 1) := by decide +kernel
theorem dL_isMoved_114 : decode cL_isMoved 114 = .ok (.iadd, 1) := by decide +kernel
theorem dL_isMoved_115 : decode cL_isMoved 115 = .ok (.iaload, 1) := by decide +kernel
theorem dL_isMoved_116 : decode cL_isMoved 116 = .ok (.iload 5, 2) := by decide +kernel
theorem dL_isMoved_118 : decode cL_isMoved 118 = .ok (.isub, 1) := by decide +kernel
theorem dL_isMoved_119 : decode cL_isMoved 119 = .ok (.if_icmp .ne 14, 3) := by decide +kernel
theorem dL_isMoved_122 : decode cL_isMoved 122 = .ok (.aload 6, 2) := by decide +kernel
theorem dL_isMoved_124 : decode cL_isMoved 124 = .ok (.iconst 1, 1) := by decide +kernel
theorem dL_isMoved_125 : decode cL_isMoved 125 = .ok (.iaload, 1) := by decide +kernel
theorem dL_isMoved_126 : decode cL_isMoved 126 = .ok (.ifCond .le 7, 3) := by decide +kernel
theorem dL_isMoved_129 : decode cL_isMoved 129 = .ok (.iconst 1, 1) := by decide +kernel
theorem dL_isMoved_130 : decode cL_isMoved 130 = .ok (.goto 4, 3) := by decide +kernel
theorem dL_isMoved_133 : decode cL_isMoved 133 = .ok (.iconst 0, 1) := by decide +kernel
theorem dL_isMoved_134 : decode cL_isMoved 134 = .ok (.ireturn, 1) := by decide +kernel
theorem dL_isDone_0 : decode cL_isDone 0 = .ok (.aload_n 3, 1) := by decide +kernel
theorem dL_isDone_1 : decode cL_isDone 1 = .ok (.iload 4, 2) := by decide +kernel
theorem dL_isDone_3 : decode cL_isDone 3 = .ok (.iconst 1, 1) := by decide +kernel
theorem dL_isDone_4 : decode cL_isDone 4 = .ok (.iadd, 1) := by decide +kernel
theorem dL_isDone_5 : decode cL_isDone 5 = .ok (.aload_n 1, 1) := by decide +kernel
theorem dL_isDone_6 : decode cL_isDone 6 = .ok (.iconst 0, 1) := by decide +kernel
theorem dL_isDone_7 : decode cL_isDone 7 = .ok (.iaload, 1) := by decide +kernel
theorem dL_isDone_8 : decode cL_isDone 8 = .ok (.invokestatic 132, 3) := by decide +kernel
theorem dL_isDone_11 : decode cL_isDone 11 = .ok (.istore 5, 2) := by decide +kernel
theorem dL_isDone_13 : decode cL_isDone 13 = .ok (.iconst 1, 1) := by decide +kernel
theorem dL_isDone_14 : decode cL_isDone 14 = .ok (.aload_n 3, 1) := by decide +kernel
theorem dL_isDone_15 : decode cL_isDone 15 = .ok (.iload 4, 2) := by decide +kernel
theorem dL_isDone_17 : decode cL_isDone 17 = .ok (.iconst 2, 1) := by decide +kernel
theorem dL_isDone_18 : decode cL_isDone 18 = .ok (.iadd, 1) := by decide +kernel
theorem dL_isDone_19 : decode cL_isDone 19 = .ok (.bipush 70, 2) := by decide +kernel
theorem dL_isDone_21 : decode cL_isDone 21 = .ok (.invokestatic 132, 3) := by decide +kernel
theorem dL_isDone_24 : decode cL_isDone 24 = .ok (.iadd, 1) := by decide +kernel
theorem dL_isDone_25 : decode cL_isDone 25 = .ok (.istore 6, 2) := by decide +kernel
theorem dL_isDone_27 : decode cL_isDone 27 = .ok (.aload_n 3, 1) := by decide +kernel
theorem dL_isDone_28 : decode cL_isDone 28 = .ok (.iload 4, 2) := by decide +kernel
theorem dL_isDone_30 : decode cL_isDone 30 = .ok (.bipush 16, 2) := by decide +kernel
theorem dL_isDone_32 : decode cL_isDone 32 = .ok (.invokestatic 132, 3) := by decide +kernel
theorem dL_isDone_35 : decode cL_isDone 35 = .ok (.tableswitch 543 0 12 #[65, 101, 214, 249, 313, 368, 368, 455, 455, 455, 476, 476, 498], 65) := by decide +kernel
theorem dL_isDone_100 : decode cL_isDone 100 = .ok (.aload_n 0, 1) := by decide +kernel
theorem dL_isDone_101 : decode cL_isDone 101 = .ok (.aload_n 1, 1) := by decide +kernel
theorem dL_isDone_102 : decode cL_isDone 102 = .ok (.iconst 1, 1) := by decide +kernel
theorem dL_isDone_103 : decode cL_isDone 103 = .ok (.aload_n 3, 1) := by decide +kernel
theorem dL_isDone_104 : decode cL_isDone 104 = .ok (.iload 4, 2) := by decide +kernel
theorem dL_isDone_106 : decode cL_isDone 106 = .ok (.iconst 1, 1) := by decide +kernel
theorem dL_isDone_107 : decode cL_isDone 107 = .ok (.iadd, 1) := by decide +kernel
theorem dL_isDone_108 : decode cL_isDone 108 = .ok (.sipush 400, 3) := by decide +kernel
theorem dL_isDone_111 : decode cL_isDone 111 = .ok (.invokestatic 132, 3) := by decide +kernel
theorem dL_isDone_114 : decode cL_isDone 114 = .ok (.iadd, 1) := by decide +kernel
theorem dL_isDone_115 : decode cL_isDone 115 = .ok (.aload_n 3, 1) := by decide +kernel
theorem dL_isDone_116 : decode cL_isDone 116 = .ok (.iload 4, 2) := by decide +kernel
theorem dL_isDone_118 : decode cL_isDone 118 = .ok (.iconst 2, 1) := by decide +kernel
theorem dL_isDone_119 : decode cL_isDone 119 = .ok (.iadd, 1) := by decide +kernel
theorem dL_isDone_120 : decode cL_isDone 120 = .ok (.iconst 2, 1) := by decide +kernel
theorem dL_isDone_121 : decode cL_isDone 121 = .ok (.invokestatic 132, 3) := by decide +kernel
theorem dL_isDone_124 : decode cL_isDone 124 = .ok (.ifCond .ne 7, 3) := by decide +kernel
theorem dL_isDone_127 : decode cL_isDone 127 = .ok (.iconst 1, 1) := by decide +kernel
theorem dL_isDone_128 : decode cL_isDone 128 = .ok (.goto 4, 3) := by decide +kernel
theorem dL_isDone_131 : decode cL_isDone 131 = .ok (.iconst 0, 1) := by decide +kernel
theorem dL_isDone_132 : decode cL_isDone 132 = .ok (.invokestatic 150, 3) := by decide +kernel
theorem dL_isDone_135 : decode cL_isDone 135 = .ok (.ireturn, 1) := by decide +kernel
theorem dL_isDone_136 : decode cL_isDone 136 = .ok (.bipush 40, 2) := by decide +kernel
theorem dL_isDone_138 : decode cL_isDone 138 = .ok (.bipush 6, 2) := by decide +kernel
theorem dL_isDone_140 : decode cL_isDone 140 = .ok (.aload_n 3, 1) := by decide +kernel
theorem dL_isDone_141 : decode cL_isDone 141 = .ok (.iload 4, 2) := by decide +kernel
theorem dL_isDone_143 : decode cL_isDone 143 = .ok (.iconst 1, 1) := by decide +kernel
theorem dL_isDone_144 : decode cL_isDone 144 = .ok (.iadd, 1) := by decide +kernel
theorem dL_isDone_145 : decode cL_isDone 145 = .ok (.iconst 4, 1) := by decide +kernel
theorem dL_isDone_146 : decode cL_isDone 146 = .ok (.invokestatic 132, 3) := by decide +kernel
theorem dL_isDone_149 : decode cL_isDone 149 = .ok (.imul, 1) := by decide +kernel
theorem dL_isDone_150 : decode cL_isDone 150 = .ok (.iadd, 1) := by decide +kernel
theorem dL_isDone_151 : decode cL_isDone 151 = .ok (.iconst 2, 1) := by decide +kernel
theorem dL_isDone_152 : decode cL_isDone 152 = .ok (.aload_n 3, 1) := by decide +kernel
theorem dL_isDone_153 : decode cL_isDone 153 = .ok (.iload 4, 2) := by decide +kernel
theorem dL_isDone_155 : decode cL_isDone 155 = .ok (.iconst 2, 1) := by decide +kernel
theorem dL_isDone_156 : decode cL_isDone 156 = .ok (.iadd, 1) := by decide +kernel
theorem dL_isDone_157 : decode cL_isDone 157 = .ok (.iconst 3, 1) := by decide +kernel
theorem dL_isDone_158 : decode cL_isDone 158 = .ok (.invokestatic 132, 3) := by decide +kernel
theorem dL_isDone_161 : decode cL_isDone 161 = .ok (.imul, 1) := by decide +kernel
theorem dL_isDone_162 : decode cL_isDone 162 = .ok (.iadd, 1) := by decide +kernel
theorem dL_isDone_163 : decode cL_isDone 163 = .ok (.istore 7, 2) := by decide +kernel
theorem dL_isDone_165 : decode cL_isDone 165 = .ok (.aload_n 1, 1) := by decide +kernel
theorem dL_isDone_166 : decode cL_isDone 166 = .ok (.iload 7, 2) := by decide +kernel
theorem dL_isDone_168 : decode cL_isDone 168 = .ok (.iaload, 1) := by decide +kernel
theorem dL_isDone_169 : decode cL_isDone 169 = .ok (.istore 8, 2) := by decide +kernel
theorem dL_isDone_171 : decode cL_isDone 171 = .ok (.aload_n 1, 1) := by decide +kernel
theorem dL_isDone_172 : decode cL_isDone 172 = .ok (.iload 7, 2) := by decide +kernel
theorem dL_isDone_174 : decode cL_isDone 174 = .ok (.bipush 100, 2) := by decide +kernel
theorem dL_isDone_176 : decode cL_isDone 176 = .ok (.aload_n 3, 1) := by decide +kernel
theorem dL_isDone_177 : decode cL_isDone 177 = .ok (.iload 4, 2) := by decide +kernel
theorem dL_isDone_179 : decode cL_isDone 179 = .ok (.iconst 3, 1) := by decide +kernel
theorem dL_isDone_180 : decode cL_isDone 180 = .ok (.iadd, 1) := by decide +kernel
theorem dL_isDone_181 : decode cL_isDone 181 = .ok (.bipush 100, 2) := by decide +kernel
theorem dL_isDone_183 : decode cL_isDone 183 = .ok (.invokestatic 132, 3) := by decide +kernel
theorem dL_isDone_186 : decode cL_isDone 186 = .ok (.iadd, 1) := by decide +kernel
theorem dL_isDone_187 : decode cL_isDone 187 = .ok (.iastore, 1) := by decide +kernel
theorem dL_isDone_188 : decode cL_isDone 188 = .ok (.aload_n 1, 1) := by decide +kernel
theorem dL_isDone_189 : decode cL_isDone 189 = .ok (.iload 7, 2) := by decide +kernel
theorem dL_isDone_191 : decode cL_isDone 191 = .ok (.iconst 1, 1) := by decide +kernel
theorem dL_isDone_192 : decode cL_isDone 192 = .ok (.iadd, 1) := by decide +kernel
theorem dL_isDone_193 : decode cL_isDone 193 = .ok (.aload_n 3, 1) := by decide +kernel
theorem dL_isDone_194 : decode cL_isDone 194 = .ok (.iload 4, 2) := by decide +kernel
theorem dL_isDone_196 : decode cL_isDone 196 = .ok (.iconst 4, 1) := by decide +kernel
theorem dL_isDone_197 : decode cL_isDone 197 = .ok (.iadd, 1) := by decide +kernel
theorem dL_isDone_198 : decode cL_isDone 198 = .ok (.bipush 60, 2) := by decide +kernel
theorem dL_isDone_200 : decode cL_isDone 200 = .ok (.invokestatic 132, 3) := by decide +kernel
theorem dL_isDone_203 : decode cL_isDone 203 = .ok (.iastore, 1) := by decide +kernel
theorem dL_isDone_204 : decode cL_isDone 204 = .ok (.aload_n 0, 1) := by decide +kernel
theorem dL_isDone_205 : decode cL_isDone 205 = .ok (.iload 7, 2) := by decide +kernel
theorem dL_isDone_207 : decode cL_isDone 207 = .ok (.bipush 40, 2) := by decide +kernel
theorem dL_isDone_209 : decode cL_isDone 209 = .ok (.isub, 1) := by decide +kernel
theorem dL_isDone_210 : decode cL_isDone 210 = .ok (.bipush 6, 2) := by decide +kernel
theorem dL_isDone_212 : decode cL_isDone 212 = .ok (.idiv, 1) := by decide +kernel
theorem dL_isDone_213 : decode cL_isDone 213 = .ok (.iconst 1, 1) := by decide +kernel
theorem dL_isDone_214 : decode cL_isDone 214 = .ok (.iload 7, 2) := by decide +kernel
theorem dL_isDone_216 : decode cL_isDone 216 = .ok (.bipush 40, 2) := by decide +kernel
theorem dL_isDone_218 : decode cL_isDone 218 = .ok (.isub, 1) := by decide +kernel
theorem dL_isDone_219 : decode cL_isDone 219 = .ok (.bipush 6, 2) := by decide +kernel
theorem dL_isDone_221 : decode cL_isDone 221 = .ok (.irem, 1) := by decide +kernel
theorem dL_isDone_222 : decode cL_isDone 222 = .ok (.iconst 2, 1) := by decide +kernel
theorem dL_isDone_223 : decode cL_isDone 223 = .ok (.idiv, 1) := by decide +kernel
theorem dL_isDone_224 : decode cL_isDone 224 = .ok (.iadd, 1) := by decide +kernel
theorem dL_isDone_225 : decode cL_isDone 225 = .ok (.aload_n 1, 1) := by decide +kernel
theorem dL_isDone_226 : decode cL_isDone 226 = .ok (.iload 7, 2) := by decide +kernel
theorem dL_isDone_228 : decode cL_isDone 228 = .ok (.iaload, 1) := by decide +kernel
theorem dL_isDone_229 : decode cL_isDone 229 = .ok (.aload_n 1, 1) := by decide +kernel
theorem dL_isDone_230 : decode cL_isDone 230 = .ok (.iload 7, 2) := by decide +kernel
theorem dL_isDone_232 : decode cL_isDone 232 = .ok (.iconst 1, 1) := by decide +kernel
theorem dL_isDone_233 : decode cL_isDone 233 = .ok (.iadd, 1) := by decide +kernel
theorem dL_isDone_234 : decode cL_isDone 234 = .ok (.iaload, 1) := by decide +kernel
theorem dL_isDone_235 : decode cL_isDone 235 = .ok (.invokestatic 172, 3) := by decide +kernel
theorem dL_isDone_238 : decode cL_isDone 238 = .ok (.iload 8, 2) := by decide +kernel
theorem dL_isDone_240 : decode cL_isDone 240 = .ok (.if_icmp .ne 7, 3) := by decide +kernel
theorem dL_isDone_243 : decode cL_isDone 243 = .ok (.iconst 1, 1) := by decide +kernel
theorem dL_isDone_244 : decode cL_isDone 244 = .ok (.goto 4, 3) := by decide +kernel
theorem dL_isDone_247 : decode cL_isDone 247 = .ok (.iconst 0, 1) := by decide +kernel
theorem dL_isDone_248 : decode cL_isDone 248 = .ok (.ireturn, 1) := by decide +kernel
theorem dL_isDone_249 : decode cL_isDone 249 = .ok (.aload_n 1, 1) := by decide +kernel
theorem dL_isDone_250 : decode cL_isDone 250 = .ok (.iconst 1, 1) := by decide +kernel
theorem dL_isDone_251 : decode cL_isDone 251 = .ok (.iaload, 1) := by decide +kernel
theorem dL_isDone_252 : decode cL_isDone 252 = .ok (.istore 7, 2) := by decide +kernel
theorem dL_isDone_254 : decode cL_isDone 254 = .ok (.aload_n 1, 1) := by decide +kernel
theorem dL_isDone_255 : decode cL_isDone 255 = .ok (.iconst 1, 1) := by decide +kernel
theorem dL_isDone_256 : decode cL_isDone 256 = .ok (.aload_n 3, 1) := by decide +kernel
theorem dL_isDone_257 : decode cL_isDone 257 = .ok (.iload 4, 2) := by decide +kernel
theorem dL_isDone_259 : decode cL_isDone 259 = .ok (.iconst 1, 1) := by decide +kernel
theorem dL_isDone_260 : decode cL_isDone 260 = .ok (.iadd, 1) := by decide +kernel
theorem dL_isDone_261 : decode cL_isDone 261 = .ok (.iconst 4, 1) := by decide +kernel
theorem dL_isDone_262 : decode cL_isDone 262 = .ok (.invokestatic 132, 3) := by decide +kernel
theorem dL_isDone_265 : decode cL_isDone 265 = .ok (.iastore, 1) := by decide +kernel
theorem dL_isDone_266 : decode cL_isDone 266 = .ok (.aload_n 0, 1) := by decide +kernel
theorem dL_isDone_267 : decode cL_isDone 267 = .ok (.aload_n 1, 1) := by decide +kernel
theorem dL_isDone_268 : decode cL_isDone 268 = .ok (.iconst 1, 1) := by decide +kernel
theorem dL_isDone_269 : decode cL_isDone 269 = .ok (.iaload, 1) := by decide +kernel
theorem dL_isDone_270 : decode cL_isDone 270 = .ok (.invokestatic 174, 3) := by decide +kernel
theorem dL_isDone_273 : decode cL_isDone 273 = .ok (.iload 7, 2) := by decide +kernel
theorem dL_isDone_275 : decode cL_isDone 275 = .ok (.if_icmp .ne 7, 3) := by decide +kernel
theorem dL_isDone_278 : decode cL_isDone 278 = .ok (.iconst 1, 1) := by decide +kernel
theorem dL_isDone_279 : decode cL_isDone 279 = .ok (.goto 4, 3) := by decide +kernel
theorem dL_isDone_282 : decode cL_isDone 282 = .ok (.iconst 0, 1) := by decide +kernel
theorem dL_isDone_283 : decode cL_isDone 283 = .ok (.ireturn, 1) := by decide +kernel
theorem dL_isDone_284 : decode cL_isDone 284 = .ok (.iconst 1, 1) := by decide +kernel
theorem dL_isDone_285 : decode cL_isDone 285 = .ok (.aload_n 3, 1) := by decide +kernel
theorem dL_isDone_286 : decode cL_isDone 286 = .ok (.iload 4, 2) := by decide +kernel
theorem dL_isDone_288 : decode cL_isDone 288 = .ok (.iconst 1, 1) := by decide +kernel
theorem dL_isDone_289 : decode cL_isDone 289 = .ok (.iadd, 1) := by decide +kernel
theorem dL_isDone_290 : decode cL_isDone 290 = .ok (.iconst 4, 1) := by decide +kernel
theorem dL_isDone_291 : decode cL_isDone 291 = .ok (.invokestatic 132, 3) := by decide +kernel
theorem dL_isDone_294 : decode cL_isDone 294 = .ok (.iadd, 1) := by decide +kernel
theorem dL_isDone_295 : decode cL_isDone 295 = .ok (.istore 7, 2) := by decide +kernel
theorem dL_isDone_297 : decode cL_isDone 297 = .ok (.aload_n 1, 1) := by decide +kernel
theorem dL_isDone_298 : decode cL_isDone 298 = .ok (.bipush 70, 2) := by decide +kernel
theorem dL_isDone_300 : decode cL_isDone 300 = .ok (.iload 7, 2) := by decide +kernel
theorem dL_isDone_302 : decode cL_isDone 302 = .ok (.iadd, 1) := by decide +kernel
theorem dL_isDone_303 : decode cL_isDone 303 = .ok (.iaload, 1) := by decide +kernel
theorem dL_isDone_304 : decode cL_isDone 304 = .ok (.istore 8, 2) := by decide +kernel
theorem dL_isDone_306 : decode cL_isDone 306 = .ok (.aload_n 1, 1) := by decide +kernel
theorem dL_isDone_307 : decode cL_isDone 307 = .ok (.bipush 70, 2) := by decide +kernel
theorem dL_isDone_309 : decode cL_isDone 309 = .ok (.iload 7, 2) := by decide +kernel
theorem dL_isDone_311 : decode cL_isDone 311 = .ok (.iadd, 1) := by decide +kernel
theorem dL_isDone_312 : decode cL_isDone 312 = .ok (.aload_n 3, 1) := by decide +kernel
theorem dL_isDone_313 : decode cL_isDone 313 = .ok (.iload 4, 2) := by decide +kernel
theorem dL_isDone_315 : decode cL_isDone 315 = .ok (.iconst 2, 1) := by decide +kernel
theorem dL_isDone_316 : decode cL_isDone 316 = .ok (.iadd, 1) := by decide +kernel
theorem dL_isDone_317 : decode cL_isDone 317 = .ok (.sipush 900, 3) := by decide +kernel
theorem dL_isDone_320 : decode cL_isDone 320 = .ok (.invokestatic 132, 3) := by decide +kernel
theorem dL_isDone_323 : decode cL_isDone 323 = .ok (.iastore, 1) := by decide +kernel
theorem dL_isDone_324 : decode cL_isDone 324 = .ok (.aload_n 0, 1) := by decide +kernel
theorem dL_isDone_325 : decode cL_isDone 325 = .ok (.iload 7, 2) := by decide +kernel
theorem dL_isDone_327 : decode cL_isDone 327 = .ok (.aload_n 1, 1) := by decide +kernel
theorem dL_isDone_328 : decode cL_isDone 328 = .ok (.bipush 70, 2) := by decide +kernel
theorem dL_isDone_330 : decode cL_isDone 330 = .ok (.iload 7, 2) := by decide +kernel
theorem dL_isDone_332 : decode cL_isDone 332 = .ok (.iadd, 1) := by decide +kernel
theorem dL_isDone_333 : decode cL_isDone 333 = .ok (.iaload, 1) := by decide +kernel
theorem dL_isDone_334 : decode cL_isDone 334 = .ok (.invokestatic 177, 3) := by decide +kernel
theorem dL_isDone_337 : decode cL_isDone 337 = .ok (.iload 8, 2) := by decide +kernel
theorem dL_isDone_339 : decode cL_isDone 339 = .ok (.if_icmp .ne 7, 3) := by decide +kernel
theorem dL_isDone_342 : decode cL_isDone 342 = .ok (.iconst 1, 1) := by decide +kernel
theorem dL_isDone_343 : decode cL_isDone 343 = .ok (.goto 4, 3) := by decide +kernel
theorem dL_isDone_346 : decode cL_isDone 346 = .ok (.iconst 0, 1) := by decide +kernel
theorem dL_isDone_347 : decode cL_isDone 347 = .ok (.ireturn, 1) := by decide +kernel
theorem dL_isDone_348 : decode cL_isDone 348 = .ok (.aload_n 1, 1) := by decide +kernel
theorem dL_isDone_349 : decode cL_isDone 349 = .ok (.iconst 4, 1) := by decide +kernel
theorem dL_isDone_350 : decode cL_isDone 350 = .ok (.iaload, 1) := by decide +kernel
theorem dL_isDone_351 : decode cL_isDone 351 = .ok (.istore 7, 2) := by decide +kernel
theorem dL_isDone_353 : decode cL_isDone 353 = .ok (.aload_n 1, 1) := by decide +kernel
theorem dL_isDone_354 : decode cL_isDone 354 = .ok (.iconst 4, 1) := by decide +kernel
theorem dL_isDone_355 : decode cL_isDone 355 = .ok (.aload_n 3, 1) := by decide +kernel
theorem dL_isDone_356 : decode cL_isDone 356 = .ok (.iload 4, 2) := by decide +kernel
theorem dL_isDone_358 : decode cL_isDone 358 = .ok (.iconst 2, 1) := by decide +kernel
theorem dL_isDone_359 : decode cL_isDone 359 = .ok (.iadd, 1) := by decide +kernel
theorem dL_isDone_360 : decode cL_isDone 360 = .ok (.sipush 1000, 3) := by decide +kernel
theorem dL_isDone_363 : decode cL_isDone 363 = .ok (.invokestatic 132, 3) := by decide +kernel
theorem dL_isDone_366 : decode cL_isDone 366 = .ok (.iastore, 1) := by decide +kernel
theorem dL_isDone_367 : decode cL_isDone 367 = .ok (.aload_n 2, 1) := by decide +kernel
theorem dL_isDone_368 : decode cL_isDone 368 = .ok (.iconst 0, 1) := by decide +kernel
theorem dL_isDone_369 : decode cL_isDone 369 = .ok (.dup2, 1) := by decide +kernel
theorem dL_isDone_370 : decode cL_isDone 370 = .ok (.laload, 1) := by decide +kernel
theorem dL_isDone_371 : decode cL_isDone 371 = .ok (.aload_n 1, 1) := by decide +kernel
theorem dL_isDone_372 : decode cL_isDone 372 = .ok (.iconst 5, 1) := by decide +kernel
theorem dL_isDone_373 : decode cL_isDone 373 = .ok (.iaload, 1) := by decide +kernel
theorem dL_isDone_374 : decode cL_isDone 374 = .ok (.i2l, 1) := by decide +kernel
theorem dL_isDone_375 : decode cL_isDone 375 = .ok (.iload 7, 2) := by decide +kernel
theorem dL_isDone_377 : decode cL_isDone 377 = .ok (.aload_n 1, 1) := by decide +kernel
theorem dL_isDone_378 : decode cL_isDone 378 = .ok (.iconst 4, 1) := by decide +kernel
theorem dL_isDone_379 : decode cL_isDone 379 = .ok (.iaload, 1) := by decide +kernel
theorem dL_isDone_380 : decode cL_isDone 380 = .ok (.isub, 1) := by decide +kernel
theorem dL_isDone_381 : decode cL_isDone 381 = .ok (.i2l, 1) := by decide +kernel
theorem dL_isDone_382 : decode cL_isDone 382 = .ok (.lmul, 1) := by decide +kernel
theorem dL_isDone_383 : decode cL_isDone 383 = .ok (.ladd, 1) := by decide +kernel
theorem dL_isDone_384 : decode cL_isDone 384 = .ok (.lastore, 1) := by decide +kernel
theorem dL_isDone_385 : decode cL_isDone 385 = .ok (.aload_n 0, 1) := by decide +kernel
theorem dL_isDone_386 : decode cL_isDone 386 = .ok (.aload_n 1, 1) := by decide +kernel
theorem dL_isDone_387 : decode cL_isDone 387 = .ok (.iconst 4, 1) := by decide +kernel
theorem dL_isDone_388 : decode cL_isDone 388 = .ok (.iaload, 1) := by decide +kernel
theorem dL_isDone_389 : decode cL_isDone 389 = .ok (.invokestatic 179, 3) := by decide +kernel
theorem dL_isDone_392 : decode cL_isDone 392 = .ok (.iload 7, 2) := by decide +kernel
theorem dL_isDone_394 : decode cL_isDone 394 = .ok (.if_icmp .ne 7, 3) := by decide +kernel
theorem dL_isDone_397 : decode cL_isDone 397 = .ok (.iconst 1, 1) := by decide +kernel
theorem dL_isDone_398 : decode cL_isDone 398 = .ok (.goto 4, 3) := by decide +kernel
theorem dL_isDone_401 : decode cL_isDone 401 = .ok (.iconst 0, 1) := by decide +kernel
theorem dL_isDone_402 : decode cL_isDone 402 = .ok (.ireturn, 1) := by decide +kernel
theorem dL_isDone_403 : decode cL_isDone 403 = .ok (.aload_n 1, 1) := by decide +kernel
theorem dL_isDone_404 : decode cL_isDone 404 = .ok (.iload 5, 2) := by decide +kernel
theorem dL_isDone_406 : decode cL_isDone 406 = .ok (.invokestatic 113, 3) := by decide +kernel
theorem dL_isDone_409 : decode cL_isDone 409 = .ok (.iload 6, 2) := by decide +kernel
theorem dL_isDone_411 : decode cL_isDone 411 = .ok (.if_icmp .lt 11, 3) := by decide +kernel
theorem dL_isDone_414 : decode cL_isDone 414 = .ok (.aload_n 1, 1) := by decide +kernel
theorem dL_isDone_415 : decode cL_isDone 415 = .ok (.iconst 2, 1) := by decide +kernel
theorem dL_isDone_416 : decode cL_isDone 416 = .ok (.iaload, 1) := by decide +kernel
theorem dL_isDone_417 : decode cL_isDone 417 = .ok (.bipush 80, 2) := by decide +kernel
theorem dL_isDone_419 : decode cL_isDone 419 = .ok (.if_icmp .ne 22, 3) := by decide +kernel
theorem dL_isDone_422 : decode cL_isDone 422 = .ok (.aload_n 0, 1) := by decide +kernel
theorem dL_isDone_423 : decode cL_isDone 423 = .ok (.iload 5, 2) := by decide +kernel
theorem dL_isDone_425 : decode cL_isDone 425 = .ok (.iload 6, 2) := by decide +kernel
theorem dL_isDone_427 : decode cL_isDone 427 = .ok (.invokestatic 181, 3) := by decide +kernel
theorem dL_isDone_430 : decode cL_isDone 430 = .ok (.ldc 44, 2) := by decide +kernel
theorem dL_isDone_432 : decode cL_isDone 432 = .ok (.if_icmp .ne 7, 3) := by decide +kernel
theorem dL_isDone_435 : decode cL_isDone 435 = .ok (.iconst 1, 1) := by decide +kernel
theorem dL_isDone_436 : decode cL_isDone 436 = .ok (.goto 4, 3) := by decide +kernel
theorem dL_isDone_439 : decode cL_isDone 439 = .ok (.iconst 0, 1) := by decide +kernel
theorem dL_isDone_440 : decode cL_isDone 440 = .ok (.ireturn, 1) := by decide +kernel
theorem dL_isDone_441 : decode cL_isDone 441 = .ok (.aload_n 1, 1) := by decide +kernel
theorem dL_isDone_442 : decode cL_isDone 442 = .ok (.iload 5, 2) := by decide +kernel
theorem dL_isDone_444 : decode cL_isDone 444 = .ok (.iload 6, 2) := by decide +kernel
theorem dL_isDone_446 : decode cL_isDone 446 = .ok (.iconst (-1), 1) := by decide +kernel
theorem dL_isDone_447 : decode cL_isDone 447 = .ok (.invokestatic 124, 3) := by decide +kernel
theorem dL_isDone_450 : decode cL_isDone 450 = .ok (.astore 7, 2) := by decide +kernel
theorem dL_isDone_452 : decode cL_isDone 452 = .ok (.aload_n 2, 1) := by decide +kernel
theorem dL_isDone_453 : decode cL_isDone 453 = .ok (.iconst 1, 1) := by decide +kernel
theorem dL_isDone_454 : decode cL_isDone 454 = .ok (.dup2, 1) := by decide +kernel
theorem dL_isDone_455 : decode cL_isDone 455 = .ok (.laload, 1) := by decide +kernel
theorem dL_isDone_456 : decode cL_isDone 456 = .ok (.aload 7, 2) := by decide +kernel
theorem dL_isDone_458 : decode cL_isDone 458 = .ok (.iconst 0, 1) := by decide +kernel
theorem dL_isDone_459 : decode cL_isDone 459 = .ok (.iaload, 1) := by decide +kernel
theorem dL_isDone_460 : decode cL_isDone 460 = .ok (.i2l, 1) := by decide +kernel
theorem dL_isDone_461 : decode cL_isDone 461 = .ok (.ladd, 1) := by decide +kernel
theorem dL_isDone_462 : decode cL_isDone 462 = .ok (.lastore, 1) := by decide +kernel
theorem dL_isDone_463 : decode cL_isDone 463 = .ok (.aload_n 1, 1) := by decide +kernel
theorem dL_isDone_464 : decode cL_isDone 464 = .ok (.bipush 115, 2) := by decide +kernel
theorem dL_isDone_466 : decode cL_isDone 466 = .ok (.invokestatic 142, 3) := by decide +kernel
theorem dL_isDone_469 : decode cL_isDone 469 = .ok (.aload_n 0, 1) := by decide +kernel
theorem dL_isDone_470 : decode cL_isDone 470 = .ok (.iload 5, 2) := by decide +kernel
theorem dL_isDone_472 : decode cL_isDone 472 = .ok (.iload 6, 2) := by decide +kernel
theorem dL_isDone_474 : decode cL_isDone 474 = .ok (.invokestatic 181, 3) := by decide +kernel
theorem dL_isDone_477 : decode cL_isDone 477 = .ok (.aload 7, 2) := by decide +kernel
theorem dL_isDone_479 : decode cL_isDone 479 = .ok (.iconst 0, 1) := by decide +kernel
theorem dL_isDone_480 : decode cL_isDone 480 = .ok (.iaload, 1) := by decide +kernel
theorem dL_isDone_481 : decode cL_isDone 481 = .ok (.if_icmp .ne 7, 3) := by decide +kernel
theorem dL_isDone_484 : decode cL_isDone 484 = .ok (.iconst 1, 1) := by decide +kernel
theorem dL_isDone_485 : decode cL_isDone 485 = .ok (.goto 4, 3) := by decide +kernel
theorem dL_isDone_488 : decode cL_isDone 488 = .ok (.iconst 0, 1) := by decide +kernel
theorem dL_isDone_489 : decode cL_isDone 489 = .ok (.ireturn, 1) := by decide +kernel
theorem dL_isDone_490 : decode cL_isDone 490 = .ok (.aload_n 0, 1) := by decide +kernel
theorem dL_isDone_491 : decode cL_isDone 491 = .ok (.aload_n 1, 1) := by decide +kernel
theorem dL_isDone_492 : decode cL_isDone 492 = .ok (.iload 5, 2) := by decide +kernel
theorem dL_isDone_494 : decode cL_isDone 494 = .ok (.aload_n 3, 1) := by decide +kernel
theorem dL_isDone_495 : decode cL_isDone 495 = .ok (.iload 4, 2) := by decide +kernel
theorem dL_isDone_497 : decode cL_isDone 497 = .ok (.iconst 3, 1) := by decide +kernel
theorem dL_isDone_498 : decode cL_isDone 498 = .ok (.iadd, 1) := by decide +kernel
theorem dL_isDone_499 : decode cL_isDone 499 = .ok (.aload_n 1, 1) := by decide +kernel
theorem dL_isDone_500 : decode cL_isDone 500 = .ok (.iconst 0, 1) := by decide +kernel
theorem dL_isDone_501 : decode cL_isDone 501 = .ok (.iaload, 1) := by decide +kernel
theorem dL_isDone_502 : decode cL_isDone 502 = .ok (.invokestatic 132, 3) := by decide +kernel
theorem dL_isDone_505 : decode cL_isDone 505 = .ok (.iload 6, 2) := by decide +kernel
theorem dL_isDone_507 : decode cL_isDone 507 = .ok (.invokestatic 183, 3) := by decide +kernel
theorem dL_isDone_510 : decode cL_isDone 510 = .ok (.ireturn, 1) := by decide +kernel
theorem dL_isDone_511 : decode cL_isDone 511 = .ok (.aload_n 0, 1) := by decide +kernel
theorem dL_isDone_512 : decode cL_isDone 512 = .ok (.aload_n 1, 1) := by decide +kernel
theorem dL_isDone_513 : decode cL_isDone 513 = .ok (.aload_n 2, 1) := by decide +kernel
theorem dL_isDone_514 : decode cL_isDone 514 = .ok (.iload 5, 2) := by decide +kernel
theorem dL_isDone_516 : decode cL_isDone 516 = .ok (.bipush 100, 2) := by decide +kernel
theorem dL_isDone_518 : decode cL_isDone 518 = .ok (.aload_n 3, 1) := by decide +kernel
theorem dL_isDone_519 : decode cL_isDone 519 = .ok (.iload 4, 2) := by decide +kernel
theorem dL_isDone_521 : decode cL_isDone 521 = .ok (.iconst 3, 1) := by decide +kernel
theorem dL_isDone_522 : decode cL_isDone 522 = .ok (.iadd, 1) := by decide +kernel
theorem dL_isDone_523 : decode cL_isDone 523 = .ok (.bipush 100, 2) := by decide +kernel
theorem dL_isDone_525 : decode cL_isDone 525 = .ok (.invokestatic 132, 3) := by decide +kernel
theorem dL_isDone_528 : decode cL_isDone 528 = .ok (.iadd, 1) := by decide +kernel
theorem dL_isDone_529 : decode cL_isDone 529 = .ok (.invokestatic 187, 3) := by decide +kernel
theorem dL_isDone_532 : decode cL_isDone 532 = .ok (.ireturn, 1) := by decide +kernel
theorem dL_isDone_533 : decode cL_isDone 533 = .ok (.aload_n 0, 1) := by decide +kernel
theorem dL_isDone_534 : decode cL_isDone 534 = .ok (.aload_n 1, 1) := by decide +kernel
theorem dL_isDone_535 : decode cL_isDone 535 = .ok (.aload_n 2, 1) := by decide +kernel
theorem dL_isDone_536 : decode cL_isDone 536 = .ok (.iload 5, 2) := by decide +kernel
theorem dL_isDone_538 : decode cL_isDone 538 = .ok (.aload_n 3, 1) := by decide +kernel
theorem dL_isDone_539 : decode cL_isDone 539 = .ok (.iload 4, 2) := by decide +kernel
theorem dL_isDone_541 : decode cL_isDone 541 = .ok (.iconst 3, 1) := by decide +kernel
theorem dL_isDone_542 : decode cL_isDone 542 = .ok (.iadd, 1) := by decide +kernel
theorem dL_isDone_543 : decode cL_isDone 543 = .ok (.aload_n 1, 1) := by decide +kernel
theorem dL_isDone_544 : decode cL_isDone 544 = .ok (.iconst 0, 1) := by decide +kernel
theorem dL_isDone_545 : decode cL_isDone 545 = .ok (.iaload, 1) := by decide +kernel
theorem dL_isDone_546 : decode cL_isDone 546 = .ok (.invokestatic 132, 3) := by decide +kernel
theorem dL_isDone_549 : decode cL_isDone 549 = .ok (.iconst 1, 1) := by decide +kernel
theorem dL_isDone_550 : decode cL_isDone 550 = .ok (.aload_n 3, 1) := by decide +kernel
theorem dL_isDone_551 : decode cL_isDone 551 = .ok (.iload 4, 2) := by decide +kernel
theorem dL_isDone_553 : decode cL_isDone 553 = .ok (.iconst 2, 1) := by decide +kernel
theorem dL_isDone_554 : decode cL_isDone 554 = .ok (.iadd, 1) := by decide +kernel
theorem dL_isDone_555 : decode cL_isDone 555 = .ok (.bipush 30, 2) := by decide +kernel
theorem dL_isDone_557 : decode cL_isDone 557 = .ok (.invokestatic 132, 3) := by decide +kernel
theorem dL_isDone_560 : decode cL_isDone 560 = .ok (.iadd, 1) := by decide +kernel
theorem dL_isDone_561 : decode cL_isDone 561 = .ok (.bipush 100, 2) := by decide +kernel
theorem dL_isDone_563 : decode cL_isDone 563 = .ok (.aload_n 3, 1) := by decide +kernel
theorem dL_isDone_564 : decode cL_isDone 564 = .ok (.iload 4, 2) := by decide +kernel
theorem dL_isDone_566 : decode cL_isDone 566 = .ok (.iconst 4, 1) := by decide +kernel
theorem dL_isDone_567 : decode cL_isDone 567 = .ok (.iadd, 1) := by decide +kernel
theorem dL_isDone_568 : decode cL_isDone 568 = .ok (.bipush 100, 2) := by decide +kernel
theorem dL_isDone_570 : decode cL_isDone 570 = .ok (.invokestatic 132, 3) := by decide +kernel
theorem dL_isDone_573 : decode cL_isDone 573 = .ok (.iadd, 1) := by decide +kernel
theorem dL_isDone_574 : decode cL_isDone 574 = .ok (.invokestatic 191, 3) := by decide +kernel
theorem dL_isDone_577 : decode cL_isDone 577 = .ok (.ireturn, 1) := by decide +kernel
theorem dL_isDone_578 : decode cL_isDone 578 = .ok (.aload_n 0, 1) := by decide +kernel
theorem dL_isDone_579 : decode cL_isDone 579 = .ok (.aload_n 1, 1) := by decide +kernel
theorem dL_isDone_580 : decode cL_isDone 580 = .ok (.aload_n 2, 1) := by decide +kernel
theorem dL_isDone_581 : decode cL_isDone 581 = .ok (.aload_n 3, 1) := by decide +kernel
theorem dL_isDone_582 : decode cL_isDone 582 = .ok (.iload 4, 2) := by decide +kernel
theorem dL_isDone_584 : decode cL_isDone 584 = .ok (.iconst 1, 1) := by decide +kernel
theorem dL_isDone_585 : decode cL_isDone 585 = .ok (.iadd, 1) := by decide +kernel
theorem dL_isDone_586 : decode cL_isDone 586 = .ok (.invokestatic 154, 3) := by decide +kernel
theorem dL_isDone_589 : decode cL_isDone 589 = .ok (.ireturn, 1) := by decide +kernel
theorem dL_areLayers_0 : decode cL_areLayers 0 = .ok (.iconst 0, 1) := by decide +kernel
theorem dL_areLayers_1 : decode cL_areLayers 1 = .ok (.istore_n 2, 1) := by decide +kernel
theorem dL_areLayers_2 : decode cL_areLayers 2 = .ok (.iload_n 2, 1) := by decide +kernel
theorem dL_areLayers_3 : decode cL_areLayers 3 = .ok (.aload_n 1, 1) := by decide +kernel
theorem dL_areLayers_4 : decode cL_areLayers 4 = .ok (.iconst 0, 1) := by decide +kernel
theorem dL_areLayers_5 : decode cL_areLayers 5 = .ok (.iaload, 1) := by decide +kernel
theorem dL_areLayers_6 : decode cL_areLayers 6 = .ok (.if_icmp .ge 238, 3) := by decide +kernel
theorem dL_areLayers_9 : decode cL_areLayers 9 = .ok (.aload_n 1, 1) := by decide +kernel
theorem dL_areLayers_10 : decode cL_areLayers 10 = .ok (.bipush 30, 2) := by decide +kernel
theorem dL_areLayers_12 : decode cL_areLayers 12 = .ok (.iload_n 2, 1) := by decide +kernel
theorem dL_areLayers_13 : decode cL_areLayers 13 = .ok (.iadd, 1) := by decide +kernel
theorem dL_areLayers_14 : decode cL_areLayers 14 = .ok (.iaload, 1) := by decide +kernel
theorem dL_areLayers_15 : decode cL_areLayers 15 = .ok (.istore_n 3, 1) := by decide +kernel
theorem dL_areLayers_16 : decode cL_areLayers 16 = .ok (.new 195, 3) := by decide +kernel
theorem dL_areLayers_19 : decode cL_areLayers 19 = .ok (.dup, 1) := by decide +kernel
theorem dL_areLayers_20 : decode cL_areLayers 20 = .ok (.invokespecial 197, 3) := by decide +kernel
theorem dL_areLayers_23 : decode cL_areLayers 23 = .ok (.astore 4, 2) := by decide +kernel
theorem dL_areLayers_25 : decode cL_areLayers 25 = .ok (.iconst 0, 1) := by decide +kernel
theorem dL_areLayers_26 : decode cL_areLayers 26 = .ok (.istore 5, 2) := by decide +kernel
theorem dL_areLayers_28 : decode cL_areLayers 28 = .ok (.iload 5, 2) := by decide +kernel
theorem dL_areLayers_30 : decode cL_areLayers 30 = .ok (.iload_n 3, 1) := by decide +kernel
theorem dL_areLayers_31 : decode cL_areLayers 31 = .ok (.if_icmp .ge 148, 3) := by decide +kernel
theorem dL_areLayers_34 : decode cL_areLayers 34 = .ok (.iload_n 2, 1) := by decide +kernel
theorem dL_areLayers_35 : decode cL_areLayers 35 = .ok (.iload 5, 2) := by decide +kernel
theorem dL_areLayers_37 : decode cL_areLayers 37 = .ok (.invokestatic 102, 3) := by decide +kernel
theorem dL_areLayers_40 : decode cL_areLayers 40 = .ok (.istore 6, 2) := by decide +kernel
theorem dL_areLayers_42 : decode cL_areLayers 42 = .ok (.aload_n 0, 1) := by decide +kernel
theorem dL_areLayers_43 : decode cL_areLayers 43 = .ok (.iload_n 2, 1) := by decide +kernel
theorem dL_areLayers_44 : decode cL_areLayers 44 = .ok (.iload 5, 2) := by decide +kernel
theorem dL_areLayers_46 : decode cL_areLayers 46 = .ok (.invokestatic 198, 3) := by decide +kernel
theorem dL_areLayers_49 : decode cL_areLayers 49 = .ok (.aload_n 1, 1) := by decide +kernel
theorem dL_areLayers_50 : decode cL_areLayers 50 = .ok (.iload 6, 2) := by decide +kernel
theorem dL_areLayers_52 : decode cL_areLayers 52 = .ok (.iaload, 1) := by decide +kernel
theorem dL_areLayers_53 : decode cL_areLayers 53 = .ok (.if_icmp .ne 65, 3) := by decide +kernel
theorem dL_areLayers_56 : decode cL_areLayers 56 = .ok (.aload_n 0, 1) := by decide +kernel
theorem dL_areLayers_57 : decode cL_areLayers 57 = .ok (.iload_n 2, 1) := by decide +kernel
theorem dL_areLayers_58 : decode cL_areLayers 58 = .ok (.iload 5, 2) := by decide +kernel
theorem dL_areLayers_60 : decode cL_areLayers 60 = .ok (.invokestatic 200, 3) := by decide +kernel
theorem dL_areLayers_63 : decode cL_areLayers 63 = .ok (.aload_n 1, 1) := by decide +kernel
theorem dL_areLayers_64 : decode cL_areLayers 64 = .ok (.iload 6, 2) := by decide +kernel
theorem dL_areLayers_66 : decode cL_areLayers 66 = .ok (.iaload, 1) := by decide +kernel
theorem dL_areLayers_67 : decode cL_areLayers 67 = .ok (.if_icmp .ne 51, 3) := by decide +kernel
theorem dL_areLayers_70 : decode cL_areLayers 70 = .ok (.aload_n 0, 1) := by decide +kernel
theorem dL_areLayers_71 : decode cL_areLayers 71 = .ok (.iload_n 2, 1) := by decide +kernel
theorem dL_areLayers_72 : decode cL_areLayers 72 = .ok (.iload 5, 2) := by decide +kernel
theorem dL_areLayers_74 : decode cL_areLayers 74 = .ok (.invokestatic 202, 3) := by decide +kernel
theorem dL_areLayers_77 : decode cL_areLayers 77 = .ok (.aload_n 1, 1) := by decide +kernel
theorem dL_areLayers_78 : decode cL_areLayers 78 = .ok (.iload 6, 2) := by decide +kernel
theorem dL_areLayers_80 : decode cL_areLayers 80 = .ok (.iconst 1, 1) := by decide +kernel
theorem dL_areLayers_81 : decode cL_areLayers 81 = .ok (.iadd, 1) := by decide +kernel
theorem dL_areLayers_82 : decode cL_areLayers 82 = .ok (.iaload, 1) := by decide +kernel
theorem dL_areLayers_83 : decode cL_areLayers 83 = .ok (.if_icmp .ne 35, 3) := by decide +kernel
theorem dL_areLayers_86 : decode cL_areLayers 86 = .ok (.aload_n 0, 1) := by decide +kernel
theorem dL_areLayers_87 : decode cL_areLayers 87 = .ok (.iload_n 2, 1) := by decide +kernel
theorem dL_areLayers_88 : decode cL_areLayers 88 = .ok (.iload 5, 2) := by decide +kernel
theorem dL_areLayers_90 : decode cL_areLayers 90 = .ok (.invokestatic 204, 3) := by decide +kernel
theorem dL_areLayers_93 : decode cL_areLayers 93 = .ok (.aload_n 1, 1) := by decide +kernel
theorem dL_areLayers_94 : decode cL_areLayers 94 = .ok (.iload 6, 2) := by decide +kernel
theorem dL_areLayers_96 : decode cL_areLayers 96 = .ok (.iconst 2, 1) := by decide +kernel
theorem dL_areLayers_97 : decode cL_areLayers 97 = .ok (.iadd, 1) := by decide +kernel
theorem dL_areLayers_98 : decode cL_areLayers 98 = .ok (.iaload, 1) := by decide +kernel
theorem dL_areLayers_99 : decode cL_areLayers 99 = .ok (.if_icmp .ne 19, 3) := by decide +kernel
theorem dL_areLayers_102 : decode cL_areLayers 102 = .ok (.aload_n 0, 1) := by decide +kernel
theorem dL_areLayers_103 : decode cL_areLayers 103 = .ok (.iload_n 2, 1) := by decide +kernel
theorem dL_areLayers_104 : decode cL_areLayers 104 = .ok (.iload 5, 2) := by decide +kernel
theorem dL_areLayers_106 : decode cL_areLayers 106 = .ok (.invokestatic 206, 3) := by decide +kernel
theorem dL_areLayers_109 : decode cL_areLayers 109 = .ok (.aload_n 1, 1) := by decide +kernel
theorem dL_areLayers_110 : decode cL_areLayers 110 = .ok (.iload 6, 2) := by decide +kernel
theorem dL_areLayers_112 : decode cL_areLayers 112 = .ok (.iconst 3, 1) := by decide +kernel
theorem dL_areLayers_113 : decode cL_areLayers 113 = .ok (.iadd, 1) := by decide +kernel
theorem dL_areLayers_114 : decode cL_areLayers 114 = .ok (.iaload, 1) := by decide +kernel
theorem dL_areLayers_115 : decode cL_areLayers 115 = .ok (.if_icmp .eq 5, 3) := by decide +kernel
theorem dL_areLayers_118 : decode cL_areLayers 118 = .ok (.iconst 0, 1) := by decide +kernel
theorem dL_areLayers_119 : decode cL_areLayers 119 = .ok (.ireturn, 1) := by decide +kernel
theorem dL_areLayers_120 : decode cL_areLayers 120 = .ok (.aload 4, 2) := by decide +kernel
theorem dL_areLayers_122 : decode cL_areLayers 122 = .ok (.iload 5, 2) := by decide +kernel
theorem dL_areLayers_124 : decode cL_areLayers 124 = .ok (.ifCond .ne 8, 3) := by decide +kernel
theorem dL_areLayers_127 : decode cL_areLayers 127 = .ok (.ldc 208, 2) := by decide +kernel
theorem dL_areLayers_129 : decode cL_areLayers 129 = .ok (.goto 5, 3) := by decide +kernel
theorem dL_areLayers_132 : decode cL_areLayers 132 = .ok (.ldc 210, 2) := by decide +kernel
theorem dL_areLayers_134 : decode cL_areLayers 134 = .ok (.invokevirtual 212, 3) := by decide +kernel
theorem dL_areLayers_137 : decode cL_areLayers 137 = .ok (.aload_n 1, 1) := by decide +kernel
theorem dL_areLayers_138 : decode cL_areLayers 138 = .ok (.iload 6, 2) := by decide +kernel
theorem dL_areLayers_140 : decode cL_areLayers 140 = .ok (.iaload, 1) := by decide +kernel
theorem dL_areLayers_141 : decode cL_areLayers 141 = .ok (.invokevirtual 216, 3) := by decide +kernel
theorem dL_areLayers_144 : decode cL_areLayers 144 = .ok (.bipush 64, 2) := by decide +kernel
theorem dL_areLayers_146 : decode cL_areLayers 146 = .ok (.invokevirtual 219, 3) := by decide +kernel
theorem dL_areLayers_149 : decode cL_areLayers 149 = .ok (.aload_n 1, 1) := by decide +kernel
theorem dL_areLayers_150 : decode cL_areLayers 150 = .ok (.iload 6, 2) := by decide +kernel
theorem dL_areLayers_152 : decode cL_areLayers 152 = .ok (.iconst 1, 1) := by decide +kernel
theorem dL_areLayers_153 : decode cL_areLayers 153 = .ok (.iadd, 1) := by decide +kernel
theorem dL_areLayers_154 : decode cL_areLayers 154 = .ok (.iaload, 1) := by decide +kernel
theorem dL_areLayers_155 : decode cL_areLayers 155 = .ok (.invokevirtual 216, 3) := by decide +kernel
theorem dL_areLayers_158 : decode cL_areLayers 158 = .ok (.bipush 103, 2) := by decide +kernel
theorem dL_areLayers_160 : decode cL_areLayers 160 = .ok (.invokevirtual 219, 3) := by decide +kernel
theorem dL_areLayers_163 : decode cL_areLayers 163 = .ok (.aload_n 1, 1) := by decide +kernel
theorem dL_areLayers_164 : decode cL_areLayers 164 = .ok (.iload 6, 2) := by decide +kernel
theorem dL_areLayers_166 : decode cL_areLayers 166 = .ok (.iconst 3, 1) := by decide +kernel
theorem dL_areLayers_167 : decode cL_areLayers 167 = .ok (.iadd, 1) := by decide +kernel
theorem dL_areLayers_168 : decode cL_areLayers 168 = .ok (.iaload, 1) := by decide +kernel
theorem dL_areLayers_169 : decode cL_areLayers 169 = .ok (.invokevirtual 216, 3) := by decide +kernel
theorem dL_areLayers_172 : decode cL_areLayers 172 = .ok (.pop, 1) := by decide +kernel
theorem dL_areLayers_173 : decode cL_areLayers 173 = .ok (.iinc 5 1, 3) := by decide +kernel
theorem dL_areLayers_176 : decode cL_areLayers 176 = .ok (.goto (-148), 3) := by decide +kernel
theorem dL_areLayers_179 : decode cL_areLayers 179 = .ok (.aload_n 0, 1) := by decide +kernel
theorem dL_areLayers_180 : decode cL_areLayers 180 = .ok (.iload_n 2, 1) := by decide +kernel
theorem dL_areLayers_181 : decode cL_areLayers 181 = .ok (.invokestatic 222, 3) := by decide +kernel
theorem dL_areLayers_184 : decode cL_areLayers 184 = .ok (.iload_n 3, 1) := by decide +kernel
theorem dL_areLayers_185 : decode cL_areLayers 185 = .ok (.if_icmp .ne 51, 3) := by decide +kernel
theorem dL_areLayers_188 : decode cL_areLayers 188 = .ok (.aload_n 0, 1) := by decide +kernel
theorem dL_areLayers_189 : decode cL_areLayers 189 = .ok (.iload_n 2, 1) := by decide +kernel
theorem dL_areLayers_190 : decode cL_areLayers 190 = .ok (.invokestatic 224, 3) := by decide +kernel
theorem dL_areLayers_193 : decode cL_areLayers 193 = .ok (.aload_n 1, 1) := by decide +kernel
theorem dL_areLayers_194 : decode cL_areLayers 194 = .ok (.iload_n 2, 1) := by decide +kernel
theorem dL_areLayers_195 : decode cL_areLayers 195 = .ok (.invokestatic 113, 3) := by decide +kernel
theorem dL_areLayers_198 : decode cL_areLayers 198 = .ok (.if_icmp .ne 38, 3) := by decide +kernel
theorem dL_areLayers_201 : decode cL_areLayers 201 = .ok (.aload_n 0, 1) := by decide +kernel
theorem dL_areLayers_202 : decode cL_areLayers 202 = .ok (.iload_n 2, 1) := by decide +kernel
theorem dL_areLayers_203 : decode cL_areLayers 203 = .ok (.invokestatic 226, 3) := by decide +kernel
theorem dL_areLayers_206 : decode cL_areLayers 206 = .ok (.aload_n 1, 1) := by decide +kernel
theorem dL_areLayers_207 : decode cL_areLayers 207 = .ok (.bipush 10, 2) := by decide +kernel
theorem dL_areLayers_209 : decode cL_areLayers 209 = .ok (.iload_n 2, 1) := by decide +kernel
theorem dL_areLayers_210 : decode cL_areLayers 210 = .ok (.iadd, 1) := by decide +kernel
theorem dL_areLayers_211 : decode cL_areLayers 211 = .ok (.iaload, 1) := by decide +kernel
theorem dL_areLayers_212 : decode cL_areLayers 212 = .ok (.if_icmp .ne 24, 3) := by decide +kernel
theorem dL_areLayers_215 : decode cL_areLayers 215 = .ok (.aload_n 0, 1) := by decide +kernel
theorem dL_areLayers_216 : decode cL_areLayers 216 = .ok (.iload_n 2, 1) := by decide +kernel
theorem dL_areLayers_217 : decode cL_areLayers 217 = .ok (.iload_n 3, 1) := by decide +kernel
theorem dL_areLayers_218 : decode cL_areLayers 218 = .ok (.invokestatic 198, 3) := by decide +kernel
theorem dL_areLayers_221 : decode cL_areLayers 221 = .ok (.ldc 17, 2) := by decide +kernel
theorem dL_areLayers_223 : decode cL_areLayers 223 = .ok (.if_icmp .ne 13, 3) := by decide +kernel
theorem dL_areLayers_226 : decode cL_areLayers 226 = .ok (.aload_n 0, 1) := by decide +kernel
theorem dL_areLayers_227 : decode cL_areLayers 227 = .ok (.iload_n 2, 1) := by decide +kernel
theorem dL_areLayers_228 : decode cL_areLayers 228 = .ok (.aload 4, 2) := by decide +kernel
theorem dL_areLayers_230 : decode cL_areLayers 230 = .ok (.invokestatic 228, 3) := by decide +kernel
theorem dL_areLayers_233 : decode cL_areLayers 233 = .ok (.ifCond .ne 5, 3) := by decide +kernel
theorem dL_areLayers_236 : decode cL_areLayers 236 = .ok (.iconst 0, 1) := by decide +kernel
theorem dL_areLayers_237 : decode cL_areLayers 237 = .ok (.ireturn, 1) := by decide +kernel
theorem dL_areLayers_238 : decode cL_areLayers 238 = .ok (.iinc 2 1, 3) := by decide +kernel
theorem dL_areLayers_241 : decode cL_areLayers 241 = .ok (.goto (-239), 3) := by decide +kernel
theorem dL_areLayers_244 : decode cL_areLayers 244 = .ok (.aload_n 0, 1) := by decide +kernel
theorem dL_areLayers_245 : decode cL_areLayers 245 = .ok (.invokevirtual 232, 3) := by decide +kernel
theorem dL_areLayers_248 : decode cL_areLayers 248 = .ok (.aload_n 1, 1) := by decide +kernel
theorem dL_areLayers_249 : decode cL_areLayers 249 = .ok (.iconst 0, 1) := by decide +kernel
theorem dL_areLayers_250 : decode cL_areLayers 250 = .ok (.iaload, 1) := by decide +kernel
theorem dL_areLayers_251 : decode cL_areLayers 251 = .ok (.if_icmp .ne 7, 3) := by decide +kernel
theorem dL_areLayers_254 : decode cL_areLayers 254 = .ok (.iconst 1, 1) := by decide +kernel
theorem dL_areLayers_255 : decode cL_areLayers 255 = .ok (.goto 4, 3) := by decide +kernel
theorem dL_areLayers_258 : decode cL_areLayers 258 = .ok (.iconst 0, 1) := by decide +kernel
theorem dL_areLayers_259 : decode cL_areLayers 259 = .ok (.ireturn, 1) := by decide +kernel
theorem dL_isLine_0 : decode cL_isLine 0 = .ok (.aload_n 0, 1) := by decide +kernel
theorem dL_isLine_1 : decode cL_isLine 1 = .ok (.iload_n 1, 1) := by decide +kernel
theorem dL_isLine_2 : decode cL_isLine 2 = .ok (.invokestatic 236, 3) := by decide +kernel
theorem dL_isLine_5 : decode cL_isLine 5 = .ok (.aload_n 2, 1) := by decide +kernel
theorem dL_isLine_6 : decode cL_isLine 6 = .ok (.invokevirtual 238, 3) := by decide +kernel
theorem dL_isLine_9 : decode cL_isLine 9 = .ok (.if_icmp .ne 20, 3) := by decide +kernel
theorem dL_isLine_12 : decode cL_isLine 12 = .ok (.aload_n 0, 1) := by decide +kernel
theorem dL_isLine_13 : decode cL_isLine 13 = .ok (.aload_n 2, 1) := by decide +kernel
theorem dL_isLine_14 : decode cL_isLine 14 = .ok (.invokevirtual 238, 3) := by decide +kernel
theorem dL_isLine_17 : decode cL_isLine 17 = .ok (.invokestatic 241, 3) := by decide +kernel
theorem dL_isLine_20 : decode cL_isLine 20 = .ok (.ldc 17, 2) := by decide +kernel
theorem dL_isLine_22 : decode cL_isLine 22 = .ok (.if_icmp .ne 7, 3) := by decide +kernel
theorem dL_isLine_25 : decode cL_isLine 25 = .ok (.iconst 1, 1) := by decide +kernel
theorem dL_isLine_26 : decode cL_isLine 26 = .ok (.goto 4, 3) := by decide +kernel
theorem dL_isLine_29 : decode cL_isLine 29 = .ok (.iconst 0, 1) := by decide +kernel
theorem dL_isLine_30 : decode cL_isLine 30 = .ok (.istore_n 3, 1) := by decide +kernel
theorem dL_isLine_31 : decode cL_isLine 31 = .ok (.iconst 0, 1) := by decide +kernel
theorem dL_isLine_32 : decode cL_isLine 32 = .ok (.istore 4, 2) := by decide +kernel
theorem dL_isLine_34 : decode cL_isLine 34 = .ok (.iload 4, 2) := by decide +kernel
theorem dL_isLine_36 : decode cL_isLine 36 = .ok (.aload_n 2, 1) := by decide +kernel
theorem dL_isLine_37 : decode cL_isLine 37 = .ok (.invokevirtual 238, 3) := by decide +kernel
theorem dL_isLine_40 : decode cL_isLine 40 = .ok (.if_icmp .ge 32, 3) := by decide +kernel
theorem dL_isLine_43 : decode cL_isLine 43 = .ok (.iload_n 3, 1) := by decide +kernel
theorem dL_isLine_44 : decode cL_isLine 44 = .ok (.aload_n 0, 1) := by decide +kernel
theorem dL_isLine_45 : decode cL_isLine 45 = .ok (.iload 4, 2) := by decide +kernel
theorem dL_isLine_47 : decode cL_isLine 47 = .ok (.invokestatic 241, 3) := by decide +kernel
theorem dL_isLine_50 : decode cL_isLine 50 = .ok (.aload_n 2, 1) := by decide +kernel
theorem dL_isLine_51 : decode cL_isLine 51 = .ok (.iload 4, 2) := by decide +kernel
theorem dL_isLine_53 : decode cL_isLine 53 = .ok (.invokevirtual 243, 3) := by decide +kernel
theorem dL_isLine_56 : decode cL_isLine 56 = .ok (.if_icmp .ne 7, 3) := by decide +kernel
theorem dL_isLine_59 : decode cL_isLine 59 = .ok (.iconst 1, 1) := by decide +kernel
theorem dL_isLine_60 : decode cL_isLine 60 = .ok (.goto 4, 3) := by decide +kernel
theorem dL_isLine_63 : decode cL_isLine 63 = .ok (.iconst 0, 1) := by decide +kernel
theorem dL_isLine_64 : decode cL_isLine 64 = .ok (.iand, 1) := by decide +kernel
theorem dL_isLine_65 : decode cL_isLine 65 = .ok (.istore_n 3, 1) := by decide +kernel
theorem dL_isLine_66 : decode cL_isLine 66 = .ok (.iinc 4 1, 3) := by decide +kernel
theorem dL_isLine_69 : decode cL_isLine 69 = .ok (.goto (-35), 3) := by decide +kernel
theorem dL_isLine_72 : decode cL_isLine 72 = .ok (.iload_n 3, 1) := by decide +kernel
theorem dL_isLine_73 : decode cL_isLine 73 = .ok (.ireturn, 1) := by decide +kernel
theorem dL_law_0 : decode cL_law 0 = .ok (.invokestatic 246, 3) := by decide +kernel
theorem dL_law_3 : decode cL_law 3 = .ok (.astore_n 1, 1) := by decide +kernel
theorem dL_law_4 : decode cL_law 4 = .ok (.iconst 2, 1) := by decide +kernel
theorem dL_law_5 : decode cL_law 5 = .ok (.newarray .long, 2) := by decide +kernel
theorem dL_law_7 : decode cL_law 7 = .ok (.astore_n 2, 1) := by decide +kernel
theorem dL_law_8 : decode cL_law 8 = .ok (.aload_n 0, 1) := by decide +kernel
theorem dL_law_9 : decode cL_law 9 = .ok (.aload_n 1, 1) := by decide +kernel
theorem dL_law_10 : decode cL_law 10 = .ok (.aload_n 2, 1) := by decide +kernel
theorem dL_law_11 : decode cL_law 11 = .ok (.invokestatic 250, 3) := by decide +kernel
theorem dL_law_14 : decode cL_law 14 = .ok (.astore_n 3, 1) := by decide +kernel
theorem dL_law_15 : decode cL_law 15 = .ok (.aload_n 3, 1) := by decide +kernel
theorem dL_law_16 : decode cL_law 16 = .ok (.ifnull 11, 3) := by decide +kernel
theorem dL_law_19 : decode cL_law 19 = .ok (.aload_n 3, 1) := by decide +kernel
theorem dL_law_20 : decode cL_law 20 = .ok (.aload_n 1, 1) := by decide +kernel
theorem dL_law_21 : decode cL_law 21 = .ok (.invokestatic 253, 3) := by decide +kernel
theorem dL_law_24 : decode cL_law 24 = .ok (.ifCond .ne 5, 3) := by decide +kernel
theorem dL_law_27 : decode cL_law 27 = .ok (.iconst 0, 1) := by decide +kernel
theorem dL_law_28 : decode cL_law 28 = .ok (.ireturn, 1) := by decide +kernel
theorem dL_law_29 : decode cL_law 29 = .ok (.iconst 0, 1) := by decide +kernel
theorem dL_law_30 : decode cL_law 30 = .ok (.istore 4, 2) := by decide +kernel
theorem dL_law_32 : decode cL_law 32 = .ok (.iload 4, 2) := by decide +kernel
theorem dL_law_34 : decode cL_law 34 = .ok (.bipush 40, 2) := by decide +kernel
theorem dL_law_36 : decode cL_law 36 = .ok (.if_icmp .ge 87, 3) := by decide +kernel
theorem dL_law_39 : decode cL_law 39 = .ok (.bipush 40, 2) := by decide +kernel
theorem dL_law_41 : decode cL_law 41 = .ok (.iconst 5, 1) := by decide +kernel
theorem dL_law_42 : decode cL_law 42 = .ok (.iload 4, 2) := by decide +kernel
theorem dL_law_44 : decode cL_law 44 = .ok (.imul, 1) := by decide +kernel
theorem dL_law_45 : decode cL_law 45 = .ok (.iadd, 1) := by decide +kernel
theorem dL_law_46 : decode cL_law 46 = .ok (.istore 5, 2) := by decide +kernel
theorem dL_law_48 : decode cL_law 48 = .ok (.bipush 80, 2) := by decide +kernel
theorem dL_law_50 : decode cL_law 50 = .ok (.aload_n 0, 1) := by decide +kernel
theorem dL_law_51 : decode cL_law 51 = .ok (.iload 5, 2) := by decide +kernel
theorem dL_law_53 : decode cL_law 53 = .ok (.iconst 3, 1) := by decide +kernel
theorem dL_law_54 : decode cL_law 54 = .ok (.iadd, 1) := by decide +kernel
theorem dL_law_55 : decode cL_law 55 = .ok (.sipush 221, 3) := by decide +kernel
theorem dL_law_58 : decode cL_law 58 = .ok (.invokestatic 132, 3) := by decide +kernel
theorem dL_law_61 : decode cL_law 61 = .ok (.iadd, 1) := by decide +kernel
theorem dL_law_62 : decode cL_law 62 = .ok (.istore 6, 2) := by decide +kernel
theorem dL_law_64 : decode cL_law 64 = .ok (.aload_n 0, 1) := by decide +kernel
theorem dL_law_65 : decode cL_law 65 = .ok (.iload 5, 2) := by decide +kernel
theorem dL_law_67 : decode cL_law 67 = .ok (.iconst 4, 1) := by decide +kernel
theorem dL_law_68 : decode cL_law 68 = .ok (.iadd, 1) := by decide +kernel
theorem dL_law_69 : decode cL_law 69 = .ok (.bipush 101, 2) := by decide +kernel
theorem dL_law_71 : decode cL_law 71 = .ok (.invokestatic 132, 3) := by decide +kernel
theorem dL_law_74 : decode cL_law 74 = .ok (.istore 7, 2) := by decide +kernel
theorem dL_law_76 : decode cL_law 76 = .ok (.aload_n 3, 1) := by decide +kernel
theorem dL_law_77 : decode cL_law 77 = .ok (.aload_n 1, 1) := by decide +kernel
theorem dL_law_78 : decode cL_law 78 = .ok (.aload_n 2, 1) := by decide +kernel
theorem dL_law_79 : decode cL_law 79 = .ok (.aload_n 0, 1) := by decide +kernel
theorem dL_law_80 : decode cL_law 80 = .ok (.iload 5, 2) := by decide +kernel
theorem dL_law_82 : decode cL_law 82 = .ok (.invokestatic 257, 3) := by decide +kernel
theorem dL_law_85 : decode cL_law 85 = .ok (.ifCond .eq 30, 3) := by decide +kernel
theorem dL_law_88 : decode cL_law 88 = .ok (.aload_n 3, 1) := by decide +kernel
theorem dL_law_89 : decode cL_law 89 = .ok (.aload_n 1, 1) := by decide +kernel
theorem dL_law_90 : decode cL_law 90 = .ok (.invokestatic 253, 3) := by decide +kernel
theorem dL_law_93 : decode cL_law 93 = .ok (.ifCond .eq 22, 3) := by decide +kernel
theorem dL_law_96 : decode cL_law 96 = .ok (.aload_n 3, 1) := by decide +kernel
theorem dL_law_97 : decode cL_law 97 = .ok (.iload 6, 2) := by decide +kernel
theorem dL_law_99 : decode cL_law 99 = .ok (.iload 7, 2) := by decide +kernel
theorem dL_law_101 : decode cL_law 101 = .ok (.invokestatic 260, 3) := by decide +kernel
theorem dL_law_104 : decode cL_law 104 = .ok (.aload_n 1, 1) := by decide +kernel
theorem dL_law_105 : decode cL_law 105 = .ok (.iload 6, 2) := by decide +kernel
theorem dL_law_107 : decode cL_law 107 = .ok (.iload 7, 2) := by decide +kernel
theorem dL_law_109 : decode cL_law 109 = .ok (.invokestatic 139, 3) := by decide +kernel
theorem dL_law_112 : decode cL_law 112 = .ok (.if_icmp .eq 5, 3) := by decide +kernel
theorem dL_law_115 : decode cL_law 115 = .ok (.iconst 0, 1) := by decide +kernel
theorem dL_law_116 : decode cL_law 116 = .ok (.ireturn, 1) := by decide +kernel
theorem dL_law_117 : decode cL_law 117 = .ok (.iinc 4 1, 3) := by decide +kernel
theorem dL_law_120 : decode cL_law 120 = .ok (.goto (-88), 3) := by decide +kernel
theorem dL_law_123 : decode cL_law 123 = .ok (.aload_n 3, 1) := by decide +kernel
theorem dL_law_124 : decode cL_law 124 = .ok (.iconst 0, 1) := by decide +kernel
theorem dL_law_125 : decode cL_law 125 = .ok (.iconst 1, 1) := by decide +kernel
theorem dL_law_126 : decode cL_law 126 = .ok (.invokestatic 146, 3) := by decide +kernel
theorem dL_law_129 : decode cL_law 129 = .ok (.ldc 17, 2) := by decide +kernel
theorem dL_law_131 : decode cL_law 131 = .ok (.if_icmp .ne 167, 3) := by decide +kernel
theorem dL_law_134 : decode cL_law 134 = .ok (.aload_n 3, 1) := by decide +kernel
theorem dL_law_135 : decode cL_law 135 = .ok (.sipush 5001, 3) := by decide +kernel
theorem dL_law_138 : decode cL_law 138 = .ok (.iconst 1, 1) := by decide +kernel
theorem dL_law_139 : decode cL_law 139 = .ok (.invokestatic 146, 3) := by decide +kernel
theorem dL_law_142 : decode cL_law 142 = .ok (.ldc 17, 2) := by decide +kernel
theorem dL_law_144 : decode cL_law 144 = .ok (.if_icmp .ne 154, 3) := by decide +kernel
theorem dL_law_147 : decode cL_law 147 = .ok (.aload_n 3, 1) := by decide +kernel
theorem dL_law_148 : decode cL_law 148 = .ok (.aload_n 1, 1) := by decide +kernel
theorem dL_law_149 : decode cL_law 149 = .ok (.iconst 0, 1) := by decide +kernel
theorem dL_law_150 : decode cL_law 150 = .ok (.iaload, 1) := by decide +kernel
theorem dL_law_151 : decode cL_law 151 = .ok (.invokestatic 226, 3) := by decide +kernel
theorem dL_law_154 : decode cL_law 154 = .ok (.ldc 17, 2) := by decide +kernel
theorem dL_law_156 : decode cL_law 156 = .ok (.if_icmp .ne 142, 3) := by decide +kernel
theorem dL_law_159 : decode cL_law 159 = .ok (.aload_n 3, 1) := by decide +kernel
theorem dL_law_160 : decode cL_law 160 = .ok (.iconst 4, 1) := by decide +kernel
theorem dL_law_161 : decode cL_law 161 = .ok (.iconst 1, 1) := by decide +kernel
theorem dL_law_162 : decode cL_law 162 = .ok (.bipush 80, 2) := by decide +kernel
theorem dL_law_164 : decode cL_law 164 = .ok (.iconst 0, 1) := by decide +kernel
theorem dL_law_165 : decode cL_law 165 = .ok (.invokestatic 172, 3) := by decide +kernel
theorem dL_law_168 : decode cL_law 168 = .ok (.ldc 17, 2) := by decide +kernel
theorem dL_law_170 : decode cL_law 170 = .ok (.if_icmp .ne 128, 3) := by decide +kernel
theorem dL_law_173 : decode cL_law 173 = .ok (.aload_n 3, 1) := by decide +kernel
theorem dL_law_174 : decode cL_law 174 = .ok (.iconst 0, 1) := by decide +kernel
theorem dL_law_175 : decode cL_law 175 = .ok (.iconst 4, 1) := by decide +kernel
theorem dL_law_176 : decode cL_law 176 = .ok (.bipush 80, 2) := by decide +kernel
theorem dL_law_178 : decode cL_law 178 = .ok (.iconst 0, 1) := by decide +kernel
theorem dL_law_179 : decode cL_law 179 = .ok (.invokestatic 172, 3) := by decide +kernel
theorem dL_law_182 : decode cL_law 182 = .ok (.ldc 17, 2) := by decide +kernel
theorem dL_law_184 : decode cL_law 184 = .ok (.if_icmp .ne 114, 3) := by decide +kernel
theorem dL_law_187 : decode cL_law 187 = .ok (.aload_n 3, 1) := by decide +kernel
theorem dL_law_188 : decode cL_law 188 = .ok (.iconst 0, 1) := by decide +kernel
theorem dL_law_189 : decode cL_law 189 = .ok (.iconst 1, 1) := by decide +kernel
theorem dL_law_190 : decode cL_law 190 = .ok (.bipush 79, 2) := by decide +kernel
theorem dL_law_192 : decode cL_law 192 = .ok (.iconst 0, 1) := by decide +kernel
theorem dL_law_193 : decode cL_law 193 = .ok (.invokestatic 172, 3) := by decide +kernel
theorem dL_law_196 : decode cL_law 196 = .ok (.ldc 17, 2) := by decide +kernel
theorem dL_law_198 : decode cL_law 198 = .ok (.if_icmp .ne 100, 3) := by decide +kernel
theorem dL_law_201 : decode cL_law 201 = .ok (.aload_n 3, 1) := by decide +kernel
theorem dL_law_202 : decode cL_law 202 = .ok (.iconst (-1), 1) := by decide +kernel
theorem dL_law_203 : decode cL_law 203 = .ok (.invokestatic 174, 3) := by decide +kernel
theorem dL_law_206 : decode cL_law 206 = .ok (.ldc 17, 2) := by decide +kernel
theorem dL_law_208 : decode cL_law 208 = .ok (.if_icmp .ne 90, 3) := by decide +kernel
theorem dL_law_211 : decode cL_law 211 = .ok (.aload_n 3, 1) := by decide +kernel
theorem dL_law_212 : decode cL_law 212 = .ok (.sipush 301, 3) := by decide +kernel
theorem dL_law_215 : decode cL_law 215 = .ok (.iconst 0, 1) := by decide +kernel
theorem dL_law_216 : decode cL_law 216 = .ok (.invokestatic 260, 3) := by decide +kernel
theorem dL_law_219 : decode cL_law 219 = .ok (.ldc 17, 2) := by decide +kernel
theorem dL_law_221 : decode cL_law 221 = .ok (.if_icmp .ne 77, 3) := by decide +kernel
theorem dL_law_224 : decode cL_law 224 = .ok (.aload_n 3, 1) := by decide +kernel
theorem dL_law_225 : decode cL_law 225 = .ok (.aload_n 1, 1) := by decide +kernel
theorem dL_law_226 : decode cL_law 226 = .ok (.iconst 0, 1) := by decide +kernel
theorem dL_law_227 : decode cL_law 227 = .ok (.iaload, 1) := by decide +kernel
theorem dL_law_228 : decode cL_law 228 = .ok (.iconst 0, 1) := by decide +kernel
theorem dL_law_229 : decode cL_law 229 = .ok (.iconst 0, 1) := by decide +kernel
theorem dL_law_230 : decode cL_law 230 = .ok (.iconst 0, 1) := by decide +kernel
theorem dL_law_231 : decode cL_law 231 = .ok (.invokestatic 136, 3) := by decide +kernel
theorem dL_law_234 : decode cL_law 234 = .ok (.ldc 17, 2) := by decide +kernel
theorem dL_law_236 : decode cL_law 236 = .ok (.if_icmp .ne 62, 3) := by decide +kernel
theorem dL_law_239 : decode cL_law 239 = .ok (.aload_n 3, 1) := by decide +kernel
theorem dL_law_240 : decode cL_law 240 = .ok (.iconst 0, 1) := by decide +kernel
theorem dL_law_241 : decode cL_law 241 = .ok (.sipush 2001, 3) := by decide +kernel
theorem dL_law_244 : decode cL_law 244 = .ok (.bipush 80, 2) := by decide +kernel
theorem dL_law_246 : decode cL_law 246 = .ok (.iconst 0, 1) := by decide +kernel
theorem dL_law_247 : decode cL_law 247 = .ok (.invokestatic 136, 3) := by decide +kernel
theorem dL_law_250 : decode cL_law 250 = .ok (.ldc 20, 2) := by decide +kernel
theorem dL_law_252 : decode cL_law 252 = .ok (.if_icmp .ne 46, 3) := by decide +kernel
theorem dL_law_255 : decode cL_law 255 = .ok (.aload_n 3, 1) := by decide +kernel
theorem dL_law_256 : decode cL_law 256 = .ok (.iconst 0, 1) := by decide +kernel
theorem dL_law_257 : decode cL_law 257 = .ok (.iconst 1, 1) := by decide +kernel
theorem dL_law_258 : decode cL_law 258 = .ok (.bipush 80, 2) := by decide +kernel
theorem dL_law_260 : decode cL_law 260 = .ok (.bipush 101, 2) := by decide +kernel
theorem dL_law_262 : decode cL_law 262 = .ok (.invokestatic 136, 3) := by decide +kernel
theorem dL_law_265 : decode cL_law 265 = .ok (.ldc 20, 2) := by decide +kernel
theorem dL_law_267 : decode cL_law 267 = .ok (.if_icmp .ne 31, 3) := by decide +kernel
theorem dL_law_270 : decode cL_law 270 = .ok (.aload_n 3, 1) := by decide +kernel
theorem dL_law_271 : decode cL_law 271 = .ok (.iconst (-1), 1) := by decide +kernel
theorem dL_law_272 : decode cL_law 272 = .ok (.iconst 1, 1) := by decide +kernel
theorem dL_law_273 : decode cL_law 273 = .ok (.invokestatic 181, 3) := by decide +kernel
theorem dL_law_276 : decode cL_law 276 = .ok (.ldc 17, 2) := by decide +kernel
theorem dL_law_278 : decode cL_law 278 = .ok (.if_icmp .ne 20, 3) := by decide +kernel
theorem dL_law_281 : decode cL_law 281 = .ok (.aload_n 3, 1) := by decide +kernel
theorem dL_law_282 : decode cL_law 282 = .ok (.iconst 0, 1) := by decide +kernel
theorem dL_law_283 : decode cL_law 283 = .ok (.sipush 5001, 3) := by decide +kernel
theorem dL_law_286 : decode cL_law 286 = .ok (.invokestatic 181, 3) := by decide +kernel
theorem dL_law_289 : decode cL_law 289 = .ok (.ldc 20, 2) := by decide +kernel
theorem dL_law_291 : decode cL_law 291 = .ok (.if_icmp .ne 7, 3) := by decide +kernel
theorem dL_law_294 : decode cL_law 294 = .ok (.iconst 1, 1) := by decide +kernel
theorem dL_law_295 : decode cL_law 295 = .ok (.goto 4, 3) := by decide +kernel
theorem dL_law_298 : decode cL_law 298 = .ok (.iconst 0, 1) := by decide +kernel
theorem dL_law_299 : decode cL_law 299 = .ok (.istore 4, 2) := by decide +kernel
theorem dL_law_301 : decode cL_law 301 = .ok (.iload 4, 2) := by decide +kernel
theorem dL_law_303 : decode cL_law 303 = .ok (.ifCond .eq 162, 3) := by decide +kernel
theorem dL_law_306 : decode cL_law 306 = .ok (.aload_n 3, 1) := by decide +kernel
theorem dL_law_307 : decode cL_law 307 = .ok (.iconst 0, 1) := by decide +kernel
theorem dL_law_308 : decode cL_law 308 = .ok (.aload_n 1, 1) := by decide +kernel
theorem dL_law_309 : decode cL_law 309 = .ok (.iconst 0, 1) := by decide +kernel
theorem dL_law_310 : decode cL_law 310 = .ok (.iaload, 1) := by decide +kernel
theorem dL_law_311 : decode cL_law 311 = .ok (.iconst 1, 1) := by decide +kernel
theorem dL_law_312 : decode cL_law 312 = .ok (.invokestatic 169, 3) := by decide +kernel
theorem dL_law_315 : decode cL_law 315 = .ok (.ldc 17, 2) := by decide +kernel
theorem dL_law_317 : decode cL_law 317 = .ok (.if_icmp .ne 148, 3) := by decide +kernel
theorem dL_law_320 : decode cL_law 320 = .ok (.aload_n 3, 1) := by decide +kernel
theorem dL_law_321 : decode cL_law 321 = .ok (.aload_n 1, 1) := by decide +kernel
theorem dL_law_322 : decode cL_law 322 = .ok (.iconst 0, 1) := by decide +kernel
theorem dL_law_323 : decode cL_law 323 = .ok (.iaload, 1) := by decide +kernel
theorem dL_law_324 : decode cL_law 324 = .ok (.bipush 100, 2) := by decide +kernel
theorem dL_law_326 : decode cL_law 326 = .ok (.invokestatic 161, 3) := by decide +kernel
theorem dL_law_329 : decode cL_law 329 = .ok (.ldc 17, 2) := by decide +kernel
theorem dL_law_331 : decode cL_law 331 = .ok (.if_icmp .ne 134, 3) := by decide +kernel
theorem dL_law_334 : decode cL_law 334 = .ok (.aload_n 3, 1) := by decide +kernel
theorem dL_law_335 : decode cL_law 335 = .ok (.iconst 0, 1) := by decide +kernel
theorem dL_law_336 : decode cL_law 336 = .ok (.bipush 79, 2) := by decide +kernel
theorem dL_law_338 : decode cL_law 338 = .ok (.invokestatic 161, 3) := by decide +kernel
theorem dL_law_341 : decode cL_law 341 = .ok (.ldc 20, 2) := by decide +kernel
theorem dL_law_343 : decode cL_law 343 = .ok (.if_icmp .ne 122, 3) := by decide +kernel
theorem dL_law_346 : decode cL_law 346 = .ok (.aload_n 3, 1) := by decide +kernel
theorem dL_law_347 : decode cL_law 347 = .ok (.iconst (-1), 1) := by decide +kernel
theorem dL_law_348 : decode cL_law 348 = .ok (.bipush 100, 2) := by decide +kernel
theorem dL_law_350 : decode cL_law 350 = .ok (.invokestatic 158, 3) := by decide +kernel
theorem dL_law_353 : decode cL_law 353 = .ok (.ldc 17, 2) := by decide +kernel
theorem dL_law_355 : decode cL_law 355 = .ok (.if_icmp .ne 110, 3) := by decide +kernel
theorem dL_law_358 : decode cL_law 358 = .ok (.aload_n 3, 1) := by decide +kernel
theorem dL_law_359 : decode cL_law 359 = .ok (.iconst 0, 1) := by decide +kernel
theorem dL_law_360 : decode cL_law 360 = .ok (.sipush 301, 3) := by decide +kernel
theorem dL_law_363 : decode cL_law 363 = .ok (.invokestatic 158, 3) := by decide +kernel
theorem dL_law_366 : decode cL_law 366 = .ok (.ldc 20, 2) := by decide +kernel
theorem dL_law_368 : decode cL_law 368 = .ok (.if_icmp .ne 97, 3) := by decide +kernel
theorem dL_law_371 : decode cL_law 371 = .ok (.aload_n 3, 1) := by decide +kernel
theorem dL_law_372 : decode cL_law 372 = .ok (.aload_n 1, 1) := by decide +kernel
theorem dL_law_373 : decode cL_law 373 = .ok (.iconst 0, 1) := by decide +kernel
theorem dL_law_374 : decode cL_law 374 = .ok (.iaload, 1) := by decide +kernel
theorem dL_law_375 : decode cL_law 375 = .ok (.invokestatic 224, 3) := by decide +kernel
theorem dL_law_378 : decode cL_law 378 = .ok (.ldc 17, 2) := by decide +kernel
theorem dL_law_380 : decode cL_law 380 = .ok (.if_icmp .ne 85, 3) := by decide +kernel
theorem dL_law_383 : decode cL_law 383 = .ok (.aload_n 3, 1) := by decide +kernel
theorem dL_law_384 : decode cL_law 384 = .ok (.iconst (-1), 1) := by decide +kernel
theorem dL_law_385 : decode cL_law 385 = .ok (.invokestatic 222, 3) := by decide +kernel
theorem dL_law_388 : decode cL_law 388 = .ok (.ldc 17, 2) := by decide +kernel
theorem dL_law_390 : decode cL_law 390 = .ok (.if_icmp .ne 75, 3) := by decide +kernel
theorem dL_law_393 : decode cL_law 393 = .ok (.aload_n 3, 1) := by decide +kernel
theorem dL_law_394 : decode cL_law 394 = .ok (.iconst 0, 1) := by decide +kernel
theorem dL_law_395 : decode cL_law 395 = .ok (.iconst (-1), 1) := by decide +kernel
theorem dL_law_396 : decode cL_law 396 = .ok (.invokestatic 200, 3) := by decide +kernel
theorem dL_law_399 : decode cL_law 399 = .ok (.ldc 17, 2) := by decide +kernel
theorem dL_law_401 : decode cL_law 401 = .ok (.if_icmp .ne 64, 3) := by decide +kernel
theorem dL_law_404 : decode cL_law 404 = .ok (.aload_n 3, 1) := by decide +kernel
theorem dL_law_405 : decode cL_law 405 = .ok (.aload_n 1, 1) := by decide +kernel
theorem dL_law_406 : decode cL_law 406 = .ok (.iconst 0, 1) := by decide +kernel
theorem dL_law_407 : decode cL_law 407 = .ok (.iaload, 1) := by decide +kernel
theorem dL_law_408 : decode cL_law 408 = .ok (.iconst 0, 1) := by decide +kernel
theorem dL_law_409 : decode cL_law 409 = .ok (.invokestatic 202, 3) := by decide +kernel
theorem dL_law_412 : decode cL_law 412 = .ok (.ldc 17, 2) := by decide +kernel
theorem dL_law_414 : decode cL_law 414 = .ok (.if_icmp .ne 51, 3) := by decide +kernel
theorem dL_law_417 : decode cL_law 417 = .ok (.aload_n 3, 1) := by decide +kernel
theorem dL_law_418 : decode cL_law 418 = .ok (.iconst 0, 1) := by decide +kernel
theorem dL_law_419 : decode cL_law 419 = .ok (.iconst (-1), 1) := by decide +kernel
theorem dL_law_420 : decode cL_law 420 = .ok (.invokestatic 204, 3) := by decide +kernel
theorem dL_law_423 : decode cL_law 423 = .ok (.ldc 17, 2) := by decide +kernel
theorem dL_law_425 : decode cL_law 425 = .ok (.if_icmp .ne 40, 3) := by decide +kernel
theorem dL_law_428 : decode cL_law 428 = .ok (.aload_n 3, 1) := by decide +kernel
theorem dL_law_429 : decode cL_law 429 = .ok (.iconst 0, 1) := by decide +kernel
theorem dL_law_430 : decode cL_law 430 = .ok (.iconst (-1), 1) := by decide +kernel
theorem dL_law_431 : decode cL_law 431 = .ok (.invokestatic 206, 3) := by decide +kernel
theorem dL_law_434 : decode cL_law 434 = .ok (.ldc 17, 2) := by decide +kernel
theorem dL_law_436 : decode cL_law 436 = .ok (.if_icmp .ne 29, 3) := by decide +kernel
theorem dL_law_439 : decode cL_law 439 = .ok (.aload_n 3, 1) := by decide +kernel
theorem dL_law_440 : decode cL_law 440 = .ok (.aload_n 1, 1) := by decide +kernel
theorem dL_law_441 : decode cL_law 441 = .ok (.iconst 0, 1) := by decide +kernel
theorem dL_law_442 : decode cL_law 442 = .ok (.iaload, 1) := by decide +kernel
theorem dL_law_443 : decode cL_law 443 = .ok (.invokestatic 236, 3) := by decide +kernel
theorem dL_law_446 : decode cL_law 446 = .ok (.ldc 17, 2) := by decide +kernel
theorem dL_law_448 : decode cL_law 448 = .ok (.if_icmp .ne 17, 3) := by decide +kernel
theorem dL_law_451 : decode cL_law 451 = .ok (.aload_n 3, 1) := by decide +kernel
theorem dL_law_452 : decode cL_law 452 = .ok (.iconst (-1), 1) := by decide +kernel
theorem dL_law_453 : decode cL_law 453 = .ok (.invokestatic 241, 3) := by decide +kernel
theorem dL_law_456 : decode cL_law 456 = .ok (.ldc 17, 2) := by decide +kernel
theorem dL_law_458 : decode cL_law 458 = .ok (.if_icmp .ne 7, 3) := by decide +kernel
theorem dL_law_461 : decode cL_law 461 = .ok (.iconst 1, 1) := by decide +kernel
theorem dL_law_462 : decode cL_law 462 = .ok (.goto 4, 3) := by decide +kernel
theorem dL_law_465 : decode cL_law 465 = .ok (.iconst 0, 1) := by decide +kernel
theorem dL_law_466 : decode cL_law 466 = .ok (.ireturn, 1) := by decide +kernel
