/-! the decode rows, as TURN printed them -/
theorem dX0_init_0 : decode cX0_init 0 = .ok (.aload_n 0, 1) := by decide +kernel
theorem dX0_init_1 : decode cX0_init 1 = .ok (.invokespecial 3, 3) := by decide +kernel
theorem dX0_init_4 : decode cX0_init 4 = .ok (.aload_n 0, 1) := by decide +kernel
theorem dX0_init_5 : decode cX0_init 5 = .ok (.bipush 80, 2) := by decide +kernel
theorem dX0_init_7 : decode cX0_init 7 = .ok (.newarray .int, 2) := by decide +kernel
theorem dX0_init_9 : decode cX0_init 9 = .ok (.putfield 9, 3) := by decide +kernel
theorem dX0_init_12 : decode cX0_init 12 = .ok (.aload_n 0, 1) := by decide +kernel
theorem dX0_init_13 : decode cX0_init 13 = .ok (.bipush 80, 2) := by decide +kernel
theorem dX0_init_15 : decode cX0_init 15 = .ok (.newarray .int, 2) := by decide +kernel
theorem dX0_init_17 : decode cX0_init 17 = .ok (.putfield 15, 3) := by decide +kernel
theorem dX0_init_20 : decode cX0_init 20 = .ok (.aload_n 0, 1) := by decide +kernel
theorem dX0_init_21 : decode cX0_init 21 = .ok (.bipush 80, 2) := by decide +kernel
theorem dX0_init_23 : decode cX0_init 23 = .ok (.newarray .int, 2) := by decide +kernel
theorem dX0_init_25 : decode cX0_init 25 = .ok (.putfield 18, 3) := by decide +kernel
theorem dX0_init_28 : decode cX0_init 28 = .ok (.aload_n 0, 1) := by decide +kernel
theorem dX0_init_29 : decode cX0_init 29 = .ok (.bipush 80, 2) := by decide +kernel
theorem dX0_init_31 : decode cX0_init 31 = .ok (.newarray .int, 2) := by decide +kernel
theorem dX0_init_33 : decode cX0_init 33 = .ok (.putfield 21, 3) := by decide +kernel
theorem dX0_init_36 : decode cX0_init 36 = .ok (.aload_n 0, 1) := by decide +kernel
theorem dX0_init_37 : decode cX0_init 37 = .ok (.iconst 0, 1) := by decide +kernel
theorem dX0_init_38 : decode cX0_init 38 = .ok (.putfield 24, 3) := by decide +kernel
theorem dX0_init_41 : decode cX0_init 41 = .ok (.aload_n 0, 1) := by decide +kernel
theorem dX0_init_42 : decode cX0_init 42 = .ok (.iconst 0, 1) := by decide +kernel
theorem dX0_init_43 : decode cX0_init 43 = .ok (.putfield 28, 3) := by decide +kernel
theorem dX0_init_46 : decode cX0_init 46 = .ok (.aload_n 0, 1) := by decide +kernel
theorem dX0_init_47 : decode cX0_init 47 = .ok (.iconst 0, 1) := by decide +kernel
theorem dX0_init_48 : decode cX0_init 48 = .ok (.putfield 31, 3) := by decide +kernel
theorem dX0_init_51 : decode cX0_init 51 = .ok (.aload_n 0, 1) := by decide +kernel
theorem dX0_init_52 : decode cX0_init 52 = .ok (.iload_n 1, 1) := by decide +kernel
theorem dX0_init_53 : decode cX0_init 53 = .ok (.putfield 34, 3) := by decide +kernel
theorem dX0_init_56 : decode cX0_init 56 = .ok (.aload_n 0, 1) := by decide +kernel
theorem dX0_init_57 : decode cX0_init 57 = .ok (.iload_n 2, 1) := by decide +kernel
theorem dX0_init_58 : decode cX0_init 58 = .ok (.putfield 37, 3) := by decide +kernel
theorem dX0_init_61 : decode cX0_init 61 = .ok (.return_, 1) := by decide +kernel
theorem dX0_clear_0 : decode cX0_clear 0 = .ok (.aload_n 0, 1) := by decide +kernel
theorem dX0_clear_1 : decode cX0_clear 1 = .ok (.iconst 0, 1) := by decide +kernel
theorem dX0_clear_2 : decode cX0_clear 2 = .ok (.putfield 24, 3) := by decide +kernel
theorem dX0_clear_5 : decode cX0_clear 5 = .ok (.aload_n 0, 1) := by decide +kernel
theorem dX0_clear_6 : decode cX0_clear 6 = .ok (.iconst 0, 1) := by decide +kernel
theorem dX0_clear_7 : decode cX0_clear 7 = .ok (.putfield 28, 3) := by decide +kernel
theorem dX0_clear_10 : decode cX0_clear 10 = .ok (.aload_n 0, 1) := by decide +kernel
theorem dX0_clear_11 : decode cX0_clear 11 = .ok (.iconst 0, 1) := by decide +kernel
theorem dX0_clear_12 : decode cX0_clear 12 = .ok (.putfield 31, 3) := by decide +kernel
theorem dX0_clear_15 : decode cX0_clear 15 = .ok (.return_, 1) := by decide +kernel
theorem dX0_slotFromOldest_0 : decode cX0_slotFromOldest 0 = .ok (.aload_n 0, 1) := by decide +kernel
theorem dX0_slotFromOldest_1 : decode cX0_slotFromOldest 1 = .ok (.getfield 24, 3) := by decide +kernel
theorem dX0_slotFromOldest_4 : decode cX0_slotFromOldest 4 = .ok (.iload_n 1, 1) := by decide +kernel
theorem dX0_slotFromOldest_5 : decode cX0_slotFromOldest 5 = .ok (.iadd, 1) := by decide +kernel
theorem dX0_slotFromOldest_6 : decode cX0_slotFromOldest 6 = .ok (.bipush 80, 2) := by decide +kernel
theorem dX0_slotFromOldest_8 : decode cX0_slotFromOldest 8 = .ok (.invokestatic 41, 3) := by decide +kernel
theorem dX0_slotFromOldest_11 : decode cX0_slotFromOldest 11 = .ok (.ireturn, 1) := by decide +kernel
theorem dX0_slotAt_0 : decode cX0_slotAt 0 = .ok (.aload_n 0, 1) := by decide +kernel
theorem dX0_slotAt_1 : decode cX0_slotAt 1 = .ok (.getfield 37, 3) := by decide +kernel
theorem dX0_slotAt_4 : decode cX0_slotAt 4 = .ok (.ifCond .eq 12, 3) := by decide +kernel
theorem dX0_slotAt_7 : decode cX0_slotAt 7 = .ok (.aload_n 0, 1) := by decide +kernel
theorem dX0_slotAt_8 : decode cX0_slotAt 8 = .ok (.getfield 24, 3) := by decide +kernel
theorem dX0_slotAt_11 : decode cX0_slotAt 11 = .ok (.iload_n 1, 1) := by decide +kernel
theorem dX0_slotAt_12 : decode cX0_slotAt 12 = .ok (.iadd, 1) := by decide +kernel
theorem dX0_slotAt_13 : decode cX0_slotAt 13 = .ok (.goto 16, 3) := by decide +kernel
theorem dX0_slotAt_16 : decode cX0_slotAt 16 = .ok (.aload_n 0, 1) := by decide +kernel
theorem dX0_slotAt_17 : decode cX0_slotAt 17 = .ok (.getfield 24, 3) := by decide +kernel
theorem dX0_slotAt_20 : decode cX0_slotAt 20 = .ok (.aload_n 0, 1) := by decide +kernel
theorem dX0_slotAt_21 : decode cX0_slotAt 21 = .ok (.getfield 28, 3) := by decide +kernel
theorem dX0_slotAt_24 : decode cX0_slotAt 24 = .ok (.iadd, 1) := by decide +kernel
theorem dX0_slotAt_25 : decode cX0_slotAt 25 = .ok (.iconst 1, 1) := by decide +kernel
theorem dX0_slotAt_26 : decode cX0_slotAt 26 = .ok (.isub, 1) := by decide +kernel
theorem dX0_slotAt_27 : decode cX0_slotAt 27 = .ok (.iload_n 1, 1) := by decide +kernel
theorem dX0_slotAt_28 : decode cX0_slotAt 28 = .ok (.isub, 1) := by decide +kernel
theorem dX0_slotAt_29 : decode cX0_slotAt 29 = .ok (.bipush 80, 2) := by decide +kernel
theorem dX0_slotAt_31 : decode cX0_slotAt 31 = .ok (.invokestatic 41, 3) := by decide +kernel
theorem dX0_slotAt_34 : decode cX0_slotAt 34 = .ok (.ireturn, 1) := by decide +kernel
theorem dX0_bushelsAt_0 : decode cX0_bushelsAt 0 = .ok (.aload_n 0, 1) := by decide +kernel
theorem dX0_bushelsAt_1 : decode cX0_bushelsAt 1 = .ok (.getfield 9, 3) := by decide +kernel
theorem dX0_bushelsAt_4 : decode cX0_bushelsAt 4 = .ok (.aload_n 0, 1) := by decide +kernel
theorem dX0_bushelsAt_5 : decode cX0_bushelsAt 5 = .ok (.iload_n 1, 1) := by decide +kernel
theorem dX0_bushelsAt_6 : decode cX0_bushelsAt 6 = .ok (.invokevirtual 47, 3) := by decide +kernel
theorem dX0_bushelsAt_9 : decode cX0_bushelsAt 9 = .ok (.iaload, 1) := by decide +kernel
theorem dX0_bushelsAt_10 : decode cX0_bushelsAt 10 = .ok (.ireturn, 1) := by decide +kernel
theorem dX0_moistureAt_0 : decode cX0_moistureAt 0 = .ok (.aload_n 0, 1) := by decide +kernel
theorem dX0_moistureAt_1 : decode cX0_moistureAt 1 = .ok (.getfield 15, 3) := by decide +kernel
theorem dX0_moistureAt_4 : decode cX0_moistureAt 4 = .ok (.aload_n 0, 1) := by decide +kernel
theorem dX0_moistureAt_5 : decode cX0_moistureAt 5 = .ok (.iload_n 1, 1) := by decide +kernel
theorem dX0_moistureAt_6 : decode cX0_moistureAt 6 = .ok (.invokevirtual 47, 3) := by decide +kernel
theorem dX0_moistureAt_9 : decode cX0_moistureAt 9 = .ok (.iaload, 1) := by decide +kernel
theorem dX0_moistureAt_10 : decode cX0_moistureAt 10 = .ok (.ireturn, 1) := by decide +kernel
theorem dX0_foreignAt_0 : decode cX0_foreignAt 0 = .ok (.aload_n 0, 1) := by decide +kernel
theorem dX0_foreignAt_1 : decode cX0_foreignAt 1 = .ok (.getfield 18, 3) := by decide +kernel
theorem dX0_foreignAt_4 : decode cX0_foreignAt 4 = .ok (.aload_n 0, 1) := by decide +kernel
theorem dX0_foreignAt_5 : decode cX0_foreignAt 5 = .ok (.iload_n 1, 1) := by decide +kernel
theorem dX0_foreignAt_6 : decode cX0_foreignAt 6 = .ok (.invokevirtual 47, 3) := by decide +kernel
theorem dX0_foreignAt_9 : decode cX0_foreignAt 9 = .ok (.iaload, 1) := by decide +kernel
theorem dX0_foreignAt_10 : decode cX0_foreignAt 10 = .ok (.ireturn, 1) := by decide +kernel
theorem dX0_gradeAt_0 : decode cX0_gradeAt 0 = .ok (.aload_n 0, 1) := by decide +kernel
theorem dX0_gradeAt_1 : decode cX0_gradeAt 1 = .ok (.getfield 21, 3) := by decide +kernel
theorem dX0_gradeAt_4 : decode cX0_gradeAt 4 = .ok (.aload_n 0, 1) := by decide +kernel
theorem dX0_gradeAt_5 : decode cX0_gradeAt 5 = .ok (.iload_n 1, 1) := by decide +kernel
theorem dX0_gradeAt_6 : decode cX0_gradeAt 6 = .ok (.invokevirtual 47, 3) := by decide +kernel
theorem dX0_gradeAt_9 : decode cX0_gradeAt 9 = .ok (.iaload, 1) := by decide +kernel
theorem dX0_gradeAt_10 : decode cX0_gradeAt 10 = .ok (.ireturn, 1) := by decide +kernel
theorem dX0_add_0 : decode cX0_add 0 = .ok (.iload_n 1, 1) := by decide +kernel
theorem dX0_add_1 : decode cX0_add 1 = .ok (.iconst 1, 1) := by decide +kernel
theorem dX0_add_2 : decode cX0_add 2 = .ok (.if_icmp .lt 12, 3) := by decide +kernel
theorem dX0_add_5 : decode cX0_add 5 = .ok (.aload_n 0, 1) := by decide +kernel
theorem dX0_add_6 : decode cX0_add 6 = .ok (.getfield 28, 3) := by decide +kernel
theorem dX0_add_9 : decode cX0_add 9 = .ok (.bipush 80, 2) := by decide +kernel
theorem dX0_add_11 : decode cX0_add 11 = .ok (.if_icmp .lt 4, 3) := by decide +kernel
theorem dX0_add_14 : decode cX0_add 14 = .ok (.return_, 1) := by decide +kernel
theorem dX0_add_15 : decode cX0_add 15 = .ok (.aload_n 0, 1) := by decide +kernel
theorem dX0_add_16 : decode cX0_add 16 = .ok (.aload_n 0, 1) := by decide +kernel
theorem dX0_add_17 : decode cX0_add 17 = .ok (.getfield 28, 3) := by decide +kernel
theorem dX0_add_20 : decode cX0_add 20 = .ok (.invokevirtual 51, 3) := by decide +kernel
theorem dX0_add_23 : decode cX0_add 23 = .ok (.istore 5, 2) := by decide +kernel
theorem dX0_add_25 : decode cX0_add 25 = .ok (.aload_n 0, 1) := by decide +kernel
theorem dX0_add_26 : decode cX0_add 26 = .ok (.getfield 9, 3) := by decide +kernel
theorem dX0_add_29 : decode cX0_add 29 = .ok (.iload 5, 2) := by decide +kernel
theorem dX0_add_31 : decode cX0_add 31 = .ok (.iload_n 1, 1) := by decide +kernel
theorem dX0_add_32 : decode cX0_add 32 = .ok (.iastore, 1) := by decide +kernel
theorem dX0_add_33 : decode cX0_add 33 = .ok (.aload_n 0, 1) := by decide +kernel
theorem dX0_add_34 : decode cX0_add 34 = .ok (.getfield 15, 3) := by decide +kernel
theorem dX0_add_37 : decode cX0_add 37 = .ok (.iload 5, 2) := by decide +kernel
theorem dX0_add_39 : decode cX0_add 39 = .ok (.iload_n 2, 1) := by decide +kernel
theorem dX0_add_40 : decode cX0_add 40 = .ok (.iastore, 1) := by decide +kernel
theorem dX0_add_41 : decode cX0_add 41 = .ok (.aload_n 0, 1) := by decide +kernel
theorem dX0_add_42 : decode cX0_add 42 = .ok (.getfield 18, 3) := by decide +kernel
theorem dX0_add_45 : decode cX0_add 45 = .ok (.iload 5, 2) := by decide +kernel
theorem dX0_add_47 : decode cX0_add 47 = .ok (.iload_n 3, 1) := by decide +kernel
theorem dX0_add_48 : decode cX0_add 48 = .ok (.iastore, 1) := by decide +kernel
theorem dX0_add_49 : decode cX0_add 49 = .ok (.aload_n 0, 1) := by decide +kernel
theorem dX0_add_50 : decode cX0_add 50 = .ok (.getfield 21, 3) := by decide +kernel
theorem dX0_add_53 : decode cX0_add 53 = .ok (.iload 5, 2) := by decide +kernel
theorem dX0_add_55 : decode cX0_add 55 = .ok (.iload 4, 2) := by decide +kernel
theorem dX0_add_57 : decode cX0_add 57 = .ok (.iastore, 1) := by decide +kernel
theorem dX0_add_58 : decode cX0_add 58 = .ok (.aload_n 0, 1) := by decide +kernel
theorem dX0_add_59 : decode cX0_add 59 = .ok (.dup, 1) := by decide +kernel
theorem dX0_add_60 : decode cX0_add 60 = .ok (.getfield 28, 3) := by decide +kernel
theorem dX0_add_63 : decode cX0_add 63 = .ok (.iconst 1, 1) := by decide +kernel
theorem dX0_add_64 : decode cX0_add 64 = .ok (.iadd, 1) := by decide +kernel
theorem dX0_add_65 : decode cX0_add 65 = .ok (.putfield 28, 3) := by decide +kernel
theorem dX0_add_68 : decode cX0_add 68 = .ok (.aload_n 0, 1) := by decide +kernel
theorem dX0_add_69 : decode cX0_add 69 = .ok (.dup, 1) := by decide +kernel
theorem dX0_add_70 : decode cX0_add 70 = .ok (.getfield 31, 3) := by decide +kernel
theorem dX0_add_73 : decode cX0_add 73 = .ok (.iload_n 1, 1) := by decide +kernel
theorem dX0_add_74 : decode cX0_add 74 = .ok (.iadd, 1) := by decide +kernel
theorem dX0_add_75 : decode cX0_add 75 = .ok (.putfield 31, 3) := by decide +kernel
theorem dX0_add_78 : decode cX0_add 78 = .ok (.return_, 1) := by decide +kernel
theorem dX0_takeOfNext_0 : decode cX0_takeOfNext 0 = .ok (.aload_n 0, 1) := by decide +kernel
theorem dX0_takeOfNext_1 : decode cX0_takeOfNext 1 = .ok (.iconst 0, 1) := by decide +kernel
theorem dX0_takeOfNext_2 : decode cX0_takeOfNext 2 = .ok (.invokevirtual 47, 3) := by decide +kernel
theorem dX0_takeOfNext_5 : decode cX0_takeOfNext 5 = .ok (.istore_n 2, 1) := by decide +kernel
theorem dX0_takeOfNext_6 : decode cX0_takeOfNext 6 = .ok (.iload_n 1, 1) := by decide +kernel
theorem dX0_takeOfNext_7 : decode cX0_takeOfNext 7 = .ok (.aload_n 0, 1) := by decide +kernel
theorem dX0_takeOfNext_8 : decode cX0_takeOfNext 8 = .ok (.getfield 9, 3) := by decide +kernel
theorem dX0_takeOfNext_11 : decode cX0_takeOfNext 11 = .ok (.iload_n 2, 1) := by decide +kernel
theorem dX0_takeOfNext_12 : decode cX0_takeOfNext 12 = .ok (.iaload, 1) := by decide +kernel
theorem dX0_takeOfNext_13 : decode cX0_takeOfNext 13 = .ok (.invokestatic 54, 3) := by decide +kernel
theorem dX0_takeOfNext_16 : decode cX0_takeOfNext 16 = .ok (.istore_n 3, 1) := by decide +kernel
theorem dX0_takeOfNext_17 : decode cX0_takeOfNext 17 = .ok (.aload_n 0, 1) := by decide +kernel
theorem dX0_takeOfNext_18 : decode cX0_takeOfNext 18 = .ok (.getfield 9, 3) := by decide +kernel
theorem dX0_takeOfNext_21 : decode cX0_takeOfNext 21 = .ok (.iload_n 2, 1) := by decide +kernel
theorem dX0_takeOfNext_22 : decode cX0_takeOfNext 22 = .ok (.dup2, 1) := by decide +kernel
theorem dX0_takeOfNext_23 : decode cX0_takeOfNext 23 = .ok (.iaload, 1) := by decide +kernel
theorem dX0_takeOfNext_24 : decode cX0_takeOfNext 24 = .ok (.iload_n 3, 1) := by decide +kernel
theorem dX0_takeOfNext_25 : decode cX0_takeOfNext 25 = .ok (.isub, 1) := by decide +kernel
theorem dX0_takeOfNext_26 : decode cX0_takeOfNext 26 = .ok (.iastore, 1) := by decide +kernel
theorem dX0_takeOfNext_27 : decode cX0_takeOfNext 27 = .ok (.aload_n 0, 1) := by decide +kernel
theorem dX0_takeOfNext_28 : decode cX0_takeOfNext 28 = .ok (.dup, 1) := by decide +kernel
theorem dX0_takeOfNext_29 : decode cX0_takeOfNext 29 = .ok (.getfield 31, 3) := by decide +kernel
theorem dX0_takeOfNext_32 : decode cX0_takeOfNext 32 = .ok (.iload_n 3, 1) := by decide +kernel
theorem dX0_takeOfNext_33 : decode cX0_takeOfNext 33 = .ok (.isub, 1) := by decide +kernel
theorem dX0_takeOfNext_34 : decode cX0_takeOfNext 34 = .ok (.putfield 31, 3) := by decide +kernel
theorem dX0_takeOfNext_37 : decode cX0_takeOfNext 37 = .ok (.aload_n 0, 1) := by decide +kernel
theorem dX0_takeOfNext_38 : decode cX0_takeOfNext 38 = .ok (.getfield 9, 3) := by decide +kernel
theorem dX0_takeOfNext_41 : decode cX0_takeOfNext 41 = .ok (.iload_n 2, 1) := by decide +kernel
theorem dX0_takeOfNext_42 : decode cX0_takeOfNext 42 = .ok (.iaload, 1) := by decide +kernel
theorem dX0_takeOfNext_43 : decode cX0_takeOfNext 43 = .ok (.ifCond .ne 36, 3) := by decide +kernel
theorem dX0_takeOfNext_46 : decode cX0_takeOfNext 46 = .ok (.aload_n 0, 1) := by decide +kernel
theorem dX0_takeOfNext_47 : decode cX0_takeOfNext 47 = .ok (.aload_n 0, 1) := by decide +kernel
theorem dX0_takeOfNext_48 : decode cX0_takeOfNext 48 = .ok (.getfield 37, 3) := by decide +kernel
theorem dX0_takeOfNext_51 : decode cX0_takeOfNext 51 = .ok (.ifCond .eq 11, 3) := by decide +kernel
theorem dX0_takeOfNext_54 : decode cX0_takeOfNext 54 = .ok (.aload_n 0, 1) := by decide +kernel
theorem dX0_takeOfNext_55 : decode cX0_takeOfNext 55 = .ok (.iconst 1, 1) := by decide +kernel
theorem dX0_takeOfNext_56 : decode cX0_takeOfNext 56 = .ok (.invokevirtual 51, 3) := by decide +kernel
theorem dX0_takeOfNext_59 : decode cX0_takeOfNext 59 = .ok (.goto 7, 3) := by decide +kernel
theorem dX0_takeOfNext_62 : decode cX0_takeOfNext 62 = .ok (.aload_n 0, 1) := by decide +kernel
theorem dX0_takeOfNext_63 : decode cX0_takeOfNext 63 = .ok (.getfield 24, 3) := by decide +kernel
theorem dX0_takeOfNext_66 : decode cX0_takeOfNext 66 = .ok (.putfield 24, 3) := by decide +kernel
theorem dX0_takeOfNext_69 : decode cX0_takeOfNext 69 = .ok (.aload_n 0, 1) := by decide +kernel
theorem dX0_takeOfNext_70 : decode cX0_takeOfNext 70 = .ok (.dup, 1) := by decide +kernel
theorem dX0_takeOfNext_71 : decode cX0_takeOfNext 71 = .ok (.getfield 28, 3) := by decide +kernel
theorem dX0_takeOfNext_74 : decode cX0_takeOfNext 74 = .ok (.iconst 1, 1) := by decide +kernel
theorem dX0_takeOfNext_75 : decode cX0_takeOfNext 75 = .ok (.isub, 1) := by decide +kernel
theorem dX0_takeOfNext_76 : decode cX0_takeOfNext 76 = .ok (.putfield 28, 3) := by decide +kernel
theorem dX0_takeOfNext_79 : decode cX0_takeOfNext 79 = .ok (.iload_n 3, 1) := by decide +kernel
theorem dX0_takeOfNext_80 : decode cX0_takeOfNext 80 = .ok (.ireturn, 1) := by decide +kernel
theorem dX0_letOut_0 : decode cX0_letOut 0 = .ok (.iload_n 1, 1) := by decide +kernel
theorem dX0_letOut_1 : decode cX0_letOut 1 = .ok (.istore_n 2, 1) := by decide +kernel
theorem dX0_letOut_2 : decode cX0_letOut 2 = .ok (.aload_n 0, 1) := by decide +kernel
theorem dX0_letOut_3 : decode cX0_letOut 3 = .ok (.getfield 28, 3) := by decide +kernel
theorem dX0_letOut_6 : decode cX0_letOut 6 = .ok (.istore_n 3, 1) := by decide +kernel
theorem dX0_letOut_7 : decode cX0_letOut 7 = .ok (.iload_n 3, 1) := by decide +kernel
theorem dX0_letOut_8 : decode cX0_letOut 8 = .ok (.ifCond .le 21, 3) := by decide +kernel
theorem dX0_letOut_11 : decode cX0_letOut 11 = .ok (.iload_n 2, 1) := by decide +kernel
theorem dX0_letOut_12 : decode cX0_letOut 12 = .ok (.ifCond .le 17, 3) := by decide +kernel
theorem dX0_letOut_15 : decode cX0_letOut 15 = .ok (.iload_n 2, 1) := by decide +kernel
theorem dX0_letOut_16 : decode cX0_letOut 16 = .ok (.aload_n 0, 1) := by decide +kernel
theorem dX0_letOut_17 : decode cX0_letOut 17 = .ok (.iload_n 2, 1) := by decide +kernel
theorem dX0_letOut_18 : decode cX0_letOut 18 = .ok (.invokevirtual 57, 3) := by decide +kernel
theorem dX0_letOut_21 : decode cX0_letOut 21 = .ok (.isub, 1) := by decide +kernel
theorem dX0_letOut_22 : decode cX0_letOut 22 = .ok (.istore_n 2, 1) := by decide +kernel
theorem dX0_letOut_23 : decode cX0_letOut 23 = .ok (.iinc 3 (-1), 3) := by decide +kernel
theorem dX0_letOut_26 : decode cX0_letOut 26 = .ok (.goto (-19), 3) := by decide +kernel
theorem dX0_letOut_29 : decode cX0_letOut 29 = .ok (.return_, 1) := by decide +kernel
theorem dX0_letOutInto_0 : decode cX0_letOutInto 0 = .ok (.iload_n 2, 1) := by decide +kernel
theorem dX0_letOutInto_1 : decode cX0_letOutInto 1 = .ok (.istore_n 3, 1) := by decide +kernel
theorem dX0_letOutInto_2 : decode cX0_letOutInto 2 = .ok (.aload_n 0, 1) := by decide +kernel
theorem dX0_letOutInto_3 : decode cX0_letOutInto 3 = .ok (.getfield 28, 3) := by decide +kernel
theorem dX0_letOutInto_6 : decode cX0_letOutInto 6 = .ok (.istore 4, 2) := by decide +kernel
theorem dX0_letOutInto_8 : decode cX0_letOutInto 8 = .ok (.iload 4, 2) := by decide +kernel
theorem dX0_letOutInto_10 : decode cX0_letOutInto 10 = .ok (.ifCond .le 59, 3) := by decide +kernel
theorem dX0_letOutInto_13 : decode cX0_letOutInto 13 = .ok (.iload_n 3, 1) := by decide +kernel
theorem dX0_letOutInto_14 : decode cX0_letOutInto 14 = .ok (.ifCond .le 55, 3) := by decide +kernel
theorem dX0_letOutInto_17 : decode cX0_letOutInto 17 = .ok (.aload_n 0, 1) := by decide +kernel
theorem dX0_letOutInto_18 : decode cX0_letOutInto 18 = .ok (.iconst 0, 1) := by decide +kernel
theorem dX0_letOutInto_19 : decode cX0_letOutInto 19 = .ok (.invokevirtual 47, 3) := by decide +kernel
theorem dX0_letOutInto_22 : decode cX0_letOutInto 22 = .ok (.istore 5, 2) := by decide +kernel
theorem dX0_letOutInto_24 : decode cX0_letOutInto 24 = .ok (.aload_n 0, 1) := by decide +kernel
theorem dX0_letOutInto_25 : decode cX0_letOutInto 25 = .ok (.iload_n 3, 1) := by decide +kernel
theorem dX0_letOutInto_26 : decode cX0_letOutInto 26 = .ok (.invokevirtual 57, 3) := by decide +kernel
theorem dX0_letOutInto_29 : decode cX0_letOutInto 29 = .ok (.istore 6, 2) := by decide +kernel
theorem dX0_letOutInto_31 : decode cX0_letOutInto 31 = .ok (.aload_n 1, 1) := by decide +kernel
theorem dX0_letOutInto_32 : decode cX0_letOutInto 32 = .ok (.iload 6, 2) := by decide +kernel
theorem dX0_letOutInto_34 : decode cX0_letOutInto 34 = .ok (.aload_n 0, 1) := by decide +kernel
theorem dX0_letOutInto_35 : decode cX0_letOutInto 35 = .ok (.getfield 15, 3) := by decide +kernel
theorem dX0_letOutInto_38 : decode cX0_letOutInto 38 = .ok (.iload 5, 2) := by decide +kernel
theorem dX0_letOutInto_40 : decode cX0_letOutInto 40 = .ok (.iaload, 1) := by decide +kernel
theorem dX0_letOutInto_41 : decode cX0_letOutInto 41 = .ok (.aload_n 0, 1) := by decide +kernel
theorem dX0_letOutInto_42 : decode cX0_letOutInto 42 = .ok (.getfield 18, 3) := by decide +kernel
theorem dX0_letOutInto_45 : decode cX0_letOutInto 45 = .ok (.iload 5, 2) := by decide +kernel
theorem dX0_letOutInto_47 : decode cX0_letOutInto 47 = .ok (.iaload, 1) := by decide +kernel
theorem dX0_letOutInto_48 : decode cX0_letOutInto 48 = .ok (.aload_n 0, 1) := by decide +kernel
theorem dX0_letOutInto_49 : decode cX0_letOutInto 49 = .ok (.getfield 21, 3) := by decide +kernel
theorem dX0_letOutInto_52 : decode cX0_letOutInto 52 = .ok (.iload 5, 2) := by decide +kernel
theorem dX0_letOutInto_54 : decode cX0_letOutInto 54 = .ok (.iaload, 1) := by decide +kernel
theorem dX0_letOutInto_55 : decode cX0_letOutInto 55 = .ok (.invokevirtual 60, 3) := by decide +kernel
theorem dX0_letOutInto_58 : decode cX0_letOutInto 58 = .ok (.iload_n 3, 1) := by decide +kernel
theorem dX0_letOutInto_59 : decode cX0_letOutInto 59 = .ok (.iload 6, 2) := by decide +kernel
theorem dX0_letOutInto_61 : decode cX0_letOutInto 61 = .ok (.isub, 1) := by decide +kernel
theorem dX0_letOutInto_62 : decode cX0_letOutInto 62 = .ok (.istore_n 3, 1) := by decide +kernel
theorem dX0_letOutInto_63 : decode cX0_letOutInto 63 = .ok (.iinc 4 (-1), 3) := by decide +kernel
theorem dX0_letOutInto_66 : decode cX0_letOutInto 66 = .ok (.goto (-58), 3) := by decide +kernel
theorem dX0_letOutInto_69 : decode cX0_letOutInto 69 = .ok (.return_, 1) := by decide +kernel
theorem dX0_wetterThan_0 : decode cX0_wetterThan 0 = .ok (.iconst 0, 1) := by decide +kernel
theorem dX0_wetterThan_1 : decode cX0_wetterThan 1 = .ok (.istore_n 2, 1) := by decide +kernel
theorem dX0_wetterThan_2 : decode cX0_wetterThan 2 = .ok (.iconst 0, 1) := by decide +kernel
theorem dX0_wetterThan_3 : decode cX0_wetterThan 3 = .ok (.istore_n 3, 1) := by decide +kernel
theorem dX0_wetterThan_4 : decode cX0_wetterThan 4 = .ok (.iload_n 3, 1) := by decide +kernel
theorem dX0_wetterThan_5 : decode cX0_wetterThan 5 = .ok (.aload_n 0, 1) := by decide +kernel
theorem dX0_wetterThan_6 : decode cX0_wetterThan 6 = .ok (.getfield 28, 3) := by decide +kernel
theorem dX0_wetterThan_9 : decode cX0_wetterThan 9 = .ok (.if_icmp .ge 30, 3) := by decide +kernel
theorem dX0_wetterThan_12 : decode cX0_wetterThan 12 = .ok (.iload_n 2, 1) := by decide +kernel
theorem dX0_wetterThan_13 : decode cX0_wetterThan 13 = .ok (.aload_n 0, 1) := by decide +kernel
theorem dX0_wetterThan_14 : decode cX0_wetterThan 14 = .ok (.iload_n 3, 1) := by decide +kernel
theorem dX0_wetterThan_15 : decode cX0_wetterThan 15 = .ok (.invokevirtual 64, 3) := by decide +kernel
theorem dX0_wetterThan_18 : decode cX0_wetterThan 18 = .ok (.iload_n 1, 1) := by decide +kernel
theorem dX0_wetterThan_19 : decode cX0_wetterThan 19 = .ok (.if_icmp .le 11, 3) := by decide +kernel
theorem dX0_wetterThan_22 : decode cX0_wetterThan 22 = .ok (.aload_n 0, 1) := by decide +kernel
theorem dX0_wetterThan_23 : decode cX0_wetterThan 23 = .ok (.iload_n 3, 1) := by decide +kernel
theorem dX0_wetterThan_24 : decode cX0_wetterThan 24 = .ok (.invokevirtual 67, 3) := by decide +kernel
theorem dX0_wetterThan_27 : decode cX0_wetterThan 27 = .ok (.goto 4, 3) := by decide +kernel
theorem dX0_wetterThan_30 : decode cX0_wetterThan 30 = .ok (.iconst 0, 1) := by decide +kernel
theorem dX0_wetterThan_31 : decode cX0_wetterThan 31 = .ok (.iadd, 1) := by decide +kernel
theorem dX0_wetterThan_32 : decode cX0_wetterThan 32 = .ok (.istore_n 2, 1) := by decide +kernel
theorem dX0_wetterThan_33 : decode cX0_wetterThan 33 = .ok (.iinc 3 1, 3) := by decide +kernel
theorem dX0_wetterThan_36 : decode cX0_wetterThan 36 = .ok (.goto (-32), 3) := by decide +kernel
theorem dX0_wetterThan_39 : decode cX0_wetterThan 39 = .ok (.iload_n 2, 1) := by decide +kernel
theorem dX0_wetterThan_40 : decode cX0_wetterThan 40 = .ok (.ireturn, 1) := by decide +kernel
theorem dX0_costOfDrying_0 : decode cX0_costOfDrying 0 = .ok (.iconst 0, 1) := by decide +kernel
theorem dX0_costOfDrying_1 : decode cX0_costOfDrying 1 = .ok (.istore_n 2, 1) := by decide +kernel
theorem dX0_costOfDrying_2 : decode cX0_costOfDrying 2 = .ok (.iconst 0, 1) := by decide +kernel
theorem dX0_costOfDrying_3 : decode cX0_costOfDrying 3 = .ok (.istore_n 3, 1) := by decide +kernel
theorem dX0_costOfDrying_4 : decode cX0_costOfDrying 4 = .ok (.iload_n 3, 1) := by decide +kernel
theorem dX0_costOfDrying_5 : decode cX0_costOfDrying 5 = .ok (.aload_n 0, 1) := by decide +kernel
theorem dX0_costOfDrying_6 : decode cX0_costOfDrying 6 = .ok (.getfield 28, 3) := by decide +kernel
theorem dX0_costOfDrying_9 : decode cX0_costOfDrying 9 = .ok (.if_icmp .ge 41, 3) := by decide +kernel
theorem dX0_costOfDrying_12 : decode cX0_costOfDrying 12 = .ok (.aload_n 0, 1) := by decide +kernel
theorem dX0_costOfDrying_13 : decode cX0_costOfDrying 13 = .ok (.iload_n 3, 1) := by decide +kernel
theorem dX0_costOfDrying_14 : decode cX0_costOfDrying 14 = .ok (.invokevirtual 64, 3) := by decide +kernel
theorem dX0_costOfDrying_17 : decode cX0_costOfDrying 17 = .ok (.iload_n 1, 1) := by decide +kernel
theorem dX0_costOfDrying_18 : decode cX0_costOfDrying 18 = .ok (.isub, 1) := by decide +kernel
theorem dX0_costOfDrying_19 : decode cX0_costOfDrying 19 = .ok (.istore 4, 2) := by decide +kernel
theorem dX0_costOfDrying_21 : decode cX0_costOfDrying 21 = .ok (.iload_n 2, 1) := by decide +kernel
theorem dX0_costOfDrying_22 : decode cX0_costOfDrying 22 = .ok (.iload 4, 2) := by decide +kernel
theorem dX0_costOfDrying_24 : decode cX0_costOfDrying 24 = .ok (.ifCond .le 17, 3) := by decide +kernel
theorem dX0_costOfDrying_27 : decode cX0_costOfDrying 27 = .ok (.aload_n 0, 1) := by decide +kernel
theorem dX0_costOfDrying_28 : decode cX0_costOfDrying 28 = .ok (.iload_n 3, 1) := by decide +kernel
theorem dX0_costOfDrying_29 : decode cX0_costOfDrying 29 = .ok (.invokevirtual 67, 3) := by decide +kernel
theorem dX0_costOfDrying_32 : decode cX0_costOfDrying 32 = .ok (.iload 4, 2) := by decide +kernel
theorem dX0_costOfDrying_34 : decode cX0_costOfDrying 34 = .ok (.imul, 1) := by decide +kernel
theorem dX0_costOfDrying_35 : decode cX0_costOfDrying 35 = .ok (.bipush 10, 2) := by decide +kernel
theorem dX0_costOfDrying_37 : decode cX0_costOfDrying 37 = .ok (.idiv, 1) := by decide +kernel
theorem dX0_costOfDrying_38 : decode cX0_costOfDrying 38 = .ok (.goto 4, 3) := by decide +kernel
theorem dX0_costOfDrying_41 : decode cX0_costOfDrying 41 = .ok (.iconst 0, 1) := by decide +kernel
theorem dX0_costOfDrying_42 : decode cX0_costOfDrying 42 = .ok (.iadd, 1) := by decide +kernel
theorem dX0_costOfDrying_43 : decode cX0_costOfDrying 43 = .ok (.istore_n 2, 1) := by decide +kernel
theorem dX0_costOfDrying_44 : decode cX0_costOfDrying 44 = .ok (.iinc 3 1, 3) := by decide +kernel
theorem dX0_costOfDrying_47 : decode cX0_costOfDrying 47 = .ok (.goto (-43), 3) := by decide +kernel
theorem dX0_costOfDrying_50 : decode cX0_costOfDrying 50 = .ok (.iload_n 2, 1) := by decide +kernel
theorem dX0_costOfDrying_51 : decode cX0_costOfDrying 51 = .ok (.ireturn, 1) := by decide +kernel
theorem dX0_dryTo_0 : decode cX0_dryTo 0 = .ok (.aload_n 0, 1) := by decide +kernel
theorem dX0_dryTo_1 : decode cX0_dryTo 1 = .ok (.getfield 28, 3) := by decide +kernel
theorem dX0_dryTo_4 : decode cX0_dryTo 4 = .ok (.istore_n 3, 1) := by decide +kernel
theorem dX0_dryTo_5 : decode cX0_dryTo 5 = .ok (.aload_n 0, 1) := by decide +kernel
theorem dX0_dryTo_6 : decode cX0_dryTo 6 = .ok (.iconst 0, 1) := by decide +kernel
theorem dX0_dryTo_7 : decode cX0_dryTo 7 = .ok (.putfield 28, 3) := by decide +kernel
theorem dX0_dryTo_10 : decode cX0_dryTo 10 = .ok (.aload_n 0, 1) := by decide +kernel
theorem dX0_dryTo_11 : decode cX0_dryTo 11 = .ok (.iconst 0, 1) := by decide +kernel
theorem dX0_dryTo_12 : decode cX0_dryTo 12 = .ok (.putfield 31, 3) := by decide +kernel
theorem dX0_dryTo_15 : decode cX0_dryTo 15 = .ok (.iconst 0, 1) := by decide +kernel
theorem dX0_dryTo_16 : decode cX0_dryTo 16 = .ok (.istore 4, 2) := by decide +kernel
theorem dX0_dryTo_18 : decode cX0_dryTo 18 = .ok (.iload 4, 2) := by decide +kernel
theorem dX0_dryTo_20 : decode cX0_dryTo 20 = .ok (.iload_n 3, 1) := by decide +kernel
theorem dX0_dryTo_21 : decode cX0_dryTo 21 = .ok (.if_icmp .ge 109, 3) := by decide +kernel
theorem dX0_dryTo_24 : decode cX0_dryTo 24 = .ok (.aload_n 0, 1) := by decide +kernel
theorem dX0_dryTo_25 : decode cX0_dryTo 25 = .ok (.iload 4, 2) := by decide +kernel
theorem dX0_dryTo_27 : decode cX0_dryTo 27 = .ok (.invokevirtual 51, 3) := by decide +kernel
theorem dX0_dryTo_30 : decode cX0_dryTo 30 = .ok (.istore 5, 2) := by decide +kernel
theorem dX0_dryTo_32 : decode cX0_dryTo 32 = .ok (.aload_n 0, 1) := by decide +kernel
theorem dX0_dryTo_33 : decode cX0_dryTo 33 = .ok (.getfield 15, 3) := by decide +kernel
theorem dX0_dryTo_36 : decode cX0_dryTo 36 = .ok (.iload 5, 2) := by decide +kernel
theorem dX0_dryTo_38 : decode cX0_dryTo 38 = .ok (.iaload, 1) := by decide +kernel
theorem dX0_dryTo_39 : decode cX0_dryTo 39 = .ok (.iload_n 1, 1) := by decide +kernel
theorem dX0_dryTo_40 : decode cX0_dryTo 40 = .ok (.if_icmp .le 52, 3) := by decide +kernel
theorem dX0_dryTo_43 : decode cX0_dryTo 43 = .ok (.aload_n 0, 1) := by decide +kernel
theorem dX0_dryTo_44 : decode cX0_dryTo 44 = .ok (.getfield 9, 3) := by decide +kernel
theorem dX0_dryTo_47 : decode cX0_dryTo 47 = .ok (.iload 5, 2) := by decide +kernel
theorem dX0_dryTo_49 : decode cX0_dryTo 49 = .ok (.iaload, 1) := by decide +kernel
theorem dX0_dryTo_50 : decode cX0_dryTo 50 = .ok (.aload_n 0, 1) := by decide +kernel
theorem dX0_dryTo_51 : decode cX0_dryTo 51 = .ok (.getfield 15, 3) := by decide +kernel
theorem dX0_dryTo_54 : decode cX0_dryTo 54 = .ok (.iload 5, 2) := by decide +kernel
theorem dX0_dryTo_56 : decode cX0_dryTo 56 = .ok (.iaload, 1) := by decide +kernel
theorem dX0_dryTo_57 : decode cX0_dryTo 57 = .ok (.iload_n 1, 1) := by decide +kernel
theorem dX0_dryTo_58 : decode cX0_dryTo 58 = .ok (.invokestatic 70, 3) := by decide +kernel
theorem dX0_dryTo_61 : decode cX0_dryTo 61 = .ok (.istore 6, 2) := by decide +kernel
theorem dX0_dryTo_63 : decode cX0_dryTo 63 = .ok (.aload_n 0, 1) := by decide +kernel
theorem dX0_dryTo_64 : decode cX0_dryTo 64 = .ok (.iload 6, 2) := by decide +kernel
theorem dX0_dryTo_66 : decode cX0_dryTo 66 = .ok (.iload_n 1, 1) := by decide +kernel
theorem dX0_dryTo_67 : decode cX0_dryTo 67 = .ok (.aload_n 0, 1) := by decide +kernel
theorem dX0_dryTo_68 : decode cX0_dryTo 68 = .ok (.getfield 18, 3) := by decide +kernel
theorem dX0_dryTo_71 : decode cX0_dryTo 71 = .ok (.iload 5, 2) := by decide +kernel
theorem dX0_dryTo_73 : decode cX0_dryTo 73 = .ok (.iaload, 1) := by decide +kernel
theorem dX0_dryTo_74 : decode cX0_dryTo 74 = .ok (.aload_n 2, 1) := by decide +kernel
theorem dX0_dryTo_75 : decode cX0_dryTo 75 = .ok (.iload_n 1, 1) := by decide +kernel
theorem dX0_dryTo_76 : decode cX0_dryTo 76 = .ok (.aload_n 0, 1) := by decide +kernel
theorem dX0_dryTo_77 : decode cX0_dryTo 77 = .ok (.getfield 18, 3) := by decide +kernel
theorem dX0_dryTo_80 : decode cX0_dryTo 80 = .ok (.iload 5, 2) := by decide +kernel
theorem dX0_dryTo_82 : decode cX0_dryTo 82 = .ok (.iaload, 1) := by decide +kernel
theorem dX0_dryTo_83 : decode cX0_dryTo 83 = .ok (.invokevirtual 74, 3) := by decide +kernel
theorem dX0_dryTo_86 : decode cX0_dryTo 86 = .ok (.invokevirtual 60, 3) := by decide +kernel
theorem dX0_dryTo_89 : decode cX0_dryTo 89 = .ok (.goto 35, 3) := by decide +kernel
theorem dX0_dryTo_92 : decode cX0_dryTo 92 = .ok (.aload_n 0, 1) := by decide +kernel
theorem dX0_dryTo_93 : decode cX0_dryTo 93 = .ok (.aload_n 0, 1) := by decide +kernel
theorem dX0_dryTo_94 : decode cX0_dryTo 94 = .ok (.getfield 9, 3) := by decide +kernel
theorem dX0_dryTo_97 : decode cX0_dryTo 97 = .ok (.iload 5, 2) := by decide +kernel
theorem dX0_dryTo_99 : decode cX0_dryTo 99 = .ok (.iaload, 1) := by decide +kernel
theorem dX0_dryTo_100 : decode cX0_dryTo 100 = .ok (.aload_n 0, 1) := by decide +kernel
theorem dX0_dryTo_101 : decode cX0_dryTo 101 = .ok (.getfield 15, 3) := by decide +kernel
theorem dX0_dryTo_104 : decode cX0_dryTo 104 = .ok (.iload 5, 2) := by decide +kernel
theorem dX0_dryTo_106 : decode cX0_dryTo 106 = .ok (.iaload, 1) := by decide +kernel
theorem dX0_dryTo_107 : decode cX0_dryTo 107 = .ok (.aload_n 0, 1) := by decide +kernel
theorem dX0_dryTo_108 : decode cX0_dryTo 108 = .ok (.getfield 18, 3) := by decide +kernel
theorem dX0_dryTo_111 : decode cX0_dryTo 111 = .ok (.iload 5, 2) := by decide +kernel
theorem dX0_dryTo_113 : decode cX0_dryTo 113 = .ok (.iaload, 1) := by decide +kernel
theorem dX0_dryTo_114 : decode cX0_dryTo 114 = .ok (.aload_n 0, 1) := by decide +kernel
theorem dX0_dryTo_115 : decode cX0_dryTo 115 = .ok (.getfield 21, 3) := by decide +kernel
theorem dX0_dryTo_118 : decode cX0_dryTo 118 = .ok (.iload 5, 2) := by decide +kernel
theorem dX0_dryTo_120 : decode cX0_dryTo 120 = .ok (.iaload, 1) := by decide +kernel
theorem dX0_dryTo_121 : decode cX0_dryTo 121 = .ok (.invokevirtual 60, 3) := by decide +kernel
theorem dX0_dryTo_124 : decode cX0_dryTo 124 = .ok (.iinc 4 1, 3) := by decide +kernel
theorem dX0_dryTo_127 : decode cX0_dryTo 127 = .ok (.goto (-109), 3) := by decide +kernel
theorem dX0_dryTo_130 : decode cX0_dryTo 130 = .ok (.return_, 1) := by decide +kernel
theorem dX0_shrunk_0 : decode cX0_shrunk 0 = .ok (.iload_n 2, 1) := by decide +kernel
theorem dX0_shrunk_1 : decode cX0_shrunk 1 = .ok (.sipush 1000, 3) := by decide +kernel
theorem dX0_shrunk_4 : decode cX0_shrunk 4 = .ok (.if_icmp .lt 7, 3) := by decide +kernel
theorem dX0_shrunk_7 : decode cX0_shrunk 7 = .ok (.iload_n 0, 1) := by decide +kernel
theorem dX0_shrunk_8 : decode cX0_shrunk 8 = .ok (.goto 16, 3) := by decide +kernel
theorem dX0_shrunk_11 : decode cX0_shrunk 11 = .ok (.iload_n 0, 1) := by decide +kernel
theorem dX0_shrunk_12 : decode cX0_shrunk 12 = .ok (.sipush 1000, 3) := by decide +kernel
theorem dX0_shrunk_15 : decode cX0_shrunk 15 = .ok (.iload_n 1, 1) := by decide +kernel
theorem dX0_shrunk_16 : decode cX0_shrunk 16 = .ok (.isub, 1) := by decide +kernel
theorem dX0_shrunk_17 : decode cX0_shrunk 17 = .ok (.imul, 1) := by decide +kernel
theorem dX0_shrunk_18 : decode cX0_shrunk 18 = .ok (.sipush 1000, 3) := by decide +kernel
theorem dX0_shrunk_21 : decode cX0_shrunk 21 = .ok (.iload_n 2, 1) := by decide +kernel
theorem dX0_shrunk_22 : decode cX0_shrunk 22 = .ok (.isub, 1) := by decide +kernel
theorem dX0_shrunk_23 : decode cX0_shrunk 23 = .ok (.idiv, 1) := by decide +kernel
theorem dX0_shrunk_24 : decode cX0_shrunk 24 = .ok (.ireturn, 1) := by decide +kernel
theorem dX0_hasBushelsOf_0 : decode cX0_hasBushelsOf 0 = .ok (.aload_n 0, 1) := by decide +kernel
theorem dX0_hasBushelsOf_1 : decode cX0_hasBushelsOf 1 = .ok (.getfield 28, 3) := by decide +kernel
theorem dX0_hasBushelsOf_4 : decode cX0_hasBushelsOf 4 = .ok (.aload_n 1, 1) := by decide +kernel
theorem dX0_hasBushelsOf_5 : decode cX0_hasBushelsOf 5 = .ok (.getfield 28, 3) := by decide +kernel
theorem dX0_hasBushelsOf_8 : decode cX0_hasBushelsOf 8 = .ok (.if_icmp .eq 5, 3) := by decide +kernel
theorem dX0_hasBushelsOf_11 : decode cX0_hasBushelsOf 11 = .ok (.iconst 0, 1) := by decide +kernel
theorem dX0_hasBushelsOf_12 : decode cX0_hasBushelsOf 12 = .ok (.ireturn, 1) := by decide +kernel
theorem dX0_hasBushelsOf_13 : decode cX0_hasBushelsOf 13 = .ok (.iconst 0, 1) := by decide +kernel
theorem dX0_hasBushelsOf_14 : decode cX0_hasBushelsOf 14 = .ok (.istore_n 2, 1) := by decide +kernel
theorem dX0_hasBushelsOf_15 : decode cX0_hasBushelsOf 15 = .ok (.iload_n 2, 1) := by decide +kernel
theorem dX0_hasBushelsOf_16 : decode cX0_hasBushelsOf 16 = .ok (.aload_n 0, 1) := by decide +kernel
theorem dX0_hasBushelsOf_17 : decode cX0_hasBushelsOf 17 = .ok (.getfield 28, 3) := by decide +kernel
theorem dX0_hasBushelsOf_20 : decode cX0_hasBushelsOf 20 = .ok (.if_icmp .ge 24, 3) := by decide +kernel
theorem dX0_hasBushelsOf_23 : decode cX0_hasBushelsOf 23 = .ok (.aload_n 0, 1) := by decide +kernel
theorem dX0_hasBushelsOf_24 : decode cX0_hasBushelsOf 24 = .ok (.iload_n 2, 1) := by decide +kernel
theorem dX0_hasBushelsOf_25 : decode cX0_hasBushelsOf 25 = .ok (.invokevirtual 67, 3) := by decide +kernel
theorem dX0_hasBushelsOf_28 : decode cX0_hasBushelsOf 28 = .ok (.aload_n 1, 1) := by decide +kernel
theorem dX0_hasBushelsOf_29 : decode cX0_hasBushelsOf 29 = .ok (.iload_n 2, 1) := by decide +kernel
theorem dX0_hasBushelsOf_30 : decode cX0_hasBushelsOf 30 = .ok (.invokevirtual 67, 3) := by decide +kernel
theorem dX0_hasBushelsOf_33 : decode cX0_hasBushelsOf 33 = .ok (.if_icmp .eq 5, 3) := by decide +kernel
theorem dX0_hasBushelsOf_36 : decode cX0_hasBushelsOf 36 = .ok (.iconst 0, 1) := by decide +kernel
theorem dX0_hasBushelsOf_37 : decode cX0_hasBushelsOf 37 = .ok (.ireturn, 1) := by decide +kernel
theorem dX0_hasBushelsOf_38 : decode cX0_hasBushelsOf 38 = .ok (.iinc 2 1, 3) := by decide +kernel
theorem dX0_hasBushelsOf_41 : decode cX0_hasBushelsOf 41 = .ok (.goto (-26), 3) := by decide +kernel
theorem dX0_hasBushelsOf_44 : decode cX0_hasBushelsOf 44 = .ok (.iconst 1, 1) := by decide +kernel
theorem dX0_hasBushelsOf_45 : decode cX0_hasBushelsOf 45 = .ok (.ireturn, 1) := by decide +kernel
theorem dX1_init_0 : decode cX1_init 0 = .ok (.aload_n 0, 1) := by decide +kernel
theorem dX1_init_1 : decode cX1_init 1 = .ok (.invokespecial 1, 3) := by decide +kernel
theorem dX1_init_4 : decode cX1_init 4 = .ok (.aload_n 0, 1) := by decide +kernel
theorem dX1_init_5 : decode cX1_init 5 = .ok (.iconst 0, 1) := by decide +kernel
theorem dX1_init_6 : decode cX1_init 6 = .ok (.putfield 7, 3) := by decide +kernel
theorem dX1_init_9 : decode cX1_init 9 = .ok (.aload_n 0, 1) := by decide +kernel
theorem dX1_init_10 : decode cX1_init 10 = .ok (.iconst 0, 1) := by decide +kernel
theorem dX1_init_11 : decode cX1_init 11 = .ok (.putfield 13, 3) := by decide +kernel
theorem dX1_init_14 : decode cX1_init 14 = .ok (.aload_n 0, 1) := by decide +kernel
theorem dX1_init_15 : decode cX1_init 15 = .ok (.iconst 0, 1) := by decide +kernel
theorem dX1_init_16 : decode cX1_init 16 = .ok (.putfield 17, 3) := by decide +kernel
theorem dX1_init_19 : decode cX1_init 19 = .ok (.return_, 1) := by decide +kernel
theorem dX1_offer_0 : decode cX1_offer 0 = .ok (.aload_n 2, 1) := by decide +kernel
theorem dX1_offer_1 : decode cX1_offer 1 = .ok (.getfield 20, 3) := by decide +kernel
theorem dX1_offer_4 : decode cX1_offer 4 = .ok (.aload_n 3, 1) := by decide +kernel
theorem dX1_offer_5 : decode cX1_offer 5 = .ok (.getfield 20, 3) := by decide +kernel
theorem dX1_offer_8 : decode cX1_offer 8 = .ok (.iadd, 1) := by decide +kernel
theorem dX1_offer_9 : decode cX1_offer 9 = .ok (.istore 5, 2) := by decide +kernel
theorem dX1_offer_11 : decode cX1_offer 11 = .ok (.aload_n 2, 1) := by decide +kernel
theorem dX1_offer_12 : decode cX1_offer 12 = .ok (.getfield 23, 3) := by decide +kernel
theorem dX1_offer_15 : decode cX1_offer 15 = .ok (.aload_n 3, 1) := by decide +kernel
theorem dX1_offer_16 : decode cX1_offer 16 = .ok (.getfield 23, 3) := by decide +kernel
theorem dX1_offer_19 : decode cX1_offer 19 = .ok (.iadd, 1) := by decide +kernel
theorem dX1_offer_20 : decode cX1_offer 20 = .ok (.iload 4, 2) := by decide +kernel
theorem dX1_offer_22 : decode cX1_offer 22 = .ok (.if_icmp .gt 7, 3) := by decide +kernel
theorem dX1_offer_25 : decode cX1_offer 25 = .ok (.iconst 1, 1) := by decide +kernel
theorem dX1_offer_26 : decode cX1_offer 26 = .ok (.goto 4, 3) := by decide +kernel
theorem dX1_offer_29 : decode cX1_offer 29 = .ok (.iconst 0, 1) := by decide +kernel
theorem dX1_offer_30 : decode cX1_offer 30 = .ok (.istore 6, 2) := by decide +kernel
theorem dX1_offer_32 : decode cX1_offer 32 = .ok (.iload 6, 2) := by decide +kernel
theorem dX1_offer_34 : decode cX1_offer 34 = .ok (.ifCond .eq 35, 3) := by decide +kernel
theorem dX1_offer_37 : decode cX1_offer 37 = .ok (.aload_n 0, 1) := by decide +kernel
theorem dX1_offer_38 : decode cX1_offer 38 = .ok (.getfield 7, 3) := by decide +kernel
theorem dX1_offer_41 : decode cX1_offer 41 = .ok (.ifCond .eq 12, 3) := by decide +kernel
theorem dX1_offer_44 : decode cX1_offer 44 = .ok (.iload 5, 2) := by decide +kernel
theorem dX1_offer_46 : decode cX1_offer 46 = .ok (.aload_n 0, 1) := by decide +kernel
theorem dX1_offer_47 : decode cX1_offer 47 = .ok (.getfield 17, 3) := by decide +kernel
theorem dX1_offer_50 : decode cX1_offer 50 = .ok (.if_icmp .ge 19, 3) := by decide +kernel
theorem dX1_offer_53 : decode cX1_offer 53 = .ok (.aload_n 0, 1) := by decide +kernel
theorem dX1_offer_54 : decode cX1_offer 54 = .ok (.iconst 1, 1) := by decide +kernel
theorem dX1_offer_55 : decode cX1_offer 55 = .ok (.putfield 7, 3) := by decide +kernel
theorem dX1_offer_58 : decode cX1_offer 58 = .ok (.aload_n 0, 1) := by decide +kernel
theorem dX1_offer_59 : decode cX1_offer 59 = .ok (.iload_n 1, 1) := by decide +kernel
theorem dX1_offer_60 : decode cX1_offer 60 = .ok (.putfield 13, 3) := by decide +kernel
theorem dX1_offer_63 : decode cX1_offer 63 = .ok (.aload_n 0, 1) := by decide +kernel
theorem dX1_offer_64 : decode cX1_offer 64 = .ok (.iload 5, 2) := by decide +kernel
theorem dX1_offer_66 : decode cX1_offer 66 = .ok (.putfield 17, 3) := by decide +kernel
theorem dX1_offer_69 : decode cX1_offer 69 = .ok (.return_, 1) := by decide +kernel
theorem dX2_init_0 : decode cX2_init 0 = .ok (.aload_n 0, 1) := by decide +kernel
theorem dX2_init_1 : decode cX2_init 1 = .ok (.invokespecial 1, 3) := by decide +kernel
theorem dX2_init_4 : decode cX2_init 4 = .ok (.aload_n 0, 1) := by decide +kernel
theorem dX2_init_5 : decode cX2_init 5 = .ok (.iload_n 1, 1) := by decide +kernel
theorem dX2_init_6 : decode cX2_init 6 = .ok (.putfield 7, 3) := by decide +kernel
theorem dX2_init_9 : decode cX2_init 9 = .ok (.aload_n 0, 1) := by decide +kernel
theorem dX2_init_10 : decode cX2_init 10 = .ok (.iload_n 2, 1) := by decide +kernel
theorem dX2_init_11 : decode cX2_init 11 = .ok (.putfield 13, 3) := by decide +kernel
theorem dX2_init_14 : decode cX2_init 14 = .ok (.aload_n 0, 1) := by decide +kernel
theorem dX2_init_15 : decode cX2_init 15 = .ok (.iload_n 3, 1) := by decide +kernel
theorem dX2_init_16 : decode cX2_init 16 = .ok (.putfield 17, 3) := by decide +kernel
theorem dX2_init_19 : decode cX2_init 19 = .ok (.aload_n 0, 1) := by decide +kernel
theorem dX2_init_20 : decode cX2_init 20 = .ok (.iload 4, 2) := by decide +kernel
theorem dX2_init_22 : decode cX2_init 22 = .ok (.putfield 20, 3) := by decide +kernel
theorem dX2_init_25 : decode cX2_init 25 = .ok (.aload_n 0, 1) := by decide +kernel
theorem dX2_init_26 : decode cX2_init 26 = .ok (.iload 5, 2) := by decide +kernel
theorem dX2_init_28 : decode cX2_init 28 = .ok (.putfield 23, 3) := by decide +kernel
theorem dX2_init_31 : decode cX2_init 31 = .ok (.aload_n 0, 1) := by decide +kernel
theorem dX2_init_32 : decode cX2_init 32 = .ok (.iload 6, 2) := by decide +kernel
theorem dX2_init_34 : decode cX2_init 34 = .ok (.putfield 26, 3) := by decide +kernel
theorem dX2_init_37 : decode cX2_init 37 = .ok (.aload_n 0, 1) := by decide +kernel
theorem dX2_init_38 : decode cX2_init 38 = .ok (.iload 7, 2) := by decide +kernel
theorem dX2_init_40 : decode cX2_init 40 = .ok (.putfield 29, 3) := by decide +kernel
theorem dX2_init_43 : decode cX2_init 43 = .ok (.return_, 1) := by decide +kernel
theorem dX2_ofLoad_0 : decode cX2_ofLoad 0 = .ok (.new 8, 3) := by decide +kernel
theorem dX2_ofLoad_3 : decode cX2_ofLoad 3 = .ok (.dup, 1) := by decide +kernel
theorem dX2_ofLoad_4 : decode cX2_ofLoad 4 = .ok (.bipush 108, 2) := by decide +kernel
theorem dX2_ofLoad_6 : decode cX2_ofLoad 6 = .ok (.iload_n 0, 1) := by decide +kernel
theorem dX2_ofLoad_7 : decode cX2_ofLoad 7 = .ok (.iload_n 0, 1) := by decide +kernel
theorem dX2_ofLoad_8 : decode cX2_ofLoad 8 = .ok (.iload_n 1, 1) := by decide +kernel
theorem dX2_ofLoad_9 : decode cX2_ofLoad 9 = .ok (.iconst 0, 1) := by decide +kernel
theorem dX2_ofLoad_10 : decode cX2_ofLoad 10 = .ok (.iload_n 2, 1) := by decide +kernel
theorem dX2_ofLoad_11 : decode cX2_ofLoad 11 = .ok (.iload_n 3, 1) := by decide +kernel
theorem dX2_ofLoad_12 : decode cX2_ofLoad 12 = .ok (.invokespecial 32, 3) := by decide +kernel
theorem dX2_ofLoad_15 : decode cX2_ofLoad 15 = .ok (.areturn, 1) := by decide +kernel
theorem dX2_ofSale_0 : decode cX2_ofSale 0 = .ok (.new 8, 3) := by decide +kernel
theorem dX2_ofSale_3 : decode cX2_ofSale 3 = .ok (.dup, 1) := by decide +kernel
theorem dX2_ofSale_4 : decode cX2_ofSale 4 = .ok (.bipush 115, 2) := by decide +kernel
theorem dX2_ofSale_6 : decode cX2_ofSale 6 = .ok (.iload_n 0, 1) := by decide +kernel
theorem dX2_ofSale_7 : decode cX2_ofSale 7 = .ok (.iload_n 0, 1) := by decide +kernel
theorem dX2_ofSale_8 : decode cX2_ofSale 8 = .ok (.iload_n 1, 1) := by decide +kernel
theorem dX2_ofSale_9 : decode cX2_ofSale 9 = .ok (.iconst 0, 1) := by decide +kernel
theorem dX2_ofSale_10 : decode cX2_ofSale 10 = .ok (.iconst 0, 1) := by decide +kernel
theorem dX2_ofSale_11 : decode cX2_ofSale 11 = .ok (.iconst 0, 1) := by decide +kernel
theorem dX2_ofSale_12 : decode cX2_ofSale 12 = .ok (.invokespecial 32, 3) := by decide +kernel
theorem dX2_ofSale_15 : decode cX2_ofSale 15 = .ok (.areturn, 1) := by decide +kernel
theorem dX2_ofTransfer_0 : decode cX2_ofTransfer 0 = .ok (.new 8, 3) := by decide +kernel
theorem dX2_ofTransfer_3 : decode cX2_ofTransfer 3 = .ok (.dup, 1) := by decide +kernel
theorem dX2_ofTransfer_4 : decode cX2_ofTransfer 4 = .ok (.bipush 116, 2) := by decide +kernel
theorem dX2_ofTransfer_6 : decode cX2_ofTransfer 6 = .ok (.iload_n 0, 1) := by decide +kernel
theorem dX2_ofTransfer_7 : decode cX2_ofTransfer 7 = .ok (.iload_n 1, 1) := by decide +kernel
theorem dX2_ofTransfer_8 : decode cX2_ofTransfer 8 = .ok (.iload_n 2, 1) := by decide +kernel
theorem dX2_ofTransfer_9 : decode cX2_ofTransfer 9 = .ok (.iconst 0, 1) := by decide +kernel
theorem dX2_ofTransfer_10 : decode cX2_ofTransfer 10 = .ok (.iconst 0, 1) := by decide +kernel
theorem dX2_ofTransfer_11 : decode cX2_ofTransfer 11 = .ok (.iconst 0, 1) := by decide +kernel
theorem dX2_ofTransfer_12 : decode cX2_ofTransfer 12 = .ok (.invokespecial 32, 3) := by decide +kernel
theorem dX2_ofTransfer_15 : decode cX2_ofTransfer 15 = .ok (.areturn, 1) := by decide +kernel
theorem dX2_ofDrying_0 : decode cX2_ofDrying 0 = .ok (.new 8, 3) := by decide +kernel
theorem dX2_ofDrying_3 : decode cX2_ofDrying 3 = .ok (.dup, 1) := by decide +kernel
theorem dX2_ofDrying_4 : decode cX2_ofDrying 4 = .ok (.bipush 100, 2) := by decide +kernel
theorem dX2_ofDrying_6 : decode cX2_ofDrying 6 = .ok (.iload_n 0, 1) := by decide +kernel
theorem dX2_ofDrying_7 : decode cX2_ofDrying 7 = .ok (.iload_n 0, 1) := by decide +kernel
theorem dX2_ofDrying_8 : decode cX2_ofDrying 8 = .ok (.iconst 0, 1) := by decide +kernel
theorem dX2_ofDrying_9 : decode cX2_ofDrying 9 = .ok (.iconst 0, 1) := by decide +kernel
theorem dX2_ofDrying_10 : decode cX2_ofDrying 10 = .ok (.iload_n 1, 1) := by decide +kernel
theorem dX2_ofDrying_11 : decode cX2_ofDrying 11 = .ok (.iconst 0, 1) := by decide +kernel
theorem dX2_ofDrying_12 : decode cX2_ofDrying 12 = .ok (.invokespecial 32, 3) := by decide +kernel
theorem dX2_ofDrying_15 : decode cX2_ofDrying 15 = .ok (.areturn, 1) := by decide +kernel
theorem dX2_ofBlend_0 : decode cX2_ofBlend 0 = .ok (.new 8, 3) := by decide +kernel
theorem dX2_ofBlend_3 : decode cX2_ofBlend 3 = .ok (.dup, 1) := by decide +kernel
theorem dX2_ofBlend_4 : decode cX2_ofBlend 4 = .ok (.bipush 98, 2) := by decide +kernel
theorem dX2_ofBlend_6 : decode cX2_ofBlend 6 = .ok (.iload_n 0, 1) := by decide +kernel
theorem dX2_ofBlend_7 : decode cX2_ofBlend 7 = .ok (.iload_n 1, 1) := by decide +kernel
theorem dX2_ofBlend_8 : decode cX2_ofBlend 8 = .ok (.iload_n 2, 1) := by decide +kernel
theorem dX2_ofBlend_9 : decode cX2_ofBlend 9 = .ok (.iload_n 3, 1) := by decide +kernel
theorem dX2_ofBlend_10 : decode cX2_ofBlend 10 = .ok (.iconst 0, 1) := by decide +kernel
theorem dX2_ofBlend_11 : decode cX2_ofBlend 11 = .ok (.iconst 0, 1) := by decide +kernel
theorem dX2_ofBlend_12 : decode cX2_ofBlend 12 = .ok (.invokespecial 32, 3) := by decide +kernel
theorem dX2_ofBlend_15 : decode cX2_ofBlend 15 = .ok (.areturn, 1) := by decide +kernel
theorem dX3_init_0 : decode cX3_init 0 = .ok (.aload_n 0, 1) := by decide +kernel
theorem dX3_init_1 : decode cX3_init 1 = .ok (.invokespecial 1, 3) := by decide +kernel
theorem dX3_init_4 : decode cX3_init 4 = .ok (.aload_n 0, 1) := by decide +kernel
theorem dX3_init_5 : decode cX3_init 5 = .ok (.iconst 0, 1) := by decide +kernel
theorem dX3_init_6 : decode cX3_init 6 = .ok (.putfield 7, 3) := by decide +kernel
theorem dX3_init_9 : decode cX3_init 9 = .ok (.aload_n 0, 1) := by decide +kernel
theorem dX3_init_10 : decode cX3_init 10 = .ok (.iconst 0, 1) := by decide +kernel
theorem dX3_init_11 : decode cX3_init 11 = .ok (.putfield 13, 3) := by decide +kernel
theorem dX3_init_14 : decode cX3_init 14 = .ok (.aload_n 0, 1) := by decide +kernel
theorem dX3_init_15 : decode cX3_init 15 = .ok (.iconst 0, 1) := by decide +kernel
theorem dX3_init_16 : decode cX3_init 16 = .ok (.putfield 16, 3) := by decide +kernel
theorem dX3_init_19 : decode cX3_init 19 = .ok (.aload_n 0, 1) := by decide +kernel
theorem dX3_init_20 : decode cX3_init 20 = .ok (.iconst 0, 1) := by decide +kernel
theorem dX3_init_21 : decode cX3_init 21 = .ok (.putfield 19, 3) := by decide +kernel
theorem dX3_init_24 : decode cX3_init 24 = .ok (.aload_n 0, 1) := by decide +kernel
theorem dX3_init_25 : decode cX3_init 25 = .ok (.iconst 0, 1) := by decide +kernel
theorem dX3_init_26 : decode cX3_init 26 = .ok (.putfield 22, 3) := by decide +kernel
theorem dX3_init_29 : decode cX3_init 29 = .ok (.aload_n 0, 1) := by decide +kernel
theorem dX3_init_30 : decode cX3_init 30 = .ok (.aload_n 1, 1) := by decide +kernel
theorem dX3_init_31 : decode cX3_init 31 = .ok (.putfield 25, 3) := by decide +kernel
theorem dX3_init_34 : decode cX3_init 34 = .ok (.aload_n 0, 1) := by decide +kernel
theorem dX3_init_35 : decode cX3_init 35 = .ok (.aload_n 2, 1) := by decide +kernel
theorem dX3_init_36 : decode cX3_init 36 = .ok (.putfield 29, 3) := by decide +kernel
theorem dX3_init_39 : decode cX3_init 39 = .ok (.return_, 1) := by decide +kernel
theorem dX3_startAnew_0 : decode cX3_startAnew 0 = .ok (.aload_n 0, 1) := by decide +kernel
theorem dX3_startAnew_1 : decode cX3_startAnew 1 = .ok (.iconst 0, 1) := by decide +kernel
theorem dX3_startAnew_2 : decode cX3_startAnew 2 = .ok (.putfield 7, 3) := by decide +kernel
theorem dX3_startAnew_5 : decode cX3_startAnew 5 = .ok (.aload_n 0, 1) := by decide +kernel
theorem dX3_startAnew_6 : decode cX3_startAnew 6 = .ok (.iconst 0, 1) := by decide +kernel
theorem dX3_startAnew_7 : decode cX3_startAnew 7 = .ok (.putfield 13, 3) := by decide +kernel
theorem dX3_startAnew_10 : decode cX3_startAnew 10 = .ok (.aload_n 0, 1) := by decide +kernel
theorem dX3_startAnew_11 : decode cX3_startAnew 11 = .ok (.iconst 0, 1) := by decide +kernel
theorem dX3_startAnew_12 : decode cX3_startAnew 12 = .ok (.putfield 16, 3) := by decide +kernel
theorem dX3_startAnew_15 : decode cX3_startAnew 15 = .ok (.aload_n 0, 1) := by decide +kernel
theorem dX3_startAnew_16 : decode cX3_startAnew 16 = .ok (.iconst 0, 1) := by decide +kernel
theorem dX3_startAnew_17 : decode cX3_startAnew 17 = .ok (.putfield 19, 3) := by decide +kernel
theorem dX3_startAnew_20 : decode cX3_startAnew 20 = .ok (.aload_n 0, 1) := by decide +kernel
theorem dX3_startAnew_21 : decode cX3_startAnew 21 = .ok (.iconst 0, 1) := by decide +kernel
theorem dX3_startAnew_22 : decode cX3_startAnew 22 = .ok (.putfield 22, 3) := by decide +kernel
theorem dX3_startAnew_25 : decode cX3_startAnew 25 = .ok (.return_, 1) := by decide +kernel
theorem dX3_goOn_0 : decode cX3_goOn 0 = .ok (.iload_n 1, 1) := by decide +kernel
theorem dX3_goOn_1 : decode cX3_goOn 1 = .ok (.istore_n 2, 1) := by decide +kernel
theorem dX3_goOn_2 : decode cX3_goOn 2 = .ok (.iload_n 2, 1) := by decide +kernel
theorem dX3_goOn_3 : decode cX3_goOn 3 = .ok (.ifCond .le 77, 3) := by decide +kernel
theorem dX3_goOn_6 : decode cX3_goOn 6 = .ok (.aload_n 0, 1) := by decide +kernel
theorem dX3_goOn_7 : decode cX3_goOn 7 = .ok (.getfield 7, 3) := by decide +kernel
theorem dX3_goOn_10 : decode cX3_goOn 10 = .ok (.aload_n 0, 1) := by decide +kernel
theorem dX3_goOn_11 : decode cX3_goOn 11 = .ok (.getfield 25, 3) := by decide +kernel
theorem dX3_goOn_14 : decode cX3_goOn 14 = .ok (.getfield 33, 3) := by decide +kernel
theorem dX3_goOn_17 : decode cX3_goOn 17 = .ok (.if_icmp .ge 63, 3) := by decide +kernel
theorem dX3_goOn_20 : decode cX3_goOn 20 = .ok (.aload_n 0, 1) := by decide +kernel
theorem dX3_goOn_21 : decode cX3_goOn 21 = .ok (.getfield 25, 3) := by decide +kernel
theorem dX3_goOn_24 : decode cX3_goOn 24 = .ok (.aload_n 0, 1) := by decide +kernel
theorem dX3_goOn_25 : decode cX3_goOn 25 = .ok (.getfield 7, 3) := by decide +kernel
theorem dX3_goOn_28 : decode cX3_goOn 28 = .ok (.invokevirtual 38, 3) := by decide +kernel
theorem dX3_goOn_31 : decode cX3_goOn 31 = .ok (.aload_n 0, 1) := by decide +kernel
theorem dX3_goOn_32 : decode cX3_goOn 32 = .ok (.getfield 13, 3) := by decide +kernel
theorem dX3_goOn_35 : decode cX3_goOn 35 = .ok (.isub, 1) := by decide +kernel
theorem dX3_goOn_36 : decode cX3_goOn 36 = .ok (.istore_n 3, 1) := by decide +kernel
theorem dX3_goOn_37 : decode cX3_goOn 37 = .ok (.iload_n 2, 1) := by decide +kernel
theorem dX3_goOn_38 : decode cX3_goOn 38 = .ok (.iload_n 3, 1) := by decide +kernel
theorem dX3_goOn_39 : decode cX3_goOn 39 = .ok (.invokestatic 42, 3) := by decide +kernel
theorem dX3_goOn_42 : decode cX3_goOn 42 = .ok (.istore 4, 2) := by decide +kernel
theorem dX3_goOn_44 : decode cX3_goOn 44 = .ok (.aload_n 0, 1) := by decide +kernel
theorem dX3_goOn_45 : decode cX3_goOn 45 = .ok (.iload 4, 2) := by decide +kernel
theorem dX3_goOn_47 : decode cX3_goOn 47 = .ok (.invokevirtual 48, 3) := by decide +kernel
theorem dX3_goOn_50 : decode cX3_goOn 50 = .ok (.iload_n 2, 1) := by decide +kernel
theorem dX3_goOn_51 : decode cX3_goOn 51 = .ok (.iload 4, 2) := by decide +kernel
theorem dX3_goOn_53 : decode cX3_goOn 53 = .ok (.isub, 1) := by decide +kernel
theorem dX3_goOn_54 : decode cX3_goOn 54 = .ok (.istore_n 2, 1) := by decide +kernel
theorem dX3_goOn_55 : decode cX3_goOn 55 = .ok (.iload 4, 2) := by decide +kernel
theorem dX3_goOn_57 : decode cX3_goOn 57 = .ok (.iload_n 3, 1) := by decide +kernel
theorem dX3_goOn_58 : decode cX3_goOn 58 = .ok (.if_icmp .ge 4, 3) := by decide +kernel
theorem dX3_goOn_61 : decode cX3_goOn 61 = .ok (.return_, 1) := by decide +kernel
theorem dX3_goOn_62 : decode cX3_goOn 62 = .ok (.aload_n 0, 1) := by decide +kernel
theorem dX3_goOn_63 : decode cX3_goOn 63 = .ok (.iconst 0, 1) := by decide +kernel
theorem dX3_goOn_64 : decode cX3_goOn 64 = .ok (.putfield 13, 3) := by decide +kernel
theorem dX3_goOn_67 : decode cX3_goOn 67 = .ok (.aload_n 0, 1) := by decide +kernel
theorem dX3_goOn_68 : decode cX3_goOn 68 = .ok (.dup, 1) := by decide +kernel
theorem dX3_goOn_69 : decode cX3_goOn 69 = .ok (.getfield 7, 3) := by decide +kernel
theorem dX3_goOn_72 : decode cX3_goOn 72 = .ok (.iconst 1, 1) := by decide +kernel
theorem dX3_goOn_73 : decode cX3_goOn 73 = .ok (.iadd, 1) := by decide +kernel
theorem dX3_goOn_74 : decode cX3_goOn 74 = .ok (.putfield 7, 3) := by decide +kernel
theorem dX3_goOn_77 : decode cX3_goOn 77 = .ok (.goto (-75), 3) := by decide +kernel
theorem dX3_goOn_80 : decode cX3_goOn 80 = .ok (.return_, 1) := by decide +kernel
theorem dX3_goBack_0 : decode cX3_goBack 0 = .ok (.iload_n 1, 1) := by decide +kernel
theorem dX3_goBack_1 : decode cX3_goBack 1 = .ok (.istore_n 2, 1) := by decide +kernel
theorem dX3_goBack_2 : decode cX3_goBack 2 = .ok (.aload_n 0, 1) := by decide +kernel
theorem dX3_goBack_3 : decode cX3_goBack 3 = .ok (.getfield 25, 3) := by decide +kernel
theorem dX3_goBack_6 : decode cX3_goBack 6 = .ok (.getfield 33, 3) := by decide +kernel
theorem dX3_goBack_9 : decode cX3_goBack 9 = .ok (.istore_n 3, 1) := by decide +kernel
theorem dX3_goBack_10 : decode cX3_goBack 10 = .ok (.iload_n 3, 1) := by decide +kernel
theorem dX3_goBack_11 : decode cX3_goBack 11 = .ok (.ifCond .le 75, 3) := by decide +kernel
theorem dX3_goBack_14 : decode cX3_goBack 14 = .ok (.iload_n 2, 1) := by decide +kernel
theorem dX3_goBack_15 : decode cX3_goBack 15 = .ok (.ifCond .le 71, 3) := by decide +kernel
theorem dX3_goBack_18 : decode cX3_goBack 18 = .ok (.aload_n 0, 1) := by decide +kernel
theorem dX3_goBack_19 : decode cX3_goBack 19 = .ok (.getfield 13, 3) := by decide +kernel
theorem dX3_goBack_22 : decode cX3_goBack 22 = .ok (.ifCond .ne 36, 3) := by decide +kernel
theorem dX3_goBack_25 : decode cX3_goBack 25 = .ok (.aload_n 0, 1) := by decide +kernel
theorem dX3_goBack_26 : decode cX3_goBack 26 = .ok (.getfield 7, 3) := by decide +kernel
theorem dX3_goBack_29 : decode cX3_goBack 29 = .ok (.ifCond .ne 4, 3) := by decide +kernel
theorem dX3_goBack_32 : decode cX3_goBack 32 = .ok (.return_, 1) := by decide +kernel
theorem dX3_goBack_33 : decode cX3_goBack 33 = .ok (.aload_n 0, 1) := by decide +kernel
theorem dX3_goBack_34 : decode cX3_goBack 34 = .ok (.dup, 1) := by decide +kernel
theorem dX3_goBack_35 : decode cX3_goBack 35 = .ok (.getfield 7, 3) := by decide +kernel
theorem dX3_goBack_38 : decode cX3_goBack 38 = .ok (.iconst 1, 1) := by decide +kernel
theorem dX3_goBack_39 : decode cX3_goBack 39 = .ok (.isub, 1) := by decide +kernel
theorem dX3_goBack_40 : decode cX3_goBack 40 = .ok (.putfield 7, 3) := by decide +kernel
theorem dX3_goBack_43 : decode cX3_goBack 43 = .ok (.aload_n 0, 1) := by decide +kernel
theorem dX3_goBack_44 : decode cX3_goBack 44 = .ok (.aload_n 0, 1) := by decide +kernel
theorem dX3_goBack_45 : decode cX3_goBack 45 = .ok (.getfield 25, 3) := by decide +kernel
theorem dX3_goBack_48 : decode cX3_goBack 48 = .ok (.aload_n 0, 1) := by decide +kernel
theorem dX3_goBack_49 : decode cX3_goBack 49 = .ok (.getfield 7, 3) := by decide +kernel
theorem dX3_goBack_52 : decode cX3_goBack 52 = .ok (.invokevirtual 38, 3) := by decide +kernel
theorem dX3_goBack_55 : decode cX3_goBack 55 = .ok (.putfield 13, 3) := by decide +kernel
theorem dX3_goBack_58 : decode cX3_goBack 58 = .ok (.iload_n 2, 1) := by decide +kernel
theorem dX3_goBack_59 : decode cX3_goBack 59 = .ok (.aload_n 0, 1) := by decide +kernel
theorem dX3_goBack_60 : decode cX3_goBack 60 = .ok (.getfield 13, 3) := by decide +kernel
theorem dX3_goBack_63 : decode cX3_goBack 63 = .ok (.invokestatic 42, 3) := by decide +kernel
theorem dX3_goBack_66 : decode cX3_goBack 66 = .ok (.istore 4, 2) := by decide +kernel
theorem dX3_goBack_68 : decode cX3_goBack 68 = .ok (.aload_n 0, 1) := by decide +kernel
theorem dX3_goBack_69 : decode cX3_goBack 69 = .ok (.iload 4, 2) := by decide +kernel
theorem dX3_goBack_71 : decode cX3_goBack 71 = .ok (.ineg, 1) := by decide +kernel
theorem dX3_goBack_72 : decode cX3_goBack 72 = .ok (.invokevirtual 48, 3) := by decide +kernel
theorem dX3_goBack_75 : decode cX3_goBack 75 = .ok (.iload_n 2, 1) := by decide +kernel
theorem dX3_goBack_76 : decode cX3_goBack 76 = .ok (.iload 4, 2) := by decide +kernel
theorem dX3_goBack_78 : decode cX3_goBack 78 = .ok (.isub, 1) := by decide +kernel
theorem dX3_goBack_79 : decode cX3_goBack 79 = .ok (.istore_n 2, 1) := by decide +kernel
theorem dX3_goBack_80 : decode cX3_goBack 80 = .ok (.iinc 3 (-1), 3) := by decide +kernel
theorem dX3_goBack_83 : decode cX3_goBack 83 = .ok (.goto (-73), 3) := by decide +kernel
theorem dX3_goBack_86 : decode cX3_goBack 86 = .ok (.return_, 1) := by decide +kernel
theorem dX3_reckon_0 : decode cX3_reckon 0 = .ok (.aload_n 0, 1) := by decide +kernel
theorem dX3_reckon_1 : decode cX3_reckon 1 = .ok (.getfield 25, 3) := by decide +kernel
theorem dX3_reckon_4 : decode cX3_reckon 4 = .ok (.aload_n 0, 1) := by decide +kernel
theorem dX3_reckon_5 : decode cX3_reckon 5 = .ok (.getfield 7, 3) := by decide +kernel
theorem dX3_reckon_8 : decode cX3_reckon 8 = .ok (.invokevirtual 52, 3) := by decide +kernel
theorem dX3_reckon_11 : decode cX3_reckon 11 = .ok (.istore_n 2, 1) := by decide +kernel
theorem dX3_reckon_12 : decode cX3_reckon 12 = .ok (.aload_n 0, 1) := by decide +kernel
theorem dX3_reckon_13 : decode cX3_reckon 13 = .ok (.getfield 25, 3) := by decide +kernel
theorem dX3_reckon_16 : decode cX3_reckon 16 = .ok (.getfield 55, 3) := by decide +kernel
theorem dX3_reckon_19 : decode cX3_reckon 19 = .ok (.iload_n 2, 1) := by decide +kernel
theorem dX3_reckon_20 : decode cX3_reckon 20 = .ok (.iaload, 1) := by decide +kernel
theorem dX3_reckon_21 : decode cX3_reckon 21 = .ok (.istore_n 3, 1) := by decide +kernel
theorem dX3_reckon_22 : decode cX3_reckon 22 = .ok (.aload_n 0, 1) := by decide +kernel
theorem dX3_reckon_23 : decode cX3_reckon 23 = .ok (.dup, 1) := by decide +kernel
theorem dX3_reckon_24 : decode cX3_reckon 24 = .ok (.getfield 13, 3) := by decide +kernel
theorem dX3_reckon_27 : decode cX3_reckon 27 = .ok (.iload_n 1, 1) := by decide +kernel
theorem dX3_reckon_28 : decode cX3_reckon 28 = .ok (.iadd, 1) := by decide +kernel
theorem dX3_reckon_29 : decode cX3_reckon 29 = .ok (.putfield 13, 3) := by decide +kernel
theorem dX3_reckon_32 : decode cX3_reckon 32 = .ok (.aload_n 0, 1) := by decide +kernel
theorem dX3_reckon_33 : decode cX3_reckon 33 = .ok (.dup, 1) := by decide +kernel
theorem dX3_reckon_34 : decode cX3_reckon 34 = .ok (.getfield 16, 3) := by decide +kernel
theorem dX3_reckon_37 : decode cX3_reckon 37 = .ok (.iload_n 3, 1) := by decide +kernel
theorem dX3_reckon_38 : decode cX3_reckon 38 = .ok (.ifCond .lt 23, 3) := by decide +kernel
theorem dX3_reckon_41 : decode cX3_reckon 41 = .ok (.iload_n 3, 1) := by decide +kernel
theorem dX3_reckon_42 : decode cX3_reckon 42 = .ok (.aload_n 0, 1) := by decide +kernel
theorem dX3_reckon_43 : decode cX3_reckon 43 = .ok (.getfield 29, 3) := by decide +kernel
theorem dX3_reckon_46 : decode cX3_reckon 46 = .ok (.arraylength, 1) := by decide +kernel
theorem dX3_reckon_47 : decode cX3_reckon 47 = .ok (.if_icmp .ge 14, 3) := by decide +kernel
theorem dX3_reckon_50 : decode cX3_reckon 50 = .ok (.iload_n 1, 1) := by decide +kernel
theorem dX3_reckon_51 : decode cX3_reckon 51 = .ok (.aload_n 0, 1) := by decide +kernel
theorem dX3_reckon_52 : decode cX3_reckon 52 = .ok (.getfield 29, 3) := by decide +kernel
theorem dX3_reckon_55 : decode cX3_reckon 55 = .ok (.iload_n 3, 1) := by decide +kernel
theorem dX3_reckon_56 : decode cX3_reckon 56 = .ok (.iaload, 1) := by decide +kernel
theorem dX3_reckon_57 : decode cX3_reckon 57 = .ok (.imul, 1) := by decide +kernel
theorem dX3_reckon_58 : decode cX3_reckon 58 = .ok (.goto 4, 3) := by decide +kernel
theorem dX3_reckon_61 : decode cX3_reckon 61 = .ok (.iconst 0, 1) := by decide +kernel
theorem dX3_reckon_62 : decode cX3_reckon 62 = .ok (.iadd, 1) := by decide +kernel
theorem dX3_reckon_63 : decode cX3_reckon 63 = .ok (.putfield 16, 3) := by decide +kernel
theorem dX3_reckon_66 : decode cX3_reckon 66 = .ok (.aload_n 0, 1) := by decide +kernel
theorem dX3_reckon_67 : decode cX3_reckon 67 = .ok (.dup, 1) := by decide +kernel
theorem dX3_reckon_68 : decode cX3_reckon 68 = .ok (.getfield 19, 3) := by decide +kernel
theorem dX3_reckon_71 : decode cX3_reckon 71 = .ok (.iload_n 1, 1) := by decide +kernel
theorem dX3_reckon_72 : decode cX3_reckon 72 = .ok (.aload_n 0, 1) := by decide +kernel
theorem dX3_reckon_73 : decode cX3_reckon 73 = .ok (.getfield 25, 3) := by decide +kernel
theorem dX3_reckon_76 : decode cX3_reckon 76 = .ok (.getfield 58, 3) := by decide +kernel
theorem dX3_reckon_79 : decode cX3_reckon 79 = .ok (.iload_n 2, 1) := by decide +kernel
theorem dX3_reckon_80 : decode cX3_reckon 80 = .ok (.iaload, 1) := by decide +kernel
theorem dX3_reckon_81 : decode cX3_reckon 81 = .ok (.imul, 1) := by decide +kernel
theorem dX3_reckon_82 : decode cX3_reckon 82 = .ok (.iadd, 1) := by decide +kernel
theorem dX3_reckon_83 : decode cX3_reckon 83 = .ok (.putfield 19, 3) := by decide +kernel
theorem dX3_reckon_86 : decode cX3_reckon 86 = .ok (.aload_n 0, 1) := by decide +kernel
theorem dX3_reckon_87 : decode cX3_reckon 87 = .ok (.dup, 1) := by decide +kernel
theorem dX3_reckon_88 : decode cX3_reckon 88 = .ok (.getfield 22, 3) := by decide +kernel
theorem dX3_reckon_91 : decode cX3_reckon 91 = .ok (.iload_n 1, 1) := by decide +kernel
theorem dX3_reckon_92 : decode cX3_reckon 92 = .ok (.aload_n 0, 1) := by decide +kernel
theorem dX3_reckon_93 : decode cX3_reckon 93 = .ok (.getfield 25, 3) := by decide +kernel
theorem dX3_reckon_96 : decode cX3_reckon 96 = .ok (.getfield 61, 3) := by decide +kernel
theorem dX3_reckon_99 : decode cX3_reckon 99 = .ok (.iload_n 2, 1) := by decide +kernel
theorem dX3_reckon_100 : decode cX3_reckon 100 = .ok (.iaload, 1) := by decide +kernel
theorem dX3_reckon_101 : decode cX3_reckon 101 = .ok (.imul, 1) := by decide +kernel
theorem dX3_reckon_102 : decode cX3_reckon 102 = .ok (.iadd, 1) := by decide +kernel
theorem dX3_reckon_103 : decode cX3_reckon 103 = .ok (.putfield 22, 3) := by decide +kernel
theorem dX3_reckon_106 : decode cX3_reckon 106 = .ok (.return_, 1) := by decide +kernel
theorem dX4_init_0 : decode cX4_init 0 = .ok (.aload_n 0, 1) := by decide +kernel
theorem dX4_init_1 : decode cX4_init 1 = .ok (.invokespecial 3, 3) := by decide +kernel
theorem dX4_init_4 : decode cX4_init 4 = .ok (.aload_n 0, 1) := by decide +kernel
theorem dX4_init_5 : decode cX4_init 5 = .ok (.bipush 80, 2) := by decide +kernel
theorem dX4_init_7 : decode cX4_init 7 = .ok (.newarray .int, 2) := by decide +kernel
theorem dX4_init_9 : decode cX4_init 9 = .ok (.putfield 9, 3) := by decide +kernel
theorem dX4_init_12 : decode cX4_init 12 = .ok (.aload_n 0, 1) := by decide +kernel
theorem dX4_init_13 : decode cX4_init 13 = .ok (.iconst 0, 1) := by decide +kernel
theorem dX4_init_14 : decode cX4_init 14 = .ok (.putfield 15, 3) := by decide +kernel
theorem dX4_init_17 : decode cX4_init 17 = .ok (.aload_n 0, 1) := by decide +kernel
theorem dX4_init_18 : decode cX4_init 18 = .ok (.iconst 0, 1) := by decide +kernel
theorem dX4_init_19 : decode cX4_init 19 = .ok (.putfield 19, 3) := by decide +kernel
theorem dX4_init_22 : decode cX4_init 22 = .ok (.aload_n 0, 1) := by decide +kernel
theorem dX4_init_23 : decode cX4_init 23 = .ok (.sipush 500, 3) := by decide +kernel
theorem dX4_init_26 : decode cX4_init 26 = .ok (.putfield 22, 3) := by decide +kernel
theorem dX4_init_29 : decode cX4_init 29 = .ok (.aload_n 0, 1) := by decide +kernel
theorem dX4_init_30 : decode cX4_init 30 = .ok (.lconst 0, 1) := by decide +kernel
theorem dX4_init_31 : decode cX4_init 31 = .ok (.putfield 25, 3) := by decide +kernel
theorem dX4_init_34 : decode cX4_init 34 = .ok (.return_, 1) := by decide +kernel
theorem dX4_follow_0 : decode cX4_follow 0 = .ok (.iload_n 1, 1) := by decide +kernel
theorem dX4_follow_1 : decode cX4_follow 1 = .ok (.aload_n 0, 1) := by decide +kernel
theorem dX4_follow_2 : decode cX4_follow 2 = .ok (.getfield 19, 3) := by decide +kernel
theorem dX4_follow_5 : decode cX4_follow 5 = .ok (.isub, 1) := by decide +kernel
theorem dX4_follow_6 : decode cX4_follow 6 = .ok (.istore_n 2, 1) := by decide +kernel
theorem dX4_follow_7 : decode cX4_follow 7 = .ok (.iload_n 2, 1) := by decide +kernel
theorem dX4_follow_8 : decode cX4_follow 8 = .ok (.ifCond .eq 15, 3) := by decide +kernel
theorem dX4_follow_11 : decode cX4_follow 11 = .ok (.aload_n 0, 1) := by decide +kernel
theorem dX4_follow_12 : decode cX4_follow 12 = .ok (.getfield 15, 3) := by decide +kernel
theorem dX4_follow_15 : decode cX4_follow 15 = .ok (.aload_n 0, 1) := by decide +kernel
theorem dX4_follow_16 : decode cX4_follow 16 = .ok (.getfield 9, 3) := by decide +kernel
theorem dX4_follow_19 : decode cX4_follow 19 = .ok (.arraylength, 1) := by decide +kernel
theorem dX4_follow_20 : decode cX4_follow 20 = .ok (.if_icmp .lt 4, 3) := by decide +kernel
theorem dX4_follow_23 : decode cX4_follow 23 = .ok (.return_, 1) := by decide +kernel
theorem dX4_follow_24 : decode cX4_follow 24 = .ok (.aload_n 0, 1) := by decide +kernel
theorem dX4_follow_25 : decode cX4_follow 25 = .ok (.getfield 9, 3) := by decide +kernel
theorem dX4_follow_28 : decode cX4_follow 28 = .ok (.aload_n 0, 1) := by decide +kernel
theorem dX4_follow_29 : decode cX4_follow 29 = .ok (.getfield 15, 3) := by decide +kernel
theorem dX4_follow_32 : decode cX4_follow 32 = .ok (.iload_n 2, 1) := by decide +kernel
theorem dX4_follow_33 : decode cX4_follow 33 = .ok (.iastore, 1) := by decide +kernel
theorem dX4_follow_34 : decode cX4_follow 34 = .ok (.aload_n 0, 1) := by decide +kernel
theorem dX4_follow_35 : decode cX4_follow 35 = .ok (.dup, 1) := by decide +kernel
theorem dX4_follow_36 : decode cX4_follow 36 = .ok (.getfield 15, 3) := by decide +kernel
theorem dX4_follow_39 : decode cX4_follow 39 = .ok (.iconst 1, 1) := by decide +kernel
theorem dX4_follow_40 : decode cX4_follow 40 = .ok (.iadd, 1) := by decide +kernel
theorem dX4_follow_41 : decode cX4_follow 41 = .ok (.putfield 15, 3) := by decide +kernel
theorem dX4_follow_44 : decode cX4_follow 44 = .ok (.aload_n 0, 1) := by decide +kernel
theorem dX4_follow_45 : decode cX4_follow 45 = .ok (.iload_n 1, 1) := by decide +kernel
theorem dX4_follow_46 : decode cX4_follow 46 = .ok (.putfield 19, 3) := by decide +kernel
theorem dX4_follow_49 : decode cX4_follow 49 = .ok (.return_, 1) := by decide +kernel
theorem dX4_reprice_0 : decode cX4_reprice 0 = .ok (.aload_n 0, 1) := by decide +kernel
theorem dX4_reprice_1 : decode cX4_reprice 1 = .ok (.getfield 22, 3) := by decide +kernel
theorem dX4_reprice_4 : decode cX4_reprice 4 = .ok (.istore_n 2, 1) := by decide +kernel
theorem dX4_reprice_5 : decode cX4_reprice 5 = .ok (.aload_n 0, 1) := by decide +kernel
theorem dX4_reprice_6 : decode cX4_reprice 6 = .ok (.dup, 1) := by decide +kernel
theorem dX4_reprice_7 : decode cX4_reprice 7 = .ok (.getfield 25, 3) := by decide +kernel
theorem dX4_reprice_10 : decode cX4_reprice 10 = .ok (.aload_n 0, 1) := by decide +kernel
theorem dX4_reprice_11 : decode cX4_reprice 11 = .ok (.getfield 19, 3) := by decide +kernel
theorem dX4_reprice_14 : decode cX4_reprice 14 = .ok (.i2l, 1) := by decide +kernel
theorem dX4_reprice_15 : decode cX4_reprice 15 = .ok (.iload_n 2, 1) := by decide +kernel
theorem dX4_reprice_16 : decode cX4_reprice 16 = .ok (.iload_n 1, 1) := by decide +kernel
theorem dX4_reprice_17 : decode cX4_reprice 17 = .ok (.isub, 1) := by decide +kernel
theorem dX4_reprice_18 : decode cX4_reprice 18 = .ok (.i2l, 1) := by decide +kernel
theorem dX4_reprice_19 : decode cX4_reprice 19 = .ok (.lmul, 1) := by decide +kernel
theorem dX4_reprice_20 : decode cX4_reprice 20 = .ok (.ladd, 1) := by decide +kernel
theorem dX4_reprice_21 : decode cX4_reprice 21 = .ok (.putfield 25, 3) := by decide +kernel
theorem dX4_reprice_24 : decode cX4_reprice 24 = .ok (.aload_n 0, 1) := by decide +kernel
theorem dX4_reprice_25 : decode cX4_reprice 25 = .ok (.iload_n 1, 1) := by decide +kernel
theorem dX4_reprice_26 : decode cX4_reprice 26 = .ok (.putfield 22, 3) := by decide +kernel
theorem dX4_reprice_29 : decode cX4_reprice 29 = .ok (.iload_n 2, 1) := by decide +kernel
theorem dX4_reprice_30 : decode cX4_reprice 30 = .ok (.ireturn, 1) := by decide +kernel
theorem dX5_init_0 : decode cX5_init 0 = .ok (.aload_n 0, 1) := by decide +kernel
theorem dX5_init_1 : decode cX5_init 1 = .ok (.invokespecial 3, 3) := by decide +kernel
theorem dX5_init_4 : decode cX5_init 4 = .ok (.aload_n 0, 1) := by decide +kernel
theorem dX5_init_5 : decode cX5_init 5 = .ok (.bipush 12, 2) := by decide +kernel
theorem dX5_init_7 : decode cX5_init 7 = .ok (.newarray .int, 2) := by decide +kernel
theorem dX5_init_9 : decode cX5_init 9 = .ok (.putfield 9, 3) := by decide +kernel
theorem dX5_init_12 : decode cX5_init 12 = .ok (.aload_n 0, 1) := by decide +kernel
theorem dX5_init_13 : decode cX5_init 13 = .ok (.bipush 12, 2) := by decide +kernel
theorem dX5_init_15 : decode cX5_init 15 = .ok (.newarray .int, 2) := by decide +kernel
theorem dX5_init_17 : decode cX5_init 17 = .ok (.putfield 15, 3) := by decide +kernel
theorem dX5_init_20 : decode cX5_init 20 = .ok (.aload_n 0, 1) := by decide +kernel
theorem dX5_init_21 : decode cX5_init 21 = .ok (.iconst 0, 1) := by decide +kernel
theorem dX5_init_22 : decode cX5_init 22 = .ok (.putfield 18, 3) := by decide +kernel
theorem dX5_init_25 : decode cX5_init 25 = .ok (.iconst 0, 1) := by decide +kernel
theorem dX5_init_26 : decode cX5_init 26 = .ok (.istore_n 1, 1) := by decide +kernel
theorem dX5_init_27 : decode cX5_init 27 = .ok (.iload_n 1, 1) := by decide +kernel
theorem dX5_init_28 : decode cX5_init 28 = .ok (.iconst 3, 1) := by decide +kernel
theorem dX5_init_29 : decode cX5_init 29 = .ok (.iadd, 1) := by decide +kernel
theorem dX5_init_30 : decode cX5_init 30 = .ok (.aload_n 0, 1) := by decide +kernel
theorem dX5_init_31 : decode cX5_init 31 = .ok (.getfield 9, 3) := by decide +kernel
theorem dX5_init_34 : decode cX5_init 34 = .ok (.arraylength, 1) := by decide +kernel
theorem dX5_init_35 : decode cX5_init 35 = .ok (.if_icmp .gt 68, 3) := by decide +kernel
theorem dX5_init_38 : decode cX5_init 38 = .ok (.aload_n 0, 1) := by decide +kernel
theorem dX5_init_39 : decode cX5_init 39 = .ok (.getfield 9, 3) := by decide +kernel
theorem dX5_init_42 : decode cX5_init 42 = .ok (.iload_n 1, 1) := by decide +kernel
theorem dX5_init_43 : decode cX5_init 43 = .ok (.sipush 140, 3) := by decide +kernel
theorem dX5_init_46 : decode cX5_init 46 = .ok (.iastore, 1) := by decide +kernel
theorem dX5_init_47 : decode cX5_init 47 = .ok (.aload_n 0, 1) := by decide +kernel
theorem dX5_init_48 : decode cX5_init 48 = .ok (.getfield 9, 3) := by decide +kernel
theorem dX5_init_51 : decode cX5_init 51 = .ok (.iload_n 1, 1) := by decide +kernel
theorem dX5_init_52 : decode cX5_init 52 = .ok (.iconst 1, 1) := by decide +kernel
theorem dX5_init_53 : decode cX5_init 53 = .ok (.iadd, 1) := by decide +kernel
theorem dX5_init_54 : decode cX5_init 54 = .ok (.sipush 155, 3) := by decide +kernel
theorem dX5_init_57 : decode cX5_init 57 = .ok (.iastore, 1) := by decide +kernel
theorem dX5_init_58 : decode cX5_init 58 = .ok (.aload_n 0, 1) := by decide +kernel
theorem dX5_init_59 : decode cX5_init 59 = .ok (.getfield 9, 3) := by decide +kernel
theorem dX5_init_62 : decode cX5_init 62 = .ok (.iload_n 1, 1) := by decide +kernel
theorem dX5_init_63 : decode cX5_init 63 = .ok (.iconst 2, 1) := by decide +kernel
theorem dX5_init_64 : decode cX5_init 64 = .ok (.iadd, 1) := by decide +kernel
theorem dX5_init_65 : decode cX5_init 65 = .ok (.sipush 175, 3) := by decide +kernel
theorem dX5_init_68 : decode cX5_init 68 = .ok (.iastore, 1) := by decide +kernel
theorem dX5_init_69 : decode cX5_init 69 = .ok (.aload_n 0, 1) := by decide +kernel
theorem dX5_init_70 : decode cX5_init 70 = .ok (.getfield 15, 3) := by decide +kernel
theorem dX5_init_73 : decode cX5_init 73 = .ok (.iload_n 1, 1) := by decide +kernel
theorem dX5_init_74 : decode cX5_init 74 = .ok (.bipush 20, 2) := by decide +kernel
theorem dX5_init_76 : decode cX5_init 76 = .ok (.iastore, 1) := by decide +kernel
theorem dX5_init_77 : decode cX5_init 77 = .ok (.aload_n 0, 1) := by decide +kernel
theorem dX5_init_78 : decode cX5_init 78 = .ok (.getfield 15, 3) := by decide +kernel
theorem dX5_init_81 : decode cX5_init 81 = .ok (.iload_n 1, 1) := by decide +kernel
theorem dX5_init_82 : decode cX5_init 82 = .ok (.iconst 1, 1) := by decide +kernel
theorem dX5_init_83 : decode cX5_init 83 = .ok (.iadd, 1) := by decide +kernel
theorem dX5_init_84 : decode cX5_init 84 = .ok (.bipush 30, 2) := by decide +kernel
theorem dX5_init_86 : decode cX5_init 86 = .ok (.iastore, 1) := by decide +kernel
theorem dX5_init_87 : decode cX5_init 87 = .ok (.aload_n 0, 1) := by decide +kernel
theorem dX5_init_88 : decode cX5_init 88 = .ok (.getfield 15, 3) := by decide +kernel
theorem dX5_init_91 : decode cX5_init 91 = .ok (.iload_n 1, 1) := by decide +kernel
theorem dX5_init_92 : decode cX5_init 92 = .ok (.iconst 2, 1) := by decide +kernel
theorem dX5_init_93 : decode cX5_init 93 = .ok (.iadd, 1) := by decide +kernel
theorem dX5_init_94 : decode cX5_init 94 = .ok (.bipush 40, 2) := by decide +kernel
theorem dX5_init_96 : decode cX5_init 96 = .ok (.iastore, 1) := by decide +kernel
theorem dX5_init_97 : decode cX5_init 97 = .ok (.iinc 1 3, 3) := by decide +kernel
theorem dX5_init_100 : decode cX5_init 100 = .ok (.goto (-73), 3) := by decide +kernel
theorem dX5_init_103 : decode cX5_init 103 = .ok (.return_, 1) := by decide +kernel
theorem dX5_change_0 : decode cX5_change 0 = .ok (.iload_n 1, 1) := by decide +kernel
theorem dX5_change_1 : decode cX5_change 1 = .ok (.iconst 3, 1) := by decide +kernel
theorem dX5_change_2 : decode cX5_change 2 = .ok (.imul, 1) := by decide +kernel
theorem dX5_change_3 : decode cX5_change 3 = .ok (.iload_n 2, 1) := by decide +kernel
theorem dX5_change_4 : decode cX5_change 4 = .ok (.iadd, 1) := by decide +kernel
theorem dX5_change_5 : decode cX5_change 5 = .ok (.iconst 1, 1) := by decide +kernel
theorem dX5_change_6 : decode cX5_change 6 = .ok (.isub, 1) := by decide +kernel
theorem dX5_change_7 : decode cX5_change 7 = .ok (.istore 5, 2) := by decide +kernel
theorem dX5_change_9 : decode cX5_change 9 = .ok (.iload 5, 2) := by decide +kernel
theorem dX5_change_11 : decode cX5_change 11 = .ok (.ifCond .lt 13, 3) := by decide +kernel
theorem dX5_change_14 : decode cX5_change 14 = .ok (.iload 5, 2) := by decide +kernel
theorem dX5_change_16 : decode cX5_change 16 = .ok (.aload_n 0, 1) := by decide +kernel
theorem dX5_change_17 : decode cX5_change 17 = .ok (.getfield 9, 3) := by decide +kernel
theorem dX5_change_20 : decode cX5_change 20 = .ok (.arraylength, 1) := by decide +kernel
theorem dX5_change_21 : decode cX5_change 21 = .ok (.if_icmp .lt 5, 3) := by decide +kernel
theorem dX5_change_24 : decode cX5_change 24 = .ok (.iconst 0, 1) := by decide +kernel
theorem dX5_change_25 : decode cX5_change 25 = .ok (.ireturn, 1) := by decide +kernel
theorem dX5_change_26 : decode cX5_change 26 = .ok (.aload_n 0, 1) := by decide +kernel
theorem dX5_change_27 : decode cX5_change 27 = .ok (.getfield 9, 3) := by decide +kernel
theorem dX5_change_30 : decode cX5_change 30 = .ok (.iload 5, 2) := by decide +kernel
theorem dX5_change_32 : decode cX5_change 32 = .ok (.iaload, 1) := by decide +kernel
theorem dX5_change_33 : decode cX5_change 33 = .ok (.istore 6, 2) := by decide +kernel
theorem dX5_change_35 : decode cX5_change 35 = .ok (.aload_n 0, 1) := by decide +kernel
theorem dX5_change_36 : decode cX5_change 36 = .ok (.getfield 9, 3) := by decide +kernel
theorem dX5_change_39 : decode cX5_change 39 = .ok (.iload 5, 2) := by decide +kernel
theorem dX5_change_41 : decode cX5_change 41 = .ok (.iload_n 3, 1) := by decide +kernel
theorem dX5_change_42 : decode cX5_change 42 = .ok (.iastore, 1) := by decide +kernel
theorem dX5_change_43 : decode cX5_change 43 = .ok (.aload_n 0, 1) := by decide +kernel
theorem dX5_change_44 : decode cX5_change 44 = .ok (.getfield 15, 3) := by decide +kernel
theorem dX5_change_47 : decode cX5_change 47 = .ok (.iload 5, 2) := by decide +kernel
theorem dX5_change_49 : decode cX5_change 49 = .ok (.iload 4, 2) := by decide +kernel
theorem dX5_change_51 : decode cX5_change 51 = .ok (.iastore, 1) := by decide +kernel
theorem dX5_change_52 : decode cX5_change 52 = .ok (.iload 6, 2) := by decide +kernel
theorem dX5_change_54 : decode cX5_change 54 = .ok (.ireturn, 1) := by decide +kernel
theorem dX5_gradeNow_0 : decode cX5_gradeNow 0 = .ok (.aload_n 0, 1) := by decide +kernel
theorem dX5_gradeNow_1 : decode cX5_gradeNow 1 = .ok (.getfield 18, 3) := by decide +kernel
theorem dX5_gradeNow_4 : decode cX5_gradeNow 4 = .ok (.iconst 3, 1) := by decide +kernel
theorem dX5_gradeNow_5 : decode cX5_gradeNow 5 = .ok (.imul, 1) := by decide +kernel
theorem dX5_gradeNow_6 : decode cX5_gradeNow 6 = .ok (.istore_n 3, 1) := by decide +kernel
theorem dX5_gradeNow_7 : decode cX5_gradeNow 7 = .ok (.iconst 1, 1) := by decide +kernel
theorem dX5_gradeNow_8 : decode cX5_gradeNow 8 = .ok (.istore 4, 2) := by decide +kernel
theorem dX5_gradeNow_10 : decode cX5_gradeNow 10 = .ok (.iload 4, 2) := by decide +kernel
theorem dX5_gradeNow_12 : decode cX5_gradeNow 12 = .ok (.iconst 3, 1) := by decide +kernel
theorem dX5_gradeNow_13 : decode cX5_gradeNow 13 = .ok (.if_icmp .gt 57, 3) := by decide +kernel
theorem dX5_gradeNow_16 : decode cX5_gradeNow 16 = .ok (.iload_n 3, 1) := by decide +kernel
theorem dX5_gradeNow_17 : decode cX5_gradeNow 17 = .ok (.iload 4, 2) := by decide +kernel
theorem dX5_gradeNow_19 : decode cX5_gradeNow 19 = .ok (.iadd, 1) := by decide +kernel
theorem dX5_gradeNow_20 : decode cX5_gradeNow 20 = .ok (.iconst 1, 1) := by decide +kernel
theorem dX5_gradeNow_21 : decode cX5_gradeNow 21 = .ok (.isub, 1) := by decide +kernel
theorem dX5_gradeNow_22 : decode cX5_gradeNow 22 = .ok (.istore 5, 2) := by decide +kernel
theorem dX5_gradeNow_24 : decode cX5_gradeNow 24 = .ok (.iload 5, 2) := by decide +kernel
theorem dX5_gradeNow_26 : decode cX5_gradeNow 26 = .ok (.ifCond .lt 38, 3) := by decide +kernel
theorem dX5_gradeNow_29 : decode cX5_gradeNow 29 = .ok (.iload 5, 2) := by decide +kernel
theorem dX5_gradeNow_31 : decode cX5_gradeNow 31 = .ok (.aload_n 0, 1) := by decide +kernel
theorem dX5_gradeNow_32 : decode cX5_gradeNow 32 = .ok (.getfield 9, 3) := by decide +kernel
theorem dX5_gradeNow_35 : decode cX5_gradeNow 35 = .ok (.arraylength, 1) := by decide +kernel
theorem dX5_gradeNow_36 : decode cX5_gradeNow 36 = .ok (.if_icmp .ge 28, 3) := by decide +kernel
theorem dX5_gradeNow_39 : decode cX5_gradeNow 39 = .ok (.iload_n 1, 1) := by decide +kernel
theorem dX5_gradeNow_40 : decode cX5_gradeNow 40 = .ok (.aload_n 0, 1) := by decide +kernel
theorem dX5_gradeNow_41 : decode cX5_gradeNow 41 = .ok (.getfield 9, 3) := by decide +kernel
theorem dX5_gradeNow_44 : decode cX5_gradeNow 44 = .ok (.iload 5, 2) := by decide +kernel
theorem dX5_gradeNow_46 : decode cX5_gradeNow 46 = .ok (.iaload, 1) := by decide +kernel
theorem dX5_gradeNow_47 : decode cX5_gradeNow 47 = .ok (.if_icmp .gt 17, 3) := by decide +kernel
theorem dX5_gradeNow_50 : decode cX5_gradeNow 50 = .ok (.iload_n 2, 1) := by decide +kernel
theorem dX5_gradeNow_51 : decode cX5_gradeNow 51 = .ok (.aload_n 0, 1) := by decide +kernel
theorem dX5_gradeNow_52 : decode cX5_gradeNow 52 = .ok (.getfield 15, 3) := by decide +kernel
theorem dX5_gradeNow_55 : decode cX5_gradeNow 55 = .ok (.iload 5, 2) := by decide +kernel
theorem dX5_gradeNow_57 : decode cX5_gradeNow 57 = .ok (.iaload, 1) := by decide +kernel
theorem dX5_gradeNow_58 : decode cX5_gradeNow 58 = .ok (.if_icmp .gt 6, 3) := by decide +kernel
theorem dX5_gradeNow_61 : decode cX5_gradeNow 61 = .ok (.iload 4, 2) := by decide +kernel
theorem dX5_gradeNow_63 : decode cX5_gradeNow 63 = .ok (.ireturn, 1) := by decide +kernel
theorem dX5_gradeNow_64 : decode cX5_gradeNow 64 = .ok (.iinc 4 1, 3) := by decide +kernel
theorem dX5_gradeNow_67 : decode cX5_gradeNow 67 = .ok (.goto (-57), 3) := by decide +kernel
theorem dX5_gradeNow_70 : decode cX5_gradeNow 70 = .ok (.iconst 4, 1) := by decide +kernel
theorem dX5_gradeNow_71 : decode cX5_gradeNow 71 = .ok (.ireturn, 1) := by decide +kernel
theorem dX6_init_0 : decode cX6_init 0 = .ok (.aload_n 0, 1) := by decide +kernel
theorem dX6_init_1 : decode cX6_init 1 = .ok (.invokespecial 3, 3) := by decide +kernel
theorem dX6_init_4 : decode cX6_init 4 = .ok (.aload_n 0, 1) := by decide +kernel
theorem dX6_init_5 : decode cX6_init 5 = .ok (.new 9, 3) := by decide +kernel
theorem dX6_init_8 : decode cX6_init 8 = .ok (.dup, 1) := by decide +kernel
theorem dX6_init_9 : decode cX6_init 9 = .ok (.invokespecial 11, 3) := by decide +kernel
theorem dX6_init_12 : decode cX6_init 12 = .ok (.putfield 12, 3) := by decide +kernel
theorem dX6_init_15 : decode cX6_init 15 = .ok (.aload_n 0, 1) := by decide +kernel
theorem dX6_init_16 : decode cX6_init 16 = .ok (.new 9, 3) := by decide +kernel
theorem dX6_init_19 : decode cX6_init 19 = .ok (.dup, 1) := by decide +kernel
theorem dX6_init_20 : decode cX6_init 20 = .ok (.invokespecial 11, 3) := by decide +kernel
theorem dX6_init_23 : decode cX6_init 23 = .ok (.putfield 16, 3) := by decide +kernel
theorem dX6_init_26 : decode cX6_init 26 = .ok (.aload_n 0, 1) := by decide +kernel
theorem dX6_init_27 : decode cX6_init 27 = .ok (.new 9, 3) := by decide +kernel
theorem dX6_init_30 : decode cX6_init 30 = .ok (.dup, 1) := by decide +kernel
theorem dX6_init_31 : decode cX6_init 31 = .ok (.invokespecial 11, 3) := by decide +kernel
theorem dX6_init_34 : decode cX6_init 34 = .ok (.putfield 19, 3) := by decide +kernel
theorem dX6_init_37 : decode cX6_init 37 = .ok (.aload_n 0, 1) := by decide +kernel
theorem dX6_init_38 : decode cX6_init 38 = .ok (.new 22, 3) := by decide +kernel
theorem dX6_init_41 : decode cX6_init 41 = .ok (.dup, 1) := by decide +kernel
theorem dX6_init_42 : decode cX6_init 42 = .ok (.invokespecial 24, 3) := by decide +kernel
theorem dX6_init_45 : decode cX6_init 45 = .ok (.putfield 25, 3) := by decide +kernel
theorem dX6_init_48 : decode cX6_init 48 = .ok (.aload_n 0, 1) := by decide +kernel
theorem dX6_init_49 : decode cX6_init 49 = .ok (.iconst 5, 1) := by decide +kernel
theorem dX6_init_50 : decode cX6_init 50 = .ok (.newarray .int, 2) := by decide +kernel
theorem dX6_init_52 : decode cX6_init 52 = .ok (.dup, 1) := by decide +kernel
theorem dX6_init_53 : decode cX6_init 53 = .ok (.iconst 0, 1) := by decide +kernel
theorem dX6_init_54 : decode cX6_init 54 = .ok (.iconst 0, 1) := by decide +kernel
theorem dX6_init_55 : decode cX6_init 55 = .ok (.iastore, 1) := by decide +kernel
theorem dX6_init_56 : decode cX6_init 56 = .ok (.dup, 1) := by decide +kernel
theorem dX6_init_57 : decode cX6_init 57 = .ok (.iconst 1, 1) := by decide +kernel
theorem dX6_init_58 : decode cX6_init 58 = .ok (.sipush 500, 3) := by decide +kernel
theorem dX6_init_61 : decode cX6_init 61 = .ok (.iastore, 1) := by decide +kernel
theorem dX6_init_62 : decode cX6_init 62 = .ok (.dup, 1) := by decide +kernel
theorem dX6_init_63 : decode cX6_init 63 = .ok (.iconst 2, 1) := by decide +kernel
theorem dX6_init_64 : decode cX6_init 64 = .ok (.sipush 480, 3) := by decide +kernel
theorem dX6_init_67 : decode cX6_init 67 = .ok (.iastore, 1) := by decide +kernel
theorem dX6_init_68 : decode cX6_init 68 = .ok (.dup, 1) := by decide +kernel
theorem dX6_init_69 : decode cX6_init 69 = .ok (.iconst 3, 1) := by decide +kernel
theorem dX6_init_70 : decode cX6_init 70 = .ok (.sipush 450, 3) := by decide +kernel
theorem dX6_init_73 : decode cX6_init 73 = .ok (.iastore, 1) := by decide +kernel
theorem dX6_init_74 : decode cX6_init 74 = .ok (.dup, 1) := by decide +kernel
theorem dX6_init_75 : decode cX6_init 75 = .ok (.iconst 4, 1) := by decide +kernel
theorem dX6_init_76 : decode cX6_init 76 = .ok (.sipush 380, 3) := by decide +kernel
theorem dX6_init_79 : decode cX6_init 79 = .ok (.iastore, 1) := by decide +kernel
theorem dX6_init_80 : decode cX6_init 80 = .ok (.putfield 29, 3) := by decide +kernel
theorem dX6_init_83 : decode cX6_init 83 = .ok (.aload_n 0, 1) := by decide +kernel
theorem dX6_init_84 : decode cX6_init 84 = .ok (.new 33, 3) := by decide +kernel
theorem dX6_init_87 : decode cX6_init 87 = .ok (.dup, 1) := by decide +kernel
theorem dX6_init_88 : decode cX6_init 88 = .ok (.invokespecial 35, 3) := by decide +kernel
theorem dX6_init_91 : decode cX6_init 91 = .ok (.putfield 36, 3) := by decide +kernel
theorem dX6_init_94 : decode cX6_init 94 = .ok (.aload_n 0, 1) := by decide +kernel
theorem dX6_init_95 : decode cX6_init 95 = .ok (.new 40, 3) := by decide +kernel
theorem dX6_init_98 : decode cX6_init 98 = .ok (.dup, 1) := by decide +kernel
theorem dX6_init_99 : decode cX6_init 99 = .ok (.invokespecial 42, 3) := by decide +kernel
theorem dX6_init_102 : decode cX6_init 102 = .ok (.putfield 43, 3) := by decide +kernel
theorem dX6_init_105 : decode cX6_init 105 = .ok (.aload_n 0, 1) := by decide +kernel
theorem dX6_init_106 : decode cX6_init 106 = .ok (.lconst 0, 1) := by decide +kernel
theorem dX6_init_107 : decode cX6_init 107 = .ok (.putfield 47, 3) := by decide +kernel
theorem dX6_init_110 : decode cX6_init 110 = .ok (.return_, 1) := by decide +kernel
theorem dX6_addBin_0 : decode cX6_addBin 0 = .ok (.iload_n 1, 1) := by decide +kernel
theorem dX6_addBin_1 : decode cX6_addBin 1 = .ok (.iconst 1, 1) := by decide +kernel
theorem dX6_addBin_2 : decode cX6_addBin 2 = .ok (.sipush 5000, 3) := by decide +kernel
theorem dX6_addBin_5 : decode cX6_addBin 5 = .ok (.invokestatic 51, 3) := by decide +kernel
theorem dX6_addBin_8 : decode cX6_addBin 8 = .ok (.aload_n 0, 1) := by decide +kernel
theorem dX6_addBin_9 : decode cX6_addBin 9 = .ok (.getfield 12, 3) := by decide +kernel
theorem dX6_addBin_12 : decode cX6_addBin 12 = .ok (.invokevirtual 55, 3) := by decide +kernel
theorem dX6_addBin_15 : decode cX6_addBin 15 = .ok (.bipush 6, 2) := by decide +kernel
theorem dX6_addBin_17 : decode cX6_addBin 17 = .ok (.if_icmp .lt 13, 3) := by decide +kernel
theorem dX6_addBin_20 : decode cX6_addBin 20 = .ok (.new 59, 3) := by decide +kernel
theorem dX6_addBin_23 : decode cX6_addBin 23 = .ok (.dup, 1) := by decide +kernel
theorem dX6_addBin_24 : decode cX6_addBin 24 = .ok (.ldc 61, 2) := by decide +kernel
theorem dX6_addBin_26 : decode cX6_addBin 26 = .ok (.invokespecial 63, 3) := by decide +kernel
theorem dX6_addBin_29 : decode cX6_addBin 29 = .ok (.athrow, 1) := by decide +kernel
theorem dX6_addBin_30 : decode cX6_addBin 30 = .ok (.aload_n 0, 1) := by decide +kernel
theorem dX6_addBin_31 : decode cX6_addBin 31 = .ok (.getfield 12, 3) := by decide +kernel
theorem dX6_addBin_34 : decode cX6_addBin 34 = .ok (.new 66, 3) := by decide +kernel
theorem dX6_addBin_37 : decode cX6_addBin 37 = .ok (.dup, 1) := by decide +kernel
theorem dX6_addBin_38 : decode cX6_addBin 38 = .ok (.iload_n 1, 1) := by decide +kernel
theorem dX6_addBin_39 : decode cX6_addBin 39 = .ok (.iload_n 2, 1) := by decide +kernel
theorem dX6_addBin_40 : decode cX6_addBin 40 = .ok (.invokespecial 68, 3) := by decide +kernel
theorem dX6_addBin_43 : decode cX6_addBin 43 = .ok (.invokevirtual 71, 3) := by decide +kernel
theorem dX6_addBin_46 : decode cX6_addBin 46 = .ok (.pop, 1) := by decide +kernel
theorem dX6_addBin_47 : decode cX6_addBin 47 = .ok (.aload_n 0, 1) := by decide +kernel
theorem dX6_addBin_48 : decode cX6_addBin 48 = .ok (.getfield 16, 3) := by decide +kernel
theorem dX6_addBin_51 : decode cX6_addBin 51 = .ok (.new 66, 3) := by decide +kernel
theorem dX6_addBin_54 : decode cX6_addBin 54 = .ok (.dup, 1) := by decide +kernel
theorem dX6_addBin_55 : decode cX6_addBin 55 = .ok (.iload_n 1, 1) := by decide +kernel
theorem dX6_addBin_56 : decode cX6_addBin 56 = .ok (.iload_n 2, 1) := by decide +kernel
theorem dX6_addBin_57 : decode cX6_addBin 57 = .ok (.invokespecial 68, 3) := by decide +kernel
theorem dX6_addBin_60 : decode cX6_addBin 60 = .ok (.invokevirtual 71, 3) := by decide +kernel
theorem dX6_addBin_63 : decode cX6_addBin 63 = .ok (.pop, 1) := by decide +kernel
theorem dX6_addBin_64 : decode cX6_addBin 64 = .ok (.aload_n 0, 1) := by decide +kernel
theorem dX6_addBin_65 : decode cX6_addBin 65 = .ok (.getfield 12, 3) := by decide +kernel
theorem dX6_addBin_68 : decode cX6_addBin 68 = .ok (.invokevirtual 55, 3) := by decide +kernel
theorem dX6_addBin_71 : decode cX6_addBin 71 = .ok (.iconst 1, 1) := by decide +kernel
theorem dX6_addBin_72 : decode cX6_addBin 72 = .ok (.isub, 1) := by decide +kernel
theorem dX6_addBin_73 : decode cX6_addBin 73 = .ok (.ireturn, 1) := by decide +kernel
theorem dX6_binCount_0 : decode cX6_binCount 0 = .ok (.aload_n 0, 1) := by decide +kernel
theorem dX6_binCount_1 : decode cX6_binCount 1 = .ok (.getfield 12, 3) := by decide +kernel
theorem dX6_binCount_4 : decode cX6_binCount 4 = .ok (.invokevirtual 55, 3) := by decide +kernel
theorem dX6_binCount_7 : decode cX6_binCount 7 = .ok (.ireturn, 1) := by decide +kernel
theorem dX6_capacityOf_0 : decode cX6_capacityOf 0 = .ok (.aload_n 0, 1) := by decide +kernel
theorem dX6_capacityOf_1 : decode cX6_capacityOf 1 = .ok (.getfield 12, 3) := by decide +kernel
theorem dX6_capacityOf_4 : decode cX6_capacityOf 4 = .ok (.iload_n 1, 1) := by decide +kernel
theorem dX6_capacityOf_5 : decode cX6_capacityOf 5 = .ok (.invokestatic 75, 3) := by decide +kernel
theorem dX6_capacityOf_8 : decode cX6_capacityOf 8 = .ok (.getfield 79, 3) := by decide +kernel
theorem dX6_capacityOf_11 : decode cX6_capacityOf 11 = .ok (.ireturn, 1) := by decide +kernel
theorem dX6_setRule_0 : decode cX6_setRule 0 = .ok (.iload_n 1, 1) := by decide +kernel
theorem dX6_setRule_1 : decode cX6_setRule 1 = .ok (.iconst 0, 1) := by decide +kernel
theorem dX6_setRule_2 : decode cX6_setRule 2 = .ok (.iconst 3, 1) := by decide +kernel
theorem dX6_setRule_3 : decode cX6_setRule 3 = .ok (.invokestatic 51, 3) := by decide +kernel
theorem dX6_setRule_6 : decode cX6_setRule 6 = .ok (.iload_n 2, 1) := by decide +kernel
theorem dX6_setRule_7 : decode cX6_setRule 7 = .ok (.iconst 1, 1) := by decide +kernel
theorem dX6_setRule_8 : decode cX6_setRule 8 = .ok (.iconst 3, 1) := by decide +kernel
theorem dX6_setRule_9 : decode cX6_setRule 9 = .ok (.invokestatic 51, 3) := by decide +kernel
theorem dX6_setRule_12 : decode cX6_setRule 12 = .ok (.iload_n 3, 1) := by decide +kernel
theorem dX6_setRule_13 : decode cX6_setRule 13 = .ok (.iload 4, 2) := by decide +kernel
theorem dX6_setRule_15 : decode cX6_setRule 15 = .ok (.invokestatic 83, 3) := by decide +kernel
theorem dX6_setRule_18 : decode cX6_setRule 18 = .ok (.aload_n 0, 1) := by decide +kernel
theorem dX6_setRule_19 : decode cX6_setRule 19 = .ok (.getfield 25, 3) := by decide +kernel
theorem dX6_setRule_22 : decode cX6_setRule 22 = .ok (.iload_n 1, 1) := by decide +kernel
theorem dX6_setRule_23 : decode cX6_setRule 23 = .ok (.iload_n 2, 1) := by decide +kernel
theorem dX6_setRule_24 : decode cX6_setRule 24 = .ok (.iload_n 3, 1) := by decide +kernel
theorem dX6_setRule_25 : decode cX6_setRule 25 = .ok (.iload 4, 2) := by decide +kernel
theorem dX6_setRule_27 : decode cX6_setRule 27 = .ok (.invokevirtual 87, 3) := by decide +kernel
theorem dX6_setRule_30 : decode cX6_setRule 30 = .ok (.ireturn, 1) := by decide +kernel
theorem dX6_setSeason_0 : decode cX6_setSeason 0 = .ok (.iload_n 1, 1) := by decide +kernel
theorem dX6_setSeason_1 : decode cX6_setSeason 1 = .ok (.iconst 0, 1) := by decide +kernel
theorem dX6_setSeason_2 : decode cX6_setSeason 2 = .ok (.iconst 3, 1) := by decide +kernel
theorem dX6_setSeason_3 : decode cX6_setSeason 3 = .ok (.invokestatic 51, 3) := by decide +kernel
theorem dX6_setSeason_6 : decode cX6_setSeason 6 = .ok (.aload_n 0, 1) := by decide +kernel
theorem dX6_setSeason_7 : decode cX6_setSeason 7 = .ok (.getfield 25, 3) := by decide +kernel
theorem dX6_setSeason_10 : decode cX6_setSeason 10 = .ok (.getfield 91, 3) := by decide +kernel
theorem dX6_setSeason_13 : decode cX6_setSeason 13 = .ok (.istore_n 2, 1) := by decide +kernel
theorem dX6_setSeason_14 : decode cX6_setSeason 14 = .ok (.aload_n 0, 1) := by decide +kernel
theorem dX6_setSeason_15 : decode cX6_setSeason 15 = .ok (.getfield 25, 3) := by decide +kernel
theorem dX6_setSeason_18 : decode cX6_setSeason 18 = .ok (.iload_n 1, 1) := by decide +kernel
theorem dX6_setSeason_19 : decode cX6_setSeason 19 = .ok (.putfield 91, 3) := by decide +kernel
theorem dX6_setSeason_22 : decode cX6_setSeason 22 = .ok (.iload_n 2, 1) := by decide +kernel
theorem dX6_setSeason_23 : decode cX6_setSeason 23 = .ok (.ireturn, 1) := by decide +kernel
theorem dX6_gradeFor_0 : decode cX6_gradeFor 0 = .ok (.iload_n 1, 1) := by decide +kernel
theorem dX6_gradeFor_1 : decode cX6_gradeFor 1 = .ok (.iload_n 2, 1) := by decide +kernel
theorem dX6_gradeFor_2 : decode cX6_gradeFor 2 = .ok (.invokestatic 83, 3) := by decide +kernel
theorem dX6_gradeFor_5 : decode cX6_gradeFor 5 = .ok (.aload_n 0, 1) := by decide +kernel
theorem dX6_gradeFor_6 : decode cX6_gradeFor 6 = .ok (.getfield 25, 3) := by decide +kernel
theorem dX6_gradeFor_9 : decode cX6_gradeFor 9 = .ok (.iload_n 1, 1) := by decide +kernel
theorem dX6_gradeFor_10 : decode cX6_gradeFor 10 = .ok (.iload_n 2, 1) := by decide +kernel
theorem dX6_gradeFor_11 : decode cX6_gradeFor 11 = .ok (.invokevirtual 94, 3) := by decide +kernel
theorem dX6_gradeFor_14 : decode cX6_gradeFor 14 = .ok (.ireturn, 1) := by decide +kernel
theorem dX6_setPrice_0 : decode cX6_setPrice 0 = .ok (.iload_n 1, 1) := by decide +kernel
theorem dX6_setPrice_1 : decode cX6_setPrice 1 = .ok (.iconst 1, 1) := by decide +kernel
theorem dX6_setPrice_2 : decode cX6_setPrice 2 = .ok (.iconst 4, 1) := by decide +kernel
theorem dX6_setPrice_3 : decode cX6_setPrice 3 = .ok (.invokestatic 51, 3) := by decide +kernel
theorem dX6_setPrice_6 : decode cX6_setPrice 6 = .ok (.iload_n 2, 1) := by decide +kernel
theorem dX6_setPrice_7 : decode cX6_setPrice 7 = .ok (.iconst 0, 1) := by decide +kernel
theorem dX6_setPrice_8 : decode cX6_setPrice 8 = .ok (.sipush 2000, 3) := by decide +kernel
theorem dX6_setPrice_11 : decode cX6_setPrice 11 = .ok (.invokestatic 51, 3) := by decide +kernel
theorem dX6_setPrice_14 : decode cX6_setPrice 14 = .ok (.aload_n 0, 1) := by decide +kernel
theorem dX6_setPrice_15 : decode cX6_setPrice 15 = .ok (.getfield 29, 3) := by decide +kernel
theorem dX6_setPrice_18 : decode cX6_setPrice 18 = .ok (.iload_n 1, 1) := by decide +kernel
theorem dX6_setPrice_19 : decode cX6_setPrice 19 = .ok (.iaload, 1) := by decide +kernel
theorem dX6_setPrice_20 : decode cX6_setPrice 20 = .ok (.istore_n 3, 1) := by decide +kernel
theorem dX6_setPrice_21 : decode cX6_setPrice 21 = .ok (.aload_n 0, 1) := by decide +kernel
theorem dX6_setPrice_22 : decode cX6_setPrice 22 = .ok (.getfield 29, 3) := by decide +kernel
theorem dX6_setPrice_25 : decode cX6_setPrice 25 = .ok (.iload_n 1, 1) := by decide +kernel
theorem dX6_setPrice_26 : decode cX6_setPrice 26 = .ok (.iload_n 2, 1) := by decide +kernel
theorem dX6_setPrice_27 : decode cX6_setPrice 27 = .ok (.iastore, 1) := by decide +kernel
theorem dX6_setPrice_28 : decode cX6_setPrice 28 = .ok (.iload_n 3, 1) := by decide +kernel
theorem dX6_setPrice_29 : decode cX6_setPrice 29 = .ok (.ireturn, 1) := by decide +kernel
theorem dX6_priceOf_0 : decode cX6_priceOf 0 = .ok (.iload_n 1, 1) := by decide +kernel
theorem dX6_priceOf_1 : decode cX6_priceOf 1 = .ok (.iconst 1, 1) := by decide +kernel
theorem dX6_priceOf_2 : decode cX6_priceOf 2 = .ok (.iconst 4, 1) := by decide +kernel
theorem dX6_priceOf_3 : decode cX6_priceOf 3 = .ok (.invokestatic 51, 3) := by decide +kernel
theorem dX6_priceOf_6 : decode cX6_priceOf 6 = .ok (.aload_n 0, 1) := by decide +kernel
theorem dX6_priceOf_7 : decode cX6_priceOf 7 = .ok (.getfield 29, 3) := by decide +kernel
theorem dX6_priceOf_10 : decode cX6_priceOf 10 = .ok (.iload_n 1, 1) := by decide +kernel
theorem dX6_priceOf_11 : decode cX6_priceOf 11 = .ok (.iaload, 1) := by decide +kernel
theorem dX6_priceOf_12 : decode cX6_priceOf 12 = .ok (.ireturn, 1) := by decide +kernel
theorem dX6_load_0 : decode cX6_load 0 = .ok (.aload_n 0, 1) := by decide +kernel
theorem dX6_load_1 : decode cX6_load 1 = .ok (.getfield 12, 3) := by decide +kernel
theorem dX6_load_4 : decode cX6_load 4 = .ok (.iload_n 1, 1) := by decide +kernel
theorem dX6_load_5 : decode cX6_load 5 = .ok (.invokestatic 75, 3) := by decide +kernel
theorem dX6_load_8 : decode cX6_load 8 = .ok (.astore 5, 2) := by decide +kernel
theorem dX6_load_10 : decode cX6_load 10 = .ok (.iload_n 2, 1) := by decide +kernel
theorem dX6_load_11 : decode cX6_load 11 = .ok (.iconst 1, 1) := by decide +kernel
theorem dX6_load_12 : decode cX6_load 12 = .ok (.sipush 2000, 3) := by decide +kernel
theorem dX6_load_15 : decode cX6_load 15 = .ok (.invokestatic 51, 3) := by decide +kernel
theorem dX6_load_18 : decode cX6_load 18 = .ok (.iload_n 3, 1) := by decide +kernel
theorem dX6_load_19 : decode cX6_load 19 = .ok (.iload 4, 2) := by decide +kernel
theorem dX6_load_21 : decode cX6_load 21 = .ok (.invokestatic 83, 3) := by decide +kernel
theorem dX6_load_24 : decode cX6_load 24 = .ok (.aload 5, 2) := by decide +kernel
theorem dX6_load_26 : decode cX6_load 26 = .ok (.iload_n 2, 1) := by decide +kernel
theorem dX6_load_27 : decode cX6_load 27 = .ok (.invokestatic 98, 3) := by decide +kernel
theorem dX6_load_30 : decode cX6_load 30 = .ok (.aload_n 0, 1) := by decide +kernel
theorem dX6_load_31 : decode cX6_load 31 = .ok (.invokevirtual 102, 3) := by decide +kernel
theorem dX6_load_34 : decode cX6_load 34 = .ok (.aload_n 0, 1) := by decide +kernel
theorem dX6_load_35 : decode cX6_load 35 = .ok (.getfield 25, 3) := by decide +kernel
theorem dX6_load_38 : decode cX6_load 38 = .ok (.iload_n 3, 1) := by decide +kernel
theorem dX6_load_39 : decode cX6_load 39 = .ok (.iload 4, 2) := by decide +kernel
theorem dX6_load_41 : decode cX6_load 41 = .ok (.invokevirtual 94, 3) := by decide +kernel
theorem dX6_load_44 : decode cX6_load 44 = .ok (.istore 6, 2) := by decide +kernel
theorem dX6_load_46 : decode cX6_load 46 = .ok (.aload_n 0, 1) := by decide +kernel
theorem dX6_load_47 : decode cX6_load 47 = .ok (.iload_n 1, 1) := by decide +kernel
theorem dX6_load_48 : decode cX6_load 48 = .ok (.iload_n 2, 1) := by decide +kernel
theorem dX6_load_49 : decode cX6_load 49 = .ok (.iload_n 3, 1) := by decide +kernel
theorem dX6_load_50 : decode cX6_load 50 = .ok (.iload 4, 2) := by decide +kernel
theorem dX6_load_52 : decode cX6_load 52 = .ok (.invokestatic 105, 3) := by decide +kernel
theorem dX6_load_55 : decode cX6_load 55 = .ok (.iload_n 2, 1) := by decide +kernel
theorem dX6_load_56 : decode cX6_load 56 = .ok (.ineg, 1) := by decide +kernel
theorem dX6_load_57 : decode cX6_load 57 = .ok (.aload_n 0, 1) := by decide +kernel
theorem dX6_load_58 : decode cX6_load 58 = .ok (.getfield 29, 3) := by decide +kernel
theorem dX6_load_61 : decode cX6_load 61 = .ok (.iload 6, 2) := by decide +kernel
theorem dX6_load_63 : decode cX6_load 63 = .ok (.iaload, 1) := by decide +kernel
theorem dX6_load_64 : decode cX6_load 64 = .ok (.imul, 1) := by decide +kernel
theorem dX6_load_65 : decode cX6_load 65 = .ok (.invokevirtual 111, 3) := by decide +kernel
theorem dX6_load_68 : decode cX6_load 68 = .ok (.iload 6, 2) := by decide +kernel
theorem dX6_load_70 : decode cX6_load 70 = .ok (.ireturn, 1) := by decide +kernel
theorem dX6_sell_0 : decode cX6_sell 0 = .ok (.aload_n 0, 1) := by decide +kernel
theorem dX6_sell_1 : decode cX6_sell 1 = .ok (.getfield 12, 3) := by decide +kernel
theorem dX6_sell_4 : decode cX6_sell 4 = .ok (.iload_n 1, 1) := by decide +kernel
theorem dX6_sell_5 : decode cX6_sell 5 = .ok (.invokestatic 75, 3) := by decide +kernel
theorem dX6_sell_8 : decode cX6_sell 8 = .ok (.astore_n 3, 1) := by decide +kernel
theorem dX6_sell_9 : decode cX6_sell 9 = .ok (.iload_n 2, 1) := by decide +kernel
theorem dX6_sell_10 : decode cX6_sell 10 = .ok (.iconst 1, 1) := by decide +kernel
theorem dX6_sell_11 : decode cX6_sell 11 = .ok (.sipush 5000, 3) := by decide +kernel
theorem dX6_sell_14 : decode cX6_sell 14 = .ok (.invokestatic 51, 3) := by decide +kernel
theorem dX6_sell_17 : decode cX6_sell 17 = .ok (.aload_n 3, 1) := by decide +kernel
theorem dX6_sell_18 : decode cX6_sell 18 = .ok (.iload_n 2, 1) := by decide +kernel
theorem dX6_sell_19 : decode cX6_sell 19 = .ok (.invokestatic 115, 3) := by decide +kernel
theorem dX6_sell_22 : decode cX6_sell 22 = .ok (.aload_n 0, 1) := by decide +kernel
theorem dX6_sell_23 : decode cX6_sell 23 = .ok (.invokevirtual 102, 3) := by decide +kernel
theorem dX6_sell_26 : decode cX6_sell 26 = .ok (.new 118, 3) := by decide +kernel
theorem dX6_sell_29 : decode cX6_sell 29 = .ok (.dup, 1) := by decide +kernel
theorem dX6_sell_30 : decode cX6_sell 30 = .ok (.aload_n 3, 1) := by decide +kernel
theorem dX6_sell_31 : decode cX6_sell 31 = .ok (.aload_n 0, 1) := by decide +kernel
theorem dX6_sell_32 : decode cX6_sell 32 = .ok (.getfield 29, 3) := by decide +kernel
theorem dX6_sell_35 : decode cX6_sell 35 = .ok (.invokespecial 120, 3) := by decide +kernel
theorem dX6_sell_38 : decode cX6_sell 38 = .ok (.astore 4, 2) := by decide +kernel
theorem dX6_sell_40 : decode cX6_sell 40 = .ok (.aload 4, 2) := by decide +kernel
theorem dX6_sell_42 : decode cX6_sell 42 = .ok (.iload_n 2, 1) := by decide +kernel
theorem dX6_sell_43 : decode cX6_sell 43 = .ok (.invokevirtual 123, 3) := by decide +kernel
theorem dX6_sell_46 : decode cX6_sell 46 = .ok (.aload 4, 2) := by decide +kernel
theorem dX6_sell_48 : decode cX6_sell 48 = .ok (.getfield 127, 3) := by decide +kernel
theorem dX6_sell_51 : decode cX6_sell 51 = .ok (.istore 5, 2) := by decide +kernel
theorem dX6_sell_53 : decode cX6_sell 53 = .ok (.aload_n 0, 1) := by decide +kernel
theorem dX6_sell_54 : decode cX6_sell 54 = .ok (.iload_n 1, 1) := by decide +kernel
theorem dX6_sell_55 : decode cX6_sell 55 = .ok (.iload_n 2, 1) := by decide +kernel
theorem dX6_sell_56 : decode cX6_sell 56 = .ok (.invokestatic 130, 3) := by decide +kernel
theorem dX6_sell_59 : decode cX6_sell 59 = .ok (.iload 5, 2) := by decide +kernel
theorem dX6_sell_61 : decode cX6_sell 61 = .ok (.invokevirtual 111, 3) := by decide +kernel
theorem dX6_sell_64 : decode cX6_sell 64 = .ok (.iload 5, 2) := by decide +kernel
theorem dX6_sell_66 : decode cX6_sell 66 = .ok (.ireturn, 1) := by decide +kernel
theorem dX6_transfer_0 : decode cX6_transfer 0 = .ok (.aload_n 0, 1) := by decide +kernel
theorem dX6_transfer_1 : decode cX6_transfer 1 = .ok (.getfield 12, 3) := by decide +kernel
theorem dX6_transfer_4 : decode cX6_transfer 4 = .ok (.iload_n 1, 1) := by decide +kernel
theorem dX6_transfer_5 : decode cX6_transfer 5 = .ok (.invokestatic 75, 3) := by decide +kernel
theorem dX6_transfer_8 : decode cX6_transfer 8 = .ok (.astore 4, 2) := by decide +kernel
theorem dX6_transfer_10 : decode cX6_transfer 10 = .ok (.aload_n 0, 1) := by decide +kernel
theorem dX6_transfer_11 : decode cX6_transfer 11 = .ok (.getfield 12, 3) := by decide +kernel
theorem dX6_transfer_14 : decode cX6_transfer 14 = .ok (.iload_n 2, 1) := by decide +kernel
theorem dX6_transfer_15 : decode cX6_transfer 15 = .ok (.invokestatic 75, 3) := by decide +kernel
theorem dX6_transfer_18 : decode cX6_transfer 18 = .ok (.astore 5, 2) := by decide +kernel
theorem dX6_transfer_20 : decode cX6_transfer 20 = .ok (.iload_n 1, 1) := by decide +kernel
theorem dX6_transfer_21 : decode cX6_transfer 21 = .ok (.iload_n 2, 1) := by decide +kernel
theorem dX6_transfer_22 : decode cX6_transfer 22 = .ok (.invokestatic 134, 3) := by decide +kernel
theorem dX6_transfer_25 : decode cX6_transfer 25 = .ok (.iload_n 3, 1) := by decide +kernel
theorem dX6_transfer_26 : decode cX6_transfer 26 = .ok (.iconst 1, 1) := by decide +kernel
theorem dX6_transfer_27 : decode cX6_transfer 27 = .ok (.sipush 5000, 3) := by decide +kernel
theorem dX6_transfer_30 : decode cX6_transfer 30 = .ok (.invokestatic 51, 3) := by decide +kernel
theorem dX6_transfer_33 : decode cX6_transfer 33 = .ok (.aload 4, 2) := by decide +kernel
theorem dX6_transfer_35 : decode cX6_transfer 35 = .ok (.iload_n 3, 1) := by decide +kernel
theorem dX6_transfer_36 : decode cX6_transfer 36 = .ok (.invokestatic 115, 3) := by decide +kernel
theorem dX6_transfer_39 : decode cX6_transfer 39 = .ok (.aload 5, 2) := by decide +kernel
theorem dX6_transfer_41 : decode cX6_transfer 41 = .ok (.iload_n 3, 1) := by decide +kernel
theorem dX6_transfer_42 : decode cX6_transfer 42 = .ok (.invokestatic 98, 3) := by decide +kernel
theorem dX6_transfer_45 : decode cX6_transfer 45 = .ok (.aload_n 0, 1) := by decide +kernel
theorem dX6_transfer_46 : decode cX6_transfer 46 = .ok (.invokevirtual 102, 3) := by decide +kernel
theorem dX6_transfer_49 : decode cX6_transfer 49 = .ok (.aload 5, 2) := by decide +kernel
theorem dX6_transfer_51 : decode cX6_transfer 51 = .ok (.getfield 137, 3) := by decide +kernel
theorem dX6_transfer_54 : decode cX6_transfer 54 = .ok (.istore 6, 2) := by decide +kernel
theorem dX6_transfer_56 : decode cX6_transfer 56 = .ok (.aload_n 0, 1) := by decide +kernel
theorem dX6_transfer_57 : decode cX6_transfer 57 = .ok (.iload_n 1, 1) := by decide +kernel
theorem dX6_transfer_58 : decode cX6_transfer 58 = .ok (.iload_n 2, 1) := by decide +kernel
theorem dX6_transfer_59 : decode cX6_transfer 59 = .ok (.iload_n 3, 1) := by decide +kernel
theorem dX6_transfer_60 : decode cX6_transfer 60 = .ok (.invokestatic 140, 3) := by decide +kernel
theorem dX6_transfer_63 : decode cX6_transfer 63 = .ok (.iconst 0, 1) := by decide +kernel
theorem dX6_transfer_64 : decode cX6_transfer 64 = .ok (.invokevirtual 111, 3) := by decide +kernel
theorem dX6_transfer_67 : decode cX6_transfer 67 = .ok (.aload 5, 2) := by decide +kernel
theorem dX6_transfer_69 : decode cX6_transfer 69 = .ok (.getfield 137, 3) := by decide +kernel
theorem dX6_transfer_72 : decode cX6_transfer 72 = .ok (.iload 6, 2) := by decide +kernel
theorem dX6_transfer_74 : decode cX6_transfer 74 = .ok (.isub, 1) := by decide +kernel
theorem dX6_transfer_75 : decode cX6_transfer 75 = .ok (.ireturn, 1) := by decide +kernel
theorem dX6_dry_0 : decode cX6_dry 0 = .ok (.aload_n 0, 1) := by decide +kernel
theorem dX6_dry_1 : decode cX6_dry 1 = .ok (.getfield 12, 3) := by decide +kernel
theorem dX6_dry_4 : decode cX6_dry 4 = .ok (.iload_n 1, 1) := by decide +kernel
theorem dX6_dry_5 : decode cX6_dry 5 = .ok (.invokestatic 75, 3) := by decide +kernel
theorem dX6_dry_8 : decode cX6_dry 8 = .ok (.astore_n 3, 1) := by decide +kernel
theorem dX6_dry_9 : decode cX6_dry 9 = .ok (.iload_n 2, 1) := by decide +kernel
theorem dX6_dry_10 : decode cX6_dry 10 = .ok (.invokestatic 144, 3) := by decide +kernel
theorem dX6_dry_13 : decode cX6_dry 13 = .ok (.aload_n 3, 1) := by decide +kernel
theorem dX6_dry_14 : decode cX6_dry 14 = .ok (.iload_n 2, 1) := by decide +kernel
theorem dX6_dry_15 : decode cX6_dry 15 = .ok (.invokevirtual 147, 3) := by decide +kernel
theorem dX6_dry_18 : decode cX6_dry 18 = .ok (.ifCond .ne 13, 3) := by decide +kernel
theorem dX6_dry_21 : decode cX6_dry 21 = .ok (.new 59, 3) := by decide +kernel
theorem dX6_dry_24 : decode cX6_dry 24 = .ok (.dup, 1) := by decide +kernel
theorem dX6_dry_25 : decode cX6_dry 25 = .ok (.ldc 151, 2) := by decide +kernel
theorem dX6_dry_27 : decode cX6_dry 27 = .ok (.invokespecial 63, 3) := by decide +kernel
theorem dX6_dry_30 : decode cX6_dry 30 = .ok (.athrow, 1) := by decide +kernel
theorem dX6_dry_31 : decode cX6_dry 31 = .ok (.aload_n 0, 1) := by decide +kernel
theorem dX6_dry_32 : decode cX6_dry 32 = .ok (.invokevirtual 102, 3) := by decide +kernel
theorem dX6_dry_35 : decode cX6_dry 35 = .ok (.aload_n 3, 1) := by decide +kernel
theorem dX6_dry_36 : decode cX6_dry 36 = .ok (.getfield 153, 3) := by decide +kernel
theorem dX6_dry_39 : decode cX6_dry 39 = .ok (.istore 4, 2) := by decide +kernel
theorem dX6_dry_41 : decode cX6_dry 41 = .ok (.aload_n 0, 1) := by decide +kernel
theorem dX6_dry_42 : decode cX6_dry 42 = .ok (.iload_n 1, 1) := by decide +kernel
theorem dX6_dry_43 : decode cX6_dry 43 = .ok (.iload_n 2, 1) := by decide +kernel
theorem dX6_dry_44 : decode cX6_dry 44 = .ok (.invokestatic 156, 3) := by decide +kernel
theorem dX6_dry_47 : decode cX6_dry 47 = .ok (.aload_n 3, 1) := by decide +kernel
theorem dX6_dry_48 : decode cX6_dry 48 = .ok (.iload_n 2, 1) := by decide +kernel
theorem dX6_dry_49 : decode cX6_dry 49 = .ok (.invokevirtual 159, 3) := by decide +kernel
theorem dX6_dry_52 : decode cX6_dry 52 = .ok (.ineg, 1) := by decide +kernel
theorem dX6_dry_53 : decode cX6_dry 53 = .ok (.invokevirtual 111, 3) := by decide +kernel
theorem dX6_dry_56 : decode cX6_dry 56 = .ok (.iload 4, 2) := by decide +kernel
theorem dX6_dry_58 : decode cX6_dry 58 = .ok (.aload_n 3, 1) := by decide +kernel
theorem dX6_dry_59 : decode cX6_dry 59 = .ok (.getfield 153, 3) := by decide +kernel
theorem dX6_dry_62 : decode cX6_dry 62 = .ok (.isub, 1) := by decide +kernel
theorem dX6_dry_63 : decode cX6_dry 63 = .ok (.ireturn, 1) := by decide +kernel
theorem dX6_dryingCost_0 : decode cX6_dryingCost 0 = .ok (.aload_n 0, 1) := by decide +kernel
theorem dX6_dryingCost_1 : decode cX6_dryingCost 1 = .ok (.getfield 12, 3) := by decide +kernel
theorem dX6_dryingCost_4 : decode cX6_dryingCost 4 = .ok (.iload_n 1, 1) := by decide +kernel
theorem dX6_dryingCost_5 : decode cX6_dryingCost 5 = .ok (.invokestatic 75, 3) := by decide +kernel
theorem dX6_dryingCost_8 : decode cX6_dryingCost 8 = .ok (.astore_n 3, 1) := by decide +kernel
theorem dX6_dryingCost_9 : decode cX6_dryingCost 9 = .ok (.iload_n 2, 1) := by decide +kernel
theorem dX6_dryingCost_10 : decode cX6_dryingCost 10 = .ok (.invokestatic 144, 3) := by decide +kernel
theorem dX6_dryingCost_13 : decode cX6_dryingCost 13 = .ok (.aload_n 3, 1) := by decide +kernel
theorem dX6_dryingCost_14 : decode cX6_dryingCost 14 = .ok (.iload_n 2, 1) := by decide +kernel
theorem dX6_dryingCost_15 : decode cX6_dryingCost 15 = .ok (.invokevirtual 159, 3) := by decide +kernel
theorem dX6_dryingCost_18 : decode cX6_dryingCost 18 = .ok (.ireturn, 1) := by decide +kernel
theorem dX6_bushelsIn_0 : decode cX6_bushelsIn 0 = .ok (.aload_n 0, 1) := by decide +kernel
theorem dX6_bushelsIn_1 : decode cX6_bushelsIn 1 = .ok (.getfield 12, 3) := by decide +kernel
theorem dX6_bushelsIn_4 : decode cX6_bushelsIn 4 = .ok (.iload_n 1, 1) := by decide +kernel
theorem dX6_bushelsIn_5 : decode cX6_bushelsIn 5 = .ok (.invokestatic 75, 3) := by decide +kernel
theorem dX6_bushelsIn_8 : decode cX6_bushelsIn 8 = .ok (.getfield 153, 3) := by decide +kernel
theorem dX6_bushelsIn_11 : decode cX6_bushelsIn 11 = .ok (.ireturn, 1) := by decide +kernel
theorem dX6_layersIn_0 : decode cX6_layersIn 0 = .ok (.aload_n 0, 1) := by decide +kernel
theorem dX6_layersIn_1 : decode cX6_layersIn 1 = .ok (.getfield 12, 3) := by decide +kernel
theorem dX6_layersIn_4 : decode cX6_layersIn 4 = .ok (.iload_n 1, 1) := by decide +kernel
theorem dX6_layersIn_5 : decode cX6_layersIn 5 = .ok (.invokestatic 75, 3) := by decide +kernel
theorem dX6_layersIn_8 : decode cX6_layersIn 8 = .ok (.getfield 137, 3) := by decide +kernel
theorem dX6_layersIn_11 : decode cX6_layersIn 11 = .ok (.ireturn, 1) := by decide +kernel
theorem dX6_layerBushels_0 : decode cX6_layerBushels 0 = .ok (.aload_n 0, 1) := by decide +kernel
theorem dX6_layerBushels_1 : decode cX6_layerBushels 1 = .ok (.getfield 12, 3) := by decide +kernel
theorem dX6_layerBushels_4 : decode cX6_layerBushels 4 = .ok (.iload_n 1, 1) := by decide +kernel
theorem dX6_layerBushels_5 : decode cX6_layerBushels 5 = .ok (.iload_n 2, 1) := by decide +kernel
theorem dX6_layerBushels_6 : decode cX6_layerBushels 6 = .ok (.invokestatic 162, 3) := by decide +kernel
theorem dX6_layerBushels_9 : decode cX6_layerBushels 9 = .ok (.iload_n 2, 1) := by decide +kernel
theorem dX6_layerBushels_10 : decode cX6_layerBushels 10 = .ok (.invokevirtual 166, 3) := by decide +kernel
theorem dX6_layerBushels_13 : decode cX6_layerBushels 13 = .ok (.ireturn, 1) := by decide +kernel
theorem dX6_layerAnew_0 : decode cX6_layerAnew 0 = .ok (.aload_n 0, 1) := by decide +kernel
theorem dX6_layerAnew_1 : decode cX6_layerAnew 1 = .ok (.invokevirtual 169, 3) := by decide +kernel
theorem dX6_layerAnew_4 : decode cX6_layerAnew 4 = .ok (.aload_n 0, 1) := by decide +kernel
theorem dX6_layerAnew_5 : decode cX6_layerAnew 5 = .ok (.getfield 16, 3) := by decide +kernel
theorem dX6_layerAnew_8 : decode cX6_layerAnew 8 = .ok (.iload_n 1, 1) := by decide +kernel
theorem dX6_layerAnew_9 : decode cX6_layerAnew 9 = .ok (.iload_n 2, 1) := by decide +kernel
theorem dX6_layerAnew_10 : decode cX6_layerAnew 10 = .ok (.invokestatic 162, 3) := by decide +kernel
theorem dX6_layerAnew_13 : decode cX6_layerAnew 13 = .ok (.iload_n 2, 1) := by decide +kernel
theorem dX6_layerAnew_14 : decode cX6_layerAnew 14 = .ok (.invokevirtual 166, 3) := by decide +kernel
theorem dX6_layerAnew_17 : decode cX6_layerAnew 17 = .ok (.ireturn, 1) := by decide +kernel
theorem dX6_layerMoisture_0 : decode cX6_layerMoisture 0 = .ok (.aload_n 0, 1) := by decide +kernel
theorem dX6_layerMoisture_1 : decode cX6_layerMoisture 1 = .ok (.getfield 12, 3) := by decide +kernel
theorem dX6_layerMoisture_4 : decode cX6_layerMoisture 4 = .ok (.iload_n 1, 1) := by decide +kernel
theorem dX6_layerMoisture_5 : decode cX6_layerMoisture 5 = .ok (.iload_n 2, 1) := by decide +kernel
theorem dX6_layerMoisture_6 : decode cX6_layerMoisture 6 = .ok (.invokestatic 162, 3) := by decide +kernel
theorem dX6_layerMoisture_9 : decode cX6_layerMoisture 9 = .ok (.iload_n 2, 1) := by decide +kernel
theorem dX6_layerMoisture_10 : decode cX6_layerMoisture 10 = .ok (.invokevirtual 172, 3) := by decide +kernel
theorem dX6_layerMoisture_13 : decode cX6_layerMoisture 13 = .ok (.ireturn, 1) := by decide +kernel
theorem dX6_layerForeign_0 : decode cX6_layerForeign 0 = .ok (.aload_n 0, 1) := by decide +kernel
theorem dX6_layerForeign_1 : decode cX6_layerForeign 1 = .ok (.getfield 12, 3) := by decide +kernel
theorem dX6_layerForeign_4 : decode cX6_layerForeign 4 = .ok (.iload_n 1, 1) := by decide +kernel
theorem dX6_layerForeign_5 : decode cX6_layerForeign 5 = .ok (.iload_n 2, 1) := by decide +kernel
theorem dX6_layerForeign_6 : decode cX6_layerForeign 6 = .ok (.invokestatic 162, 3) := by decide +kernel
theorem dX6_layerForeign_9 : decode cX6_layerForeign 9 = .ok (.iload_n 2, 1) := by decide +kernel
theorem dX6_layerForeign_10 : decode cX6_layerForeign 10 = .ok (.invokevirtual 175, 3) := by decide +kernel
theorem dX6_layerForeign_13 : decode cX6_layerForeign 13 = .ok (.ireturn, 1) := by decide +kernel
theorem dX6_layerGrade_0 : decode cX6_layerGrade 0 = .ok (.aload_n 0, 1) := by decide +kernel
theorem dX6_layerGrade_1 : decode cX6_layerGrade 1 = .ok (.getfield 12, 3) := by decide +kernel
theorem dX6_layerGrade_4 : decode cX6_layerGrade 4 = .ok (.iload_n 1, 1) := by decide +kernel
theorem dX6_layerGrade_5 : decode cX6_layerGrade 5 = .ok (.iload_n 2, 1) := by decide +kernel
theorem dX6_layerGrade_6 : decode cX6_layerGrade 6 = .ok (.invokestatic 162, 3) := by decide +kernel
theorem dX6_layerGrade_9 : decode cX6_layerGrade 9 = .ok (.iload_n 2, 1) := by decide +kernel
theorem dX6_layerGrade_10 : decode cX6_layerGrade 10 = .ok (.invokevirtual 178, 3) := by decide +kernel
theorem dX6_layerGrade_13 : decode cX6_layerGrade 13 = .ok (.ireturn, 1) := by decide +kernel
theorem dX6_meanMoisture_0 : decode cX6_meanMoisture 0 = .ok (.aload_n 0, 1) := by decide +kernel
theorem dX6_meanMoisture_1 : decode cX6_meanMoisture 1 = .ok (.getfield 12, 3) := by decide +kernel
theorem dX6_meanMoisture_4 : decode cX6_meanMoisture 4 = .ok (.iload_n 1, 1) := by decide +kernel
theorem dX6_meanMoisture_5 : decode cX6_meanMoisture 5 = .ok (.invokestatic 75, 3) := by decide +kernel
theorem dX6_meanMoisture_8 : decode cX6_meanMoisture 8 = .ok (.astore_n 2, 1) := by decide +kernel
theorem dX6_meanMoisture_9 : decode cX6_meanMoisture 9 = .ok (.aload_n 2, 1) := by decide +kernel
theorem dX6_meanMoisture_10 : decode cX6_meanMoisture 10 = .ok (.getfield 153, 3) := by decide +kernel
theorem dX6_meanMoisture_13 : decode cX6_meanMoisture 13 = .ok (.ifCond .ne 13, 3) := by decide +kernel
theorem dX6_meanMoisture_16 : decode cX6_meanMoisture 16 = .ok (.new 181, 3) := by decide +kernel
theorem dX6_meanMoisture_19 : decode cX6_meanMoisture 19 = .ok (.dup, 1) := by decide +kernel
theorem dX6_meanMoisture_20 : decode cX6_meanMoisture 20 = .ok (.ldc 183, 2) := by decide +kernel
theorem dX6_meanMoisture_22 : decode cX6_meanMoisture 22 = .ok (.invokespecial 185, 3) := by decide +kernel
theorem dX6_meanMoisture_25 : decode cX6_meanMoisture 25 = .ok (.athrow, 1) := by decide +kernel
theorem dX6_meanMoisture_26 : decode cX6_meanMoisture 26 = .ok (.new 118, 3) := by decide +kernel
theorem dX6_meanMoisture_29 : decode cX6_meanMoisture 29 = .ok (.dup, 1) := by decide +kernel
theorem dX6_meanMoisture_30 : decode cX6_meanMoisture 30 = .ok (.aload_n 2, 1) := by decide +kernel
theorem dX6_meanMoisture_31 : decode cX6_meanMoisture 31 = .ok (.aload_n 0, 1) := by decide +kernel
theorem dX6_meanMoisture_32 : decode cX6_meanMoisture 32 = .ok (.getfield 29, 3) := by decide +kernel
theorem dX6_meanMoisture_35 : decode cX6_meanMoisture 35 = .ok (.invokespecial 120, 3) := by decide +kernel
theorem dX6_meanMoisture_38 : decode cX6_meanMoisture 38 = .ok (.astore_n 3, 1) := by decide +kernel
theorem dX6_meanMoisture_39 : decode cX6_meanMoisture 39 = .ok (.aload_n 3, 1) := by decide +kernel
theorem dX6_meanMoisture_40 : decode cX6_meanMoisture 40 = .ok (.aload_n 2, 1) := by decide +kernel
theorem dX6_meanMoisture_41 : decode cX6_meanMoisture 41 = .ok (.getfield 153, 3) := by decide +kernel
theorem dX6_meanMoisture_44 : decode cX6_meanMoisture 44 = .ok (.invokevirtual 123, 3) := by decide +kernel
theorem dX6_meanMoisture_47 : decode cX6_meanMoisture 47 = .ok (.aload_n 3, 1) := by decide +kernel
theorem dX6_meanMoisture_48 : decode cX6_meanMoisture 48 = .ok (.getfield 186, 3) := by decide +kernel
theorem dX6_meanMoisture_51 : decode cX6_meanMoisture 51 = .ok (.i2d, 1) := by decide +kernel
theorem dX6_meanMoisture_52 : decode cX6_meanMoisture 52 = .ok (.aload_n 2, 1) := by decide +kernel
theorem dX6_meanMoisture_53 : decode cX6_meanMoisture 53 = .ok (.getfield 153, 3) := by decide +kernel
theorem dX6_meanMoisture_56 : decode cX6_meanMoisture 56 = .ok (.i2d, 1) := by decide +kernel
theorem dX6_meanMoisture_57 : decode cX6_meanMoisture 57 = .ok (.ddiv, 1) := by decide +kernel
theorem dX6_meanMoisture_58 : decode cX6_meanMoisture 58 = .ok (.dreturn, 1) := by decide +kernel
theorem dX6_wetShare_0 : decode cX6_wetShare 0 = .ok (.iload_n 1, 1) := by decide +kernel
theorem dX6_wetShare_1 : decode cX6_wetShare 1 = .ok (.invokestatic 144, 3) := by decide +kernel
theorem dX6_wetShare_4 : decode cX6_wetShare 4 = .ok (.aload_n 0, 1) := by decide +kernel
theorem dX6_wetShare_5 : decode cX6_wetShare 5 = .ok (.invokevirtual 189, 3) := by decide +kernel
theorem dX6_wetShare_8 : decode cX6_wetShare 8 = .ok (.istore_n 2, 1) := by decide +kernel
theorem dX6_wetShare_9 : decode cX6_wetShare 9 = .ok (.iload_n 2, 1) := by decide +kernel
theorem dX6_wetShare_10 : decode cX6_wetShare 10 = .ok (.ifCond .ne 13, 3) := by decide +kernel
theorem dX6_wetShare_13 : decode cX6_wetShare 13 = .ok (.new 181, 3) := by decide +kernel
theorem dX6_wetShare_16 : decode cX6_wetShare 16 = .ok (.dup, 1) := by decide +kernel
theorem dX6_wetShare_17 : decode cX6_wetShare 17 = .ok (.ldc 192, 2) := by decide +kernel
theorem dX6_wetShare_19 : decode cX6_wetShare 19 = .ok (.invokespecial 185, 3) := by decide +kernel
theorem dX6_wetShare_22 : decode cX6_wetShare 22 = .ok (.athrow, 1) := by decide +kernel
theorem dX6_wetShare_23 : decode cX6_wetShare 23 = .ok (.iconst 0, 1) := by decide +kernel
theorem dX6_wetShare_24 : decode cX6_wetShare 24 = .ok (.istore_n 3, 1) := by decide +kernel
theorem dX6_wetShare_25 : decode cX6_wetShare 25 = .ok (.iconst 0, 1) := by decide +kernel
theorem dX6_wetShare_26 : decode cX6_wetShare 26 = .ok (.istore 4, 2) := by decide +kernel
theorem dX6_wetShare_28 : decode cX6_wetShare 28 = .ok (.iload 4, 2) := by decide +kernel
theorem dX6_wetShare_30 : decode cX6_wetShare 30 = .ok (.aload_n 0, 1) := by decide +kernel
theorem dX6_wetShare_31 : decode cX6_wetShare 31 = .ok (.getfield 12, 3) := by decide +kernel
theorem dX6_wetShare_34 : decode cX6_wetShare 34 = .ok (.invokevirtual 55, 3) := by decide +kernel
theorem dX6_wetShare_37 : decode cX6_wetShare 37 = .ok (.if_icmp .ge 28, 3) := by decide +kernel
theorem dX6_wetShare_40 : decode cX6_wetShare 40 = .ok (.iload_n 3, 1) := by decide +kernel
theorem dX6_wetShare_41 : decode cX6_wetShare 41 = .ok (.aload_n 0, 1) := by decide +kernel
theorem dX6_wetShare_42 : decode cX6_wetShare 42 = .ok (.getfield 12, 3) := by decide +kernel
theorem dX6_wetShare_45 : decode cX6_wetShare 45 = .ok (.iload 4, 2) := by decide +kernel
theorem dX6_wetShare_47 : decode cX6_wetShare 47 = .ok (.invokevirtual 194, 3) := by decide +kernel
theorem dX6_wetShare_50 : decode cX6_wetShare 50 = .ok (.checkcast 66, 3) := by decide +kernel
theorem dX6_wetShare_53 : decode cX6_wetShare 53 = .ok (.iload_n 1, 1) := by decide +kernel
theorem dX6_wetShare_54 : decode cX6_wetShare 54 = .ok (.invokevirtual 147, 3) := by decide +kernel
theorem dX6_wetShare_57 : decode cX6_wetShare 57 = .ok (.iadd, 1) := by decide +kernel
theorem dX6_wetShare_58 : decode cX6_wetShare 58 = .ok (.istore_n 3, 1) := by decide +kernel
theorem dX6_wetShare_59 : decode cX6_wetShare 59 = .ok (.iinc 4 1, 3) := by decide +kernel
theorem dX6_wetShare_62 : decode cX6_wetShare 62 = .ok (.goto (-34), 3) := by decide +kernel
theorem dX6_wetShare_65 : decode cX6_wetShare 65 = .ok (.iload_n 3, 1) := by decide +kernel
theorem dX6_wetShare_66 : decode cX6_wetShare 66 = .ok (.i2f, 1) := by decide +kernel
theorem dX6_wetShare_67 : decode cX6_wetShare 67 = .ok (.iload_n 2, 1) := by decide +kernel
theorem dX6_wetShare_68 : decode cX6_wetShare 68 = .ok (.i2f, 1) := by decide +kernel
theorem dX6_wetShare_69 : decode cX6_wetShare 69 = .ok (.fdiv, 1) := by decide +kernel
theorem dX6_wetShare_70 : decode cX6_wetShare 70 = .ok (.freturn, 1) := by decide +kernel
theorem dX6_blendCost_0 : decode cX6_blendCost 0 = .ok (.aload_n 0, 1) := by decide +kernel
theorem dX6_blendCost_1 : decode cX6_blendCost 1 = .ok (.iload_n 1, 1) := by decide +kernel
theorem dX6_blendCost_2 : decode cX6_blendCost 2 = .ok (.iload_n 2, 1) := by decide +kernel
theorem dX6_blendCost_3 : decode cX6_blendCost 3 = .ok (.iload_n 3, 1) := by decide +kernel
theorem dX6_blendCost_4 : decode cX6_blendCost 4 = .ok (.iload 4, 2) := by decide +kernel
theorem dX6_blendCost_6 : decode cX6_blendCost 6 = .ok (.invokevirtual 198, 3) := by decide +kernel
theorem dX6_blendCost_9 : decode cX6_blendCost 9 = .ok (.getfield 202, 3) := by decide +kernel
theorem dX6_blendCost_12 : decode cX6_blendCost 12 = .ok (.ireturn, 1) := by decide +kernel
theorem dX6_blendCostByTrying_0 : decode cX6_blendCostByTrying 0 = .ok (.aload_n 0, 1) := by decide +kernel
theorem dX6_blendCostByTrying_1 : decode cX6_blendCostByTrying 1 = .ok (.iload_n 1, 1) := by decide +kernel
theorem dX6_blendCostByTrying_2 : decode cX6_blendCostByTrying 2 = .ok (.iload_n 2, 1) := by decide +kernel
theorem dX6_blendCostByTrying_3 : decode cX6_blendCostByTrying 3 = .ok (.iload_n 3, 1) := by decide +kernel
theorem dX6_blendCostByTrying_4 : decode cX6_blendCostByTrying 4 = .ok (.iload 4, 2) := by decide +kernel
theorem dX6_blendCostByTrying_6 : decode cX6_blendCostByTrying 6 = .ok (.invokevirtual 205, 3) := by decide +kernel
theorem dX6_blendCostByTrying_9 : decode cX6_blendCostByTrying 9 = .ok (.aload_n 0, 1) := by decide +kernel
theorem dX6_blendCostByTrying_10 : decode cX6_blendCostByTrying 10 = .ok (.aload_n 0, 1) := by decide +kernel
theorem dX6_blendCostByTrying_11 : decode cX6_blendCostByTrying 11 = .ok (.getfield 12, 3) := by decide +kernel
theorem dX6_blendCostByTrying_14 : decode cX6_blendCostByTrying 14 = .ok (.iload_n 1, 1) := by decide +kernel
theorem dX6_blendCostByTrying_15 : decode cX6_blendCostByTrying 15 = .ok (.invokestatic 75, 3) := by decide +kernel
theorem dX6_blendCostByTrying_18 : decode cX6_blendCostByTrying 18 = .ok (.aload_n 0, 1) := by decide +kernel
theorem dX6_blendCostByTrying_19 : decode cX6_blendCostByTrying 19 = .ok (.getfield 12, 3) := by decide +kernel
theorem dX6_blendCostByTrying_22 : decode cX6_blendCostByTrying 22 = .ok (.iload_n 2, 1) := by decide +kernel
theorem dX6_blendCostByTrying_23 : decode cX6_blendCostByTrying 23 = .ok (.invokestatic 75, 3) := by decide +kernel
theorem dX6_blendCostByTrying_26 : decode cX6_blendCostByTrying 26 = .ok (.iload_n 3, 1) := by decide +kernel
theorem dX6_blendCostByTrying_27 : decode cX6_blendCostByTrying 27 = .ok (.iload_n 3, 1) := by decide +kernel
theorem dX6_blendCostByTrying_28 : decode cX6_blendCostByTrying 28 = .ok (.iload 4, 2) := by decide +kernel
theorem dX6_blendCostByTrying_30 : decode cX6_blendCostByTrying 30 = .ok (.imul, 1) := by decide +kernel
theorem dX6_blendCostByTrying_31 : decode cX6_blendCostByTrying 31 = .ok (.invokevirtual 209, 3) := by decide +kernel
theorem dX6_blendCostByTrying_34 : decode cX6_blendCostByTrying 34 = .ok (.astore 5, 2) := by decide +kernel
theorem dX6_blendCostByTrying_36 : decode cX6_blendCostByTrying 36 = .ok (.aload 5, 2) := by decide +kernel
theorem dX6_blendCostByTrying_38 : decode cX6_blendCostByTrying 38 = .ok (.invokestatic 213, 3) := by decide +kernel
theorem dX6_blendCostByTrying_41 : decode cX6_blendCostByTrying 41 = .ok (.aload 5, 2) := by decide +kernel
theorem dX6_blendCostByTrying_43 : decode cX6_blendCostByTrying 43 = .ok (.getfield 202, 3) := by decide +kernel
theorem dX6_blendCostByTrying_46 : decode cX6_blendCostByTrying 46 = .ok (.ireturn, 1) := by decide +kernel
theorem dX6_blendShare_0 : decode cX6_blendShare 0 = .ok (.aload_n 0, 1) := by decide +kernel
theorem dX6_blendShare_1 : decode cX6_blendShare 1 = .ok (.iload_n 1, 1) := by decide +kernel
theorem dX6_blendShare_2 : decode cX6_blendShare 2 = .ok (.iload_n 2, 1) := by decide +kernel
theorem dX6_blendShare_3 : decode cX6_blendShare 3 = .ok (.iload_n 3, 1) := by decide +kernel
theorem dX6_blendShare_4 : decode cX6_blendShare 4 = .ok (.iload 4, 2) := by decide +kernel
theorem dX6_blendShare_6 : decode cX6_blendShare 6 = .ok (.invokevirtual 198, 3) := by decide +kernel
theorem dX6_blendShare_9 : decode cX6_blendShare 9 = .ok (.getfield 217, 3) := by decide +kernel
theorem dX6_blendShare_12 : decode cX6_blendShare 12 = .ok (.ireturn, 1) := by decide +kernel
theorem dX6_sellBlend_0 : decode cX6_sellBlend 0 = .ok (.aload_n 0, 1) := by decide +kernel
theorem dX6_sellBlend_1 : decode cX6_sellBlend 1 = .ok (.iload_n 1, 1) := by decide +kernel
theorem dX6_sellBlend_2 : decode cX6_sellBlend 2 = .ok (.iload_n 2, 1) := by decide +kernel
theorem dX6_sellBlend_3 : decode cX6_sellBlend 3 = .ok (.iload_n 3, 1) := by decide +kernel
theorem dX6_sellBlend_4 : decode cX6_sellBlend 4 = .ok (.iload 4, 2) := by decide +kernel
theorem dX6_sellBlend_6 : decode cX6_sellBlend 6 = .ok (.invokevirtual 198, 3) := by decide +kernel
theorem dX6_sellBlend_9 : decode cX6_sellBlend 9 = .ok (.getfield 217, 3) := by decide +kernel
theorem dX6_sellBlend_12 : decode cX6_sellBlend 12 = .ok (.istore 5, 2) := by decide +kernel
theorem dX6_sellBlend_14 : decode cX6_sellBlend 14 = .ok (.aload_n 0, 1) := by decide +kernel
theorem dX6_sellBlend_15 : decode cX6_sellBlend 15 = .ok (.invokevirtual 102, 3) := by decide +kernel
theorem dX6_sellBlend_18 : decode cX6_sellBlend 18 = .ok (.iload_n 3, 1) := by decide +kernel
theorem dX6_sellBlend_19 : decode cX6_sellBlend 19 = .ok (.iload 5, 2) := by decide +kernel
theorem dX6_sellBlend_21 : decode cX6_sellBlend 21 = .ok (.isub, 1) := by decide +kernel
theorem dX6_sellBlend_22 : decode cX6_sellBlend 22 = .ok (.istore 6, 2) := by decide +kernel
theorem dX6_sellBlend_24 : decode cX6_sellBlend 24 = .ok (.iload_n 3, 1) := by decide +kernel
theorem dX6_sellBlend_25 : decode cX6_sellBlend 25 = .ok (.aload_n 0, 1) := by decide +kernel
theorem dX6_sellBlend_26 : decode cX6_sellBlend 26 = .ok (.getfield 29, 3) := by decide +kernel
theorem dX6_sellBlend_29 : decode cX6_sellBlend 29 = .ok (.aload_n 0, 1) := by decide +kernel
theorem dX6_sellBlend_30 : decode cX6_sellBlend 30 = .ok (.aload_n 0, 1) := by decide +kernel
theorem dX6_sellBlend_31 : decode cX6_sellBlend 31 = .ok (.getfield 12, 3) := by decide +kernel
theorem dX6_sellBlend_34 : decode cX6_sellBlend 34 = .ok (.iload_n 1, 1) := by decide +kernel
theorem dX6_sellBlend_35 : decode cX6_sellBlend 35 = .ok (.invokestatic 75, 3) := by decide +kernel
theorem dX6_sellBlend_38 : decode cX6_sellBlend 38 = .ok (.aload_n 0, 1) := by decide +kernel
theorem dX6_sellBlend_39 : decode cX6_sellBlend 39 = .ok (.getfield 12, 3) := by decide +kernel
theorem dX6_sellBlend_42 : decode cX6_sellBlend 42 = .ok (.iload_n 2, 1) := by decide +kernel
theorem dX6_sellBlend_43 : decode cX6_sellBlend 43 = .ok (.invokestatic 75, 3) := by decide +kernel
theorem dX6_sellBlend_46 : decode cX6_sellBlend 46 = .ok (.iload 5, 2) := by decide +kernel
theorem dX6_sellBlend_48 : decode cX6_sellBlend 48 = .ok (.iload 6, 2) := by decide +kernel
theorem dX6_sellBlend_50 : decode cX6_sellBlend 50 = .ok (.invokevirtual 220, 3) := by decide +kernel
theorem dX6_sellBlend_53 : decode cX6_sellBlend 53 = .ok (.iaload, 1) := by decide +kernel
theorem dX6_sellBlend_54 : decode cX6_sellBlend 54 = .ok (.imul, 1) := by decide +kernel
theorem dX6_sellBlend_55 : decode cX6_sellBlend 55 = .ok (.istore 7, 2) := by decide +kernel
theorem dX6_sellBlend_57 : decode cX6_sellBlend 57 = .ok (.aload_n 0, 1) := by decide +kernel
theorem dX6_sellBlend_58 : decode cX6_sellBlend 58 = .ok (.iload_n 1, 1) := by decide +kernel
theorem dX6_sellBlend_59 : decode cX6_sellBlend 59 = .ok (.iload_n 2, 1) := by decide +kernel
theorem dX6_sellBlend_60 : decode cX6_sellBlend 60 = .ok (.iload 5, 2) := by decide +kernel
theorem dX6_sellBlend_62 : decode cX6_sellBlend 62 = .ok (.iload 6, 2) := by decide +kernel
theorem dX6_sellBlend_64 : decode cX6_sellBlend 64 = .ok (.invokestatic 224, 3) := by decide +kernel
theorem dX6_sellBlend_67 : decode cX6_sellBlend 67 = .ok (.iload 7, 2) := by decide +kernel
theorem dX6_sellBlend_69 : decode cX6_sellBlend 69 = .ok (.invokevirtual 111, 3) := by decide +kernel
theorem dX6_sellBlend_72 : decode cX6_sellBlend 72 = .ok (.iload 7, 2) := by decide +kernel
theorem dX6_sellBlend_74 : decode cX6_sellBlend 74 = .ok (.ireturn, 1) := by decide +kernel
theorem dX6_setFutures_0 : decode cX6_setFutures 0 = .ok (.iload_n 1, 1) := by decide +kernel
theorem dX6_setFutures_1 : decode cX6_setFutures 1 = .ok (.iconst 0, 1) := by decide +kernel
theorem dX6_setFutures_2 : decode cX6_setFutures 2 = .ok (.sipush 2000, 3) := by decide +kernel
theorem dX6_setFutures_5 : decode cX6_setFutures 5 = .ok (.invokestatic 51, 3) := by decide +kernel
theorem dX6_setFutures_8 : decode cX6_setFutures 8 = .ok (.aload_n 0, 1) := by decide +kernel
theorem dX6_setFutures_9 : decode cX6_setFutures 9 = .ok (.getfield 36, 3) := by decide +kernel
theorem dX6_setFutures_12 : decode cX6_setFutures 12 = .ok (.iload_n 1, 1) := by decide +kernel
theorem dX6_setFutures_13 : decode cX6_setFutures 13 = .ok (.invokevirtual 227, 3) := by decide +kernel
theorem dX6_setFutures_16 : decode cX6_setFutures 16 = .ok (.ireturn, 1) := by decide +kernel
theorem dX6_hedged_0 : decode cX6_hedged 0 = .ok (.aload_n 0, 1) := by decide +kernel
theorem dX6_hedged_1 : decode cX6_hedged 1 = .ok (.getfield 36, 3) := by decide +kernel
theorem dX6_hedged_4 : decode cX6_hedged 4 = .ok (.getfield 230, 3) := by decide +kernel
theorem dX6_hedged_7 : decode cX6_hedged 7 = .ok (.ireturn, 1) := by decide +kernel
theorem dX6_owned_0 : decode cX6_owned 0 = .ok (.iconst 0, 1) := by decide +kernel
theorem dX6_owned_1 : decode cX6_owned 1 = .ok (.istore_n 1, 1) := by decide +kernel
theorem dX6_owned_2 : decode cX6_owned 2 = .ok (.iconst 0, 1) := by decide +kernel
theorem dX6_owned_3 : decode cX6_owned 3 = .ok (.istore_n 2, 1) := by decide +kernel
theorem dX6_owned_4 : decode cX6_owned 4 = .ok (.iload_n 2, 1) := by decide +kernel
theorem dX6_owned_5 : decode cX6_owned 5 = .ok (.aload_n 0, 1) := by decide +kernel
theorem dX6_owned_6 : decode cX6_owned 6 = .ok (.getfield 12, 3) := by decide +kernel
theorem dX6_owned_9 : decode cX6_owned 9 = .ok (.invokevirtual 55, 3) := by decide +kernel
theorem dX6_owned_12 : decode cX6_owned 12 = .ok (.if_icmp .ge 26, 3) := by decide +kernel
theorem dX6_owned_15 : decode cX6_owned 15 = .ok (.iload_n 1, 1) := by decide +kernel
theorem dX6_owned_16 : decode cX6_owned 16 = .ok (.aload_n 0, 1) := by decide +kernel
theorem dX6_owned_17 : decode cX6_owned 17 = .ok (.getfield 12, 3) := by decide +kernel
theorem dX6_owned_20 : decode cX6_owned 20 = .ok (.iload_n 2, 1) := by decide +kernel
theorem dX6_owned_21 : decode cX6_owned 21 = .ok (.invokevirtual 194, 3) := by decide +kernel
theorem dX6_owned_24 : decode cX6_owned 24 = .ok (.checkcast 66, 3) := by decide +kernel
theorem dX6_owned_27 : decode cX6_owned 27 = .ok (.getfield 153, 3) := by decide +kernel
theorem dX6_owned_30 : decode cX6_owned 30 = .ok (.iadd, 1) := by decide +kernel
theorem dX6_owned_31 : decode cX6_owned 31 = .ok (.istore_n 1, 1) := by decide +kernel
theorem dX6_owned_32 : decode cX6_owned 32 = .ok (.iinc 2 1, 3) := by decide +kernel
theorem dX6_owned_35 : decode cX6_owned 35 = .ok (.goto (-31), 3) := by decide +kernel
theorem dX6_owned_38 : decode cX6_owned 38 = .ok (.iload_n 1, 1) := by decide +kernel
theorem dX6_owned_39 : decode cX6_owned 39 = .ok (.ireturn, 1) := by decide +kernel
theorem dX6_tradeCount_0 : decode cX6_tradeCount 0 = .ok (.aload_n 0, 1) := by decide +kernel
theorem dX6_tradeCount_1 : decode cX6_tradeCount 1 = .ok (.getfield 36, 3) := by decide +kernel
theorem dX6_tradeCount_4 : decode cX6_tradeCount 4 = .ok (.getfield 233, 3) := by decide +kernel
theorem dX6_tradeCount_7 : decode cX6_tradeCount 7 = .ok (.ireturn, 1) := by decide +kernel
theorem dX6_tradeAt_0 : decode cX6_tradeAt 0 = .ok (.iload_n 1, 1) := by decide +kernel
theorem dX6_tradeAt_1 : decode cX6_tradeAt 1 = .ok (.ifCond .lt 26, 3) := by decide +kernel
theorem dX6_tradeAt_4 : decode cX6_tradeAt 4 = .ok (.iload_n 1, 1) := by decide +kernel
theorem dX6_tradeAt_5 : decode cX6_tradeAt 5 = .ok (.aload_n 0, 1) := by decide +kernel
theorem dX6_tradeAt_6 : decode cX6_tradeAt 6 = .ok (.getfield 36, 3) := by decide +kernel
theorem dX6_tradeAt_9 : decode cX6_tradeAt 9 = .ok (.getfield 233, 3) := by decide +kernel
theorem dX6_tradeAt_12 : decode cX6_tradeAt 12 = .ok (.if_icmp .ge 15, 3) := by decide +kernel
theorem dX6_tradeAt_15 : decode cX6_tradeAt 15 = .ok (.iload_n 1, 1) := by decide +kernel
theorem dX6_tradeAt_16 : decode cX6_tradeAt 16 = .ok (.aload_n 0, 1) := by decide +kernel
theorem dX6_tradeAt_17 : decode cX6_tradeAt 17 = .ok (.getfield 36, 3) := by decide +kernel
theorem dX6_tradeAt_20 : decode cX6_tradeAt 20 = .ok (.getfield 234, 3) := by decide +kernel
theorem dX6_tradeAt_23 : decode cX6_tradeAt 23 = .ok (.arraylength, 1) := by decide +kernel
theorem dX6_tradeAt_24 : decode cX6_tradeAt 24 = .ok (.if_icmp .lt 13, 3) := by decide +kernel
theorem dX6_tradeAt_27 : decode cX6_tradeAt 27 = .ok (.new 237, 3) := by decide +kernel
theorem dX6_tradeAt_30 : decode cX6_tradeAt 30 = .ok (.dup, 1) := by decide +kernel
theorem dX6_tradeAt_31 : decode cX6_tradeAt 31 = .ok (.ldc 239, 2) := by decide +kernel
theorem dX6_tradeAt_33 : decode cX6_tradeAt 33 = .ok (.invokespecial 241, 3) := by decide +kernel
theorem dX6_tradeAt_36 : decode cX6_tradeAt 36 = .ok (.athrow, 1) := by decide +kernel
theorem dX6_tradeAt_37 : decode cX6_tradeAt 37 = .ok (.aload_n 0, 1) := by decide +kernel
theorem dX6_tradeAt_38 : decode cX6_tradeAt 38 = .ok (.getfield 36, 3) := by decide +kernel
theorem dX6_tradeAt_41 : decode cX6_tradeAt 41 = .ok (.getfield 234, 3) := by decide +kernel
theorem dX6_tradeAt_44 : decode cX6_tradeAt 44 = .ok (.iload_n 1, 1) := by decide +kernel
theorem dX6_tradeAt_45 : decode cX6_tradeAt 45 = .ok (.iaload, 1) := by decide +kernel
theorem dX6_tradeAt_46 : decode cX6_tradeAt 46 = .ok (.ireturn, 1) := by decide +kernel
theorem dX6_gain_0 : decode cX6_gain 0 = .ok (.aload_n 0, 1) := by decide +kernel
theorem dX6_gain_1 : decode cX6_gain 1 = .ok (.getfield 36, 3) := by decide +kernel
theorem dX6_gain_4 : decode cX6_gain 4 = .ok (.getfield 242, 3) := by decide +kernel
theorem dX6_gain_7 : decode cX6_gain 7 = .ok (.lreturn, 1) := by decide +kernel
theorem dX6_cash_0 : decode cX6_cash 0 = .ok (.aload_n 0, 1) := by decide +kernel
theorem dX6_cash_1 : decode cX6_cash 1 = .ok (.getfield 47, 3) := by decide +kernel
theorem dX6_cash_4 : decode cX6_cash 4 = .ok (.lreturn, 1) := by decide +kernel
theorem dX6_worth_0 : decode cX6_worth 0 = .ok (.lconst 0, 1) := by decide +kernel
theorem dX6_worth_1 : decode cX6_worth 1 = .ok (.lstore_n 1, 1) := by decide +kernel
theorem dX6_worth_2 : decode cX6_worth 2 = .ok (.iconst 0, 1) := by decide +kernel
theorem dX6_worth_3 : decode cX6_worth 3 = .ok (.istore_n 3, 1) := by decide +kernel
theorem dX6_worth_4 : decode cX6_worth 4 = .ok (.iload_n 3, 1) := by decide +kernel
theorem dX6_worth_5 : decode cX6_worth 5 = .ok (.aload_n 0, 1) := by decide +kernel
theorem dX6_worth_6 : decode cX6_worth 6 = .ok (.getfield 12, 3) := by decide +kernel
theorem dX6_worth_9 : decode cX6_worth 9 = .ok (.invokevirtual 55, 3) := by decide +kernel
theorem dX6_worth_12 : decode cX6_worth 12 = .ok (.if_icmp .ge 61, 3) := by decide +kernel
theorem dX6_worth_15 : decode cX6_worth 15 = .ok (.new 118, 3) := by decide +kernel
theorem dX6_worth_18 : decode cX6_worth 18 = .ok (.dup, 1) := by decide +kernel
theorem dX6_worth_19 : decode cX6_worth 19 = .ok (.aload_n 0, 1) := by decide +kernel
theorem dX6_worth_20 : decode cX6_worth 20 = .ok (.getfield 12, 3) := by decide +kernel
theorem dX6_worth_23 : decode cX6_worth 23 = .ok (.iload_n 3, 1) := by decide +kernel
theorem dX6_worth_24 : decode cX6_worth 24 = .ok (.invokevirtual 194, 3) := by decide +kernel
theorem dX6_worth_27 : decode cX6_worth 27 = .ok (.checkcast 66, 3) := by decide +kernel
theorem dX6_worth_30 : decode cX6_worth 30 = .ok (.aload_n 0, 1) := by decide +kernel
theorem dX6_worth_31 : decode cX6_worth 31 = .ok (.getfield 29, 3) := by decide +kernel
theorem dX6_worth_34 : decode cX6_worth 34 = .ok (.invokespecial 120, 3) := by decide +kernel
theorem dX6_worth_37 : decode cX6_worth 37 = .ok (.astore 4, 2) := by decide +kernel
theorem dX6_worth_39 : decode cX6_worth 39 = .ok (.aload 4, 2) := by decide +kernel
theorem dX6_worth_41 : decode cX6_worth 41 = .ok (.aload_n 0, 1) := by decide +kernel
theorem dX6_worth_42 : decode cX6_worth 42 = .ok (.getfield 12, 3) := by decide +kernel
theorem dX6_worth_45 : decode cX6_worth 45 = .ok (.iload_n 3, 1) := by decide +kernel
theorem dX6_worth_46 : decode cX6_worth 46 = .ok (.invokevirtual 194, 3) := by decide +kernel
theorem dX6_worth_49 : decode cX6_worth 49 = .ok (.checkcast 66, 3) := by decide +kernel
theorem dX6_worth_52 : decode cX6_worth 52 = .ok (.getfield 153, 3) := by decide +kernel
theorem dX6_worth_55 : decode cX6_worth 55 = .ok (.invokevirtual 123, 3) := by decide +kernel
theorem dX6_worth_58 : decode cX6_worth 58 = .ok (.lload_n 1, 1) := by decide +kernel
theorem dX6_worth_59 : decode cX6_worth 59 = .ok (.aload 4, 2) := by decide +kernel
theorem dX6_worth_61 : decode cX6_worth 61 = .ok (.getfield 127, 3) := by decide +kernel
theorem dX6_worth_64 : decode cX6_worth 64 = .ok (.i2l, 1) := by decide +kernel
theorem dX6_worth_65 : decode cX6_worth 65 = .ok (.ladd, 1) := by decide +kernel
theorem dX6_worth_66 : decode cX6_worth 66 = .ok (.lstore_n 1, 1) := by decide +kernel
theorem dX6_worth_67 : decode cX6_worth 67 = .ok (.iinc 3 1, 3) := by decide +kernel
theorem dX6_worth_70 : decode cX6_worth 70 = .ok (.goto (-66), 3) := by decide +kernel
theorem dX6_worth_73 : decode cX6_worth 73 = .ok (.lload_n 1, 1) := by decide +kernel
theorem dX6_worth_74 : decode cX6_worth 74 = .ok (.lreturn, 1) := by decide +kernel
theorem dX6_eventCount_0 : decode cX6_eventCount 0 = .ok (.aload_n 0, 1) := by decide +kernel
theorem dX6_eventCount_1 : decode cX6_eventCount 1 = .ok (.getfield 19, 3) := by decide +kernel
theorem dX6_eventCount_4 : decode cX6_eventCount 4 = .ok (.invokevirtual 55, 3) := by decide +kernel
theorem dX6_eventCount_7 : decode cX6_eventCount 7 = .ok (.ireturn, 1) := by decide +kernel
theorem dX6_eventKind_0 : decode cX6_eventKind 0 = .ok (.iload_n 1, 1) := by decide +kernel
theorem dX6_eventKind_1 : decode cX6_eventKind 1 = .ok (.ifCond .lt 14, 3) := by decide +kernel
theorem dX6_eventKind_4 : decode cX6_eventKind 4 = .ok (.iload_n 1, 1) := by decide +kernel
theorem dX6_eventKind_5 : decode cX6_eventKind 5 = .ok (.aload_n 0, 1) := by decide +kernel
theorem dX6_eventKind_6 : decode cX6_eventKind 6 = .ok (.getfield 19, 3) := by decide +kernel
theorem dX6_eventKind_9 : decode cX6_eventKind 9 = .ok (.invokevirtual 55, 3) := by decide +kernel
theorem dX6_eventKind_12 : decode cX6_eventKind 12 = .ok (.if_icmp .lt 13, 3) := by decide +kernel
theorem dX6_eventKind_15 : decode cX6_eventKind 15 = .ok (.new 237, 3) := by decide +kernel
theorem dX6_eventKind_18 : decode cX6_eventKind 18 = .ok (.dup, 1) := by decide +kernel
theorem dX6_eventKind_19 : decode cX6_eventKind 19 = .ok (.ldc 245, 2) := by decide +kernel
theorem dX6_eventKind_21 : decode cX6_eventKind 21 = .ok (.invokespecial 241, 3) := by decide +kernel
theorem dX6_eventKind_24 : decode cX6_eventKind 24 = .ok (.athrow, 1) := by decide +kernel
theorem dX6_eventKind_25 : decode cX6_eventKind 25 = .ok (.aload_n 0, 1) := by decide +kernel
theorem dX6_eventKind_26 : decode cX6_eventKind 26 = .ok (.getfield 19, 3) := by decide +kernel
theorem dX6_eventKind_29 : decode cX6_eventKind 29 = .ok (.iload_n 1, 1) := by decide +kernel
theorem dX6_eventKind_30 : decode cX6_eventKind 30 = .ok (.invokevirtual 194, 3) := by decide +kernel
theorem dX6_eventKind_33 : decode cX6_eventKind 33 = .ok (.checkcast 106, 3) := by decide +kernel
theorem dX6_eventKind_36 : decode cX6_eventKind 36 = .ok (.getfield 247, 3) := by decide +kernel
theorem dX6_eventKind_39 : decode cX6_eventKind 39 = .ok (.ireturn, 1) := by decide +kernel
theorem dX6_isConsistent_0 : decode cX6_isConsistent 0 = .ok (.aload_n 0, 1) := by decide +kernel
theorem dX6_isConsistent_1 : decode cX6_isConsistent 1 = .ok (.getfield 36, 3) := by decide +kernel
theorem dX6_isConsistent_4 : decode cX6_isConsistent 4 = .ok (.getfield 230, 3) := by decide +kernel
theorem dX6_isConsistent_7 : decode cX6_isConsistent 7 = .ok (.aload_n 0, 1) := by decide +kernel
theorem dX6_isConsistent_8 : decode cX6_isConsistent 8 = .ok (.invokevirtual 189, 3) := by decide +kernel
theorem dX6_isConsistent_11 : decode cX6_isConsistent 11 = .ok (.if_icmp .ne 20, 3) := by decide +kernel
theorem dX6_isConsistent_14 : decode cX6_isConsistent 14 = .ok (.aload_n 0, 1) := by decide +kernel
theorem dX6_isConsistent_15 : decode cX6_isConsistent 15 = .ok (.getfield 12, 3) := by decide +kernel
theorem dX6_isConsistent_18 : decode cX6_isConsistent 18 = .ok (.invokevirtual 55, 3) := by decide +kernel
theorem dX6_isConsistent_21 : decode cX6_isConsistent 21 = .ok (.aload_n 0, 1) := by decide +kernel
theorem dX6_isConsistent_22 : decode cX6_isConsistent 22 = .ok (.getfield 16, 3) := by decide +kernel
theorem dX6_isConsistent_25 : decode cX6_isConsistent 25 = .ok (.invokevirtual 55, 3) := by decide +kernel
theorem dX6_isConsistent_28 : decode cX6_isConsistent 28 = .ok (.if_icmp .eq 5, 3) := by decide +kernel
theorem dX6_isConsistent_31 : decode cX6_isConsistent 31 = .ok (.iconst 0, 1) := by decide +kernel
theorem dX6_isConsistent_32 : decode cX6_isConsistent 32 = .ok (.ireturn, 1) := by decide +kernel
theorem dX6_isConsistent_33 : decode cX6_isConsistent 33 = .ok (.aload_n 0, 1) := by decide +kernel
theorem dX6_isConsistent_34 : decode cX6_isConsistent 34 = .ok (.invokevirtual 169, 3) := by decide +kernel
theorem dX6_isConsistent_37 : decode cX6_isConsistent 37 = .ok (.iconst 0, 1) := by decide +kernel
theorem dX6_isConsistent_38 : decode cX6_isConsistent 38 = .ok (.istore_n 1, 1) := by decide +kernel
theorem dX6_isConsistent_39 : decode cX6_isConsistent 39 = .ok (.iload_n 1, 1) := by decide +kernel
theorem dX6_isConsistent_40 : decode cX6_isConsistent 40 = .ok (.aload_n 0, 1) := by decide +kernel
theorem dX6_isConsistent_41 : decode cX6_isConsistent 41 = .ok (.getfield 12, 3) := by decide +kernel
theorem dX6_isConsistent_44 : decode cX6_isConsistent 44 = .ok (.invokevirtual 55, 3) := by decide +kernel
theorem dX6_isConsistent_47 : decode cX6_isConsistent 47 = .ok (.if_icmp .ge 50, 3) := by decide +kernel
theorem dX6_isConsistent_50 : decode cX6_isConsistent 50 = .ok (.iload_n 1, 1) := by decide +kernel
theorem dX6_isConsistent_51 : decode cX6_isConsistent 51 = .ok (.aload_n 0, 1) := by decide +kernel
theorem dX6_isConsistent_52 : decode cX6_isConsistent 52 = .ok (.getfield 16, 3) := by decide +kernel
theorem dX6_isConsistent_55 : decode cX6_isConsistent 55 = .ok (.invokevirtual 55, 3) := by decide +kernel
theorem dX6_isConsistent_58 : decode cX6_isConsistent 58 = .ok (.if_icmp .ge 39, 3) := by decide +kernel
theorem dX6_isConsistent_61 : decode cX6_isConsistent 61 = .ok (.aload_n 0, 1) := by decide +kernel
theorem dX6_isConsistent_62 : decode cX6_isConsistent 62 = .ok (.getfield 12, 3) := by decide +kernel
theorem dX6_isConsistent_65 : decode cX6_isConsistent 65 = .ok (.iload_n 1, 1) := by decide +kernel
theorem dX6_isConsistent_66 : decode cX6_isConsistent 66 = .ok (.invokevirtual 194, 3) := by decide +kernel
theorem dX6_isConsistent_69 : decode cX6_isConsistent 69 = .ok (.checkcast 66, 3) := by decide +kernel
theorem dX6_isConsistent_72 : decode cX6_isConsistent 72 = .ok (.aload_n 0, 1) := by decide +kernel
theorem dX6_isConsistent_73 : decode cX6_isConsistent 73 = .ok (.getfield 16, 3) := by decide +kernel
theorem dX6_isConsistent_76 : decode cX6_isConsistent 76 = .ok (.iload_n 1, 1) := by decide +kernel
theorem dX6_isConsistent_77 : decode cX6_isConsistent 77 = .ok (.invokevirtual 194, 3) := by decide +kernel
theorem dX6_isConsistent_80 : decode cX6_isConsistent 80 = .ok (.checkcast 66, 3) := by decide +kernel
theorem dX6_isConsistent_83 : decode cX6_isConsistent 83 = .ok (.invokevirtual 251, 3) := by decide +kernel
theorem dX6_isConsistent_86 : decode cX6_isConsistent 86 = .ok (.ifCond .ne 5, 3) := by decide +kernel
theorem dX6_isConsistent_89 : decode cX6_isConsistent 89 = .ok (.iconst 0, 1) := by decide +kernel
theorem dX6_isConsistent_90 : decode cX6_isConsistent 90 = .ok (.ireturn, 1) := by decide +kernel
theorem dX6_isConsistent_91 : decode cX6_isConsistent 91 = .ok (.iinc 1 1, 3) := by decide +kernel
theorem dX6_isConsistent_94 : decode cX6_isConsistent 94 = .ok (.goto (-55), 3) := by decide +kernel
theorem dX6_isConsistent_97 : decode cX6_isConsistent 97 = .ok (.iconst 1, 1) := by decide +kernel
theorem dX6_isConsistent_98 : decode cX6_isConsistent 98 = .ok (.ireturn, 1) := by decide +kernel
theorem dX6_writeBin_0 : decode cX6_writeBin 0 = .ok (.aload_n 0, 1) := by decide +kernel
theorem dX6_writeBin_1 : decode cX6_writeBin 1 = .ok (.getfield 12, 3) := by decide +kernel
theorem dX6_writeBin_4 : decode cX6_writeBin 4 = .ok (.iload_n 1, 1) := by decide +kernel
theorem dX6_writeBin_5 : decode cX6_writeBin 5 = .ok (.invokestatic 75, 3) := by decide +kernel
theorem dX6_writeBin_8 : decode cX6_writeBin 8 = .ok (.astore_n 2, 1) := by decide +kernel
theorem dX6_writeBin_9 : decode cX6_writeBin 9 = .ok (.aload_n 0, 1) := by decide +kernel
theorem dX6_writeBin_10 : decode cX6_writeBin 10 = .ok (.getfield 43, 3) := by decide +kernel
theorem dX6_writeBin_13 : decode cX6_writeBin 13 = .ok (.iconst 0, 1) := by decide +kernel
theorem dX6_writeBin_14 : decode cX6_writeBin 14 = .ok (.invokevirtual 255, 3) := by decide +kernel
theorem dX6_writeBin_17 : decode cX6_writeBin 17 = .ok (.iconst 0, 1) := by decide +kernel
theorem dX6_writeBin_18 : decode cX6_writeBin 18 = .ok (.istore_n 3, 1) := by decide +kernel
theorem dX6_writeBin_19 : decode cX6_writeBin 19 = .ok (.iload_n 3, 1) := by decide +kernel
theorem dX6_writeBin_20 : decode cX6_writeBin 20 = .ok (.aload_n 2, 1) := by decide +kernel
theorem dX6_writeBin_21 : decode cX6_writeBin 21 = .ok (.getfield 137, 3) := by decide +kernel
theorem dX6_writeBin_24 : decode cX6_writeBin 24 = .ok (.if_icmp .ge 82, 3) := by decide +kernel
theorem dX6_writeBin_27 : decode cX6_writeBin 27 = .ok (.iload_n 3, 1) := by decide +kernel
theorem dX6_writeBin_28 : decode cX6_writeBin 28 = .ok (.ifCond .le 13, 3) := by decide +kernel
theorem dX6_writeBin_31 : decode cX6_writeBin 31 = .ok (.aload_n 0, 1) := by decide +kernel
theorem dX6_writeBin_32 : decode cX6_writeBin 32 = .ok (.getfield 43, 3) := by decide +kernel
theorem dX6_writeBin_35 : decode cX6_writeBin 35 = .ok (.bipush 32, 2) := by decide +kernel
theorem dX6_writeBin_37 : decode cX6_writeBin 37 = .ok (.invokevirtual 258, 3) := by decide +kernel
theorem dX6_writeBin_40 : decode cX6_writeBin 40 = .ok (.pop, 1) := by decide +kernel
theorem dX6_writeBin_41 : decode cX6_writeBin 41 = .ok (.aload_n 0, 1) := by decide +kernel
theorem dX6_writeBin_42 : decode cX6_writeBin 42 = .ok (.getfield 43, 3) := by decide +kernel
theorem dX6_writeBin_45 : decode cX6_writeBin 45 = .ok (.aload_n 2, 1) := by decide +kernel
theorem dX6_writeBin_46 : decode cX6_writeBin 46 = .ok (.iload_n 3, 1) := by decide +kernel
theorem dX6_writeBin_47 : decode cX6_writeBin 47 = .ok (.invokevirtual 166, 3) := by decide +kernel
theorem dX6_writeBin_50 : decode cX6_writeBin 50 = .ok (.invokevirtual 262, 3) := by decide +kernel
theorem dX6_writeBin_53 : decode cX6_writeBin 53 = .ok (.pop, 1) := by decide +kernel
theorem dX6_writeBin_54 : decode cX6_writeBin 54 = .ok (.aload_n 0, 1) := by decide +kernel
theorem dX6_writeBin_55 : decode cX6_writeBin 55 = .ok (.getfield 43, 3) := by decide +kernel
theorem dX6_writeBin_58 : decode cX6_writeBin 58 = .ok (.bipush 64, 2) := by decide +kernel
theorem dX6_writeBin_60 : decode cX6_writeBin 60 = .ok (.invokevirtual 258, 3) := by decide +kernel
theorem dX6_writeBin_63 : decode cX6_writeBin 63 = .ok (.pop, 1) := by decide +kernel
theorem dX6_writeBin_64 : decode cX6_writeBin 64 = .ok (.aload_n 0, 1) := by decide +kernel
theorem dX6_writeBin_65 : decode cX6_writeBin 65 = .ok (.getfield 43, 3) := by decide +kernel
theorem dX6_writeBin_68 : decode cX6_writeBin 68 = .ok (.aload_n 2, 1) := by decide +kernel
theorem dX6_writeBin_69 : decode cX6_writeBin 69 = .ok (.iload_n 3, 1) := by decide +kernel
theorem dX6_writeBin_70 : decode cX6_writeBin 70 = .ok (.invokevirtual 172, 3) := by decide +kernel
theorem dX6_writeBin_73 : decode cX6_writeBin 73 = .ok (.invokevirtual 262, 3) := by decide +kernel
theorem dX6_writeBin_76 : decode cX6_writeBin 76 = .ok (.pop, 1) := by decide +kernel
theorem dX6_writeBin_77 : decode cX6_writeBin 77 = .ok (.aload_n 0, 1) := by decide +kernel
theorem dX6_writeBin_78 : decode cX6_writeBin 78 = .ok (.getfield 43, 3) := by decide +kernel
theorem dX6_writeBin_81 : decode cX6_writeBin 81 = .ok (.bipush 103, 2) := by decide +kernel
theorem dX6_writeBin_83 : decode cX6_writeBin 83 = .ok (.invokevirtual 258, 3) := by decide +kernel
theorem dX6_writeBin_86 : decode cX6_writeBin 86 = .ok (.pop, 1) := by decide +kernel
theorem dX6_writeBin_87 : decode cX6_writeBin 87 = .ok (.aload_n 0, 1) := by decide +kernel
theorem dX6_writeBin_88 : decode cX6_writeBin 88 = .ok (.getfield 43, 3) := by decide +kernel
theorem dX6_writeBin_91 : decode cX6_writeBin 91 = .ok (.aload_n 2, 1) := by decide +kernel
theorem dX6_writeBin_92 : decode cX6_writeBin 92 = .ok (.iload_n 3, 1) := by decide +kernel
theorem dX6_writeBin_93 : decode cX6_writeBin 93 = .ok (.invokevirtual 178, 3) := by decide +kernel
theorem dX6_writeBin_96 : decode cX6_writeBin 96 = .ok (.invokevirtual 262, 3) := by decide +kernel
theorem dX6_writeBin_99 : decode cX6_writeBin 99 = .ok (.pop, 1) := by decide +kernel
theorem dX6_writeBin_100 : decode cX6_writeBin 100 = .ok (.iinc 3 1, 3) := by decide +kernel
theorem dX6_writeBin_103 : decode cX6_writeBin 103 = .ok (.goto (-84), 3) := by decide +kernel
theorem dX6_writeBin_106 : decode cX6_writeBin 106 = .ok (.aload_n 0, 1) := by decide +kernel
theorem dX6_writeBin_107 : decode cX6_writeBin 107 = .ok (.getfield 43, 3) := by decide +kernel
theorem dX6_writeBin_110 : decode cX6_writeBin 110 = .ok (.invokevirtual 265, 3) := by decide +kernel
theorem dX6_writeBin_113 : decode cX6_writeBin 113 = .ok (.ireturn, 1) := by decide +kernel
theorem dX6_lineAt_0 : decode cX6_lineAt 0 = .ok (.iload_n 1, 1) := by decide +kernel
theorem dX6_lineAt_1 : decode cX6_lineAt 1 = .ok (.ifCond .lt 14, 3) := by decide +kernel
theorem dX6_lineAt_4 : decode cX6_lineAt 4 = .ok (.iload_n 1, 1) := by decide +kernel
theorem dX6_lineAt_5 : decode cX6_lineAt 5 = .ok (.aload_n 0, 1) := by decide +kernel
theorem dX6_lineAt_6 : decode cX6_lineAt 6 = .ok (.getfield 43, 3) := by decide +kernel
theorem dX6_lineAt_9 : decode cX6_lineAt 9 = .ok (.invokevirtual 265, 3) := by decide +kernel
theorem dX6_lineAt_12 : decode cX6_lineAt 12 = .ok (.if_icmp .lt 14, 3) := by decide +kernel
theorem dX6_lineAt_15 : decode cX6_lineAt 15 = .ok (.new 237, 3) := by decide +kernel
theorem dX6_lineAt_18 : decode cX6_lineAt 18 = .ok (.dup, 1) := by decide +kernel
theorem dX6_lineAt_19 : decode cX6_lineAt 19 = .ok (.ldc_w 268, 3) := by decide +kernel
theorem dX6_lineAt_22 : decode cX6_lineAt 22 = .ok (.invokespecial 241, 3) := by decide +kernel
theorem dX6_lineAt_25 : decode cX6_lineAt 25 = .ok (.athrow, 1) := by decide +kernel
theorem dX6_lineAt_26 : decode cX6_lineAt 26 = .ok (.aload_n 0, 1) := by decide +kernel
theorem dX6_lineAt_27 : decode cX6_lineAt 27 = .ok (.getfield 43, 3) := by decide +kernel
theorem dX6_lineAt_30 : decode cX6_lineAt 30 = .ok (.iload_n 1, 1) := by decide +kernel
theorem dX6_lineAt_31 : decode cX6_lineAt 31 = .ok (.invokevirtual 270, 3) := by decide +kernel
theorem dX6_lineAt_34 : decode cX6_lineAt 34 = .ok (.ireturn, 1) := by decide +kernel
theorem dX6_checkRange_0 : decode cX6_checkRange 0 = .ok (.iload_n 0, 1) := by decide +kernel
theorem dX6_checkRange_1 : decode cX6_checkRange 1 = .ok (.iload_n 1, 1) := by decide +kernel
theorem dX6_checkRange_2 : decode cX6_checkRange 2 = .ok (.if_icmp .lt 8, 3) := by decide +kernel
theorem dX6_checkRange_5 : decode cX6_checkRange 5 = .ok (.iload_n 0, 1) := by decide +kernel
theorem dX6_checkRange_6 : decode cX6_checkRange 6 = .ok (.iload_n 2, 1) := by decide +kernel
theorem dX6_checkRange_7 : decode cX6_checkRange 7 = .ok (.if_icmp .le 14, 3) := by decide +kernel
theorem dX6_checkRange_10 : decode cX6_checkRange 10 = .ok (.new 274, 3) := by decide +kernel
theorem dX6_checkRange_13 : decode cX6_checkRange 13 = .ok (.dup, 1) := by decide +kernel
theorem dX6_checkRange_14 : decode cX6_checkRange 14 = .ok (.ldc_w 276, 3) := by decide +kernel
theorem dX6_checkRange_17 : decode cX6_checkRange 17 = .ok (.invokespecial 278, 3) := by decide +kernel
theorem dX6_checkRange_20 : decode cX6_checkRange 20 = .ok (.athrow, 1) := by decide +kernel
theorem dX6_checkRange_21 : decode cX6_checkRange 21 = .ok (.return_, 1) := by decide +kernel
theorem dX6_checkMoisture_0 : decode cX6_checkMoisture 0 = .ok (.iload_n 0, 1) := by decide +kernel
theorem dX6_checkMoisture_1 : decode cX6_checkMoisture 1 = .ok (.bipush 80, 2) := by decide +kernel
theorem dX6_checkMoisture_3 : decode cX6_checkMoisture 3 = .ok (.sipush 300, 3) := by decide +kernel
theorem dX6_checkMoisture_6 : decode cX6_checkMoisture 6 = .ok (.invokestatic 51, 3) := by decide +kernel
theorem dX6_checkMoisture_9 : decode cX6_checkMoisture 9 = .ok (.return_, 1) := by decide +kernel
theorem dX6_checkGrain_0 : decode cX6_checkGrain 0 = .ok (.iload_n 0, 1) := by decide +kernel
theorem dX6_checkGrain_1 : decode cX6_checkGrain 1 = .ok (.invokestatic 144, 3) := by decide +kernel
theorem dX6_checkGrain_4 : decode cX6_checkGrain 4 = .ok (.iload_n 1, 1) := by decide +kernel
theorem dX6_checkGrain_5 : decode cX6_checkGrain 5 = .ok (.iconst 0, 1) := by decide +kernel
theorem dX6_checkGrain_6 : decode cX6_checkGrain 6 = .ok (.bipush 100, 2) := by decide +kernel
theorem dX6_checkGrain_8 : decode cX6_checkGrain 8 = .ok (.invokestatic 51, 3) := by decide +kernel
theorem dX6_checkGrain_11 : decode cX6_checkGrain 11 = .ok (.return_, 1) := by decide +kernel
theorem dX6_checkDifferent_0 : decode cX6_checkDifferent 0 = .ok (.iload_n 0, 1) := by decide +kernel
theorem dX6_checkDifferent_1 : decode cX6_checkDifferent 1 = .ok (.iload_n 1, 1) := by decide +kernel
theorem dX6_checkDifferent_2 : decode cX6_checkDifferent 2 = .ok (.if_icmp .ne 14, 3) := by decide +kernel
theorem dX6_checkDifferent_5 : decode cX6_checkDifferent 5 = .ok (.new 274, 3) := by decide +kernel
theorem dX6_checkDifferent_8 : decode cX6_checkDifferent 8 = .ok (.dup, 1) := by decide +kernel
theorem dX6_checkDifferent_9 : decode cX6_checkDifferent 9 = .ok (.ldc_w 279, 3) := by decide +kernel
theorem dX6_checkDifferent_12 : decode cX6_checkDifferent 12 = .ok (.invokespecial 278, 3) := by decide +kernel
theorem dX6_checkDifferent_15 : decode cX6_checkDifferent 15 = .ok (.athrow, 1) := by decide +kernel
theorem dX6_checkDifferent_16 : decode cX6_checkDifferent 16 = .ok (.return_, 1) := by decide +kernel
theorem dX6_checkStock_0 : decode cX6_checkStock 0 = .ok (.aload_n 0, 1) := by decide +kernel
theorem dX6_checkStock_1 : decode cX6_checkStock 1 = .ok (.getfield 153, 3) := by decide +kernel
theorem dX6_checkStock_4 : decode cX6_checkStock 4 = .ok (.iload_n 1, 1) := by decide +kernel
theorem dX6_checkStock_5 : decode cX6_checkStock 5 = .ok (.if_icmp .ge 14, 3) := by decide +kernel
theorem dX6_checkStock_8 : decode cX6_checkStock 8 = .ok (.new 59, 3) := by decide +kernel
theorem dX6_checkStock_11 : decode cX6_checkStock 11 = .ok (.dup, 1) := by decide +kernel
theorem dX6_checkStock_12 : decode cX6_checkStock 12 = .ok (.ldc_w 281, 3) := by decide +kernel
theorem dX6_checkStock_15 : decode cX6_checkStock 15 = .ok (.invokespecial 63, 3) := by decide +kernel
theorem dX6_checkStock_18 : decode cX6_checkStock 18 = .ok (.athrow, 1) := by decide +kernel
theorem dX6_checkStock_19 : decode cX6_checkStock 19 = .ok (.return_, 1) := by decide +kernel
theorem dX6_checkRoom_0 : decode cX6_checkRoom 0 = .ok (.aload_n 0, 1) := by decide +kernel
theorem dX6_checkRoom_1 : decode cX6_checkRoom 1 = .ok (.getfield 79, 3) := by decide +kernel
theorem dX6_checkRoom_4 : decode cX6_checkRoom 4 = .ok (.aload_n 0, 1) := by decide +kernel
theorem dX6_checkRoom_5 : decode cX6_checkRoom 5 = .ok (.getfield 153, 3) := by decide +kernel
theorem dX6_checkRoom_8 : decode cX6_checkRoom 8 = .ok (.isub, 1) := by decide +kernel
theorem dX6_checkRoom_9 : decode cX6_checkRoom 9 = .ok (.iload_n 1, 1) := by decide +kernel
theorem dX6_checkRoom_10 : decode cX6_checkRoom 10 = .ok (.if_icmp .ge 14, 3) := by decide +kernel
theorem dX6_checkRoom_13 : decode cX6_checkRoom 13 = .ok (.new 59, 3) := by decide +kernel
theorem dX6_checkRoom_16 : decode cX6_checkRoom 16 = .ok (.dup, 1) := by decide +kernel
theorem dX6_checkRoom_17 : decode cX6_checkRoom 17 = .ok (.ldc_w 283, 3) := by decide +kernel
theorem dX6_checkRoom_20 : decode cX6_checkRoom 20 = .ok (.invokespecial 63, 3) := by decide +kernel
theorem dX6_checkRoom_23 : decode cX6_checkRoom 23 = .ok (.athrow, 1) := by decide +kernel
theorem dX6_checkRoom_24 : decode cX6_checkRoom 24 = .ok (.return_, 1) := by decide +kernel
theorem dX6_checkEventLeft_0 : decode cX6_checkEventLeft 0 = .ok (.aload_n 0, 1) := by decide +kernel
theorem dX6_checkEventLeft_1 : decode cX6_checkEventLeft 1 = .ok (.getfield 19, 3) := by decide +kernel
theorem dX6_checkEventLeft_4 : decode cX6_checkEventLeft 4 = .ok (.invokevirtual 55, 3) := by decide +kernel
theorem dX6_checkEventLeft_7 : decode cX6_checkEventLeft 7 = .ok (.bipush 80, 2) := by decide +kernel
theorem dX6_checkEventLeft_9 : decode cX6_checkEventLeft 9 = .ok (.if_icmp .lt 14, 3) := by decide +kernel
theorem dX6_checkEventLeft_12 : decode cX6_checkEventLeft 12 = .ok (.new 59, 3) := by decide +kernel
theorem dX6_checkEventLeft_15 : decode cX6_checkEventLeft 15 = .ok (.dup, 1) := by decide +kernel
theorem dX6_checkEventLeft_16 : decode cX6_checkEventLeft 16 = .ok (.ldc_w 285, 3) := by decide +kernel
theorem dX6_checkEventLeft_19 : decode cX6_checkEventLeft 19 = .ok (.invokespecial 63, 3) := by decide +kernel
theorem dX6_checkEventLeft_22 : decode cX6_checkEventLeft 22 = .ok (.athrow, 1) := by decide +kernel
theorem dX6_checkEventLeft_23 : decode cX6_checkEventLeft 23 = .ok (.return_, 1) := by decide +kernel
theorem dX6_checkBlend_0 : decode cX6_checkBlend 0 = .ok (.aload_n 0, 1) := by decide +kernel
theorem dX6_checkBlend_1 : decode cX6_checkBlend 1 = .ok (.getfield 12, 3) := by decide +kernel
theorem dX6_checkBlend_4 : decode cX6_checkBlend 4 = .ok (.iload_n 1, 1) := by decide +kernel
theorem dX6_checkBlend_5 : decode cX6_checkBlend 5 = .ok (.invokestatic 75, 3) := by decide +kernel
theorem dX6_checkBlend_8 : decode cX6_checkBlend 8 = .ok (.pop, 1) := by decide +kernel
theorem dX6_checkBlend_9 : decode cX6_checkBlend 9 = .ok (.aload_n 0, 1) := by decide +kernel
theorem dX6_checkBlend_10 : decode cX6_checkBlend 10 = .ok (.getfield 12, 3) := by decide +kernel
theorem dX6_checkBlend_13 : decode cX6_checkBlend 13 = .ok (.iload_n 2, 1) := by decide +kernel
theorem dX6_checkBlend_14 : decode cX6_checkBlend 14 = .ok (.invokestatic 75, 3) := by decide +kernel
theorem dX6_checkBlend_17 : decode cX6_checkBlend 17 = .ok (.pop, 1) := by decide +kernel
theorem dX6_checkBlend_18 : decode cX6_checkBlend 18 = .ok (.iload_n 1, 1) := by decide +kernel
theorem dX6_checkBlend_19 : decode cX6_checkBlend 19 = .ok (.iload_n 2, 1) := by decide +kernel
theorem dX6_checkBlend_20 : decode cX6_checkBlend 20 = .ok (.invokestatic 134, 3) := by decide +kernel
theorem dX6_checkBlend_23 : decode cX6_checkBlend 23 = .ok (.iload_n 3, 1) := by decide +kernel
theorem dX6_checkBlend_24 : decode cX6_checkBlend 24 = .ok (.iconst 1, 1) := by decide +kernel
theorem dX6_checkBlend_25 : decode cX6_checkBlend 25 = .ok (.sipush 500, 3) := by decide +kernel
theorem dX6_checkBlend_28 : decode cX6_checkBlend 28 = .ok (.invokestatic 51, 3) := by decide +kernel
theorem dX6_checkBlend_31 : decode cX6_checkBlend 31 = .ok (.iload 4, 2) := by decide +kernel
theorem dX6_checkBlend_33 : decode cX6_checkBlend 33 = .ok (.invokestatic 144, 3) := by decide +kernel
theorem dX6_checkBlend_36 : decode cX6_checkBlend 36 = .ok (.return_, 1) := by decide +kernel
theorem dX6_checkFound_0 : decode cX6_checkFound 0 = .ok (.aload_n 0, 1) := by decide +kernel
theorem dX6_checkFound_1 : decode cX6_checkFound 1 = .ok (.getfield 287, 3) := by decide +kernel
theorem dX6_checkFound_4 : decode cX6_checkFound 4 = .ok (.ifCond .ne 14, 3) := by decide +kernel
theorem dX6_checkFound_7 : decode cX6_checkFound 7 = .ok (.new 291, 3) := by decide +kernel
theorem dX6_checkFound_10 : decode cX6_checkFound 10 = .ok (.dup, 1) := by decide +kernel
theorem dX6_checkFound_11 : decode cX6_checkFound 11 = .ok (.ldc_w 293, 3) := by decide +kernel
theorem dX6_checkFound_14 : decode cX6_checkFound 14 = .ok (.invokespecial 295, 3) := by decide +kernel
theorem dX6_checkFound_17 : decode cX6_checkFound 17 = .ok (.athrow, 1) := by decide +kernel
theorem dX6_checkFound_18 : decode cX6_checkFound 18 = .ok (.return_, 1) := by decide +kernel
theorem dX6_binIn_0 : decode cX6_binIn 0 = .ok (.iload_n 1, 1) := by decide +kernel
theorem dX6_binIn_1 : decode cX6_binIn 1 = .ok (.ifCond .lt 11, 3) := by decide +kernel
theorem dX6_binIn_4 : decode cX6_binIn 4 = .ok (.iload_n 1, 1) := by decide +kernel
theorem dX6_binIn_5 : decode cX6_binIn 5 = .ok (.aload_n 0, 1) := by decide +kernel
theorem dX6_binIn_6 : decode cX6_binIn 6 = .ok (.invokevirtual 55, 3) := by decide +kernel
theorem dX6_binIn_9 : decode cX6_binIn 9 = .ok (.if_icmp .lt 14, 3) := by decide +kernel
theorem dX6_binIn_12 : decode cX6_binIn 12 = .ok (.new 237, 3) := by decide +kernel
theorem dX6_binIn_15 : decode cX6_binIn 15 = .ok (.dup, 1) := by decide +kernel
theorem dX6_binIn_16 : decode cX6_binIn 16 = .ok (.ldc_w 296, 3) := by decide +kernel
theorem dX6_binIn_19 : decode cX6_binIn 19 = .ok (.invokespecial 241, 3) := by decide +kernel
theorem dX6_binIn_22 : decode cX6_binIn 22 = .ok (.athrow, 1) := by decide +kernel
theorem dX6_binIn_23 : decode cX6_binIn 23 = .ok (.aload_n 0, 1) := by decide +kernel
theorem dX6_binIn_24 : decode cX6_binIn 24 = .ok (.iload_n 1, 1) := by decide +kernel
theorem dX6_binIn_25 : decode cX6_binIn 25 = .ok (.invokevirtual 194, 3) := by decide +kernel
theorem dX6_binIn_28 : decode cX6_binIn 28 = .ok (.checkcast 66, 3) := by decide +kernel
theorem dX6_binIn_31 : decode cX6_binIn 31 = .ok (.areturn, 1) := by decide +kernel
theorem dX6_binWithLayer_0 : decode cX6_binWithLayer 0 = .ok (.aload_n 0, 1) := by decide +kernel
theorem dX6_binWithLayer_1 : decode cX6_binWithLayer 1 = .ok (.iload_n 1, 1) := by decide +kernel
theorem dX6_binWithLayer_2 : decode cX6_binWithLayer 2 = .ok (.invokestatic 75, 3) := by decide +kernel
theorem dX6_binWithLayer_5 : decode cX6_binWithLayer 5 = .ok (.astore_n 3, 1) := by decide +kernel
theorem dX6_binWithLayer_6 : decode cX6_binWithLayer 6 = .ok (.iload_n 2, 1) := by decide +kernel
theorem dX6_binWithLayer_7 : decode cX6_binWithLayer 7 = .ok (.ifCond .lt 11, 3) := by decide +kernel
theorem dX6_binWithLayer_10 : decode cX6_binWithLayer 10 = .ok (.iload_n 2, 1) := by decide +kernel
theorem dX6_binWithLayer_11 : decode cX6_binWithLayer 11 = .ok (.aload_n 3, 1) := by decide +kernel
theorem dX6_binWithLayer_12 : decode cX6_binWithLayer 12 = .ok (.getfield 137, 3) := by decide +kernel
theorem dX6_binWithLayer_15 : decode cX6_binWithLayer 15 = .ok (.if_icmp .lt 14, 3) := by decide +kernel
theorem dX6_binWithLayer_18 : decode cX6_binWithLayer 18 = .ok (.new 237, 3) := by decide +kernel
theorem dX6_binWithLayer_21 : decode cX6_binWithLayer 21 = .ok (.dup, 1) := by decide +kernel
theorem dX6_binWithLayer_22 : decode cX6_binWithLayer 22 = .ok (.ldc_w 298, 3) := by decide +kernel
theorem dX6_binWithLayer_25 : decode cX6_binWithLayer 25 = .ok (.invokespecial 241, 3) := by decide +kernel
theorem dX6_binWithLayer_28 : decode cX6_binWithLayer 28 = .ok (.athrow, 1) := by decide +kernel
theorem dX6_binWithLayer_29 : decode cX6_binWithLayer 29 = .ok (.aload_n 3, 1) := by decide +kernel
theorem dX6_binWithLayer_30 : decode cX6_binWithLayer 30 = .ok (.areturn, 1) := by decide +kernel
theorem dX6_happen_0 : decode cX6_happen 0 = .ok (.aload_n 0, 1) := by decide +kernel
theorem dX6_happen_1 : decode cX6_happen 1 = .ok (.aload_n 1, 1) := by decide +kernel
theorem dX6_happen_2 : decode cX6_happen 2 = .ok (.aload_n 0, 1) := by decide +kernel
theorem dX6_happen_3 : decode cX6_happen 3 = .ok (.getfield 12, 3) := by decide +kernel
theorem dX6_happen_6 : decode cX6_happen 6 = .ok (.invokevirtual 300, 3) := by decide +kernel
theorem dX6_happen_9 : decode cX6_happen 9 = .ok (.aload_n 0, 1) := by decide +kernel
theorem dX6_happen_10 : decode cX6_happen 10 = .ok (.getfield 19, 3) := by decide +kernel
theorem dX6_happen_13 : decode cX6_happen 13 = .ok (.aload_n 1, 1) := by decide +kernel
theorem dX6_happen_14 : decode cX6_happen 14 = .ok (.invokevirtual 71, 3) := by decide +kernel
theorem dX6_happen_17 : decode cX6_happen 17 = .ok (.pop, 1) := by decide +kernel
theorem dX6_happen_18 : decode cX6_happen 18 = .ok (.aload_n 0, 1) := by decide +kernel
theorem dX6_happen_19 : decode cX6_happen 19 = .ok (.dup, 1) := by decide +kernel
theorem dX6_happen_20 : decode cX6_happen 20 = .ok (.getfield 47, 3) := by decide +kernel
theorem dX6_happen_23 : decode cX6_happen 23 = .ok (.iload_n 2, 1) := by decide +kernel
theorem dX6_happen_24 : decode cX6_happen 24 = .ok (.i2l, 1) := by decide +kernel
theorem dX6_happen_25 : decode cX6_happen 25 = .ok (.ladd, 1) := by decide +kernel
theorem dX6_happen_26 : decode cX6_happen 26 = .ok (.putfield 47, 3) := by decide +kernel
theorem dX6_happen_29 : decode cX6_happen 29 = .ok (.aload_n 0, 1) := by decide +kernel
theorem dX6_happen_30 : decode cX6_happen 30 = .ok (.getfield 36, 3) := by decide +kernel
theorem dX6_happen_33 : decode cX6_happen 33 = .ok (.aload_n 0, 1) := by decide +kernel
theorem dX6_happen_34 : decode cX6_happen 34 = .ok (.invokevirtual 189, 3) := by decide +kernel
theorem dX6_happen_37 : decode cX6_happen 37 = .ok (.invokevirtual 304, 3) := by decide +kernel
theorem dX6_happen_40 : decode cX6_happen 40 = .ok (.return_, 1) := by decide +kernel
theorem dX6_goThroughEvents_0 : decode cX6_goThroughEvents 0 = .ok (.iconst 0, 1) := by decide +kernel
theorem dX6_goThroughEvents_1 : decode cX6_goThroughEvents 1 = .ok (.istore_n 1, 1) := by decide +kernel
theorem dX6_goThroughEvents_2 : decode cX6_goThroughEvents 2 = .ok (.iload_n 1, 1) := by decide +kernel
theorem dX6_goThroughEvents_3 : decode cX6_goThroughEvents 3 = .ok (.aload_n 0, 1) := by decide +kernel
theorem dX6_goThroughEvents_4 : decode cX6_goThroughEvents 4 = .ok (.getfield 16, 3) := by decide +kernel
theorem dX6_goThroughEvents_7 : decode cX6_goThroughEvents 7 = .ok (.invokevirtual 55, 3) := by decide +kernel
theorem dX6_goThroughEvents_10 : decode cX6_goThroughEvents 10 = .ok (.if_icmp .ge 23, 3) := by decide +kernel
theorem dX6_goThroughEvents_13 : decode cX6_goThroughEvents 13 = .ok (.aload_n 0, 1) := by decide +kernel
theorem dX6_goThroughEvents_14 : decode cX6_goThroughEvents 14 = .ok (.getfield 16, 3) := by decide +kernel
theorem dX6_goThroughEvents_17 : decode cX6_goThroughEvents 17 = .ok (.iload_n 1, 1) := by decide +kernel
theorem dX6_goThroughEvents_18 : decode cX6_goThroughEvents 18 = .ok (.invokevirtual 194, 3) := by decide +kernel
theorem dX6_goThroughEvents_21 : decode cX6_goThroughEvents 21 = .ok (.checkcast 66, 3) := by decide +kernel
theorem dX6_goThroughEvents_24 : decode cX6_goThroughEvents 24 = .ok (.invokevirtual 307, 3) := by decide +kernel
theorem dX6_goThroughEvents_27 : decode cX6_goThroughEvents 27 = .ok (.iinc 1 1, 3) := by decide +kernel
theorem dX6_goThroughEvents_30 : decode cX6_goThroughEvents 30 = .ok (.goto (-28), 3) := by decide +kernel
theorem dX6_goThroughEvents_33 : decode cX6_goThroughEvents 33 = .ok (.iconst 0, 1) := by decide +kernel
theorem dX6_goThroughEvents_34 : decode cX6_goThroughEvents 34 = .ok (.istore_n 1, 1) := by decide +kernel
theorem dX6_goThroughEvents_35 : decode cX6_goThroughEvents 35 = .ok (.iload_n 1, 1) := by decide +kernel
theorem dX6_goThroughEvents_36 : decode cX6_goThroughEvents 36 = .ok (.aload_n 0, 1) := by decide +kernel
theorem dX6_goThroughEvents_37 : decode cX6_goThroughEvents 37 = .ok (.getfield 19, 3) := by decide +kernel
theorem dX6_goThroughEvents_40 : decode cX6_goThroughEvents 40 = .ok (.invokevirtual 55, 3) := by decide +kernel
theorem dX6_goThroughEvents_43 : decode cX6_goThroughEvents 43 = .ok (.if_icmp .ge 28, 3) := by decide +kernel
theorem dX6_goThroughEvents_46 : decode cX6_goThroughEvents 46 = .ok (.aload_n 0, 1) := by decide +kernel
theorem dX6_goThroughEvents_47 : decode cX6_goThroughEvents 47 = .ok (.aload_n 0, 1) := by decide +kernel
theorem dX6_goThroughEvents_48 : decode cX6_goThroughEvents 48 = .ok (.getfield 19, 3) := by decide +kernel
theorem dX6_goThroughEvents_51 : decode cX6_goThroughEvents 51 = .ok (.iload_n 1, 1) := by decide +kernel
theorem dX6_goThroughEvents_52 : decode cX6_goThroughEvents 52 = .ok (.invokevirtual 194, 3) := by decide +kernel
theorem dX6_goThroughEvents_55 : decode cX6_goThroughEvents 55 = .ok (.checkcast 106, 3) := by decide +kernel
theorem dX6_goThroughEvents_58 : decode cX6_goThroughEvents 58 = .ok (.aload_n 0, 1) := by decide +kernel
theorem dX6_goThroughEvents_59 : decode cX6_goThroughEvents 59 = .ok (.getfield 16, 3) := by decide +kernel
theorem dX6_goThroughEvents_62 : decode cX6_goThroughEvents 62 = .ok (.invokevirtual 300, 3) := by decide +kernel
theorem dX6_goThroughEvents_65 : decode cX6_goThroughEvents 65 = .ok (.iinc 1 1, 3) := by decide +kernel
theorem dX6_goThroughEvents_68 : decode cX6_goThroughEvents 68 = .ok (.goto (-33), 3) := by decide +kernel
theorem dX6_goThroughEvents_71 : decode cX6_goThroughEvents 71 = .ok (.return_, 1) := by decide +kernel
theorem dX6_apply_0 : decode cX6_apply 0 = .ok (.aload_n 2, 1) := by decide +kernel
theorem dX6_apply_1 : decode cX6_apply 1 = .ok (.aload_n 1, 1) := by decide +kernel
theorem dX6_apply_2 : decode cX6_apply 2 = .ok (.getfield 310, 3) := by decide +kernel
theorem dX6_apply_5 : decode cX6_apply 5 = .ok (.invokestatic 75, 3) := by decide +kernel
theorem dX6_apply_8 : decode cX6_apply 8 = .ok (.astore_n 3, 1) := by decide +kernel
theorem dX6_apply_9 : decode cX6_apply 9 = .ok (.aload_n 2, 1) := by decide +kernel
theorem dX6_apply_10 : decode cX6_apply 10 = .ok (.aload_n 1, 1) := by decide +kernel
theorem dX6_apply_11 : decode cX6_apply 11 = .ok (.getfield 313, 3) := by decide +kernel
theorem dX6_apply_14 : decode cX6_apply 14 = .ok (.invokestatic 75, 3) := by decide +kernel
theorem dX6_apply_17 : decode cX6_apply 17 = .ok (.astore 4, 2) := by decide +kernel
theorem dX6_apply_19 : decode cX6_apply 19 = .ok (.aload_n 1, 1) := by decide +kernel
theorem dX6_apply_20 : decode cX6_apply 20 = .ok (.getfield 247, 3) := by decide +kernel
theorem dX6_apply_23 : decode cX6_apply 23 = .ok (.bipush 108, 2) := by decide +kernel
theorem dX6_apply_25 : decode cX6_apply 25 = .ok (.if_icmp .ne 37, 3) := by decide +kernel
theorem dX6_apply_28 : decode cX6_apply 28 = .ok (.aload_n 3, 1) := by decide +kernel
theorem dX6_apply_29 : decode cX6_apply 29 = .ok (.aload_n 1, 1) := by decide +kernel
theorem dX6_apply_30 : decode cX6_apply 30 = .ok (.getfield 316, 3) := by decide +kernel
theorem dX6_apply_33 : decode cX6_apply 33 = .ok (.aload_n 1, 1) := by decide +kernel
theorem dX6_apply_34 : decode cX6_apply 34 = .ok (.getfield 317, 3) := by decide +kernel
theorem dX6_apply_37 : decode cX6_apply 37 = .ok (.aload_n 1, 1) := by decide +kernel
theorem dX6_apply_38 : decode cX6_apply 38 = .ok (.getfield 320, 3) := by decide +kernel
theorem dX6_apply_41 : decode cX6_apply 41 = .ok (.aload_n 0, 1) := by decide +kernel
theorem dX6_apply_42 : decode cX6_apply 42 = .ok (.getfield 25, 3) := by decide +kernel
theorem dX6_apply_45 : decode cX6_apply 45 = .ok (.aload_n 1, 1) := by decide +kernel
theorem dX6_apply_46 : decode cX6_apply 46 = .ok (.getfield 317, 3) := by decide +kernel
theorem dX6_apply_49 : decode cX6_apply 49 = .ok (.aload_n 1, 1) := by decide +kernel
theorem dX6_apply_50 : decode cX6_apply 50 = .ok (.getfield 320, 3) := by decide +kernel
theorem dX6_apply_53 : decode cX6_apply 53 = .ok (.invokevirtual 94, 3) := by decide +kernel
theorem dX6_apply_56 : decode cX6_apply 56 = .ok (.invokevirtual 323, 3) := by decide +kernel
theorem dX6_apply_59 : decode cX6_apply 59 = .ok (.goto 66, 3) := by decide +kernel
theorem dX6_apply_62 : decode cX6_apply 62 = .ok (.aload_n 1, 1) := by decide +kernel
theorem dX6_apply_63 : decode cX6_apply 63 = .ok (.getfield 247, 3) := by decide +kernel
theorem dX6_apply_66 : decode cX6_apply 66 = .ok (.bipush 116, 2) := by decide +kernel
theorem dX6_apply_68 : decode cX6_apply 68 = .ok (.if_icmp .ne 16, 3) := by decide +kernel
theorem dX6_apply_71 : decode cX6_apply 71 = .ok (.aload_n 3, 1) := by decide +kernel
theorem dX6_apply_72 : decode cX6_apply 72 = .ok (.aload 4, 2) := by decide +kernel
theorem dX6_apply_74 : decode cX6_apply 74 = .ok (.aload_n 1, 1) := by decide +kernel
theorem dX6_apply_75 : decode cX6_apply 75 = .ok (.getfield 316, 3) := by decide +kernel
theorem dX6_apply_78 : decode cX6_apply 78 = .ok (.invokevirtual 325, 3) := by decide +kernel
theorem dX6_apply_81 : decode cX6_apply 81 = .ok (.goto 44, 3) := by decide +kernel
theorem dX6_apply_84 : decode cX6_apply 84 = .ok (.aload_n 1, 1) := by decide +kernel
theorem dX6_apply_85 : decode cX6_apply 85 = .ok (.getfield 247, 3) := by decide +kernel
theorem dX6_apply_88 : decode cX6_apply 88 = .ok (.bipush 100, 2) := by decide +kernel
theorem dX6_apply_90 : decode cX6_apply 90 = .ok (.if_icmp .ne 18, 3) := by decide +kernel
theorem dX6_apply_93 : decode cX6_apply 93 = .ok (.aload_n 3, 1) := by decide +kernel
theorem dX6_apply_94 : decode cX6_apply 94 = .ok (.aload_n 1, 1) := by decide +kernel
theorem dX6_apply_95 : decode cX6_apply 95 = .ok (.getfield 317, 3) := by decide +kernel
theorem dX6_apply_98 : decode cX6_apply 98 = .ok (.aload_n 0, 1) := by decide +kernel
theorem dX6_apply_99 : decode cX6_apply 99 = .ok (.getfield 25, 3) := by decide +kernel
theorem dX6_apply_102 : decode cX6_apply 102 = .ok (.invokevirtual 328, 3) := by decide +kernel
theorem dX6_apply_105 : decode cX6_apply 105 = .ok (.goto 20, 3) := by decide +kernel
theorem dX6_apply_108 : decode cX6_apply 108 = .ok (.aload_n 3, 1) := by decide +kernel
theorem dX6_apply_109 : decode cX6_apply 109 = .ok (.aload_n 1, 1) := by decide +kernel
theorem dX6_apply_110 : decode cX6_apply 110 = .ok (.getfield 316, 3) := by decide +kernel
theorem dX6_apply_113 : decode cX6_apply 113 = .ok (.invokevirtual 332, 3) := by decide +kernel
theorem dX6_apply_116 : decode cX6_apply 116 = .ok (.aload 4, 2) := by decide +kernel
theorem dX6_apply_118 : decode cX6_apply 118 = .ok (.aload_n 1, 1) := by decide +kernel
theorem dX6_apply_119 : decode cX6_apply 119 = .ok (.getfield 335, 3) := by decide +kernel
theorem dX6_apply_122 : decode cX6_apply 122 = .ok (.invokevirtual 332, 3) := by decide +kernel
theorem dX6_apply_125 : decode cX6_apply 125 = .ok (.return_, 1) := by decide +kernel
theorem dX6_goodBlend_0 : decode cX6_goodBlend 0 = .ok (.aload_n 0, 1) := by decide +kernel
theorem dX6_goodBlend_1 : decode cX6_goodBlend 1 = .ok (.iload_n 1, 1) := by decide +kernel
theorem dX6_goodBlend_2 : decode cX6_goodBlend 2 = .ok (.iload_n 2, 1) := by decide +kernel
theorem dX6_goodBlend_3 : decode cX6_goodBlend 3 = .ok (.iload_n 3, 1) := by decide +kernel
theorem dX6_goodBlend_4 : decode cX6_goodBlend 4 = .ok (.iload 4, 2) := by decide +kernel
theorem dX6_goodBlend_6 : decode cX6_goodBlend 6 = .ok (.invokevirtual 205, 3) := by decide +kernel
theorem dX6_goodBlend_9 : decode cX6_goodBlend 9 = .ok (.aload_n 0, 1) := by decide +kernel
theorem dX6_goodBlend_10 : decode cX6_goodBlend 10 = .ok (.aload_n 0, 1) := by decide +kernel
theorem dX6_goodBlend_11 : decode cX6_goodBlend 11 = .ok (.getfield 12, 3) := by decide +kernel
theorem dX6_goodBlend_14 : decode cX6_goodBlend 14 = .ok (.iload_n 1, 1) := by decide +kernel
theorem dX6_goodBlend_15 : decode cX6_goodBlend 15 = .ok (.invokestatic 75, 3) := by decide +kernel
theorem dX6_goodBlend_18 : decode cX6_goodBlend 18 = .ok (.aload_n 0, 1) := by decide +kernel
theorem dX6_goodBlend_19 : decode cX6_goodBlend 19 = .ok (.getfield 12, 3) := by decide +kernel
theorem dX6_goodBlend_22 : decode cX6_goodBlend 22 = .ok (.iload_n 2, 1) := by decide +kernel
theorem dX6_goodBlend_23 : decode cX6_goodBlend 23 = .ok (.invokestatic 75, 3) := by decide +kernel
theorem dX6_goodBlend_26 : decode cX6_goodBlend 26 = .ok (.iload_n 3, 1) := by decide +kernel
theorem dX6_goodBlend_27 : decode cX6_goodBlend 27 = .ok (.iload_n 3, 1) := by decide +kernel
theorem dX6_goodBlend_28 : decode cX6_goodBlend 28 = .ok (.iload 4, 2) := by decide +kernel
theorem dX6_goodBlend_30 : decode cX6_goodBlend 30 = .ok (.imul, 1) := by decide +kernel
theorem dX6_goodBlend_31 : decode cX6_goodBlend 31 = .ok (.invokevirtual 338, 3) := by decide +kernel
theorem dX6_goodBlend_34 : decode cX6_goodBlend 34 = .ok (.astore 5, 2) := by decide +kernel
theorem dX6_goodBlend_36 : decode cX6_goodBlend 36 = .ok (.aload 5, 2) := by decide +kernel
theorem dX6_goodBlend_38 : decode cX6_goodBlend 38 = .ok (.invokestatic 213, 3) := by decide +kernel
theorem dX6_goodBlend_41 : decode cX6_goodBlend 41 = .ok (.aload 5, 2) := by decide +kernel
theorem dX6_goodBlend_43 : decode cX6_goodBlend 43 = .ok (.areturn, 1) := by decide +kernel
theorem dX6_bestByGoingOn_0 : decode cX6_bestByGoingOn 0 = .ok (.new 203, 3) := by decide +kernel
theorem dX6_bestByGoingOn_3 : decode cX6_bestByGoingOn 3 = .ok (.dup, 1) := by decide +kernel
theorem dX6_bestByGoingOn_4 : decode cX6_bestByGoingOn 4 = .ok (.invokespecial 341, 3) := by decide +kernel
theorem dX6_bestByGoingOn_7 : decode cX6_bestByGoingOn 7 = .ok (.astore 5, 2) := by decide +kernel
theorem dX6_bestByGoingOn_9 : decode cX6_bestByGoingOn 9 = .ok (.new 118, 3) := by decide +kernel
theorem dX6_bestByGoingOn_12 : decode cX6_bestByGoingOn 12 = .ok (.dup, 1) := by decide +kernel
theorem dX6_bestByGoingOn_13 : decode cX6_bestByGoingOn 13 = .ok (.aload_n 1, 1) := by decide +kernel
theorem dX6_bestByGoingOn_14 : decode cX6_bestByGoingOn 14 = .ok (.aload_n 0, 1) := by decide +kernel
theorem dX6_bestByGoingOn_15 : decode cX6_bestByGoingOn 15 = .ok (.getfield 29, 3) := by decide +kernel
theorem dX6_bestByGoingOn_18 : decode cX6_bestByGoingOn 18 = .ok (.invokespecial 120, 3) := by decide +kernel
theorem dX6_bestByGoingOn_21 : decode cX6_bestByGoingOn 21 = .ok (.astore 6, 2) := by decide +kernel
theorem dX6_bestByGoingOn_23 : decode cX6_bestByGoingOn 23 = .ok (.new 118, 3) := by decide +kernel
theorem dX6_bestByGoingOn_26 : decode cX6_bestByGoingOn 26 = .ok (.dup, 1) := by decide +kernel
theorem dX6_bestByGoingOn_27 : decode cX6_bestByGoingOn 27 = .ok (.aload_n 2, 1) := by decide +kernel
theorem dX6_bestByGoingOn_28 : decode cX6_bestByGoingOn 28 = .ok (.aload_n 0, 1) := by decide +kernel
theorem dX6_bestByGoingOn_29 : decode cX6_bestByGoingOn 29 = .ok (.getfield 29, 3) := by decide +kernel
theorem dX6_bestByGoingOn_32 : decode cX6_bestByGoingOn 32 = .ok (.invokespecial 120, 3) := by decide +kernel
theorem dX6_bestByGoingOn_35 : decode cX6_bestByGoingOn 35 = .ok (.astore 7, 2) := by decide +kernel
theorem dX6_bestByGoingOn_37 : decode cX6_bestByGoingOn 37 = .ok (.aload_n 2, 1) := by decide +kernel
theorem dX6_bestByGoingOn_38 : decode cX6_bestByGoingOn 38 = .ok (.iload_n 3, 1) := by decide +kernel
theorem dX6_bestByGoingOn_39 : decode cX6_bestByGoingOn 39 = .ok (.invokestatic 342, 3) := by decide +kernel
theorem dX6_bestByGoingOn_42 : decode cX6_bestByGoingOn 42 = .ok (.istore 8, 2) := by decide +kernel
theorem dX6_bestByGoingOn_44 : decode cX6_bestByGoingOn 44 = .ok (.aload_n 1, 1) := by decide +kernel
theorem dX6_bestByGoingOn_45 : decode cX6_bestByGoingOn 45 = .ok (.getfield 153, 3) := by decide +kernel
theorem dX6_bestByGoingOn_48 : decode cX6_bestByGoingOn 48 = .ok (.iload_n 3, 1) := by decide +kernel
theorem dX6_bestByGoingOn_49 : decode cX6_bestByGoingOn 49 = .ok (.invokestatic 346, 3) := by decide +kernel
theorem dX6_bestByGoingOn_52 : decode cX6_bestByGoingOn 52 = .ok (.istore 9, 2) := by decide +kernel
theorem dX6_bestByGoingOn_54 : decode cX6_bestByGoingOn 54 = .ok (.aload 6, 2) := by decide +kernel
theorem dX6_bestByGoingOn_56 : decode cX6_bestByGoingOn 56 = .ok (.iload 8, 2) := by decide +kernel
theorem dX6_bestByGoingOn_58 : decode cX6_bestByGoingOn 58 = .ok (.invokevirtual 123, 3) := by decide +kernel
theorem dX6_bestByGoingOn_61 : decode cX6_bestByGoingOn 61 = .ok (.aload 7, 2) := by decide +kernel
theorem dX6_bestByGoingOn_63 : decode cX6_bestByGoingOn 63 = .ok (.iload_n 3, 1) := by decide +kernel
theorem dX6_bestByGoingOn_64 : decode cX6_bestByGoingOn 64 = .ok (.iload 8, 2) := by decide +kernel
theorem dX6_bestByGoingOn_66 : decode cX6_bestByGoingOn 66 = .ok (.isub, 1) := by decide +kernel
theorem dX6_bestByGoingOn_67 : decode cX6_bestByGoingOn 67 = .ok (.invokevirtual 123, 3) := by decide +kernel
theorem dX6_bestByGoingOn_70 : decode cX6_bestByGoingOn 70 = .ok (.iload 8, 2) := by decide +kernel
theorem dX6_bestByGoingOn_72 : decode cX6_bestByGoingOn 72 = .ok (.istore 10, 2) := by decide +kernel
theorem dX6_bestByGoingOn_74 : decode cX6_bestByGoingOn 74 = .ok (.iload 10, 2) := by decide +kernel
theorem dX6_bestByGoingOn_76 : decode cX6_bestByGoingOn 76 = .ok (.iload 9, 2) := by decide +kernel
theorem dX6_bestByGoingOn_78 : decode cX6_bestByGoingOn 78 = .ok (.if_icmp .gt 34, 3) := by decide +kernel
theorem dX6_bestByGoingOn_81 : decode cX6_bestByGoingOn 81 = .ok (.aload 5, 2) := by decide +kernel
theorem dX6_bestByGoingOn_83 : decode cX6_bestByGoingOn 83 = .ok (.iload 10, 2) := by decide +kernel
theorem dX6_bestByGoingOn_85 : decode cX6_bestByGoingOn 85 = .ok (.aload 6, 2) := by decide +kernel
theorem dX6_bestByGoingOn_87 : decode cX6_bestByGoingOn 87 = .ok (.aload 7, 2) := by decide +kernel
theorem dX6_bestByGoingOn_89 : decode cX6_bestByGoingOn 89 = .ok (.iload 4, 2) := by decide +kernel
theorem dX6_bestByGoingOn_91 : decode cX6_bestByGoingOn 91 = .ok (.invokevirtual 351, 3) := by decide +kernel
theorem dX6_bestByGoingOn_94 : decode cX6_bestByGoingOn 94 = .ok (.aload 6, 2) := by decide +kernel
theorem dX6_bestByGoingOn_96 : decode cX6_bestByGoingOn 96 = .ok (.iconst 1, 1) := by decide +kernel
theorem dX6_bestByGoingOn_97 : decode cX6_bestByGoingOn 97 = .ok (.invokevirtual 123, 3) := by decide +kernel
theorem dX6_bestByGoingOn_100 : decode cX6_bestByGoingOn 100 = .ok (.aload 7, 2) := by decide +kernel
theorem dX6_bestByGoingOn_102 : decode cX6_bestByGoingOn 102 = .ok (.iconst 1, 1) := by decide +kernel
theorem dX6_bestByGoingOn_103 : decode cX6_bestByGoingOn 103 = .ok (.invokevirtual 355, 3) := by decide +kernel
theorem dX6_bestByGoingOn_106 : decode cX6_bestByGoingOn 106 = .ok (.iinc 10 1, 3) := by decide +kernel
theorem dX6_bestByGoingOn_109 : decode cX6_bestByGoingOn 109 = .ok (.goto (-35), 3) := by decide +kernel
theorem dX6_bestByGoingOn_112 : decode cX6_bestByGoingOn 112 = .ok (.aload 5, 2) := by decide +kernel
theorem dX6_bestByGoingOn_114 : decode cX6_bestByGoingOn 114 = .ok (.areturn, 1) := by decide +kernel
theorem dX6_bestByTrying_0 : decode cX6_bestByTrying 0 = .ok (.new 203, 3) := by decide +kernel
theorem dX6_bestByTrying_3 : decode cX6_bestByTrying 3 = .ok (.dup, 1) := by decide +kernel
theorem dX6_bestByTrying_4 : decode cX6_bestByTrying 4 = .ok (.invokespecial 341, 3) := by decide +kernel
theorem dX6_bestByTrying_7 : decode cX6_bestByTrying 7 = .ok (.astore 5, 2) := by decide +kernel
theorem dX6_bestByTrying_9 : decode cX6_bestByTrying 9 = .ok (.new 118, 3) := by decide +kernel
theorem dX6_bestByTrying_12 : decode cX6_bestByTrying 12 = .ok (.dup, 1) := by decide +kernel
theorem dX6_bestByTrying_13 : decode cX6_bestByTrying 13 = .ok (.aload_n 1, 1) := by decide +kernel
theorem dX6_bestByTrying_14 : decode cX6_bestByTrying 14 = .ok (.aload_n 0, 1) := by decide +kernel
theorem dX6_bestByTrying_15 : decode cX6_bestByTrying 15 = .ok (.getfield 29, 3) := by decide +kernel
theorem dX6_bestByTrying_18 : decode cX6_bestByTrying 18 = .ok (.invokespecial 120, 3) := by decide +kernel
theorem dX6_bestByTrying_21 : decode cX6_bestByTrying 21 = .ok (.astore 6, 2) := by decide +kernel
theorem dX6_bestByTrying_23 : decode cX6_bestByTrying 23 = .ok (.new 118, 3) := by decide +kernel
theorem dX6_bestByTrying_26 : decode cX6_bestByTrying 26 = .ok (.dup, 1) := by decide +kernel
theorem dX6_bestByTrying_27 : decode cX6_bestByTrying 27 = .ok (.aload_n 2, 1) := by decide +kernel
theorem dX6_bestByTrying_28 : decode cX6_bestByTrying 28 = .ok (.aload_n 0, 1) := by decide +kernel
theorem dX6_bestByTrying_29 : decode cX6_bestByTrying 29 = .ok (.getfield 29, 3) := by decide +kernel
theorem dX6_bestByTrying_32 : decode cX6_bestByTrying 32 = .ok (.invokespecial 120, 3) := by decide +kernel
theorem dX6_bestByTrying_35 : decode cX6_bestByTrying 35 = .ok (.astore 7, 2) := by decide +kernel
theorem dX6_bestByTrying_37 : decode cX6_bestByTrying 37 = .ok (.aload_n 1, 1) := by decide +kernel
theorem dX6_bestByTrying_38 : decode cX6_bestByTrying 38 = .ok (.getfield 153, 3) := by decide +kernel
theorem dX6_bestByTrying_41 : decode cX6_bestByTrying 41 = .ok (.iload_n 3, 1) := by decide +kernel
theorem dX6_bestByTrying_42 : decode cX6_bestByTrying 42 = .ok (.invokestatic 346, 3) := by decide +kernel
theorem dX6_bestByTrying_45 : decode cX6_bestByTrying 45 = .ok (.istore 8, 2) := by decide +kernel
theorem dX6_bestByTrying_47 : decode cX6_bestByTrying 47 = .ok (.aload_n 2, 1) := by decide +kernel
theorem dX6_bestByTrying_48 : decode cX6_bestByTrying 48 = .ok (.iload_n 3, 1) := by decide +kernel
theorem dX6_bestByTrying_49 : decode cX6_bestByTrying 49 = .ok (.invokestatic 342, 3) := by decide +kernel
theorem dX6_bestByTrying_52 : decode cX6_bestByTrying 52 = .ok (.istore 9, 2) := by decide +kernel
theorem dX6_bestByTrying_54 : decode cX6_bestByTrying 54 = .ok (.iload 9, 2) := by decide +kernel
theorem dX6_bestByTrying_56 : decode cX6_bestByTrying 56 = .ok (.iload 8, 2) := by decide +kernel
theorem dX6_bestByTrying_58 : decode cX6_bestByTrying 58 = .ok (.if_icmp .gt 48, 3) := by decide +kernel
theorem dX6_bestByTrying_61 : decode cX6_bestByTrying 61 = .ok (.aload 6, 2) := by decide +kernel
theorem dX6_bestByTrying_63 : decode cX6_bestByTrying 63 = .ok (.invokevirtual 358, 3) := by decide +kernel
theorem dX6_bestByTrying_66 : decode cX6_bestByTrying 66 = .ok (.aload 7, 2) := by decide +kernel
theorem dX6_bestByTrying_68 : decode cX6_bestByTrying 68 = .ok (.invokevirtual 358, 3) := by decide +kernel
theorem dX6_bestByTrying_71 : decode cX6_bestByTrying 71 = .ok (.aload 6, 2) := by decide +kernel
theorem dX6_bestByTrying_73 : decode cX6_bestByTrying 73 = .ok (.iload 9, 2) := by decide +kernel
theorem dX6_bestByTrying_75 : decode cX6_bestByTrying 75 = .ok (.invokevirtual 123, 3) := by decide +kernel
theorem dX6_bestByTrying_78 : decode cX6_bestByTrying 78 = .ok (.aload 7, 2) := by decide +kernel
theorem dX6_bestByTrying_80 : decode cX6_bestByTrying 80 = .ok (.iload_n 3, 1) := by decide +kernel
theorem dX6_bestByTrying_81 : decode cX6_bestByTrying 81 = .ok (.iload 9, 2) := by decide +kernel
theorem dX6_bestByTrying_83 : decode cX6_bestByTrying 83 = .ok (.isub, 1) := by decide +kernel
theorem dX6_bestByTrying_84 : decode cX6_bestByTrying 84 = .ok (.invokevirtual 123, 3) := by decide +kernel
theorem dX6_bestByTrying_87 : decode cX6_bestByTrying 87 = .ok (.aload 5, 2) := by decide +kernel
theorem dX6_bestByTrying_89 : decode cX6_bestByTrying 89 = .ok (.iload 9, 2) := by decide +kernel
theorem dX6_bestByTrying_91 : decode cX6_bestByTrying 91 = .ok (.aload 6, 2) := by decide +kernel
theorem dX6_bestByTrying_93 : decode cX6_bestByTrying 93 = .ok (.aload 7, 2) := by decide +kernel
theorem dX6_bestByTrying_95 : decode cX6_bestByTrying 95 = .ok (.iload 4, 2) := by decide +kernel
theorem dX6_bestByTrying_97 : decode cX6_bestByTrying 97 = .ok (.invokevirtual 351, 3) := by decide +kernel
theorem dX6_bestByTrying_100 : decode cX6_bestByTrying 100 = .ok (.iinc 9 1, 3) := by decide +kernel
theorem dX6_bestByTrying_103 : decode cX6_bestByTrying 103 = .ok (.goto (-49), 3) := by decide +kernel
theorem dX6_bestByTrying_106 : decode cX6_bestByTrying 106 = .ok (.aload 5, 2) := by decide +kernel
theorem dX6_bestByTrying_108 : decode cX6_bestByTrying 108 = .ok (.areturn, 1) := by decide +kernel
theorem dX6_leastShare_0 : decode cX6_leastShare 0 = .ok (.iconst 0, 1) := by decide +kernel
theorem dX6_leastShare_1 : decode cX6_leastShare 1 = .ok (.iload_n 1, 1) := by decide +kernel
theorem dX6_leastShare_2 : decode cX6_leastShare 2 = .ok (.aload_n 0, 1) := by decide +kernel
theorem dX6_leastShare_3 : decode cX6_leastShare 3 = .ok (.getfield 153, 3) := by decide +kernel
theorem dX6_leastShare_6 : decode cX6_leastShare 6 = .ok (.isub, 1) := by decide +kernel
theorem dX6_leastShare_7 : decode cX6_leastShare 7 = .ok (.invokestatic 361, 3) := by decide +kernel
theorem dX6_leastShare_10 : decode cX6_leastShare 10 = .ok (.ireturn, 1) := by decide +kernel
theorem dX6_gradeOfBlend_0 : decode cX6_gradeOfBlend 0 = .ok (.new 118, 3) := by decide +kernel
theorem dX6_gradeOfBlend_3 : decode cX6_gradeOfBlend 3 = .ok (.dup, 1) := by decide +kernel
theorem dX6_gradeOfBlend_4 : decode cX6_gradeOfBlend 4 = .ok (.aload_n 1, 1) := by decide +kernel
theorem dX6_gradeOfBlend_5 : decode cX6_gradeOfBlend 5 = .ok (.aload_n 0, 1) := by decide +kernel
theorem dX6_gradeOfBlend_6 : decode cX6_gradeOfBlend 6 = .ok (.getfield 29, 3) := by decide +kernel
theorem dX6_gradeOfBlend_9 : decode cX6_gradeOfBlend 9 = .ok (.invokespecial 120, 3) := by decide +kernel
theorem dX6_gradeOfBlend_12 : decode cX6_gradeOfBlend 12 = .ok (.astore 5, 2) := by decide +kernel
theorem dX6_gradeOfBlend_14 : decode cX6_gradeOfBlend 14 = .ok (.new 118, 3) := by decide +kernel
theorem dX6_gradeOfBlend_17 : decode cX6_gradeOfBlend 17 = .ok (.dup, 1) := by decide +kernel
theorem dX6_gradeOfBlend_18 : decode cX6_gradeOfBlend 18 = .ok (.aload_n 2, 1) := by decide +kernel
theorem dX6_gradeOfBlend_19 : decode cX6_gradeOfBlend 19 = .ok (.aload_n 0, 1) := by decide +kernel
theorem dX6_gradeOfBlend_20 : decode cX6_gradeOfBlend 20 = .ok (.getfield 29, 3) := by decide +kernel
theorem dX6_gradeOfBlend_23 : decode cX6_gradeOfBlend 23 = .ok (.invokespecial 120, 3) := by decide +kernel
theorem dX6_gradeOfBlend_26 : decode cX6_gradeOfBlend 26 = .ok (.astore 6, 2) := by decide +kernel
theorem dX6_gradeOfBlend_28 : decode cX6_gradeOfBlend 28 = .ok (.aload 5, 2) := by decide +kernel
theorem dX6_gradeOfBlend_30 : decode cX6_gradeOfBlend 30 = .ok (.iload_n 3, 1) := by decide +kernel
theorem dX6_gradeOfBlend_31 : decode cX6_gradeOfBlend 31 = .ok (.invokevirtual 123, 3) := by decide +kernel
theorem dX6_gradeOfBlend_34 : decode cX6_gradeOfBlend 34 = .ok (.aload 6, 2) := by decide +kernel
theorem dX6_gradeOfBlend_36 : decode cX6_gradeOfBlend 36 = .ok (.iload 4, 2) := by decide +kernel
theorem dX6_gradeOfBlend_38 : decode cX6_gradeOfBlend 38 = .ok (.invokevirtual 123, 3) := by decide +kernel
theorem dX6_gradeOfBlend_41 : decode cX6_gradeOfBlend 41 = .ok (.iload_n 3, 1) := by decide +kernel
theorem dX6_gradeOfBlend_42 : decode cX6_gradeOfBlend 42 = .ok (.iload 4, 2) := by decide +kernel
theorem dX6_gradeOfBlend_44 : decode cX6_gradeOfBlend 44 = .ok (.iadd, 1) := by decide +kernel
theorem dX6_gradeOfBlend_45 : decode cX6_gradeOfBlend 45 = .ok (.istore 7, 2) := by decide +kernel
theorem dX6_gradeOfBlend_47 : decode cX6_gradeOfBlend 47 = .ok (.aload 5, 2) := by decide +kernel
theorem dX6_gradeOfBlend_49 : decode cX6_gradeOfBlend 49 = .ok (.getfield 186, 3) := by decide +kernel
theorem dX6_gradeOfBlend_52 : decode cX6_gradeOfBlend 52 = .ok (.aload 6, 2) := by decide +kernel
theorem dX6_gradeOfBlend_54 : decode cX6_gradeOfBlend 54 = .ok (.getfield 186, 3) := by decide +kernel
theorem dX6_gradeOfBlend_57 : decode cX6_gradeOfBlend 57 = .ok (.iadd, 1) := by decide +kernel
theorem dX6_gradeOfBlend_58 : decode cX6_gradeOfBlend 58 = .ok (.iload 7, 2) := by decide +kernel
theorem dX6_gradeOfBlend_60 : decode cX6_gradeOfBlend 60 = .ok (.invokestatic 364, 3) := by decide +kernel
theorem dX6_gradeOfBlend_63 : decode cX6_gradeOfBlend 63 = .ok (.istore 8, 2) := by decide +kernel
theorem dX6_gradeOfBlend_65 : decode cX6_gradeOfBlend 65 = .ok (.aload 5, 2) := by decide +kernel
theorem dX6_gradeOfBlend_67 : decode cX6_gradeOfBlend 67 = .ok (.getfield 367, 3) := by decide +kernel
theorem dX6_gradeOfBlend_70 : decode cX6_gradeOfBlend 70 = .ok (.aload 6, 2) := by decide +kernel
theorem dX6_gradeOfBlend_72 : decode cX6_gradeOfBlend 72 = .ok (.getfield 367, 3) := by decide +kernel
theorem dX6_gradeOfBlend_75 : decode cX6_gradeOfBlend 75 = .ok (.iadd, 1) := by decide +kernel
theorem dX6_gradeOfBlend_76 : decode cX6_gradeOfBlend 76 = .ok (.iload 7, 2) := by decide +kernel
theorem dX6_gradeOfBlend_78 : decode cX6_gradeOfBlend 78 = .ok (.invokestatic 364, 3) := by decide +kernel
theorem dX6_gradeOfBlend_81 : decode cX6_gradeOfBlend 81 = .ok (.istore 9, 2) := by decide +kernel
theorem dX6_gradeOfBlend_83 : decode cX6_gradeOfBlend 83 = .ok (.aload_n 0, 1) := by decide +kernel
theorem dX6_gradeOfBlend_84 : decode cX6_gradeOfBlend 84 = .ok (.getfield 25, 3) := by decide +kernel
theorem dX6_gradeOfBlend_87 : decode cX6_gradeOfBlend 87 = .ok (.iload 8, 2) := by decide +kernel
theorem dX6_gradeOfBlend_89 : decode cX6_gradeOfBlend 89 = .ok (.iload 9, 2) := by decide +kernel
theorem dX6_gradeOfBlend_91 : decode cX6_gradeOfBlend 91 = .ok (.invokevirtual 94, 3) := by decide +kernel
theorem dX6_gradeOfBlend_94 : decode cX6_gradeOfBlend 94 = .ok (.ireturn, 1) := by decide +kernel
theorem dX6_dividedUp_0 : decode cX6_dividedUp 0 = .ok (.iload_n 1, 1) := by decide +kernel
theorem dX6_dividedUp_1 : decode cX6_dividedUp 1 = .ok (.iconst 1, 1) := by decide +kernel
theorem dX6_dividedUp_2 : decode cX6_dividedUp 2 = .ok (.if_icmp .ge 7, 3) := by decide +kernel
theorem dX6_dividedUp_5 : decode cX6_dividedUp 5 = .ok (.iconst 0, 1) := by decide +kernel
theorem dX6_dividedUp_6 : decode cX6_dividedUp 6 = .ok (.goto 10, 3) := by decide +kernel
theorem dX6_dividedUp_9 : decode cX6_dividedUp 9 = .ok (.iload_n 0, 1) := by decide +kernel
theorem dX6_dividedUp_10 : decode cX6_dividedUp 10 = .ok (.iload_n 1, 1) := by decide +kernel
theorem dX6_dividedUp_11 : decode cX6_dividedUp 11 = .ok (.iadd, 1) := by decide +kernel
theorem dX6_dividedUp_12 : decode cX6_dividedUp 12 = .ok (.iconst 1, 1) := by decide +kernel
theorem dX6_dividedUp_13 : decode cX6_dividedUp 13 = .ok (.isub, 1) := by decide +kernel
theorem dX6_dividedUp_14 : decode cX6_dividedUp 14 = .ok (.iload_n 1, 1) := by decide +kernel
theorem dX6_dividedUp_15 : decode cX6_dividedUp 15 = .ok (.idiv, 1) := by decide +kernel
theorem dX6_dividedUp_16 : decode cX6_dividedUp 16 = .ok (.ireturn, 1) := by decide +kernel
theorem dX7_init_0 : decode cX7_init 0 = .ok (.aload_n 0, 1) := by decide +kernel
theorem dX7_init_1 : decode cX7_init 1 = .ok (.invokespecial 1, 3) := by decide +kernel
theorem dX7_init_4 : decode cX7_init 4 = .ok (.aload_n 0, 1) := by decide +kernel
theorem dX7_init_5 : decode cX7_init 5 = .ok (.bipush 6, 2) := by decide +kernel
theorem dX7_init_7 : decode cX7_init 7 = .ok (.newarray .int, 2) := by decide +kernel
theorem dX7_init_9 : decode cX7_init 9 = .ok (.putfield 9, 3) := by decide +kernel
theorem dX7_init_12 : decode cX7_init 12 = .ok (.aload_n 0, 1) := by decide +kernel
theorem dX7_init_13 : decode cX7_init 13 = .ok (.bipush 6, 2) := by decide +kernel
theorem dX7_init_15 : decode cX7_init 15 = .ok (.newarray .int, 2) := by decide +kernel
theorem dX7_init_17 : decode cX7_init 17 = .ok (.putfield 13, 3) := by decide +kernel
theorem dX7_init_20 : decode cX7_init 20 = .ok (.aload_n 0, 1) := by decide +kernel
theorem dX7_init_21 : decode cX7_init 21 = .ok (.bipush 24, 2) := by decide +kernel
theorem dX7_init_23 : decode cX7_init 23 = .ok (.newarray .int, 2) := by decide +kernel
theorem dX7_init_25 : decode cX7_init 25 = .ok (.putfield 16, 3) := by decide +kernel
theorem dX7_init_28 : decode cX7_init 28 = .ok (.aload_n 0, 1) := by decide +kernel
theorem dX7_init_29 : decode cX7_init 29 = .ok (.iconst 4, 1) := by decide +kernel
theorem dX7_init_30 : decode cX7_init 30 = .ok (.newarray .int, 2) := by decide +kernel
theorem dX7_init_32 : decode cX7_init 32 = .ok (.dup, 1) := by decide +kernel
theorem dX7_init_33 : decode cX7_init 33 = .ok (.iconst 0, 1) := by decide +kernel
theorem dX7_init_34 : decode cX7_init 34 = .ok (.sipush 500, 3) := by decide +kernel
theorem dX7_init_37 : decode cX7_init 37 = .ok (.iastore, 1) := by decide +kernel
theorem dX7_init_38 : decode cX7_init 38 = .ok (.dup, 1) := by decide +kernel
theorem dX7_init_39 : decode cX7_init 39 = .ok (.iconst 1, 1) := by decide +kernel
theorem dX7_init_40 : decode cX7_init 40 = .ok (.sipush 480, 3) := by decide +kernel
theorem dX7_init_43 : decode cX7_init 43 = .ok (.iastore, 1) := by decide +kernel
theorem dX7_init_44 : decode cX7_init 44 = .ok (.dup, 1) := by decide +kernel
theorem dX7_init_45 : decode cX7_init 45 = .ok (.iconst 2, 1) := by decide +kernel
theorem dX7_init_46 : decode cX7_init 46 = .ok (.sipush 450, 3) := by decide +kernel
theorem dX7_init_49 : decode cX7_init 49 = .ok (.iastore, 1) := by decide +kernel
theorem dX7_init_50 : decode cX7_init 50 = .ok (.dup, 1) := by decide +kernel
theorem dX7_init_51 : decode cX7_init 51 = .ok (.iconst 3, 1) := by decide +kernel
theorem dX7_init_52 : decode cX7_init 52 = .ok (.sipush 380, 3) := by decide +kernel
theorem dX7_init_55 : decode cX7_init 55 = .ok (.iastore, 1) := by decide +kernel
theorem dX7_init_56 : decode cX7_init 56 = .ok (.putfield 19, 3) := by decide +kernel
theorem dX7_init_59 : decode cX7_init 59 = .ok (.aload_n 0, 1) := by decide +kernel
theorem dX7_init_60 : decode cX7_init 60 = .ok (.sipush 540, 3) := by decide +kernel
theorem dX7_init_63 : decode cX7_init 63 = .ok (.newarray .int, 2) := by decide +kernel
theorem dX7_init_65 : decode cX7_init 65 = .ok (.putfield 22, 3) := by decide +kernel
theorem dX7_init_68 : decode cX7_init 68 = .ok (.aload_n 0, 1) := by decide +kernel
theorem dX7_init_69 : decode cX7_init 69 = .ok (.sipush 540, 3) := by decide +kernel
theorem dX7_init_72 : decode cX7_init 72 = .ok (.newarray .int, 2) := by decide +kernel
theorem dX7_init_74 : decode cX7_init 74 = .ok (.putfield 25, 3) := by decide +kernel
theorem dX7_init_77 : decode cX7_init 77 = .ok (.aload_n 0, 1) := by decide +kernel
theorem dX7_init_78 : decode cX7_init 78 = .ok (.sipush 540, 3) := by decide +kernel
theorem dX7_init_81 : decode cX7_init 81 = .ok (.newarray .int, 2) := by decide +kernel
theorem dX7_init_83 : decode cX7_init 83 = .ok (.putfield 28, 3) := by decide +kernel
theorem dX7_init_86 : decode cX7_init 86 = .ok (.aload_n 0, 1) := by decide +kernel
theorem dX7_init_87 : decode cX7_init 87 = .ok (.sipush 540, 3) := by decide +kernel
theorem dX7_init_90 : decode cX7_init 90 = .ok (.newarray .int, 2) := by decide +kernel
theorem dX7_init_92 : decode cX7_init 92 = .ok (.putfield 31, 3) := by decide +kernel
theorem dX7_init_95 : decode cX7_init 95 = .ok (.aload_n 0, 1) := by decide +kernel
theorem dX7_init_96 : decode cX7_init 96 = .ok (.bipush 80, 2) := by decide +kernel
theorem dX7_init_98 : decode cX7_init 98 = .ok (.newarray .int, 2) := by decide +kernel
theorem dX7_init_100 : decode cX7_init 100 = .ok (.putfield 34, 3) := by decide +kernel
theorem dX7_init_103 : decode cX7_init 103 = .ok (.aload_n 0, 1) := by decide +kernel
theorem dX7_init_104 : decode cX7_init 104 = .ok (.bipush 6, 2) := by decide +kernel
theorem dX7_init_106 : decode cX7_init 106 = .ok (.newarray .boolean, 2) := by decide +kernel
theorem dX7_init_108 : decode cX7_init 108 = .ok (.putfield 37, 3) := by decide +kernel
theorem dX7_init_111 : decode cX7_init 111 = .ok (.aload_n 0, 1) := by decide +kernel
theorem dX7_init_112 : decode cX7_init 112 = .ok (.bipush 80, 2) := by decide +kernel
theorem dX7_init_114 : decode cX7_init 114 = .ok (.newarray .char, 2) := by decide +kernel
theorem dX7_init_116 : decode cX7_init 116 = .ok (.putfield 41, 3) := by decide +kernel
theorem dX7_init_119 : decode cX7_init 119 = .ok (.aload_n 0, 1) := by decide +kernel
theorem dX7_init_120 : decode cX7_init 120 = .ok (.sipush 1600, 3) := by decide +kernel
theorem dX7_init_123 : decode cX7_init 123 = .ok (.newarray .char, 2) := by decide +kernel
theorem dX7_init_125 : decode cX7_init 125 = .ok (.putfield 45, 3) := by decide +kernel
theorem dX7_init_128 : decode cX7_init 128 = .ok (.aload_n 0, 1) := by decide +kernel
theorem dX7_init_129 : decode cX7_init 129 = .ok (.sipush 500, 3) := by decide +kernel
theorem dX7_init_132 : decode cX7_init 132 = .ok (.putfield 48, 3) := by decide +kernel
theorem dX7_init_135 : decode cX7_init 135 = .ok (.iconst 0, 1) := by decide +kernel
theorem dX7_init_136 : decode cX7_init 136 = .ok (.istore_n 1, 1) := by decide +kernel
theorem dX7_init_137 : decode cX7_init 137 = .ok (.iload_n 1, 1) := by decide +kernel
theorem dX7_init_138 : decode cX7_init 138 = .ok (.iconst 4, 1) := by decide +kernel
theorem dX7_init_139 : decode cX7_init 139 = .ok (.if_icmp .ge 88, 3) := by decide +kernel
theorem dX7_init_142 : decode cX7_init 142 = .ok (.aload_n 0, 1) := by decide +kernel
theorem dX7_init_143 : decode cX7_init 143 = .ok (.getfield 16, 3) := by decide +kernel
theorem dX7_init_146 : decode cX7_init 146 = .ok (.bipush 6, 2) := by decide +kernel
theorem dX7_init_148 : decode cX7_init 148 = .ok (.iload_n 1, 1) := by decide +kernel
theorem dX7_init_149 : decode cX7_init 149 = .ok (.imul, 1) := by decide +kernel
theorem dX7_init_150 : decode cX7_init 150 = .ok (.sipush 140, 3) := by decide +kernel
theorem dX7_init_153 : decode cX7_init 153 = .ok (.iastore, 1) := by decide +kernel
theorem dX7_init_154 : decode cX7_init 154 = .ok (.aload_n 0, 1) := by decide +kernel
theorem dX7_init_155 : decode cX7_init 155 = .ok (.getfield 16, 3) := by decide +kernel
theorem dX7_init_158 : decode cX7_init 158 = .ok (.bipush 6, 2) := by decide +kernel
theorem dX7_init_160 : decode cX7_init 160 = .ok (.iload_n 1, 1) := by decide +kernel
theorem dX7_init_161 : decode cX7_init 161 = .ok (.imul, 1) := by decide +kernel
theorem dX7_init_162 : decode cX7_init 162 = .ok (.iconst 1, 1) := by decide +kernel
theorem dX7_init_163 : decode cX7_init 163 = .ok (.iadd, 1) := by decide +kernel
theorem dX7_init_164 : decode cX7_init 164 = .ok (.bipush 20, 2) := by decide +kernel
theorem dX7_init_166 : decode cX7_init 166 = .ok (.iastore, 1) := by decide +kernel
theorem dX7_init_167 : decode cX7_init 167 = .ok (.aload_n 0, 1) := by decide +kernel
theorem dX7_init_168 : decode cX7_init 168 = .ok (.getfield 16, 3) := by decide +kernel
theorem dX7_init_171 : decode cX7_init 171 = .ok (.bipush 6, 2) := by decide +kernel
theorem dX7_init_173 : decode cX7_init 173 = .ok (.iload_n 1, 1) := by decide +kernel
theorem dX7_init_174 : decode cX7_init 174 = .ok (.imul, 1) := by decide +kernel
theorem dX7_init_175 : decode cX7_init 175 = .ok (.iconst 2, 1) := by decide +kernel
theorem dX7_init_176 : decode cX7_init 176 = .ok (.iadd, 1) := by decide +kernel
theorem dX7_init_177 : decode cX7_init 177 = .ok (.sipush 155, 3) := by decide +kernel
theorem dX7_init_180 : decode cX7_init 180 = .ok (.iastore, 1) := by decide +kernel
theorem dX7_init_181 : decode cX7_init 181 = .ok (.aload_n 0, 1) := by decide +kernel
theorem dX7_init_182 : decode cX7_init 182 = .ok (.getfield 16, 3) := by decide +kernel
theorem dX7_init_185 : decode cX7_init 185 = .ok (.bipush 6, 2) := by decide +kernel
theorem dX7_init_187 : decode cX7_init 187 = .ok (.iload_n 1, 1) := by decide +kernel
theorem dX7_init_188 : decode cX7_init 188 = .ok (.imul, 1) := by decide +kernel
theorem dX7_init_189 : decode cX7_init 189 = .ok (.iconst 3, 1) := by decide +kernel
theorem dX7_init_190 : decode cX7_init 190 = .ok (.iadd, 1) := by decide +kernel
theorem dX7_init_191 : decode cX7_init 191 = .ok (.bipush 30, 2) := by decide +kernel
theorem dX7_init_193 : decode cX7_init 193 = .ok (.iastore, 1) := by decide +kernel
theorem dX7_init_194 : decode cX7_init 194 = .ok (.aload_n 0, 1) := by decide +kernel
theorem dX7_init_195 : decode cX7_init 195 = .ok (.getfield 16, 3) := by decide +kernel
theorem dX7_init_198 : decode cX7_init 198 = .ok (.bipush 6, 2) := by decide +kernel
theorem dX7_init_200 : decode cX7_init 200 = .ok (.iload_n 1, 1) := by decide +kernel
theorem dX7_init_201 : decode cX7_init 201 = .ok (.imul, 1) := by decide +kernel
theorem dX7_init_202 : decode cX7_init 202 = .ok (.iconst 4, 1) := by decide +kernel
theorem dX7_init_203 : decode cX7_init 203 = .ok (.iadd, 1) := by decide +kernel
theorem dX7_init_204 : decode cX7_init 204 = .ok (.sipush 175, 3) := by decide +kernel
theorem dX7_init_207 : decode cX7_init 207 = .ok (.iastore, 1) := by decide +kernel
theorem dX7_init_208 : decode cX7_init 208 = .ok (.aload_n 0, 1) := by decide +kernel
theorem dX7_init_209 : decode cX7_init 209 = .ok (.getfield 16, 3) := by decide +kernel
theorem dX7_init_212 : decode cX7_init 212 = .ok (.bipush 6, 2) := by decide +kernel
theorem dX7_init_214 : decode cX7_init 214 = .ok (.iload_n 1, 1) := by decide +kernel
theorem dX7_init_215 : decode cX7_init 215 = .ok (.imul, 1) := by decide +kernel
theorem dX7_init_216 : decode cX7_init 216 = .ok (.iconst 5, 1) := by decide +kernel
theorem dX7_init_217 : decode cX7_init 217 = .ok (.iadd, 1) := by decide +kernel
theorem dX7_init_218 : decode cX7_init 218 = .ok (.bipush 40, 2) := by decide +kernel
theorem dX7_init_220 : decode cX7_init 220 = .ok (.iastore, 1) := by decide +kernel
theorem dX7_init_221 : decode cX7_init 221 = .ok (.iinc 1 1, 3) := by decide +kernel
theorem dX7_init_224 : decode cX7_init 224 = .ok (.goto (-87), 3) := by decide +kernel
theorem dX7_init_227 : decode cX7_init 227 = .ok (.return_, 1) := by decide +kernel
theorem dX7_thrown_0 : decode cX7_thrown 0 = .ok (.aload_n 0, 1) := by decide +kernel
theorem dX7_thrown_1 : decode cX7_thrown 1 = .ok (.getfield 52, 3) := by decide +kernel
theorem dX7_thrown_4 : decode cX7_thrown 4 = .ok (.ireturn, 1) := by decide +kernel
theorem dX7_isIn_0 : decode cX7_isIn 0 = .ok (.iload_n 0, 1) := by decide +kernel
theorem dX7_isIn_1 : decode cX7_isIn 1 = .ok (.iload_n 1, 1) := by decide +kernel
theorem dX7_isIn_2 : decode cX7_isIn 2 = .ok (.if_icmp .lt 12, 3) := by decide +kernel
theorem dX7_isIn_5 : decode cX7_isIn 5 = .ok (.iload_n 0, 1) := by decide +kernel
theorem dX7_isIn_6 : decode cX7_isIn 6 = .ok (.iload_n 2, 1) := by decide +kernel
theorem dX7_isIn_7 : decode cX7_isIn 7 = .ok (.if_icmp .gt 7, 3) := by decide +kernel
theorem dX7_isIn_10 : decode cX7_isIn 10 = .ok (.iconst 1, 1) := by decide +kernel
theorem dX7_isIn_11 : decode cX7_isIn 11 = .ok (.goto 4, 3) := by decide +kernel
theorem dX7_isIn_14 : decode cX7_isIn 14 = .ok (.iconst 0, 1) := by decide +kernel
theorem dX7_isIn_15 : decode cX7_isIn 15 = .ok (.ireturn, 1) := by decide +kernel
theorem dX7_isThrown_0 : decode cX7_isThrown 0 = .ok (.aload_n 0, 1) := by decide +kernel
theorem dX7_isThrown_1 : decode cX7_isThrown 1 = .ok (.iload_n 1, 1) := by decide +kernel
theorem dX7_isThrown_2 : decode cX7_isThrown 2 = .ok (.ifCond .eq 7, 3) := by decide +kernel
theorem dX7_isThrown_5 : decode cX7_isThrown 5 = .ok (.iload_n 2, 1) := by decide +kernel
theorem dX7_isThrown_6 : decode cX7_isThrown 6 = .ok (.goto 4, 3) := by decide +kernel
theorem dX7_isThrown_9 : decode cX7_isThrown 9 = .ok (.iconst 0, 1) := by decide +kernel
theorem dX7_isThrown_10 : decode cX7_isThrown 10 = .ok (.putfield 52, 3) := by decide +kernel
theorem dX7_isThrown_13 : decode cX7_isThrown 13 = .ok (.iload_n 1, 1) := by decide +kernel
theorem dX7_isThrown_14 : decode cX7_isThrown 14 = .ok (.ireturn, 1) := by decide +kernel
theorem dX7_isNoBin_0 : decode cX7_isNoBin 0 = .ok (.aload_n 0, 1) := by decide +kernel
theorem dX7_isNoBin_1 : decode cX7_isNoBin 1 = .ok (.iload_n 1, 1) := by decide +kernel
theorem dX7_isNoBin_2 : decode cX7_isNoBin 2 = .ok (.iconst 0, 1) := by decide +kernel
theorem dX7_isNoBin_3 : decode cX7_isNoBin 3 = .ok (.aload_n 0, 1) := by decide +kernel
theorem dX7_isNoBin_4 : decode cX7_isNoBin 4 = .ok (.getfield 55, 3) := by decide +kernel
theorem dX7_isNoBin_7 : decode cX7_isNoBin 7 = .ok (.iconst 1, 1) := by decide +kernel
theorem dX7_isNoBin_8 : decode cX7_isNoBin 8 = .ok (.isub, 1) := by decide +kernel
theorem dX7_isNoBin_9 : decode cX7_isNoBin 9 = .ok (.invokestatic 58, 3) := by decide +kernel
theorem dX7_isNoBin_12 : decode cX7_isNoBin 12 = .ok (.ifCond .ne 7, 3) := by decide +kernel
theorem dX7_isNoBin_15 : decode cX7_isNoBin 15 = .ok (.iconst 1, 1) := by decide +kernel
theorem dX7_isNoBin_16 : decode cX7_isNoBin 16 = .ok (.goto 4, 3) := by decide +kernel
theorem dX7_isNoBin_19 : decode cX7_isNoBin 19 = .ok (.iconst 0, 1) := by decide +kernel
theorem dX7_isNoBin_20 : decode cX7_isNoBin 20 = .ok (.iconst 1, 1) := by decide +kernel
theorem dX7_isNoBin_21 : decode cX7_isNoBin 21 = .ok (.invokevirtual 62, 3) := by decide +kernel
theorem dX7_isNoBin_24 : decode cX7_isNoBin 24 = .ok (.ireturn, 1) := by decide +kernel
theorem dX7_isMoist_0 : decode cX7_isMoist 0 = .ok (.iload_n 0, 1) := by decide +kernel
theorem dX7_isMoist_1 : decode cX7_isMoist 1 = .ok (.bipush 80, 2) := by decide +kernel
theorem dX7_isMoist_3 : decode cX7_isMoist 3 = .ok (.sipush 300, 3) := by decide +kernel
theorem dX7_isMoist_6 : decode cX7_isMoist 6 = .ok (.invokestatic 58, 3) := by decide +kernel
theorem dX7_isMoist_9 : decode cX7_isMoist 9 = .ok (.ireturn, 1) := by decide +kernel
theorem dX7_addBin_0 : decode cX7_addBin 0 = .ok (.aload_n 0, 1) := by decide +kernel
theorem dX7_addBin_1 : decode cX7_addBin 1 = .ok (.iload_n 1, 1) := by decide +kernel
theorem dX7_addBin_2 : decode cX7_addBin 2 = .ok (.iconst 1, 1) := by decide +kernel
theorem dX7_addBin_3 : decode cX7_addBin 3 = .ok (.sipush 5000, 3) := by decide +kernel
theorem dX7_addBin_6 : decode cX7_addBin 6 = .ok (.invokestatic 58, 3) := by decide +kernel
theorem dX7_addBin_9 : decode cX7_addBin 9 = .ok (.ifCond .ne 7, 3) := by decide +kernel
theorem dX7_addBin_12 : decode cX7_addBin 12 = .ok (.iconst 1, 1) := by decide +kernel
theorem dX7_addBin_13 : decode cX7_addBin 13 = .ok (.goto 4, 3) := by decide +kernel
theorem dX7_addBin_16 : decode cX7_addBin 16 = .ok (.iconst 0, 1) := by decide +kernel
theorem dX7_addBin_17 : decode cX7_addBin 17 = .ok (.iconst 1, 1) := by decide +kernel
theorem dX7_addBin_18 : decode cX7_addBin 18 = .ok (.invokevirtual 62, 3) := by decide +kernel
theorem dX7_addBin_21 : decode cX7_addBin 21 = .ok (.ifCond .ne 25, 3) := by decide +kernel
theorem dX7_addBin_24 : decode cX7_addBin 24 = .ok (.aload_n 0, 1) := by decide +kernel
theorem dX7_addBin_25 : decode cX7_addBin 25 = .ok (.aload_n 0, 1) := by decide +kernel
theorem dX7_addBin_26 : decode cX7_addBin 26 = .ok (.getfield 55, 3) := by decide +kernel
theorem dX7_addBin_29 : decode cX7_addBin 29 = .ok (.bipush 6, 2) := by decide +kernel
theorem dX7_addBin_31 : decode cX7_addBin 31 = .ok (.if_icmp .ne 7, 3) := by decide +kernel
theorem dX7_addBin_34 : decode cX7_addBin 34 = .ok (.iconst 1, 1) := by decide +kernel
theorem dX7_addBin_35 : decode cX7_addBin 35 = .ok (.goto 4, 3) := by decide +kernel
theorem dX7_addBin_38 : decode cX7_addBin 38 = .ok (.iconst 0, 1) := by decide +kernel
theorem dX7_addBin_39 : decode cX7_addBin 39 = .ok (.iconst 2, 1) := by decide +kernel
theorem dX7_addBin_40 : decode cX7_addBin 40 = .ok (.invokevirtual 62, 3) := by decide +kernel
theorem dX7_addBin_43 : decode cX7_addBin 43 = .ok (.ifCond .eq 5, 3) := by decide +kernel
theorem dX7_addBin_46 : decode cX7_addBin 46 = .ok (.iconst 0, 1) := by decide +kernel
theorem dX7_addBin_47 : decode cX7_addBin 47 = .ok (.ireturn, 1) := by decide +kernel
theorem dX7_addBin_48 : decode cX7_addBin 48 = .ok (.aload_n 0, 1) := by decide +kernel
theorem dX7_addBin_49 : decode cX7_addBin 49 = .ok (.getfield 9, 3) := by decide +kernel
theorem dX7_addBin_52 : decode cX7_addBin 52 = .ok (.aload_n 0, 1) := by decide +kernel
theorem dX7_addBin_53 : decode cX7_addBin 53 = .ok (.getfield 55, 3) := by decide +kernel
theorem dX7_addBin_56 : decode cX7_addBin 56 = .ok (.iload_n 1, 1) := by decide +kernel
theorem dX7_addBin_57 : decode cX7_addBin 57 = .ok (.iastore, 1) := by decide +kernel
theorem dX7_addBin_58 : decode cX7_addBin 58 = .ok (.aload_n 0, 1) := by decide +kernel
theorem dX7_addBin_59 : decode cX7_addBin 59 = .ok (.getfield 37, 3) := by decide +kernel
theorem dX7_addBin_62 : decode cX7_addBin 62 = .ok (.aload_n 0, 1) := by decide +kernel
theorem dX7_addBin_63 : decode cX7_addBin 63 = .ok (.getfield 55, 3) := by decide +kernel
theorem dX7_addBin_66 : decode cX7_addBin 66 = .ok (.iload_n 2, 1) := by decide +kernel
theorem dX7_addBin_67 : decode cX7_addBin 67 = .ok (.bastore, 1) := by decide +kernel
theorem dX7_addBin_68 : decode cX7_addBin 68 = .ok (.aload_n 0, 1) := by decide +kernel
theorem dX7_addBin_69 : decode cX7_addBin 69 = .ok (.dup, 1) := by decide +kernel
theorem dX7_addBin_70 : decode cX7_addBin 70 = .ok (.getfield 55, 3) := by decide +kernel
theorem dX7_addBin_73 : decode cX7_addBin 73 = .ok (.iconst 1, 1) := by decide +kernel
theorem dX7_addBin_74 : decode cX7_addBin 74 = .ok (.iadd, 1) := by decide +kernel
theorem dX7_addBin_75 : decode cX7_addBin 75 = .ok (.putfield 55, 3) := by decide +kernel
theorem dX7_addBin_78 : decode cX7_addBin 78 = .ok (.aload_n 0, 1) := by decide +kernel
theorem dX7_addBin_79 : decode cX7_addBin 79 = .ok (.getfield 55, 3) := by decide +kernel
theorem dX7_addBin_82 : decode cX7_addBin 82 = .ok (.iconst 1, 1) := by decide +kernel
theorem dX7_addBin_83 : decode cX7_addBin 83 = .ok (.isub, 1) := by decide +kernel
theorem dX7_addBin_84 : decode cX7_addBin 84 = .ok (.ireturn, 1) := by decide +kernel
theorem dX7_binCount_0 : decode cX7_binCount 0 = .ok (.aload_n 0, 1) := by decide +kernel
theorem dX7_binCount_1 : decode cX7_binCount 1 = .ok (.iconst 0, 1) := by decide +kernel
theorem dX7_binCount_2 : decode cX7_binCount 2 = .ok (.putfield 52, 3) := by decide +kernel
theorem dX7_binCount_5 : decode cX7_binCount 5 = .ok (.aload_n 0, 1) := by decide +kernel
theorem dX7_binCount_6 : decode cX7_binCount 6 = .ok (.getfield 55, 3) := by decide +kernel
theorem dX7_binCount_9 : decode cX7_binCount 9 = .ok (.ireturn, 1) := by decide +kernel
theorem dX7_capacityOf_0 : decode cX7_capacityOf 0 = .ok (.aload_n 0, 1) := by decide +kernel
theorem dX7_capacityOf_1 : decode cX7_capacityOf 1 = .ok (.iload_n 1, 1) := by decide +kernel
theorem dX7_capacityOf_2 : decode cX7_capacityOf 2 = .ok (.invokevirtual 66, 3) := by decide +kernel
theorem dX7_capacityOf_5 : decode cX7_capacityOf 5 = .ok (.ifCond .eq 7, 3) := by decide +kernel
theorem dX7_capacityOf_8 : decode cX7_capacityOf 8 = .ok (.iconst 0, 1) := by decide +kernel
theorem dX7_capacityOf_9 : decode cX7_capacityOf 9 = .ok (.goto 9, 3) := by decide +kernel
theorem dX7_capacityOf_12 : decode cX7_capacityOf 12 = .ok (.aload_n 0, 1) := by decide +kernel
theorem dX7_capacityOf_13 : decode cX7_capacityOf 13 = .ok (.getfield 9, 3) := by decide +kernel
theorem dX7_capacityOf_16 : decode cX7_capacityOf 16 = .ok (.iload_n 1, 1) := by decide +kernel
theorem dX7_capacityOf_17 : decode cX7_capacityOf 17 = .ok (.iaload, 1) := by decide +kernel
theorem dX7_capacityOf_18 : decode cX7_capacityOf 18 = .ok (.ireturn, 1) := by decide +kernel
theorem dX7_setRule_0 : decode cX7_setRule 0 = .ok (.aload_n 0, 1) := by decide +kernel
theorem dX7_setRule_1 : decode cX7_setRule 1 = .ok (.iload_n 1, 1) := by decide +kernel
theorem dX7_setRule_2 : decode cX7_setRule 2 = .ok (.iconst 0, 1) := by decide +kernel
theorem dX7_setRule_3 : decode cX7_setRule 3 = .ok (.iconst 3, 1) := by decide +kernel
theorem dX7_setRule_4 : decode cX7_setRule 4 = .ok (.invokestatic 58, 3) := by decide +kernel
theorem dX7_setRule_7 : decode cX7_setRule 7 = .ok (.ifCond .eq 30, 3) := by decide +kernel
theorem dX7_setRule_10 : decode cX7_setRule 10 = .ok (.iload_n 2, 1) := by decide +kernel
theorem dX7_setRule_11 : decode cX7_setRule 11 = .ok (.iconst 1, 1) := by decide +kernel
theorem dX7_setRule_12 : decode cX7_setRule 12 = .ok (.iconst 3, 1) := by decide +kernel
theorem dX7_setRule_13 : decode cX7_setRule 13 = .ok (.invokestatic 58, 3) := by decide +kernel
theorem dX7_setRule_16 : decode cX7_setRule 16 = .ok (.ifCond .eq 21, 3) := by decide +kernel
theorem dX7_setRule_19 : decode cX7_setRule 19 = .ok (.iload_n 3, 1) := by decide +kernel
theorem dX7_setRule_20 : decode cX7_setRule 20 = .ok (.invokestatic 70, 3) := by decide +kernel
theorem dX7_setRule_23 : decode cX7_setRule 23 = .ok (.ifCond .eq 14, 3) := by decide +kernel
theorem dX7_setRule_26 : decode cX7_setRule 26 = .ok (.iload 4, 2) := by decide +kernel
theorem dX7_setRule_28 : decode cX7_setRule 28 = .ok (.iconst 0, 1) := by decide +kernel
theorem dX7_setRule_29 : decode cX7_setRule 29 = .ok (.bipush 100, 2) := by decide +kernel
theorem dX7_setRule_31 : decode cX7_setRule 31 = .ok (.invokestatic 58, 3) := by decide +kernel
theorem dX7_setRule_34 : decode cX7_setRule 34 = .ok (.ifCond .ne 7, 3) := by decide +kernel
theorem dX7_setRule_37 : decode cX7_setRule 37 = .ok (.iconst 1, 1) := by decide +kernel
theorem dX7_setRule_38 : decode cX7_setRule 38 = .ok (.goto 4, 3) := by decide +kernel
theorem dX7_setRule_41 : decode cX7_setRule 41 = .ok (.iconst 0, 1) := by decide +kernel
theorem dX7_setRule_42 : decode cX7_setRule 42 = .ok (.iconst 1, 1) := by decide +kernel
theorem dX7_setRule_43 : decode cX7_setRule 43 = .ok (.invokevirtual 62, 3) := by decide +kernel
theorem dX7_setRule_46 : decode cX7_setRule 46 = .ok (.ifCond .eq 5, 3) := by decide +kernel
theorem dX7_setRule_49 : decode cX7_setRule 49 = .ok (.iconst 0, 1) := by decide +kernel
theorem dX7_setRule_50 : decode cX7_setRule 50 = .ok (.ireturn, 1) := by decide +kernel
theorem dX7_setRule_51 : decode cX7_setRule 51 = .ok (.bipush 6, 2) := by decide +kernel
theorem dX7_setRule_53 : decode cX7_setRule 53 = .ok (.iload_n 1, 1) := by decide +kernel
theorem dX7_setRule_54 : decode cX7_setRule 54 = .ok (.imul, 1) := by decide +kernel
theorem dX7_setRule_55 : decode cX7_setRule 55 = .ok (.iconst 2, 1) := by decide +kernel
theorem dX7_setRule_56 : decode cX7_setRule 56 = .ok (.iload_n 2, 1) := by decide +kernel
theorem dX7_setRule_57 : decode cX7_setRule 57 = .ok (.imul, 1) := by decide +kernel
theorem dX7_setRule_58 : decode cX7_setRule 58 = .ok (.iadd, 1) := by decide +kernel
theorem dX7_setRule_59 : decode cX7_setRule 59 = .ok (.iconst 2, 1) := by decide +kernel
theorem dX7_setRule_60 : decode cX7_setRule 60 = .ok (.isub, 1) := by decide +kernel
theorem dX7_setRule_61 : decode cX7_setRule 61 = .ok (.istore 5, 2) := by decide +kernel
theorem dX7_setRule_63 : decode cX7_setRule 63 = .ok (.aload_n 0, 1) := by decide +kernel
theorem dX7_setRule_64 : decode cX7_setRule 64 = .ok (.getfield 16, 3) := by decide +kernel
theorem dX7_setRule_67 : decode cX7_setRule 67 = .ok (.iload 5, 2) := by decide +kernel
theorem dX7_setRule_69 : decode cX7_setRule 69 = .ok (.iaload, 1) := by decide +kernel
theorem dX7_setRule_70 : decode cX7_setRule 70 = .ok (.istore 6, 2) := by decide +kernel
theorem dX7_setRule_72 : decode cX7_setRule 72 = .ok (.aload_n 0, 1) := by decide +kernel
theorem dX7_setRule_73 : decode cX7_setRule 73 = .ok (.getfield 16, 3) := by decide +kernel
theorem dX7_setRule_76 : decode cX7_setRule 76 = .ok (.iload 5, 2) := by decide +kernel
theorem dX7_setRule_78 : decode cX7_setRule 78 = .ok (.iload_n 3, 1) := by decide +kernel
theorem dX7_setRule_79 : decode cX7_setRule 79 = .ok (.iastore, 1) := by decide +kernel
theorem dX7_setRule_80 : decode cX7_setRule 80 = .ok (.aload_n 0, 1) := by decide +kernel
theorem dX7_setRule_81 : decode cX7_setRule 81 = .ok (.getfield 16, 3) := by decide +kernel
theorem dX7_setRule_84 : decode cX7_setRule 84 = .ok (.iload 5, 2) := by decide +kernel
theorem dX7_setRule_86 : decode cX7_setRule 86 = .ok (.iconst 1, 1) := by decide +kernel
theorem dX7_setRule_87 : decode cX7_setRule 87 = .ok (.iadd, 1) := by decide +kernel
theorem dX7_setRule_88 : decode cX7_setRule 88 = .ok (.iload 4, 2) := by decide +kernel
theorem dX7_setRule_90 : decode cX7_setRule 90 = .ok (.iastore, 1) := by decide +kernel
theorem dX7_setRule_91 : decode cX7_setRule 91 = .ok (.iload 6, 2) := by decide +kernel
theorem dX7_setRule_93 : decode cX7_setRule 93 = .ok (.ireturn, 1) := by decide +kernel
theorem dX7_setSeason_0 : decode cX7_setSeason 0 = .ok (.aload_n 0, 1) := by decide +kernel
theorem dX7_setSeason_1 : decode cX7_setSeason 1 = .ok (.iload_n 1, 1) := by decide +kernel
theorem dX7_setSeason_2 : decode cX7_setSeason 2 = .ok (.iconst 0, 1) := by decide +kernel
theorem dX7_setSeason_3 : decode cX7_setSeason 3 = .ok (.iconst 3, 1) := by decide +kernel
theorem dX7_setSeason_4 : decode cX7_setSeason 4 = .ok (.invokestatic 58, 3) := by decide +kernel
theorem dX7_setSeason_7 : decode cX7_setSeason 7 = .ok (.ifCond .ne 7, 3) := by decide +kernel
theorem dX7_setSeason_10 : decode cX7_setSeason 10 = .ok (.iconst 1, 1) := by decide +kernel
theorem dX7_setSeason_11 : decode cX7_setSeason 11 = .ok (.goto 4, 3) := by decide +kernel
theorem dX7_setSeason_14 : decode cX7_setSeason 14 = .ok (.iconst 0, 1) := by decide +kernel
theorem dX7_setSeason_15 : decode cX7_setSeason 15 = .ok (.iconst 1, 1) := by decide +kernel
theorem dX7_setSeason_16 : decode cX7_setSeason 16 = .ok (.invokevirtual 62, 3) := by decide +kernel
theorem dX7_setSeason_19 : decode cX7_setSeason 19 = .ok (.ifCond .eq 5, 3) := by decide +kernel
theorem dX7_setSeason_22 : decode cX7_setSeason 22 = .ok (.iconst 0, 1) := by decide +kernel
theorem dX7_setSeason_23 : decode cX7_setSeason 23 = .ok (.ireturn, 1) := by decide +kernel
theorem dX7_setSeason_24 : decode cX7_setSeason 24 = .ok (.aload_n 0, 1) := by decide +kernel
theorem dX7_setSeason_25 : decode cX7_setSeason 25 = .ok (.getfield 73, 3) := by decide +kernel
theorem dX7_setSeason_28 : decode cX7_setSeason 28 = .ok (.istore_n 2, 1) := by decide +kernel
theorem dX7_setSeason_29 : decode cX7_setSeason 29 = .ok (.aload_n 0, 1) := by decide +kernel
theorem dX7_setSeason_30 : decode cX7_setSeason 30 = .ok (.iload_n 1, 1) := by decide +kernel
theorem dX7_setSeason_31 : decode cX7_setSeason 31 = .ok (.putfield 73, 3) := by decide +kernel
theorem dX7_setSeason_34 : decode cX7_setSeason 34 = .ok (.iload_n 2, 1) := by decide +kernel
theorem dX7_setSeason_35 : decode cX7_setSeason 35 = .ok (.ireturn, 1) := by decide +kernel
theorem dX7_graded_0 : decode cX7_graded 0 = .ok (.iconst 4, 1) := by decide +kernel
theorem dX7_graded_1 : decode cX7_graded 1 = .ok (.istore_n 3, 1) := by decide +kernel
theorem dX7_graded_2 : decode cX7_graded 2 = .ok (.iconst 3, 1) := by decide +kernel
theorem dX7_graded_3 : decode cX7_graded 3 = .ok (.istore 4, 2) := by decide +kernel
theorem dX7_graded_5 : decode cX7_graded 5 = .ok (.iload 4, 2) := by decide +kernel
theorem dX7_graded_7 : decode cX7_graded 7 = .ok (.iconst 1, 1) := by decide +kernel
theorem dX7_graded_8 : decode cX7_graded 8 = .ok (.if_icmp .lt 56, 3) := by decide +kernel
theorem dX7_graded_11 : decode cX7_graded 11 = .ok (.bipush 6, 2) := by decide +kernel
theorem dX7_graded_13 : decode cX7_graded 13 = .ok (.aload_n 0, 1) := by decide +kernel
theorem dX7_graded_14 : decode cX7_graded 14 = .ok (.getfield 73, 3) := by decide +kernel
theorem dX7_graded_17 : decode cX7_graded 17 = .ok (.imul, 1) := by decide +kernel
theorem dX7_graded_18 : decode cX7_graded 18 = .ok (.iconst 2, 1) := by decide +kernel
theorem dX7_graded_19 : decode cX7_graded 19 = .ok (.iload 4, 2) := by decide +kernel
theorem dX7_graded_21 : decode cX7_graded 21 = .ok (.imul, 1) := by decide +kernel
theorem dX7_graded_22 : decode cX7_graded 22 = .ok (.iadd, 1) := by decide +kernel
theorem dX7_graded_23 : decode cX7_graded 23 = .ok (.iconst 2, 1) := by decide +kernel
theorem dX7_graded_24 : decode cX7_graded 24 = .ok (.isub, 1) := by decide +kernel
theorem dX7_graded_25 : decode cX7_graded 25 = .ok (.istore 5, 2) := by decide +kernel
theorem dX7_graded_27 : decode cX7_graded 27 = .ok (.iload_n 1, 1) := by decide +kernel
theorem dX7_graded_28 : decode cX7_graded 28 = .ok (.aload_n 0, 1) := by decide +kernel
theorem dX7_graded_29 : decode cX7_graded 29 = .ok (.getfield 16, 3) := by decide +kernel
theorem dX7_graded_32 : decode cX7_graded 32 = .ok (.iload 5, 2) := by decide +kernel
theorem dX7_graded_34 : decode cX7_graded 34 = .ok (.iaload, 1) := by decide +kernel
theorem dX7_graded_35 : decode cX7_graded 35 = .ok (.if_icmp .gt 21, 3) := by decide +kernel
theorem dX7_graded_38 : decode cX7_graded 38 = .ok (.iload_n 2, 1) := by decide +kernel
theorem dX7_graded_39 : decode cX7_graded 39 = .ok (.aload_n 0, 1) := by decide +kernel
theorem dX7_graded_40 : decode cX7_graded 40 = .ok (.getfield 16, 3) := by decide +kernel
theorem dX7_graded_43 : decode cX7_graded 43 = .ok (.iload 5, 2) := by decide +kernel
theorem dX7_graded_45 : decode cX7_graded 45 = .ok (.iconst 1, 1) := by decide +kernel
theorem dX7_graded_46 : decode cX7_graded 46 = .ok (.iadd, 1) := by decide +kernel
theorem dX7_graded_47 : decode cX7_graded 47 = .ok (.iaload, 1) := by decide +kernel
theorem dX7_graded_48 : decode cX7_graded 48 = .ok (.if_icmp .gt 8, 3) := by decide +kernel
theorem dX7_graded_51 : decode cX7_graded 51 = .ok (.iload 4, 2) := by decide +kernel
theorem dX7_graded_53 : decode cX7_graded 53 = .ok (.goto 4, 3) := by decide +kernel
theorem dX7_graded_56 : decode cX7_graded 56 = .ok (.iload_n 3, 1) := by decide +kernel
theorem dX7_graded_57 : decode cX7_graded 57 = .ok (.istore_n 3, 1) := by decide +kernel
theorem dX7_graded_58 : decode cX7_graded 58 = .ok (.iinc 4 (-1), 3) := by decide +kernel
theorem dX7_graded_61 : decode cX7_graded 61 = .ok (.goto (-56), 3) := by decide +kernel
theorem dX7_graded_64 : decode cX7_graded 64 = .ok (.iload_n 3, 1) := by decide +kernel
theorem dX7_graded_65 : decode cX7_graded 65 = .ok (.ireturn, 1) := by decide +kernel
theorem dX7_gradeFor_0 : decode cX7_gradeFor 0 = .ok (.aload_n 0, 1) := by decide +kernel
theorem dX7_gradeFor_1 : decode cX7_gradeFor 1 = .ok (.iload_n 1, 1) := by decide +kernel
theorem dX7_gradeFor_2 : decode cX7_gradeFor 2 = .ok (.invokestatic 70, 3) := by decide +kernel
theorem dX7_gradeFor_5 : decode cX7_gradeFor 5 = .ok (.ifCond .eq 13, 3) := by decide +kernel
theorem dX7_gradeFor_8 : decode cX7_gradeFor 8 = .ok (.iload_n 2, 1) := by decide +kernel
theorem dX7_gradeFor_9 : decode cX7_gradeFor 9 = .ok (.iconst 0, 1) := by decide +kernel
theorem dX7_gradeFor_10 : decode cX7_gradeFor 10 = .ok (.bipush 100, 2) := by decide +kernel
theorem dX7_gradeFor_12 : decode cX7_gradeFor 12 = .ok (.invokestatic 58, 3) := by decide +kernel
theorem dX7_gradeFor_15 : decode cX7_gradeFor 15 = .ok (.ifCond .ne 7, 3) := by decide +kernel
theorem dX7_gradeFor_18 : decode cX7_gradeFor 18 = .ok (.iconst 1, 1) := by decide +kernel
theorem dX7_gradeFor_19 : decode cX7_gradeFor 19 = .ok (.goto 4, 3) := by decide +kernel
theorem dX7_gradeFor_22 : decode cX7_gradeFor 22 = .ok (.iconst 0, 1) := by decide +kernel
theorem dX7_gradeFor_23 : decode cX7_gradeFor 23 = .ok (.iconst 1, 1) := by decide +kernel
theorem dX7_gradeFor_24 : decode cX7_gradeFor 24 = .ok (.invokevirtual 62, 3) := by decide +kernel
theorem dX7_gradeFor_27 : decode cX7_gradeFor 27 = .ok (.ifCond .eq 7, 3) := by decide +kernel
theorem dX7_gradeFor_30 : decode cX7_gradeFor 30 = .ok (.iconst 0, 1) := by decide +kernel
theorem dX7_gradeFor_31 : decode cX7_gradeFor 31 = .ok (.goto 9, 3) := by decide +kernel
theorem dX7_gradeFor_34 : decode cX7_gradeFor 34 = .ok (.aload_n 0, 1) := by decide +kernel
theorem dX7_gradeFor_35 : decode cX7_gradeFor 35 = .ok (.iload_n 1, 1) := by decide +kernel
theorem dX7_gradeFor_36 : decode cX7_gradeFor 36 = .ok (.iload_n 2, 1) := by decide +kernel
theorem dX7_gradeFor_37 : decode cX7_gradeFor 37 = .ok (.invokevirtual 76, 3) := by decide +kernel
theorem dX7_gradeFor_40 : decode cX7_gradeFor 40 = .ok (.ireturn, 1) := by decide +kernel
theorem dX7_setPrice_0 : decode cX7_setPrice 0 = .ok (.aload_n 0, 1) := by decide +kernel
theorem dX7_setPrice_1 : decode cX7_setPrice 1 = .ok (.iload_n 1, 1) := by decide +kernel
theorem dX7_setPrice_2 : decode cX7_setPrice 2 = .ok (.iconst 1, 1) := by decide +kernel
theorem dX7_setPrice_3 : decode cX7_setPrice 3 = .ok (.iconst 4, 1) := by decide +kernel
theorem dX7_setPrice_4 : decode cX7_setPrice 4 = .ok (.invokestatic 58, 3) := by decide +kernel
theorem dX7_setPrice_7 : decode cX7_setPrice 7 = .ok (.ifCond .eq 14, 3) := by decide +kernel
theorem dX7_setPrice_10 : decode cX7_setPrice 10 = .ok (.iload_n 2, 1) := by decide +kernel
theorem dX7_setPrice_11 : decode cX7_setPrice 11 = .ok (.iconst 0, 1) := by decide +kernel
theorem dX7_setPrice_12 : decode cX7_setPrice 12 = .ok (.sipush 2000, 3) := by decide +kernel
theorem dX7_setPrice_15 : decode cX7_setPrice 15 = .ok (.invokestatic 58, 3) := by decide +kernel
theorem dX7_setPrice_18 : decode cX7_setPrice 18 = .ok (.ifCond .ne 7, 3) := by decide +kernel
theorem dX7_setPrice_21 : decode cX7_setPrice 21 = .ok (.iconst 1, 1) := by decide +kernel
theorem dX7_setPrice_22 : decode cX7_setPrice 22 = .ok (.goto 4, 3) := by decide +kernel
theorem dX7_setPrice_25 : decode cX7_setPrice 25 = .ok (.iconst 0, 1) := by decide +kernel
theorem dX7_setPrice_26 : decode cX7_setPrice 26 = .ok (.iconst 1, 1) := by decide +kernel
theorem dX7_setPrice_27 : decode cX7_setPrice 27 = .ok (.invokevirtual 62, 3) := by decide +kernel
theorem dX7_setPrice_30 : decode cX7_setPrice 30 = .ok (.ifCond .eq 5, 3) := by decide +kernel
theorem dX7_setPrice_33 : decode cX7_setPrice 33 = .ok (.iconst 0, 1) := by decide +kernel
theorem dX7_setPrice_34 : decode cX7_setPrice 34 = .ok (.ireturn, 1) := by decide +kernel
theorem dX7_setPrice_35 : decode cX7_setPrice 35 = .ok (.aload_n 0, 1) := by decide +kernel
theorem dX7_setPrice_36 : decode cX7_setPrice 36 = .ok (.getfield 19, 3) := by decide +kernel
theorem dX7_setPrice_39 : decode cX7_setPrice 39 = .ok (.iload_n 1, 1) := by decide +kernel
theorem dX7_setPrice_40 : decode cX7_setPrice 40 = .ok (.iconst 1, 1) := by decide +kernel
theorem dX7_setPrice_41 : decode cX7_setPrice 41 = .ok (.isub, 1) := by decide +kernel
theorem dX7_setPrice_42 : decode cX7_setPrice 42 = .ok (.iaload, 1) := by decide +kernel
theorem dX7_setPrice_43 : decode cX7_setPrice 43 = .ok (.istore_n 3, 1) := by decide +kernel
theorem dX7_setPrice_44 : decode cX7_setPrice 44 = .ok (.aload_n 0, 1) := by decide +kernel
theorem dX7_setPrice_45 : decode cX7_setPrice 45 = .ok (.getfield 19, 3) := by decide +kernel
theorem dX7_setPrice_48 : decode cX7_setPrice 48 = .ok (.iload_n 1, 1) := by decide +kernel
theorem dX7_setPrice_49 : decode cX7_setPrice 49 = .ok (.iconst 1, 1) := by decide +kernel
theorem dX7_setPrice_50 : decode cX7_setPrice 50 = .ok (.isub, 1) := by decide +kernel
theorem dX7_setPrice_51 : decode cX7_setPrice 51 = .ok (.iload_n 2, 1) := by decide +kernel
theorem dX7_setPrice_52 : decode cX7_setPrice 52 = .ok (.iastore, 1) := by decide +kernel
theorem dX7_setPrice_53 : decode cX7_setPrice 53 = .ok (.iload_n 3, 1) := by decide +kernel
theorem dX7_setPrice_54 : decode cX7_setPrice 54 = .ok (.ireturn, 1) := by decide +kernel
theorem dX7_priceOf_0 : decode cX7_priceOf 0 = .ok (.aload_n 0, 1) := by decide +kernel
theorem dX7_priceOf_1 : decode cX7_priceOf 1 = .ok (.iload_n 1, 1) := by decide +kernel
theorem dX7_priceOf_2 : decode cX7_priceOf 2 = .ok (.iconst 1, 1) := by decide +kernel
theorem dX7_priceOf_3 : decode cX7_priceOf 3 = .ok (.iconst 4, 1) := by decide +kernel
theorem dX7_priceOf_4 : decode cX7_priceOf 4 = .ok (.invokestatic 58, 3) := by decide +kernel
theorem dX7_priceOf_7 : decode cX7_priceOf 7 = .ok (.ifCond .ne 7, 3) := by decide +kernel
theorem dX7_priceOf_10 : decode cX7_priceOf 10 = .ok (.iconst 1, 1) := by decide +kernel
theorem dX7_priceOf_11 : decode cX7_priceOf 11 = .ok (.goto 4, 3) := by decide +kernel
theorem dX7_priceOf_14 : decode cX7_priceOf 14 = .ok (.iconst 0, 1) := by decide +kernel
theorem dX7_priceOf_15 : decode cX7_priceOf 15 = .ok (.iconst 1, 1) := by decide +kernel
theorem dX7_priceOf_16 : decode cX7_priceOf 16 = .ok (.invokevirtual 62, 3) := by decide +kernel
theorem dX7_priceOf_19 : decode cX7_priceOf 19 = .ok (.ifCond .eq 7, 3) := by decide +kernel
theorem dX7_priceOf_22 : decode cX7_priceOf 22 = .ok (.iconst 0, 1) := by decide +kernel
theorem dX7_priceOf_23 : decode cX7_priceOf 23 = .ok (.goto 11, 3) := by decide +kernel
theorem dX7_priceOf_26 : decode cX7_priceOf 26 = .ok (.aload_n 0, 1) := by decide +kernel
theorem dX7_priceOf_27 : decode cX7_priceOf 27 = .ok (.getfield 19, 3) := by decide +kernel
theorem dX7_priceOf_30 : decode cX7_priceOf 30 = .ok (.iload_n 1, 1) := by decide +kernel
theorem dX7_priceOf_31 : decode cX7_priceOf 31 = .ok (.iconst 1, 1) := by decide +kernel
theorem dX7_priceOf_32 : decode cX7_priceOf 32 = .ok (.isub, 1) := by decide +kernel
theorem dX7_priceOf_33 : decode cX7_priceOf 33 = .ok (.iaload, 1) := by decide +kernel
theorem dX7_priceOf_34 : decode cX7_priceOf 34 = .ok (.ireturn, 1) := by decide +kernel
theorem dX7_within_0 : decode cX7_within 0 = .ok (.iconst 0, 1) := by decide +kernel
theorem dX7_within_1 : decode cX7_within 1 = .ok (.istore_n 2, 1) := by decide +kernel
theorem dX7_within_2 : decode cX7_within 2 = .ok (.iconst 0, 1) := by decide +kernel
theorem dX7_within_3 : decode cX7_within 3 = .ok (.istore_n 3, 1) := by decide +kernel
theorem dX7_within_4 : decode cX7_within 4 = .ok (.iload_n 3, 1) := by decide +kernel
theorem dX7_within_5 : decode cX7_within 5 = .ok (.aload_n 0, 1) := by decide +kernel
theorem dX7_within_6 : decode cX7_within 6 = .ok (.getfield 13, 3) := by decide +kernel
theorem dX7_within_9 : decode cX7_within 9 = .ok (.iload_n 1, 1) := by decide +kernel
theorem dX7_within_10 : decode cX7_within 10 = .ok (.iaload, 1) := by decide +kernel
theorem dX7_within_11 : decode cX7_within 11 = .ok (.if_icmp .ge 23, 3) := by decide +kernel
theorem dX7_within_14 : decode cX7_within 14 = .ok (.iload_n 2, 1) := by decide +kernel
theorem dX7_within_15 : decode cX7_within 15 = .ok (.aload_n 0, 1) := by decide +kernel
theorem dX7_within_16 : decode cX7_within 16 = .ok (.getfield 22, 3) := by decide +kernel
theorem dX7_within_19 : decode cX7_within 19 = .ok (.bipush 90, 2) := by decide +kernel
theorem dX7_within_21 : decode cX7_within 21 = .ok (.iload_n 1, 1) := by decide +kernel
theorem dX7_within_22 : decode cX7_within 22 = .ok (.imul, 1) := by decide +kernel
theorem dX7_within_23 : decode cX7_within 23 = .ok (.iload_n 3, 1) := by decide +kernel
theorem dX7_within_24 : decode cX7_within 24 = .ok (.iadd, 1) := by decide +kernel
theorem dX7_within_25 : decode cX7_within 25 = .ok (.iaload, 1) := by decide +kernel
theorem dX7_within_26 : decode cX7_within 26 = .ok (.iadd, 1) := by decide +kernel
theorem dX7_within_27 : decode cX7_within 27 = .ok (.istore_n 2, 1) := by decide +kernel
theorem dX7_within_28 : decode cX7_within 28 = .ok (.iinc 3 1, 3) := by decide +kernel
theorem dX7_within_31 : decode cX7_within 31 = .ok (.goto (-27), 3) := by decide +kernel
theorem dX7_within_34 : decode cX7_within 34 = .ok (.iload_n 2, 1) := by decide +kernel
theorem dX7_within_35 : decode cX7_within 35 = .ok (.ireturn, 1) := by decide +kernel
theorem dX7_at_0 : decode cX7_at 0 = .ok (.bipush 90, 2) := by decide +kernel
theorem dX7_at_2 : decode cX7_at 2 = .ok (.iload_n 1, 1) := by decide +kernel
theorem dX7_at_3 : decode cX7_at 3 = .ok (.imul, 1) := by decide +kernel
theorem dX7_at_4 : decode cX7_at 4 = .ok (.aload_n 0, 1) := by decide +kernel
theorem dX7_at_5 : decode cX7_at 5 = .ok (.getfield 37, 3) := by decide +kernel
theorem dX7_at_8 : decode cX7_at 8 = .ok (.iload_n 1, 1) := by decide +kernel
theorem dX7_at_9 : decode cX7_at 9 = .ok (.baload, 1) := by decide +kernel
theorem dX7_at_10 : decode cX7_at 10 = .ok (.ifCond .eq 7, 3) := by decide +kernel
theorem dX7_at_13 : decode cX7_at 13 = .ok (.iload_n 2, 1) := by decide +kernel
theorem dX7_at_14 : decode cX7_at 14 = .ok (.goto 13, 3) := by decide +kernel
theorem dX7_at_17 : decode cX7_at 17 = .ok (.aload_n 0, 1) := by decide +kernel
theorem dX7_at_18 : decode cX7_at 18 = .ok (.getfield 13, 3) := by decide +kernel
theorem dX7_at_21 : decode cX7_at 21 = .ok (.iload_n 1, 1) := by decide +kernel
theorem dX7_at_22 : decode cX7_at 22 = .ok (.iaload, 1) := by decide +kernel
theorem dX7_at_23 : decode cX7_at 23 = .ok (.iconst 1, 1) := by decide +kernel
theorem dX7_at_24 : decode cX7_at 24 = .ok (.isub, 1) := by decide +kernel
theorem dX7_at_25 : decode cX7_at 25 = .ok (.iload_n 2, 1) := by decide +kernel
theorem dX7_at_26 : decode cX7_at 26 = .ok (.isub, 1) := by decide +kernel
theorem dX7_at_27 : decode cX7_at 27 = .ok (.iadd, 1) := by decide +kernel
theorem dX7_at_28 : decode cX7_at 28 = .ok (.ireturn, 1) := by decide +kernel
theorem dX7_lays_0 : decode cX7_lays 0 = .ok (.bipush 90, 2) := by decide +kernel
theorem dX7_lays_2 : decode cX7_lays 2 = .ok (.iload_n 1, 1) := by decide +kernel
theorem dX7_lays_3 : decode cX7_lays 3 = .ok (.imul, 1) := by decide +kernel
theorem dX7_lays_4 : decode cX7_lays 4 = .ok (.aload_n 0, 1) := by decide +kernel
theorem dX7_lays_5 : decode cX7_lays 5 = .ok (.getfield 13, 3) := by decide +kernel
theorem dX7_lays_8 : decode cX7_lays 8 = .ok (.iload_n 1, 1) := by decide +kernel
theorem dX7_lays_9 : decode cX7_lays 9 = .ok (.iaload, 1) := by decide +kernel
theorem dX7_lays_10 : decode cX7_lays 10 = .ok (.iadd, 1) := by decide +kernel
theorem dX7_lays_11 : decode cX7_lays 11 = .ok (.istore 6, 2) := by decide +kernel
theorem dX7_lays_13 : decode cX7_lays 13 = .ok (.aload_n 0, 1) := by decide +kernel
theorem dX7_lays_14 : decode cX7_lays 14 = .ok (.getfield 22, 3) := by decide +kernel
theorem dX7_lays_17 : decode cX7_lays 17 = .ok (.iload 6, 2) := by decide +kernel
theorem dX7_lays_19 : decode cX7_lays 19 = .ok (.iload_n 2, 1) := by decide +kernel
theorem dX7_lays_20 : decode cX7_lays 20 = .ok (.iastore, 1) := by decide +kernel
theorem dX7_lays_21 : decode cX7_lays 21 = .ok (.aload_n 0, 1) := by decide +kernel
theorem dX7_lays_22 : decode cX7_lays 22 = .ok (.getfield 25, 3) := by decide +kernel
theorem dX7_lays_25 : decode cX7_lays 25 = .ok (.iload 6, 2) := by decide +kernel
theorem dX7_lays_27 : decode cX7_lays 27 = .ok (.iload_n 3, 1) := by decide +kernel
theorem dX7_lays_28 : decode cX7_lays 28 = .ok (.iastore, 1) := by decide +kernel
theorem dX7_lays_29 : decode cX7_lays 29 = .ok (.aload_n 0, 1) := by decide +kernel
theorem dX7_lays_30 : decode cX7_lays 30 = .ok (.getfield 28, 3) := by decide +kernel
theorem dX7_lays_33 : decode cX7_lays 33 = .ok (.iload 6, 2) := by decide +kernel
theorem dX7_lays_35 : decode cX7_lays 35 = .ok (.iload 4, 2) := by decide +kernel
theorem dX7_lays_37 : decode cX7_lays 37 = .ok (.iastore, 1) := by decide +kernel
theorem dX7_lays_38 : decode cX7_lays 38 = .ok (.aload_n 0, 1) := by decide +kernel
theorem dX7_lays_39 : decode cX7_lays 39 = .ok (.getfield 31, 3) := by decide +kernel
theorem dX7_lays_42 : decode cX7_lays 42 = .ok (.iload 6, 2) := by decide +kernel
theorem dX7_lays_44 : decode cX7_lays 44 = .ok (.iload 5, 2) := by decide +kernel
theorem dX7_lays_46 : decode cX7_lays 46 = .ok (.iastore, 1) := by decide +kernel
theorem dX7_lays_47 : decode cX7_lays 47 = .ok (.aload_n 0, 1) := by decide +kernel
theorem dX7_lays_48 : decode cX7_lays 48 = .ok (.getfield 13, 3) := by decide +kernel
theorem dX7_lays_51 : decode cX7_lays 51 = .ok (.iload_n 1, 1) := by decide +kernel
theorem dX7_lays_52 : decode cX7_lays 52 = .ok (.dup2, 1) := by decide +kernel
theorem dX7_lays_53 : decode cX7_lays 53 = .ok (.iaload, 1) := by decide +kernel
theorem dX7_lays_54 : decode cX7_lays 54 = .ok (.iconst 1, 1) := by decide +kernel
theorem dX7_lays_55 : decode cX7_lays 55 = .ok (.iadd, 1) := by decide +kernel
theorem dX7_lays_56 : decode cX7_lays 56 = .ok (.iastore, 1) := by decide +kernel
theorem dX7_lays_57 : decode cX7_lays 57 = .ok (.return_, 1) := by decide +kernel
theorem dX7_clears_0 : decode cX7_clears 0 = .ok (.iconst 0, 1) := by decide +kernel
theorem dX7_clears_1 : decode cX7_clears 1 = .ok (.istore_n 2, 1) := by decide +kernel
theorem dX7_clears_2 : decode cX7_clears 2 = .ok (.iconst 0, 1) := by decide +kernel
theorem dX7_clears_3 : decode cX7_clears 3 = .ok (.istore_n 3, 1) := by decide +kernel
theorem dX7_clears_4 : decode cX7_clears 4 = .ok (.iload_n 3, 1) := by decide +kernel
theorem dX7_clears_5 : decode cX7_clears 5 = .ok (.aload_n 0, 1) := by decide +kernel
theorem dX7_clears_6 : decode cX7_clears 6 = .ok (.getfield 13, 3) := by decide +kernel
theorem dX7_clears_9 : decode cX7_clears 9 = .ok (.iload_n 1, 1) := by decide +kernel
theorem dX7_clears_10 : decode cX7_clears 10 = .ok (.iaload, 1) := by decide +kernel
theorem dX7_clears_11 : decode cX7_clears 11 = .ok (.if_icmp .ge 94, 3) := by decide +kernel
theorem dX7_clears_14 : decode cX7_clears 14 = .ok (.bipush 90, 2) := by decide +kernel
theorem dX7_clears_16 : decode cX7_clears 16 = .ok (.iload_n 1, 1) := by decide +kernel
theorem dX7_clears_17 : decode cX7_clears 17 = .ok (.imul, 1) := by decide +kernel
theorem dX7_clears_18 : decode cX7_clears 18 = .ok (.iload_n 3, 1) := by decide +kernel
theorem dX7_clears_19 : decode cX7_clears 19 = .ok (.iadd, 1) := by decide +kernel
theorem dX7_clears_20 : decode cX7_clears 20 = .ok (.istore 4, 2) := by decide +kernel
theorem dX7_clears_22 : decode cX7_clears 22 = .ok (.aload_n 0, 1) := by decide +kernel
theorem dX7_clears_23 : decode cX7_clears 23 = .ok (.getfield 22, 3) := by decide +kernel
theorem dX7_clears_26 : decode cX7_clears 26 = .ok (.iload 4, 2) := by decide +kernel
theorem dX7_clears_28 : decode cX7_clears 28 = .ok (.iaload, 1) := by decide +kernel
theorem dX7_clears_29 : decode cX7_clears 29 = .ok (.ifCond .le 70, 3) := by decide +kernel
theorem dX7_clears_32 : decode cX7_clears 32 = .ok (.bipush 90, 2) := by decide +kernel
theorem dX7_clears_34 : decode cX7_clears 34 = .ok (.iload_n 1, 1) := by decide +kernel
theorem dX7_clears_35 : decode cX7_clears 35 = .ok (.imul, 1) := by decide +kernel
theorem dX7_clears_36 : decode cX7_clears 36 = .ok (.iload_n 2, 1) := by decide +kernel
theorem dX7_clears_37 : decode cX7_clears 37 = .ok (.iadd, 1) := by decide +kernel
theorem dX7_clears_38 : decode cX7_clears 38 = .ok (.istore 5, 2) := by decide +kernel
theorem dX7_clears_40 : decode cX7_clears 40 = .ok (.aload_n 0, 1) := by decide +kernel
theorem dX7_clears_41 : decode cX7_clears 41 = .ok (.getfield 22, 3) := by decide +kernel
theorem dX7_clears_44 : decode cX7_clears 44 = .ok (.iload 5, 2) := by decide +kernel
theorem dX7_clears_46 : decode cX7_clears 46 = .ok (.aload_n 0, 1) := by decide +kernel
theorem dX7_clears_47 : decode cX7_clears 47 = .ok (.getfield 22, 3) := by decide +kernel
theorem dX7_clears_50 : decode cX7_clears 50 = .ok (.iload 4, 2) := by decide +kernel
theorem dX7_clears_52 : decode cX7_clears 52 = .ok (.iaload, 1) := by decide +kernel
theorem dX7_clears_53 : decode cX7_clears 53 = .ok (.iastore, 1) := by decide +kernel
theorem dX7_clears_54 : decode cX7_clears 54 = .ok (.aload_n 0, 1) := by decide +kernel
theorem dX7_clears_55 : decode cX7_clears 55 = .ok (.getfield 25, 3) := by decide +kernel
theorem dX7_clears_58 : decode cX7_clears 58 = .ok (.iload 5, 2) := by decide +kernel
theorem dX7_clears_60 : decode cX7_clears 60 = .ok (.aload_n 0, 1) := by decide +kernel
theorem dX7_clears_61 : decode cX7_clears 61 = .ok (.getfield 25, 3) := by decide +kernel
theorem dX7_clears_64 : decode cX7_clears 64 = .ok (.iload 4, 2) := by decide +kernel
theorem dX7_clears_66 : decode cX7_clears 66 = .ok (.iaload, 1) := by decide +kernel
theorem dX7_clears_67 : decode cX7_clears 67 = .ok (.iastore, 1) := by decide +kernel
theorem dX7_clears_68 : decode cX7_clears 68 = .ok (.aload_n 0, 1) := by decide +kernel
theorem dX7_clears_69 : decode cX7_clears 69 = .ok (.getfield 28, 3) := by decide +kernel
theorem dX7_clears_72 : decode cX7_clears 72 = .ok (.iload 5, 2) := by decide +kernel
theorem dX7_clears_74 : decode cX7_clears 74 = .ok (.aload_n 0, 1) := by decide +kernel
theorem dX7_clears_75 : decode cX7_clears 75 = .ok (.getfield 28, 3) := by decide +kernel
theorem dX7_clears_78 : decode cX7_clears 78 = .ok (.iload 4, 2) := by decide +kernel
theorem dX7_clears_80 : decode cX7_clears 80 = .ok (.iaload, 1) := by decide +kernel
theorem dX7_clears_81 : decode cX7_clears 81 = .ok (.iastore, 1) := by decide +kernel
theorem dX7_clears_82 : decode cX7_clears 82 = .ok (.aload_n 0, 1) := by decide +kernel
theorem dX7_clears_83 : decode cX7_clears 83 = .ok (.getfield 31, 3) := by decide +kernel
theorem dX7_clears_86 : decode cX7_clears 86 = .ok (.iload 5, 2) := by decide +kernel
theorem dX7_clears_88 : decode cX7_clears 88 = .ok (.aload_n 0, 1) := by decide +kernel
theorem dX7_clears_89 : decode cX7_clears 89 = .ok (.getfield 31, 3) := by decide +kernel
theorem dX7_clears_92 : decode cX7_clears 92 = .ok (.iload 4, 2) := by decide +kernel
theorem dX7_clears_94 : decode cX7_clears 94 = .ok (.iaload, 1) := by decide +kernel
theorem dX7_clears_95 : decode cX7_clears 95 = .ok (.iastore, 1) := by decide +kernel
theorem dX7_clears_96 : decode cX7_clears 96 = .ok (.iinc 2 1, 3) := by decide +kernel
theorem dX7_clears_99 : decode cX7_clears 99 = .ok (.iinc 3 1, 3) := by decide +kernel
theorem dX7_clears_102 : decode cX7_clears 102 = .ok (.goto (-98), 3) := by decide +kernel
theorem dX7_clears_105 : decode cX7_clears 105 = .ok (.aload_n 0, 1) := by decide +kernel
theorem dX7_clears_106 : decode cX7_clears 106 = .ok (.getfield 13, 3) := by decide +kernel
theorem dX7_clears_109 : decode cX7_clears 109 = .ok (.iload_n 1, 1) := by decide +kernel
theorem dX7_clears_110 : decode cX7_clears 110 = .ok (.iload_n 2, 1) := by decide +kernel
theorem dX7_clears_111 : decode cX7_clears 111 = .ok (.iastore, 1) := by decide +kernel
theorem dX7_clears_112 : decode cX7_clears 112 = .ok (.return_, 1) := by decide +kernel
theorem dX7_notes_0 : decode cX7_notes 0 = .ok (.aload_n 0, 1) := by decide +kernel
theorem dX7_notes_1 : decode cX7_notes 1 = .ok (.getfield 41, 3) := by decide +kernel
theorem dX7_notes_4 : decode cX7_notes 4 = .ok (.aload_n 0, 1) := by decide +kernel
theorem dX7_notes_5 : decode cX7_notes 5 = .ok (.getfield 80, 3) := by decide +kernel
theorem dX7_notes_8 : decode cX7_notes 8 = .ok (.iload_n 1, 1) := by decide +kernel
theorem dX7_notes_9 : decode cX7_notes 9 = .ok (.castore, 1) := by decide +kernel
theorem dX7_notes_10 : decode cX7_notes 10 = .ok (.aload_n 0, 1) := by decide +kernel
theorem dX7_notes_11 : decode cX7_notes 11 = .ok (.dup, 1) := by decide +kernel
theorem dX7_notes_12 : decode cX7_notes 12 = .ok (.getfield 80, 3) := by decide +kernel
theorem dX7_notes_15 : decode cX7_notes 15 = .ok (.iconst 1, 1) := by decide +kernel
theorem dX7_notes_16 : decode cX7_notes 16 = .ok (.iadd, 1) := by decide +kernel
theorem dX7_notes_17 : decode cX7_notes 17 = .ok (.putfield 80, 3) := by decide +kernel
theorem dX7_notes_20 : decode cX7_notes 20 = .ok (.aload_n 0, 1) := by decide +kernel
theorem dX7_notes_21 : decode cX7_notes 21 = .ok (.invokevirtual 83, 3) := by decide +kernel
theorem dX7_notes_24 : decode cX7_notes 24 = .ok (.istore_n 2, 1) := by decide +kernel
theorem dX7_notes_25 : decode cX7_notes 25 = .ok (.iload_n 2, 1) := by decide +kernel
theorem dX7_notes_26 : decode cX7_notes 26 = .ok (.aload_n 0, 1) := by decide +kernel
theorem dX7_notes_27 : decode cX7_notes 27 = .ok (.getfield 87, 3) := by decide +kernel
theorem dX7_notes_30 : decode cX7_notes 30 = .ok (.if_icmp .eq 33, 3) := by decide +kernel
theorem dX7_notes_33 : decode cX7_notes 33 = .ok (.aload_n 0, 1) := by decide +kernel
theorem dX7_notes_34 : decode cX7_notes 34 = .ok (.getfield 34, 3) := by decide +kernel
theorem dX7_notes_37 : decode cX7_notes 37 = .ok (.aload_n 0, 1) := by decide +kernel
theorem dX7_notes_38 : decode cX7_notes 38 = .ok (.getfield 90, 3) := by decide +kernel
theorem dX7_notes_41 : decode cX7_notes 41 = .ok (.iload_n 2, 1) := by decide +kernel
theorem dX7_notes_42 : decode cX7_notes 42 = .ok (.aload_n 0, 1) := by decide +kernel
theorem dX7_notes_43 : decode cX7_notes 43 = .ok (.getfield 87, 3) := by decide +kernel
theorem dX7_notes_46 : decode cX7_notes 46 = .ok (.isub, 1) := by decide +kernel
theorem dX7_notes_47 : decode cX7_notes 47 = .ok (.iastore, 1) := by decide +kernel
theorem dX7_notes_48 : decode cX7_notes 48 = .ok (.aload_n 0, 1) := by decide +kernel
theorem dX7_notes_49 : decode cX7_notes 49 = .ok (.dup, 1) := by decide +kernel
theorem dX7_notes_50 : decode cX7_notes 50 = .ok (.getfield 90, 3) := by decide +kernel
theorem dX7_notes_53 : decode cX7_notes 53 = .ok (.iconst 1, 1) := by decide +kernel
theorem dX7_notes_54 : decode cX7_notes 54 = .ok (.iadd, 1) := by decide +kernel
theorem dX7_notes_55 : decode cX7_notes 55 = .ok (.putfield 90, 3) := by decide +kernel
theorem dX7_notes_58 : decode cX7_notes 58 = .ok (.aload_n 0, 1) := by decide +kernel
theorem dX7_notes_59 : decode cX7_notes 59 = .ok (.iload_n 2, 1) := by decide +kernel
theorem dX7_notes_60 : decode cX7_notes 60 = .ok (.putfield 87, 3) := by decide +kernel
theorem dX7_notes_63 : decode cX7_notes 63 = .ok (.return_, 1) := by decide +kernel
theorem dX7_all_0 : decode cX7_all 0 = .ok (.iconst 0, 1) := by decide +kernel
theorem dX7_all_1 : decode cX7_all 1 = .ok (.istore_n 1, 1) := by decide +kernel
theorem dX7_all_2 : decode cX7_all 2 = .ok (.iconst 0, 1) := by decide +kernel
theorem dX7_all_3 : decode cX7_all 3 = .ok (.istore_n 2, 1) := by decide +kernel
theorem dX7_all_4 : decode cX7_all 4 = .ok (.iload_n 2, 1) := by decide +kernel
theorem dX7_all_5 : decode cX7_all 5 = .ok (.aload_n 0, 1) := by decide +kernel
theorem dX7_all_6 : decode cX7_all 6 = .ok (.getfield 55, 3) := by decide +kernel
theorem dX7_all_9 : decode cX7_all 9 = .ok (.if_icmp .ge 17, 3) := by decide +kernel
theorem dX7_all_12 : decode cX7_all 12 = .ok (.iload_n 1, 1) := by decide +kernel
theorem dX7_all_13 : decode cX7_all 13 = .ok (.aload_n 0, 1) := by decide +kernel
theorem dX7_all_14 : decode cX7_all 14 = .ok (.iload_n 2, 1) := by decide +kernel
theorem dX7_all_15 : decode cX7_all 15 = .ok (.invokevirtual 93, 3) := by decide +kernel
theorem dX7_all_18 : decode cX7_all 18 = .ok (.iadd, 1) := by decide +kernel
theorem dX7_all_19 : decode cX7_all 19 = .ok (.istore_n 1, 1) := by decide +kernel
theorem dX7_all_20 : decode cX7_all 20 = .ok (.iinc 2 1, 3) := by decide +kernel
theorem dX7_all_23 : decode cX7_all 23 = .ok (.goto (-19), 3) := by decide +kernel
theorem dX7_all_26 : decode cX7_all 26 = .ok (.iload_n 1, 1) := by decide +kernel
theorem dX7_all_27 : decode cX7_all 27 = .ok (.ireturn, 1) := by decide +kernel
theorem dX7_load_0 : decode cX7_load 0 = .ok (.aload_n 0, 1) := by decide +kernel
theorem dX7_load_1 : decode cX7_load 1 = .ok (.iload_n 1, 1) := by decide +kernel
theorem dX7_load_2 : decode cX7_load 2 = .ok (.invokevirtual 66, 3) := by decide +kernel
theorem dX7_load_5 : decode cX7_load 5 = .ok (.ifCond .ne 83, 3) := by decide +kernel
theorem dX7_load_8 : decode cX7_load 8 = .ok (.aload_n 0, 1) := by decide +kernel
theorem dX7_load_9 : decode cX7_load 9 = .ok (.iload_n 2, 1) := by decide +kernel
theorem dX7_load_10 : decode cX7_load 10 = .ok (.iconst 1, 1) := by decide +kernel
theorem dX7_load_11 : decode cX7_load 11 = .ok (.sipush 2000, 3) := by decide +kernel
theorem dX7_load_14 : decode cX7_load 14 = .ok (.invokestatic 58, 3) := by decide +kernel
theorem dX7_load_17 : decode cX7_load 17 = .ok (.ifCond .eq 21, 3) := by decide +kernel
theorem dX7_load_20 : decode cX7_load 20 = .ok (.iload_n 3, 1) := by decide +kernel
theorem dX7_load_21 : decode cX7_load 21 = .ok (.invokestatic 70, 3) := by decide +kernel
theorem dX7_load_24 : decode cX7_load 24 = .ok (.ifCond .eq 14, 3) := by decide +kernel
theorem dX7_load_27 : decode cX7_load 27 = .ok (.iload 4, 2) := by decide +kernel
theorem dX7_load_29 : decode cX7_load 29 = .ok (.iconst 0, 1) := by decide +kernel
theorem dX7_load_30 : decode cX7_load 30 = .ok (.bipush 100, 2) := by decide +kernel
theorem dX7_load_32 : decode cX7_load 32 = .ok (.invokestatic 58, 3) := by decide +kernel
theorem dX7_load_35 : decode cX7_load 35 = .ok (.ifCond .ne 7, 3) := by decide +kernel
theorem dX7_load_38 : decode cX7_load 38 = .ok (.iconst 1, 1) := by decide +kernel
theorem dX7_load_39 : decode cX7_load 39 = .ok (.goto 4, 3) := by decide +kernel
theorem dX7_load_42 : decode cX7_load 42 = .ok (.iconst 0, 1) := by decide +kernel
theorem dX7_load_43 : decode cX7_load 43 = .ok (.iconst 2, 1) := by decide +kernel
theorem dX7_load_44 : decode cX7_load 44 = .ok (.invokevirtual 62, 3) := by decide +kernel
theorem dX7_load_47 : decode cX7_load 47 = .ok (.ifCond .ne 41, 3) := by decide +kernel
theorem dX7_load_50 : decode cX7_load 50 = .ok (.aload_n 0, 1) := by decide +kernel
theorem dX7_load_51 : decode cX7_load 51 = .ok (.aload_n 0, 1) := by decide +kernel
theorem dX7_load_52 : decode cX7_load 52 = .ok (.iload_n 1, 1) := by decide +kernel
theorem dX7_load_53 : decode cX7_load 53 = .ok (.invokevirtual 93, 3) := by decide +kernel
theorem dX7_load_56 : decode cX7_load 56 = .ok (.iload_n 2, 1) := by decide +kernel
theorem dX7_load_57 : decode cX7_load 57 = .ok (.iadd, 1) := by decide +kernel
theorem dX7_load_58 : decode cX7_load 58 = .ok (.aload_n 0, 1) := by decide +kernel
theorem dX7_load_59 : decode cX7_load 59 = .ok (.getfield 9, 3) := by decide +kernel
theorem dX7_load_62 : decode cX7_load 62 = .ok (.iload_n 1, 1) := by decide +kernel
theorem dX7_load_63 : decode cX7_load 63 = .ok (.iaload, 1) := by decide +kernel
theorem dX7_load_64 : decode cX7_load 64 = .ok (.if_icmp .gt 12, 3) := by decide +kernel
theorem dX7_load_67 : decode cX7_load 67 = .ok (.aload_n 0, 1) := by decide +kernel
theorem dX7_load_68 : decode cX7_load 68 = .ok (.getfield 80, 3) := by decide +kernel
theorem dX7_load_71 : decode cX7_load 71 = .ok (.bipush 80, 2) := by decide +kernel
theorem dX7_load_73 : decode cX7_load 73 = .ok (.if_icmp .ne 7, 3) := by decide +kernel
theorem dX7_load_76 : decode cX7_load 76 = .ok (.iconst 1, 1) := by decide +kernel
theorem dX7_load_77 : decode cX7_load 77 = .ok (.goto 4, 3) := by decide +kernel
theorem dX7_load_80 : decode cX7_load 80 = .ok (.iconst 0, 1) := by decide +kernel
theorem dX7_load_81 : decode cX7_load 81 = .ok (.iconst 3, 1) := by decide +kernel
theorem dX7_load_82 : decode cX7_load 82 = .ok (.invokevirtual 62, 3) := by decide +kernel
theorem dX7_load_85 : decode cX7_load 85 = .ok (.ifCond .eq 5, 3) := by decide +kernel
theorem dX7_load_88 : decode cX7_load 88 = .ok (.iconst 0, 1) := by decide +kernel
theorem dX7_load_89 : decode cX7_load 89 = .ok (.ireturn, 1) := by decide +kernel
theorem dX7_load_90 : decode cX7_load 90 = .ok (.aload_n 0, 1) := by decide +kernel
theorem dX7_load_91 : decode cX7_load 91 = .ok (.iload_n 3, 1) := by decide +kernel
theorem dX7_load_92 : decode cX7_load 92 = .ok (.iload 4, 2) := by decide +kernel
theorem dX7_load_94 : decode cX7_load 94 = .ok (.invokevirtual 76, 3) := by decide +kernel
theorem dX7_load_97 : decode cX7_load 97 = .ok (.istore 5, 2) := by decide +kernel
theorem dX7_load_99 : decode cX7_load 99 = .ok (.aload_n 0, 1) := by decide +kernel
theorem dX7_load_100 : decode cX7_load 100 = .ok (.iload_n 1, 1) := by decide +kernel
theorem dX7_load_101 : decode cX7_load 101 = .ok (.iload_n 2, 1) := by decide +kernel
theorem dX7_load_102 : decode cX7_load 102 = .ok (.iload_n 3, 1) := by decide +kernel
theorem dX7_load_103 : decode cX7_load 103 = .ok (.iload 4, 2) := by decide +kernel
theorem dX7_load_105 : decode cX7_load 105 = .ok (.iload 5, 2) := by decide +kernel
theorem dX7_load_107 : decode cX7_load 107 = .ok (.invokevirtual 97, 3) := by decide +kernel
theorem dX7_load_110 : decode cX7_load 110 = .ok (.aload_n 0, 1) := by decide +kernel
theorem dX7_load_111 : decode cX7_load 111 = .ok (.dup, 1) := by decide +kernel
theorem dX7_load_112 : decode cX7_load 112 = .ok (.getfield 101, 3) := by decide +kernel
theorem dX7_load_115 : decode cX7_load 115 = .ok (.iload_n 2, 1) := by decide +kernel
theorem dX7_load_116 : decode cX7_load 116 = .ok (.aload_n 0, 1) := by decide +kernel
theorem dX7_load_117 : decode cX7_load 117 = .ok (.getfield 19, 3) := by decide +kernel
theorem dX7_load_120 : decode cX7_load 120 = .ok (.iload 5, 2) := by decide +kernel
theorem dX7_load_122 : decode cX7_load 122 = .ok (.iconst 1, 1) := by decide +kernel
theorem dX7_load_123 : decode cX7_load 123 = .ok (.isub, 1) := by decide +kernel
theorem dX7_load_124 : decode cX7_load 124 = .ok (.iaload, 1) := by decide +kernel
theorem dX7_load_125 : decode cX7_load 125 = .ok (.imul, 1) := by decide +kernel
theorem dX7_load_126 : decode cX7_load 126 = .ok (.i2l, 1) := by decide +kernel
theorem dX7_load_127 : decode cX7_load 127 = .ok (.lsub, 1) := by decide +kernel
theorem dX7_load_128 : decode cX7_load 128 = .ok (.putfield 101, 3) := by decide +kernel
theorem dX7_load_131 : decode cX7_load 131 = .ok (.aload_n 0, 1) := by decide +kernel
theorem dX7_load_132 : decode cX7_load 132 = .ok (.bipush 108, 2) := by decide +kernel
theorem dX7_load_134 : decode cX7_load 134 = .ok (.invokevirtual 105, 3) := by decide +kernel
theorem dX7_load_137 : decode cX7_load 137 = .ok (.iload 5, 2) := by decide +kernel
theorem dX7_load_139 : decode cX7_load 139 = .ok (.ireturn, 1) := by decide +kernel
theorem dX7_flows_0 : decode cX7_flows 0 = .ok (.iload_n 2, 1) := by decide +kernel
theorem dX7_flows_1 : decode cX7_flows 1 = .ok (.istore 4, 2) := by decide +kernel
theorem dX7_flows_3 : decode cX7_flows 3 = .ok (.iconst 0, 1) := by decide +kernel
theorem dX7_flows_4 : decode cX7_flows 4 = .ok (.istore 5, 2) := by decide +kernel
theorem dX7_flows_6 : decode cX7_flows 6 = .ok (.aload_n 0, 1) := by decide +kernel
theorem dX7_flows_7 : decode cX7_flows 7 = .ok (.getfield 13, 3) := by decide +kernel
theorem dX7_flows_10 : decode cX7_flows 10 = .ok (.iload_n 1, 1) := by decide +kernel
theorem dX7_flows_11 : decode cX7_flows 11 = .ok (.iaload, 1) := by decide +kernel
theorem dX7_flows_12 : decode cX7_flows 12 = .ok (.istore 6, 2) := by decide +kernel
theorem dX7_flows_14 : decode cX7_flows 14 = .ok (.iconst 0, 1) := by decide +kernel
theorem dX7_flows_15 : decode cX7_flows 15 = .ok (.istore 7, 2) := by decide +kernel
theorem dX7_flows_17 : decode cX7_flows 17 = .ok (.iload 7, 2) := by decide +kernel
theorem dX7_flows_19 : decode cX7_flows 19 = .ok (.iload 6, 2) := by decide +kernel
theorem dX7_flows_21 : decode cX7_flows 21 = .ok (.if_icmp .ge 110, 3) := by decide +kernel
theorem dX7_flows_24 : decode cX7_flows 24 = .ok (.iload 4, 2) := by decide +kernel
theorem dX7_flows_26 : decode cX7_flows 26 = .ok (.ifCond .le 105, 3) := by decide +kernel
theorem dX7_flows_29 : decode cX7_flows 29 = .ok (.aload_n 0, 1) := by decide +kernel
theorem dX7_flows_30 : decode cX7_flows 30 = .ok (.iload_n 1, 1) := by decide +kernel
theorem dX7_flows_31 : decode cX7_flows 31 = .ok (.iload 7, 2) := by decide +kernel
theorem dX7_flows_33 : decode cX7_flows 33 = .ok (.invokevirtual 109, 3) := by decide +kernel
theorem dX7_flows_36 : decode cX7_flows 36 = .ok (.istore 8, 2) := by decide +kernel
theorem dX7_flows_38 : decode cX7_flows 38 = .ok (.iload 4, 2) := by decide +kernel
theorem dX7_flows_40 : decode cX7_flows 40 = .ok (.aload_n 0, 1) := by decide +kernel
theorem dX7_flows_41 : decode cX7_flows 41 = .ok (.getfield 22, 3) := by decide +kernel
theorem dX7_flows_44 : decode cX7_flows 44 = .ok (.iload 8, 2) := by decide +kernel
theorem dX7_flows_46 : decode cX7_flows 46 = .ok (.iaload, 1) := by decide +kernel
theorem dX7_flows_47 : decode cX7_flows 47 = .ok (.invokestatic 112, 3) := by decide +kernel
theorem dX7_flows_50 : decode cX7_flows 50 = .ok (.istore 9, 2) := by decide +kernel
theorem dX7_flows_52 : decode cX7_flows 52 = .ok (.iload_n 3, 1) := by decide +kernel
theorem dX7_flows_53 : decode cX7_flows 53 = .ok (.ifCond .lt 31, 3) := by decide +kernel
theorem dX7_flows_56 : decode cX7_flows 56 = .ok (.aload_n 0, 1) := by decide +kernel
theorem dX7_flows_57 : decode cX7_flows 57 = .ok (.iload_n 3, 1) := by decide +kernel
theorem dX7_flows_58 : decode cX7_flows 58 = .ok (.iload 9, 2) := by decide +kernel
theorem dX7_flows_60 : decode cX7_flows 60 = .ok (.aload_n 0, 1) := by decide +kernel
theorem dX7_flows_61 : decode cX7_flows 61 = .ok (.getfield 25, 3) := by decide +kernel
theorem dX7_flows_64 : decode cX7_flows 64 = .ok (.iload 8, 2) := by decide +kernel
theorem dX7_flows_66 : decode cX7_flows 66 = .ok (.iaload, 1) := by decide +kernel
theorem dX7_flows_67 : decode cX7_flows 67 = .ok (.aload_n 0, 1) := by decide +kernel
theorem dX7_flows_68 : decode cX7_flows 68 = .ok (.getfield 28, 3) := by decide +kernel
theorem dX7_flows_71 : decode cX7_flows 71 = .ok (.iload 8, 2) := by decide +kernel
theorem dX7_flows_73 : decode cX7_flows 73 = .ok (.iaload, 1) := by decide +kernel
theorem dX7_flows_74 : decode cX7_flows 74 = .ok (.aload_n 0, 1) := by decide +kernel
theorem dX7_flows_75 : decode cX7_flows 75 = .ok (.getfield 31, 3) := by decide +kernel
theorem dX7_flows_78 : decode cX7_flows 78 = .ok (.iload 8, 2) := by decide +kernel
theorem dX7_flows_80 : decode cX7_flows 80 = .ok (.iaload, 1) := by decide +kernel
theorem dX7_flows_81 : decode cX7_flows 81 = .ok (.invokevirtual 97, 3) := by decide +kernel
theorem dX7_flows_84 : decode cX7_flows 84 = .ok (.aload_n 0, 1) := by decide +kernel
theorem dX7_flows_85 : decode cX7_flows 85 = .ok (.getfield 22, 3) := by decide +kernel
theorem dX7_flows_88 : decode cX7_flows 88 = .ok (.iload 8, 2) := by decide +kernel
theorem dX7_flows_90 : decode cX7_flows 90 = .ok (.dup2, 1) := by decide +kernel
theorem dX7_flows_91 : decode cX7_flows 91 = .ok (.iaload, 1) := by decide +kernel
theorem dX7_flows_92 : decode cX7_flows 92 = .ok (.iload 9, 2) := by decide +kernel
theorem dX7_flows_94 : decode cX7_flows 94 = .ok (.isub, 1) := by decide +kernel
theorem dX7_flows_95 : decode cX7_flows 95 = .ok (.iastore, 1) := by decide +kernel
theorem dX7_flows_96 : decode cX7_flows 96 = .ok (.iload 5, 2) := by decide +kernel
theorem dX7_flows_98 : decode cX7_flows 98 = .ok (.iload 9, 2) := by decide +kernel
theorem dX7_flows_100 : decode cX7_flows 100 = .ok (.aload_n 0, 1) := by decide +kernel
theorem dX7_flows_101 : decode cX7_flows 101 = .ok (.getfield 19, 3) := by decide +kernel
theorem dX7_flows_104 : decode cX7_flows 104 = .ok (.aload_n 0, 1) := by decide +kernel
theorem dX7_flows_105 : decode cX7_flows 105 = .ok (.getfield 31, 3) := by decide +kernel
theorem dX7_flows_108 : decode cX7_flows 108 = .ok (.iload 8, 2) := by decide +kernel
theorem dX7_flows_110 : decode cX7_flows 110 = .ok (.iaload, 1) := by decide +kernel
theorem dX7_flows_111 : decode cX7_flows 111 = .ok (.iconst 1, 1) := by decide +kernel
theorem dX7_flows_112 : decode cX7_flows 112 = .ok (.isub, 1) := by decide +kernel
theorem dX7_flows_113 : decode cX7_flows 113 = .ok (.iaload, 1) := by decide +kernel
theorem dX7_flows_114 : decode cX7_flows 114 = .ok (.imul, 1) := by decide +kernel
theorem dX7_flows_115 : decode cX7_flows 115 = .ok (.iadd, 1) := by decide +kernel
theorem dX7_flows_116 : decode cX7_flows 116 = .ok (.istore 5, 2) := by decide +kernel
theorem dX7_flows_118 : decode cX7_flows 118 = .ok (.iload 4, 2) := by decide +kernel
theorem dX7_flows_120 : decode cX7_flows 120 = .ok (.iload 9, 2) := by decide +kernel
theorem dX7_flows_122 : decode cX7_flows 122 = .ok (.isub, 1) := by decide +kernel
theorem dX7_flows_123 : decode cX7_flows 123 = .ok (.istore 4, 2) := by decide +kernel
theorem dX7_flows_125 : decode cX7_flows 125 = .ok (.iinc 7 1, 3) := by decide +kernel
theorem dX7_flows_128 : decode cX7_flows 128 = .ok (.goto (-111), 3) := by decide +kernel
theorem dX7_flows_131 : decode cX7_flows 131 = .ok (.aload_n 0, 1) := by decide +kernel
theorem dX7_flows_132 : decode cX7_flows 132 = .ok (.iload_n 1, 1) := by decide +kernel
theorem dX7_flows_133 : decode cX7_flows 133 = .ok (.invokevirtual 117, 3) := by decide +kernel
theorem dX7_flows_136 : decode cX7_flows 136 = .ok (.iload 5, 2) := by decide +kernel
theorem dX7_flows_138 : decode cX7_flows 138 = .ok (.ireturn, 1) := by decide +kernel
theorem dX7_sell_0 : decode cX7_sell 0 = .ok (.aload_n 0, 1) := by decide +kernel
theorem dX7_sell_1 : decode cX7_sell 1 = .ok (.iload_n 1, 1) := by decide +kernel
theorem dX7_sell_2 : decode cX7_sell 2 = .ok (.invokevirtual 66, 3) := by decide +kernel
theorem dX7_sell_5 : decode cX7_sell 5 = .ok (.ifCond .ne 58, 3) := by decide +kernel
theorem dX7_sell_8 : decode cX7_sell 8 = .ok (.aload_n 0, 1) := by decide +kernel
theorem dX7_sell_9 : decode cX7_sell 9 = .ok (.iload_n 2, 1) := by decide +kernel
theorem dX7_sell_10 : decode cX7_sell 10 = .ok (.iconst 1, 1) := by decide +kernel
theorem dX7_sell_11 : decode cX7_sell 11 = .ok (.sipush 5000, 3) := by decide +kernel
theorem dX7_sell_14 : decode cX7_sell 14 = .ok (.invokestatic 58, 3) := by decide +kernel
theorem dX7_sell_17 : decode cX7_sell 17 = .ok (.ifCond .ne 7, 3) := by decide +kernel
theorem dX7_sell_20 : decode cX7_sell 20 = .ok (.iconst 1, 1) := by decide +kernel
theorem dX7_sell_21 : decode cX7_sell 21 = .ok (.goto 4, 3) := by decide +kernel
theorem dX7_sell_24 : decode cX7_sell 24 = .ok (.iconst 0, 1) := by decide +kernel
theorem dX7_sell_25 : decode cX7_sell 25 = .ok (.iconst 2, 1) := by decide +kernel
theorem dX7_sell_26 : decode cX7_sell 26 = .ok (.invokevirtual 62, 3) := by decide +kernel
theorem dX7_sell_29 : decode cX7_sell 29 = .ok (.ifCond .ne 34, 3) := by decide +kernel
theorem dX7_sell_32 : decode cX7_sell 32 = .ok (.aload_n 0, 1) := by decide +kernel
theorem dX7_sell_33 : decode cX7_sell 33 = .ok (.aload_n 0, 1) := by decide +kernel
theorem dX7_sell_34 : decode cX7_sell 34 = .ok (.iload_n 1, 1) := by decide +kernel
theorem dX7_sell_35 : decode cX7_sell 35 = .ok (.invokevirtual 93, 3) := by decide +kernel
theorem dX7_sell_38 : decode cX7_sell 38 = .ok (.iload_n 2, 1) := by decide +kernel
theorem dX7_sell_39 : decode cX7_sell 39 = .ok (.if_icmp .lt 12, 3) := by decide +kernel
theorem dX7_sell_42 : decode cX7_sell 42 = .ok (.aload_n 0, 1) := by decide +kernel
theorem dX7_sell_43 : decode cX7_sell 43 = .ok (.getfield 80, 3) := by decide +kernel
theorem dX7_sell_46 : decode cX7_sell 46 = .ok (.bipush 80, 2) := by decide +kernel
theorem dX7_sell_48 : decode cX7_sell 48 = .ok (.if_icmp .ne 7, 3) := by decide +kernel
theorem dX7_sell_51 : decode cX7_sell 51 = .ok (.iconst 1, 1) := by decide +kernel
theorem dX7_sell_52 : decode cX7_sell 52 = .ok (.goto 4, 3) := by decide +kernel
theorem dX7_sell_55 : decode cX7_sell 55 = .ok (.iconst 0, 1) := by decide +kernel
theorem dX7_sell_56 : decode cX7_sell 56 = .ok (.iconst 3, 1) := by decide +kernel
theorem dX7_sell_57 : decode cX7_sell 57 = .ok (.invokevirtual 62, 3) := by decide +kernel
theorem dX7_sell_60 : decode cX7_sell 60 = .ok (.ifCond .eq 5, 3) := by decide +kernel
theorem dX7_sell_63 : decode cX7_sell 63 = .ok (.iconst 0, 1) := by decide +kernel
theorem dX7_sell_64 : decode cX7_sell 64 = .ok (.ireturn, 1) := by decide +kernel
theorem dX7_sell_65 : decode cX7_sell 65 = .ok (.aload_n 0, 1) := by decide +kernel
theorem dX7_sell_66 : decode cX7_sell 66 = .ok (.iload_n 1, 1) := by decide +kernel
theorem dX7_sell_67 : decode cX7_sell 67 = .ok (.iload_n 2, 1) := by decide +kernel
theorem dX7_sell_68 : decode cX7_sell 68 = .ok (.iconst (-1), 1) := by decide +kernel
theorem dX7_sell_69 : decode cX7_sell 69 = .ok (.invokevirtual 121, 3) := by decide +kernel
theorem dX7_sell_72 : decode cX7_sell 72 = .ok (.istore_n 3, 1) := by decide +kernel
theorem dX7_sell_73 : decode cX7_sell 73 = .ok (.aload_n 0, 1) := by decide +kernel
theorem dX7_sell_74 : decode cX7_sell 74 = .ok (.dup, 1) := by decide +kernel
theorem dX7_sell_75 : decode cX7_sell 75 = .ok (.getfield 101, 3) := by decide +kernel
theorem dX7_sell_78 : decode cX7_sell 78 = .ok (.iload_n 3, 1) := by decide +kernel
theorem dX7_sell_79 : decode cX7_sell 79 = .ok (.i2l, 1) := by decide +kernel
theorem dX7_sell_80 : decode cX7_sell 80 = .ok (.ladd, 1) := by decide +kernel
theorem dX7_sell_81 : decode cX7_sell 81 = .ok (.putfield 101, 3) := by decide +kernel
theorem dX7_sell_84 : decode cX7_sell 84 = .ok (.aload_n 0, 1) := by decide +kernel
theorem dX7_sell_85 : decode cX7_sell 85 = .ok (.bipush 115, 2) := by decide +kernel
theorem dX7_sell_87 : decode cX7_sell 87 = .ok (.invokevirtual 105, 3) := by decide +kernel
theorem dX7_sell_90 : decode cX7_sell 90 = .ok (.iload_n 3, 1) := by decide +kernel
theorem dX7_sell_91 : decode cX7_sell 91 = .ok (.ireturn, 1) := by decide +kernel
theorem dX7_isNoPair_0 : decode cX7_isNoPair 0 = .ok (.aload_n 0, 1) := by decide +kernel
theorem dX7_isNoPair_1 : decode cX7_isNoPair 1 = .ok (.iload_n 1, 1) := by decide +kernel
theorem dX7_isNoPair_2 : decode cX7_isNoPair 2 = .ok (.iconst 0, 1) := by decide +kernel
theorem dX7_isNoPair_3 : decode cX7_isNoPair 3 = .ok (.aload_n 0, 1) := by decide +kernel
theorem dX7_isNoPair_4 : decode cX7_isNoPair 4 = .ok (.getfield 55, 3) := by decide +kernel
theorem dX7_isNoPair_7 : decode cX7_isNoPair 7 = .ok (.iconst 1, 1) := by decide +kernel
theorem dX7_isNoPair_8 : decode cX7_isNoPair 8 = .ok (.isub, 1) := by decide +kernel
theorem dX7_isNoPair_9 : decode cX7_isNoPair 9 = .ok (.invokestatic 58, 3) := by decide +kernel
theorem dX7_isNoPair_12 : decode cX7_isNoPair 12 = .ok (.ifCond .eq 17, 3) := by decide +kernel
theorem dX7_isNoPair_15 : decode cX7_isNoPair 15 = .ok (.iload_n 2, 1) := by decide +kernel
theorem dX7_isNoPair_16 : decode cX7_isNoPair 16 = .ok (.iconst 0, 1) := by decide +kernel
theorem dX7_isNoPair_17 : decode cX7_isNoPair 17 = .ok (.aload_n 0, 1) := by decide +kernel
theorem dX7_isNoPair_18 : decode cX7_isNoPair 18 = .ok (.getfield 55, 3) := by decide +kernel
theorem dX7_isNoPair_21 : decode cX7_isNoPair 21 = .ok (.iconst 1, 1) := by decide +kernel
theorem dX7_isNoPair_22 : decode cX7_isNoPair 22 = .ok (.isub, 1) := by decide +kernel
theorem dX7_isNoPair_23 : decode cX7_isNoPair 23 = .ok (.invokestatic 58, 3) := by decide +kernel
theorem dX7_isNoPair_26 : decode cX7_isNoPair 26 = .ok (.ifCond .ne 7, 3) := by decide +kernel
theorem dX7_isNoPair_29 : decode cX7_isNoPair 29 = .ok (.iconst 1, 1) := by decide +kernel
theorem dX7_isNoPair_30 : decode cX7_isNoPair 30 = .ok (.goto 4, 3) := by decide +kernel
theorem dX7_isNoPair_33 : decode cX7_isNoPair 33 = .ok (.iconst 0, 1) := by decide +kernel
theorem dX7_isNoPair_34 : decode cX7_isNoPair 34 = .ok (.iconst 1, 1) := by decide +kernel
theorem dX7_isNoPair_35 : decode cX7_isNoPair 35 = .ok (.invokevirtual 62, 3) := by decide +kernel
theorem dX7_isNoPair_38 : decode cX7_isNoPair 38 = .ok (.ireturn, 1) := by decide +kernel
theorem dX7_transfer_0 : decode cX7_transfer 0 = .ok (.aload_n 0, 1) := by decide +kernel
theorem dX7_transfer_1 : decode cX7_transfer 1 = .ok (.iload_n 1, 1) := by decide +kernel
theorem dX7_transfer_2 : decode cX7_transfer 2 = .ok (.iload_n 2, 1) := by decide +kernel
theorem dX7_transfer_3 : decode cX7_transfer 3 = .ok (.invokevirtual 125, 3) := by decide +kernel
theorem dX7_transfer_6 : decode cX7_transfer 6 = .ok (.ifCond .ne 79, 3) := by decide +kernel
theorem dX7_transfer_9 : decode cX7_transfer 9 = .ok (.aload_n 0, 1) := by decide +kernel
theorem dX7_transfer_10 : decode cX7_transfer 10 = .ok (.iload_n 1, 1) := by decide +kernel
theorem dX7_transfer_11 : decode cX7_transfer 11 = .ok (.iload_n 2, 1) := by decide +kernel
theorem dX7_transfer_12 : decode cX7_transfer 12 = .ok (.if_icmp .eq 14, 3) := by decide +kernel
theorem dX7_transfer_15 : decode cX7_transfer 15 = .ok (.iload_n 3, 1) := by decide +kernel
theorem dX7_transfer_16 : decode cX7_transfer 16 = .ok (.iconst 1, 1) := by decide +kernel
theorem dX7_transfer_17 : decode cX7_transfer 17 = .ok (.sipush 5000, 3) := by decide +kernel
theorem dX7_transfer_20 : decode cX7_transfer 20 = .ok (.invokestatic 58, 3) := by decide +kernel
theorem dX7_transfer_23 : decode cX7_transfer 23 = .ok (.ifCond .ne 7, 3) := by decide +kernel
theorem dX7_transfer_26 : decode cX7_transfer 26 = .ok (.iconst 1, 1) := by decide +kernel
theorem dX7_transfer_27 : decode cX7_transfer 27 = .ok (.goto 4, 3) := by decide +kernel
theorem dX7_transfer_30 : decode cX7_transfer 30 = .ok (.iconst 0, 1) := by decide +kernel
theorem dX7_transfer_31 : decode cX7_transfer 31 = .ok (.iconst 2, 1) := by decide +kernel
theorem dX7_transfer_32 : decode cX7_transfer 32 = .ok (.invokevirtual 62, 3) := by decide +kernel
theorem dX7_transfer_35 : decode cX7_transfer 35 = .ok (.ifCond .ne 50, 3) := by decide +kernel
theorem dX7_transfer_38 : decode cX7_transfer 38 = .ok (.aload_n 0, 1) := by decide +kernel
theorem dX7_transfer_39 : decode cX7_transfer 39 = .ok (.aload_n 0, 1) := by decide +kernel
theorem dX7_transfer_40 : decode cX7_transfer 40 = .ok (.iload_n 1, 1) := by decide +kernel
theorem dX7_transfer_41 : decode cX7_transfer 41 = .ok (.invokevirtual 93, 3) := by decide +kernel
theorem dX7_transfer_44 : decode cX7_transfer 44 = .ok (.iload_n 3, 1) := by decide +kernel
theorem dX7_transfer_45 : decode cX7_transfer 45 = .ok (.if_icmp .lt 28, 3) := by decide +kernel
theorem dX7_transfer_48 : decode cX7_transfer 48 = .ok (.aload_n 0, 1) := by decide +kernel
theorem dX7_transfer_49 : decode cX7_transfer 49 = .ok (.iload_n 2, 1) := by decide +kernel
theorem dX7_transfer_50 : decode cX7_transfer 50 = .ok (.invokevirtual 93, 3) := by decide +kernel
theorem dX7_transfer_53 : decode cX7_transfer 53 = .ok (.iload_n 3, 1) := by decide +kernel
theorem dX7_transfer_54 : decode cX7_transfer 54 = .ok (.iadd, 1) := by decide +kernel
theorem dX7_transfer_55 : decode cX7_transfer 55 = .ok (.aload_n 0, 1) := by decide +kernel
theorem dX7_transfer_56 : decode cX7_transfer 56 = .ok (.getfield 9, 3) := by decide +kernel
theorem dX7_transfer_59 : decode cX7_transfer 59 = .ok (.iload_n 2, 1) := by decide +kernel
theorem dX7_transfer_60 : decode cX7_transfer 60 = .ok (.iaload, 1) := by decide +kernel
theorem dX7_transfer_61 : decode cX7_transfer 61 = .ok (.if_icmp .gt 12, 3) := by decide +kernel
theorem dX7_transfer_64 : decode cX7_transfer 64 = .ok (.aload_n 0, 1) := by decide +kernel
theorem dX7_transfer_65 : decode cX7_transfer 65 = .ok (.getfield 80, 3) := by decide +kernel
theorem dX7_transfer_68 : decode cX7_transfer 68 = .ok (.bipush 80, 2) := by decide +kernel
theorem dX7_transfer_70 : decode cX7_transfer 70 = .ok (.if_icmp .ne 7, 3) := by decide +kernel
theorem dX7_transfer_73 : decode cX7_transfer 73 = .ok (.iconst 1, 1) := by decide +kernel
theorem dX7_transfer_74 : decode cX7_transfer 74 = .ok (.goto 4, 3) := by decide +kernel
theorem dX7_transfer_77 : decode cX7_transfer 77 = .ok (.iconst 0, 1) := by decide +kernel
theorem dX7_transfer_78 : decode cX7_transfer 78 = .ok (.iconst 3, 1) := by decide +kernel
theorem dX7_transfer_79 : decode cX7_transfer 79 = .ok (.invokevirtual 62, 3) := by decide +kernel
theorem dX7_transfer_82 : decode cX7_transfer 82 = .ok (.ifCond .eq 5, 3) := by decide +kernel
theorem dX7_transfer_85 : decode cX7_transfer 85 = .ok (.iconst 0, 1) := by decide +kernel
theorem dX7_transfer_86 : decode cX7_transfer 86 = .ok (.ireturn, 1) := by decide +kernel
theorem dX7_transfer_87 : decode cX7_transfer 87 = .ok (.aload_n 0, 1) := by decide +kernel
theorem dX7_transfer_88 : decode cX7_transfer 88 = .ok (.getfield 13, 3) := by decide +kernel
theorem dX7_transfer_91 : decode cX7_transfer 91 = .ok (.iload_n 2, 1) := by decide +kernel
theorem dX7_transfer_92 : decode cX7_transfer 92 = .ok (.iaload, 1) := by decide +kernel
theorem dX7_transfer_93 : decode cX7_transfer 93 = .ok (.istore 4, 2) := by decide +kernel
theorem dX7_transfer_95 : decode cX7_transfer 95 = .ok (.aload_n 0, 1) := by decide +kernel
theorem dX7_transfer_96 : decode cX7_transfer 96 = .ok (.iload_n 1, 1) := by decide +kernel
theorem dX7_transfer_97 : decode cX7_transfer 97 = .ok (.iload_n 3, 1) := by decide +kernel
theorem dX7_transfer_98 : decode cX7_transfer 98 = .ok (.iload_n 2, 1) := by decide +kernel
theorem dX7_transfer_99 : decode cX7_transfer 99 = .ok (.invokevirtual 121, 3) := by decide +kernel
theorem dX7_transfer_102 : decode cX7_transfer 102 = .ok (.istore 5, 2) := by decide +kernel
theorem dX7_transfer_104 : decode cX7_transfer 104 = .ok (.aload_n 0, 1) := by decide +kernel
theorem dX7_transfer_105 : decode cX7_transfer 105 = .ok (.bipush 116, 2) := by decide +kernel
theorem dX7_transfer_107 : decode cX7_transfer 107 = .ok (.invokevirtual 105, 3) := by decide +kernel
theorem dX7_transfer_110 : decode cX7_transfer 110 = .ok (.aload_n 0, 1) := by decide +kernel
theorem dX7_transfer_111 : decode cX7_transfer 111 = .ok (.getfield 13, 3) := by decide +kernel
theorem dX7_transfer_114 : decode cX7_transfer 114 = .ok (.iload_n 2, 1) := by decide +kernel
theorem dX7_transfer_115 : decode cX7_transfer 115 = .ok (.iaload, 1) := by decide +kernel
theorem dX7_transfer_116 : decode cX7_transfer 116 = .ok (.iload 4, 2) := by decide +kernel
theorem dX7_transfer_118 : decode cX7_transfer 118 = .ok (.isub, 1) := by decide +kernel
theorem dX7_transfer_119 : decode cX7_transfer 119 = .ok (.ireturn, 1) := by decide +kernel
theorem dX7_dry_0 : decode cX7_dry 0 = .ok (.aload_n 0, 1) := by decide +kernel
theorem dX7_dry_1 : decode cX7_dry 1 = .ok (.iload_n 1, 1) := by decide +kernel
theorem dX7_dry_2 : decode cX7_dry 2 = .ok (.invokevirtual 66, 3) := by decide +kernel
theorem dX7_dry_5 : decode cX7_dry 5 = .ok (.ifCond .ne 54, 3) := by decide +kernel
theorem dX7_dry_8 : decode cX7_dry 8 = .ok (.aload_n 0, 1) := by decide +kernel
theorem dX7_dry_9 : decode cX7_dry 9 = .ok (.iload_n 2, 1) := by decide +kernel
theorem dX7_dry_10 : decode cX7_dry 10 = .ok (.invokestatic 70, 3) := by decide +kernel
theorem dX7_dry_13 : decode cX7_dry 13 = .ok (.ifCond .ne 7, 3) := by decide +kernel
theorem dX7_dry_16 : decode cX7_dry 16 = .ok (.iconst 1, 1) := by decide +kernel
theorem dX7_dry_17 : decode cX7_dry 17 = .ok (.goto 4, 3) := by decide +kernel
theorem dX7_dry_20 : decode cX7_dry 20 = .ok (.iconst 0, 1) := by decide +kernel
theorem dX7_dry_21 : decode cX7_dry 21 = .ok (.iconst 2, 1) := by decide +kernel
theorem dX7_dry_22 : decode cX7_dry 22 = .ok (.invokevirtual 62, 3) := by decide +kernel
theorem dX7_dry_25 : decode cX7_dry 25 = .ok (.ifCond .ne 34, 3) := by decide +kernel
theorem dX7_dry_28 : decode cX7_dry 28 = .ok (.aload_n 0, 1) := by decide +kernel
theorem dX7_dry_29 : decode cX7_dry 29 = .ok (.aload_n 0, 1) := by decide +kernel
theorem dX7_dry_30 : decode cX7_dry 30 = .ok (.iload_n 1, 1) := by decide +kernel
theorem dX7_dry_31 : decode cX7_dry 31 = .ok (.iload_n 2, 1) := by decide +kernel
theorem dX7_dry_32 : decode cX7_dry 32 = .ok (.invokevirtual 129, 3) := by decide +kernel
theorem dX7_dry_35 : decode cX7_dry 35 = .ok (.ifCond .eq 12, 3) := by decide +kernel
theorem dX7_dry_38 : decode cX7_dry 38 = .ok (.aload_n 0, 1) := by decide +kernel
theorem dX7_dry_39 : decode cX7_dry 39 = .ok (.getfield 80, 3) := by decide +kernel
theorem dX7_dry_42 : decode cX7_dry 42 = .ok (.bipush 80, 2) := by decide +kernel
theorem dX7_dry_44 : decode cX7_dry 44 = .ok (.if_icmp .ne 7, 3) := by decide +kernel
theorem dX7_dry_47 : decode cX7_dry 47 = .ok (.iconst 1, 1) := by decide +kernel
theorem dX7_dry_48 : decode cX7_dry 48 = .ok (.goto 4, 3) := by decide +kernel
theorem dX7_dry_51 : decode cX7_dry 51 = .ok (.iconst 0, 1) := by decide +kernel
theorem dX7_dry_52 : decode cX7_dry 52 = .ok (.iconst 3, 1) := by decide +kernel
theorem dX7_dry_53 : decode cX7_dry 53 = .ok (.invokevirtual 62, 3) := by decide +kernel
theorem dX7_dry_56 : decode cX7_dry 56 = .ok (.ifCond .eq 5, 3) := by decide +kernel
theorem dX7_dry_59 : decode cX7_dry 59 = .ok (.iconst 0, 1) := by decide +kernel
theorem dX7_dry_60 : decode cX7_dry 60 = .ok (.ireturn, 1) := by decide +kernel
theorem dX7_dry_61 : decode cX7_dry 61 = .ok (.aload_n 0, 1) := by decide +kernel
theorem dX7_dry_62 : decode cX7_dry 62 = .ok (.iload_n 1, 1) := by decide +kernel
theorem dX7_dry_63 : decode cX7_dry 63 = .ok (.invokevirtual 93, 3) := by decide +kernel
theorem dX7_dry_66 : decode cX7_dry 66 = .ok (.istore_n 3, 1) := by decide +kernel
theorem dX7_dry_67 : decode cX7_dry 67 = .ok (.aload_n 0, 1) := by decide +kernel
theorem dX7_dry_68 : decode cX7_dry 68 = .ok (.dup, 1) := by decide +kernel
theorem dX7_dry_69 : decode cX7_dry 69 = .ok (.getfield 101, 3) := by decide +kernel
theorem dX7_dry_72 : decode cX7_dry 72 = .ok (.aload_n 0, 1) := by decide +kernel
theorem dX7_dry_73 : decode cX7_dry 73 = .ok (.iload_n 1, 1) := by decide +kernel
theorem dX7_dry_74 : decode cX7_dry 74 = .ok (.iload_n 2, 1) := by decide +kernel
theorem dX7_dry_75 : decode cX7_dry 75 = .ok (.invokevirtual 132, 3) := by decide +kernel
theorem dX7_dry_78 : decode cX7_dry 78 = .ok (.i2l, 1) := by decide +kernel
theorem dX7_dry_79 : decode cX7_dry 79 = .ok (.lsub, 1) := by decide +kernel
theorem dX7_dry_80 : decode cX7_dry 80 = .ok (.putfield 101, 3) := by decide +kernel
theorem dX7_dry_83 : decode cX7_dry 83 = .ok (.bipush 90, 2) := by decide +kernel
theorem dX7_dry_85 : decode cX7_dry 85 = .ok (.iload_n 1, 1) := by decide +kernel
theorem dX7_dry_86 : decode cX7_dry 86 = .ok (.imul, 1) := by decide +kernel
theorem dX7_dry_87 : decode cX7_dry 87 = .ok (.istore 4, 2) := by decide +kernel
theorem dX7_dry_89 : decode cX7_dry 89 = .ok (.iload 4, 2) := by decide +kernel
theorem dX7_dry_91 : decode cX7_dry 91 = .ok (.bipush 90, 2) := by decide +kernel
theorem dX7_dry_93 : decode cX7_dry 93 = .ok (.iload_n 1, 1) := by decide +kernel
theorem dX7_dry_94 : decode cX7_dry 94 = .ok (.imul, 1) := by decide +kernel
theorem dX7_dry_95 : decode cX7_dry 95 = .ok (.aload_n 0, 1) := by decide +kernel
theorem dX7_dry_96 : decode cX7_dry 96 = .ok (.getfield 13, 3) := by decide +kernel
theorem dX7_dry_99 : decode cX7_dry 99 = .ok (.iload_n 1, 1) := by decide +kernel
theorem dX7_dry_100 : decode cX7_dry 100 = .ok (.iaload, 1) := by decide +kernel
theorem dX7_dry_101 : decode cX7_dry 101 = .ok (.iadd, 1) := by decide +kernel
theorem dX7_dry_102 : decode cX7_dry 102 = .ok (.if_icmp .ge 79, 3) := by decide +kernel
theorem dX7_dry_105 : decode cX7_dry 105 = .ok (.aload_n 0, 1) := by decide +kernel
theorem dX7_dry_106 : decode cX7_dry 106 = .ok (.getfield 25, 3) := by decide +kernel
theorem dX7_dry_109 : decode cX7_dry 109 = .ok (.iload 4, 2) := by decide +kernel
theorem dX7_dry_111 : decode cX7_dry 111 = .ok (.iaload, 1) := by decide +kernel
theorem dX7_dry_112 : decode cX7_dry 112 = .ok (.iload_n 2, 1) := by decide +kernel
theorem dX7_dry_113 : decode cX7_dry 113 = .ok (.if_icmp .le 62, 3) := by decide +kernel
theorem dX7_dry_116 : decode cX7_dry 116 = .ok (.aload_n 0, 1) := by decide +kernel
theorem dX7_dry_117 : decode cX7_dry 117 = .ok (.getfield 22, 3) := by decide +kernel
theorem dX7_dry_120 : decode cX7_dry 120 = .ok (.iload 4, 2) := by decide +kernel
theorem dX7_dry_122 : decode cX7_dry 122 = .ok (.aload_n 0, 1) := by decide +kernel
theorem dX7_dry_123 : decode cX7_dry 123 = .ok (.getfield 22, 3) := by decide +kernel
theorem dX7_dry_126 : decode cX7_dry 126 = .ok (.iload 4, 2) := by decide +kernel
theorem dX7_dry_128 : decode cX7_dry 128 = .ok (.iaload, 1) := by decide +kernel
theorem dX7_dry_129 : decode cX7_dry 129 = .ok (.sipush 1000, 3) := by decide +kernel
theorem dX7_dry_132 : decode cX7_dry 132 = .ok (.aload_n 0, 1) := by decide +kernel
theorem dX7_dry_133 : decode cX7_dry 133 = .ok (.getfield 25, 3) := by decide +kernel
theorem dX7_dry_136 : decode cX7_dry 136 = .ok (.iload 4, 2) := by decide +kernel
theorem dX7_dry_138 : decode cX7_dry 138 = .ok (.iaload, 1) := by decide +kernel
theorem dX7_dry_139 : decode cX7_dry 139 = .ok (.isub, 1) := by decide +kernel
theorem dX7_dry_140 : decode cX7_dry 140 = .ok (.imul, 1) := by decide +kernel
theorem dX7_dry_141 : decode cX7_dry 141 = .ok (.sipush 1000, 3) := by decide +kernel
theorem dX7_dry_144 : decode cX7_dry 144 = .ok (.iload_n 2, 1) := by decide +kernel
theorem dX7_dry_145 : decode cX7_dry 145 = .ok (.isub, 1) := by decide +kernel
theorem dX7_dry_146 : decode cX7_dry 146 = .ok (.idiv, 1) := by decide +kernel
theorem dX7_dry_147 : decode cX7_dry 147 = .ok (.iastore, 1) := by decide +kernel
theorem dX7_dry_148 : decode cX7_dry 148 = .ok (.aload_n 0, 1) := by decide +kernel
theorem dX7_dry_149 : decode cX7_dry 149 = .ok (.getfield 25, 3) := by decide +kernel
theorem dX7_dry_152 : decode cX7_dry 152 = .ok (.iload 4, 2) := by decide +kernel
theorem dX7_dry_154 : decode cX7_dry 154 = .ok (.iload_n 2, 1) := by decide +kernel
theorem dX7_dry_155 : decode cX7_dry 155 = .ok (.iastore, 1) := by decide +kernel
theorem dX7_dry_156 : decode cX7_dry 156 = .ok (.aload_n 0, 1) := by decide +kernel
theorem dX7_dry_157 : decode cX7_dry 157 = .ok (.getfield 31, 3) := by decide +kernel
theorem dX7_dry_160 : decode cX7_dry 160 = .ok (.iload 4, 2) := by decide +kernel
theorem dX7_dry_162 : decode cX7_dry 162 = .ok (.aload_n 0, 1) := by decide +kernel
theorem dX7_dry_163 : decode cX7_dry 163 = .ok (.iload_n 2, 1) := by decide +kernel
theorem dX7_dry_164 : decode cX7_dry 164 = .ok (.aload_n 0, 1) := by decide +kernel
theorem dX7_dry_165 : decode cX7_dry 165 = .ok (.getfield 28, 3) := by decide +kernel
theorem dX7_dry_168 : decode cX7_dry 168 = .ok (.iload 4, 2) := by decide +kernel
theorem dX7_dry_170 : decode cX7_dry 170 = .ok (.iaload, 1) := by decide +kernel
theorem dX7_dry_171 : decode cX7_dry 171 = .ok (.invokevirtual 76, 3) := by decide +kernel
theorem dX7_dry_174 : decode cX7_dry 174 = .ok (.iastore, 1) := by decide +kernel
theorem dX7_dry_175 : decode cX7_dry 175 = .ok (.iinc 4 1, 3) := by decide +kernel
theorem dX7_dry_178 : decode cX7_dry 178 = .ok (.goto (-89), 3) := by decide +kernel
theorem dX7_dry_181 : decode cX7_dry 181 = .ok (.aload_n 0, 1) := by decide +kernel
theorem dX7_dry_182 : decode cX7_dry 182 = .ok (.iload_n 1, 1) := by decide +kernel
theorem dX7_dry_183 : decode cX7_dry 183 = .ok (.invokevirtual 117, 3) := by decide +kernel
theorem dX7_dry_186 : decode cX7_dry 186 = .ok (.aload_n 0, 1) := by decide +kernel
theorem dX7_dry_187 : decode cX7_dry 187 = .ok (.bipush 100, 2) := by decide +kernel
theorem dX7_dry_189 : decode cX7_dry 189 = .ok (.invokevirtual 105, 3) := by decide +kernel
theorem dX7_dry_192 : decode cX7_dry 192 = .ok (.iload_n 3, 1) := by decide +kernel
theorem dX7_dry_193 : decode cX7_dry 193 = .ok (.aload_n 0, 1) := by decide +kernel
theorem dX7_dry_194 : decode cX7_dry 194 = .ok (.iload_n 1, 1) := by decide +kernel
theorem dX7_dry_195 : decode cX7_dry 195 = .ok (.invokevirtual 93, 3) := by decide +kernel
theorem dX7_dry_198 : decode cX7_dry 198 = .ok (.isub, 1) := by decide +kernel
theorem dX7_dry_199 : decode cX7_dry 199 = .ok (.ireturn, 1) := by decide +kernel
theorem dX7_isWet_0 : decode cX7_isWet 0 = .ok (.iconst 0, 1) := by decide +kernel
theorem dX7_isWet_1 : decode cX7_isWet 1 = .ok (.istore_n 3, 1) := by decide +kernel
theorem dX7_isWet_2 : decode cX7_isWet 2 = .ok (.iconst 0, 1) := by decide +kernel
theorem dX7_isWet_3 : decode cX7_isWet 3 = .ok (.istore 4, 2) := by decide +kernel
theorem dX7_isWet_5 : decode cX7_isWet 5 = .ok (.iload 4, 2) := by decide +kernel
theorem dX7_isWet_7 : decode cX7_isWet 7 = .ok (.aload_n 0, 1) := by decide +kernel
theorem dX7_isWet_8 : decode cX7_isWet 8 = .ok (.getfield 13, 3) := by decide +kernel
theorem dX7_isWet_11 : decode cX7_isWet 11 = .ok (.iload_n 1, 1) := by decide +kernel
theorem dX7_isWet_12 : decode cX7_isWet 12 = .ok (.iaload, 1) := by decide +kernel
theorem dX7_isWet_13 : decode cX7_isWet 13 = .ok (.if_icmp .ge 33, 3) := by decide +kernel
theorem dX7_isWet_16 : decode cX7_isWet 16 = .ok (.iload_n 3, 1) := by decide +kernel
theorem dX7_isWet_17 : decode cX7_isWet 17 = .ok (.aload_n 0, 1) := by decide +kernel
theorem dX7_isWet_18 : decode cX7_isWet 18 = .ok (.getfield 25, 3) := by decide +kernel
theorem dX7_isWet_21 : decode cX7_isWet 21 = .ok (.bipush 90, 2) := by decide +kernel
theorem dX7_isWet_23 : decode cX7_isWet 23 = .ok (.iload_n 1, 1) := by decide +kernel
theorem dX7_isWet_24 : decode cX7_isWet 24 = .ok (.imul, 1) := by decide +kernel
theorem dX7_isWet_25 : decode cX7_isWet 25 = .ok (.iload 4, 2) := by decide +kernel
theorem dX7_isWet_27 : decode cX7_isWet 27 = .ok (.iadd, 1) := by decide +kernel
theorem dX7_isWet_28 : decode cX7_isWet 28 = .ok (.iaload, 1) := by decide +kernel
theorem dX7_isWet_29 : decode cX7_isWet 29 = .ok (.iload_n 2, 1) := by decide +kernel
theorem dX7_isWet_30 : decode cX7_isWet 30 = .ok (.if_icmp .le 7, 3) := by decide +kernel
theorem dX7_isWet_33 : decode cX7_isWet 33 = .ok (.iconst 1, 1) := by decide +kernel
theorem dX7_isWet_34 : decode cX7_isWet 34 = .ok (.goto 4, 3) := by decide +kernel
theorem dX7_isWet_37 : decode cX7_isWet 37 = .ok (.iconst 0, 1) := by decide +kernel
theorem dX7_isWet_38 : decode cX7_isWet 38 = .ok (.ior, 1) := by decide +kernel
theorem dX7_isWet_39 : decode cX7_isWet 39 = .ok (.istore_n 3, 1) := by decide +kernel
theorem dX7_isWet_40 : decode cX7_isWet 40 = .ok (.iinc 4 1, 3) := by decide +kernel
theorem dX7_isWet_43 : decode cX7_isWet 43 = .ok (.goto (-38), 3) := by decide +kernel
theorem dX7_isWet_46 : decode cX7_isWet 46 = .ok (.iload_n 3, 1) := by decide +kernel
theorem dX7_isWet_47 : decode cX7_isWet 47 = .ok (.ireturn, 1) := by decide +kernel
theorem dX7_drying_0 : decode cX7_drying 0 = .ok (.iconst 0, 1) := by decide +kernel
theorem dX7_drying_1 : decode cX7_drying 1 = .ok (.istore_n 3, 1) := by decide +kernel
theorem dX7_drying_2 : decode cX7_drying 2 = .ok (.bipush 90, 2) := by decide +kernel
theorem dX7_drying_4 : decode cX7_drying 4 = .ok (.iload_n 1, 1) := by decide +kernel
theorem dX7_drying_5 : decode cX7_drying 5 = .ok (.imul, 1) := by decide +kernel
theorem dX7_drying_6 : decode cX7_drying 6 = .ok (.istore 4, 2) := by decide +kernel
theorem dX7_drying_8 : decode cX7_drying 8 = .ok (.iload 4, 2) := by decide +kernel
theorem dX7_drying_10 : decode cX7_drying 10 = .ok (.bipush 90, 2) := by decide +kernel
theorem dX7_drying_12 : decode cX7_drying 12 = .ok (.iload_n 1, 1) := by decide +kernel
theorem dX7_drying_13 : decode cX7_drying 13 = .ok (.imul, 1) := by decide +kernel
theorem dX7_drying_14 : decode cX7_drying 14 = .ok (.aload_n 0, 1) := by decide +kernel
theorem dX7_drying_15 : decode cX7_drying 15 = .ok (.getfield 13, 3) := by decide +kernel
theorem dX7_drying_18 : decode cX7_drying 18 = .ok (.iload_n 1, 1) := by decide +kernel
theorem dX7_drying_19 : decode cX7_drying 19 = .ok (.iaload, 1) := by decide +kernel
theorem dX7_drying_20 : decode cX7_drying 20 = .ok (.iadd, 1) := by decide +kernel
theorem dX7_drying_21 : decode cX7_drying 21 = .ok (.if_icmp .ge 47, 3) := by decide +kernel
theorem dX7_drying_24 : decode cX7_drying 24 = .ok (.iload_n 3, 1) := by decide +kernel
theorem dX7_drying_25 : decode cX7_drying 25 = .ok (.aload_n 0, 1) := by decide +kernel
theorem dX7_drying_26 : decode cX7_drying 26 = .ok (.getfield 25, 3) := by decide +kernel
theorem dX7_drying_29 : decode cX7_drying 29 = .ok (.iload 4, 2) := by decide +kernel
theorem dX7_drying_31 : decode cX7_drying 31 = .ok (.iaload, 1) := by decide +kernel
theorem dX7_drying_32 : decode cX7_drying 32 = .ok (.iload_n 2, 1) := by decide +kernel
theorem dX7_drying_33 : decode cX7_drying 33 = .ok (.if_icmp .le 26, 3) := by decide +kernel
theorem dX7_drying_36 : decode cX7_drying 36 = .ok (.aload_n 0, 1) := by decide +kernel
theorem dX7_drying_37 : decode cX7_drying 37 = .ok (.getfield 22, 3) := by decide +kernel
theorem dX7_drying_40 : decode cX7_drying 40 = .ok (.iload 4, 2) := by decide +kernel
theorem dX7_drying_42 : decode cX7_drying 42 = .ok (.iaload, 1) := by decide +kernel
theorem dX7_drying_43 : decode cX7_drying 43 = .ok (.aload_n 0, 1) := by decide +kernel
theorem dX7_drying_44 : decode cX7_drying 44 = .ok (.getfield 25, 3) := by decide +kernel
theorem dX7_drying_47 : decode cX7_drying 47 = .ok (.iload 4, 2) := by decide +kernel
theorem dX7_drying_49 : decode cX7_drying 49 = .ok (.iaload, 1) := by decide +kernel
theorem dX7_drying_50 : decode cX7_drying 50 = .ok (.iload_n 2, 1) := by decide +kernel
theorem dX7_drying_51 : decode cX7_drying 51 = .ok (.isub, 1) := by decide +kernel
theorem dX7_drying_52 : decode cX7_drying 52 = .ok (.imul, 1) := by decide +kernel
theorem dX7_drying_53 : decode cX7_drying 53 = .ok (.bipush 10, 2) := by decide +kernel
theorem dX7_drying_55 : decode cX7_drying 55 = .ok (.idiv, 1) := by decide +kernel
theorem dX7_drying_56 : decode cX7_drying 56 = .ok (.goto 4, 3) := by decide +kernel
theorem dX7_drying_59 : decode cX7_drying 59 = .ok (.iconst 0, 1) := by decide +kernel
theorem dX7_drying_60 : decode cX7_drying 60 = .ok (.iadd, 1) := by decide +kernel
theorem dX7_drying_61 : decode cX7_drying 61 = .ok (.istore_n 3, 1) := by decide +kernel
theorem dX7_drying_62 : decode cX7_drying 62 = .ok (.iinc 4 1, 3) := by decide +kernel
theorem dX7_drying_65 : decode cX7_drying 65 = .ok (.goto (-57), 3) := by decide +kernel
theorem dX7_drying_68 : decode cX7_drying 68 = .ok (.iload_n 3, 1) := by decide +kernel
theorem dX7_drying_69 : decode cX7_drying 69 = .ok (.ireturn, 1) := by decide +kernel
theorem dX7_dryingCost_0 : decode cX7_dryingCost 0 = .ok (.aload_n 0, 1) := by decide +kernel
theorem dX7_dryingCost_1 : decode cX7_dryingCost 1 = .ok (.iload_n 1, 1) := by decide +kernel
theorem dX7_dryingCost_2 : decode cX7_dryingCost 2 = .ok (.invokevirtual 66, 3) := by decide +kernel
theorem dX7_dryingCost_5 : decode cX7_dryingCost 5 = .ok (.ifCond .ne 23, 3) := by decide +kernel
theorem dX7_dryingCost_8 : decode cX7_dryingCost 8 = .ok (.aload_n 0, 1) := by decide +kernel
theorem dX7_dryingCost_9 : decode cX7_dryingCost 9 = .ok (.iload_n 2, 1) := by decide +kernel
theorem dX7_dryingCost_10 : decode cX7_dryingCost 10 = .ok (.invokestatic 70, 3) := by decide +kernel
theorem dX7_dryingCost_13 : decode cX7_dryingCost 13 = .ok (.ifCond .ne 7, 3) := by decide +kernel
theorem dX7_dryingCost_16 : decode cX7_dryingCost 16 = .ok (.iconst 1, 1) := by decide +kernel
theorem dX7_dryingCost_17 : decode cX7_dryingCost 17 = .ok (.goto 4, 3) := by decide +kernel
theorem dX7_dryingCost_20 : decode cX7_dryingCost 20 = .ok (.iconst 0, 1) := by decide +kernel
theorem dX7_dryingCost_21 : decode cX7_dryingCost 21 = .ok (.iconst 2, 1) := by decide +kernel
theorem dX7_dryingCost_22 : decode cX7_dryingCost 22 = .ok (.invokevirtual 62, 3) := by decide +kernel
theorem dX7_dryingCost_25 : decode cX7_dryingCost 25 = .ok (.ifCond .eq 7, 3) := by decide +kernel
theorem dX7_dryingCost_28 : decode cX7_dryingCost 28 = .ok (.iconst 0, 1) := by decide +kernel
theorem dX7_dryingCost_29 : decode cX7_dryingCost 29 = .ok (.goto 9, 3) := by decide +kernel
theorem dX7_dryingCost_32 : decode cX7_dryingCost 32 = .ok (.aload_n 0, 1) := by decide +kernel
theorem dX7_dryingCost_33 : decode cX7_dryingCost 33 = .ok (.iload_n 1, 1) := by decide +kernel
theorem dX7_dryingCost_34 : decode cX7_dryingCost 34 = .ok (.iload_n 2, 1) := by decide +kernel
theorem dX7_dryingCost_35 : decode cX7_dryingCost 35 = .ok (.invokevirtual 132, 3) := by decide +kernel
theorem dX7_dryingCost_38 : decode cX7_dryingCost 38 = .ok (.ireturn, 1) := by decide +kernel
theorem dX7_bushelsIn_0 : decode cX7_bushelsIn 0 = .ok (.aload_n 0, 1) := by decide +kernel
theorem dX7_bushelsIn_1 : decode cX7_bushelsIn 1 = .ok (.iload_n 1, 1) := by decide +kernel
theorem dX7_bushelsIn_2 : decode cX7_bushelsIn 2 = .ok (.invokevirtual 66, 3) := by decide +kernel
theorem dX7_bushelsIn_5 : decode cX7_bushelsIn 5 = .ok (.ifCond .eq 7, 3) := by decide +kernel
theorem dX7_bushelsIn_8 : decode cX7_bushelsIn 8 = .ok (.iconst 0, 1) := by decide +kernel
theorem dX7_bushelsIn_9 : decode cX7_bushelsIn 9 = .ok (.goto 8, 3) := by decide +kernel
theorem dX7_bushelsIn_12 : decode cX7_bushelsIn 12 = .ok (.aload_n 0, 1) := by decide +kernel
theorem dX7_bushelsIn_13 : decode cX7_bushelsIn 13 = .ok (.iload_n 1, 1) := by decide +kernel
theorem dX7_bushelsIn_14 : decode cX7_bushelsIn 14 = .ok (.invokevirtual 93, 3) := by decide +kernel
theorem dX7_bushelsIn_17 : decode cX7_bushelsIn 17 = .ok (.ireturn, 1) := by decide +kernel
theorem dX7_layersIn_0 : decode cX7_layersIn 0 = .ok (.aload_n 0, 1) := by decide +kernel
theorem dX7_layersIn_1 : decode cX7_layersIn 1 = .ok (.iload_n 1, 1) := by decide +kernel
theorem dX7_layersIn_2 : decode cX7_layersIn 2 = .ok (.invokevirtual 66, 3) := by decide +kernel
theorem dX7_layersIn_5 : decode cX7_layersIn 5 = .ok (.ifCond .eq 7, 3) := by decide +kernel
theorem dX7_layersIn_8 : decode cX7_layersIn 8 = .ok (.iconst 0, 1) := by decide +kernel
theorem dX7_layersIn_9 : decode cX7_layersIn 9 = .ok (.goto 9, 3) := by decide +kernel
theorem dX7_layersIn_12 : decode cX7_layersIn 12 = .ok (.aload_n 0, 1) := by decide +kernel
theorem dX7_layersIn_13 : decode cX7_layersIn 13 = .ok (.getfield 13, 3) := by decide +kernel
theorem dX7_layersIn_16 : decode cX7_layersIn 16 = .ok (.iload_n 1, 1) := by decide +kernel
theorem dX7_layersIn_17 : decode cX7_layersIn 17 = .ok (.iaload, 1) := by decide +kernel
theorem dX7_layersIn_18 : decode cX7_layersIn 18 = .ok (.ireturn, 1) := by decide +kernel
theorem dX7_isNoLayer_0 : decode cX7_isNoLayer 0 = .ok (.aload_n 0, 1) := by decide +kernel
theorem dX7_isNoLayer_1 : decode cX7_isNoLayer 1 = .ok (.iload_n 1, 1) := by decide +kernel
theorem dX7_isNoLayer_2 : decode cX7_isNoLayer 2 = .ok (.invokevirtual 66, 3) := by decide +kernel
theorem dX7_isNoLayer_5 : decode cX7_isNoLayer 5 = .ok (.ifCond .ne 32, 3) := by decide +kernel
theorem dX7_isNoLayer_8 : decode cX7_isNoLayer 8 = .ok (.aload_n 0, 1) := by decide +kernel
theorem dX7_isNoLayer_9 : decode cX7_isNoLayer 9 = .ok (.iload_n 2, 1) := by decide +kernel
theorem dX7_isNoLayer_10 : decode cX7_isNoLayer 10 = .ok (.iconst 0, 1) := by decide +kernel
theorem dX7_isNoLayer_11 : decode cX7_isNoLayer 11 = .ok (.aload_n 0, 1) := by decide +kernel
theorem dX7_isNoLayer_12 : decode cX7_isNoLayer 12 = .ok (.getfield 13, 3) := by decide +kernel
theorem dX7_isNoLayer_15 : decode cX7_isNoLayer 15 = .ok (.iload_n 1, 1) := by decide +kernel
theorem dX7_isNoLayer_16 : decode cX7_isNoLayer 16 = .ok (.iaload, 1) := by decide +kernel
theorem dX7_isNoLayer_17 : decode cX7_isNoLayer 17 = .ok (.iconst 1, 1) := by decide +kernel
theorem dX7_isNoLayer_18 : decode cX7_isNoLayer 18 = .ok (.isub, 1) := by decide +kernel
theorem dX7_isNoLayer_19 : decode cX7_isNoLayer 19 = .ok (.invokestatic 58, 3) := by decide +kernel
theorem dX7_isNoLayer_22 : decode cX7_isNoLayer 22 = .ok (.ifCond .ne 7, 3) := by decide +kernel
theorem dX7_isNoLayer_25 : decode cX7_isNoLayer 25 = .ok (.iconst 1, 1) := by decide +kernel
theorem dX7_isNoLayer_26 : decode cX7_isNoLayer 26 = .ok (.goto 4, 3) := by decide +kernel
theorem dX7_isNoLayer_29 : decode cX7_isNoLayer 29 = .ok (.iconst 0, 1) := by decide +kernel
theorem dX7_isNoLayer_30 : decode cX7_isNoLayer 30 = .ok (.iconst 1, 1) := by decide +kernel
theorem dX7_isNoLayer_31 : decode cX7_isNoLayer 31 = .ok (.invokevirtual 62, 3) := by decide +kernel
theorem dX7_isNoLayer_34 : decode cX7_isNoLayer 34 = .ok (.ifCond .eq 7, 3) := by decide +kernel
theorem dX7_isNoLayer_37 : decode cX7_isNoLayer 37 = .ok (.iconst 1, 1) := by decide +kernel
theorem dX7_isNoLayer_38 : decode cX7_isNoLayer 38 = .ok (.goto 4, 3) := by decide +kernel
theorem dX7_isNoLayer_41 : decode cX7_isNoLayer 41 = .ok (.iconst 0, 1) := by decide +kernel
theorem dX7_isNoLayer_42 : decode cX7_isNoLayer 42 = .ok (.ireturn, 1) := by decide +kernel
theorem dX7_layerBushels_0 : decode cX7_layerBushels 0 = .ok (.aload_n 0, 1) := by decide +kernel
theorem dX7_layerBushels_1 : decode cX7_layerBushels 1 = .ok (.iload_n 1, 1) := by decide +kernel
theorem dX7_layerBushels_2 : decode cX7_layerBushels 2 = .ok (.iload_n 2, 1) := by decide +kernel
theorem dX7_layerBushels_3 : decode cX7_layerBushels 3 = .ok (.invokevirtual 135, 3) := by decide +kernel
theorem dX7_layerBushels_6 : decode cX7_layerBushels 6 = .ok (.ifCond .eq 7, 3) := by decide +kernel
theorem dX7_layerBushels_9 : decode cX7_layerBushels 9 = .ok (.iconst 0, 1) := by decide +kernel
theorem dX7_layerBushels_10 : decode cX7_layerBushels 10 = .ok (.goto 14, 3) := by decide +kernel
theorem dX7_layerBushels_13 : decode cX7_layerBushels 13 = .ok (.aload_n 0, 1) := by decide +kernel
theorem dX7_layerBushels_14 : decode cX7_layerBushels 14 = .ok (.getfield 22, 3) := by decide +kernel
theorem dX7_layerBushels_17 : decode cX7_layerBushels 17 = .ok (.aload_n 0, 1) := by decide +kernel
theorem dX7_layerBushels_18 : decode cX7_layerBushels 18 = .ok (.iload_n 1, 1) := by decide +kernel
theorem dX7_layerBushels_19 : decode cX7_layerBushels 19 = .ok (.iload_n 2, 1) := by decide +kernel
theorem dX7_layerBushels_20 : decode cX7_layerBushels 20 = .ok (.invokevirtual 109, 3) := by decide +kernel
theorem dX7_layerBushels_23 : decode cX7_layerBushels 23 = .ok (.iaload, 1) := by decide +kernel
theorem dX7_layerBushels_24 : decode cX7_layerBushels 24 = .ok (.ireturn, 1) := by decide +kernel
theorem dX7_layerAnew_0 : decode cX7_layerAnew 0 = .ok (.aload_n 0, 1) := by decide +kernel
theorem dX7_layerAnew_1 : decode cX7_layerAnew 1 = .ok (.iload_n 1, 1) := by decide +kernel
theorem dX7_layerAnew_2 : decode cX7_layerAnew 2 = .ok (.iload_n 2, 1) := by decide +kernel
theorem dX7_layerAnew_3 : decode cX7_layerAnew 3 = .ok (.invokevirtual 138, 3) := by decide +kernel
theorem dX7_layerAnew_6 : decode cX7_layerAnew 6 = .ok (.ireturn, 1) := by decide +kernel
theorem dX7_layerMoisture_0 : decode cX7_layerMoisture 0 = .ok (.aload_n 0, 1) := by decide +kernel
theorem dX7_layerMoisture_1 : decode cX7_layerMoisture 1 = .ok (.iload_n 1, 1) := by decide +kernel
theorem dX7_layerMoisture_2 : decode cX7_layerMoisture 2 = .ok (.iload_n 2, 1) := by decide +kernel
theorem dX7_layerMoisture_3 : decode cX7_layerMoisture 3 = .ok (.invokevirtual 135, 3) := by decide +kernel
theorem dX7_layerMoisture_6 : decode cX7_layerMoisture 6 = .ok (.ifCond .eq 7, 3) := by decide +kernel
theorem dX7_layerMoisture_9 : decode cX7_layerMoisture 9 = .ok (.iconst 0, 1) := by decide +kernel
theorem dX7_layerMoisture_10 : decode cX7_layerMoisture 10 = .ok (.goto 14, 3) := by decide +kernel
theorem dX7_layerMoisture_13 : decode cX7_layerMoisture 13 = .ok (.aload_n 0, 1) := by decide +kernel
theorem dX7_layerMoisture_14 : decode cX7_layerMoisture 14 = .ok (.getfield 25, 3) := by decide +kernel
theorem dX7_layerMoisture_17 : decode cX7_layerMoisture 17 = .ok (.aload_n 0, 1) := by decide +kernel
theorem dX7_layerMoisture_18 : decode cX7_layerMoisture 18 = .ok (.iload_n 1, 1) := by decide +kernel
theorem dX7_layerMoisture_19 : decode cX7_layerMoisture 19 = .ok (.iload_n 2, 1) := by decide +kernel
theorem dX7_layerMoisture_20 : decode cX7_layerMoisture 20 = .ok (.invokevirtual 109, 3) := by decide +kernel
theorem dX7_layerMoisture_23 : decode cX7_layerMoisture 23 = .ok (.iaload, 1) := by decide +kernel
theorem dX7_layerMoisture_24 : decode cX7_layerMoisture 24 = .ok (.ireturn, 1) := by decide +kernel
theorem dX7_layerForeign_0 : decode cX7_layerForeign 0 = .ok (.aload_n 0, 1) := by decide +kernel
theorem dX7_layerForeign_1 : decode cX7_layerForeign 1 = .ok (.iload_n 1, 1) := by decide +kernel
theorem dX7_layerForeign_2 : decode cX7_layerForeign 2 = .ok (.iload_n 2, 1) := by decide +kernel
theorem dX7_layerForeign_3 : decode cX7_layerForeign 3 = .ok (.invokevirtual 135, 3) := by decide +kernel
theorem dX7_layerForeign_6 : decode cX7_layerForeign 6 = .ok (.ifCond .eq 7, 3) := by decide +kernel
theorem dX7_layerForeign_9 : decode cX7_layerForeign 9 = .ok (.iconst 0, 1) := by decide +kernel
theorem dX7_layerForeign_10 : decode cX7_layerForeign 10 = .ok (.goto 14, 3) := by decide +kernel
theorem dX7_layerForeign_13 : decode cX7_layerForeign 13 = .ok (.aload_n 0, 1) := by decide +kernel
theorem dX7_layerForeign_14 : decode cX7_layerForeign 14 = .ok (.getfield 28, 3) := by decide +kernel
theorem dX7_layerForeign_17 : decode cX7_layerForeign 17 = .ok (.aload_n 0, 1) := by decide +kernel
theorem dX7_layerForeign_18 : decode cX7_layerForeign 18 = .ok (.iload_n 1, 1) := by decide +kernel
theorem dX7_layerForeign_19 : decode cX7_layerForeign 19 = .ok (.iload_n 2, 1) := by decide +kernel
theorem dX7_layerForeign_20 : decode cX7_layerForeign 20 = .ok (.invokevirtual 109, 3) := by decide +kernel
theorem dX7_layerForeign_23 : decode cX7_layerForeign 23 = .ok (.iaload, 1) := by decide +kernel
theorem dX7_layerForeign_24 : decode cX7_layerForeign 24 = .ok (.ireturn, 1) := by decide +kernel
theorem dX7_layerGrade_0 : decode cX7_layerGrade 0 = .ok (.aload_n 0, 1) := by decide +kernel
theorem dX7_layerGrade_1 : decode cX7_layerGrade 1 = .ok (.iload_n 1, 1) := by decide +kernel
theorem dX7_layerGrade_2 : decode cX7_layerGrade 2 = .ok (.iload_n 2, 1) := by decide +kernel
theorem dX7_layerGrade_3 : decode cX7_layerGrade 3 = .ok (.invokevirtual 135, 3) := by decide +kernel
theorem dX7_layerGrade_6 : decode cX7_layerGrade 6 = .ok (.ifCond .eq 7, 3) := by decide +kernel
theorem dX7_layerGrade_9 : decode cX7_layerGrade 9 = .ok (.iconst 0, 1) := by decide +kernel
theorem dX7_layerGrade_10 : decode cX7_layerGrade 10 = .ok (.goto 14, 3) := by decide +kernel
theorem dX7_layerGrade_13 : decode cX7_layerGrade 13 = .ok (.aload_n 0, 1) := by decide +kernel
theorem dX7_layerGrade_14 : decode cX7_layerGrade 14 = .ok (.getfield 31, 3) := by decide +kernel
theorem dX7_layerGrade_17 : decode cX7_layerGrade 17 = .ok (.aload_n 0, 1) := by decide +kernel
theorem dX7_layerGrade_18 : decode cX7_layerGrade 18 = .ok (.iload_n 1, 1) := by decide +kernel
theorem dX7_layerGrade_19 : decode cX7_layerGrade 19 = .ok (.iload_n 2, 1) := by decide +kernel
theorem dX7_layerGrade_20 : decode cX7_layerGrade 20 = .ok (.invokevirtual 109, 3) := by decide +kernel
theorem dX7_layerGrade_23 : decode cX7_layerGrade 23 = .ok (.iaload, 1) := by decide +kernel
theorem dX7_layerGrade_24 : decode cX7_layerGrade 24 = .ok (.ireturn, 1) := by decide +kernel
theorem dX7_meanMoisture_0 : decode cX7_meanMoisture 0 = .ok (.aload_n 0, 1) := by decide +kernel
theorem dX7_meanMoisture_1 : decode cX7_meanMoisture 1 = .ok (.iload_n 1, 1) := by decide +kernel
theorem dX7_meanMoisture_2 : decode cX7_meanMoisture 2 = .ok (.invokevirtual 66, 3) := by decide +kernel
theorem dX7_meanMoisture_5 : decode cX7_meanMoisture 5 = .ok (.ifCond .ne 25, 3) := by decide +kernel
theorem dX7_meanMoisture_8 : decode cX7_meanMoisture 8 = .ok (.aload_n 0, 1) := by decide +kernel
theorem dX7_meanMoisture_9 : decode cX7_meanMoisture 9 = .ok (.aload_n 0, 1) := by decide +kernel
theorem dX7_meanMoisture_10 : decode cX7_meanMoisture 10 = .ok (.getfield 13, 3) := by decide +kernel
theorem dX7_meanMoisture_13 : decode cX7_meanMoisture 13 = .ok (.iload_n 1, 1) := by decide +kernel
theorem dX7_meanMoisture_14 : decode cX7_meanMoisture 14 = .ok (.iaload, 1) := by decide +kernel
theorem dX7_meanMoisture_15 : decode cX7_meanMoisture 15 = .ok (.ifCond .ne 7, 3) := by decide +kernel
theorem dX7_meanMoisture_18 : decode cX7_meanMoisture 18 = .ok (.iconst 1, 1) := by decide +kernel
theorem dX7_meanMoisture_19 : decode cX7_meanMoisture 19 = .ok (.goto 4, 3) := by decide +kernel
theorem dX7_meanMoisture_22 : decode cX7_meanMoisture 22 = .ok (.iconst 0, 1) := by decide +kernel
theorem dX7_meanMoisture_23 : decode cX7_meanMoisture 23 = .ok (.iconst 2, 1) := by decide +kernel
theorem dX7_meanMoisture_24 : decode cX7_meanMoisture 24 = .ok (.invokevirtual 62, 3) := by decide +kernel
theorem dX7_meanMoisture_27 : decode cX7_meanMoisture 27 = .ok (.ifCond .eq 5, 3) := by decide +kernel
theorem dX7_meanMoisture_30 : decode cX7_meanMoisture 30 = .ok (.dconst 0, 1) := by decide +kernel
theorem dX7_meanMoisture_31 : decode cX7_meanMoisture 31 = .ok (.dreturn, 1) := by decide +kernel
theorem dX7_meanMoisture_32 : decode cX7_meanMoisture 32 = .ok (.iconst 0, 1) := by decide +kernel
theorem dX7_meanMoisture_33 : decode cX7_meanMoisture 33 = .ok (.istore_n 2, 1) := by decide +kernel
theorem dX7_meanMoisture_34 : decode cX7_meanMoisture 34 = .ok (.bipush 90, 2) := by decide +kernel
theorem dX7_meanMoisture_36 : decode cX7_meanMoisture 36 = .ok (.iload_n 1, 1) := by decide +kernel
theorem dX7_meanMoisture_37 : decode cX7_meanMoisture 37 = .ok (.imul, 1) := by decide +kernel
theorem dX7_meanMoisture_38 : decode cX7_meanMoisture 38 = .ok (.istore_n 3, 1) := by decide +kernel
theorem dX7_meanMoisture_39 : decode cX7_meanMoisture 39 = .ok (.iload_n 3, 1) := by decide +kernel
theorem dX7_meanMoisture_40 : decode cX7_meanMoisture 40 = .ok (.bipush 90, 2) := by decide +kernel
theorem dX7_meanMoisture_42 : decode cX7_meanMoisture 42 = .ok (.iload_n 1, 1) := by decide +kernel
theorem dX7_meanMoisture_43 : decode cX7_meanMoisture 43 = .ok (.imul, 1) := by decide +kernel
theorem dX7_meanMoisture_44 : decode cX7_meanMoisture 44 = .ok (.aload_n 0, 1) := by decide +kernel
theorem dX7_meanMoisture_45 : decode cX7_meanMoisture 45 = .ok (.getfield 13, 3) := by decide +kernel
theorem dX7_meanMoisture_48 : decode cX7_meanMoisture 48 = .ok (.iload_n 1, 1) := by decide +kernel
theorem dX7_meanMoisture_49 : decode cX7_meanMoisture 49 = .ok (.iaload, 1) := by decide +kernel
theorem dX7_meanMoisture_50 : decode cX7_meanMoisture 50 = .ok (.iadd, 1) := by decide +kernel
theorem dX7_meanMoisture_51 : decode cX7_meanMoisture 51 = .ok (.if_icmp .ge 25, 3) := by decide +kernel
theorem dX7_meanMoisture_54 : decode cX7_meanMoisture 54 = .ok (.iload_n 2, 1) := by decide +kernel
theorem dX7_meanMoisture_55 : decode cX7_meanMoisture 55 = .ok (.aload_n 0, 1) := by decide +kernel
theorem dX7_meanMoisture_56 : decode cX7_meanMoisture 56 = .ok (.getfield 22, 3) := by decide +kernel
theorem dX7_meanMoisture_59 : decode cX7_meanMoisture 59 = .ok (.iload_n 3, 1) := by decide +kernel
theorem dX7_meanMoisture_60 : decode cX7_meanMoisture 60 = .ok (.iaload, 1) := by decide +kernel
theorem dX7_meanMoisture_61 : decode cX7_meanMoisture 61 = .ok (.aload_n 0, 1) := by decide +kernel
theorem dX7_meanMoisture_62 : decode cX7_meanMoisture 62 = .ok (.getfield 25, 3) := by decide +kernel
theorem dX7_meanMoisture_65 : decode cX7_meanMoisture 65 = .ok (.iload_n 3, 1) := by decide +kernel
theorem dX7_meanMoisture_66 : decode cX7_meanMoisture 66 = .ok (.iaload, 1) := by decide +kernel
theorem dX7_meanMoisture_67 : decode cX7_meanMoisture 67 = .ok (.imul, 1) := by decide +kernel
theorem dX7_meanMoisture_68 : decode cX7_meanMoisture 68 = .ok (.iadd, 1) := by decide +kernel
theorem dX7_meanMoisture_69 : decode cX7_meanMoisture 69 = .ok (.istore_n 2, 1) := by decide +kernel
theorem dX7_meanMoisture_70 : decode cX7_meanMoisture 70 = .ok (.iinc 3 1, 3) := by decide +kernel
theorem dX7_meanMoisture_73 : decode cX7_meanMoisture 73 = .ok (.goto (-34), 3) := by decide +kernel
theorem dX7_meanMoisture_76 : decode cX7_meanMoisture 76 = .ok (.iload_n 2, 1) := by decide +kernel
theorem dX7_meanMoisture_77 : decode cX7_meanMoisture 77 = .ok (.i2d, 1) := by decide +kernel
theorem dX7_meanMoisture_78 : decode cX7_meanMoisture 78 = .ok (.aload_n 0, 1) := by decide +kernel
theorem dX7_meanMoisture_79 : decode cX7_meanMoisture 79 = .ok (.iload_n 1, 1) := by decide +kernel
theorem dX7_meanMoisture_80 : decode cX7_meanMoisture 80 = .ok (.invokevirtual 93, 3) := by decide +kernel
theorem dX7_meanMoisture_83 : decode cX7_meanMoisture 83 = .ok (.i2d, 1) := by decide +kernel
theorem dX7_meanMoisture_84 : decode cX7_meanMoisture 84 = .ok (.ddiv, 1) := by decide +kernel
theorem dX7_meanMoisture_85 : decode cX7_meanMoisture 85 = .ok (.dreturn, 1) := by decide +kernel
theorem dX7_wetShare_0 : decode cX7_wetShare 0 = .ok (.aload_n 0, 1) := by decide +kernel
theorem dX7_wetShare_1 : decode cX7_wetShare 1 = .ok (.iload_n 1, 1) := by decide +kernel
theorem dX7_wetShare_2 : decode cX7_wetShare 2 = .ok (.invokestatic 70, 3) := by decide +kernel
theorem dX7_wetShare_5 : decode cX7_wetShare 5 = .ok (.ifCond .ne 7, 3) := by decide +kernel
theorem dX7_wetShare_8 : decode cX7_wetShare 8 = .ok (.iconst 1, 1) := by decide +kernel
theorem dX7_wetShare_9 : decode cX7_wetShare 9 = .ok (.goto 4, 3) := by decide +kernel
theorem dX7_wetShare_12 : decode cX7_wetShare 12 = .ok (.iconst 0, 1) := by decide +kernel
theorem dX7_wetShare_13 : decode cX7_wetShare 13 = .ok (.iconst 1, 1) := by decide +kernel
theorem dX7_wetShare_14 : decode cX7_wetShare 14 = .ok (.invokevirtual 62, 3) := by decide +kernel
theorem dX7_wetShare_17 : decode cX7_wetShare 17 = .ok (.ifCond .ne 23, 3) := by decide +kernel
theorem dX7_wetShare_20 : decode cX7_wetShare 20 = .ok (.aload_n 0, 1) := by decide +kernel
theorem dX7_wetShare_21 : decode cX7_wetShare 21 = .ok (.aload_n 0, 1) := by decide +kernel
theorem dX7_wetShare_22 : decode cX7_wetShare 22 = .ok (.invokevirtual 83, 3) := by decide +kernel
theorem dX7_wetShare_25 : decode cX7_wetShare 25 = .ok (.ifCond .ne 7, 3) := by decide +kernel
theorem dX7_wetShare_28 : decode cX7_wetShare 28 = .ok (.iconst 1, 1) := by decide +kernel
theorem dX7_wetShare_29 : decode cX7_wetShare 29 = .ok (.goto 4, 3) := by decide +kernel
theorem dX7_wetShare_32 : decode cX7_wetShare 32 = .ok (.iconst 0, 1) := by decide +kernel
theorem dX7_wetShare_33 : decode cX7_wetShare 33 = .ok (.iconst 2, 1) := by decide +kernel
theorem dX7_wetShare_34 : decode cX7_wetShare 34 = .ok (.invokevirtual 62, 3) := by decide +kernel
theorem dX7_wetShare_37 : decode cX7_wetShare 37 = .ok (.ifCond .eq 5, 3) := by decide +kernel
theorem dX7_wetShare_40 : decode cX7_wetShare 40 = .ok (.fconst 0, 1) := by decide +kernel
theorem dX7_wetShare_41 : decode cX7_wetShare 41 = .ok (.freturn, 1) := by decide +kernel
theorem dX7_wetShare_42 : decode cX7_wetShare 42 = .ok (.iconst 0, 1) := by decide +kernel
theorem dX7_wetShare_43 : decode cX7_wetShare 43 = .ok (.istore_n 2, 1) := by decide +kernel
theorem dX7_wetShare_44 : decode cX7_wetShare 44 = .ok (.iconst 0, 1) := by decide +kernel
theorem dX7_wetShare_45 : decode cX7_wetShare 45 = .ok (.istore_n 3, 1) := by decide +kernel
theorem dX7_wetShare_46 : decode cX7_wetShare 46 = .ok (.iload_n 3, 1) := by decide +kernel
theorem dX7_wetShare_47 : decode cX7_wetShare 47 = .ok (.bipush 90, 2) := by decide +kernel
theorem dX7_wetShare_49 : decode cX7_wetShare 49 = .ok (.aload_n 0, 1) := by decide +kernel
theorem dX7_wetShare_50 : decode cX7_wetShare 50 = .ok (.getfield 55, 3) := by decide +kernel
theorem dX7_wetShare_53 : decode cX7_wetShare 53 = .ok (.imul, 1) := by decide +kernel
theorem dX7_wetShare_54 : decode cX7_wetShare 54 = .ok (.if_icmp .ge 48, 3) := by decide +kernel
theorem dX7_wetShare_57 : decode cX7_wetShare 57 = .ok (.iload_n 2, 1) := by decide +kernel
theorem dX7_wetShare_58 : decode cX7_wetShare 58 = .ok (.iload_n 3, 1) := by decide +kernel
theorem dX7_wetShare_59 : decode cX7_wetShare 59 = .ok (.bipush 90, 2) := by decide +kernel
theorem dX7_wetShare_61 : decode cX7_wetShare 61 = .ok (.irem, 1) := by decide +kernel
theorem dX7_wetShare_62 : decode cX7_wetShare 62 = .ok (.aload_n 0, 1) := by decide +kernel
theorem dX7_wetShare_63 : decode cX7_wetShare 63 = .ok (.getfield 13, 3) := by decide +kernel
theorem dX7_wetShare_66 : decode cX7_wetShare 66 = .ok (.iload_n 3, 1) := by decide +kernel
theorem dX7_wetShare_67 : decode cX7_wetShare 67 = .ok (.bipush 90, 2) := by decide +kernel
theorem dX7_wetShare_69 : decode cX7_wetShare 69 = .ok (.idiv, 1) := by decide +kernel
theorem dX7_wetShare_70 : decode cX7_wetShare 70 = .ok (.iaload, 1) := by decide +kernel
theorem dX7_wetShare_71 : decode cX7_wetShare 71 = .ok (.if_icmp .ge 22, 3) := by decide +kernel
theorem dX7_wetShare_74 : decode cX7_wetShare 74 = .ok (.aload_n 0, 1) := by decide +kernel
theorem dX7_wetShare_75 : decode cX7_wetShare 75 = .ok (.getfield 25, 3) := by decide +kernel
theorem dX7_wetShare_78 : decode cX7_wetShare 78 = .ok (.iload_n 3, 1) := by decide +kernel
theorem dX7_wetShare_79 : decode cX7_wetShare 79 = .ok (.iaload, 1) := by decide +kernel
theorem dX7_wetShare_80 : decode cX7_wetShare 80 = .ok (.iload_n 1, 1) := by decide +kernel
theorem dX7_wetShare_81 : decode cX7_wetShare 81 = .ok (.if_icmp .le 12, 3) := by decide +kernel
theorem dX7_wetShare_84 : decode cX7_wetShare 84 = .ok (.aload_n 0, 1) := by decide +kernel
theorem dX7_wetShare_85 : decode cX7_wetShare 85 = .ok (.getfield 22, 3) := by decide +kernel
theorem dX7_wetShare_88 : decode cX7_wetShare 88 = .ok (.iload_n 3, 1) := by decide +kernel
theorem dX7_wetShare_89 : decode cX7_wetShare 89 = .ok (.iaload, 1) := by decide +kernel
theorem dX7_wetShare_90 : decode cX7_wetShare 90 = .ok (.goto 4, 3) := by decide +kernel
theorem dX7_wetShare_93 : decode cX7_wetShare 93 = .ok (.iconst 0, 1) := by decide +kernel
theorem dX7_wetShare_94 : decode cX7_wetShare 94 = .ok (.iadd, 1) := by decide +kernel
theorem dX7_wetShare_95 : decode cX7_wetShare 95 = .ok (.istore_n 2, 1) := by decide +kernel
theorem dX7_wetShare_96 : decode cX7_wetShare 96 = .ok (.iinc 3 1, 3) := by decide +kernel
theorem dX7_wetShare_99 : decode cX7_wetShare 99 = .ok (.goto (-53), 3) := by decide +kernel
theorem dX7_wetShare_102 : decode cX7_wetShare 102 = .ok (.iload_n 2, 1) := by decide +kernel
theorem dX7_wetShare_103 : decode cX7_wetShare 103 = .ok (.i2f, 1) := by decide +kernel
theorem dX7_wetShare_104 : decode cX7_wetShare 104 = .ok (.aload_n 0, 1) := by decide +kernel
theorem dX7_wetShare_105 : decode cX7_wetShare 105 = .ok (.invokevirtual 83, 3) := by decide +kernel
theorem dX7_wetShare_108 : decode cX7_wetShare 108 = .ok (.i2f, 1) := by decide +kernel
theorem dX7_wetShare_109 : decode cX7_wetShare 109 = .ok (.fdiv, 1) := by decide +kernel
theorem dX7_wetShare_110 : decode cX7_wetShare 110 = .ok (.freturn, 1) := by decide +kernel
theorem dX7_blends_0 : decode cX7_blends 0 = .ok (.iload_n 2, 1) := by decide +kernel
theorem dX7_blends_1 : decode cX7_blends 1 = .ok (.istore_n 3, 1) := by decide +kernel
theorem dX7_blends_2 : decode cX7_blends 2 = .ok (.iconst 0, 1) := by decide +kernel
theorem dX7_blends_3 : decode cX7_blends 3 = .ok (.istore 4, 2) := by decide +kernel
theorem dX7_blends_5 : decode cX7_blends 5 = .ok (.iload 4, 2) := by decide +kernel
theorem dX7_blends_7 : decode cX7_blends 7 = .ok (.aload_n 0, 1) := by decide +kernel
theorem dX7_blends_8 : decode cX7_blends 8 = .ok (.getfield 13, 3) := by decide +kernel
theorem dX7_blends_11 : decode cX7_blends 11 = .ok (.iload_n 1, 1) := by decide +kernel
theorem dX7_blends_12 : decode cX7_blends 12 = .ok (.iaload, 1) := by decide +kernel
theorem dX7_blends_13 : decode cX7_blends 13 = .ok (.if_icmp .ge 104, 3) := by decide +kernel
theorem dX7_blends_16 : decode cX7_blends 16 = .ok (.iload_n 3, 1) := by decide +kernel
theorem dX7_blends_17 : decode cX7_blends 17 = .ok (.ifCond .le 100, 3) := by decide +kernel
theorem dX7_blends_20 : decode cX7_blends 20 = .ok (.aload_n 0, 1) := by decide +kernel
theorem dX7_blends_21 : decode cX7_blends 21 = .ok (.iload_n 1, 1) := by decide +kernel
theorem dX7_blends_22 : decode cX7_blends 22 = .ok (.iload 4, 2) := by decide +kernel
theorem dX7_blends_24 : decode cX7_blends 24 = .ok (.invokevirtual 109, 3) := by decide +kernel
theorem dX7_blends_27 : decode cX7_blends 27 = .ok (.istore 5, 2) := by decide +kernel
theorem dX7_blends_29 : decode cX7_blends 29 = .ok (.iload_n 3, 1) := by decide +kernel
theorem dX7_blends_30 : decode cX7_blends 30 = .ok (.aload_n 0, 1) := by decide +kernel
theorem dX7_blends_31 : decode cX7_blends 31 = .ok (.getfield 22, 3) := by decide +kernel
theorem dX7_blends_34 : decode cX7_blends 34 = .ok (.iload 5, 2) := by decide +kernel
theorem dX7_blends_36 : decode cX7_blends 36 = .ok (.iaload, 1) := by decide +kernel
theorem dX7_blends_37 : decode cX7_blends 37 = .ok (.invokestatic 112, 3) := by decide +kernel
theorem dX7_blends_40 : decode cX7_blends 40 = .ok (.istore 6, 2) := by decide +kernel
theorem dX7_blends_42 : decode cX7_blends 42 = .ok (.aload_n 0, 1) := by decide +kernel
theorem dX7_blends_43 : decode cX7_blends 43 = .ok (.dup, 1) := by decide +kernel
theorem dX7_blends_44 : decode cX7_blends 44 = .ok (.getfield 141, 3) := by decide +kernel
theorem dX7_blends_47 : decode cX7_blends 47 = .ok (.iload 6, 2) := by decide +kernel
theorem dX7_blends_49 : decode cX7_blends 49 = .ok (.aload_n 0, 1) := by decide +kernel
theorem dX7_blends_50 : decode cX7_blends 50 = .ok (.getfield 25, 3) := by decide +kernel
theorem dX7_blends_53 : decode cX7_blends 53 = .ok (.iload 5, 2) := by decide +kernel
theorem dX7_blends_55 : decode cX7_blends 55 = .ok (.iaload, 1) := by decide +kernel
theorem dX7_blends_56 : decode cX7_blends 56 = .ok (.imul, 1) := by decide +kernel
theorem dX7_blends_57 : decode cX7_blends 57 = .ok (.iadd, 1) := by decide +kernel
theorem dX7_blends_58 : decode cX7_blends 58 = .ok (.putfield 141, 3) := by decide +kernel
theorem dX7_blends_61 : decode cX7_blends 61 = .ok (.aload_n 0, 1) := by decide +kernel
theorem dX7_blends_62 : decode cX7_blends 62 = .ok (.dup, 1) := by decide +kernel
theorem dX7_blends_63 : decode cX7_blends 63 = .ok (.getfield 144, 3) := by decide +kernel
theorem dX7_blends_66 : decode cX7_blends 66 = .ok (.iload 6, 2) := by decide +kernel
theorem dX7_blends_68 : decode cX7_blends 68 = .ok (.aload_n 0, 1) := by decide +kernel
theorem dX7_blends_69 : decode cX7_blends 69 = .ok (.getfield 28, 3) := by decide +kernel
theorem dX7_blends_72 : decode cX7_blends 72 = .ok (.iload 5, 2) := by decide +kernel
theorem dX7_blends_74 : decode cX7_blends 74 = .ok (.iaload, 1) := by decide +kernel
theorem dX7_blends_75 : decode cX7_blends 75 = .ok (.imul, 1) := by decide +kernel
theorem dX7_blends_76 : decode cX7_blends 76 = .ok (.iadd, 1) := by decide +kernel
theorem dX7_blends_77 : decode cX7_blends 77 = .ok (.putfield 144, 3) := by decide +kernel
theorem dX7_blends_80 : decode cX7_blends 80 = .ok (.aload_n 0, 1) := by decide +kernel
theorem dX7_blends_81 : decode cX7_blends 81 = .ok (.dup, 1) := by decide +kernel
theorem dX7_blends_82 : decode cX7_blends 82 = .ok (.getfield 147, 3) := by decide +kernel
theorem dX7_blends_85 : decode cX7_blends 85 = .ok (.iload 6, 2) := by decide +kernel
theorem dX7_blends_87 : decode cX7_blends 87 = .ok (.aload_n 0, 1) := by decide +kernel
theorem dX7_blends_88 : decode cX7_blends 88 = .ok (.getfield 19, 3) := by decide +kernel
theorem dX7_blends_91 : decode cX7_blends 91 = .ok (.aload_n 0, 1) := by decide +kernel
theorem dX7_blends_92 : decode cX7_blends 92 = .ok (.getfield 31, 3) := by decide +kernel
theorem dX7_blends_95 : decode cX7_blends 95 = .ok (.iload 5, 2) := by decide +kernel
theorem dX7_blends_97 : decode cX7_blends 97 = .ok (.iaload, 1) := by decide +kernel
theorem dX7_blends_98 : decode cX7_blends 98 = .ok (.iconst 1, 1) := by decide +kernel
theorem dX7_blends_99 : decode cX7_blends 99 = .ok (.isub, 1) := by decide +kernel
theorem dX7_blends_100 : decode cX7_blends 100 = .ok (.iaload, 1) := by decide +kernel
theorem dX7_blends_101 : decode cX7_blends 101 = .ok (.imul, 1) := by decide +kernel
theorem dX7_blends_102 : decode cX7_blends 102 = .ok (.iadd, 1) := by decide +kernel
theorem dX7_blends_103 : decode cX7_blends 103 = .ok (.putfield 147, 3) := by decide +kernel
theorem dX7_blends_106 : decode cX7_blends 106 = .ok (.iload_n 3, 1) := by decide +kernel
theorem dX7_blends_107 : decode cX7_blends 107 = .ok (.iload 6, 2) := by decide +kernel
theorem dX7_blends_109 : decode cX7_blends 109 = .ok (.isub, 1) := by decide +kernel
theorem dX7_blends_110 : decode cX7_blends 110 = .ok (.istore_n 3, 1) := by decide +kernel
theorem dX7_blends_111 : decode cX7_blends 111 = .ok (.iinc 4 1, 3) := by decide +kernel
theorem dX7_blends_114 : decode cX7_blends 114 = .ok (.goto (-109), 3) := by decide +kernel
theorem dX7_blends_117 : decode cX7_blends 117 = .ok (.return_, 1) := by decide +kernel
theorem dX7_blends__0 : decode cX7_blends_ 0 = .ok (.aload_n 0, 1) := by decide +kernel
theorem dX7_blends__1 : decode cX7_blends_ 1 = .ok (.iconst 0, 1) := by decide +kernel
theorem dX7_blends__2 : decode cX7_blends_ 2 = .ok (.putfield 141, 3) := by decide +kernel
theorem dX7_blends__5 : decode cX7_blends_ 5 = .ok (.aload_n 0, 1) := by decide +kernel
theorem dX7_blends__6 : decode cX7_blends_ 6 = .ok (.iconst 0, 1) := by decide +kernel
theorem dX7_blends__7 : decode cX7_blends_ 7 = .ok (.putfield 144, 3) := by decide +kernel
theorem dX7_blends__10 : decode cX7_blends_ 10 = .ok (.aload_n 0, 1) := by decide +kernel
theorem dX7_blends__11 : decode cX7_blends_ 11 = .ok (.iconst 0, 1) := by decide +kernel
theorem dX7_blends__12 : decode cX7_blends_ 12 = .ok (.putfield 147, 3) := by decide +kernel
theorem dX7_blends__15 : decode cX7_blends_ 15 = .ok (.aload_n 0, 1) := by decide +kernel
theorem dX7_blends__16 : decode cX7_blends_ 16 = .ok (.iload_n 1, 1) := by decide +kernel
theorem dX7_blends__17 : decode cX7_blends_ 17 = .ok (.iload_n 3, 1) := by decide +kernel
theorem dX7_blends__18 : decode cX7_blends_ 18 = .ok (.invokevirtual 150, 3) := by decide +kernel
theorem dX7_blends__21 : decode cX7_blends_ 21 = .ok (.aload_n 0, 1) := by decide +kernel
theorem dX7_blends__22 : decode cX7_blends_ 22 = .ok (.iload_n 2, 1) := by decide +kernel
theorem dX7_blends__23 : decode cX7_blends_ 23 = .ok (.iload 4, 2) := by decide +kernel
theorem dX7_blends__25 : decode cX7_blends_ 25 = .ok (.iload_n 3, 1) := by decide +kernel
theorem dX7_blends__26 : decode cX7_blends_ 26 = .ok (.isub, 1) := by decide +kernel
theorem dX7_blends__27 : decode cX7_blends_ 27 = .ok (.invokevirtual 150, 3) := by decide +kernel
theorem dX7_blends__30 : decode cX7_blends_ 30 = .ok (.return_, 1) := by decide +kernel
theorem dX7_share_0 : decode cX7_share 0 = .ok (.iconst (-1), 1) := by decide +kernel
theorem dX7_share_1 : decode cX7_share 1 = .ok (.istore 5, 2) := by decide +kernel
theorem dX7_share_3 : decode cX7_share 3 = .ok (.ldc 156, 2) := by decide +kernel
theorem dX7_share_5 : decode cX7_share 5 = .ok (.istore 6, 2) := by decide +kernel
theorem dX7_share_7 : decode cX7_share 7 = .ok (.iconst 0, 1) := by decide +kernel
theorem dX7_share_8 : decode cX7_share 8 = .ok (.istore 7, 2) := by decide +kernel
theorem dX7_share_10 : decode cX7_share 10 = .ok (.iload 7, 2) := by decide +kernel
theorem dX7_share_12 : decode cX7_share 12 = .ok (.iload_n 3, 1) := by decide +kernel
theorem dX7_share_13 : decode cX7_share 13 = .ok (.if_icmp .gt 97, 3) := by decide +kernel
theorem dX7_share_16 : decode cX7_share 16 = .ok (.iload 7, 2) := by decide +kernel
theorem dX7_share_18 : decode cX7_share 18 = .ok (.aload_n 0, 1) := by decide +kernel
theorem dX7_share_19 : decode cX7_share 19 = .ok (.iload_n 1, 1) := by decide +kernel
theorem dX7_share_20 : decode cX7_share 20 = .ok (.invokevirtual 93, 3) := by decide +kernel
theorem dX7_share_23 : decode cX7_share 23 = .ok (.if_icmp .gt 81, 3) := by decide +kernel
theorem dX7_share_26 : decode cX7_share 26 = .ok (.iload_n 3, 1) := by decide +kernel
theorem dX7_share_27 : decode cX7_share 27 = .ok (.iload 7, 2) := by decide +kernel
theorem dX7_share_29 : decode cX7_share 29 = .ok (.isub, 1) := by decide +kernel
theorem dX7_share_30 : decode cX7_share 30 = .ok (.aload_n 0, 1) := by decide +kernel
theorem dX7_share_31 : decode cX7_share 31 = .ok (.iload_n 2, 1) := by decide +kernel
theorem dX7_share_32 : decode cX7_share 32 = .ok (.invokevirtual 93, 3) := by decide +kernel
theorem dX7_share_35 : decode cX7_share 35 = .ok (.if_icmp .gt 69, 3) := by decide +kernel
theorem dX7_share_38 : decode cX7_share 38 = .ok (.aload_n 0, 1) := by decide +kernel
theorem dX7_share_39 : decode cX7_share 39 = .ok (.iload_n 1, 1) := by decide +kernel
theorem dX7_share_40 : decode cX7_share 40 = .ok (.iload_n 2, 1) := by decide +kernel
theorem dX7_share_41 : decode cX7_share 41 = .ok (.iload 7, 2) := by decide +kernel
theorem dX7_share_43 : decode cX7_share 43 = .ok (.iload_n 3, 1) := by decide +kernel
theorem dX7_share_44 : decode cX7_share 44 = .ok (.invokevirtual 157, 3) := by decide +kernel
theorem dX7_share_47 : decode cX7_share 47 = .ok (.aload_n 0, 1) := by decide +kernel
theorem dX7_share_48 : decode cX7_share 48 = .ok (.getfield 141, 3) := by decide +kernel
theorem dX7_share_51 : decode cX7_share 51 = .ok (.iload 4, 2) := by decide +kernel
theorem dX7_share_53 : decode cX7_share 53 = .ok (.iload_n 3, 1) := by decide +kernel
theorem dX7_share_54 : decode cX7_share 54 = .ok (.imul, 1) := by decide +kernel
theorem dX7_share_55 : decode cX7_share 55 = .ok (.if_icmp .gt 16, 3) := by decide +kernel
theorem dX7_share_58 : decode cX7_share 58 = .ok (.aload_n 0, 1) := by decide +kernel
theorem dX7_share_59 : decode cX7_share 59 = .ok (.getfield 147, 3) := by decide +kernel
theorem dX7_share_62 : decode cX7_share 62 = .ok (.iload 6, 2) := by decide +kernel
theorem dX7_share_64 : decode cX7_share 64 = .ok (.if_icmp .ge 7, 3) := by decide +kernel
theorem dX7_share_67 : decode cX7_share 67 = .ok (.iconst 1, 1) := by decide +kernel
theorem dX7_share_68 : decode cX7_share 68 = .ok (.goto 4, 3) := by decide +kernel
theorem dX7_share_71 : decode cX7_share 71 = .ok (.iconst 0, 1) := by decide +kernel
theorem dX7_share_72 : decode cX7_share 72 = .ok (.istore 8, 2) := by decide +kernel
theorem dX7_share_74 : decode cX7_share 74 = .ok (.iload 8, 2) := by decide +kernel
theorem dX7_share_76 : decode cX7_share 76 = .ok (.ifCond .eq 8, 3) := by decide +kernel
theorem dX7_share_79 : decode cX7_share 79 = .ok (.iload 7, 2) := by decide +kernel
theorem dX7_share_81 : decode cX7_share 81 = .ok (.goto 5, 3) := by decide +kernel
theorem dX7_share_84 : decode cX7_share 84 = .ok (.iload 5, 2) := by decide +kernel
theorem dX7_share_86 : decode cX7_share 86 = .ok (.istore 5, 2) := by decide +kernel
theorem dX7_share_88 : decode cX7_share 88 = .ok (.iload 8, 2) := by decide +kernel
theorem dX7_share_90 : decode cX7_share 90 = .ok (.ifCond .eq 10, 3) := by decide +kernel
theorem dX7_share_93 : decode cX7_share 93 = .ok (.aload_n 0, 1) := by decide +kernel
theorem dX7_share_94 : decode cX7_share 94 = .ok (.getfield 147, 3) := by decide +kernel
theorem dX7_share_97 : decode cX7_share 97 = .ok (.goto 5, 3) := by decide +kernel
theorem dX7_share_100 : decode cX7_share 100 = .ok (.iload 6, 2) := by decide +kernel
theorem dX7_share_102 : decode cX7_share 102 = .ok (.istore 6, 2) := by decide +kernel
theorem dX7_share_104 : decode cX7_share 104 = .ok (.iinc 7 1, 3) := by decide +kernel
theorem dX7_share_107 : decode cX7_share 107 = .ok (.goto (-97), 3) := by decide +kernel
theorem dX7_share_110 : decode cX7_share 110 = .ok (.iload 5, 2) := by decide +kernel
theorem dX7_share_112 : decode cX7_share 112 = .ok (.ireturn, 1) := by decide +kernel
theorem dX7_isNoBlend_0 : decode cX7_isNoBlend 0 = .ok (.aload_n 0, 1) := by decide +kernel
theorem dX7_isNoBlend_1 : decode cX7_isNoBlend 1 = .ok (.iload_n 1, 1) := by decide +kernel
theorem dX7_isNoBlend_2 : decode cX7_isNoBlend 2 = .ok (.iload_n 2, 1) := by decide +kernel
theorem dX7_isNoBlend_3 : decode cX7_isNoBlend 3 = .ok (.invokevirtual 125, 3) := by decide +kernel
theorem dX7_isNoBlend_6 : decode cX7_isNoBlend 6 = .ok (.ifCond .ne 65, 3) := by decide +kernel
theorem dX7_isNoBlend_9 : decode cX7_isNoBlend 9 = .ok (.aload_n 0, 1) := by decide +kernel
theorem dX7_isNoBlend_10 : decode cX7_isNoBlend 10 = .ok (.iload_n 1, 1) := by decide +kernel
theorem dX7_isNoBlend_11 : decode cX7_isNoBlend 11 = .ok (.iload_n 2, 1) := by decide +kernel
theorem dX7_isNoBlend_12 : decode cX7_isNoBlend 12 = .ok (.if_icmp .eq 22, 3) := by decide +kernel
theorem dX7_isNoBlend_15 : decode cX7_isNoBlend 15 = .ok (.iload_n 3, 1) := by decide +kernel
theorem dX7_isNoBlend_16 : decode cX7_isNoBlend 16 = .ok (.iconst 1, 1) := by decide +kernel
theorem dX7_isNoBlend_17 : decode cX7_isNoBlend 17 = .ok (.sipush 500, 3) := by decide +kernel
theorem dX7_isNoBlend_20 : decode cX7_isNoBlend 20 = .ok (.invokestatic 58, 3) := by decide +kernel
theorem dX7_isNoBlend_23 : decode cX7_isNoBlend 23 = .ok (.ifCond .eq 11, 3) := by decide +kernel
theorem dX7_isNoBlend_26 : decode cX7_isNoBlend 26 = .ok (.iload 4, 2) := by decide +kernel
theorem dX7_isNoBlend_28 : decode cX7_isNoBlend 28 = .ok (.invokestatic 70, 3) := by decide +kernel
theorem dX7_isNoBlend_31 : decode cX7_isNoBlend 31 = .ok (.ifCond .ne 7, 3) := by decide +kernel
theorem dX7_isNoBlend_34 : decode cX7_isNoBlend 34 = .ok (.iconst 1, 1) := by decide +kernel
theorem dX7_isNoBlend_35 : decode cX7_isNoBlend 35 = .ok (.goto 4, 3) := by decide +kernel
theorem dX7_isNoBlend_38 : decode cX7_isNoBlend 38 = .ok (.iconst 0, 1) := by decide +kernel
theorem dX7_isNoBlend_39 : decode cX7_isNoBlend 39 = .ok (.iconst 2, 1) := by decide +kernel
theorem dX7_isNoBlend_40 : decode cX7_isNoBlend 40 = .ok (.invokevirtual 62, 3) := by decide +kernel
theorem dX7_isNoBlend_43 : decode cX7_isNoBlend 43 = .ok (.ifCond .ne 28, 3) := by decide +kernel
theorem dX7_isNoBlend_46 : decode cX7_isNoBlend 46 = .ok (.aload_n 0, 1) := by decide +kernel
theorem dX7_isNoBlend_47 : decode cX7_isNoBlend 47 = .ok (.aload_n 0, 1) := by decide +kernel
theorem dX7_isNoBlend_48 : decode cX7_isNoBlend 48 = .ok (.iload_n 1, 1) := by decide +kernel
theorem dX7_isNoBlend_49 : decode cX7_isNoBlend 49 = .ok (.iload_n 2, 1) := by decide +kernel
theorem dX7_isNoBlend_50 : decode cX7_isNoBlend 50 = .ok (.iload_n 3, 1) := by decide +kernel
theorem dX7_isNoBlend_51 : decode cX7_isNoBlend 51 = .ok (.iload 4, 2) := by decide +kernel
theorem dX7_isNoBlend_53 : decode cX7_isNoBlend 53 = .ok (.invokevirtual 160, 3) := by decide +kernel
theorem dX7_isNoBlend_56 : decode cX7_isNoBlend 56 = .ok (.ifCond .ge 7, 3) := by decide +kernel
theorem dX7_isNoBlend_59 : decode cX7_isNoBlend 59 = .ok (.iconst 1, 1) := by decide +kernel
theorem dX7_isNoBlend_60 : decode cX7_isNoBlend 60 = .ok (.goto 4, 3) := by decide +kernel
theorem dX7_isNoBlend_63 : decode cX7_isNoBlend 63 = .ok (.iconst 0, 1) := by decide +kernel
theorem dX7_isNoBlend_64 : decode cX7_isNoBlend 64 = .ok (.iconst 3, 1) := by decide +kernel
theorem dX7_isNoBlend_65 : decode cX7_isNoBlend 65 = .ok (.invokevirtual 62, 3) := by decide +kernel
theorem dX7_isNoBlend_68 : decode cX7_isNoBlend 68 = .ok (.ifCond .eq 7, 3) := by decide +kernel
theorem dX7_isNoBlend_71 : decode cX7_isNoBlend 71 = .ok (.iconst 1, 1) := by decide +kernel
theorem dX7_isNoBlend_72 : decode cX7_isNoBlend 72 = .ok (.goto 4, 3) := by decide +kernel
theorem dX7_isNoBlend_75 : decode cX7_isNoBlend 75 = .ok (.iconst 0, 1) := by decide +kernel
theorem dX7_isNoBlend_76 : decode cX7_isNoBlend 76 = .ok (.ireturn, 1) := by decide +kernel
theorem dX7_blendCost_0 : decode cX7_blendCost 0 = .ok (.aload_n 0, 1) := by decide +kernel
theorem dX7_blendCost_1 : decode cX7_blendCost 1 = .ok (.iload_n 1, 1) := by decide +kernel
theorem dX7_blendCost_2 : decode cX7_blendCost 2 = .ok (.iload_n 2, 1) := by decide +kernel
theorem dX7_blendCost_3 : decode cX7_blendCost 3 = .ok (.iload_n 3, 1) := by decide +kernel
theorem dX7_blendCost_4 : decode cX7_blendCost 4 = .ok (.iload 4, 2) := by decide +kernel
theorem dX7_blendCost_6 : decode cX7_blendCost 6 = .ok (.invokevirtual 164, 3) := by decide +kernel
theorem dX7_blendCost_9 : decode cX7_blendCost 9 = .ok (.ifCond .eq 5, 3) := by decide +kernel
theorem dX7_blendCost_12 : decode cX7_blendCost 12 = .ok (.iconst 0, 1) := by decide +kernel
theorem dX7_blendCost_13 : decode cX7_blendCost 13 = .ok (.ireturn, 1) := by decide +kernel
theorem dX7_blendCost_14 : decode cX7_blendCost 14 = .ok (.aload_n 0, 1) := by decide +kernel
theorem dX7_blendCost_15 : decode cX7_blendCost 15 = .ok (.iload_n 1, 1) := by decide +kernel
theorem dX7_blendCost_16 : decode cX7_blendCost 16 = .ok (.iload_n 2, 1) := by decide +kernel
theorem dX7_blendCost_17 : decode cX7_blendCost 17 = .ok (.aload_n 0, 1) := by decide +kernel
theorem dX7_blendCost_18 : decode cX7_blendCost 18 = .ok (.iload_n 1, 1) := by decide +kernel
theorem dX7_blendCost_19 : decode cX7_blendCost 19 = .ok (.iload_n 2, 1) := by decide +kernel
theorem dX7_blendCost_20 : decode cX7_blendCost 20 = .ok (.iload_n 3, 1) := by decide +kernel
theorem dX7_blendCost_21 : decode cX7_blendCost 21 = .ok (.iload 4, 2) := by decide +kernel
theorem dX7_blendCost_23 : decode cX7_blendCost 23 = .ok (.invokevirtual 160, 3) := by decide +kernel
theorem dX7_blendCost_26 : decode cX7_blendCost 26 = .ok (.iload_n 3, 1) := by decide +kernel
theorem dX7_blendCost_27 : decode cX7_blendCost 27 = .ok (.invokevirtual 157, 3) := by decide +kernel
theorem dX7_blendCost_30 : decode cX7_blendCost 30 = .ok (.aload_n 0, 1) := by decide +kernel
theorem dX7_blendCost_31 : decode cX7_blendCost 31 = .ok (.getfield 147, 3) := by decide +kernel
theorem dX7_blendCost_34 : decode cX7_blendCost 34 = .ok (.ireturn, 1) := by decide +kernel
theorem dX7_blendCostByTrying_0 : decode cX7_blendCostByTrying 0 = .ok (.aload_n 0, 1) := by decide +kernel
theorem dX7_blendCostByTrying_1 : decode cX7_blendCostByTrying 1 = .ok (.iload_n 1, 1) := by decide +kernel
theorem dX7_blendCostByTrying_2 : decode cX7_blendCostByTrying 2 = .ok (.iload_n 2, 1) := by decide +kernel
theorem dX7_blendCostByTrying_3 : decode cX7_blendCostByTrying 3 = .ok (.iload_n 3, 1) := by decide +kernel
theorem dX7_blendCostByTrying_4 : decode cX7_blendCostByTrying 4 = .ok (.iload 4, 2) := by decide +kernel
theorem dX7_blendCostByTrying_6 : decode cX7_blendCostByTrying 6 = .ok (.invokevirtual 168, 3) := by decide +kernel
theorem dX7_blendCostByTrying_9 : decode cX7_blendCostByTrying 9 = .ok (.ireturn, 1) := by decide +kernel
theorem dX7_blendShare_0 : decode cX7_blendShare 0 = .ok (.aload_n 0, 1) := by decide +kernel
theorem dX7_blendShare_1 : decode cX7_blendShare 1 = .ok (.iload_n 1, 1) := by decide +kernel
theorem dX7_blendShare_2 : decode cX7_blendShare 2 = .ok (.iload_n 2, 1) := by decide +kernel
theorem dX7_blendShare_3 : decode cX7_blendShare 3 = .ok (.iload_n 3, 1) := by decide +kernel
theorem dX7_blendShare_4 : decode cX7_blendShare 4 = .ok (.iload 4, 2) := by decide +kernel
theorem dX7_blendShare_6 : decode cX7_blendShare 6 = .ok (.invokevirtual 164, 3) := by decide +kernel
theorem dX7_blendShare_9 : decode cX7_blendShare 9 = .ok (.ifCond .eq 7, 3) := by decide +kernel
theorem dX7_blendShare_12 : decode cX7_blendShare 12 = .ok (.iconst 0, 1) := by decide +kernel
theorem dX7_blendShare_13 : decode cX7_blendShare 13 = .ok (.goto 12, 3) := by decide +kernel
theorem dX7_blendShare_16 : decode cX7_blendShare 16 = .ok (.aload_n 0, 1) := by decide +kernel
theorem dX7_blendShare_17 : decode cX7_blendShare 17 = .ok (.iload_n 1, 1) := by decide +kernel
theorem dX7_blendShare_18 : decode cX7_blendShare 18 = .ok (.iload_n 2, 1) := by decide +kernel
theorem dX7_blendShare_19 : decode cX7_blendShare 19 = .ok (.iload_n 3, 1) := by decide +kernel
theorem dX7_blendShare_20 : decode cX7_blendShare 20 = .ok (.iload 4, 2) := by decide +kernel
theorem dX7_blendShare_22 : decode cX7_blendShare 22 = .ok (.invokevirtual 160, 3) := by decide +kernel
theorem dX7_blendShare_25 : decode cX7_blendShare 25 = .ok (.ireturn, 1) := by decide +kernel
theorem dX7_sellBlend_0 : decode cX7_sellBlend 0 = .ok (.aload_n 0, 1) := by decide +kernel
theorem dX7_sellBlend_1 : decode cX7_sellBlend 1 = .ok (.iload_n 1, 1) := by decide +kernel
theorem dX7_sellBlend_2 : decode cX7_sellBlend 2 = .ok (.iload_n 2, 1) := by decide +kernel
theorem dX7_sellBlend_3 : decode cX7_sellBlend 3 = .ok (.iload_n 3, 1) := by decide +kernel
theorem dX7_sellBlend_4 : decode cX7_sellBlend 4 = .ok (.iload 4, 2) := by decide +kernel
theorem dX7_sellBlend_6 : decode cX7_sellBlend 6 = .ok (.invokevirtual 164, 3) := by decide +kernel
theorem dX7_sellBlend_9 : decode cX7_sellBlend 9 = .ok (.ifCond .ne 25, 3) := by decide +kernel
theorem dX7_sellBlend_12 : decode cX7_sellBlend 12 = .ok (.aload_n 0, 1) := by decide +kernel
theorem dX7_sellBlend_13 : decode cX7_sellBlend 13 = .ok (.aload_n 0, 1) := by decide +kernel
theorem dX7_sellBlend_14 : decode cX7_sellBlend 14 = .ok (.getfield 80, 3) := by decide +kernel
theorem dX7_sellBlend_17 : decode cX7_sellBlend 17 = .ok (.bipush 80, 2) := by decide +kernel
theorem dX7_sellBlend_19 : decode cX7_sellBlend 19 = .ok (.if_icmp .ne 7, 3) := by decide +kernel
theorem dX7_sellBlend_22 : decode cX7_sellBlend 22 = .ok (.iconst 1, 1) := by decide +kernel
theorem dX7_sellBlend_23 : decode cX7_sellBlend 23 = .ok (.goto 4, 3) := by decide +kernel
theorem dX7_sellBlend_26 : decode cX7_sellBlend 26 = .ok (.iconst 0, 1) := by decide +kernel
theorem dX7_sellBlend_27 : decode cX7_sellBlend 27 = .ok (.iconst 4, 1) := by decide +kernel
theorem dX7_sellBlend_28 : decode cX7_sellBlend 28 = .ok (.invokevirtual 62, 3) := by decide +kernel
theorem dX7_sellBlend_31 : decode cX7_sellBlend 31 = .ok (.ifCond .eq 5, 3) := by decide +kernel
theorem dX7_sellBlend_34 : decode cX7_sellBlend 34 = .ok (.iconst 0, 1) := by decide +kernel
theorem dX7_sellBlend_35 : decode cX7_sellBlend 35 = .ok (.ireturn, 1) := by decide +kernel
theorem dX7_sellBlend_36 : decode cX7_sellBlend 36 = .ok (.aload_n 0, 1) := by decide +kernel
theorem dX7_sellBlend_37 : decode cX7_sellBlend 37 = .ok (.iload_n 1, 1) := by decide +kernel
theorem dX7_sellBlend_38 : decode cX7_sellBlend 38 = .ok (.iload_n 2, 1) := by decide +kernel
theorem dX7_sellBlend_39 : decode cX7_sellBlend 39 = .ok (.iload_n 3, 1) := by decide +kernel
theorem dX7_sellBlend_40 : decode cX7_sellBlend 40 = .ok (.iload 4, 2) := by decide +kernel
theorem dX7_sellBlend_42 : decode cX7_sellBlend 42 = .ok (.invokevirtual 160, 3) := by decide +kernel
theorem dX7_sellBlend_45 : decode cX7_sellBlend 45 = .ok (.istore 5, 2) := by decide +kernel
theorem dX7_sellBlend_47 : decode cX7_sellBlend 47 = .ok (.aload_n 0, 1) := by decide +kernel
theorem dX7_sellBlend_48 : decode cX7_sellBlend 48 = .ok (.iload_n 1, 1) := by decide +kernel
theorem dX7_sellBlend_49 : decode cX7_sellBlend 49 = .ok (.iload_n 2, 1) := by decide +kernel
theorem dX7_sellBlend_50 : decode cX7_sellBlend 50 = .ok (.iload 5, 2) := by decide +kernel
theorem dX7_sellBlend_52 : decode cX7_sellBlend 52 = .ok (.iload_n 3, 1) := by decide +kernel
theorem dX7_sellBlend_53 : decode cX7_sellBlend 53 = .ok (.invokevirtual 157, 3) := by decide +kernel
theorem dX7_sellBlend_56 : decode cX7_sellBlend 56 = .ok (.aload_n 0, 1) := by decide +kernel
theorem dX7_sellBlend_57 : decode cX7_sellBlend 57 = .ok (.aload_n 0, 1) := by decide +kernel
theorem dX7_sellBlend_58 : decode cX7_sellBlend 58 = .ok (.getfield 141, 3) := by decide +kernel
theorem dX7_sellBlend_61 : decode cX7_sellBlend 61 = .ok (.iload_n 3, 1) := by decide +kernel
theorem dX7_sellBlend_62 : decode cX7_sellBlend 62 = .ok (.iadd, 1) := by decide +kernel
theorem dX7_sellBlend_63 : decode cX7_sellBlend 63 = .ok (.iconst 1, 1) := by decide +kernel
theorem dX7_sellBlend_64 : decode cX7_sellBlend 64 = .ok (.isub, 1) := by decide +kernel
theorem dX7_sellBlend_65 : decode cX7_sellBlend 65 = .ok (.iload_n 3, 1) := by decide +kernel
theorem dX7_sellBlend_66 : decode cX7_sellBlend 66 = .ok (.idiv, 1) := by decide +kernel
theorem dX7_sellBlend_67 : decode cX7_sellBlend 67 = .ok (.aload_n 0, 1) := by decide +kernel
theorem dX7_sellBlend_68 : decode cX7_sellBlend 68 = .ok (.getfield 144, 3) := by decide +kernel
theorem dX7_sellBlend_71 : decode cX7_sellBlend 71 = .ok (.iload_n 3, 1) := by decide +kernel
theorem dX7_sellBlend_72 : decode cX7_sellBlend 72 = .ok (.iadd, 1) := by decide +kernel
theorem dX7_sellBlend_73 : decode cX7_sellBlend 73 = .ok (.iconst 1, 1) := by decide +kernel
theorem dX7_sellBlend_74 : decode cX7_sellBlend 74 = .ok (.isub, 1) := by decide +kernel
theorem dX7_sellBlend_75 : decode cX7_sellBlend 75 = .ok (.iload_n 3, 1) := by decide +kernel
theorem dX7_sellBlend_76 : decode cX7_sellBlend 76 = .ok (.idiv, 1) := by decide +kernel
theorem dX7_sellBlend_77 : decode cX7_sellBlend 77 = .ok (.invokevirtual 76, 3) := by decide +kernel
theorem dX7_sellBlend_80 : decode cX7_sellBlend 80 = .ok (.istore 6, 2) := by decide +kernel
theorem dX7_sellBlend_82 : decode cX7_sellBlend 82 = .ok (.aload_n 0, 1) := by decide +kernel
theorem dX7_sellBlend_83 : decode cX7_sellBlend 83 = .ok (.iload_n 1, 1) := by decide +kernel
theorem dX7_sellBlend_84 : decode cX7_sellBlend 84 = .ok (.iload 5, 2) := by decide +kernel
theorem dX7_sellBlend_86 : decode cX7_sellBlend 86 = .ok (.iconst (-1), 1) := by decide +kernel
theorem dX7_sellBlend_87 : decode cX7_sellBlend 87 = .ok (.invokevirtual 121, 3) := by decide +kernel
theorem dX7_sellBlend_90 : decode cX7_sellBlend 90 = .ok (.aload_n 0, 1) := by decide +kernel
theorem dX7_sellBlend_91 : decode cX7_sellBlend 91 = .ok (.iload_n 2, 1) := by decide +kernel
theorem dX7_sellBlend_92 : decode cX7_sellBlend 92 = .ok (.iload_n 3, 1) := by decide +kernel
theorem dX7_sellBlend_93 : decode cX7_sellBlend 93 = .ok (.iload 5, 2) := by decide +kernel
theorem dX7_sellBlend_95 : decode cX7_sellBlend 95 = .ok (.isub, 1) := by decide +kernel
theorem dX7_sellBlend_96 : decode cX7_sellBlend 96 = .ok (.iconst (-1), 1) := by decide +kernel
theorem dX7_sellBlend_97 : decode cX7_sellBlend 97 = .ok (.invokevirtual 121, 3) := by decide +kernel
theorem dX7_sellBlend_100 : decode cX7_sellBlend 100 = .ok (.iadd, 1) := by decide +kernel
theorem dX7_sellBlend_101 : decode cX7_sellBlend 101 = .ok (.istore 7, 2) := by decide +kernel
theorem dX7_sellBlend_103 : decode cX7_sellBlend 103 = .ok (.iload_n 3, 1) := by decide +kernel
theorem dX7_sellBlend_104 : decode cX7_sellBlend 104 = .ok (.aload_n 0, 1) := by decide +kernel
theorem dX7_sellBlend_105 : decode cX7_sellBlend 105 = .ok (.getfield 19, 3) := by decide +kernel
theorem dX7_sellBlend_108 : decode cX7_sellBlend 108 = .ok (.iload 6, 2) := by decide +kernel
theorem dX7_sellBlend_110 : decode cX7_sellBlend 110 = .ok (.iconst 1, 1) := by decide +kernel
theorem dX7_sellBlend_111 : decode cX7_sellBlend 111 = .ok (.isub, 1) := by decide +kernel
theorem dX7_sellBlend_112 : decode cX7_sellBlend 112 = .ok (.iaload, 1) := by decide +kernel
theorem dX7_sellBlend_113 : decode cX7_sellBlend 113 = .ok (.imul, 1) := by decide +kernel
theorem dX7_sellBlend_114 : decode cX7_sellBlend 114 = .ok (.istore 8, 2) := by decide +kernel
theorem dX7_sellBlend_116 : decode cX7_sellBlend 116 = .ok (.aload_n 0, 1) := by decide +kernel
theorem dX7_sellBlend_117 : decode cX7_sellBlend 117 = .ok (.dup, 1) := by decide +kernel
theorem dX7_sellBlend_118 : decode cX7_sellBlend 118 = .ok (.getfield 101, 3) := by decide +kernel
theorem dX7_sellBlend_121 : decode cX7_sellBlend 121 = .ok (.iload 8, 2) := by decide +kernel
theorem dX7_sellBlend_123 : decode cX7_sellBlend 123 = .ok (.i2l, 1) := by decide +kernel
theorem dX7_sellBlend_124 : decode cX7_sellBlend 124 = .ok (.ladd, 1) := by decide +kernel
theorem dX7_sellBlend_125 : decode cX7_sellBlend 125 = .ok (.putfield 101, 3) := by decide +kernel
theorem dX7_sellBlend_128 : decode cX7_sellBlend 128 = .ok (.aload_n 0, 1) := by decide +kernel
theorem dX7_sellBlend_129 : decode cX7_sellBlend 129 = .ok (.bipush 98, 2) := by decide +kernel
theorem dX7_sellBlend_131 : decode cX7_sellBlend 131 = .ok (.invokevirtual 105, 3) := by decide +kernel
theorem dX7_sellBlend_134 : decode cX7_sellBlend 134 = .ok (.iload 7, 2) := by decide +kernel
theorem dX7_sellBlend_136 : decode cX7_sellBlend 136 = .ok (.ifCond .ge 7, 3) := by decide +kernel
theorem dX7_sellBlend_139 : decode cX7_sellBlend 139 = .ok (.iconst 0, 1) := by decide +kernel
theorem dX7_sellBlend_140 : decode cX7_sellBlend 140 = .ok (.goto 5, 3) := by decide +kernel
theorem dX7_sellBlend_143 : decode cX7_sellBlend 143 = .ok (.iload 8, 2) := by decide +kernel
theorem dX7_sellBlend_145 : decode cX7_sellBlend 145 = .ok (.ireturn, 1) := by decide +kernel
theorem dX7_setFutures_0 : decode cX7_setFutures 0 = .ok (.aload_n 0, 1) := by decide +kernel
theorem dX7_setFutures_1 : decode cX7_setFutures 1 = .ok (.iload_n 1, 1) := by decide +kernel
theorem dX7_setFutures_2 : decode cX7_setFutures 2 = .ok (.iconst 0, 1) := by decide +kernel
theorem dX7_setFutures_3 : decode cX7_setFutures 3 = .ok (.sipush 2000, 3) := by decide +kernel
theorem dX7_setFutures_6 : decode cX7_setFutures 6 = .ok (.invokestatic 58, 3) := by decide +kernel
theorem dX7_setFutures_9 : decode cX7_setFutures 9 = .ok (.ifCond .ne 7, 3) := by decide +kernel
theorem dX7_setFutures_12 : decode cX7_setFutures 12 = .ok (.iconst 1, 1) := by decide +kernel
theorem dX7_setFutures_13 : decode cX7_setFutures 13 = .ok (.goto 4, 3) := by decide +kernel
theorem dX7_setFutures_16 : decode cX7_setFutures 16 = .ok (.iconst 0, 1) := by decide +kernel
theorem dX7_setFutures_17 : decode cX7_setFutures 17 = .ok (.iconst 1, 1) := by decide +kernel
theorem dX7_setFutures_18 : decode cX7_setFutures 18 = .ok (.invokevirtual 62, 3) := by decide +kernel
theorem dX7_setFutures_21 : decode cX7_setFutures 21 = .ok (.ifCond .eq 5, 3) := by decide +kernel
theorem dX7_setFutures_24 : decode cX7_setFutures 24 = .ok (.iconst 0, 1) := by decide +kernel
theorem dX7_setFutures_25 : decode cX7_setFutures 25 = .ok (.ireturn, 1) := by decide +kernel
theorem dX7_setFutures_26 : decode cX7_setFutures 26 = .ok (.aload_n 0, 1) := by decide +kernel
theorem dX7_setFutures_27 : decode cX7_setFutures 27 = .ok (.getfield 48, 3) := by decide +kernel
theorem dX7_setFutures_30 : decode cX7_setFutures 30 = .ok (.istore_n 2, 1) := by decide +kernel
theorem dX7_setFutures_31 : decode cX7_setFutures 31 = .ok (.aload_n 0, 1) := by decide +kernel
theorem dX7_setFutures_32 : decode cX7_setFutures 32 = .ok (.dup, 1) := by decide +kernel
theorem dX7_setFutures_33 : decode cX7_setFutures 33 = .ok (.getfield 170, 3) := by decide +kernel
theorem dX7_setFutures_36 : decode cX7_setFutures 36 = .ok (.aload_n 0, 1) := by decide +kernel
theorem dX7_setFutures_37 : decode cX7_setFutures 37 = .ok (.getfield 87, 3) := by decide +kernel
theorem dX7_setFutures_40 : decode cX7_setFutures 40 = .ok (.i2l, 1) := by decide +kernel
theorem dX7_setFutures_41 : decode cX7_setFutures 41 = .ok (.aload_n 0, 1) := by decide +kernel
theorem dX7_setFutures_42 : decode cX7_setFutures 42 = .ok (.getfield 48, 3) := by decide +kernel
theorem dX7_setFutures_45 : decode cX7_setFutures 45 = .ok (.iload_n 1, 1) := by decide +kernel
theorem dX7_setFutures_46 : decode cX7_setFutures 46 = .ok (.isub, 1) := by decide +kernel
theorem dX7_setFutures_47 : decode cX7_setFutures 47 = .ok (.i2l, 1) := by decide +kernel
theorem dX7_setFutures_48 : decode cX7_setFutures 48 = .ok (.lmul, 1) := by decide +kernel
theorem dX7_setFutures_49 : decode cX7_setFutures 49 = .ok (.ladd, 1) := by decide +kernel
theorem dX7_setFutures_50 : decode cX7_setFutures 50 = .ok (.putfield 170, 3) := by decide +kernel
theorem dX7_setFutures_53 : decode cX7_setFutures 53 = .ok (.aload_n 0, 1) := by decide +kernel
theorem dX7_setFutures_54 : decode cX7_setFutures 54 = .ok (.iload_n 1, 1) := by decide +kernel
theorem dX7_setFutures_55 : decode cX7_setFutures 55 = .ok (.putfield 48, 3) := by decide +kernel
theorem dX7_setFutures_58 : decode cX7_setFutures 58 = .ok (.iload_n 2, 1) := by decide +kernel
theorem dX7_setFutures_59 : decode cX7_setFutures 59 = .ok (.ireturn, 1) := by decide +kernel
theorem dX7_hedged_0 : decode cX7_hedged 0 = .ok (.aload_n 0, 1) := by decide +kernel
theorem dX7_hedged_1 : decode cX7_hedged 1 = .ok (.iconst 0, 1) := by decide +kernel
theorem dX7_hedged_2 : decode cX7_hedged 2 = .ok (.putfield 52, 3) := by decide +kernel
theorem dX7_hedged_5 : decode cX7_hedged 5 = .ok (.aload_n 0, 1) := by decide +kernel
theorem dX7_hedged_6 : decode cX7_hedged 6 = .ok (.getfield 87, 3) := by decide +kernel
theorem dX7_hedged_9 : decode cX7_hedged 9 = .ok (.ireturn, 1) := by decide +kernel
theorem dX7_owned_0 : decode cX7_owned 0 = .ok (.aload_n 0, 1) := by decide +kernel
theorem dX7_owned_1 : decode cX7_owned 1 = .ok (.iconst 0, 1) := by decide +kernel
theorem dX7_owned_2 : decode cX7_owned 2 = .ok (.putfield 52, 3) := by decide +kernel
theorem dX7_owned_5 : decode cX7_owned 5 = .ok (.aload_n 0, 1) := by decide +kernel
theorem dX7_owned_6 : decode cX7_owned 6 = .ok (.invokevirtual 83, 3) := by decide +kernel
theorem dX7_owned_9 : decode cX7_owned 9 = .ok (.ireturn, 1) := by decide +kernel
theorem dX7_tradeCount_0 : decode cX7_tradeCount 0 = .ok (.aload_n 0, 1) := by decide +kernel
theorem dX7_tradeCount_1 : decode cX7_tradeCount 1 = .ok (.iconst 0, 1) := by decide +kernel
theorem dX7_tradeCount_2 : decode cX7_tradeCount 2 = .ok (.putfield 52, 3) := by decide +kernel
theorem dX7_tradeCount_5 : decode cX7_tradeCount 5 = .ok (.aload_n 0, 1) := by decide +kernel
theorem dX7_tradeCount_6 : decode cX7_tradeCount 6 = .ok (.getfield 90, 3) := by decide +kernel
theorem dX7_tradeCount_9 : decode cX7_tradeCount 9 = .ok (.ireturn, 1) := by decide +kernel
theorem dX7_tradeAt_0 : decode cX7_tradeAt 0 = .ok (.aload_n 0, 1) := by decide +kernel
theorem dX7_tradeAt_1 : decode cX7_tradeAt 1 = .ok (.iload_n 1, 1) := by decide +kernel
theorem dX7_tradeAt_2 : decode cX7_tradeAt 2 = .ok (.iconst 0, 1) := by decide +kernel
theorem dX7_tradeAt_3 : decode cX7_tradeAt 3 = .ok (.aload_n 0, 1) := by decide +kernel
theorem dX7_tradeAt_4 : decode cX7_tradeAt 4 = .ok (.getfield 90, 3) := by decide +kernel
theorem dX7_tradeAt_7 : decode cX7_tradeAt 7 = .ok (.iconst 1, 1) := by decide +kernel
theorem dX7_tradeAt_8 : decode cX7_tradeAt 8 = .ok (.isub, 1) := by decide +kernel
theorem dX7_tradeAt_9 : decode cX7_tradeAt 9 = .ok (.invokestatic 58, 3) := by decide +kernel
theorem dX7_tradeAt_12 : decode cX7_tradeAt 12 = .ok (.ifCond .ne 7, 3) := by decide +kernel
theorem dX7_tradeAt_15 : decode cX7_tradeAt 15 = .ok (.iconst 1, 1) := by decide +kernel
theorem dX7_tradeAt_16 : decode cX7_tradeAt 16 = .ok (.goto 4, 3) := by decide +kernel
theorem dX7_tradeAt_19 : decode cX7_tradeAt 19 = .ok (.iconst 0, 1) := by decide +kernel
theorem dX7_tradeAt_20 : decode cX7_tradeAt 20 = .ok (.iconst 1, 1) := by decide +kernel
theorem dX7_tradeAt_21 : decode cX7_tradeAt 21 = .ok (.invokevirtual 62, 3) := by decide +kernel
theorem dX7_tradeAt_24 : decode cX7_tradeAt 24 = .ok (.ifCond .eq 7, 3) := by decide +kernel
theorem dX7_tradeAt_27 : decode cX7_tradeAt 27 = .ok (.iconst 0, 1) := by decide +kernel
theorem dX7_tradeAt_28 : decode cX7_tradeAt 28 = .ok (.goto 9, 3) := by decide +kernel
theorem dX7_tradeAt_31 : decode cX7_tradeAt 31 = .ok (.aload_n 0, 1) := by decide +kernel
theorem dX7_tradeAt_32 : decode cX7_tradeAt 32 = .ok (.getfield 34, 3) := by decide +kernel
theorem dX7_tradeAt_35 : decode cX7_tradeAt 35 = .ok (.iload_n 1, 1) := by decide +kernel
theorem dX7_tradeAt_36 : decode cX7_tradeAt 36 = .ok (.iaload, 1) := by decide +kernel
theorem dX7_tradeAt_37 : decode cX7_tradeAt 37 = .ok (.ireturn, 1) := by decide +kernel
theorem dX7_gain_0 : decode cX7_gain 0 = .ok (.aload_n 0, 1) := by decide +kernel
theorem dX7_gain_1 : decode cX7_gain 1 = .ok (.iconst 0, 1) := by decide +kernel
theorem dX7_gain_2 : decode cX7_gain 2 = .ok (.putfield 52, 3) := by decide +kernel
theorem dX7_gain_5 : decode cX7_gain 5 = .ok (.aload_n 0, 1) := by decide +kernel
theorem dX7_gain_6 : decode cX7_gain 6 = .ok (.getfield 170, 3) := by decide +kernel
theorem dX7_gain_9 : decode cX7_gain 9 = .ok (.lreturn, 1) := by decide +kernel
theorem dX7_cash_0 : decode cX7_cash 0 = .ok (.aload_n 0, 1) := by decide +kernel
theorem dX7_cash_1 : decode cX7_cash 1 = .ok (.iconst 0, 1) := by decide +kernel
theorem dX7_cash_2 : decode cX7_cash 2 = .ok (.putfield 52, 3) := by decide +kernel
theorem dX7_cash_5 : decode cX7_cash 5 = .ok (.aload_n 0, 1) := by decide +kernel
theorem dX7_cash_6 : decode cX7_cash 6 = .ok (.getfield 101, 3) := by decide +kernel
theorem dX7_cash_9 : decode cX7_cash 9 = .ok (.lreturn, 1) := by decide +kernel
theorem dX7_worth_0 : decode cX7_worth 0 = .ok (.aload_n 0, 1) := by decide +kernel
theorem dX7_worth_1 : decode cX7_worth 1 = .ok (.iconst 0, 1) := by decide +kernel
theorem dX7_worth_2 : decode cX7_worth 2 = .ok (.putfield 52, 3) := by decide +kernel
theorem dX7_worth_5 : decode cX7_worth 5 = .ok (.lconst 0, 1) := by decide +kernel
theorem dX7_worth_6 : decode cX7_worth 6 = .ok (.lstore_n 1, 1) := by decide +kernel
theorem dX7_worth_7 : decode cX7_worth 7 = .ok (.iconst 0, 1) := by decide +kernel
theorem dX7_worth_8 : decode cX7_worth 8 = .ok (.istore_n 3, 1) := by decide +kernel
theorem dX7_worth_9 : decode cX7_worth 9 = .ok (.iload_n 3, 1) := by decide +kernel
theorem dX7_worth_10 : decode cX7_worth 10 = .ok (.bipush 90, 2) := by decide +kernel
theorem dX7_worth_12 : decode cX7_worth 12 = .ok (.aload_n 0, 1) := by decide +kernel
theorem dX7_worth_13 : decode cX7_worth 13 = .ok (.getfield 55, 3) := by decide +kernel
theorem dX7_worth_16 : decode cX7_worth 16 = .ok (.imul, 1) := by decide +kernel
theorem dX7_worth_17 : decode cX7_worth 17 = .ok (.if_icmp .ge 53, 3) := by decide +kernel
theorem dX7_worth_20 : decode cX7_worth 20 = .ok (.lload_n 1, 1) := by decide +kernel
theorem dX7_worth_21 : decode cX7_worth 21 = .ok (.iload_n 3, 1) := by decide +kernel
theorem dX7_worth_22 : decode cX7_worth 22 = .ok (.bipush 90, 2) := by decide +kernel
theorem dX7_worth_24 : decode cX7_worth 24 = .ok (.irem, 1) := by decide +kernel
theorem dX7_worth_25 : decode cX7_worth 25 = .ok (.aload_n 0, 1) := by decide +kernel
theorem dX7_worth_26 : decode cX7_worth 26 = .ok (.getfield 13, 3) := by decide +kernel
theorem dX7_worth_29 : decode cX7_worth 29 = .ok (.iload_n 3, 1) := by decide +kernel
theorem dX7_worth_30 : decode cX7_worth 30 = .ok (.bipush 90, 2) := by decide +kernel
theorem dX7_worth_32 : decode cX7_worth 32 = .ok (.idiv, 1) := by decide +kernel
theorem dX7_worth_33 : decode cX7_worth 33 = .ok (.iaload, 1) := by decide +kernel
theorem dX7_worth_34 : decode cX7_worth 34 = .ok (.if_icmp .ge 27, 3) := by decide +kernel
theorem dX7_worth_37 : decode cX7_worth 37 = .ok (.aload_n 0, 1) := by decide +kernel
theorem dX7_worth_38 : decode cX7_worth 38 = .ok (.getfield 22, 3) := by decide +kernel
theorem dX7_worth_41 : decode cX7_worth 41 = .ok (.iload_n 3, 1) := by decide +kernel
theorem dX7_worth_42 : decode cX7_worth 42 = .ok (.iaload, 1) := by decide +kernel
theorem dX7_worth_43 : decode cX7_worth 43 = .ok (.aload_n 0, 1) := by decide +kernel
theorem dX7_worth_44 : decode cX7_worth 44 = .ok (.getfield 19, 3) := by decide +kernel
theorem dX7_worth_47 : decode cX7_worth 47 = .ok (.aload_n 0, 1) := by decide +kernel
theorem dX7_worth_48 : decode cX7_worth 48 = .ok (.getfield 31, 3) := by decide +kernel
theorem dX7_worth_51 : decode cX7_worth 51 = .ok (.iload_n 3, 1) := by decide +kernel
theorem dX7_worth_52 : decode cX7_worth 52 = .ok (.iaload, 1) := by decide +kernel
theorem dX7_worth_53 : decode cX7_worth 53 = .ok (.iconst 1, 1) := by decide +kernel
theorem dX7_worth_54 : decode cX7_worth 54 = .ok (.isub, 1) := by decide +kernel
theorem dX7_worth_55 : decode cX7_worth 55 = .ok (.iaload, 1) := by decide +kernel
theorem dX7_worth_56 : decode cX7_worth 56 = .ok (.imul, 1) := by decide +kernel
theorem dX7_worth_57 : decode cX7_worth 57 = .ok (.i2l, 1) := by decide +kernel
theorem dX7_worth_58 : decode cX7_worth 58 = .ok (.goto 4, 3) := by decide +kernel
theorem dX7_worth_61 : decode cX7_worth 61 = .ok (.lconst 0, 1) := by decide +kernel
theorem dX7_worth_62 : decode cX7_worth 62 = .ok (.ladd, 1) := by decide +kernel
theorem dX7_worth_63 : decode cX7_worth 63 = .ok (.lstore_n 1, 1) := by decide +kernel
theorem dX7_worth_64 : decode cX7_worth 64 = .ok (.iinc 3 1, 3) := by decide +kernel
theorem dX7_worth_67 : decode cX7_worth 67 = .ok (.goto (-58), 3) := by decide +kernel
theorem dX7_worth_70 : decode cX7_worth 70 = .ok (.lload_n 1, 1) := by decide +kernel
theorem dX7_worth_71 : decode cX7_worth 71 = .ok (.lreturn, 1) := by decide +kernel
theorem dX7_eventCount_0 : decode cX7_eventCount 0 = .ok (.aload_n 0, 1) := by decide +kernel
theorem dX7_eventCount_1 : decode cX7_eventCount 1 = .ok (.iconst 0, 1) := by decide +kernel
theorem dX7_eventCount_2 : decode cX7_eventCount 2 = .ok (.putfield 52, 3) := by decide +kernel
theorem dX7_eventCount_5 : decode cX7_eventCount 5 = .ok (.aload_n 0, 1) := by decide +kernel
theorem dX7_eventCount_6 : decode cX7_eventCount 6 = .ok (.getfield 80, 3) := by decide +kernel
theorem dX7_eventCount_9 : decode cX7_eventCount 9 = .ok (.ireturn, 1) := by decide +kernel
theorem dX7_eventKind_0 : decode cX7_eventKind 0 = .ok (.aload_n 0, 1) := by decide +kernel
theorem dX7_eventKind_1 : decode cX7_eventKind 1 = .ok (.iload_n 1, 1) := by decide +kernel
theorem dX7_eventKind_2 : decode cX7_eventKind 2 = .ok (.iconst 0, 1) := by decide +kernel
theorem dX7_eventKind_3 : decode cX7_eventKind 3 = .ok (.aload_n 0, 1) := by decide +kernel
theorem dX7_eventKind_4 : decode cX7_eventKind 4 = .ok (.getfield 80, 3) := by decide +kernel
theorem dX7_eventKind_7 : decode cX7_eventKind 7 = .ok (.iconst 1, 1) := by decide +kernel
theorem dX7_eventKind_8 : decode cX7_eventKind 8 = .ok (.isub, 1) := by decide +kernel
theorem dX7_eventKind_9 : decode cX7_eventKind 9 = .ok (.invokestatic 58, 3) := by decide +kernel
theorem dX7_eventKind_12 : decode cX7_eventKind 12 = .ok (.ifCond .ne 7, 3) := by decide +kernel
theorem dX7_eventKind_15 : decode cX7_eventKind 15 = .ok (.iconst 1, 1) := by decide +kernel
theorem dX7_eventKind_16 : decode cX7_eventKind 16 = .ok (.goto 4, 3) := by decide +kernel
theorem dX7_eventKind_19 : decode cX7_eventKind 19 = .ok (.iconst 0, 1) := by decide +kernel
theorem dX7_eventKind_20 : decode cX7_eventKind 20 = .ok (.iconst 1, 1) := by decide +kernel
theorem dX7_eventKind_21 : decode cX7_eventKind 21 = .ok (.invokevirtual 62, 3) := by decide +kernel
theorem dX7_eventKind_24 : decode cX7_eventKind 24 = .ok (.ifCond .eq 8, 3) := by decide +kernel
theorem dX7_eventKind_27 : decode cX7_eventKind 27 = .ok (.bipush 45, 2) := by decide +kernel
theorem dX7_eventKind_29 : decode cX7_eventKind 29 = .ok (.goto 9, 3) := by decide +kernel
theorem dX7_eventKind_32 : decode cX7_eventKind 32 = .ok (.aload_n 0, 1) := by decide +kernel
theorem dX7_eventKind_33 : decode cX7_eventKind 33 = .ok (.getfield 41, 3) := by decide +kernel
theorem dX7_eventKind_36 : decode cX7_eventKind 36 = .ok (.iload_n 1, 1) := by decide +kernel
theorem dX7_eventKind_37 : decode cX7_eventKind 37 = .ok (.caload, 1) := by decide +kernel
theorem dX7_eventKind_38 : decode cX7_eventKind 38 = .ok (.ireturn, 1) := by decide +kernel
theorem dX7_isConsistent_0 : decode cX7_isConsistent 0 = .ok (.aload_n 0, 1) := by decide +kernel
theorem dX7_isConsistent_1 : decode cX7_isConsistent 1 = .ok (.iconst 0, 1) := by decide +kernel
theorem dX7_isConsistent_2 : decode cX7_isConsistent 2 = .ok (.putfield 52, 3) := by decide +kernel
theorem dX7_isConsistent_5 : decode cX7_isConsistent 5 = .ok (.iconst 1, 1) := by decide +kernel
theorem dX7_isConsistent_6 : decode cX7_isConsistent 6 = .ok (.ireturn, 1) := by decide +kernel
theorem dX7_writes_0 : decode cX7_writes 0 = .ok (.aload_n 0, 1) := by decide +kernel
theorem dX7_writes_1 : decode cX7_writes 1 = .ok (.getfield 45, 3) := by decide +kernel
theorem dX7_writes_4 : decode cX7_writes 4 = .ok (.aload_n 0, 1) := by decide +kernel
theorem dX7_writes_5 : decode cX7_writes 5 = .ok (.getfield 173, 3) := by decide +kernel
theorem dX7_writes_8 : decode cX7_writes 8 = .ok (.iload_n 1, 1) := by decide +kernel
theorem dX7_writes_9 : decode cX7_writes 9 = .ok (.castore, 1) := by decide +kernel
theorem dX7_writes_10 : decode cX7_writes 10 = .ok (.aload_n 0, 1) := by decide +kernel
theorem dX7_writes_11 : decode cX7_writes 11 = .ok (.dup, 1) := by decide +kernel
theorem dX7_writes_12 : decode cX7_writes 12 = .ok (.getfield 173, 3) := by decide +kernel
theorem dX7_writes_15 : decode cX7_writes 15 = .ok (.iconst 1, 1) := by decide +kernel
theorem dX7_writes_16 : decode cX7_writes 16 = .ok (.iadd, 1) := by decide +kernel
theorem dX7_writes_17 : decode cX7_writes 17 = .ok (.putfield 173, 3) := by decide +kernel
theorem dX7_writes_20 : decode cX7_writes 20 = .ok (.return_, 1) := by decide +kernel
theorem dX7_number_0 : decode cX7_number 0 = .ok (.iload_n 1, 1) := by decide +kernel
theorem dX7_number_1 : decode cX7_number 1 = .ok (.bipush 9, 2) := by decide +kernel
theorem dX7_number_3 : decode cX7_number 3 = .ok (.if_icmp .le 11, 3) := by decide +kernel
theorem dX7_number_6 : decode cX7_number 6 = .ok (.aload_n 0, 1) := by decide +kernel
theorem dX7_number_7 : decode cX7_number 7 = .ok (.iload_n 1, 1) := by decide +kernel
theorem dX7_number_8 : decode cX7_number 8 = .ok (.bipush 10, 2) := by decide +kernel
theorem dX7_number_10 : decode cX7_number 10 = .ok (.idiv, 1) := by decide +kernel
theorem dX7_number_11 : decode cX7_number 11 = .ok (.invokevirtual 176, 3) := by decide +kernel
theorem dX7_number_14 : decode cX7_number 14 = .ok (.aload_n 0, 1) := by decide +kernel
theorem dX7_number_15 : decode cX7_number 15 = .ok (.bipush 48, 2) := by decide +kernel
theorem dX7_number_17 : decode cX7_number 17 = .ok (.iload_n 1, 1) := by decide +kernel
theorem dX7_number_18 : decode cX7_number 18 = .ok (.bipush 10, 2) := by decide +kernel
theorem dX7_number_20 : decode cX7_number 20 = .ok (.irem, 1) := by decide +kernel
theorem dX7_number_21 : decode cX7_number 21 = .ok (.iadd, 1) := by decide +kernel
theorem dX7_number_22 : decode cX7_number 22 = .ok (.i2c, 1) := by decide +kernel
theorem dX7_number_23 : decode cX7_number 23 = .ok (.invokevirtual 179, 3) := by decide +kernel
theorem dX7_number_26 : decode cX7_number 26 = .ok (.return_, 1) := by decide +kernel
theorem dX7_writeBin_0 : decode cX7_writeBin 0 = .ok (.aload_n 0, 1) := by decide +kernel
theorem dX7_writeBin_1 : decode cX7_writeBin 1 = .ok (.iload_n 1, 1) := by decide +kernel
theorem dX7_writeBin_2 : decode cX7_writeBin 2 = .ok (.invokevirtual 66, 3) := by decide +kernel
theorem dX7_writeBin_5 : decode cX7_writeBin 5 = .ok (.ifCond .eq 5, 3) := by decide +kernel
theorem dX7_writeBin_8 : decode cX7_writeBin 8 = .ok (.iconst 0, 1) := by decide +kernel
theorem dX7_writeBin_9 : decode cX7_writeBin 9 = .ok (.ireturn, 1) := by decide +kernel
theorem dX7_writeBin_10 : decode cX7_writeBin 10 = .ok (.aload_n 0, 1) := by decide +kernel
theorem dX7_writeBin_11 : decode cX7_writeBin 11 = .ok (.iconst 0, 1) := by decide +kernel
theorem dX7_writeBin_12 : decode cX7_writeBin 12 = .ok (.putfield 173, 3) := by decide +kernel
theorem dX7_writeBin_15 : decode cX7_writeBin 15 = .ok (.iconst 0, 1) := by decide +kernel
theorem dX7_writeBin_16 : decode cX7_writeBin 16 = .ok (.istore_n 2, 1) := by decide +kernel
theorem dX7_writeBin_17 : decode cX7_writeBin 17 = .ok (.iload_n 2, 1) := by decide +kernel
theorem dX7_writeBin_18 : decode cX7_writeBin 18 = .ok (.aload_n 0, 1) := by decide +kernel
theorem dX7_writeBin_19 : decode cX7_writeBin 19 = .ok (.getfield 13, 3) := by decide +kernel
theorem dX7_writeBin_22 : decode cX7_writeBin 22 = .ok (.iload_n 1, 1) := by decide +kernel
theorem dX7_writeBin_23 : decode cX7_writeBin 23 = .ok (.iaload, 1) := by decide +kernel
theorem dX7_writeBin_24 : decode cX7_writeBin 24 = .ok (.if_icmp .ge 68, 3) := by decide +kernel
theorem dX7_writeBin_27 : decode cX7_writeBin 27 = .ok (.aload_n 0, 1) := by decide +kernel
theorem dX7_writeBin_28 : decode cX7_writeBin 28 = .ok (.iload_n 1, 1) := by decide +kernel
theorem dX7_writeBin_29 : decode cX7_writeBin 29 = .ok (.iload_n 2, 1) := by decide +kernel
theorem dX7_writeBin_30 : decode cX7_writeBin 30 = .ok (.invokevirtual 109, 3) := by decide +kernel
theorem dX7_writeBin_33 : decode cX7_writeBin 33 = .ok (.istore_n 3, 1) := by decide +kernel
theorem dX7_writeBin_34 : decode cX7_writeBin 34 = .ok (.iload_n 2, 1) := by decide +kernel
theorem dX7_writeBin_35 : decode cX7_writeBin 35 = .ok (.ifCond .le 9, 3) := by decide +kernel
theorem dX7_writeBin_38 : decode cX7_writeBin 38 = .ok (.aload_n 0, 1) := by decide +kernel
theorem dX7_writeBin_39 : decode cX7_writeBin 39 = .ok (.bipush 32, 2) := by decide +kernel
theorem dX7_writeBin_41 : decode cX7_writeBin 41 = .ok (.invokevirtual 179, 3) := by decide +kernel
theorem dX7_writeBin_44 : decode cX7_writeBin 44 = .ok (.aload_n 0, 1) := by decide +kernel
theorem dX7_writeBin_45 : decode cX7_writeBin 45 = .ok (.aload_n 0, 1) := by decide +kernel
theorem dX7_writeBin_46 : decode cX7_writeBin 46 = .ok (.getfield 22, 3) := by decide +kernel
theorem dX7_writeBin_49 : decode cX7_writeBin 49 = .ok (.iload_n 3, 1) := by decide +kernel
theorem dX7_writeBin_50 : decode cX7_writeBin 50 = .ok (.iaload, 1) := by decide +kernel
theorem dX7_writeBin_51 : decode cX7_writeBin 51 = .ok (.invokevirtual 176, 3) := by decide +kernel
theorem dX7_writeBin_54 : decode cX7_writeBin 54 = .ok (.aload_n 0, 1) := by decide +kernel
theorem dX7_writeBin_55 : decode cX7_writeBin 55 = .ok (.bipush 64, 2) := by decide +kernel
theorem dX7_writeBin_57 : decode cX7_writeBin 57 = .ok (.invokevirtual 179, 3) := by decide +kernel
theorem dX7_writeBin_60 : decode cX7_writeBin 60 = .ok (.aload_n 0, 1) := by decide +kernel
theorem dX7_writeBin_61 : decode cX7_writeBin 61 = .ok (.aload_n 0, 1) := by decide +kernel
theorem dX7_writeBin_62 : decode cX7_writeBin 62 = .ok (.getfield 25, 3) := by decide +kernel
theorem dX7_writeBin_65 : decode cX7_writeBin 65 = .ok (.iload_n 3, 1) := by decide +kernel
theorem dX7_writeBin_66 : decode cX7_writeBin 66 = .ok (.iaload, 1) := by decide +kernel
theorem dX7_writeBin_67 : decode cX7_writeBin 67 = .ok (.invokevirtual 176, 3) := by decide +kernel
theorem dX7_writeBin_70 : decode cX7_writeBin 70 = .ok (.aload_n 0, 1) := by decide +kernel
theorem dX7_writeBin_71 : decode cX7_writeBin 71 = .ok (.bipush 103, 2) := by decide +kernel
theorem dX7_writeBin_73 : decode cX7_writeBin 73 = .ok (.invokevirtual 179, 3) := by decide +kernel
theorem dX7_writeBin_76 : decode cX7_writeBin 76 = .ok (.aload_n 0, 1) := by decide +kernel
theorem dX7_writeBin_77 : decode cX7_writeBin 77 = .ok (.aload_n 0, 1) := by decide +kernel
theorem dX7_writeBin_78 : decode cX7_writeBin 78 = .ok (.getfield 31, 3) := by decide +kernel
theorem dX7_writeBin_81 : decode cX7_writeBin 81 = .ok (.iload_n 3, 1) := by decide +kernel
theorem dX7_writeBin_82 : decode cX7_writeBin 82 = .ok (.iaload, 1) := by decide +kernel
theorem dX7_writeBin_83 : decode cX7_writeBin 83 = .ok (.invokevirtual 176, 3) := by decide +kernel
theorem dX7_writeBin_86 : decode cX7_writeBin 86 = .ok (.iinc 2 1, 3) := by decide +kernel
theorem dX7_writeBin_89 : decode cX7_writeBin 89 = .ok (.goto (-72), 3) := by decide +kernel
theorem dX7_writeBin_92 : decode cX7_writeBin 92 = .ok (.aload_n 0, 1) := by decide +kernel
theorem dX7_writeBin_93 : decode cX7_writeBin 93 = .ok (.getfield 173, 3) := by decide +kernel
theorem dX7_writeBin_96 : decode cX7_writeBin 96 = .ok (.ireturn, 1) := by decide +kernel
theorem dX7_lineAt_0 : decode cX7_lineAt 0 = .ok (.aload_n 0, 1) := by decide +kernel
theorem dX7_lineAt_1 : decode cX7_lineAt 1 = .ok (.iload_n 1, 1) := by decide +kernel
theorem dX7_lineAt_2 : decode cX7_lineAt 2 = .ok (.iconst 0, 1) := by decide +kernel
theorem dX7_lineAt_3 : decode cX7_lineAt 3 = .ok (.aload_n 0, 1) := by decide +kernel
theorem dX7_lineAt_4 : decode cX7_lineAt 4 = .ok (.getfield 173, 3) := by decide +kernel
theorem dX7_lineAt_7 : decode cX7_lineAt 7 = .ok (.iconst 1, 1) := by decide +kernel
theorem dX7_lineAt_8 : decode cX7_lineAt 8 = .ok (.isub, 1) := by decide +kernel
theorem dX7_lineAt_9 : decode cX7_lineAt 9 = .ok (.invokestatic 58, 3) := by decide +kernel
theorem dX7_lineAt_12 : decode cX7_lineAt 12 = .ok (.ifCond .ne 7, 3) := by decide +kernel
theorem dX7_lineAt_15 : decode cX7_lineAt 15 = .ok (.iconst 1, 1) := by decide +kernel
theorem dX7_lineAt_16 : decode cX7_lineAt 16 = .ok (.goto 4, 3) := by decide +kernel
theorem dX7_lineAt_19 : decode cX7_lineAt 19 = .ok (.iconst 0, 1) := by decide +kernel
theorem dX7_lineAt_20 : decode cX7_lineAt 20 = .ok (.iconst 1, 1) := by decide +kernel
theorem dX7_lineAt_21 : decode cX7_lineAt 21 = .ok (.invokevirtual 62, 3) := by decide +kernel
theorem dX7_lineAt_24 : decode cX7_lineAt 24 = .ok (.ifCond .eq 8, 3) := by decide +kernel
theorem dX7_lineAt_27 : decode cX7_lineAt 27 = .ok (.bipush 45, 2) := by decide +kernel
theorem dX7_lineAt_29 : decode cX7_lineAt 29 = .ok (.goto 9, 3) := by decide +kernel
theorem dX7_lineAt_32 : decode cX7_lineAt 32 = .ok (.aload_n 0, 1) := by decide +kernel
theorem dX7_lineAt_33 : decode cX7_lineAt 33 = .ok (.getfield 45, 3) := by decide +kernel
theorem dX7_lineAt_36 : decode cX7_lineAt 36 = .ok (.iload_n 1, 1) := by decide +kernel
theorem dX7_lineAt_37 : decode cX7_lineAt 37 = .ok (.caload, 1) := by decide +kernel
theorem dX7_lineAt_38 : decode cX7_lineAt 38 = .ok (.ireturn, 1) := by decide +kernel
theorem dJ5_init_d00df_0 : decode cJ5_init_d00df 0 = .ok (.aload_n 0, 1) := by decide +kernel
theorem dJ5_init_d00df_1 : decode cJ5_init_d00df 1 = .ok (.invokespecial 3, 3) := by decide +kernel
theorem dJ5_init_d00df_4 : decode cJ5_init_d00df 4 = .ok (.getstatic 18, 3) := by decide +kernel
theorem dJ5_init_d00df_7 : decode cJ5_init_d00df 7 = .ok (.ifCond .eq 18, 3) := by decide +kernel
theorem dJ5_init_d00df_10 : decode cJ5_init_d00df 10 = .ok (.aload_n 0, 1) := by decide +kernel
theorem dJ5_init_d00df_11 : decode cJ5_init_d00df 11 = .ok (.iload_n 1, 1) := by decide +kernel
theorem dJ5_init_d00df_12 : decode cJ5_init_d00df 12 = .ok (.newarray .byte, 2) := by decide +kernel
theorem dJ5_init_d00df_14 : decode cJ5_init_d00df 14 = .ok (.putfield 15, 3) := by decide +kernel
theorem dJ5_init_d00df_17 : decode cJ5_init_d00df 17 = .ok (.aload_n 0, 1) := by decide +kernel
theorem dJ5_init_d00df_18 : decode cJ5_init_d00df 18 = .ok (.iconst 0, 1) := by decide +kernel
theorem dJ5_init_d00df_19 : decode cJ5_init_d00df 19 = .ok (.putfield 22, 3) := by decide +kernel
theorem dJ5_init_d00df_22 : decode cJ5_init_d00df 22 = .ok (.goto 16, 3) := by decide +kernel
theorem dJ5_init_d00df_25 : decode cJ5_init_d00df 25 = .ok (.aload_n 0, 1) := by decide +kernel
theorem dJ5_init_d00df_26 : decode cJ5_init_d00df 26 = .ok (.iload_n 1, 1) := by decide +kernel
theorem dJ5_init_d00df_27 : decode cJ5_init_d00df 27 = .ok (.invokestatic 26, 3) := by decide +kernel
theorem dJ5_init_d00df_30 : decode cJ5_init_d00df 30 = .ok (.putfield 15, 3) := by decide +kernel
theorem dJ5_init_d00df_33 : decode cJ5_init_d00df 33 = .ok (.aload_n 0, 1) := by decide +kernel
theorem dJ5_init_d00df_34 : decode cJ5_init_d00df 34 = .ok (.iconst 1, 1) := by decide +kernel
theorem dJ5_init_d00df_35 : decode cJ5_init_d00df 35 = .ok (.putfield 22, 3) := by decide +kernel
theorem dJ5_init_d00df_38 : decode cJ5_init_d00df 38 = .ok (.return_, 1) := by decide +kernel
theorem dJ5_length_8abf5_0 : decode cJ5_length_8abf5 0 = .ok (.aload_n 0, 1) := by decide +kernel
theorem dJ5_length_8abf5_1 : decode cJ5_length_8abf5 1 = .ok (.getfield 79, 3) := by decide +kernel
theorem dJ5_length_8abf5_4 : decode cJ5_length_8abf5 4 = .ok (.ireturn, 1) := by decide +kernel
theorem dJ5_ensureCapacityInternal_d00df_0 : decode cJ5_ensureCapacityInternal_d00df 0 = .ok (.aload_n 0, 1) := by decide +kernel
theorem dJ5_ensureCapacityInternal_d00df_1 : decode cJ5_ensureCapacityInternal_d00df 1 = .ok (.getfield 15, 3) := by decide +kernel
theorem dJ5_ensureCapacityInternal_d00df_4 : decode cJ5_ensureCapacityInternal_d00df 4 = .ok (.arraylength, 1) := by decide +kernel
theorem dJ5_ensureCapacityInternal_d00df_5 : decode cJ5_ensureCapacityInternal_d00df 5 = .ok (.aload_n 0, 1) := by decide +kernel
theorem dJ5_ensureCapacityInternal_d00df_6 : decode cJ5_ensureCapacityInternal_d00df 6 = .ok (.getfield 22, 3) := by decide +kernel
theorem dJ5_ensureCapacityInternal_d00df_9 : decode cJ5_ensureCapacityInternal_d00df 9 = .ok (.ishr, 1) := by decide +kernel
theorem dJ5_ensureCapacityInternal_d00df_10 : decode cJ5_ensureCapacityInternal_d00df 10 = .ok (.istore_n 2, 1) := by decide +kernel
theorem dJ5_ensureCapacityInternal_d00df_11 : decode cJ5_ensureCapacityInternal_d00df 11 = .ok (.iload_n 1, 1) := by decide +kernel
theorem dJ5_ensureCapacityInternal_d00df_12 : decode cJ5_ensureCapacityInternal_d00df 12 = .ok (.iload_n 2, 1) := by decide +kernel
theorem dJ5_ensureCapacityInternal_d00df_13 : decode cJ5_ensureCapacityInternal_d00df 13 = .ok (.isub, 1) := by decide +kernel
theorem dJ5_ensureCapacityInternal_d00df_14 : decode cJ5_ensureCapacityInternal_d00df 14 = .ok (.ifCond .le 24, 3) := by decide +kernel
theorem dJ5_ensureCapacityInternal_d00df_17 : decode cJ5_ensureCapacityInternal_d00df 17 = .ok (.aload_n 0, 1) := by decide +kernel
theorem dJ5_ensureCapacityInternal_d00df_18 : decode cJ5_ensureCapacityInternal_d00df 18 = .ok (.aload_n 0, 1) := by decide +kernel
theorem dJ5_ensureCapacityInternal_d00df_19 : decode cJ5_ensureCapacityInternal_d00df 19 = .ok (.getfield 15, 3) := by decide +kernel
theorem dJ5_ensureCapacityInternal_d00df_22 : decode cJ5_ensureCapacityInternal_d00df 22 = .ok (.aload_n 0, 1) := by decide +kernel
theorem dJ5_ensureCapacityInternal_d00df_23 : decode cJ5_ensureCapacityInternal_d00df 23 = .ok (.iload_n 1, 1) := by decide +kernel
theorem dJ5_ensureCapacityInternal_d00df_24 : decode cJ5_ensureCapacityInternal_d00df 24 = .ok (.invokevirtual 104, 3) := by decide +kernel
theorem dJ5_ensureCapacityInternal_d00df_27 : decode cJ5_ensureCapacityInternal_d00df 27 = .ok (.aload_n 0, 1) := by decide +kernel
theorem dJ5_ensureCapacityInternal_d00df_28 : decode cJ5_ensureCapacityInternal_d00df 28 = .ok (.getfield 22, 3) := by decide +kernel
theorem dJ5_ensureCapacityInternal_d00df_31 : decode cJ5_ensureCapacityInternal_d00df 31 = .ok (.ishl, 1) := by decide +kernel
theorem dJ5_ensureCapacityInternal_d00df_32 : decode cJ5_ensureCapacityInternal_d00df 32 = .ok (.invokestatic 108, 3) := by decide +kernel
theorem dJ5_ensureCapacityInternal_d00df_35 : decode cJ5_ensureCapacityInternal_d00df 35 = .ok (.putfield 15, 3) := by decide +kernel
theorem dJ5_ensureCapacityInternal_d00df_38 : decode cJ5_ensureCapacityInternal_d00df 38 = .ok (.return_, 1) := by decide +kernel
theorem dJ5_newCapacity_0f7a4_0 : decode cJ5_newCapacity_0f7a4 0 = .ok (.aload_n 0, 1) := by decide +kernel
theorem dJ5_newCapacity_0f7a4_1 : decode cJ5_newCapacity_0f7a4 1 = .ok (.getfield 15, 3) := by decide +kernel
theorem dJ5_newCapacity_0f7a4_4 : decode cJ5_newCapacity_0f7a4 4 = .ok (.arraylength, 1) := by decide +kernel
theorem dJ5_newCapacity_0f7a4_5 : decode cJ5_newCapacity_0f7a4 5 = .ok (.istore_n 2, 1) := by decide +kernel
theorem dJ5_newCapacity_0f7a4_6 : decode cJ5_newCapacity_0f7a4 6 = .ok (.iload_n 1, 1) := by decide +kernel
theorem dJ5_newCapacity_0f7a4_7 : decode cJ5_newCapacity_0f7a4 7 = .ok (.aload_n 0, 1) := by decide +kernel
theorem dJ5_newCapacity_0f7a4_8 : decode cJ5_newCapacity_0f7a4 8 = .ok (.getfield 22, 3) := by decide +kernel
theorem dJ5_newCapacity_0f7a4_11 : decode cJ5_newCapacity_0f7a4 11 = .ok (.ishl, 1) := by decide +kernel
theorem dJ5_newCapacity_0f7a4_12 : decode cJ5_newCapacity_0f7a4 12 = .ok (.istore_n 3, 1) := by decide +kernel
theorem dJ5_newCapacity_0f7a4_13 : decode cJ5_newCapacity_0f7a4 13 = .ok (.iload_n 3, 1) := by decide +kernel
theorem dJ5_newCapacity_0f7a4_14 : decode cJ5_newCapacity_0f7a4 14 = .ok (.iload_n 2, 1) := by decide +kernel
theorem dJ5_newCapacity_0f7a4_15 : decode cJ5_newCapacity_0f7a4 15 = .ok (.isub, 1) := by decide +kernel
theorem dJ5_newCapacity_0f7a4_16 : decode cJ5_newCapacity_0f7a4 16 = .ok (.istore 4, 2) := by decide +kernel
theorem dJ5_newCapacity_0f7a4_18 : decode cJ5_newCapacity_0f7a4 18 = .ok (.iload_n 2, 1) := by decide +kernel
theorem dJ5_newCapacity_0f7a4_19 : decode cJ5_newCapacity_0f7a4 19 = .ok (.iload 4, 2) := by decide +kernel
theorem dJ5_newCapacity_0f7a4_21 : decode cJ5_newCapacity_0f7a4 21 = .ok (.iload_n 2, 1) := by decide +kernel
theorem dJ5_newCapacity_0f7a4_22 : decode cJ5_newCapacity_0f7a4 22 = .ok (.iconst 2, 1) := by decide +kernel
theorem dJ5_newCapacity_0f7a4_23 : decode cJ5_newCapacity_0f7a4 23 = .ok (.aload_n 0, 1) := by decide +kernel
theorem dJ5_newCapacity_0f7a4_24 : decode cJ5_newCapacity_0f7a4 24 = .ok (.getfield 22, 3) := by decide +kernel
theorem dJ5_newCapacity_0f7a4_27 : decode cJ5_newCapacity_0f7a4 27 = .ok (.ishl, 1) := by decide +kernel
theorem dJ5_newCapacity_0f7a4_28 : decode cJ5_newCapacity_0f7a4 28 = .ok (.iadd, 1) := by decide +kernel
theorem dJ5_newCapacity_0f7a4_29 : decode cJ5_newCapacity_0f7a4 29 = .ok (.invokestatic 114, 3) := by decide +kernel
theorem dJ5_newCapacity_0f7a4_32 : decode cJ5_newCapacity_0f7a4 32 = .ok (.istore 5, 2) := by decide +kernel
theorem dJ5_newCapacity_0f7a4_34 : decode cJ5_newCapacity_0f7a4 34 = .ok (.iload 5, 2) := by decide +kernel
theorem dJ5_newCapacity_0f7a4_36 : decode cJ5_newCapacity_0f7a4 36 = .ok (.ldc 39, 2) := by decide +kernel
theorem dJ5_newCapacity_0f7a4_38 : decode cJ5_newCapacity_0f7a4 38 = .ok (.if_icmp .ne 13, 3) := by decide +kernel
theorem dJ5_newCapacity_0f7a4_41 : decode cJ5_newCapacity_0f7a4 41 = .ok (.new 120, 3) := by decide +kernel
theorem dJ5_newCapacity_0f7a4_44 : decode cJ5_newCapacity_0f7a4 44 = .ok (.dup, 1) := by decide +kernel
theorem dJ5_newCapacity_0f7a4_45 : decode cJ5_newCapacity_0f7a4 45 = .ok (.ldc 122, 2) := by decide +kernel
theorem dJ5_newCapacity_0f7a4_47 : decode cJ5_newCapacity_0f7a4 47 = .ok (.invokespecial 124, 3) := by decide +kernel
theorem dJ5_newCapacity_0f7a4_50 : decode cJ5_newCapacity_0f7a4 50 = .ok (.athrow, 1) := by decide +kernel
theorem dJ5_newCapacity_0f7a4_51 : decode cJ5_newCapacity_0f7a4 51 = .ok (.iload 5, 2) := by decide +kernel
theorem dJ5_newCapacity_0f7a4_53 : decode cJ5_newCapacity_0f7a4 53 = .ok (.aload_n 0, 1) := by decide +kernel
theorem dJ5_newCapacity_0f7a4_54 : decode cJ5_newCapacity_0f7a4 54 = .ok (.getfield 22, 3) := by decide +kernel
theorem dJ5_newCapacity_0f7a4_57 : decode cJ5_newCapacity_0f7a4 57 = .ok (.ishr, 1) := by decide +kernel
theorem dJ5_newCapacity_0f7a4_58 : decode cJ5_newCapacity_0f7a4 58 = .ok (.ireturn, 1) := by decide +kernel
theorem dJ5_inflate_da8c8_0 : decode cJ5_inflate_da8c8 0 = .ok (.aload_n 0, 1) := by decide +kernel
theorem dJ5_inflate_da8c8_1 : decode cJ5_inflate_da8c8 1 = .ok (.invokevirtual 83, 3) := by decide +kernel
theorem dJ5_inflate_da8c8_4 : decode cJ5_inflate_da8c8 4 = .ok (.ifCond .ne 4, 3) := by decide +kernel
theorem dJ5_inflate_da8c8_7 : decode cJ5_inflate_da8c8 7 = .ok (.return_, 1) := by decide +kernel
theorem dJ5_inflate_da8c8_8 : decode cJ5_inflate_da8c8 8 = .ok (.aload_n 0, 1) := by decide +kernel
theorem dJ5_inflate_da8c8_9 : decode cJ5_inflate_da8c8 9 = .ok (.getfield 15, 3) := by decide +kernel
theorem dJ5_inflate_da8c8_12 : decode cJ5_inflate_da8c8 12 = .ok (.arraylength, 1) := by decide +kernel
theorem dJ5_inflate_da8c8_13 : decode cJ5_inflate_da8c8 13 = .ok (.invokestatic 26, 3) := by decide +kernel
theorem dJ5_inflate_da8c8_16 : decode cJ5_inflate_da8c8 16 = .ok (.astore_n 1, 1) := by decide +kernel
theorem dJ5_inflate_da8c8_17 : decode cJ5_inflate_da8c8 17 = .ok (.aload_n 0, 1) := by decide +kernel
theorem dJ5_inflate_da8c8_18 : decode cJ5_inflate_da8c8 18 = .ok (.getfield 15, 3) := by decide +kernel
theorem dJ5_inflate_da8c8_21 : decode cJ5_inflate_da8c8 21 = .ok (.iconst 0, 1) := by decide +kernel
theorem dJ5_inflate_da8c8_22 : decode cJ5_inflate_da8c8 22 = .ok (.aload_n 1, 1) := by decide +kernel
theorem dJ5_inflate_da8c8_23 : decode cJ5_inflate_da8c8 23 = .ok (.iconst 0, 1) := by decide +kernel
theorem dJ5_inflate_da8c8_24 : decode cJ5_inflate_da8c8 24 = .ok (.aload_n 0, 1) := by decide +kernel
theorem dJ5_inflate_da8c8_25 : decode cJ5_inflate_da8c8 25 = .ok (.getfield 79, 3) := by decide +kernel
theorem dJ5_inflate_da8c8_28 : decode cJ5_inflate_da8c8 28 = .ok (.invokestatic 125, 3) := by decide +kernel
theorem dJ5_inflate_da8c8_31 : decode cJ5_inflate_da8c8 31 = .ok (.aload_n 0, 1) := by decide +kernel
theorem dJ5_inflate_da8c8_32 : decode cJ5_inflate_da8c8 32 = .ok (.aload_n 1, 1) := by decide +kernel
theorem dJ5_inflate_da8c8_33 : decode cJ5_inflate_da8c8 33 = .ok (.putfield 15, 3) := by decide +kernel
theorem dJ5_inflate_da8c8_36 : decode cJ5_inflate_da8c8 36 = .ok (.aload_n 0, 1) := by decide +kernel
theorem dJ5_inflate_da8c8_37 : decode cJ5_inflate_da8c8 37 = .ok (.iconst 1, 1) := by decide +kernel
theorem dJ5_inflate_da8c8_38 : decode cJ5_inflate_da8c8 38 = .ok (.putfield 22, 3) := by decide +kernel
theorem dJ5_inflate_da8c8_41 : decode cJ5_inflate_da8c8 41 = .ok (.return_, 1) := by decide +kernel
theorem dJ5_setLength_d00df_0 : decode cJ5_setLength_d00df 0 = .ok (.iload_n 1, 1) := by decide +kernel
theorem dJ5_setLength_d00df_1 : decode cJ5_setLength_d00df 1 = .ok (.ifCond .ge 12, 3) := by decide +kernel
theorem dJ5_setLength_d00df_4 : decode cJ5_setLength_d00df 4 = .ok (.new 129, 3) := by decide +kernel
theorem dJ5_setLength_d00df_7 : decode cJ5_setLength_d00df 7 = .ok (.dup, 1) := by decide +kernel
theorem dJ5_setLength_d00df_8 : decode cJ5_setLength_d00df 8 = .ok (.iload_n 1, 1) := by decide +kernel
theorem dJ5_setLength_d00df_9 : decode cJ5_setLength_d00df 9 = .ok (.invokespecial 131, 3) := by decide +kernel
theorem dJ5_setLength_d00df_12 : decode cJ5_setLength_d00df 12 = .ok (.athrow, 1) := by decide +kernel
theorem dJ5_setLength_d00df_13 : decode cJ5_setLength_d00df 13 = .ok (.aload_n 0, 1) := by decide +kernel
theorem dJ5_setLength_d00df_14 : decode cJ5_setLength_d00df 14 = .ok (.iload_n 1, 1) := by decide +kernel
theorem dJ5_setLength_d00df_15 : decode cJ5_setLength_d00df 15 = .ok (.invokevirtual 100, 3) := by decide +kernel
theorem dJ5_setLength_d00df_18 : decode cJ5_setLength_d00df 18 = .ok (.aload_n 0, 1) := by decide +kernel
theorem dJ5_setLength_d00df_19 : decode cJ5_setLength_d00df 19 = .ok (.getfield 79, 3) := by decide +kernel
theorem dJ5_setLength_d00df_22 : decode cJ5_setLength_d00df 22 = .ok (.iload_n 1, 1) := by decide +kernel
theorem dJ5_setLength_d00df_23 : decode cJ5_setLength_d00df 23 = .ok (.if_icmp .ge 40, 3) := by decide +kernel
theorem dJ5_setLength_d00df_26 : decode cJ5_setLength_d00df 26 = .ok (.aload_n 0, 1) := by decide +kernel
theorem dJ5_setLength_d00df_27 : decode cJ5_setLength_d00df 27 = .ok (.invokevirtual 83, 3) := by decide +kernel
theorem dJ5_setLength_d00df_30 : decode cJ5_setLength_d00df 30 = .ok (.ifCond .eq 18, 3) := by decide +kernel
theorem dJ5_setLength_d00df_33 : decode cJ5_setLength_d00df 33 = .ok (.aload_n 0, 1) := by decide +kernel
theorem dJ5_setLength_d00df_34 : decode cJ5_setLength_d00df 34 = .ok (.getfield 15, 3) := by decide +kernel
theorem dJ5_setLength_d00df_37 : decode cJ5_setLength_d00df 37 = .ok (.aload_n 0, 1) := by decide +kernel
theorem dJ5_setLength_d00df_38 : decode cJ5_setLength_d00df 38 = .ok (.getfield 79, 3) := by decide +kernel
theorem dJ5_setLength_d00df_41 : decode cJ5_setLength_d00df 41 = .ok (.iload_n 1, 1) := by decide +kernel
theorem dJ5_setLength_d00df_42 : decode cJ5_setLength_d00df 42 = .ok (.invokestatic 133, 3) := by decide +kernel
theorem dJ5_setLength_d00df_45 : decode cJ5_setLength_d00df 45 = .ok (.goto 31, 3) := by decide +kernel
theorem dJ5_setLength_d00df_48 : decode cJ5_setLength_d00df 48 = .ok (.aload_n 0, 1) := by decide +kernel
theorem dJ5_setLength_d00df_49 : decode cJ5_setLength_d00df 49 = .ok (.getfield 15, 3) := by decide +kernel
theorem dJ5_setLength_d00df_52 : decode cJ5_setLength_d00df 52 = .ok (.aload_n 0, 1) := by decide +kernel
theorem dJ5_setLength_d00df_53 : decode cJ5_setLength_d00df 53 = .ok (.getfield 79, 3) := by decide +kernel
theorem dJ5_setLength_d00df_56 : decode cJ5_setLength_d00df 56 = .ok (.iload_n 1, 1) := by decide +kernel
theorem dJ5_setLength_d00df_57 : decode cJ5_setLength_d00df 57 = .ok (.invokestatic 137, 3) := by decide +kernel
theorem dJ5_setLength_d00df_60 : decode cJ5_setLength_d00df 60 = .ok (.goto 16, 3) := by decide +kernel
theorem dJ5_setLength_d00df_63 : decode cJ5_setLength_d00df 63 = .ok (.aload_n 0, 1) := by decide +kernel
theorem dJ5_setLength_d00df_64 : decode cJ5_setLength_d00df 64 = .ok (.getfield 79, 3) := by decide +kernel
theorem dJ5_setLength_d00df_67 : decode cJ5_setLength_d00df 67 = .ok (.iload_n 1, 1) := by decide +kernel
theorem dJ5_setLength_d00df_68 : decode cJ5_setLength_d00df 68 = .ok (.if_icmp .le 8, 3) := by decide +kernel
theorem dJ5_setLength_d00df_71 : decode cJ5_setLength_d00df 71 = .ok (.aload_n 0, 1) := by decide +kernel
theorem dJ5_setLength_d00df_72 : decode cJ5_setLength_d00df 72 = .ok (.iconst 1, 1) := by decide +kernel
theorem dJ5_setLength_d00df_73 : decode cJ5_setLength_d00df 73 = .ok (.putfield 73, 3) := by decide +kernel
theorem dJ5_setLength_d00df_76 : decode cJ5_setLength_d00df 76 = .ok (.aload_n 0, 1) := by decide +kernel
theorem dJ5_setLength_d00df_77 : decode cJ5_setLength_d00df 77 = .ok (.iload_n 1, 1) := by decide +kernel
theorem dJ5_setLength_d00df_78 : decode cJ5_setLength_d00df 78 = .ok (.putfield 79, 3) := by decide +kernel
theorem dJ5_setLength_d00df_81 : decode cJ5_setLength_d00df 81 = .ok (.return_, 1) := by decide +kernel
theorem dJ5_charAt_5068e_0 : decode cJ5_charAt_5068e 0 = .ok (.aload_n 0, 1) := by decide +kernel
theorem dJ5_charAt_5068e_1 : decode cJ5_charAt_5068e 1 = .ok (.getfield 22, 3) := by decide +kernel
theorem dJ5_charAt_5068e_4 : decode cJ5_charAt_5068e 4 = .ok (.istore_n 2, 1) := by decide +kernel
theorem dJ5_charAt_5068e_5 : decode cJ5_charAt_5068e 5 = .ok (.aload_n 0, 1) := by decide +kernel
theorem dJ5_charAt_5068e_6 : decode cJ5_charAt_5068e 6 = .ok (.getfield 15, 3) := by decide +kernel
theorem dJ5_charAt_5068e_9 : decode cJ5_charAt_5068e 9 = .ok (.astore_n 3, 1) := by decide +kernel
theorem dJ5_charAt_5068e_10 : decode cJ5_charAt_5068e 10 = .ok (.aload_n 0, 1) := by decide +kernel
theorem dJ5_charAt_5068e_11 : decode cJ5_charAt_5068e 11 = .ok (.getfield 79, 3) := by decide +kernel
theorem dJ5_charAt_5068e_14 : decode cJ5_charAt_5068e 14 = .ok (.aload_n 3, 1) := by decide +kernel
theorem dJ5_charAt_5068e_15 : decode cJ5_charAt_5068e 15 = .ok (.arraylength, 1) := by decide +kernel
theorem dJ5_charAt_5068e_16 : decode cJ5_charAt_5068e 16 = .ok (.iload_n 2, 1) := by decide +kernel
theorem dJ5_charAt_5068e_17 : decode cJ5_charAt_5068e 17 = .ok (.ishr, 1) := by decide +kernel
theorem dJ5_charAt_5068e_18 : decode cJ5_charAt_5068e 18 = .ok (.invokestatic 138, 3) := by decide +kernel
theorem dJ5_charAt_5068e_21 : decode cJ5_charAt_5068e 21 = .ok (.istore 4, 2) := by decide +kernel
theorem dJ5_charAt_5068e_23 : decode cJ5_charAt_5068e 23 = .ok (.iload_n 1, 1) := by decide +kernel
theorem dJ5_charAt_5068e_24 : decode cJ5_charAt_5068e 24 = .ok (.iload 4, 2) := by decide +kernel
theorem dJ5_charAt_5068e_26 : decode cJ5_charAt_5068e 26 = .ok (.invokestatic 144, 3) := by decide +kernel
theorem dJ5_charAt_5068e_29 : decode cJ5_charAt_5068e 29 = .ok (.iload_n 2, 1) := by decide +kernel
theorem dJ5_charAt_5068e_30 : decode cJ5_charAt_5068e 30 = .ok (.ifCond .ne 12, 3) := by decide +kernel
theorem dJ5_charAt_5068e_33 : decode cJ5_charAt_5068e 33 = .ok (.aload_n 3, 1) := by decide +kernel
theorem dJ5_charAt_5068e_34 : decode cJ5_charAt_5068e 34 = .ok (.iload_n 1, 1) := by decide +kernel
theorem dJ5_charAt_5068e_35 : decode cJ5_charAt_5068e 35 = .ok (.baload, 1) := by decide +kernel
theorem dJ5_charAt_5068e_36 : decode cJ5_charAt_5068e 36 = .ok (.sipush 255, 3) := by decide +kernel
theorem dJ5_charAt_5068e_39 : decode cJ5_charAt_5068e 39 = .ok (.iand, 1) := by decide +kernel
theorem dJ5_charAt_5068e_40 : decode cJ5_charAt_5068e 40 = .ok (.i2c, 1) := by decide +kernel
theorem dJ5_charAt_5068e_41 : decode cJ5_charAt_5068e 41 = .ok (.ireturn, 1) := by decide +kernel
theorem dJ5_charAt_5068e_42 : decode cJ5_charAt_5068e 42 = .ok (.aload_n 3, 1) := by decide +kernel
theorem dJ5_charAt_5068e_43 : decode cJ5_charAt_5068e 43 = .ok (.iload_n 1, 1) := by decide +kernel
theorem dJ5_charAt_5068e_44 : decode cJ5_charAt_5068e 44 = .ok (.invokestatic 148, 3) := by decide +kernel
theorem dJ5_charAt_5068e_47 : decode cJ5_charAt_5068e 47 = .ok (.ireturn, 1) := by decide +kernel
theorem dJ5_append_cf1ce_0 : decode cJ5_append_cf1ce 0 = .ok (.aload_n 1, 1) := by decide +kernel
theorem dJ5_append_cf1ce_1 : decode cJ5_append_cf1ce 1 = .ok (.ifnonnull 8, 3) := by decide +kernel
theorem dJ5_append_cf1ce_4 : decode cJ5_append_cf1ce 4 = .ok (.aload_n 0, 1) := by decide +kernel
theorem dJ5_append_cf1ce_5 : decode cJ5_append_cf1ce 5 = .ok (.invokevirtual 204, 3) := by decide +kernel
theorem dJ5_append_cf1ce_8 : decode cJ5_append_cf1ce 8 = .ok (.areturn, 1) := by decide +kernel
theorem dJ5_append_cf1ce_9 : decode cJ5_append_cf1ce 9 = .ok (.aload_n 1, 1) := by decide +kernel
theorem dJ5_append_cf1ce_10 : decode cJ5_append_cf1ce 10 = .ok (.invokevirtual 32, 3) := by decide +kernel
theorem dJ5_append_cf1ce_13 : decode cJ5_append_cf1ce 13 = .ok (.istore_n 2, 1) := by decide +kernel
theorem dJ5_append_cf1ce_14 : decode cJ5_append_cf1ce 14 = .ok (.aload_n 0, 1) := by decide +kernel
theorem dJ5_append_cf1ce_15 : decode cJ5_append_cf1ce 15 = .ok (.aload_n 0, 1) := by decide +kernel
theorem dJ5_append_cf1ce_16 : decode cJ5_append_cf1ce 16 = .ok (.getfield 79, 3) := by decide +kernel
theorem dJ5_append_cf1ce_19 : decode cJ5_append_cf1ce 19 = .ok (.iload_n 2, 1) := by decide +kernel
theorem dJ5_append_cf1ce_20 : decode cJ5_append_cf1ce 20 = .ok (.iadd, 1) := by decide +kernel
theorem dJ5_append_cf1ce_21 : decode cJ5_append_cf1ce 21 = .ok (.invokevirtual 100, 3) := by decide +kernel
theorem dJ5_append_cf1ce_24 : decode cJ5_append_cf1ce 24 = .ok (.aload_n 0, 1) := by decide +kernel
theorem dJ5_append_cf1ce_25 : decode cJ5_append_cf1ce 25 = .ok (.aload_n 0, 1) := by decide +kernel
theorem dJ5_append_cf1ce_26 : decode cJ5_append_cf1ce 26 = .ok (.getfield 79, 3) := by decide +kernel
theorem dJ5_append_cf1ce_29 : decode cJ5_append_cf1ce 29 = .ok (.aload_n 1, 1) := by decide +kernel
theorem dJ5_append_cf1ce_30 : decode cJ5_append_cf1ce 30 = .ok (.invokevirtual 208, 3) := by decide +kernel
theorem dJ5_append_cf1ce_33 : decode cJ5_append_cf1ce 33 = .ok (.aload_n 0, 1) := by decide +kernel
theorem dJ5_append_cf1ce_34 : decode cJ5_append_cf1ce 34 = .ok (.dup, 1) := by decide +kernel
theorem dJ5_append_cf1ce_35 : decode cJ5_append_cf1ce 35 = .ok (.getfield 79, 3) := by decide +kernel
theorem dJ5_append_cf1ce_38 : decode cJ5_append_cf1ce 38 = .ok (.iload_n 2, 1) := by decide +kernel
theorem dJ5_append_cf1ce_39 : decode cJ5_append_cf1ce 39 = .ok (.iadd, 1) := by decide +kernel
theorem dJ5_append_cf1ce_40 : decode cJ5_append_cf1ce 40 = .ok (.putfield 79, 3) := by decide +kernel
theorem dJ5_append_cf1ce_43 : decode cJ5_append_cf1ce 43 = .ok (.aload_n 0, 1) := by decide +kernel
theorem dJ5_append_cf1ce_44 : decode cJ5_append_cf1ce 44 = .ok (.areturn, 1) := by decide +kernel
theorem dJ5_appendNull_278bc_0 : decode cJ5_appendNull_278bc 0 = .ok (.aload_n 0, 1) := by decide +kernel
theorem dJ5_appendNull_278bc_1 : decode cJ5_appendNull_278bc 1 = .ok (.aload_n 0, 1) := by decide +kernel
theorem dJ5_appendNull_278bc_2 : decode cJ5_appendNull_278bc 2 = .ok (.getfield 79, 3) := by decide +kernel
theorem dJ5_appendNull_278bc_5 : decode cJ5_appendNull_278bc 5 = .ok (.iconst 4, 1) := by decide +kernel
theorem dJ5_appendNull_278bc_6 : decode cJ5_appendNull_278bc 6 = .ok (.iadd, 1) := by decide +kernel
theorem dJ5_appendNull_278bc_7 : decode cJ5_appendNull_278bc 7 = .ok (.invokevirtual 100, 3) := by decide +kernel
theorem dJ5_appendNull_278bc_10 : decode cJ5_appendNull_278bc 10 = .ok (.aload_n 0, 1) := by decide +kernel
theorem dJ5_appendNull_278bc_11 : decode cJ5_appendNull_278bc 11 = .ok (.getfield 79, 3) := by decide +kernel
theorem dJ5_appendNull_278bc_14 : decode cJ5_appendNull_278bc 14 = .ok (.istore_n 1, 1) := by decide +kernel
theorem dJ5_appendNull_278bc_15 : decode cJ5_appendNull_278bc 15 = .ok (.aload_n 0, 1) := by decide +kernel
theorem dJ5_appendNull_278bc_16 : decode cJ5_appendNull_278bc 16 = .ok (.getfield 15, 3) := by decide +kernel
theorem dJ5_appendNull_278bc_19 : decode cJ5_appendNull_278bc 19 = .ok (.astore_n 2, 1) := by decide +kernel
theorem dJ5_appendNull_278bc_20 : decode cJ5_appendNull_278bc 20 = .ok (.aload_n 0, 1) := by decide +kernel
theorem dJ5_appendNull_278bc_21 : decode cJ5_appendNull_278bc 21 = .ok (.invokevirtual 83, 3) := by decide +kernel
theorem dJ5_appendNull_278bc_24 : decode cJ5_appendNull_278bc 24 = .ok (.ifCond .eq 38, 3) := by decide +kernel
theorem dJ5_appendNull_278bc_27 : decode cJ5_appendNull_278bc 27 = .ok (.aload_n 2, 1) := by decide +kernel
theorem dJ5_appendNull_278bc_28 : decode cJ5_appendNull_278bc 28 = .ok (.iload_n 1, 1) := by decide +kernel
theorem dJ5_appendNull_278bc_29 : decode cJ5_appendNull_278bc 29 = .ok (.iinc 1 1, 3) := by decide +kernel
theorem dJ5_appendNull_278bc_32 : decode cJ5_appendNull_278bc 32 = .ok (.bipush 110, 2) := by decide +kernel
theorem dJ5_appendNull_278bc_34 : decode cJ5_appendNull_278bc 34 = .ok (.bastore, 1) := by decide +kernel
theorem dJ5_appendNull_278bc_35 : decode cJ5_appendNull_278bc 35 = .ok (.aload_n 2, 1) := by decide +kernel
theorem dJ5_appendNull_278bc_36 : decode cJ5_appendNull_278bc 36 = .ok (.iload_n 1, 1) := by decide +kernel
theorem dJ5_appendNull_278bc_37 : decode cJ5_appendNull_278bc 37 = .ok (.iinc 1 1, 3) := by decide +kernel
theorem dJ5_appendNull_278bc_40 : decode cJ5_appendNull_278bc 40 = .ok (.bipush 117, 2) := by decide +kernel
theorem dJ5_appendNull_278bc_42 : decode cJ5_appendNull_278bc 42 = .ok (.bastore, 1) := by decide +kernel
theorem dJ5_appendNull_278bc_43 : decode cJ5_appendNull_278bc 43 = .ok (.aload_n 2, 1) := by decide +kernel
theorem dJ5_appendNull_278bc_44 : decode cJ5_appendNull_278bc 44 = .ok (.iload_n 1, 1) := by decide +kernel
theorem dJ5_appendNull_278bc_45 : decode cJ5_appendNull_278bc 45 = .ok (.iinc 1 1, 3) := by decide +kernel
theorem dJ5_appendNull_278bc_48 : decode cJ5_appendNull_278bc 48 = .ok (.bipush 108, 2) := by decide +kernel
theorem dJ5_appendNull_278bc_50 : decode cJ5_appendNull_278bc 50 = .ok (.bastore, 1) := by decide +kernel
theorem dJ5_appendNull_278bc_51 : decode cJ5_appendNull_278bc 51 = .ok (.aload_n 2, 1) := by decide +kernel
theorem dJ5_appendNull_278bc_52 : decode cJ5_appendNull_278bc 52 = .ok (.iload_n 1, 1) := by decide +kernel
theorem dJ5_appendNull_278bc_53 : decode cJ5_appendNull_278bc 53 = .ok (.iinc 1 1, 3) := by decide +kernel
theorem dJ5_appendNull_278bc_56 : decode cJ5_appendNull_278bc 56 = .ok (.bipush 108, 2) := by decide +kernel
theorem dJ5_appendNull_278bc_58 : decode cJ5_appendNull_278bc 58 = .ok (.bastore, 1) := by decide +kernel
theorem dJ5_appendNull_278bc_59 : decode cJ5_appendNull_278bc 59 = .ok (.goto 17, 3) := by decide +kernel
theorem dJ5_appendNull_278bc_62 : decode cJ5_appendNull_278bc 62 = .ok (.aload_n 2, 1) := by decide +kernel
theorem dJ5_appendNull_278bc_63 : decode cJ5_appendNull_278bc 63 = .ok (.iload_n 1, 1) := by decide +kernel
theorem dJ5_appendNull_278bc_64 : decode cJ5_appendNull_278bc 64 = .ok (.bipush 110, 2) := by decide +kernel
theorem dJ5_appendNull_278bc_66 : decode cJ5_appendNull_278bc 66 = .ok (.bipush 117, 2) := by decide +kernel
theorem dJ5_appendNull_278bc_68 : decode cJ5_appendNull_278bc 68 = .ok (.bipush 108, 2) := by decide +kernel
theorem dJ5_appendNull_278bc_70 : decode cJ5_appendNull_278bc 70 = .ok (.bipush 108, 2) := by decide +kernel
theorem dJ5_appendNull_278bc_72 : decode cJ5_appendNull_278bc 72 = .ok (.invokestatic 226, 3) := by decide +kernel
theorem dJ5_appendNull_278bc_75 : decode cJ5_appendNull_278bc 75 = .ok (.istore_n 1, 1) := by decide +kernel
theorem dJ5_appendNull_278bc_76 : decode cJ5_appendNull_278bc 76 = .ok (.aload_n 0, 1) := by decide +kernel
theorem dJ5_appendNull_278bc_77 : decode cJ5_appendNull_278bc 77 = .ok (.iload_n 1, 1) := by decide +kernel
theorem dJ5_appendNull_278bc_78 : decode cJ5_appendNull_278bc 78 = .ok (.putfield 79, 3) := by decide +kernel
theorem dJ5_appendNull_278bc_81 : decode cJ5_appendNull_278bc 81 = .ok (.aload_n 0, 1) := by decide +kernel
theorem dJ5_appendNull_278bc_82 : decode cJ5_appendNull_278bc 82 = .ok (.areturn, 1) := by decide +kernel
theorem dJ5_append_3fe6f_0 : decode cJ5_append_3fe6f 0 = .ok (.aload_n 0, 1) := by decide +kernel
theorem dJ5_append_3fe6f_1 : decode cJ5_append_3fe6f 1 = .ok (.aload_n 0, 1) := by decide +kernel
theorem dJ5_append_3fe6f_2 : decode cJ5_append_3fe6f 2 = .ok (.getfield 79, 3) := by decide +kernel
theorem dJ5_append_3fe6f_5 : decode cJ5_append_3fe6f 5 = .ok (.iconst 1, 1) := by decide +kernel
theorem dJ5_append_3fe6f_6 : decode cJ5_append_3fe6f 6 = .ok (.iadd, 1) := by decide +kernel
theorem dJ5_append_3fe6f_7 : decode cJ5_append_3fe6f 7 = .ok (.invokevirtual 100, 3) := by decide +kernel
theorem dJ5_append_3fe6f_10 : decode cJ5_append_3fe6f 10 = .ok (.aload_n 0, 1) := by decide +kernel
theorem dJ5_append_3fe6f_11 : decode cJ5_append_3fe6f 11 = .ok (.invokevirtual 83, 3) := by decide +kernel
theorem dJ5_append_3fe6f_14 : decode cJ5_append_3fe6f 14 = .ok (.ifCond .eq 31, 3) := by decide +kernel
theorem dJ5_append_3fe6f_17 : decode cJ5_append_3fe6f 17 = .ok (.iload_n 1, 1) := by decide +kernel
theorem dJ5_append_3fe6f_18 : decode cJ5_append_3fe6f 18 = .ok (.invokestatic 191, 3) := by decide +kernel
theorem dJ5_append_3fe6f_21 : decode cJ5_append_3fe6f 21 = .ok (.ifCond .eq 24, 3) := by decide +kernel
theorem dJ5_append_3fe6f_24 : decode cJ5_append_3fe6f 24 = .ok (.aload_n 0, 1) := by decide +kernel
theorem dJ5_append_3fe6f_25 : decode cJ5_append_3fe6f 25 = .ok (.getfield 15, 3) := by decide +kernel
theorem dJ5_append_3fe6f_28 : decode cJ5_append_3fe6f 28 = .ok (.aload_n 0, 1) := by decide +kernel
theorem dJ5_append_3fe6f_29 : decode cJ5_append_3fe6f 29 = .ok (.dup, 1) := by decide +kernel
theorem dJ5_append_3fe6f_30 : decode cJ5_append_3fe6f 30 = .ok (.getfield 79, 3) := by decide +kernel
theorem dJ5_append_3fe6f_33 : decode cJ5_append_3fe6f 33 = .ok (.dup_x1, 1) := by decide +kernel
theorem dJ5_append_3fe6f_34 : decode cJ5_append_3fe6f 34 = .ok (.iconst 1, 1) := by decide +kernel
theorem dJ5_append_3fe6f_35 : decode cJ5_append_3fe6f 35 = .ok (.iadd, 1) := by decide +kernel
theorem dJ5_append_3fe6f_36 : decode cJ5_append_3fe6f 36 = .ok (.putfield 79, 3) := by decide +kernel
theorem dJ5_append_3fe6f_39 : decode cJ5_append_3fe6f 39 = .ok (.iload_n 1, 1) := by decide +kernel
theorem dJ5_append_3fe6f_40 : decode cJ5_append_3fe6f 40 = .ok (.i2b, 1) := by decide +kernel
theorem dJ5_append_3fe6f_41 : decode cJ5_append_3fe6f 41 = .ok (.bastore, 1) := by decide +kernel
theorem dJ5_append_3fe6f_42 : decode cJ5_append_3fe6f 42 = .ok (.goto 33, 3) := by decide +kernel
theorem dJ5_append_3fe6f_45 : decode cJ5_append_3fe6f 45 = .ok (.aload_n 0, 1) := by decide +kernel
theorem dJ5_append_3fe6f_46 : decode cJ5_append_3fe6f 46 = .ok (.invokevirtual 83, 3) := by decide +kernel
theorem dJ5_append_3fe6f_49 : decode cJ5_append_3fe6f 49 = .ok (.ifCond .eq 7, 3) := by decide +kernel
theorem dJ5_append_3fe6f_52 : decode cJ5_append_3fe6f 52 = .ok (.aload_n 0, 1) := by decide +kernel
theorem dJ5_append_3fe6f_53 : decode cJ5_append_3fe6f 53 = .ok (.invokevirtual 195, 3) := by decide +kernel
theorem dJ5_append_3fe6f_56 : decode cJ5_append_3fe6f 56 = .ok (.aload_n 0, 1) := by decide +kernel
theorem dJ5_append_3fe6f_57 : decode cJ5_append_3fe6f 57 = .ok (.getfield 15, 3) := by decide +kernel
theorem dJ5_append_3fe6f_60 : decode cJ5_append_3fe6f 60 = .ok (.aload_n 0, 1) := by decide +kernel
theorem dJ5_append_3fe6f_61 : decode cJ5_append_3fe6f 61 = .ok (.dup, 1) := by decide +kernel
theorem dJ5_append_3fe6f_62 : decode cJ5_append_3fe6f 62 = .ok (.getfield 79, 3) := by decide +kernel
theorem dJ5_append_3fe6f_65 : decode cJ5_append_3fe6f 65 = .ok (.dup_x1, 1) := by decide +kernel
theorem dJ5_append_3fe6f_66 : decode cJ5_append_3fe6f 66 = .ok (.iconst 1, 1) := by decide +kernel
theorem dJ5_append_3fe6f_67 : decode cJ5_append_3fe6f 67 = .ok (.iadd, 1) := by decide +kernel
theorem dJ5_append_3fe6f_68 : decode cJ5_append_3fe6f 68 = .ok (.putfield 79, 3) := by decide +kernel
theorem dJ5_append_3fe6f_71 : decode cJ5_append_3fe6f 71 = .ok (.iload_n 1, 1) := by decide +kernel
theorem dJ5_append_3fe6f_72 : decode cJ5_append_3fe6f 72 = .ok (.invokestatic 197, 3) := by decide +kernel
theorem dJ5_append_3fe6f_75 : decode cJ5_append_3fe6f 75 = .ok (.aload_n 0, 1) := by decide +kernel
theorem dJ5_append_3fe6f_76 : decode cJ5_append_3fe6f 76 = .ok (.areturn, 1) := by decide +kernel
theorem dJ5_append_c97b9_0 : decode cJ5_append_c97b9 0 = .ok (.aload_n 0, 1) := by decide +kernel
theorem dJ5_append_c97b9_1 : decode cJ5_append_c97b9 1 = .ok (.getfield 79, 3) := by decide +kernel
theorem dJ5_append_c97b9_4 : decode cJ5_append_c97b9 4 = .ok (.istore_n 2, 1) := by decide +kernel
theorem dJ5_append_c97b9_5 : decode cJ5_append_c97b9 5 = .ok (.iload_n 2, 1) := by decide +kernel
theorem dJ5_append_c97b9_6 : decode cJ5_append_c97b9 6 = .ok (.iload_n 1, 1) := by decide +kernel
theorem dJ5_append_c97b9_7 : decode cJ5_append_c97b9 7 = .ok (.invokestatic 245, 3) := by decide +kernel
theorem dJ5_append_c97b9_10 : decode cJ5_append_c97b9 10 = .ok (.iadd, 1) := by decide +kernel
theorem dJ5_append_c97b9_11 : decode cJ5_append_c97b9 11 = .ok (.istore_n 3, 1) := by decide +kernel
theorem dJ5_append_c97b9_12 : decode cJ5_append_c97b9 12 = .ok (.aload_n 0, 1) := by decide +kernel
theorem dJ5_append_c97b9_13 : decode cJ5_append_c97b9 13 = .ok (.iload_n 3, 1) := by decide +kernel
theorem dJ5_append_c97b9_14 : decode cJ5_append_c97b9 14 = .ok (.invokevirtual 100, 3) := by decide +kernel
theorem dJ5_append_c97b9_17 : decode cJ5_append_c97b9 17 = .ok (.aload_n 0, 1) := by decide +kernel
theorem dJ5_append_c97b9_18 : decode cJ5_append_c97b9 18 = .ok (.invokevirtual 83, 3) := by decide +kernel
theorem dJ5_append_c97b9_21 : decode cJ5_append_c97b9 21 = .ok (.ifCond .eq 16, 3) := by decide +kernel
theorem dJ5_append_c97b9_24 : decode cJ5_append_c97b9 24 = .ok (.iload_n 1, 1) := by decide +kernel
theorem dJ5_append_c97b9_25 : decode cJ5_append_c97b9 25 = .ok (.iload_n 3, 1) := by decide +kernel
theorem dJ5_append_c97b9_26 : decode cJ5_append_c97b9 26 = .ok (.aload_n 0, 1) := by decide +kernel
theorem dJ5_append_c97b9_27 : decode cJ5_append_c97b9 27 = .ok (.getfield 15, 3) := by decide +kernel
theorem dJ5_append_c97b9_30 : decode cJ5_append_c97b9 30 = .ok (.invokestatic 248, 3) := by decide +kernel
theorem dJ5_append_c97b9_33 : decode cJ5_append_c97b9 33 = .ok (.pop, 1) := by decide +kernel
theorem dJ5_append_c97b9_34 : decode cJ5_append_c97b9 34 = .ok (.goto 14, 3) := by decide +kernel
theorem dJ5_append_c97b9_37 : decode cJ5_append_c97b9 37 = .ok (.iload_n 1, 1) := by decide +kernel
theorem dJ5_append_c97b9_38 : decode cJ5_append_c97b9 38 = .ok (.iload_n 2, 1) := by decide +kernel
theorem dJ5_append_c97b9_39 : decode cJ5_append_c97b9 39 = .ok (.iload_n 3, 1) := by decide +kernel
theorem dJ5_append_c97b9_40 : decode cJ5_append_c97b9 40 = .ok (.aload_n 0, 1) := by decide +kernel
theorem dJ5_append_c97b9_41 : decode cJ5_append_c97b9 41 = .ok (.getfield 15, 3) := by decide +kernel
theorem dJ5_append_c97b9_44 : decode cJ5_append_c97b9 44 = .ok (.invokestatic 251, 3) := by decide +kernel
theorem dJ5_append_c97b9_47 : decode cJ5_append_c97b9 47 = .ok (.pop, 1) := by decide +kernel
theorem dJ5_append_c97b9_48 : decode cJ5_append_c97b9 48 = .ok (.aload_n 0, 1) := by decide +kernel
theorem dJ5_append_c97b9_49 : decode cJ5_append_c97b9 49 = .ok (.iload_n 3, 1) := by decide +kernel
theorem dJ5_append_c97b9_50 : decode cJ5_append_c97b9 50 = .ok (.putfield 79, 3) := by decide +kernel
theorem dJ5_append_c97b9_53 : decode cJ5_append_c97b9 53 = .ok (.aload_n 0, 1) := by decide +kernel
theorem dJ5_append_c97b9_54 : decode cJ5_append_c97b9 54 = .ok (.areturn, 1) := by decide +kernel
theorem dJ5_getValue_6d5f1_0 : decode cJ5_getValue_6d5f1 0 = .ok (.aload_n 0, 1) := by decide +kernel
theorem dJ5_getValue_6d5f1_1 : decode cJ5_getValue_6d5f1 1 = .ok (.getfield 15, 3) := by decide +kernel
theorem dJ5_getValue_6d5f1_4 : decode cJ5_getValue_6d5f1 4 = .ok (.areturn, 1) := by decide +kernel
theorem dJ5_isLatin1_aae02_0 : decode cJ5_isLatin1_aae02 0 = .ok (.getstatic 18, 3) := by decide +kernel
theorem dJ5_isLatin1_aae02_3 : decode cJ5_isLatin1_aae02 3 = .ok (.ifCond .eq 14, 3) := by decide +kernel
theorem dJ5_isLatin1_aae02_6 : decode cJ5_isLatin1_aae02 6 = .ok (.aload_n 0, 1) := by decide +kernel
theorem dJ5_isLatin1_aae02_7 : decode cJ5_isLatin1_aae02 7 = .ok (.getfield 22, 3) := by decide +kernel
theorem dJ5_isLatin1_aae02_10 : decode cJ5_isLatin1_aae02 10 = .ok (.ifCond .ne 7, 3) := by decide +kernel
theorem dJ5_isLatin1_aae02_13 : decode cJ5_isLatin1_aae02 13 = .ok (.iconst 1, 1) := by decide +kernel
theorem dJ5_isLatin1_aae02_14 : decode cJ5_isLatin1_aae02 14 = .ok (.goto 4, 3) := by decide +kernel
theorem dJ5_isLatin1_aae02_17 : decode cJ5_isLatin1_aae02 17 = .ok (.iconst 0, 1) := by decide +kernel
theorem dJ5_isLatin1_aae02_18 : decode cJ5_isLatin1_aae02 18 = .ok (.ireturn, 1) := by decide +kernel
theorem dJ5_inflateIfNeededFor_a7421_0 : decode cJ5_inflateIfNeededFor_a7421 0 = .ok (.getstatic 18, 3) := by decide +kernel
theorem dJ5_inflateIfNeededFor_a7421_3 : decode cJ5_inflateIfNeededFor_a7421 3 = .ok (.ifCond .eq 18, 3) := by decide +kernel
theorem dJ5_inflateIfNeededFor_a7421_6 : decode cJ5_inflateIfNeededFor_a7421 6 = .ok (.aload_n 0, 1) := by decide +kernel
theorem dJ5_inflateIfNeededFor_a7421_7 : decode cJ5_inflateIfNeededFor_a7421 7 = .ok (.getfield 22, 3) := by decide +kernel
theorem dJ5_inflateIfNeededFor_a7421_10 : decode cJ5_inflateIfNeededFor_a7421 10 = .ok (.aload_n 1, 1) := by decide +kernel
theorem dJ5_inflateIfNeededFor_a7421_11 : decode cJ5_inflateIfNeededFor_a7421 11 = .ok (.invokevirtual 40, 3) := by decide +kernel
theorem dJ5_inflateIfNeededFor_a7421_14 : decode cJ5_inflateIfNeededFor_a7421 14 = .ok (.if_icmp .eq 7, 3) := by decide +kernel
theorem dJ5_inflateIfNeededFor_a7421_17 : decode cJ5_inflateIfNeededFor_a7421 17 = .ok (.aload_n 0, 1) := by decide +kernel
theorem dJ5_inflateIfNeededFor_a7421_18 : decode cJ5_inflateIfNeededFor_a7421 18 = .ok (.invokevirtual 195, 3) := by decide +kernel
theorem dJ5_inflateIfNeededFor_a7421_21 : decode cJ5_inflateIfNeededFor_a7421 21 = .ok (.return_, 1) := by decide +kernel
theorem dJ5_putStringAt_47b60_0 : decode cJ5_putStringAt_47b60 0 = .ok (.aload_n 0, 1) := by decide +kernel
theorem dJ5_putStringAt_47b60_1 : decode cJ5_putStringAt_47b60 1 = .ok (.aload_n 2, 1) := by decide +kernel
theorem dJ5_putStringAt_47b60_2 : decode cJ5_putStringAt_47b60 2 = .ok (.invokevirtual 397, 3) := by decide +kernel
theorem dJ5_putStringAt_47b60_5 : decode cJ5_putStringAt_47b60 5 = .ok (.aload_n 2, 1) := by decide +kernel
theorem dJ5_putStringAt_47b60_6 : decode cJ5_putStringAt_47b60 6 = .ok (.aload_n 0, 1) := by decide +kernel
theorem dJ5_putStringAt_47b60_7 : decode cJ5_putStringAt_47b60 7 = .ok (.getfield 15, 3) := by decide +kernel
theorem dJ5_putStringAt_47b60_10 : decode cJ5_putStringAt_47b60 10 = .ok (.iload_n 1, 1) := by decide +kernel
theorem dJ5_putStringAt_47b60_11 : decode cJ5_putStringAt_47b60 11 = .ok (.aload_n 0, 1) := by decide +kernel
theorem dJ5_putStringAt_47b60_12 : decode cJ5_putStringAt_47b60 12 = .ok (.getfield 22, 3) := by decide +kernel
theorem dJ5_putStringAt_47b60_15 : decode cJ5_putStringAt_47b60 15 = .ok (.invokevirtual 399, 3) := by decide +kernel
theorem dJ5_putStringAt_47b60_18 : decode cJ5_putStringAt_47b60 18 = .ok (.return_, 1) := by decide +kernel
theorem dJx00060_init_a7421_0 : decode cJx00060_init_a7421 0 = .ok (.aload_n 0, 1) := by decide +kernel
theorem dJx00060_init_a7421_1 : decode cJx00060_init_a7421 1 = .ok (.aload_n 1, 1) := by decide +kernel
theorem dJx00060_init_a7421_2 : decode cJx00060_init_a7421 2 = .ok (.invokespecial 7, 3) := by decide +kernel
theorem dJx00060_init_a7421_5 : decode cJx00060_init_a7421 5 = .ok (.return_, 1) := by decide +kernel
theorem dJx00060_init_d00df_0 : decode cJx00060_init_d00df 0 = .ok (.aload_n 0, 1) := by decide +kernel
theorem dJx00060_init_d00df_1 : decode cJx00060_init_d00df 1 = .ok (.new 10, 3) := by decide +kernel
theorem dJx00060_init_d00df_4 : decode cJx00060_init_d00df 4 = .ok (.dup, 1) := by decide +kernel
theorem dJx00060_init_d00df_5 : decode cJx00060_init_d00df 5 = .ok (.invokespecial 12, 3) := by decide +kernel
theorem dJx00060_init_d00df_8 : decode cJx00060_init_d00df 8 = .ok (.ldc 13, 2) := by decide +kernel
theorem dJx00060_init_d00df_10 : decode cJx00060_init_d00df 10 = .ok (.invokevirtual 15, 3) := by decide +kernel
theorem dJx00060_init_d00df_13 : decode cJx00060_init_d00df 13 = .ok (.iload_n 1, 1) := by decide +kernel
theorem dJx00060_init_d00df_14 : decode cJx00060_init_d00df 14 = .ok (.invokevirtual 19, 3) := by decide +kernel
theorem dJx00060_init_d00df_17 : decode cJx00060_init_d00df 17 = .ok (.invokevirtual 22, 3) := by decide +kernel
theorem dJx00060_init_d00df_20 : decode cJx00060_init_d00df 20 = .ok (.invokespecial 7, 3) := by decide +kernel
theorem dJx00060_init_d00df_23 : decode cJx00060_init_d00df 23 = .ok (.return_, 1) := by decide +kernel
theorem dJ6_getChars_ba4f3_0 : decode cJ6_getChars_ba4f3 0 = .ok (.iload_n 1, 1) := by decide +kernel
theorem dJ6_getChars_ba4f3_1 : decode cJ6_getChars_ba4f3 1 = .ok (.istore 5, 2) := by decide +kernel
theorem dJ6_getChars_ba4f3_3 : decode cJ6_getChars_ba4f3 3 = .ok (.iload_n 0, 1) := by decide +kernel
theorem dJ6_getChars_ba4f3_4 : decode cJ6_getChars_ba4f3 4 = .ok (.ifCond .ge 7, 3) := by decide +kernel
theorem dJ6_getChars_ba4f3_7 : decode cJ6_getChars_ba4f3 7 = .ok (.iconst 1, 1) := by decide +kernel
theorem dJ6_getChars_ba4f3_8 : decode cJ6_getChars_ba4f3 8 = .ok (.goto 4, 3) := by decide +kernel
theorem dJ6_getChars_ba4f3_11 : decode cJ6_getChars_ba4f3 11 = .ok (.iconst 0, 1) := by decide +kernel
theorem dJ6_getChars_ba4f3_12 : decode cJ6_getChars_ba4f3 12 = .ok (.istore 6, 2) := by decide +kernel
theorem dJ6_getChars_ba4f3_14 : decode cJ6_getChars_ba4f3 14 = .ok (.iload 6, 2) := by decide +kernel
theorem dJ6_getChars_ba4f3_16 : decode cJ6_getChars_ba4f3 16 = .ok (.ifCond .ne 6, 3) := by decide +kernel
theorem dJ6_getChars_ba4f3_19 : decode cJ6_getChars_ba4f3 19 = .ok (.iload_n 0, 1) := by decide +kernel
theorem dJ6_getChars_ba4f3_20 : decode cJ6_getChars_ba4f3 20 = .ok (.ineg, 1) := by decide +kernel
theorem dJ6_getChars_ba4f3_21 : decode cJ6_getChars_ba4f3 21 = .ok (.istore_n 0, 1) := by decide +kernel
theorem dJ6_getChars_ba4f3_22 : decode cJ6_getChars_ba4f3 22 = .ok (.iload_n 0, 1) := by decide +kernel
theorem dJ6_getChars_ba4f3_23 : decode cJ6_getChars_ba4f3 23 = .ok (.bipush (-100), 2) := by decide +kernel
theorem dJ6_getChars_ba4f3_25 : decode cJ6_getChars_ba4f3 25 = .ok (.if_icmp .gt 47, 3) := by decide +kernel
theorem dJ6_getChars_ba4f3_28 : decode cJ6_getChars_ba4f3 28 = .ok (.iload_n 0, 1) := by decide +kernel
theorem dJ6_getChars_ba4f3_29 : decode cJ6_getChars_ba4f3 29 = .ok (.bipush 100, 2) := by decide +kernel
theorem dJ6_getChars_ba4f3_31 : decode cJ6_getChars_ba4f3 31 = .ok (.idiv, 1) := by decide +kernel
theorem dJ6_getChars_ba4f3_32 : decode cJ6_getChars_ba4f3 32 = .ok (.istore_n 3, 1) := by decide +kernel
theorem dJ6_getChars_ba4f3_33 : decode cJ6_getChars_ba4f3 33 = .ok (.iload_n 3, 1) := by decide +kernel
theorem dJ6_getChars_ba4f3_34 : decode cJ6_getChars_ba4f3 34 = .ok (.bipush 100, 2) := by decide +kernel
theorem dJ6_getChars_ba4f3_36 : decode cJ6_getChars_ba4f3 36 = .ok (.imul, 1) := by decide +kernel
theorem dJ6_getChars_ba4f3_37 : decode cJ6_getChars_ba4f3 37 = .ok (.iload_n 0, 1) := by decide +kernel
theorem dJ6_getChars_ba4f3_38 : decode cJ6_getChars_ba4f3 38 = .ok (.isub, 1) := by decide +kernel
theorem dJ6_getChars_ba4f3_39 : decode cJ6_getChars_ba4f3 39 = .ok (.istore 4, 2) := by decide +kernel
theorem dJ6_getChars_ba4f3_41 : decode cJ6_getChars_ba4f3 41 = .ok (.iload_n 3, 1) := by decide +kernel
theorem dJ6_getChars_ba4f3_42 : decode cJ6_getChars_ba4f3 42 = .ok (.istore_n 0, 1) := by decide +kernel
theorem dJ6_getChars_ba4f3_43 : decode cJ6_getChars_ba4f3 43 = .ok (.aload_n 2, 1) := by decide +kernel
theorem dJ6_getChars_ba4f3_44 : decode cJ6_getChars_ba4f3 44 = .ok (.iinc 5 (-1), 3) := by decide +kernel
theorem dJ6_getChars_ba4f3_47 : decode cJ6_getChars_ba4f3 47 = .ok (.iload 5, 2) := by decide +kernel
theorem dJ6_getChars_ba4f3_49 : decode cJ6_getChars_ba4f3 49 = .ok (.getstatic 83, 3) := by decide +kernel
theorem dJ6_getChars_ba4f3_52 : decode cJ6_getChars_ba4f3 52 = .ok (.iload 4, 2) := by decide +kernel
theorem dJ6_getChars_ba4f3_54 : decode cJ6_getChars_ba4f3 54 = .ok (.baload, 1) := by decide +kernel
theorem dJ6_getChars_ba4f3_55 : decode cJ6_getChars_ba4f3 55 = .ok (.bastore, 1) := by decide +kernel
theorem dJ6_getChars_ba4f3_56 : decode cJ6_getChars_ba4f3 56 = .ok (.aload_n 2, 1) := by decide +kernel
theorem dJ6_getChars_ba4f3_57 : decode cJ6_getChars_ba4f3 57 = .ok (.iinc 5 (-1), 3) := by decide +kernel
theorem dJ6_getChars_ba4f3_60 : decode cJ6_getChars_ba4f3 60 = .ok (.iload 5, 2) := by decide +kernel
theorem dJ6_getChars_ba4f3_62 : decode cJ6_getChars_ba4f3 62 = .ok (.getstatic 87, 3) := by decide +kernel
theorem dJ6_getChars_ba4f3_65 : decode cJ6_getChars_ba4f3 65 = .ok (.iload 4, 2) := by decide +kernel
theorem dJ6_getChars_ba4f3_67 : decode cJ6_getChars_ba4f3 67 = .ok (.baload, 1) := by decide +kernel
theorem dJ6_getChars_ba4f3_68 : decode cJ6_getChars_ba4f3 68 = .ok (.bastore, 1) := by decide +kernel
theorem dJ6_getChars_ba4f3_69 : decode cJ6_getChars_ba4f3 69 = .ok (.goto (-47), 3) := by decide +kernel
theorem dJ6_getChars_ba4f3_72 : decode cJ6_getChars_ba4f3 72 = .ok (.aload_n 2, 1) := by decide +kernel
theorem dJ6_getChars_ba4f3_73 : decode cJ6_getChars_ba4f3 73 = .ok (.iinc 5 (-1), 3) := by decide +kernel
theorem dJ6_getChars_ba4f3_76 : decode cJ6_getChars_ba4f3 76 = .ok (.iload 5, 2) := by decide +kernel
theorem dJ6_getChars_ba4f3_78 : decode cJ6_getChars_ba4f3 78 = .ok (.getstatic 83, 3) := by decide +kernel
theorem dJ6_getChars_ba4f3_81 : decode cJ6_getChars_ba4f3 81 = .ok (.iload_n 0, 1) := by decide +kernel
theorem dJ6_getChars_ba4f3_82 : decode cJ6_getChars_ba4f3 82 = .ok (.ineg, 1) := by decide +kernel
theorem dJ6_getChars_ba4f3_83 : decode cJ6_getChars_ba4f3 83 = .ok (.baload, 1) := by decide +kernel
theorem dJ6_getChars_ba4f3_84 : decode cJ6_getChars_ba4f3 84 = .ok (.bastore, 1) := by decide +kernel
theorem dJ6_getChars_ba4f3_85 : decode cJ6_getChars_ba4f3 85 = .ok (.iload_n 0, 1) := by decide +kernel
theorem dJ6_getChars_ba4f3_86 : decode cJ6_getChars_ba4f3 86 = .ok (.bipush (-9), 2) := by decide +kernel
theorem dJ6_getChars_ba4f3_88 : decode cJ6_getChars_ba4f3 88 = .ok (.if_icmp .ge 16, 3) := by decide +kernel
theorem dJ6_getChars_ba4f3_91 : decode cJ6_getChars_ba4f3 91 = .ok (.aload_n 2, 1) := by decide +kernel
theorem dJ6_getChars_ba4f3_92 : decode cJ6_getChars_ba4f3 92 = .ok (.iinc 5 (-1), 3) := by decide +kernel
theorem dJ6_getChars_ba4f3_95 : decode cJ6_getChars_ba4f3 95 = .ok (.iload 5, 2) := by decide +kernel
theorem dJ6_getChars_ba4f3_97 : decode cJ6_getChars_ba4f3 97 = .ok (.getstatic 87, 3) := by decide +kernel
theorem dJ6_getChars_ba4f3_100 : decode cJ6_getChars_ba4f3 100 = .ok (.iload_n 0, 1) := by decide +kernel
theorem dJ6_getChars_ba4f3_101 : decode cJ6_getChars_ba4f3 101 = .ok (.ineg, 1) := by decide +kernel
theorem dJ6_getChars_ba4f3_102 : decode cJ6_getChars_ba4f3 102 = .ok (.baload, 1) := by decide +kernel
theorem dJ6_getChars_ba4f3_103 : decode cJ6_getChars_ba4f3 103 = .ok (.bastore, 1) := by decide +kernel
theorem dJ6_getChars_ba4f3_104 : decode cJ6_getChars_ba4f3 104 = .ok (.iload 6, 2) := by decide +kernel
theorem dJ6_getChars_ba4f3_106 : decode cJ6_getChars_ba4f3 106 = .ok (.ifCond .eq 12, 3) := by decide +kernel
theorem dJ6_getChars_ba4f3_109 : decode cJ6_getChars_ba4f3 109 = .ok (.aload_n 2, 1) := by decide +kernel
theorem dJ6_getChars_ba4f3_110 : decode cJ6_getChars_ba4f3 110 = .ok (.iinc 5 (-1), 3) := by decide +kernel
theorem dJ6_getChars_ba4f3_113 : decode cJ6_getChars_ba4f3 113 = .ok (.iload 5, 2) := by decide +kernel
theorem dJ6_getChars_ba4f3_115 : decode cJ6_getChars_ba4f3 115 = .ok (.bipush 45, 2) := by decide +kernel
theorem dJ6_getChars_ba4f3_117 : decode cJ6_getChars_ba4f3 117 = .ok (.bastore, 1) := by decide +kernel
theorem dJ6_getChars_ba4f3_118 : decode cJ6_getChars_ba4f3 118 = .ok (.iload 5, 2) := by decide +kernel
theorem dJ6_getChars_ba4f3_120 : decode cJ6_getChars_ba4f3 120 = .ok (.ireturn, 1) := by decide +kernel
theorem dJ6_stringSize_0f7a4_0 : decode cJ6_stringSize_0f7a4 0 = .ok (.iconst 1, 1) := by decide +kernel
theorem dJ6_stringSize_0f7a4_1 : decode cJ6_stringSize_0f7a4 1 = .ok (.istore_n 1, 1) := by decide +kernel
theorem dJ6_stringSize_0f7a4_2 : decode cJ6_stringSize_0f7a4 2 = .ok (.iload_n 0, 1) := by decide +kernel
theorem dJ6_stringSize_0f7a4_3 : decode cJ6_stringSize_0f7a4 3 = .ok (.ifCond .lt 8, 3) := by decide +kernel
theorem dJ6_stringSize_0f7a4_6 : decode cJ6_stringSize_0f7a4 6 = .ok (.iconst 0, 1) := by decide +kernel
theorem dJ6_stringSize_0f7a4_7 : decode cJ6_stringSize_0f7a4 7 = .ok (.istore_n 1, 1) := by decide +kernel
theorem dJ6_stringSize_0f7a4_8 : decode cJ6_stringSize_0f7a4 8 = .ok (.iload_n 0, 1) := by decide +kernel
theorem dJ6_stringSize_0f7a4_9 : decode cJ6_stringSize_0f7a4 9 = .ok (.ineg, 1) := by decide +kernel
theorem dJ6_stringSize_0f7a4_10 : decode cJ6_stringSize_0f7a4 10 = .ok (.istore_n 0, 1) := by decide +kernel
theorem dJ6_stringSize_0f7a4_11 : decode cJ6_stringSize_0f7a4 11 = .ok (.bipush (-10), 2) := by decide +kernel
theorem dJ6_stringSize_0f7a4_13 : decode cJ6_stringSize_0f7a4 13 = .ok (.istore_n 2, 1) := by decide +kernel
theorem dJ6_stringSize_0f7a4_14 : decode cJ6_stringSize_0f7a4 14 = .ok (.iconst 1, 1) := by decide +kernel
theorem dJ6_stringSize_0f7a4_15 : decode cJ6_stringSize_0f7a4 15 = .ok (.istore_n 3, 1) := by decide +kernel
theorem dJ6_stringSize_0f7a4_16 : decode cJ6_stringSize_0f7a4 16 = .ok (.iload_n 3, 1) := by decide +kernel
theorem dJ6_stringSize_0f7a4_17 : decode cJ6_stringSize_0f7a4 17 = .ok (.bipush 10, 2) := by decide +kernel
theorem dJ6_stringSize_0f7a4_19 : decode cJ6_stringSize_0f7a4 19 = .ok (.if_icmp .ge 23, 3) := by decide +kernel
theorem dJ6_stringSize_0f7a4_22 : decode cJ6_stringSize_0f7a4 22 = .ok (.iload_n 0, 1) := by decide +kernel
theorem dJ6_stringSize_0f7a4_23 : decode cJ6_stringSize_0f7a4 23 = .ok (.iload_n 2, 1) := by decide +kernel
theorem dJ6_stringSize_0f7a4_24 : decode cJ6_stringSize_0f7a4 24 = .ok (.if_icmp .le 7, 3) := by decide +kernel
theorem dJ6_stringSize_0f7a4_27 : decode cJ6_stringSize_0f7a4 27 = .ok (.iload_n 3, 1) := by decide +kernel
theorem dJ6_stringSize_0f7a4_28 : decode cJ6_stringSize_0f7a4 28 = .ok (.iload_n 1, 1) := by decide +kernel
theorem dJ6_stringSize_0f7a4_29 : decode cJ6_stringSize_0f7a4 29 = .ok (.iadd, 1) := by decide +kernel
theorem dJ6_stringSize_0f7a4_30 : decode cJ6_stringSize_0f7a4 30 = .ok (.ireturn, 1) := by decide +kernel
theorem dJ6_stringSize_0f7a4_31 : decode cJ6_stringSize_0f7a4 31 = .ok (.bipush 10, 2) := by decide +kernel
theorem dJ6_stringSize_0f7a4_33 : decode cJ6_stringSize_0f7a4 33 = .ok (.iload_n 2, 1) := by decide +kernel
theorem dJ6_stringSize_0f7a4_34 : decode cJ6_stringSize_0f7a4 34 = .ok (.imul, 1) := by decide +kernel
theorem dJ6_stringSize_0f7a4_35 : decode cJ6_stringSize_0f7a4 35 = .ok (.istore_n 2, 1) := by decide +kernel
theorem dJ6_stringSize_0f7a4_36 : decode cJ6_stringSize_0f7a4 36 = .ok (.iinc 3 1, 3) := by decide +kernel
theorem dJ6_stringSize_0f7a4_39 : decode cJ6_stringSize_0f7a4 39 = .ok (.goto (-23), 3) := by decide +kernel
theorem dJ6_stringSize_0f7a4_42 : decode cJ6_stringSize_0f7a4 42 = .ok (.bipush 10, 2) := by decide +kernel
theorem dJ6_stringSize_0f7a4_44 : decode cJ6_stringSize_0f7a4 44 = .ok (.iload_n 1, 1) := by decide +kernel
theorem dJ6_stringSize_0f7a4_45 : decode cJ6_stringSize_0f7a4 45 = .ok (.iadd, 1) := by decide +kernel
theorem dJ6_stringSize_0f7a4_46 : decode cJ6_stringSize_0f7a4 46 = .ok (.ireturn, 1) := by decide +kernel
theorem dJ9_floorMod_7cf53_0 : decode cJ9_floorMod_7cf53 0 = .ok (.iload_n 0, 1) := by decide +kernel
theorem dJ9_floorMod_7cf53_1 : decode cJ9_floorMod_7cf53 1 = .ok (.iload_n 1, 1) := by decide +kernel
theorem dJ9_floorMod_7cf53_2 : decode cJ9_floorMod_7cf53 2 = .ok (.irem, 1) := by decide +kernel
theorem dJ9_floorMod_7cf53_3 : decode cJ9_floorMod_7cf53 3 = .ok (.istore_n 2, 1) := by decide +kernel
theorem dJ9_floorMod_7cf53_4 : decode cJ9_floorMod_7cf53 4 = .ok (.iload_n 0, 1) := by decide +kernel
theorem dJ9_floorMod_7cf53_5 : decode cJ9_floorMod_7cf53 5 = .ok (.iload_n 1, 1) := by decide +kernel
theorem dJ9_floorMod_7cf53_6 : decode cJ9_floorMod_7cf53 6 = .ok (.ixor, 1) := by decide +kernel
theorem dJ9_floorMod_7cf53_7 : decode cJ9_floorMod_7cf53 7 = .ok (.ifCond .ge 11, 3) := by decide +kernel
theorem dJ9_floorMod_7cf53_10 : decode cJ9_floorMod_7cf53 10 = .ok (.iload_n 2, 1) := by decide +kernel
theorem dJ9_floorMod_7cf53_11 : decode cJ9_floorMod_7cf53 11 = .ok (.ifCond .eq 7, 3) := by decide +kernel
theorem dJ9_floorMod_7cf53_14 : decode cJ9_floorMod_7cf53 14 = .ok (.iload_n 2, 1) := by decide +kernel
theorem dJ9_floorMod_7cf53_15 : decode cJ9_floorMod_7cf53 15 = .ok (.iload_n 1, 1) := by decide +kernel
theorem dJ9_floorMod_7cf53_16 : decode cJ9_floorMod_7cf53 16 = .ok (.iadd, 1) := by decide +kernel
theorem dJ9_floorMod_7cf53_17 : decode cJ9_floorMod_7cf53 17 = .ok (.ireturn, 1) := by decide +kernel
theorem dJ9_floorMod_7cf53_18 : decode cJ9_floorMod_7cf53 18 = .ok (.iload_n 2, 1) := by decide +kernel
theorem dJ9_floorMod_7cf53_19 : decode cJ9_floorMod_7cf53 19 = .ok (.ireturn, 1) := by decide +kernel
theorem dJ9_max_7cf53_0 : decode cJ9_max_7cf53 0 = .ok (.iload_n 0, 1) := by decide +kernel
theorem dJ9_max_7cf53_1 : decode cJ9_max_7cf53 1 = .ok (.iload_n 1, 1) := by decide +kernel
theorem dJ9_max_7cf53_2 : decode cJ9_max_7cf53 2 = .ok (.if_icmp .lt 7, 3) := by decide +kernel
theorem dJ9_max_7cf53_5 : decode cJ9_max_7cf53 5 = .ok (.iload_n 0, 1) := by decide +kernel
theorem dJ9_max_7cf53_6 : decode cJ9_max_7cf53 6 = .ok (.goto 4, 3) := by decide +kernel
theorem dJ9_max_7cf53_9 : decode cJ9_max_7cf53 9 = .ok (.iload_n 1, 1) := by decide +kernel
theorem dJ9_max_7cf53_10 : decode cJ9_max_7cf53 10 = .ok (.ireturn, 1) := by decide +kernel
theorem dJ9_min_7cf53_0 : decode cJ9_min_7cf53 0 = .ok (.iload_n 0, 1) := by decide +kernel
theorem dJ9_min_7cf53_1 : decode cJ9_min_7cf53 1 = .ok (.iload_n 1, 1) := by decide +kernel
theorem dJ9_min_7cf53_2 : decode cJ9_min_7cf53 2 = .ok (.if_icmp .gt 7, 3) := by decide +kernel
theorem dJ9_min_7cf53_5 : decode cJ9_min_7cf53 5 = .ok (.iload_n 0, 1) := by decide +kernel
theorem dJ9_min_7cf53_6 : decode cJ9_min_7cf53 6 = .ok (.goto 4, 3) := by decide +kernel
theorem dJ9_min_7cf53_9 : decode cJ9_min_7cf53 9 = .ok (.iload_n 1, 1) := by decide +kernel
theorem dJ9_min_7cf53_10 : decode cJ9_min_7cf53 10 = .ok (.ireturn, 1) := by decide +kernel
theorem dJ0_init_81219_0 : decode cJ0_init_81219 0 = .ok (.aload_n 0, 1) := by decide +kernel
theorem dJ0_init_81219_1 : decode cJ0_init_81219 1 = .ok (.aload_n 1, 1) := by decide +kernel
theorem dJ0_init_81219_2 : decode cJ0_init_81219 2 = .ok (.aconst_null, 1) := by decide +kernel
theorem dJ0_init_81219_3 : decode cJ0_init_81219 3 = .ok (.invokespecial 489, 3) := by decide +kernel
theorem dJ0_init_81219_6 : decode cJ0_init_81219 6 = .ok (.return_, 1) := by decide +kernel
theorem dJ0_length_8abf5_0 : decode cJ0_length_8abf5 0 = .ok (.aload_n 0, 1) := by decide +kernel
theorem dJ0_length_8abf5_1 : decode cJ0_length_8abf5 1 = .ok (.getfield 9, 3) := by decide +kernel
theorem dJ0_length_8abf5_4 : decode cJ0_length_8abf5 4 = .ok (.arraylength, 1) := by decide +kernel
theorem dJ0_length_8abf5_5 : decode cJ0_length_8abf5 5 = .ok (.aload_n 0, 1) := by decide +kernel
theorem dJ0_length_8abf5_6 : decode cJ0_length_8abf5 6 = .ok (.invokevirtual 335, 3) := by decide +kernel
theorem dJ0_length_8abf5_9 : decode cJ0_length_8abf5 9 = .ok (.ishr, 1) := by decide +kernel
theorem dJ0_length_8abf5_10 : decode cJ0_length_8abf5 10 = .ok (.ireturn, 1) := by decide +kernel
theorem dJ0_getBytes_840e7_0 : decode cJ0_getBytes_840e7 0 = .ok (.aload_n 0, 1) := by decide +kernel
theorem dJ0_getBytes_840e7_1 : decode cJ0_getBytes_840e7 1 = .ok (.invokevirtual 335, 3) := by decide +kernel
theorem dJ0_getBytes_840e7_4 : decode cJ0_getBytes_840e7 4 = .ok (.iload_n 3, 1) := by decide +kernel
theorem dJ0_getBytes_840e7_5 : decode cJ0_getBytes_840e7 5 = .ok (.if_icmp .ne 23, 3) := by decide +kernel
theorem dJ0_getBytes_840e7_8 : decode cJ0_getBytes_840e7 8 = .ok (.aload_n 0, 1) := by decide +kernel
theorem dJ0_getBytes_840e7_9 : decode cJ0_getBytes_840e7 9 = .ok (.getfield 9, 3) := by decide +kernel
theorem dJ0_getBytes_840e7_12 : decode cJ0_getBytes_840e7 12 = .ok (.iconst 0, 1) := by decide +kernel
theorem dJ0_getBytes_840e7_13 : decode cJ0_getBytes_840e7 13 = .ok (.aload_n 1, 1) := by decide +kernel
theorem dJ0_getBytes_840e7_14 : decode cJ0_getBytes_840e7 14 = .ok (.iload_n 2, 1) := by decide +kernel
theorem dJ0_getBytes_840e7_15 : decode cJ0_getBytes_840e7 15 = .ok (.iload_n 3, 1) := by decide +kernel
theorem dJ0_getBytes_840e7_16 : decode cJ0_getBytes_840e7 16 = .ok (.ishl, 1) := by decide +kernel
theorem dJ0_getBytes_840e7_17 : decode cJ0_getBytes_840e7 17 = .ok (.aload_n 0, 1) := by decide +kernel
theorem dJ0_getBytes_840e7_18 : decode cJ0_getBytes_840e7 18 = .ok (.getfield 9, 3) := by decide +kernel
theorem dJ0_getBytes_840e7_21 : decode cJ0_getBytes_840e7 21 = .ok (.arraylength, 1) := by decide +kernel
theorem dJ0_getBytes_840e7_22 : decode cJ0_getBytes_840e7 22 = .ok (.invokestatic 212, 3) := by decide +kernel
theorem dJ0_getBytes_840e7_25 : decode cJ0_getBytes_840e7 25 = .ok (.goto 18, 3) := by decide +kernel
theorem dJ0_getBytes_840e7_28 : decode cJ0_getBytes_840e7 28 = .ok (.aload_n 0, 1) := by decide +kernel
theorem dJ0_getBytes_840e7_29 : decode cJ0_getBytes_840e7 29 = .ok (.getfield 9, 3) := by decide +kernel
theorem dJ0_getBytes_840e7_32 : decode cJ0_getBytes_840e7 32 = .ok (.iconst 0, 1) := by decide +kernel
theorem dJ0_getBytes_840e7_33 : decode cJ0_getBytes_840e7 33 = .ok (.aload_n 1, 1) := by decide +kernel
theorem dJ0_getBytes_840e7_34 : decode cJ0_getBytes_840e7 34 = .ok (.iload_n 2, 1) := by decide +kernel
theorem dJ0_getBytes_840e7_35 : decode cJ0_getBytes_840e7 35 = .ok (.aload_n 0, 1) := by decide +kernel
theorem dJ0_getBytes_840e7_36 : decode cJ0_getBytes_840e7 36 = .ok (.getfield 9, 3) := by decide +kernel
theorem dJ0_getBytes_840e7_39 : decode cJ0_getBytes_840e7 39 = .ok (.arraylength, 1) := by decide +kernel
theorem dJ0_getBytes_840e7_40 : decode cJ0_getBytes_840e7 40 = .ok (.invokestatic 106, 3) := by decide +kernel
theorem dJ0_getBytes_840e7_43 : decode cJ0_getBytes_840e7 43 = .ok (.return_, 1) := by decide +kernel
theorem dJ0_init_db425_0 : decode cJ0_init_db425 0 = .ok (.aload_n 0, 1) := by decide +kernel
theorem dJ0_init_db425_1 : decode cJ0_init_db425 1 = .ok (.invokespecial 1, 3) := by decide +kernel
theorem dJ0_init_db425_4 : decode cJ0_init_db425 4 = .ok (.aload_n 1, 1) := by decide +kernel
theorem dJ0_init_db425_5 : decode cJ0_init_db425 5 = .ok (.invokevirtual 552, 3) := by decide +kernel
theorem dJ0_init_db425_8 : decode cJ0_init_db425 8 = .ok (.astore_n 3, 1) := by decide +kernel
theorem dJ0_init_db425_9 : decode cJ0_init_db425 9 = .ok (.aload_n 1, 1) := by decide +kernel
theorem dJ0_init_db425_10 : decode cJ0_init_db425 10 = .ok (.invokevirtual 549, 3) := by decide +kernel
theorem dJ0_init_db425_13 : decode cJ0_init_db425 13 = .ok (.istore 4, 2) := by decide +kernel
theorem dJ0_init_db425_15 : decode cJ0_init_db425 15 = .ok (.aload_n 1, 1) := by decide +kernel
theorem dJ0_init_db425_16 : decode cJ0_init_db425 16 = .ok (.invokevirtual 1047, 3) := by decide +kernel
theorem dJ0_init_db425_19 : decode cJ0_init_db425 19 = .ok (.ifCond .eq 22, 3) := by decide +kernel
theorem dJ0_init_db425_22 : decode cJ0_init_db425 22 = .ok (.aload_n 0, 1) := by decide +kernel
theorem dJ0_init_db425_23 : decode cJ0_init_db425 23 = .ok (.iconst 0, 1) := by decide +kernel
theorem dJ0_init_db425_24 : decode cJ0_init_db425 24 = .ok (.putfield 15, 3) := by decide +kernel
theorem dJ0_init_db425_27 : decode cJ0_init_db425 27 = .ok (.aload_n 0, 1) := by decide +kernel
theorem dJ0_init_db425_28 : decode cJ0_init_db425 28 = .ok (.aload_n 3, 1) := by decide +kernel
theorem dJ0_init_db425_29 : decode cJ0_init_db425 29 = .ok (.iconst 0, 1) := by decide +kernel
theorem dJ0_init_db425_30 : decode cJ0_init_db425 30 = .ok (.iload 4, 2) := by decide +kernel
theorem dJ0_init_db425_32 : decode cJ0_init_db425 32 = .ok (.invokestatic 54, 3) := by decide +kernel
theorem dJ0_init_db425_35 : decode cJ0_init_db425 35 = .ok (.putfield 9, 3) := by decide +kernel
theorem dJ0_init_db425_38 : decode cJ0_init_db425 38 = .ok (.goto 59, 3) := by decide +kernel
theorem dJ0_init_db425_41 : decode cJ0_init_db425 41 = .ok (.getstatic 38, 3) := by decide +kernel
theorem dJ0_init_db425_44 : decode cJ0_init_db425 44 = .ok (.ifCond .eq 35, 3) := by decide +kernel
theorem dJ0_init_db425_47 : decode cJ0_init_db425 47 = .ok (.aload_n 1, 1) := by decide +kernel
theorem dJ0_init_db425_48 : decode cJ0_init_db425 48 = .ok (.getfield 1048, 3) := by decide +kernel
theorem dJ0_init_db425_51 : decode cJ0_init_db425 51 = .ok (.ifCond .eq 28, 3) := by decide +kernel
theorem dJ0_init_db425_54 : decode cJ0_init_db425 54 = .ok (.aload_n 0, 1) := by decide +kernel
theorem dJ0_init_db425_55 : decode cJ0_init_db425 55 = .ok (.aload_n 3, 1) := by decide +kernel
theorem dJ0_init_db425_56 : decode cJ0_init_db425 56 = .ok (.iconst 0, 1) := by decide +kernel
theorem dJ0_init_db425_57 : decode cJ0_init_db425 57 = .ok (.iload 4, 2) := by decide +kernel
theorem dJ0_init_db425_59 : decode cJ0_init_db425 59 = .ok (.invokestatic 1051, 3) := by decide +kernel
theorem dJ0_init_db425_62 : decode cJ0_init_db425 62 = .ok (.putfield 9, 3) := by decide +kernel
theorem dJ0_init_db425_65 : decode cJ0_init_db425 65 = .ok (.aload_n 0, 1) := by decide +kernel
theorem dJ0_init_db425_66 : decode cJ0_init_db425 66 = .ok (.aload_n 0, 1) := by decide +kernel
theorem dJ0_init_db425_67 : decode cJ0_init_db425 67 = .ok (.getfield 9, 3) := by decide +kernel
theorem dJ0_init_db425_70 : decode cJ0_init_db425 70 = .ok (.iload 4, 2) := by decide +kernel
theorem dJ0_init_db425_72 : decode cJ0_init_db425 72 = .ok (.invokestatic 47, 3) := by decide +kernel
theorem dJ0_init_db425_75 : decode cJ0_init_db425 75 = .ok (.putfield 15, 3) := by decide +kernel
theorem dJ0_init_db425_78 : decode cJ0_init_db425 78 = .ok (.return_, 1) := by decide +kernel
theorem dJ0_init_db425_79 : decode cJ0_init_db425 79 = .ok (.aload_n 0, 1) := by decide +kernel
theorem dJ0_init_db425_80 : decode cJ0_init_db425 80 = .ok (.iconst 1, 1) := by decide +kernel
theorem dJ0_init_db425_81 : decode cJ0_init_db425 81 = .ok (.putfield 15, 3) := by decide +kernel
theorem dJ0_init_db425_84 : decode cJ0_init_db425 84 = .ok (.aload_n 0, 1) := by decide +kernel
theorem dJ0_init_db425_85 : decode cJ0_init_db425 85 = .ok (.aload_n 3, 1) := by decide +kernel
theorem dJ0_init_db425_86 : decode cJ0_init_db425 86 = .ok (.iconst 0, 1) := by decide +kernel
theorem dJ0_init_db425_87 : decode cJ0_init_db425 87 = .ok (.iload 4, 2) := by decide +kernel
theorem dJ0_init_db425_89 : decode cJ0_init_db425 89 = .ok (.iconst 1, 1) := by decide +kernel
theorem dJ0_init_db425_90 : decode cJ0_init_db425 90 = .ok (.ishl, 1) := by decide +kernel
theorem dJ0_init_db425_91 : decode cJ0_init_db425 91 = .ok (.invokestatic 54, 3) := by decide +kernel
theorem dJ0_init_db425_94 : decode cJ0_init_db425 94 = .ok (.putfield 9, 3) := by decide +kernel
theorem dJ0_init_db425_97 : decode cJ0_init_db425 97 = .ok (.return_, 1) := by decide +kernel
theorem dJ0_coder_7d493_0 : decode cJ0_coder_7d493 0 = .ok (.getstatic 38, 3) := by decide +kernel
theorem dJ0_coder_7d493_3 : decode cJ0_coder_7d493 3 = .ok (.ifCond .eq 10, 3) := by decide +kernel
theorem dJ0_coder_7d493_6 : decode cJ0_coder_7d493 6 = .ok (.aload_n 0, 1) := by decide +kernel
theorem dJ0_coder_7d493_7 : decode cJ0_coder_7d493 7 = .ok (.getfield 15, 3) := by decide +kernel
theorem dJ0_coder_7d493_10 : decode cJ0_coder_7d493 10 = .ok (.goto 4, 3) := by decide +kernel
theorem dJ0_coder_7d493_13 : decode cJ0_coder_7d493 13 = .ok (.iconst 1, 1) := by decide +kernel
theorem dJ0_coder_7d493_14 : decode cJ0_coder_7d493 14 = .ok (.ireturn, 1) := by decide +kernel
theorem dJ0_checkIndex_df160_0 : decode cJ0_checkIndex_df160 0 = .ok (.iload_n 0, 1) := by decide +kernel
theorem dJ0_checkIndex_df160_1 : decode cJ0_checkIndex_df160 1 = .ok (.iload_n 1, 1) := by decide +kernel
theorem dJ0_checkIndex_df160_2 : decode cJ0_checkIndex_df160 2 = .ok (.getstatic 1053, 3) := by decide +kernel
theorem dJ0_checkIndex_df160_5 : decode cJ0_checkIndex_df160 5 = .ok (.invokestatic 1059, 3) := by decide +kernel
theorem dJ0_checkIndex_df160_8 : decode cJ0_checkIndex_df160 8 = .ok (.pop, 1) := by decide +kernel
theorem dJ0_checkIndex_df160_9 : decode cJ0_checkIndex_df160 9 = .ok (.return_, 1) := by decide +kernel
theorem dJ0_checkBoundsOffCount_cabcc_0 : decode cJ0_checkBoundsOffCount_cabcc 0 = .ok (.iload_n 0, 1) := by decide +kernel
theorem dJ0_checkBoundsOffCount_cabcc_1 : decode cJ0_checkBoundsOffCount_cabcc 1 = .ok (.iload_n 1, 1) := by decide +kernel
theorem dJ0_checkBoundsOffCount_cabcc_2 : decode cJ0_checkBoundsOffCount_cabcc 2 = .ok (.iload_n 2, 1) := by decide +kernel
theorem dJ0_checkBoundsOffCount_cabcc_3 : decode cJ0_checkBoundsOffCount_cabcc 3 = .ok (.getstatic 1053, 3) := by decide +kernel
theorem dJ0_checkBoundsOffCount_cabcc_6 : decode cJ0_checkBoundsOffCount_cabcc 6 = .ok (.invokestatic 1065, 3) := by decide +kernel
theorem dJ0_checkBoundsOffCount_cabcc_9 : decode cJ0_checkBoundsOffCount_cabcc 9 = .ok (.ireturn, 1) := by decide +kernel
theorem dJ0_checkBoundsBeginEnd_23922_0 : decode cJ0_checkBoundsBeginEnd_23922 0 = .ok (.iload_n 0, 1) := by decide +kernel
theorem dJ0_checkBoundsBeginEnd_23922_1 : decode cJ0_checkBoundsBeginEnd_23922 1 = .ok (.iload_n 1, 1) := by decide +kernel
theorem dJ0_checkBoundsBeginEnd_23922_2 : decode cJ0_checkBoundsBeginEnd_23922 2 = .ok (.iload_n 2, 1) := by decide +kernel
theorem dJ0_checkBoundsBeginEnd_23922_3 : decode cJ0_checkBoundsBeginEnd_23922 3 = .ok (.getstatic 1053, 3) := by decide +kernel
theorem dJ0_checkBoundsBeginEnd_23922_6 : decode cJ0_checkBoundsBeginEnd_23922 6 = .ok (.invokestatic 1062, 3) := by decide +kernel
theorem dJ0_checkBoundsBeginEnd_23922_9 : decode cJ0_checkBoundsBeginEnd_23922 9 = .ok (.pop, 1) := by decide +kernel
theorem dJ0_checkBoundsBeginEnd_23922_10 : decode cJ0_checkBoundsBeginEnd_23922 10 = .ok (.return_, 1) := by decide +kernel
theorem dJ4_init_da8c8_0 : decode cJ4_init_da8c8 0 = .ok (.aload_n 0, 1) := by decide +kernel
theorem dJ4_init_da8c8_1 : decode cJ4_init_da8c8 1 = .ok (.bipush 16, 2) := by decide +kernel
theorem dJ4_init_da8c8_3 : decode cJ4_init_da8c8 3 = .ok (.invokespecial 1, 3) := by decide +kernel
theorem dJ4_init_da8c8_6 : decode cJ4_init_da8c8 6 = .ok (.return_, 1) := by decide +kernel
theorem dJ4_append_15ec4_0 : decode cJ4_append_15ec4 0 = .ok (.aload_n 0, 1) := by decide +kernel
theorem dJ4_append_15ec4_1 : decode cJ4_append_15ec4 1 = .ok (.aload_n 1, 1) := by decide +kernel
theorem dJ4_append_15ec4_2 : decode cJ4_append_15ec4 2 = .ok (.invokespecial 29, 3) := by decide +kernel
theorem dJ4_append_15ec4_5 : decode cJ4_append_15ec4 5 = .ok (.pop, 1) := by decide +kernel
theorem dJ4_append_15ec4_6 : decode cJ4_append_15ec4 6 = .ok (.aload_n 0, 1) := by decide +kernel
theorem dJ4_append_15ec4_7 : decode cJ4_append_15ec4 7 = .ok (.areturn, 1) := by decide +kernel
theorem dJ4_append_cf468_0 : decode cJ4_append_cf468 0 = .ok (.aload_n 0, 1) := by decide +kernel
theorem dJ4_append_cf468_1 : decode cJ4_append_cf468 1 = .ok (.iload_n 1, 1) := by decide +kernel
theorem dJ4_append_cf468_2 : decode cJ4_append_cf468 2 = .ok (.invokespecial 50, 3) := by decide +kernel
theorem dJ4_append_cf468_5 : decode cJ4_append_cf468 5 = .ok (.pop, 1) := by decide +kernel
theorem dJ4_append_cf468_6 : decode cJ4_append_cf468 6 = .ok (.aload_n 0, 1) := by decide +kernel
theorem dJ4_append_cf468_7 : decode cJ4_append_cf468 7 = .ok (.areturn, 1) := by decide +kernel
theorem dJ4_append_bf812_0 : decode cJ4_append_bf812 0 = .ok (.aload_n 0, 1) := by decide +kernel
theorem dJ4_append_bf812_1 : decode cJ4_append_bf812 1 = .ok (.iload_n 1, 1) := by decide +kernel
theorem dJ4_append_bf812_2 : decode cJ4_append_bf812 2 = .ok (.invokespecial 53, 3) := by decide +kernel
theorem dJ4_append_bf812_5 : decode cJ4_append_bf812 5 = .ok (.pop, 1) := by decide +kernel
theorem dJ4_append_bf812_6 : decode cJ4_append_bf812 6 = .ok (.aload_n 0, 1) := by decide +kernel
theorem dJ4_append_bf812_7 : decode cJ4_append_bf812 7 = .ok (.areturn, 1) := by decide +kernel
theorem dJ4_toString_0e30d_0 : decode cJ4_toString_0e30d 0 = .ok (.new 18, 3) := by decide +kernel
theorem dJ4_toString_0e30d_3 : decode cJ4_toString_0e30d 3 = .ok (.dup, 1) := by decide +kernel
theorem dJ4_toString_0e30d_4 : decode cJ4_toString_0e30d 4 = .ok (.aload_n 0, 1) := by decide +kernel
theorem dJ4_toString_0e30d_5 : decode cJ4_toString_0e30d 5 = .ok (.invokespecial 137, 3) := by decide +kernel
theorem dJ4_toString_0e30d_8 : decode cJ4_toString_0e30d 8 = .ok (.areturn, 1) := by decide +kernel
theorem dJ4_charAt_5068e_0 : decode cJ4_charAt_5068e 0 = .ok (.aload_n 0, 1) := by decide +kernel
theorem dJ4_charAt_5068e_1 : decode cJ4_charAt_5068e 1 = .ok (.iload_n 1, 1) := by decide +kernel
theorem dJ4_charAt_5068e_2 : decode cJ4_charAt_5068e 2 = .ok (.invokespecial 329, 3) := by decide +kernel
theorem dJ4_charAt_5068e_5 : decode cJ4_charAt_5068e 5 = .ok (.ireturn, 1) := by decide +kernel
theorem dJ4_setLength_d00df_0 : decode cJ4_setLength_d00df 0 = .ok (.aload_n 0, 1) := by decide +kernel
theorem dJ4_setLength_d00df_1 : decode cJ4_setLength_d00df 1 = .ok (.iload_n 1, 1) := by decide +kernel
theorem dJ4_setLength_d00df_2 : decode cJ4_setLength_d00df 2 = .ok (.invokespecial 333, 3) := by decide +kernel
theorem dJ4_setLength_d00df_5 : decode cJ4_setLength_d00df 5 = .ok (.return_, 1) := by decide +kernel
theorem dJ4_length_8abf5_0 : decode cJ4_length_8abf5 0 = .ok (.aload_n 0, 1) := by decide +kernel
theorem dJ4_length_8abf5_1 : decode cJ4_length_8abf5 1 = .ok (.invokespecial 343, 3) := by decide +kernel
theorem dJ4_length_8abf5_4 : decode cJ4_length_8abf5 4 = .ok (.ireturn, 1) := by decide +kernel
theorem dJx7c733_init_d00df_0 : decode cJx7c733_init_d00df 0 = .ok (.aload_n 0, 1) := by decide +kernel
theorem dJx7c733_init_d00df_1 : decode cJx7c733_init_d00df 1 = .ok (.new 10, 3) := by decide +kernel
theorem dJx7c733_init_d00df_4 : decode cJx7c733_init_d00df 4 = .ok (.dup, 1) := by decide +kernel
theorem dJx7c733_init_d00df_5 : decode cJx7c733_init_d00df 5 = .ok (.invokespecial 12, 3) := by decide +kernel
theorem dJx7c733_init_d00df_8 : decode cJx7c733_init_d00df 8 = .ok (.ldc 13, 2) := by decide +kernel
theorem dJx7c733_init_d00df_10 : decode cJx7c733_init_d00df 10 = .ok (.invokevirtual 15, 3) := by decide +kernel
theorem dJx7c733_init_d00df_13 : decode cJx7c733_init_d00df 13 = .ok (.iload_n 1, 1) := by decide +kernel
theorem dJx7c733_init_d00df_14 : decode cJx7c733_init_d00df 14 = .ok (.invokevirtual 19, 3) := by decide +kernel
theorem dJx7c733_init_d00df_17 : decode cJx7c733_init_d00df 17 = .ok (.invokevirtual 22, 3) := by decide +kernel
theorem dJx7c733_init_d00df_20 : decode cJx7c733_init_d00df 20 = .ok (.invokespecial 7, 3) := by decide +kernel
theorem dJx7c733_init_d00df_23 : decode cJx7c733_init_d00df 23 = .ok (.return_, 1) := by decide +kernel
theorem dJ1_canEncode_fc78d_0 : decode cJ1_canEncode_fc78d 0 = .ok (.iload_n 0, 1) := by decide +kernel
theorem dJ1_canEncode_fc78d_1 : decode cJ1_canEncode_fc78d 1 = .ok (.sipush 255, 3) := by decide +kernel
theorem dJ1_canEncode_fc78d_4 : decode cJ1_canEncode_fc78d 4 = .ok (.if_icmp .gt 7, 3) := by decide +kernel
theorem dJ1_canEncode_fc78d_7 : decode cJ1_canEncode_fc78d 7 = .ok (.iconst 1, 1) := by decide +kernel
theorem dJ1_canEncode_fc78d_8 : decode cJ1_canEncode_fc78d 8 = .ok (.goto 4, 3) := by decide +kernel
theorem dJ1_canEncode_fc78d_11 : decode cJ1_canEncode_fc78d 11 = .ok (.iconst 0, 1) := by decide +kernel
theorem dJ1_canEncode_fc78d_12 : decode cJ1_canEncode_fc78d 12 = .ok (.ireturn, 1) := by decide +kernel
theorem dJ1_fillNull_b72d1_0 : decode cJ1_fillNull_b72d1 0 = .ok (.aload_n 0, 1) := by decide +kernel
theorem dJ1_fillNull_b72d1_1 : decode cJ1_fillNull_b72d1 1 = .ok (.iload_n 1, 1) := by decide +kernel
theorem dJ1_fillNull_b72d1_2 : decode cJ1_fillNull_b72d1 2 = .ok (.iload_n 2, 1) := by decide +kernel
theorem dJ1_fillNull_b72d1_3 : decode cJ1_fillNull_b72d1 3 = .ok (.iconst 0, 1) := by decide +kernel
theorem dJ1_fillNull_b72d1_4 : decode cJ1_fillNull_b72d1 4 = .ok (.invokestatic 236, 3) := by decide +kernel
theorem dJ1_fillNull_b72d1_7 : decode cJ1_fillNull_b72d1 7 = .ok (.return_, 1) := by decide +kernel
theorem dJ1_inflate_0e8fd_0 : decode cJ1_inflate_0e8fd 0 = .ok (.aload_n 0, 1) := by decide +kernel
theorem dJ1_inflate_0e8fd_1 : decode cJ1_inflate_0e8fd 1 = .ok (.iload_n 1, 1) := by decide +kernel
theorem dJ1_inflate_0e8fd_2 : decode cJ1_inflate_0e8fd 2 = .ok (.aload_n 2, 1) := by decide +kernel
theorem dJ1_inflate_0e8fd_3 : decode cJ1_inflate_0e8fd 3 = .ok (.iload_n 3, 1) := by decide +kernel
theorem dJ1_inflate_0e8fd_4 : decode cJ1_inflate_0e8fd 4 = .ok (.iload 4, 2) := by decide +kernel
theorem dJ1_inflate_0e8fd_6 : decode cJ1_inflate_0e8fd 6 = .ok (.invokestatic 240, 3) := by decide +kernel
theorem dJ1_inflate_0e8fd_9 : decode cJ1_inflate_0e8fd 9 = .ok (.return_, 1) := by decide +kernel
theorem dJxa1e45_init_da8c8_0 : decode cJxa1e45_init_da8c8 0 = .ok (.aload_n 0, 1) := by decide +kernel
theorem dJxa1e45_init_da8c8_1 : decode cJxa1e45_init_da8c8 1 = .ok (.invokespecial 1, 3) := by decide +kernel
theorem dJxa1e45_init_da8c8_4 : decode cJxa1e45_init_da8c8 4 = .ok (.return_, 1) := by decide +kernel
theorem dJxc12de_init_da8c8_0 : decode cJxc12de_init_da8c8 0 = .ok (.aload_n 0, 1) := by decide +kernel
theorem dJxc12de_init_da8c8_1 : decode cJxc12de_init_da8c8 1 = .ok (.invokespecial 1, 3) := by decide +kernel
theorem dJxc12de_init_da8c8_4 : decode cJxc12de_init_da8c8 4 = .ok (.aload_n 0, 1) := by decide +kernel
theorem dJxc12de_init_da8c8_5 : decode cJxc12de_init_da8c8 5 = .ok (.iconst 0, 1) := by decide +kernel
theorem dJxc12de_init_da8c8_6 : decode cJxc12de_init_da8c8 6 = .ok (.putfield 7, 3) := by decide +kernel
theorem dJxc12de_init_da8c8_9 : decode cJxc12de_init_da8c8 9 = .ok (.return_, 1) := by decide +kernel
theorem dJx4a65c_init_da8c8_0 : decode cJx4a65c_init_da8c8 0 = .ok (.aload_n 0, 1) := by decide +kernel
theorem dJx4a65c_init_da8c8_1 : decode cJx4a65c_init_da8c8 1 = .ok (.invokespecial 1, 3) := by decide +kernel
theorem dJx4a65c_init_da8c8_4 : decode cJx4a65c_init_da8c8 4 = .ok (.aload_n 0, 1) := by decide +kernel
theorem dJx4a65c_init_da8c8_5 : decode cJx4a65c_init_da8c8 5 = .ok (.getstatic 39, 3) := by decide +kernel
theorem dJx4a65c_init_da8c8_8 : decode cJx4a65c_init_da8c8 8 = .ok (.putfield 9, 3) := by decide +kernel
theorem dJx4a65c_init_da8c8_11 : decode cJx4a65c_init_da8c8 11 = .ok (.return_, 1) := by decide +kernel
theorem dJx4a65c_grow_92f84_0 : decode cJx4a65c_grow_92f84 0 = .ok (.aload_n 0, 1) := by decide +kernel
theorem dJx4a65c_grow_92f84_1 : decode cJx4a65c_grow_92f84 1 = .ok (.getfield 9, 3) := by decide +kernel
theorem dJx4a65c_grow_92f84_4 : decode cJx4a65c_grow_92f84 4 = .ok (.arraylength, 1) := by decide +kernel
theorem dJx4a65c_grow_92f84_5 : decode cJx4a65c_grow_92f84 5 = .ok (.istore_n 2, 1) := by decide +kernel
theorem dJx4a65c_grow_92f84_6 : decode cJx4a65c_grow_92f84 6 = .ok (.iload_n 2, 1) := by decide +kernel
theorem dJx4a65c_grow_92f84_7 : decode cJx4a65c_grow_92f84 7 = .ok (.ifCond .gt 13, 3) := by decide +kernel
theorem dJx4a65c_grow_92f84_10 : decode cJx4a65c_grow_92f84 10 = .ok (.aload_n 0, 1) := by decide +kernel
theorem dJx4a65c_grow_92f84_11 : decode cJx4a65c_grow_92f84 11 = .ok (.getfield 9, 3) := by decide +kernel
theorem dJx4a65c_grow_92f84_14 : decode cJx4a65c_grow_92f84 14 = .ok (.getstatic 39, 3) := by decide +kernel
theorem dJx4a65c_grow_92f84_17 : decode cJx4a65c_grow_92f84 17 = .ok (.if_acmp .eq 28, 3) := by decide +kernel
theorem dJx4a65c_grow_92f84_20 : decode cJx4a65c_grow_92f84 20 = .ok (.iload_n 2, 1) := by decide +kernel
theorem dJx4a65c_grow_92f84_21 : decode cJx4a65c_grow_92f84 21 = .ok (.iload_n 1, 1) := by decide +kernel
theorem dJx4a65c_grow_92f84_22 : decode cJx4a65c_grow_92f84 22 = .ok (.iload_n 2, 1) := by decide +kernel
theorem dJx4a65c_grow_92f84_23 : decode cJx4a65c_grow_92f84 23 = .ok (.isub, 1) := by decide +kernel
theorem dJx4a65c_grow_92f84_24 : decode cJx4a65c_grow_92f84 24 = .ok (.iload_n 2, 1) := by decide +kernel
theorem dJx4a65c_grow_92f84_25 : decode cJx4a65c_grow_92f84 25 = .ok (.iconst 1, 1) := by decide +kernel
theorem dJx4a65c_grow_92f84_26 : decode cJx4a65c_grow_92f84 26 = .ok (.ishr, 1) := by decide +kernel
theorem dJx4a65c_grow_92f84_27 : decode cJx4a65c_grow_92f84 27 = .ok (.invokestatic 73, 3) := by decide +kernel
theorem dJx4a65c_grow_92f84_30 : decode cJx4a65c_grow_92f84 30 = .ok (.istore_n 3, 1) := by decide +kernel
theorem dJx4a65c_grow_92f84_31 : decode cJx4a65c_grow_92f84 31 = .ok (.aload_n 0, 1) := by decide +kernel
theorem dJx4a65c_grow_92f84_32 : decode cJx4a65c_grow_92f84 32 = .ok (.aload_n 0, 1) := by decide +kernel
theorem dJx4a65c_grow_92f84_33 : decode cJx4a65c_grow_92f84 33 = .ok (.getfield 9, 3) := by decide +kernel
theorem dJx4a65c_grow_92f84_36 : decode cJx4a65c_grow_92f84 36 = .ok (.iload_n 3, 1) := by decide +kernel
theorem dJx4a65c_grow_92f84_37 : decode cJx4a65c_grow_92f84 37 = .ok (.invokestatic 66, 3) := by decide +kernel
theorem dJx4a65c_grow_92f84_40 : decode cJx4a65c_grow_92f84 40 = .ok (.dup_x1, 1) := by decide +kernel
theorem dJx4a65c_grow_92f84_41 : decode cJx4a65c_grow_92f84 41 = .ok (.putfield 9, 3) := by decide +kernel
theorem dJx4a65c_grow_92f84_44 : decode cJx4a65c_grow_92f84 44 = .ok (.areturn, 1) := by decide +kernel
theorem dJx4a65c_grow_92f84_45 : decode cJx4a65c_grow_92f84 45 = .ok (.aload_n 0, 1) := by decide +kernel
theorem dJx4a65c_grow_92f84_46 : decode cJx4a65c_grow_92f84 46 = .ok (.bipush 10, 2) := by decide +kernel
theorem dJx4a65c_grow_92f84_48 : decode cJx4a65c_grow_92f84 48 = .ok (.iload_n 1, 1) := by decide +kernel
theorem dJx4a65c_grow_92f84_49 : decode cJx4a65c_grow_92f84 49 = .ok (.invokestatic 79, 3) := by decide +kernel
theorem dJx4a65c_grow_92f84_52 : decode cJx4a65c_grow_92f84 52 = .ok (.anewarray 7, 3) := by decide +kernel
theorem dJx4a65c_grow_92f84_55 : decode cJx4a65c_grow_92f84 55 = .ok (.dup_x1, 1) := by decide +kernel
theorem dJx4a65c_grow_92f84_56 : decode cJx4a65c_grow_92f84 56 = .ok (.putfield 9, 3) := by decide +kernel
theorem dJx4a65c_grow_92f84_59 : decode cJx4a65c_grow_92f84 59 = .ok (.areturn, 1) := by decide +kernel
theorem dJx4a65c_grow_d5877_0 : decode cJx4a65c_grow_d5877 0 = .ok (.aload_n 0, 1) := by decide +kernel
theorem dJx4a65c_grow_d5877_1 : decode cJx4a65c_grow_d5877 1 = .ok (.aload_n 0, 1) := by decide +kernel
theorem dJx4a65c_grow_d5877_2 : decode cJx4a65c_grow_d5877 2 = .ok (.getfield 48, 3) := by decide +kernel
theorem dJx4a65c_grow_d5877_5 : decode cJx4a65c_grow_d5877 5 = .ok (.iconst 1, 1) := by decide +kernel
theorem dJx4a65c_grow_d5877_6 : decode cJx4a65c_grow_d5877 6 = .ok (.iadd, 1) := by decide +kernel
theorem dJx4a65c_grow_d5877_7 : decode cJx4a65c_grow_d5877 7 = .ok (.invokevirtual 69, 3) := by decide +kernel
theorem dJx4a65c_grow_d5877_10 : decode cJx4a65c_grow_d5877 10 = .ok (.areturn, 1) := by decide +kernel
theorem dJx4a65c_size_8abf5_0 : decode cJx4a65c_size_8abf5 0 = .ok (.aload_n 0, 1) := by decide +kernel
theorem dJx4a65c_size_8abf5_1 : decode cJx4a65c_size_8abf5 1 = .ok (.getfield 48, 3) := by decide +kernel
theorem dJx4a65c_size_8abf5_4 : decode cJx4a65c_size_8abf5 4 = .ok (.ireturn, 1) := by decide +kernel
theorem dJx4a65c_elementData_915e3_0 : decode cJx4a65c_elementData_915e3 0 = .ok (.aload_n 0, 1) := by decide +kernel
theorem dJx4a65c_elementData_915e3_1 : decode cJx4a65c_elementData_915e3 1 = .ok (.getfield 9, 3) := by decide +kernel
theorem dJx4a65c_elementData_915e3_4 : decode cJx4a65c_elementData_915e3 4 = .ok (.iload_n 1, 1) := by decide +kernel
theorem dJx4a65c_elementData_915e3_5 : decode cJx4a65c_elementData_915e3 5 = .ok (.aaload, 1) := by decide +kernel
theorem dJx4a65c_elementData_915e3_6 : decode cJx4a65c_elementData_915e3 6 = .ok (.areturn, 1) := by decide +kernel
theorem dJx4a65c_get_915e3_0 : decode cJx4a65c_get_915e3 0 = .ok (.iload_n 1, 1) := by decide +kernel
theorem dJx4a65c_get_915e3_1 : decode cJx4a65c_get_915e3 1 = .ok (.aload_n 0, 1) := by decide +kernel
theorem dJx4a65c_get_915e3_2 : decode cJx4a65c_get_915e3 2 = .ok (.getfield 48, 3) := by decide +kernel
theorem dJx4a65c_get_915e3_5 : decode cJx4a65c_get_915e3 5 = .ok (.invokestatic 118, 3) := by decide +kernel
theorem dJx4a65c_get_915e3_8 : decode cJx4a65c_get_915e3 8 = .ok (.pop, 1) := by decide +kernel
theorem dJx4a65c_get_915e3_9 : decode cJx4a65c_get_915e3 9 = .ok (.aload_n 0, 1) := by decide +kernel
theorem dJx4a65c_get_915e3_10 : decode cJx4a65c_get_915e3 10 = .ok (.iload_n 1, 1) := by decide +kernel
theorem dJx4a65c_get_915e3_11 : decode cJx4a65c_get_915e3 11 = .ok (.invokevirtual 123, 3) := by decide +kernel
theorem dJx4a65c_get_915e3_14 : decode cJx4a65c_get_915e3 14 = .ok (.areturn, 1) := by decide +kernel
theorem dJx4a65c_add_72be8_0 : decode cJx4a65c_add_72be8 0 = .ok (.iload_n 3, 1) := by decide +kernel
theorem dJx4a65c_add_72be8_1 : decode cJx4a65c_add_72be8 1 = .ok (.aload_n 2, 1) := by decide +kernel
theorem dJx4a65c_add_72be8_2 : decode cJx4a65c_add_72be8 2 = .ok (.arraylength, 1) := by decide +kernel
theorem dJx4a65c_add_72be8_3 : decode cJx4a65c_add_72be8 3 = .ok (.if_icmp .ne 8, 3) := by decide +kernel
theorem dJx4a65c_add_72be8_6 : decode cJx4a65c_add_72be8 6 = .ok (.aload_n 0, 1) := by decide +kernel
theorem dJx4a65c_add_72be8_7 : decode cJx4a65c_add_72be8 7 = .ok (.invokevirtual 129, 3) := by decide +kernel
theorem dJx4a65c_add_72be8_10 : decode cJx4a65c_add_72be8 10 = .ok (.astore_n 2, 1) := by decide +kernel
theorem dJx4a65c_add_72be8_11 : decode cJx4a65c_add_72be8 11 = .ok (.aload_n 2, 1) := by decide +kernel
theorem dJx4a65c_add_72be8_12 : decode cJx4a65c_add_72be8 12 = .ok (.iload_n 3, 1) := by decide +kernel
theorem dJx4a65c_add_72be8_13 : decode cJx4a65c_add_72be8 13 = .ok (.aload_n 1, 1) := by decide +kernel
theorem dJx4a65c_add_72be8_14 : decode cJx4a65c_add_72be8 14 = .ok (.aastore, 1) := by decide +kernel
theorem dJx4a65c_add_72be8_15 : decode cJx4a65c_add_72be8 15 = .ok (.aload_n 0, 1) := by decide +kernel
theorem dJx4a65c_add_72be8_16 : decode cJx4a65c_add_72be8 16 = .ok (.iload_n 3, 1) := by decide +kernel
theorem dJx4a65c_add_72be8_17 : decode cJx4a65c_add_72be8 17 = .ok (.iconst 1, 1) := by decide +kernel
theorem dJx4a65c_add_72be8_18 : decode cJx4a65c_add_72be8 18 = .ok (.iadd, 1) := by decide +kernel
theorem dJx4a65c_add_72be8_19 : decode cJx4a65c_add_72be8 19 = .ok (.putfield 48, 3) := by decide +kernel
theorem dJx4a65c_add_72be8_22 : decode cJx4a65c_add_72be8 22 = .ok (.return_, 1) := by decide +kernel
theorem dJx4a65c_add_9ea2d_0 : decode cJx4a65c_add_9ea2d 0 = .ok (.aload_n 0, 1) := by decide +kernel
theorem dJx4a65c_add_9ea2d_1 : decode cJx4a65c_add_9ea2d 1 = .ok (.dup, 1) := by decide +kernel
theorem dJx4a65c_add_9ea2d_2 : decode cJx4a65c_add_9ea2d 2 = .ok (.getfield 63, 3) := by decide +kernel
theorem dJx4a65c_add_9ea2d_5 : decode cJx4a65c_add_9ea2d 5 = .ok (.iconst 1, 1) := by decide +kernel
theorem dJx4a65c_add_9ea2d_6 : decode cJx4a65c_add_9ea2d 6 = .ok (.iadd, 1) := by decide +kernel
theorem dJx4a65c_add_9ea2d_7 : decode cJx4a65c_add_9ea2d 7 = .ok (.putfield 63, 3) := by decide +kernel
theorem dJx4a65c_add_9ea2d_10 : decode cJx4a65c_add_9ea2d 10 = .ok (.aload_n 0, 1) := by decide +kernel
theorem dJx4a65c_add_9ea2d_11 : decode cJx4a65c_add_9ea2d 11 = .ok (.aload_n 1, 1) := by decide +kernel
theorem dJx4a65c_add_9ea2d_12 : decode cJx4a65c_add_9ea2d 12 = .ok (.aload_n 0, 1) := by decide +kernel
theorem dJx4a65c_add_9ea2d_13 : decode cJx4a65c_add_9ea2d 13 = .ok (.getfield 9, 3) := by decide +kernel
theorem dJx4a65c_add_9ea2d_16 : decode cJx4a65c_add_9ea2d 16 = .ok (.aload_n 0, 1) := by decide +kernel
theorem dJx4a65c_add_9ea2d_17 : decode cJx4a65c_add_9ea2d 17 = .ok (.getfield 48, 3) := by decide +kernel
theorem dJx4a65c_add_9ea2d_20 : decode cJx4a65c_add_9ea2d 20 = .ok (.invokevirtual 131, 3) := by decide +kernel
theorem dJx4a65c_add_9ea2d_23 : decode cJx4a65c_add_9ea2d 23 = .ok (.iconst 1, 1) := by decide +kernel
theorem dJx4a65c_add_9ea2d_24 : decode cJx4a65c_add_9ea2d 24 = .ok (.ireturn, 1) := by decide +kernel
theorem dJ7_rangeCheck_23922_0 : decode cJ7_rangeCheck_23922 0 = .ok (.iload_n 1, 1) := by decide +kernel
theorem dJ7_rangeCheck_23922_1 : decode cJ7_rangeCheck_23922 1 = .ok (.iload_n 2, 1) := by decide +kernel
theorem dJ7_rangeCheck_23922_2 : decode cJ7_rangeCheck_23922 2 = .ok (.if_icmp .le 44, 3) := by decide +kernel
theorem dJ7_rangeCheck_23922_5 : decode cJ7_rangeCheck_23922 5 = .ok (.new 43, 3) := by decide +kernel
theorem dJ7_rangeCheck_23922_8 : decode cJ7_rangeCheck_23922 8 = .ok (.dup, 1) := by decide +kernel
theorem dJ7_rangeCheck_23922_9 : decode cJ7_rangeCheck_23922 9 = .ok (.new 45, 3) := by decide +kernel
theorem dJ7_rangeCheck_23922_12 : decode cJ7_rangeCheck_23922 12 = .ok (.dup, 1) := by decide +kernel
theorem dJ7_rangeCheck_23922_13 : decode cJ7_rangeCheck_23922 13 = .ok (.invokespecial 47, 3) := by decide +kernel
theorem dJ7_rangeCheck_23922_16 : decode cJ7_rangeCheck_23922 16 = .ok (.ldc 48, 2) := by decide +kernel
theorem dJ7_rangeCheck_23922_18 : decode cJ7_rangeCheck_23922 18 = .ok (.invokevirtual 50, 3) := by decide +kernel
theorem dJ7_rangeCheck_23922_21 : decode cJ7_rangeCheck_23922 21 = .ok (.iload_n 1, 1) := by decide +kernel
theorem dJ7_rangeCheck_23922_22 : decode cJ7_rangeCheck_23922 22 = .ok (.invokevirtual 54, 3) := by decide +kernel
theorem dJ7_rangeCheck_23922_25 : decode cJ7_rangeCheck_23922 25 = .ok (.ldc 57, 2) := by decide +kernel
theorem dJ7_rangeCheck_23922_27 : decode cJ7_rangeCheck_23922 27 = .ok (.invokevirtual 50, 3) := by decide +kernel
theorem dJ7_rangeCheck_23922_30 : decode cJ7_rangeCheck_23922 30 = .ok (.iload_n 2, 1) := by decide +kernel
theorem dJ7_rangeCheck_23922_31 : decode cJ7_rangeCheck_23922 31 = .ok (.invokevirtual 54, 3) := by decide +kernel
theorem dJ7_rangeCheck_23922_34 : decode cJ7_rangeCheck_23922 34 = .ok (.ldc 59, 2) := by decide +kernel
theorem dJ7_rangeCheck_23922_36 : decode cJ7_rangeCheck_23922 36 = .ok (.invokevirtual 50, 3) := by decide +kernel
theorem dJ7_rangeCheck_23922_39 : decode cJ7_rangeCheck_23922 39 = .ok (.invokevirtual 61, 3) := by decide +kernel
theorem dJ7_rangeCheck_23922_42 : decode cJ7_rangeCheck_23922 42 = .ok (.invokespecial 65, 3) := by decide +kernel
theorem dJ7_rangeCheck_23922_45 : decode cJ7_rangeCheck_23922 45 = .ok (.athrow, 1) := by decide +kernel
theorem dJ7_rangeCheck_23922_46 : decode cJ7_rangeCheck_23922 46 = .ok (.iload_n 1, 1) := by decide +kernel
theorem dJ7_rangeCheck_23922_47 : decode cJ7_rangeCheck_23922 47 = .ok (.ifCond .ge 12, 3) := by decide +kernel
theorem dJ7_rangeCheck_23922_50 : decode cJ7_rangeCheck_23922 50 = .ok (.new 68, 3) := by decide +kernel
theorem dJ7_rangeCheck_23922_53 : decode cJ7_rangeCheck_23922 53 = .ok (.dup, 1) := by decide +kernel
theorem dJ7_rangeCheck_23922_54 : decode cJ7_rangeCheck_23922 54 = .ok (.iload_n 1, 1) := by decide +kernel
theorem dJ7_rangeCheck_23922_55 : decode cJ7_rangeCheck_23922 55 = .ok (.invokespecial 70, 3) := by decide +kernel
theorem dJ7_rangeCheck_23922_58 : decode cJ7_rangeCheck_23922 58 = .ok (.athrow, 1) := by decide +kernel
theorem dJ7_rangeCheck_23922_59 : decode cJ7_rangeCheck_23922 59 = .ok (.iload_n 2, 1) := by decide +kernel
theorem dJ7_rangeCheck_23922_60 : decode cJ7_rangeCheck_23922 60 = .ok (.iload_n 0, 1) := by decide +kernel
theorem dJ7_rangeCheck_23922_61 : decode cJ7_rangeCheck_23922 61 = .ok (.if_icmp .le 12, 3) := by decide +kernel
theorem dJ7_rangeCheck_23922_64 : decode cJ7_rangeCheck_23922 64 = .ok (.new 68, 3) := by decide +kernel
theorem dJ7_rangeCheck_23922_67 : decode cJ7_rangeCheck_23922 67 = .ok (.dup, 1) := by decide +kernel
theorem dJ7_rangeCheck_23922_68 : decode cJ7_rangeCheck_23922 68 = .ok (.iload_n 2, 1) := by decide +kernel
theorem dJ7_rangeCheck_23922_69 : decode cJ7_rangeCheck_23922 69 = .ok (.invokespecial 70, 3) := by decide +kernel
theorem dJ7_rangeCheck_23922_72 : decode cJ7_rangeCheck_23922 72 = .ok (.athrow, 1) := by decide +kernel
theorem dJ7_rangeCheck_23922_73 : decode cJ7_rangeCheck_23922 73 = .ok (.return_, 1) := by decide +kernel
theorem dJ7_fill_eb02e_0 : decode cJ7_fill_eb02e 0 = .ok (.aload_n 0, 1) := by decide +kernel
theorem dJ7_fill_eb02e_1 : decode cJ7_fill_eb02e 1 = .ok (.arraylength, 1) := by decide +kernel
theorem dJ7_fill_eb02e_2 : decode cJ7_fill_eb02e 2 = .ok (.iload_n 1, 1) := by decide +kernel
theorem dJ7_fill_eb02e_3 : decode cJ7_fill_eb02e 3 = .ok (.iload_n 2, 1) := by decide +kernel
theorem dJ7_fill_eb02e_4 : decode cJ7_fill_eb02e 4 = .ok (.invokestatic 13, 3) := by decide +kernel
theorem dJ7_fill_eb02e_7 : decode cJ7_fill_eb02e 7 = .ok (.iload_n 1, 1) := by decide +kernel
theorem dJ7_fill_eb02e_8 : decode cJ7_fill_eb02e 8 = .ok (.istore 4, 2) := by decide +kernel
theorem dJ7_fill_eb02e_10 : decode cJ7_fill_eb02e 10 = .ok (.iload 4, 2) := by decide +kernel
theorem dJ7_fill_eb02e_12 : decode cJ7_fill_eb02e 12 = .ok (.iload_n 2, 1) := by decide +kernel
theorem dJ7_fill_eb02e_13 : decode cJ7_fill_eb02e 13 = .ok (.if_icmp .ge 14, 3) := by decide +kernel
theorem dJ7_fill_eb02e_16 : decode cJ7_fill_eb02e 16 = .ok (.aload_n 0, 1) := by decide +kernel
theorem dJ7_fill_eb02e_17 : decode cJ7_fill_eb02e 17 = .ok (.iload 4, 2) := by decide +kernel
theorem dJ7_fill_eb02e_19 : decode cJ7_fill_eb02e 19 = .ok (.iload_n 3, 1) := by decide +kernel
theorem dJ7_fill_eb02e_20 : decode cJ7_fill_eb02e 20 = .ok (.bastore, 1) := by decide +kernel
theorem dJ7_fill_eb02e_21 : decode cJ7_fill_eb02e 21 = .ok (.iinc 4 1, 3) := by decide +kernel
theorem dJ7_fill_eb02e_24 : decode cJ7_fill_eb02e 24 = .ok (.goto (-14), 3) := by decide +kernel
theorem dJ7_fill_eb02e_27 : decode cJ7_fill_eb02e 27 = .ok (.return_, 1) := by decide +kernel
theorem dJ7_copyOf_1904c_0 : decode cJ7_copyOf_1904c 0 = .ok (.aload_n 0, 1) := by decide +kernel
theorem dJ7_copyOf_1904c_1 : decode cJ7_copyOf_1904c 1 = .ok (.iload_n 1, 1) := by decide +kernel
theorem dJ7_copyOf_1904c_2 : decode cJ7_copyOf_1904c 2 = .ok (.aload_n 0, 1) := by decide +kernel
theorem dJ7_copyOf_1904c_3 : decode cJ7_copyOf_1904c 3 = .ok (.invokevirtual 86, 3) := by decide +kernel
theorem dJ7_copyOf_1904c_6 : decode cJ7_copyOf_1904c 6 = .ok (.invokestatic 300, 3) := by decide +kernel
theorem dJ7_copyOf_1904c_9 : decode cJ7_copyOf_1904c 9 = .ok (.areturn, 1) := by decide +kernel
theorem dJ7_copyOf_6403c_0 : decode cJ7_copyOf_6403c 0 = .ok (.aload_n 2, 1) := by decide +kernel
theorem dJ7_copyOf_6403c_1 : decode cJ7_copyOf_6403c 1 = .ok (.ldc 110, 2) := by decide +kernel
theorem dJ7_copyOf_6403c_3 : decode cJ7_copyOf_6403c 3 = .ok (.if_acmp .ne 10, 3) := by decide +kernel
theorem dJ7_copyOf_6403c_6 : decode cJ7_copyOf_6403c 6 = .ok (.iload_n 1, 1) := by decide +kernel
theorem dJ7_copyOf_6403c_7 : decode cJ7_copyOf_6403c 7 = .ok (.anewarray 2, 3) := by decide +kernel
theorem dJ7_copyOf_6403c_10 : decode cJ7_copyOf_6403c 10 = .ok (.goto 14, 3) := by decide +kernel
theorem dJ7_copyOf_6403c_13 : decode cJ7_copyOf_6403c 13 = .ok (.aload_n 2, 1) := by decide +kernel
theorem dJ7_copyOf_6403c_14 : decode cJ7_copyOf_6403c 14 = .ok (.invokevirtual 90, 3) := by decide +kernel
theorem dJ7_copyOf_6403c_17 : decode cJ7_copyOf_6403c 17 = .ok (.iload_n 1, 1) := by decide +kernel
theorem dJ7_copyOf_6403c_18 : decode cJ7_copyOf_6403c 18 = .ok (.invokestatic 95, 3) := by decide +kernel
theorem dJ7_copyOf_6403c_21 : decode cJ7_copyOf_6403c 21 = .ok (.checkcast 110, 3) := by decide +kernel
theorem dJ7_copyOf_6403c_24 : decode cJ7_copyOf_6403c 24 = .ok (.astore_n 3, 1) := by decide +kernel
theorem dJ7_copyOf_6403c_25 : decode cJ7_copyOf_6403c 25 = .ok (.aload_n 0, 1) := by decide +kernel
theorem dJ7_copyOf_6403c_26 : decode cJ7_copyOf_6403c 26 = .ok (.iconst 0, 1) := by decide +kernel
theorem dJ7_copyOf_6403c_27 : decode cJ7_copyOf_6403c 27 = .ok (.aload_n 3, 1) := by decide +kernel
theorem dJ7_copyOf_6403c_28 : decode cJ7_copyOf_6403c 28 = .ok (.iconst 0, 1) := by decide +kernel
theorem dJ7_copyOf_6403c_29 : decode cJ7_copyOf_6403c 29 = .ok (.aload_n 0, 1) := by decide +kernel
theorem dJ7_copyOf_6403c_30 : decode cJ7_copyOf_6403c 30 = .ok (.arraylength, 1) := by decide +kernel
theorem dJ7_copyOf_6403c_31 : decode cJ7_copyOf_6403c 31 = .ok (.iload_n 1, 1) := by decide +kernel
theorem dJ7_copyOf_6403c_32 : decode cJ7_copyOf_6403c 32 = .ok (.invokestatic 304, 3) := by decide +kernel
theorem dJ7_copyOf_6403c_35 : decode cJ7_copyOf_6403c 35 = .ok (.invokestatic 150, 3) := by decide +kernel
theorem dJ7_copyOf_6403c_38 : decode cJ7_copyOf_6403c 38 = .ok (.aload_n 3, 1) := by decide +kernel
theorem dJ7_copyOf_6403c_39 : decode cJ7_copyOf_6403c 39 = .ok (.areturn, 1) := by decide +kernel
theorem dJ7_copyOf_9075b_0 : decode cJ7_copyOf_9075b 0 = .ok (.iload_n 1, 1) := by decide +kernel
theorem dJ7_copyOf_9075b_1 : decode cJ7_copyOf_9075b 1 = .ok (.aload_n 0, 1) := by decide +kernel
theorem dJ7_copyOf_9075b_2 : decode cJ7_copyOf_9075b 2 = .ok (.arraylength, 1) := by decide +kernel
theorem dJ7_copyOf_9075b_3 : decode cJ7_copyOf_9075b 3 = .ok (.if_icmp .ne 11, 3) := by decide +kernel
theorem dJ7_copyOf_9075b_6 : decode cJ7_copyOf_9075b 6 = .ok (.aload_n 0, 1) := by decide +kernel
theorem dJ7_copyOf_9075b_7 : decode cJ7_copyOf_9075b 7 = .ok (.invokevirtual 310, 3) := by decide +kernel
theorem dJ7_copyOf_9075b_10 : decode cJ7_copyOf_9075b 10 = .ok (.checkcast 311, 3) := by decide +kernel
theorem dJ7_copyOf_9075b_13 : decode cJ7_copyOf_9075b 13 = .ok (.areturn, 1) := by decide +kernel
theorem dJ7_copyOf_9075b_14 : decode cJ7_copyOf_9075b 14 = .ok (.iload_n 1, 1) := by decide +kernel
theorem dJ7_copyOf_9075b_15 : decode cJ7_copyOf_9075b 15 = .ok (.newarray .byte, 2) := by decide +kernel
theorem dJ7_copyOf_9075b_17 : decode cJ7_copyOf_9075b 17 = .ok (.astore_n 2, 1) := by decide +kernel
theorem dJ7_copyOf_9075b_18 : decode cJ7_copyOf_9075b 18 = .ok (.aload_n 0, 1) := by decide +kernel
theorem dJ7_copyOf_9075b_19 : decode cJ7_copyOf_9075b 19 = .ok (.iconst 0, 1) := by decide +kernel
theorem dJ7_copyOf_9075b_20 : decode cJ7_copyOf_9075b 20 = .ok (.aload_n 2, 1) := by decide +kernel
theorem dJ7_copyOf_9075b_21 : decode cJ7_copyOf_9075b 21 = .ok (.iconst 0, 1) := by decide +kernel
theorem dJ7_copyOf_9075b_22 : decode cJ7_copyOf_9075b 22 = .ok (.aload_n 0, 1) := by decide +kernel
theorem dJ7_copyOf_9075b_23 : decode cJ7_copyOf_9075b 23 = .ok (.arraylength, 1) := by decide +kernel
theorem dJ7_copyOf_9075b_24 : decode cJ7_copyOf_9075b 24 = .ok (.iload_n 1, 1) := by decide +kernel
theorem dJ7_copyOf_9075b_25 : decode cJ7_copyOf_9075b 25 = .ok (.invokestatic 304, 3) := by decide +kernel
theorem dJ7_copyOf_9075b_28 : decode cJ7_copyOf_9075b 28 = .ok (.invokestatic 150, 3) := by decide +kernel
theorem dJ7_copyOf_9075b_31 : decode cJ7_copyOf_9075b 31 = .ok (.aload_n 2, 1) := by decide +kernel
theorem dJ7_copyOf_9075b_32 : decode cJ7_copyOf_9075b 32 = .ok (.areturn, 1) := by decide +kernel
theorem dJ7_checkLength_df160_0 : decode cJ7_checkLength_df160 0 = .ok (.iload_n 1, 1) := by decide +kernel
theorem dJ7_checkLength_df160_1 : decode cJ7_checkLength_df160 1 = .ok (.iload_n 0, 1) := by decide +kernel
theorem dJ7_checkLength_df160_2 : decode cJ7_checkLength_df160 2 = .ok (.if_icmp .ge 35, 3) := by decide +kernel
theorem dJ7_checkLength_df160_5 : decode cJ7_checkLength_df160 5 = .ok (.new 43, 3) := by decide +kernel
theorem dJ7_checkLength_df160_8 : decode cJ7_checkLength_df160 8 = .ok (.dup, 1) := by decide +kernel
theorem dJ7_checkLength_df160_9 : decode cJ7_checkLength_df160 9 = .ok (.new 45, 3) := by decide +kernel
theorem dJ7_checkLength_df160_12 : decode cJ7_checkLength_df160 12 = .ok (.dup, 1) := by decide +kernel
theorem dJ7_checkLength_df160_13 : decode cJ7_checkLength_df160 13 = .ok (.invokespecial 47, 3) := by decide +kernel
theorem dJ7_checkLength_df160_16 : decode cJ7_checkLength_df160 16 = .ok (.iload_n 0, 1) := by decide +kernel
theorem dJ7_checkLength_df160_17 : decode cJ7_checkLength_df160 17 = .ok (.invokevirtual 54, 3) := by decide +kernel
theorem dJ7_checkLength_df160_20 : decode cJ7_checkLength_df160 20 = .ok (.ldc_w 337, 3) := by decide +kernel
theorem dJ7_checkLength_df160_23 : decode cJ7_checkLength_df160 23 = .ok (.invokevirtual 50, 3) := by decide +kernel
theorem dJ7_checkLength_df160_26 : decode cJ7_checkLength_df160 26 = .ok (.iload_n 1, 1) := by decide +kernel
theorem dJ7_checkLength_df160_27 : decode cJ7_checkLength_df160 27 = .ok (.invokevirtual 54, 3) := by decide +kernel
theorem dJ7_checkLength_df160_30 : decode cJ7_checkLength_df160 30 = .ok (.invokevirtual 61, 3) := by decide +kernel
theorem dJ7_checkLength_df160_33 : decode cJ7_checkLength_df160 33 = .ok (.invokespecial 65, 3) := by decide +kernel
theorem dJ7_checkLength_df160_36 : decode cJ7_checkLength_df160 36 = .ok (.athrow, 1) := by decide +kernel
theorem dJ7_checkLength_df160_37 : decode cJ7_checkLength_df160 37 = .ok (.return_, 1) := by decide +kernel
theorem dJ7_copyOfRange_39247_0 : decode cJ7_copyOfRange_39247 0 = .ok (.iload_n 1, 1) := by decide +kernel
theorem dJ7_copyOfRange_39247_1 : decode cJ7_copyOfRange_39247 1 = .ok (.ifCond .ne 9, 3) := by decide +kernel
theorem dJ7_copyOfRange_39247_4 : decode cJ7_copyOfRange_39247 4 = .ok (.iload_n 2, 1) := by decide +kernel
theorem dJ7_copyOfRange_39247_5 : decode cJ7_copyOfRange_39247 5 = .ok (.aload_n 0, 1) := by decide +kernel
theorem dJ7_copyOfRange_39247_6 : decode cJ7_copyOfRange_39247 6 = .ok (.arraylength, 1) := by decide +kernel
theorem dJ7_copyOfRange_39247_7 : decode cJ7_copyOfRange_39247 7 = .ok (.if_icmp .eq 10, 3) := by decide +kernel
theorem dJ7_copyOfRange_39247_10 : decode cJ7_copyOfRange_39247 10 = .ok (.aload_n 0, 1) := by decide +kernel
theorem dJ7_copyOfRange_39247_11 : decode cJ7_copyOfRange_39247 11 = .ok (.iload_n 1, 1) := by decide +kernel
theorem dJ7_copyOfRange_39247_12 : decode cJ7_copyOfRange_39247 12 = .ok (.iload_n 2, 1) := by decide +kernel
theorem dJ7_copyOfRange_39247_13 : decode cJ7_copyOfRange_39247 13 = .ok (.invokestatic 339, 3) := by decide +kernel
theorem dJ7_copyOfRange_39247_16 : decode cJ7_copyOfRange_39247 16 = .ok (.areturn, 1) := by decide +kernel
theorem dJ7_copyOfRange_39247_17 : decode cJ7_copyOfRange_39247 17 = .ok (.aload_n 0, 1) := by decide +kernel
theorem dJ7_copyOfRange_39247_18 : decode cJ7_copyOfRange_39247 18 = .ok (.invokevirtual 310, 3) := by decide +kernel
theorem dJ7_copyOfRange_39247_21 : decode cJ7_copyOfRange_39247 21 = .ok (.checkcast 311, 3) := by decide +kernel
theorem dJ7_copyOfRange_39247_24 : decode cJ7_copyOfRange_39247 24 = .ok (.areturn, 1) := by decide +kernel
theorem dJ7_copyOfRangeByte_39247_0 : decode cJ7_copyOfRangeByte_39247 0 = .ok (.iload_n 1, 1) := by decide +kernel
theorem dJ7_copyOfRangeByte_39247_1 : decode cJ7_copyOfRangeByte_39247 1 = .ok (.iload_n 2, 1) := by decide +kernel
theorem dJ7_copyOfRangeByte_39247_2 : decode cJ7_copyOfRangeByte_39247 2 = .ok (.invokestatic 343, 3) := by decide +kernel
theorem dJ7_copyOfRangeByte_39247_5 : decode cJ7_copyOfRangeByte_39247 5 = .ok (.iload_n 2, 1) := by decide +kernel
theorem dJ7_copyOfRangeByte_39247_6 : decode cJ7_copyOfRangeByte_39247 6 = .ok (.iload_n 1, 1) := by decide +kernel
theorem dJ7_copyOfRangeByte_39247_7 : decode cJ7_copyOfRangeByte_39247 7 = .ok (.isub, 1) := by decide +kernel
theorem dJ7_copyOfRangeByte_39247_8 : decode cJ7_copyOfRangeByte_39247 8 = .ok (.istore_n 3, 1) := by decide +kernel
theorem dJ7_copyOfRangeByte_39247_9 : decode cJ7_copyOfRangeByte_39247 9 = .ok (.iload_n 3, 1) := by decide +kernel
theorem dJ7_copyOfRangeByte_39247_10 : decode cJ7_copyOfRangeByte_39247 10 = .ok (.newarray .byte, 2) := by decide +kernel
theorem dJ7_copyOfRangeByte_39247_12 : decode cJ7_copyOfRangeByte_39247 12 = .ok (.astore 4, 2) := by decide +kernel
theorem dJ7_copyOfRangeByte_39247_14 : decode cJ7_copyOfRangeByte_39247 14 = .ok (.aload_n 0, 1) := by decide +kernel
theorem dJ7_copyOfRangeByte_39247_15 : decode cJ7_copyOfRangeByte_39247 15 = .ok (.iload_n 1, 1) := by decide +kernel
theorem dJ7_copyOfRangeByte_39247_16 : decode cJ7_copyOfRangeByte_39247 16 = .ok (.aload 4, 2) := by decide +kernel
theorem dJ7_copyOfRangeByte_39247_18 : decode cJ7_copyOfRangeByte_39247 18 = .ok (.iconst 0, 1) := by decide +kernel
theorem dJ7_copyOfRangeByte_39247_19 : decode cJ7_copyOfRangeByte_39247 19 = .ok (.aload_n 0, 1) := by decide +kernel
theorem dJ7_copyOfRangeByte_39247_20 : decode cJ7_copyOfRangeByte_39247 20 = .ok (.arraylength, 1) := by decide +kernel
theorem dJ7_copyOfRangeByte_39247_21 : decode cJ7_copyOfRangeByte_39247 21 = .ok (.iload_n 1, 1) := by decide +kernel
theorem dJ7_copyOfRangeByte_39247_22 : decode cJ7_copyOfRangeByte_39247 22 = .ok (.isub, 1) := by decide +kernel
theorem dJ7_copyOfRangeByte_39247_23 : decode cJ7_copyOfRangeByte_39247 23 = .ok (.iload_n 3, 1) := by decide +kernel
theorem dJ7_copyOfRangeByte_39247_24 : decode cJ7_copyOfRangeByte_39247 24 = .ok (.invokestatic 304, 3) := by decide +kernel
theorem dJ7_copyOfRangeByte_39247_27 : decode cJ7_copyOfRangeByte_39247 27 = .ok (.invokestatic 150, 3) := by decide +kernel
theorem dJ7_copyOfRangeByte_39247_30 : decode cJ7_copyOfRangeByte_39247 30 = .ok (.aload 4, 2) := by decide +kernel
theorem dJ7_copyOfRangeByte_39247_32 : decode cJ7_copyOfRangeByte_39247 32 = .ok (.areturn, 1) := by decide +kernel
theorem dJ15_checkIndex_7cf53_0 : decode cJ15_checkIndex_7cf53 0 = .ok (.iload_n 0, 1) := by decide +kernel
theorem dJ15_checkIndex_7cf53_1 : decode cJ15_checkIndex_7cf53 1 = .ok (.iload_n 1, 1) := by decide +kernel
theorem dJ15_checkIndex_7cf53_2 : decode cJ15_checkIndex_7cf53 2 = .ok (.aconst_null, 1) := by decide +kernel
theorem dJ15_checkIndex_7cf53_3 : decode cJ15_checkIndex_7cf53 3 = .ok (.invokestatic 105, 3) := by decide +kernel
theorem dJ15_checkIndex_7cf53_6 : decode cJ15_checkIndex_7cf53 6 = .ok (.ireturn, 1) := by decide +kernel
theorem dJ8_newLength_cabcc_0 : decode cJ8_newLength_cabcc 0 = .ok (.iload_n 0, 1) := by decide +kernel
theorem dJ8_newLength_cabcc_1 : decode cJ8_newLength_cabcc 1 = .ok (.iload_n 1, 1) := by decide +kernel
theorem dJ8_newLength_cabcc_2 : decode cJ8_newLength_cabcc 2 = .ok (.iload_n 2, 1) := by decide +kernel
theorem dJ8_newLength_cabcc_3 : decode cJ8_newLength_cabcc 3 = .ok (.invokestatic 194, 3) := by decide +kernel
theorem dJ8_newLength_cabcc_6 : decode cJ8_newLength_cabcc 6 = .ok (.iadd, 1) := by decide +kernel
theorem dJ8_newLength_cabcc_7 : decode cJ8_newLength_cabcc 7 = .ok (.istore_n 3, 1) := by decide +kernel
theorem dJ8_newLength_cabcc_8 : decode cJ8_newLength_cabcc 8 = .ok (.iconst 0, 1) := by decide +kernel
theorem dJ8_newLength_cabcc_9 : decode cJ8_newLength_cabcc 9 = .ok (.iload_n 3, 1) := by decide +kernel
theorem dJ8_newLength_cabcc_10 : decode cJ8_newLength_cabcc 10 = .ok (.if_icmp .ge 11, 3) := by decide +kernel
theorem dJ8_newLength_cabcc_13 : decode cJ8_newLength_cabcc 13 = .ok (.iload_n 3, 1) := by decide +kernel
theorem dJ8_newLength_cabcc_14 : decode cJ8_newLength_cabcc 14 = .ok (.ldc 200, 2) := by decide +kernel
theorem dJ8_newLength_cabcc_16 : decode cJ8_newLength_cabcc 16 = .ok (.if_icmp .gt 5, 3) := by decide +kernel
theorem dJ8_newLength_cabcc_19 : decode cJ8_newLength_cabcc 19 = .ok (.iload_n 3, 1) := by decide +kernel
theorem dJ8_newLength_cabcc_20 : decode cJ8_newLength_cabcc 20 = .ok (.ireturn, 1) := by decide +kernel
theorem dJ8_newLength_cabcc_21 : decode cJ8_newLength_cabcc 21 = .ok (.iload_n 0, 1) := by decide +kernel
theorem dJ8_newLength_cabcc_22 : decode cJ8_newLength_cabcc 22 = .ok (.iload_n 1, 1) := by decide +kernel
theorem dJ8_newLength_cabcc_23 : decode cJ8_newLength_cabcc 23 = .ok (.invokestatic 201, 3) := by decide +kernel
theorem dJ8_newLength_cabcc_26 : decode cJ8_newLength_cabcc 26 = .ok (.ireturn, 1) := by decide +kernel
theorem dJ8_hugeLength_7cf53_0 : decode cJ8_hugeLength_7cf53 0 = .ok (.iload_n 0, 1) := by decide +kernel
theorem dJ8_hugeLength_7cf53_1 : decode cJ8_hugeLength_7cf53 1 = .ok (.iload_n 1, 1) := by decide +kernel
theorem dJ8_hugeLength_7cf53_2 : decode cJ8_hugeLength_7cf53 2 = .ok (.iadd, 1) := by decide +kernel
theorem dJ8_hugeLength_7cf53_3 : decode cJ8_hugeLength_7cf53 3 = .ok (.istore_n 2, 1) := by decide +kernel
theorem dJ8_hugeLength_7cf53_4 : decode cJ8_hugeLength_7cf53 4 = .ok (.iload_n 2, 1) := by decide +kernel
theorem dJ8_hugeLength_7cf53_5 : decode cJ8_hugeLength_7cf53 5 = .ok (.ifCond .ge 44, 3) := by decide +kernel
theorem dJ8_hugeLength_7cf53_8 : decode cJ8_hugeLength_7cf53 8 = .ok (.new 204, 3) := by decide +kernel
theorem dJ8_hugeLength_7cf53_11 : decode cJ8_hugeLength_7cf53 11 = .ok (.dup, 1) := by decide +kernel
theorem dJ8_hugeLength_7cf53_12 : decode cJ8_hugeLength_7cf53 12 = .ok (.new 89, 3) := by decide +kernel
theorem dJ8_hugeLength_7cf53_15 : decode cJ8_hugeLength_7cf53 15 = .ok (.dup, 1) := by decide +kernel
theorem dJ8_hugeLength_7cf53_16 : decode cJ8_hugeLength_7cf53 16 = .ok (.invokespecial 91, 3) := by decide +kernel
theorem dJ8_hugeLength_7cf53_19 : decode cJ8_hugeLength_7cf53 19 = .ok (.ldc 206, 2) := by decide +kernel
theorem dJ8_hugeLength_7cf53_21 : decode cJ8_hugeLength_7cf53 21 = .ok (.invokevirtual 94, 3) := by decide +kernel
theorem dJ8_hugeLength_7cf53_24 : decode cJ8_hugeLength_7cf53 24 = .ok (.iload_n 0, 1) := by decide +kernel
theorem dJ8_hugeLength_7cf53_25 : decode cJ8_hugeLength_7cf53 25 = .ok (.invokevirtual 98, 3) := by decide +kernel
theorem dJ8_hugeLength_7cf53_28 : decode cJ8_hugeLength_7cf53 28 = .ok (.ldc 208, 2) := by decide +kernel
theorem dJ8_hugeLength_7cf53_30 : decode cJ8_hugeLength_7cf53 30 = .ok (.invokevirtual 94, 3) := by decide +kernel
theorem dJ8_hugeLength_7cf53_33 : decode cJ8_hugeLength_7cf53 33 = .ok (.iload_n 1, 1) := by decide +kernel
theorem dJ8_hugeLength_7cf53_34 : decode cJ8_hugeLength_7cf53 34 = .ok (.invokevirtual 98, 3) := by decide +kernel
theorem dJ8_hugeLength_7cf53_37 : decode cJ8_hugeLength_7cf53 37 = .ok (.ldc 210, 2) := by decide +kernel
theorem dJ8_hugeLength_7cf53_39 : decode cJ8_hugeLength_7cf53 39 = .ok (.invokevirtual 94, 3) := by decide +kernel
theorem dJ8_hugeLength_7cf53_42 : decode cJ8_hugeLength_7cf53 42 = .ok (.invokevirtual 101, 3) := by decide +kernel
theorem dJ8_hugeLength_7cf53_45 : decode cJ8_hugeLength_7cf53 45 = .ok (.invokespecial 212, 3) := by decide +kernel
theorem dJ8_hugeLength_7cf53_48 : decode cJ8_hugeLength_7cf53 48 = .ok (.athrow, 1) := by decide +kernel
theorem dJ8_hugeLength_7cf53_49 : decode cJ8_hugeLength_7cf53 49 = .ok (.iload_n 2, 1) := by decide +kernel
theorem dJ8_hugeLength_7cf53_50 : decode cJ8_hugeLength_7cf53 50 = .ok (.ldc 200, 2) := by decide +kernel
theorem dJ8_hugeLength_7cf53_52 : decode cJ8_hugeLength_7cf53 52 = .ok (.if_icmp .gt 6, 3) := by decide +kernel
theorem dJ8_hugeLength_7cf53_55 : decode cJ8_hugeLength_7cf53 55 = .ok (.ldc 200, 2) := by decide +kernel
theorem dJ8_hugeLength_7cf53_57 : decode cJ8_hugeLength_7cf53 57 = .ok (.ireturn, 1) := by decide +kernel
theorem dJ8_hugeLength_7cf53_58 : decode cJ8_hugeLength_7cf53 58 = .ok (.iload_n 2, 1) := by decide +kernel
theorem dJ8_hugeLength_7cf53_59 : decode cJ8_hugeLength_7cf53 59 = .ok (.ireturn, 1) := by decide +kernel
theorem dJ3_checkIndex_8e157_0 : decode cJ3_checkIndex_8e157 0 = .ok (.iload_n 0, 1) := by decide +kernel
theorem dJ3_checkIndex_8e157_1 : decode cJ3_checkIndex_8e157 1 = .ok (.ifCond .lt 8, 3) := by decide +kernel
theorem dJ3_checkIndex_8e157_4 : decode cJ3_checkIndex_8e157 4 = .ok (.iload_n 0, 1) := by decide +kernel
theorem dJ3_checkIndex_8e157_5 : decode cJ3_checkIndex_8e157 5 = .ok (.iload_n 1, 1) := by decide +kernel
theorem dJ3_checkIndex_8e157_6 : decode cJ3_checkIndex_8e157 6 = .ok (.if_icmp .lt 10, 3) := by decide +kernel
theorem dJ3_checkIndex_8e157_9 : decode cJ3_checkIndex_8e157 9 = .ok (.aload_n 2, 1) := by decide +kernel
theorem dJ3_checkIndex_8e157_10 : decode cJ3_checkIndex_8e157 10 = .ok (.iload_n 0, 1) := by decide +kernel
theorem dJ3_checkIndex_8e157_11 : decode cJ3_checkIndex_8e157 11 = .ok (.iload_n 1, 1) := by decide +kernel
theorem dJ3_checkIndex_8e157_12 : decode cJ3_checkIndex_8e157 12 = .ok (.invokestatic 95, 3) := by decide +kernel
theorem dJ3_checkIndex_8e157_15 : decode cJ3_checkIndex_8e157 15 = .ok (.athrow, 1) := by decide +kernel
theorem dJ3_checkIndex_8e157_16 : decode cJ3_checkIndex_8e157 16 = .ok (.iload_n 0, 1) := by decide +kernel
theorem dJ3_checkIndex_8e157_17 : decode cJ3_checkIndex_8e157 17 = .ok (.ireturn, 1) := by decide +kernel
theorem dJ3_checkFromToIndex_8c36e_0 : decode cJ3_checkFromToIndex_8c36e 0 = .ok (.iload_n 0, 1) := by decide +kernel
theorem dJ3_checkFromToIndex_8c36e_1 : decode cJ3_checkFromToIndex_8c36e 1 = .ok (.ifCond .lt 13, 3) := by decide +kernel
theorem dJ3_checkFromToIndex_8c36e_4 : decode cJ3_checkFromToIndex_8c36e 4 = .ok (.iload_n 0, 1) := by decide +kernel
theorem dJ3_checkFromToIndex_8c36e_5 : decode cJ3_checkFromToIndex_8c36e 5 = .ok (.iload_n 1, 1) := by decide +kernel
theorem dJ3_checkFromToIndex_8c36e_6 : decode cJ3_checkFromToIndex_8c36e 6 = .ok (.if_icmp .gt 8, 3) := by decide +kernel
theorem dJ3_checkFromToIndex_8c36e_9 : decode cJ3_checkFromToIndex_8c36e 9 = .ok (.iload_n 1, 1) := by decide +kernel
theorem dJ3_checkFromToIndex_8c36e_10 : decode cJ3_checkFromToIndex_8c36e 10 = .ok (.iload_n 2, 1) := by decide +kernel
theorem dJ3_checkFromToIndex_8c36e_11 : decode cJ3_checkFromToIndex_8c36e 11 = .ok (.if_icmp .le 11, 3) := by decide +kernel
theorem dJ3_checkFromToIndex_8c36e_14 : decode cJ3_checkFromToIndex_8c36e 14 = .ok (.aload_n 3, 1) := by decide +kernel
theorem dJ3_checkFromToIndex_8c36e_15 : decode cJ3_checkFromToIndex_8c36e 15 = .ok (.iload_n 0, 1) := by decide +kernel
theorem dJ3_checkFromToIndex_8c36e_16 : decode cJ3_checkFromToIndex_8c36e 16 = .ok (.iload_n 1, 1) := by decide +kernel
theorem dJ3_checkFromToIndex_8c36e_17 : decode cJ3_checkFromToIndex_8c36e 17 = .ok (.iload_n 2, 1) := by decide +kernel
theorem dJ3_checkFromToIndex_8c36e_18 : decode cJ3_checkFromToIndex_8c36e 18 = .ok (.invokestatic 99, 3) := by decide +kernel
theorem dJ3_checkFromToIndex_8c36e_21 : decode cJ3_checkFromToIndex_8c36e 21 = .ok (.athrow, 1) := by decide +kernel
theorem dJ3_checkFromToIndex_8c36e_22 : decode cJ3_checkFromToIndex_8c36e 22 = .ok (.iload_n 0, 1) := by decide +kernel
theorem dJ3_checkFromToIndex_8c36e_23 : decode cJ3_checkFromToIndex_8c36e 23 = .ok (.ireturn, 1) := by decide +kernel
theorem dJ3_checkFromIndexSize_8c36e_0 : decode cJ3_checkFromIndexSize_8c36e 0 = .ok (.iload_n 2, 1) := by decide +kernel
theorem dJ3_checkFromIndexSize_8c36e_1 : decode cJ3_checkFromIndexSize_8c36e 1 = .ok (.iload_n 0, 1) := by decide +kernel
theorem dJ3_checkFromIndexSize_8c36e_2 : decode cJ3_checkFromIndexSize_8c36e 2 = .ok (.ior, 1) := by decide +kernel
theorem dJ3_checkFromIndexSize_8c36e_3 : decode cJ3_checkFromIndexSize_8c36e 3 = .ok (.iload_n 1, 1) := by decide +kernel
theorem dJ3_checkFromIndexSize_8c36e_4 : decode cJ3_checkFromIndexSize_8c36e 4 = .ok (.ior, 1) := by decide +kernel
theorem dJ3_checkFromIndexSize_8c36e_5 : decode cJ3_checkFromIndexSize_8c36e 5 = .ok (.ifCond .lt 10, 3) := by decide +kernel
theorem dJ3_checkFromIndexSize_8c36e_8 : decode cJ3_checkFromIndexSize_8c36e 8 = .ok (.iload_n 1, 1) := by decide +kernel
theorem dJ3_checkFromIndexSize_8c36e_9 : decode cJ3_checkFromIndexSize_8c36e 9 = .ok (.iload_n 2, 1) := by decide +kernel
theorem dJ3_checkFromIndexSize_8c36e_10 : decode cJ3_checkFromIndexSize_8c36e 10 = .ok (.iload_n 0, 1) := by decide +kernel
theorem dJ3_checkFromIndexSize_8c36e_11 : decode cJ3_checkFromIndexSize_8c36e 11 = .ok (.isub, 1) := by decide +kernel
theorem dJ3_checkFromIndexSize_8c36e_12 : decode cJ3_checkFromIndexSize_8c36e 12 = .ok (.if_icmp .le 11, 3) := by decide +kernel
theorem dJ3_checkFromIndexSize_8c36e_15 : decode cJ3_checkFromIndexSize_8c36e 15 = .ok (.aload_n 3, 1) := by decide +kernel
theorem dJ3_checkFromIndexSize_8c36e_16 : decode cJ3_checkFromIndexSize_8c36e 16 = .ok (.iload_n 0, 1) := by decide +kernel
theorem dJ3_checkFromIndexSize_8c36e_17 : decode cJ3_checkFromIndexSize_8c36e 17 = .ok (.iload_n 1, 1) := by decide +kernel
theorem dJ3_checkFromIndexSize_8c36e_18 : decode cJ3_checkFromIndexSize_8c36e 18 = .ok (.iload_n 2, 1) := by decide +kernel
theorem dJ3_checkFromIndexSize_8c36e_19 : decode cJ3_checkFromIndexSize_8c36e 19 = .ok (.invokestatic 103, 3) := by decide +kernel
theorem dJ3_checkFromIndexSize_8c36e_22 : decode cJ3_checkFromIndexSize_8c36e 22 = .ok (.athrow, 1) := by decide +kernel
theorem dJ3_checkFromIndexSize_8c36e_23 : decode cJ3_checkFromIndexSize_8c36e 23 = .ok (.iload_n 0, 1) := by decide +kernel
theorem dJ3_checkFromIndexSize_8c36e_24 : decode cJ3_checkFromIndexSize_8c36e 24 = .ok (.ireturn, 1) := by decide +kernel
theorem dL_addBin_0 : decode cL_addBin 0 = .ok (.aload_n 3, 1) := by decide +kernel
theorem dL_addBin_1 : decode cL_addBin 1 = .ok (.iconst 0, 1) := by decide +kernel
theorem dL_addBin_2 : decode cL_addBin 2 = .ok (.aload_n 0, 1) := by decide +kernel
theorem dL_addBin_3 : decode cL_addBin 3 = .ok (.iload_n 1, 1) := by decide +kernel
theorem dL_addBin_4 : decode cL_addBin 4 = .ok (.iload_n 2, 1) := by decide +kernel
theorem dL_addBin_5 : decode cL_addBin 5 = .ok (.invokevirtual 7, 3) := by decide +kernel
theorem dL_addBin_8 : decode cL_addBin 8 = .ok (.i2l, 1) := by decide +kernel
theorem dL_addBin_9 : decode cL_addBin 9 = .ok (.lastore, 1) := by decide +kernel
theorem dL_addBin_10 : decode cL_addBin 10 = .ok (.goto 11, 3) := by decide +kernel
theorem dL_addBin_13 : decode cL_addBin 13 = .ok (.astore 4, 2) := by decide +kernel
theorem dL_addBin_15 : decode cL_addBin 15 = .ok (.iconst 1, 1) := by decide +kernel
theorem dL_addBin_16 : decode cL_addBin 16 = .ok (.ireturn, 1) := by decide +kernel
theorem dL_addBin_17 : decode cL_addBin 17 = .ok (.astore 4, 2) := by decide +kernel
theorem dL_addBin_19 : decode cL_addBin 19 = .ok (.iconst 2, 1) := by decide +kernel
theorem dL_addBin_20 : decode cL_addBin 20 = .ok (.ireturn, 1) := by decide +kernel
theorem dL_addBin_21 : decode cL_addBin 21 = .ok (.iconst 0, 1) := by decide +kernel
theorem dL_addBin_22 : decode cL_addBin 22 = .ok (.ireturn, 1) := by decide +kernel
theorem dL_capacityOf_0 : decode cL_capacityOf 0 = .ok (.aload_n 2, 1) := by decide +kernel
theorem dL_capacityOf_1 : decode cL_capacityOf 1 = .ok (.iconst 0, 1) := by decide +kernel
theorem dL_capacityOf_2 : decode cL_capacityOf 2 = .ok (.aload_n 0, 1) := by decide +kernel
theorem dL_capacityOf_3 : decode cL_capacityOf 3 = .ok (.iload_n 1, 1) := by decide +kernel
theorem dL_capacityOf_4 : decode cL_capacityOf 4 = .ok (.invokevirtual 17, 3) := by decide +kernel
theorem dL_capacityOf_7 : decode cL_capacityOf 7 = .ok (.i2l, 1) := by decide +kernel
theorem dL_capacityOf_8 : decode cL_capacityOf 8 = .ok (.lastore, 1) := by decide +kernel
theorem dL_capacityOf_9 : decode cL_capacityOf 9 = .ok (.goto 6, 3) := by decide +kernel
theorem dL_capacityOf_12 : decode cL_capacityOf 12 = .ok (.astore_n 3, 1) := by decide +kernel
theorem dL_capacityOf_13 : decode cL_capacityOf 13 = .ok (.iconst 1, 1) := by decide +kernel
theorem dL_capacityOf_14 : decode cL_capacityOf 14 = .ok (.ireturn, 1) := by decide +kernel
theorem dL_capacityOf_15 : decode cL_capacityOf 15 = .ok (.iconst 0, 1) := by decide +kernel
theorem dL_capacityOf_16 : decode cL_capacityOf 16 = .ok (.ireturn, 1) := by decide +kernel
theorem dL_setRule_0 : decode cL_setRule 0 = .ok (.aload 5, 2) := by decide +kernel
theorem dL_setRule_2 : decode cL_setRule 2 = .ok (.iconst 0, 1) := by decide +kernel
theorem dL_setRule_3 : decode cL_setRule 3 = .ok (.aload_n 0, 1) := by decide +kernel
theorem dL_setRule_4 : decode cL_setRule 4 = .ok (.iload_n 1, 1) := by decide +kernel
theorem dL_setRule_5 : decode cL_setRule 5 = .ok (.iload_n 2, 1) := by decide +kernel
theorem dL_setRule_6 : decode cL_setRule 6 = .ok (.iload_n 3, 1) := by decide +kernel
theorem dL_setRule_7 : decode cL_setRule 7 = .ok (.iload 4, 2) := by decide +kernel
theorem dL_setRule_9 : decode cL_setRule 9 = .ok (.invokevirtual 23, 3) := by decide +kernel
theorem dL_setRule_12 : decode cL_setRule 12 = .ok (.i2l, 1) := by decide +kernel
theorem dL_setRule_13 : decode cL_setRule 13 = .ok (.lastore, 1) := by decide +kernel
theorem dL_setRule_14 : decode cL_setRule 14 = .ok (.goto 7, 3) := by decide +kernel
theorem dL_setRule_17 : decode cL_setRule 17 = .ok (.astore 6, 2) := by decide +kernel
theorem dL_setRule_19 : decode cL_setRule 19 = .ok (.iconst 1, 1) := by decide +kernel
theorem dL_setRule_20 : decode cL_setRule 20 = .ok (.ireturn, 1) := by decide +kernel
theorem dL_setRule_21 : decode cL_setRule 21 = .ok (.iconst 0, 1) := by decide +kernel
theorem dL_setRule_22 : decode cL_setRule 22 = .ok (.ireturn, 1) := by decide +kernel
theorem dL_setSeason_0 : decode cL_setSeason 0 = .ok (.aload_n 2, 1) := by decide +kernel
theorem dL_setSeason_1 : decode cL_setSeason 1 = .ok (.iconst 0, 1) := by decide +kernel
theorem dL_setSeason_2 : decode cL_setSeason 2 = .ok (.aload_n 0, 1) := by decide +kernel
theorem dL_setSeason_3 : decode cL_setSeason 3 = .ok (.iload_n 1, 1) := by decide +kernel
theorem dL_setSeason_4 : decode cL_setSeason 4 = .ok (.invokevirtual 27, 3) := by decide +kernel
theorem dL_setSeason_7 : decode cL_setSeason 7 = .ok (.i2l, 1) := by decide +kernel
theorem dL_setSeason_8 : decode cL_setSeason 8 = .ok (.lastore, 1) := by decide +kernel
theorem dL_setSeason_9 : decode cL_setSeason 9 = .ok (.goto 6, 3) := by decide +kernel
theorem dL_setSeason_12 : decode cL_setSeason 12 = .ok (.astore_n 3, 1) := by decide +kernel
theorem dL_setSeason_13 : decode cL_setSeason 13 = .ok (.iconst 1, 1) := by decide +kernel
theorem dL_setSeason_14 : decode cL_setSeason 14 = .ok (.ireturn, 1) := by decide +kernel
theorem dL_setSeason_15 : decode cL_setSeason 15 = .ok (.iconst 0, 1) := by decide +kernel
theorem dL_setSeason_16 : decode cL_setSeason 16 = .ok (.ireturn, 1) := by decide +kernel
theorem dL_gradeFor_0 : decode cL_gradeFor 0 = .ok (.aload_n 3, 1) := by decide +kernel
theorem dL_gradeFor_1 : decode cL_gradeFor 1 = .ok (.iconst 0, 1) := by decide +kernel
theorem dL_gradeFor_2 : decode cL_gradeFor 2 = .ok (.aload_n 0, 1) := by decide +kernel
theorem dL_gradeFor_3 : decode cL_gradeFor 3 = .ok (.iload_n 1, 1) := by decide +kernel
theorem dL_gradeFor_4 : decode cL_gradeFor 4 = .ok (.iload_n 2, 1) := by decide +kernel
theorem dL_gradeFor_5 : decode cL_gradeFor 5 = .ok (.invokevirtual 30, 3) := by decide +kernel
theorem dL_gradeFor_8 : decode cL_gradeFor 8 = .ok (.i2l, 1) := by decide +kernel
theorem dL_gradeFor_9 : decode cL_gradeFor 9 = .ok (.lastore, 1) := by decide +kernel
theorem dL_gradeFor_10 : decode cL_gradeFor 10 = .ok (.goto 7, 3) := by decide +kernel
theorem dL_gradeFor_13 : decode cL_gradeFor 13 = .ok (.astore 4, 2) := by decide +kernel
theorem dL_gradeFor_15 : decode cL_gradeFor 15 = .ok (.iconst 1, 1) := by decide +kernel
theorem dL_gradeFor_16 : decode cL_gradeFor 16 = .ok (.ireturn, 1) := by decide +kernel
theorem dL_gradeFor_17 : decode cL_gradeFor 17 = .ok (.iconst 0, 1) := by decide +kernel
theorem dL_gradeFor_18 : decode cL_gradeFor 18 = .ok (.ireturn, 1) := by decide +kernel
theorem dL_setPrice_0 : decode cL_setPrice 0 = .ok (.aload_n 3, 1) := by decide +kernel
theorem dL_setPrice_1 : decode cL_setPrice 1 = .ok (.iconst 0, 1) := by decide +kernel
theorem dL_setPrice_2 : decode cL_setPrice 2 = .ok (.aload_n 0, 1) := by decide +kernel
theorem dL_setPrice_3 : decode cL_setPrice 3 = .ok (.iload_n 1, 1) := by decide +kernel
theorem dL_setPrice_4 : decode cL_setPrice 4 = .ok (.iload_n 2, 1) := by decide +kernel
theorem dL_setPrice_5 : decode cL_setPrice 5 = .ok (.invokevirtual 34, 3) := by decide +kernel
theorem dL_setPrice_8 : decode cL_setPrice 8 = .ok (.i2l, 1) := by decide +kernel
theorem dL_setPrice_9 : decode cL_setPrice 9 = .ok (.lastore, 1) := by decide +kernel
theorem dL_setPrice_10 : decode cL_setPrice 10 = .ok (.goto 7, 3) := by decide +kernel
theorem dL_setPrice_13 : decode cL_setPrice 13 = .ok (.astore 4, 2) := by decide +kernel
theorem dL_setPrice_15 : decode cL_setPrice 15 = .ok (.iconst 1, 1) := by decide +kernel
theorem dL_setPrice_16 : decode cL_setPrice 16 = .ok (.ireturn, 1) := by decide +kernel
theorem dL_setPrice_17 : decode cL_setPrice 17 = .ok (.iconst 0, 1) := by decide +kernel
theorem dL_setPrice_18 : decode cL_setPrice 18 = .ok (.ireturn, 1) := by decide +kernel
theorem dL_priceOf_0 : decode cL_priceOf 0 = .ok (.aload_n 2, 1) := by decide +kernel
theorem dL_priceOf_1 : decode cL_priceOf 1 = .ok (.iconst 0, 1) := by decide +kernel
theorem dL_priceOf_2 : decode cL_priceOf 2 = .ok (.aload_n 0, 1) := by decide +kernel
theorem dL_priceOf_3 : decode cL_priceOf 3 = .ok (.iload_n 1, 1) := by decide +kernel
theorem dL_priceOf_4 : decode cL_priceOf 4 = .ok (.invokevirtual 37, 3) := by decide +kernel
theorem dL_priceOf_7 : decode cL_priceOf 7 = .ok (.i2l, 1) := by decide +kernel
theorem dL_priceOf_8 : decode cL_priceOf 8 = .ok (.lastore, 1) := by decide +kernel
theorem dL_priceOf_9 : decode cL_priceOf 9 = .ok (.goto 6, 3) := by decide +kernel
theorem dL_priceOf_12 : decode cL_priceOf 12 = .ok (.astore_n 3, 1) := by decide +kernel
theorem dL_priceOf_13 : decode cL_priceOf 13 = .ok (.iconst 1, 1) := by decide +kernel
theorem dL_priceOf_14 : decode cL_priceOf 14 = .ok (.ireturn, 1) := by decide +kernel
theorem dL_priceOf_15 : decode cL_priceOf 15 = .ok (.iconst 0, 1) := by decide +kernel
theorem dL_priceOf_16 : decode cL_priceOf 16 = .ok (.ireturn, 1) := by decide +kernel
theorem dL_load_0 : decode cL_load 0 = .ok (.aload 5, 2) := by decide +kernel
theorem dL_load_2 : decode cL_load 2 = .ok (.iconst 0, 1) := by decide +kernel
theorem dL_load_3 : decode cL_load 3 = .ok (.aload_n 0, 1) := by decide +kernel
theorem dL_load_4 : decode cL_load 4 = .ok (.iload_n 1, 1) := by decide +kernel
theorem dL_load_5 : decode cL_load 5 = .ok (.iload_n 2, 1) := by decide +kernel
theorem dL_load_6 : decode cL_load 6 = .ok (.iload_n 3, 1) := by decide +kernel
theorem dL_load_7 : decode cL_load 7 = .ok (.iload 4, 2) := by decide +kernel
theorem dL_load_9 : decode cL_load 9 = .ok (.invokevirtual 40, 3) := by decide +kernel
theorem dL_load_12 : decode cL_load 12 = .ok (.i2l, 1) := by decide +kernel
theorem dL_load_13 : decode cL_load 13 = .ok (.lastore, 1) := by decide +kernel
theorem dL_load_14 : decode cL_load 14 = .ok (.goto 15, 3) := by decide +kernel
theorem dL_load_17 : decode cL_load 17 = .ok (.astore 6, 2) := by decide +kernel
theorem dL_load_19 : decode cL_load 19 = .ok (.iconst 1, 1) := by decide +kernel
theorem dL_load_20 : decode cL_load 20 = .ok (.ireturn, 1) := by decide +kernel
theorem dL_load_21 : decode cL_load 21 = .ok (.astore 6, 2) := by decide +kernel
theorem dL_load_23 : decode cL_load 23 = .ok (.iconst 2, 1) := by decide +kernel
theorem dL_load_24 : decode cL_load 24 = .ok (.ireturn, 1) := by decide +kernel
theorem dL_load_25 : decode cL_load 25 = .ok (.astore 6, 2) := by decide +kernel
theorem dL_load_27 : decode cL_load 27 = .ok (.iconst 3, 1) := by decide +kernel
theorem dL_load_28 : decode cL_load 28 = .ok (.ireturn, 1) := by decide +kernel
theorem dL_load_29 : decode cL_load 29 = .ok (.iconst 0, 1) := by decide +kernel
theorem dL_load_30 : decode cL_load 30 = .ok (.ireturn, 1) := by decide +kernel
theorem dL_sell_0 : decode cL_sell 0 = .ok (.aload_n 3, 1) := by decide +kernel
theorem dL_sell_1 : decode cL_sell 1 = .ok (.iconst 0, 1) := by decide +kernel
theorem dL_sell_2 : decode cL_sell 2 = .ok (.aload_n 0, 1) := by decide +kernel
theorem dL_sell_3 : decode cL_sell 3 = .ok (.iload_n 1, 1) := by decide +kernel
theorem dL_sell_4 : decode cL_sell 4 = .ok (.iload_n 2, 1) := by decide +kernel
theorem dL_sell_5 : decode cL_sell 5 = .ok (.invokevirtual 43, 3) := by decide +kernel
theorem dL_sell_8 : decode cL_sell 8 = .ok (.i2l, 1) := by decide +kernel
theorem dL_sell_9 : decode cL_sell 9 = .ok (.lastore, 1) := by decide +kernel
theorem dL_sell_10 : decode cL_sell 10 = .ok (.goto 15, 3) := by decide +kernel
theorem dL_sell_13 : decode cL_sell 13 = .ok (.astore 4, 2) := by decide +kernel
theorem dL_sell_15 : decode cL_sell 15 = .ok (.iconst 1, 1) := by decide +kernel
theorem dL_sell_16 : decode cL_sell 16 = .ok (.ireturn, 1) := by decide +kernel
theorem dL_sell_17 : decode cL_sell 17 = .ok (.astore 4, 2) := by decide +kernel
theorem dL_sell_19 : decode cL_sell 19 = .ok (.iconst 2, 1) := by decide +kernel
theorem dL_sell_20 : decode cL_sell 20 = .ok (.ireturn, 1) := by decide +kernel
theorem dL_sell_21 : decode cL_sell 21 = .ok (.astore 4, 2) := by decide +kernel
theorem dL_sell_23 : decode cL_sell 23 = .ok (.iconst 3, 1) := by decide +kernel
theorem dL_sell_24 : decode cL_sell 24 = .ok (.ireturn, 1) := by decide +kernel
theorem dL_sell_25 : decode cL_sell 25 = .ok (.iconst 0, 1) := by decide +kernel
theorem dL_sell_26 : decode cL_sell 26 = .ok (.ireturn, 1) := by decide +kernel
theorem dL_transfer_0 : decode cL_transfer 0 = .ok (.aload 4, 2) := by decide +kernel
theorem dL_transfer_2 : decode cL_transfer 2 = .ok (.iconst 0, 1) := by decide +kernel
theorem dL_transfer_3 : decode cL_transfer 3 = .ok (.aload_n 0, 1) := by decide +kernel
theorem dL_transfer_4 : decode cL_transfer 4 = .ok (.iload_n 1, 1) := by decide +kernel
theorem dL_transfer_5 : decode cL_transfer 5 = .ok (.iload_n 2, 1) := by decide +kernel
theorem dL_transfer_6 : decode cL_transfer 6 = .ok (.iload_n 3, 1) := by decide +kernel
theorem dL_transfer_7 : decode cL_transfer 7 = .ok (.invokevirtual 46, 3) := by decide +kernel
theorem dL_transfer_10 : decode cL_transfer 10 = .ok (.i2l, 1) := by decide +kernel
theorem dL_transfer_11 : decode cL_transfer 11 = .ok (.lastore, 1) := by decide +kernel
theorem dL_transfer_12 : decode cL_transfer 12 = .ok (.goto 15, 3) := by decide +kernel
theorem dL_transfer_15 : decode cL_transfer 15 = .ok (.astore 5, 2) := by decide +kernel
theorem dL_transfer_17 : decode cL_transfer 17 = .ok (.iconst 1, 1) := by decide +kernel
theorem dL_transfer_18 : decode cL_transfer 18 = .ok (.ireturn, 1) := by decide +kernel
theorem dL_transfer_19 : decode cL_transfer 19 = .ok (.astore 5, 2) := by decide +kernel
theorem dL_transfer_21 : decode cL_transfer 21 = .ok (.iconst 2, 1) := by decide +kernel
theorem dL_transfer_22 : decode cL_transfer 22 = .ok (.ireturn, 1) := by decide +kernel
theorem dL_transfer_23 : decode cL_transfer 23 = .ok (.astore 5, 2) := by decide +kernel
theorem dL_transfer_25 : decode cL_transfer 25 = .ok (.iconst 3, 1) := by decide +kernel
theorem dL_transfer_26 : decode cL_transfer 26 = .ok (.ireturn, 1) := by decide +kernel
theorem dL_transfer_27 : decode cL_transfer 27 = .ok (.iconst 0, 1) := by decide +kernel
theorem dL_transfer_28 : decode cL_transfer 28 = .ok (.ireturn, 1) := by decide +kernel
theorem dL_dry_0 : decode cL_dry 0 = .ok (.aload_n 3, 1) := by decide +kernel
theorem dL_dry_1 : decode cL_dry 1 = .ok (.iconst 0, 1) := by decide +kernel
theorem dL_dry_2 : decode cL_dry 2 = .ok (.aload_n 0, 1) := by decide +kernel
theorem dL_dry_3 : decode cL_dry 3 = .ok (.iload_n 1, 1) := by decide +kernel
theorem dL_dry_4 : decode cL_dry 4 = .ok (.iload_n 2, 1) := by decide +kernel
theorem dL_dry_5 : decode cL_dry 5 = .ok (.invokevirtual 50, 3) := by decide +kernel
theorem dL_dry_8 : decode cL_dry 8 = .ok (.i2l, 1) := by decide +kernel
theorem dL_dry_9 : decode cL_dry 9 = .ok (.lastore, 1) := by decide +kernel
theorem dL_dry_10 : decode cL_dry 10 = .ok (.goto 15, 3) := by decide +kernel
theorem dL_dry_13 : decode cL_dry 13 = .ok (.astore 4, 2) := by decide +kernel
theorem dL_dry_15 : decode cL_dry 15 = .ok (.iconst 1, 1) := by decide +kernel
theorem dL_dry_16 : decode cL_dry 16 = .ok (.ireturn, 1) := by decide +kernel
theorem dL_dry_17 : decode cL_dry 17 = .ok (.astore 4, 2) := by decide +kernel
theorem dL_dry_19 : decode cL_dry 19 = .ok (.iconst 2, 1) := by decide +kernel
theorem dL_dry_20 : decode cL_dry 20 = .ok (.ireturn, 1) := by decide +kernel
theorem dL_dry_21 : decode cL_dry 21 = .ok (.astore 4, 2) := by decide +kernel
theorem dL_dry_23 : decode cL_dry 23 = .ok (.iconst 3, 1) := by decide +kernel
theorem dL_dry_24 : decode cL_dry 24 = .ok (.ireturn, 1) := by decide +kernel
theorem dL_dry_25 : decode cL_dry 25 = .ok (.iconst 0, 1) := by decide +kernel
theorem dL_dry_26 : decode cL_dry 26 = .ok (.ireturn, 1) := by decide +kernel
theorem dL_dryingCost_0 : decode cL_dryingCost 0 = .ok (.aload_n 3, 1) := by decide +kernel
theorem dL_dryingCost_1 : decode cL_dryingCost 1 = .ok (.iconst 0, 1) := by decide +kernel
theorem dL_dryingCost_2 : decode cL_dryingCost 2 = .ok (.aload_n 0, 1) := by decide +kernel
theorem dL_dryingCost_3 : decode cL_dryingCost 3 = .ok (.iload_n 1, 1) := by decide +kernel
theorem dL_dryingCost_4 : decode cL_dryingCost 4 = .ok (.iload_n 2, 1) := by decide +kernel
theorem dL_dryingCost_5 : decode cL_dryingCost 5 = .ok (.invokevirtual 53, 3) := by decide +kernel
theorem dL_dryingCost_8 : decode cL_dryingCost 8 = .ok (.i2l, 1) := by decide +kernel
theorem dL_dryingCost_9 : decode cL_dryingCost 9 = .ok (.lastore, 1) := by decide +kernel
theorem dL_dryingCost_10 : decode cL_dryingCost 10 = .ok (.goto 11, 3) := by decide +kernel
theorem dL_dryingCost_13 : decode cL_dryingCost 13 = .ok (.astore 4, 2) := by decide +kernel
theorem dL_dryingCost_15 : decode cL_dryingCost 15 = .ok (.iconst 1, 1) := by decide +kernel
theorem dL_dryingCost_16 : decode cL_dryingCost 16 = .ok (.ireturn, 1) := by decide +kernel
theorem dL_dryingCost_17 : decode cL_dryingCost 17 = .ok (.astore 4, 2) := by decide +kernel
theorem dL_dryingCost_19 : decode cL_dryingCost 19 = .ok (.iconst 2, 1) := by decide +kernel
theorem dL_dryingCost_20 : decode cL_dryingCost 20 = .ok (.ireturn, 1) := by decide +kernel
theorem dL_dryingCost_21 : decode cL_dryingCost 21 = .ok (.iconst 0, 1) := by decide +kernel
theorem dL_dryingCost_22 : decode cL_dryingCost 22 = .ok (.ireturn, 1) := by decide +kernel
theorem dL_bushelsIn_0 : decode cL_bushelsIn 0 = .ok (.aload_n 2, 1) := by decide +kernel
theorem dL_bushelsIn_1 : decode cL_bushelsIn 1 = .ok (.iconst 0, 1) := by decide +kernel
theorem dL_bushelsIn_2 : decode cL_bushelsIn 2 = .ok (.aload_n 0, 1) := by decide +kernel
theorem dL_bushelsIn_3 : decode cL_bushelsIn 3 = .ok (.iload_n 1, 1) := by decide +kernel
theorem dL_bushelsIn_4 : decode cL_bushelsIn 4 = .ok (.invokevirtual 56, 3) := by decide +kernel
theorem dL_bushelsIn_7 : decode cL_bushelsIn 7 = .ok (.i2l, 1) := by decide +kernel
theorem dL_bushelsIn_8 : decode cL_bushelsIn 8 = .ok (.lastore, 1) := by decide +kernel
theorem dL_bushelsIn_9 : decode cL_bushelsIn 9 = .ok (.goto 6, 3) := by decide +kernel
theorem dL_bushelsIn_12 : decode cL_bushelsIn 12 = .ok (.astore_n 3, 1) := by decide +kernel
theorem dL_bushelsIn_13 : decode cL_bushelsIn 13 = .ok (.iconst 1, 1) := by decide +kernel
theorem dL_bushelsIn_14 : decode cL_bushelsIn 14 = .ok (.ireturn, 1) := by decide +kernel
theorem dL_bushelsIn_15 : decode cL_bushelsIn 15 = .ok (.iconst 0, 1) := by decide +kernel
theorem dL_bushelsIn_16 : decode cL_bushelsIn 16 = .ok (.ireturn, 1) := by decide +kernel
theorem dL_layersIn_0 : decode cL_layersIn 0 = .ok (.aload_n 2, 1) := by decide +kernel
theorem dL_layersIn_1 : decode cL_layersIn 1 = .ok (.iconst 0, 1) := by decide +kernel
theorem dL_layersIn_2 : decode cL_layersIn 2 = .ok (.aload_n 0, 1) := by decide +kernel
theorem dL_layersIn_3 : decode cL_layersIn 3 = .ok (.iload_n 1, 1) := by decide +kernel
theorem dL_layersIn_4 : decode cL_layersIn 4 = .ok (.invokevirtual 59, 3) := by decide +kernel
theorem dL_layersIn_7 : decode cL_layersIn 7 = .ok (.i2l, 1) := by decide +kernel
theorem dL_layersIn_8 : decode cL_layersIn 8 = .ok (.lastore, 1) := by decide +kernel
theorem dL_layersIn_9 : decode cL_layersIn 9 = .ok (.goto 6, 3) := by decide +kernel
theorem dL_layersIn_12 : decode cL_layersIn 12 = .ok (.astore_n 3, 1) := by decide +kernel
theorem dL_layersIn_13 : decode cL_layersIn 13 = .ok (.iconst 1, 1) := by decide +kernel
theorem dL_layersIn_14 : decode cL_layersIn 14 = .ok (.ireturn, 1) := by decide +kernel
theorem dL_layersIn_15 : decode cL_layersIn 15 = .ok (.iconst 0, 1) := by decide +kernel
theorem dL_layersIn_16 : decode cL_layersIn 16 = .ok (.ireturn, 1) := by decide +kernel
theorem dL_layerBushels_0 : decode cL_layerBushels 0 = .ok (.aload_n 3, 1) := by decide +kernel
theorem dL_layerBushels_1 : decode cL_layerBushels 1 = .ok (.iconst 0, 1) := by decide +kernel
theorem dL_layerBushels_2 : decode cL_layerBushels 2 = .ok (.aload_n 0, 1) := by decide +kernel
theorem dL_layerBushels_3 : decode cL_layerBushels 3 = .ok (.iload_n 1, 1) := by decide +kernel
theorem dL_layerBushels_4 : decode cL_layerBushels 4 = .ok (.iload_n 2, 1) := by decide +kernel
theorem dL_layerBushels_5 : decode cL_layerBushels 5 = .ok (.invokevirtual 62, 3) := by decide +kernel
theorem dL_layerBushels_8 : decode cL_layerBushels 8 = .ok (.i2l, 1) := by decide +kernel
theorem dL_layerBushels_9 : decode cL_layerBushels 9 = .ok (.lastore, 1) := by decide +kernel
theorem dL_layerBushels_10 : decode cL_layerBushels 10 = .ok (.goto 7, 3) := by decide +kernel
theorem dL_layerBushels_13 : decode cL_layerBushels 13 = .ok (.astore 4, 2) := by decide +kernel
theorem dL_layerBushels_15 : decode cL_layerBushels 15 = .ok (.iconst 1, 1) := by decide +kernel
theorem dL_layerBushels_16 : decode cL_layerBushels 16 = .ok (.ireturn, 1) := by decide +kernel
theorem dL_layerBushels_17 : decode cL_layerBushels 17 = .ok (.iconst 0, 1) := by decide +kernel
theorem dL_layerBushels_18 : decode cL_layerBushels 18 = .ok (.ireturn, 1) := by decide +kernel
theorem dL_layerAnew_0 : decode cL_layerAnew 0 = .ok (.aload_n 3, 1) := by decide +kernel
theorem dL_layerAnew_1 : decode cL_layerAnew 1 = .ok (.iconst 0, 1) := by decide +kernel
theorem dL_layerAnew_2 : decode cL_layerAnew 2 = .ok (.aload_n 0, 1) := by decide +kernel
theorem dL_layerAnew_3 : decode cL_layerAnew 3 = .ok (.iload_n 1, 1) := by decide +kernel
theorem dL_layerAnew_4 : decode cL_layerAnew 4 = .ok (.iload_n 2, 1) := by decide +kernel
theorem dL_layerAnew_5 : decode cL_layerAnew 5 = .ok (.invokevirtual 65, 3) := by decide +kernel
theorem dL_layerAnew_8 : decode cL_layerAnew 8 = .ok (.i2l, 1) := by decide +kernel
theorem dL_layerAnew_9 : decode cL_layerAnew 9 = .ok (.lastore, 1) := by decide +kernel
theorem dL_layerAnew_10 : decode cL_layerAnew 10 = .ok (.goto 7, 3) := by decide +kernel
theorem dL_layerAnew_13 : decode cL_layerAnew 13 = .ok (.astore 4, 2) := by decide +kernel
theorem dL_layerAnew_15 : decode cL_layerAnew 15 = .ok (.iconst 1, 1) := by decide +kernel
theorem dL_layerAnew_16 : decode cL_layerAnew 16 = .ok (.ireturn, 1) := by decide +kernel
theorem dL_layerAnew_17 : decode cL_layerAnew 17 = .ok (.iconst 0, 1) := by decide +kernel
theorem dL_layerAnew_18 : decode cL_layerAnew 18 = .ok (.ireturn, 1) := by decide +kernel
theorem dL_layerMoisture_0 : decode cL_layerMoisture 0 = .ok (.aload_n 3, 1) := by decide +kernel
theorem dL_layerMoisture_1 : decode cL_layerMoisture 1 = .ok (.iconst 0, 1) := by decide +kernel
theorem dL_layerMoisture_2 : decode cL_layerMoisture 2 = .ok (.aload_n 0, 1) := by decide +kernel
theorem dL_layerMoisture_3 : decode cL_layerMoisture 3 = .ok (.iload_n 1, 1) := by decide +kernel
theorem dL_layerMoisture_4 : decode cL_layerMoisture 4 = .ok (.iload_n 2, 1) := by decide +kernel
theorem dL_layerMoisture_5 : decode cL_layerMoisture 5 = .ok (.invokevirtual 68, 3) := by decide +kernel
theorem dL_layerMoisture_8 : decode cL_layerMoisture 8 = .ok (.i2l, 1) := by decide +kernel
theorem dL_layerMoisture_9 : decode cL_layerMoisture 9 = .ok (.lastore, 1) := by decide +kernel
theorem dL_layerMoisture_10 : decode cL_layerMoisture 10 = .ok (.goto 7, 3) := by decide +kernel
theorem dL_layerMoisture_13 : decode cL_layerMoisture 13 = .ok (.astore 4, 2) := by decide +kernel
theorem dL_layerMoisture_15 : decode cL_layerMoisture 15 = .ok (.iconst 1, 1) := by decide +kernel
theorem dL_layerMoisture_16 : decode cL_layerMoisture 16 = .ok (.ireturn, 1) := by decide +kernel
theorem dL_layerMoisture_17 : decode cL_layerMoisture 17 = .ok (.iconst 0, 1) := by decide +kernel
theorem dL_layerMoisture_18 : decode cL_layerMoisture 18 = .ok (.ireturn, 1) := by decide +kernel
theorem dL_layerForeign_0 : decode cL_layerForeign 0 = .ok (.aload_n 3, 1) := by decide +kernel
theorem dL_layerForeign_1 : decode cL_layerForeign 1 = .ok (.iconst 0, 1) := by decide +kernel
theorem dL_layerForeign_2 : decode cL_layerForeign 2 = .ok (.aload_n 0, 1) := by decide +kernel
theorem dL_layerForeign_3 : decode cL_layerForeign 3 = .ok (.iload_n 1, 1) := by decide +kernel
theorem dL_layerForeign_4 : decode cL_layerForeign 4 = .ok (.iload_n 2, 1) := by decide +kernel
theorem dL_layerForeign_5 : decode cL_layerForeign 5 = .ok (.invokevirtual 71, 3) := by decide +kernel
theorem dL_layerForeign_8 : decode cL_layerForeign 8 = .ok (.i2l, 1) := by decide +kernel
theorem dL_layerForeign_9 : decode cL_layerForeign 9 = .ok (.lastore, 1) := by decide +kernel
theorem dL_layerForeign_10 : decode cL_layerForeign 10 = .ok (.goto 7, 3) := by decide +kernel
theorem dL_layerForeign_13 : decode cL_layerForeign 13 = .ok (.astore 4, 2) := by decide +kernel
theorem dL_layerForeign_15 : decode cL_layerForeign 15 = .ok (.iconst 1, 1) := by decide +kernel
theorem dL_layerForeign_16 : decode cL_layerForeign 16 = .ok (.ireturn, 1) := by decide +kernel
theorem dL_layerForeign_17 : decode cL_layerForeign 17 = .ok (.iconst 0, 1) := by decide +kernel
theorem dL_layerForeign_18 : decode cL_layerForeign 18 = .ok (.ireturn, 1) := by decide +kernel
theorem dL_layerGrade_0 : decode cL_layerGrade 0 = .ok (.aload_n 3, 1) := by decide +kernel
theorem dL_layerGrade_1 : decode cL_layerGrade 1 = .ok (.iconst 0, 1) := by decide +kernel
theorem dL_layerGrade_2 : decode cL_layerGrade 2 = .ok (.aload_n 0, 1) := by decide +kernel
theorem dL_layerGrade_3 : decode cL_layerGrade 3 = .ok (.iload_n 1, 1) := by decide +kernel
theorem dL_layerGrade_4 : decode cL_layerGrade 4 = .ok (.iload_n 2, 1) := by decide +kernel
theorem dL_layerGrade_5 : decode cL_layerGrade 5 = .ok (.invokevirtual 74, 3) := by decide +kernel
theorem dL_layerGrade_8 : decode cL_layerGrade 8 = .ok (.i2l, 1) := by decide +kernel
theorem dL_layerGrade_9 : decode cL_layerGrade 9 = .ok (.lastore, 1) := by decide +kernel
theorem dL_layerGrade_10 : decode cL_layerGrade 10 = .ok (.goto 7, 3) := by decide +kernel
theorem dL_layerGrade_13 : decode cL_layerGrade 13 = .ok (.astore 4, 2) := by decide +kernel
theorem dL_layerGrade_15 : decode cL_layerGrade 15 = .ok (.iconst 1, 1) := by decide +kernel
theorem dL_layerGrade_16 : decode cL_layerGrade 16 = .ok (.ireturn, 1) := by decide +kernel
theorem dL_layerGrade_17 : decode cL_layerGrade 17 = .ok (.iconst 0, 1) := by decide +kernel
theorem dL_layerGrade_18 : decode cL_layerGrade 18 = .ok (.ireturn, 1) := by decide +kernel
theorem dL_meanMoisture_0 : decode cL_meanMoisture 0 = .ok (.aload_n 2, 1) := by decide +kernel
theorem dL_meanMoisture_1 : decode cL_meanMoisture 1 = .ok (.iconst 0, 1) := by decide +kernel
theorem dL_meanMoisture_2 : decode cL_meanMoisture 2 = .ok (.aload_n 0, 1) := by decide +kernel
theorem dL_meanMoisture_3 : decode cL_meanMoisture 3 = .ok (.iload_n 1, 1) := by decide +kernel
theorem dL_meanMoisture_4 : decode cL_meanMoisture 4 = .ok (.invokevirtual 77, 3) := by decide +kernel
theorem dL_meanMoisture_7 : decode cL_meanMoisture 7 = .ok (.dastore, 1) := by decide +kernel
theorem dL_meanMoisture_8 : decode cL_meanMoisture 8 = .ok (.goto 9, 3) := by decide +kernel
theorem dL_meanMoisture_11 : decode cL_meanMoisture 11 = .ok (.astore_n 3, 1) := by decide +kernel
theorem dL_meanMoisture_12 : decode cL_meanMoisture 12 = .ok (.iconst 1, 1) := by decide +kernel
theorem dL_meanMoisture_13 : decode cL_meanMoisture 13 = .ok (.ireturn, 1) := by decide +kernel
theorem dL_meanMoisture_14 : decode cL_meanMoisture 14 = .ok (.astore_n 3, 1) := by decide +kernel
theorem dL_meanMoisture_15 : decode cL_meanMoisture 15 = .ok (.iconst 2, 1) := by decide +kernel
theorem dL_meanMoisture_16 : decode cL_meanMoisture 16 = .ok (.ireturn, 1) := by decide +kernel
theorem dL_meanMoisture_17 : decode cL_meanMoisture 17 = .ok (.iconst 0, 1) := by decide +kernel
theorem dL_meanMoisture_18 : decode cL_meanMoisture 18 = .ok (.ireturn, 1) := by decide +kernel
theorem dL_wetShare_0 : decode cL_wetShare 0 = .ok (.aload_n 2, 1) := by decide +kernel
theorem dL_wetShare_1 : decode cL_wetShare 1 = .ok (.iconst 0, 1) := by decide +kernel
theorem dL_wetShare_2 : decode cL_wetShare 2 = .ok (.aload_n 0, 1) := by decide +kernel
theorem dL_wetShare_3 : decode cL_wetShare 3 = .ok (.iload_n 1, 1) := by decide +kernel
theorem dL_wetShare_4 : decode cL_wetShare 4 = .ok (.invokevirtual 83, 3) := by decide +kernel
theorem dL_wetShare_7 : decode cL_wetShare 7 = .ok (.f2d, 1) := by decide +kernel
theorem dL_wetShare_8 : decode cL_wetShare 8 = .ok (.dastore, 1) := by decide +kernel
theorem dL_wetShare_9 : decode cL_wetShare 9 = .ok (.goto 9, 3) := by decide +kernel
theorem dL_wetShare_12 : decode cL_wetShare 12 = .ok (.astore_n 3, 1) := by decide +kernel
theorem dL_wetShare_13 : decode cL_wetShare 13 = .ok (.iconst 1, 1) := by decide +kernel
theorem dL_wetShare_14 : decode cL_wetShare 14 = .ok (.ireturn, 1) := by decide +kernel
theorem dL_wetShare_15 : decode cL_wetShare 15 = .ok (.astore_n 3, 1) := by decide +kernel
theorem dL_wetShare_16 : decode cL_wetShare 16 = .ok (.iconst 2, 1) := by decide +kernel
theorem dL_wetShare_17 : decode cL_wetShare 17 = .ok (.ireturn, 1) := by decide +kernel
theorem dL_wetShare_18 : decode cL_wetShare 18 = .ok (.iconst 0, 1) := by decide +kernel
theorem dL_wetShare_19 : decode cL_wetShare 19 = .ok (.ireturn, 1) := by decide +kernel
theorem dL_blendCost_0 : decode cL_blendCost 0 = .ok (.aload 5, 2) := by decide +kernel
theorem dL_blendCost_2 : decode cL_blendCost 2 = .ok (.iconst 0, 1) := by decide +kernel
theorem dL_blendCost_3 : decode cL_blendCost 3 = .ok (.aload_n 0, 1) := by decide +kernel
theorem dL_blendCost_4 : decode cL_blendCost 4 = .ok (.iload_n 1, 1) := by decide +kernel
theorem dL_blendCost_5 : decode cL_blendCost 5 = .ok (.iload_n 2, 1) := by decide +kernel
theorem dL_blendCost_6 : decode cL_blendCost 6 = .ok (.iload_n 3, 1) := by decide +kernel
theorem dL_blendCost_7 : decode cL_blendCost 7 = .ok (.iload 4, 2) := by decide +kernel
theorem dL_blendCost_9 : decode cL_blendCost 9 = .ok (.invokevirtual 87, 3) := by decide +kernel
theorem dL_blendCost_12 : decode cL_blendCost 12 = .ok (.i2l, 1) := by decide +kernel
theorem dL_blendCost_13 : decode cL_blendCost 13 = .ok (.lastore, 1) := by decide +kernel
theorem dL_blendCost_14 : decode cL_blendCost 14 = .ok (.goto 15, 3) := by decide +kernel
theorem dL_blendCost_17 : decode cL_blendCost 17 = .ok (.astore 6, 2) := by decide +kernel
theorem dL_blendCost_19 : decode cL_blendCost 19 = .ok (.iconst 1, 1) := by decide +kernel
theorem dL_blendCost_20 : decode cL_blendCost 20 = .ok (.ireturn, 1) := by decide +kernel
theorem dL_blendCost_21 : decode cL_blendCost 21 = .ok (.astore 6, 2) := by decide +kernel
theorem dL_blendCost_23 : decode cL_blendCost 23 = .ok (.iconst 2, 1) := by decide +kernel
theorem dL_blendCost_24 : decode cL_blendCost 24 = .ok (.ireturn, 1) := by decide +kernel
theorem dL_blendCost_25 : decode cL_blendCost 25 = .ok (.astore 6, 2) := by decide +kernel
theorem dL_blendCost_27 : decode cL_blendCost 27 = .ok (.iconst 3, 1) := by decide +kernel
theorem dL_blendCost_28 : decode cL_blendCost 28 = .ok (.ireturn, 1) := by decide +kernel
theorem dL_blendCost_29 : decode cL_blendCost 29 = .ok (.iconst 0, 1) := by decide +kernel
theorem dL_blendCost_30 : decode cL_blendCost 30 = .ok (.ireturn, 1) := by decide +kernel
theorem dL_blendCostByTrying_0 : decode cL_blendCostByTrying 0 = .ok (.aload 5, 2) := by decide +kernel
theorem dL_blendCostByTrying_2 : decode cL_blendCostByTrying 2 = .ok (.iconst 0, 1) := by decide +kernel
theorem dL_blendCostByTrying_3 : decode cL_blendCostByTrying 3 = .ok (.aload_n 0, 1) := by decide +kernel
theorem dL_blendCostByTrying_4 : decode cL_blendCostByTrying 4 = .ok (.iload_n 1, 1) := by decide +kernel
theorem dL_blendCostByTrying_5 : decode cL_blendCostByTrying 5 = .ok (.iload_n 2, 1) := by decide +kernel
theorem dL_blendCostByTrying_6 : decode cL_blendCostByTrying 6 = .ok (.iload_n 3, 1) := by decide +kernel
theorem dL_blendCostByTrying_7 : decode cL_blendCostByTrying 7 = .ok (.iload 4, 2) := by decide +kernel
theorem dL_blendCostByTrying_9 : decode cL_blendCostByTrying 9 = .ok (.invokevirtual 92, 3) := by decide +kernel
theorem dL_blendCostByTrying_12 : decode cL_blendCostByTrying 12 = .ok (.i2l, 1) := by decide +kernel
theorem dL_blendCostByTrying_13 : decode cL_blendCostByTrying 13 = .ok (.lastore, 1) := by decide +kernel
theorem dL_blendCostByTrying_14 : decode cL_blendCostByTrying 14 = .ok (.goto 15, 3) := by decide +kernel
theorem dL_blendCostByTrying_17 : decode cL_blendCostByTrying 17 = .ok (.astore 6, 2) := by decide +kernel
theorem dL_blendCostByTrying_19 : decode cL_blendCostByTrying 19 = .ok (.iconst 1, 1) := by decide +kernel
theorem dL_blendCostByTrying_20 : decode cL_blendCostByTrying 20 = .ok (.ireturn, 1) := by decide +kernel
theorem dL_blendCostByTrying_21 : decode cL_blendCostByTrying 21 = .ok (.astore 6, 2) := by decide +kernel
theorem dL_blendCostByTrying_23 : decode cL_blendCostByTrying 23 = .ok (.iconst 2, 1) := by decide +kernel
theorem dL_blendCostByTrying_24 : decode cL_blendCostByTrying 24 = .ok (.ireturn, 1) := by decide +kernel
theorem dL_blendCostByTrying_25 : decode cL_blendCostByTrying 25 = .ok (.astore 6, 2) := by decide +kernel
theorem dL_blendCostByTrying_27 : decode cL_blendCostByTrying 27 = .ok (.iconst 3, 1) := by decide +kernel
theorem dL_blendCostByTrying_28 : decode cL_blendCostByTrying 28 = .ok (.ireturn, 1) := by decide +kernel
theorem dL_blendCostByTrying_29 : decode cL_blendCostByTrying 29 = .ok (.iconst 0, 1) := by decide +kernel
theorem dL_blendCostByTrying_30 : decode cL_blendCostByTrying 30 = .ok (.ireturn, 1) := by decide +kernel
theorem dL_blendShare_0 : decode cL_blendShare 0 = .ok (.aload 5, 2) := by decide +kernel
theorem dL_blendShare_2 : decode cL_blendShare 2 = .ok (.iconst 0, 1) := by decide +kernel
theorem dL_blendShare_3 : decode cL_blendShare 3 = .ok (.aload_n 0, 1) := by decide +kernel
theorem dL_blendShare_4 : decode cL_blendShare 4 = .ok (.iload_n 1, 1) := by decide +kernel
theorem dL_blendShare_5 : decode cL_blendShare 5 = .ok (.iload_n 2, 1) := by decide +kernel
theorem dL_blendShare_6 : decode cL_blendShare 6 = .ok (.iload_n 3, 1) := by decide +kernel
theorem dL_blendShare_7 : decode cL_blendShare 7 = .ok (.iload 4, 2) := by decide +kernel
theorem dL_blendShare_9 : decode cL_blendShare 9 = .ok (.invokevirtual 95, 3) := by decide +kernel
theorem dL_blendShare_12 : decode cL_blendShare 12 = .ok (.i2l, 1) := by decide +kernel
theorem dL_blendShare_13 : decode cL_blendShare 13 = .ok (.lastore, 1) := by decide +kernel
theorem dL_blendShare_14 : decode cL_blendShare 14 = .ok (.goto 15, 3) := by decide +kernel
theorem dL_blendShare_17 : decode cL_blendShare 17 = .ok (.astore 6, 2) := by decide +kernel
theorem dL_blendShare_19 : decode cL_blendShare 19 = .ok (.iconst 1, 1) := by decide +kernel
theorem dL_blendShare_20 : decode cL_blendShare 20 = .ok (.ireturn, 1) := by decide +kernel
theorem dL_blendShare_21 : decode cL_blendShare 21 = .ok (.astore 6, 2) := by decide +kernel
theorem dL_blendShare_23 : decode cL_blendShare 23 = .ok (.iconst 2, 1) := by decide +kernel
theorem dL_blendShare_24 : decode cL_blendShare 24 = .ok (.ireturn, 1) := by decide +kernel
theorem dL_blendShare_25 : decode cL_blendShare 25 = .ok (.astore 6, 2) := by decide +kernel
theorem dL_blendShare_27 : decode cL_blendShare 27 = .ok (.iconst 3, 1) := by decide +kernel
theorem dL_blendShare_28 : decode cL_blendShare 28 = .ok (.ireturn, 1) := by decide +kernel
theorem dL_blendShare_29 : decode cL_blendShare 29 = .ok (.iconst 0, 1) := by decide +kernel
theorem dL_blendShare_30 : decode cL_blendShare 30 = .ok (.ireturn, 1) := by decide +kernel
theorem dL_sellBlend_0 : decode cL_sellBlend 0 = .ok (.aload 5, 2) := by decide +kernel
theorem dL_sellBlend_2 : decode cL_sellBlend 2 = .ok (.iconst 0, 1) := by decide +kernel
theorem dL_sellBlend_3 : decode cL_sellBlend 3 = .ok (.aload_n 0, 1) := by decide +kernel
theorem dL_sellBlend_4 : decode cL_sellBlend 4 = .ok (.iload_n 1, 1) := by decide +kernel
theorem dL_sellBlend_5 : decode cL_sellBlend 5 = .ok (.iload_n 2, 1) := by decide +kernel
theorem dL_sellBlend_6 : decode cL_sellBlend 6 = .ok (.iload_n 3, 1) := by decide +kernel
theorem dL_sellBlend_7 : decode cL_sellBlend 7 = .ok (.iload 4, 2) := by decide +kernel
theorem dL_sellBlend_9 : decode cL_sellBlend 9 = .ok (.invokevirtual 98, 3) := by decide +kernel
theorem dL_sellBlend_12 : decode cL_sellBlend 12 = .ok (.i2l, 1) := by decide +kernel
theorem dL_sellBlend_13 : decode cL_sellBlend 13 = .ok (.lastore, 1) := by decide +kernel
theorem dL_sellBlend_14 : decode cL_sellBlend 14 = .ok (.goto 19, 3) := by decide +kernel
theorem dL_sellBlend_17 : decode cL_sellBlend 17 = .ok (.astore 6, 2) := by decide +kernel
theorem dL_sellBlend_19 : decode cL_sellBlend 19 = .ok (.iconst 1, 1) := by decide +kernel
theorem dL_sellBlend_20 : decode cL_sellBlend 20 = .ok (.ireturn, 1) := by decide +kernel
theorem dL_sellBlend_21 : decode cL_sellBlend 21 = .ok (.astore 6, 2) := by decide +kernel
theorem dL_sellBlend_23 : decode cL_sellBlend 23 = .ok (.iconst 2, 1) := by decide +kernel
theorem dL_sellBlend_24 : decode cL_sellBlend 24 = .ok (.ireturn, 1) := by decide +kernel
theorem dL_sellBlend_25 : decode cL_sellBlend 25 = .ok (.astore 6, 2) := by decide +kernel
theorem dL_sellBlend_27 : decode cL_sellBlend 27 = .ok (.iconst 3, 1) := by decide +kernel
theorem dL_sellBlend_28 : decode cL_sellBlend 28 = .ok (.ireturn, 1) := by decide +kernel
theorem dL_sellBlend_29 : decode cL_sellBlend 29 = .ok (.astore 6, 2) := by decide +kernel
theorem dL_sellBlend_31 : decode cL_sellBlend 31 = .ok (.iconst 4, 1) := by decide +kernel
theorem dL_sellBlend_32 : decode cL_sellBlend 32 = .ok (.ireturn, 1) := by decide +kernel
theorem dL_sellBlend_33 : decode cL_sellBlend 33 = .ok (.iconst 0, 1) := by decide +kernel
theorem dL_sellBlend_34 : decode cL_sellBlend 34 = .ok (.ireturn, 1) := by decide +kernel
theorem dL_setFutures_0 : decode cL_setFutures 0 = .ok (.aload_n 2, 1) := by decide +kernel
theorem dL_setFutures_1 : decode cL_setFutures 1 = .ok (.iconst 0, 1) := by decide +kernel
theorem dL_setFutures_2 : decode cL_setFutures 2 = .ok (.aload_n 0, 1) := by decide +kernel
theorem dL_setFutures_3 : decode cL_setFutures 3 = .ok (.iload_n 1, 1) := by decide +kernel
theorem dL_setFutures_4 : decode cL_setFutures 4 = .ok (.invokevirtual 101, 3) := by decide +kernel
theorem dL_setFutures_7 : decode cL_setFutures 7 = .ok (.i2l, 1) := by decide +kernel
theorem dL_setFutures_8 : decode cL_setFutures 8 = .ok (.lastore, 1) := by decide +kernel
theorem dL_setFutures_9 : decode cL_setFutures 9 = .ok (.goto 6, 3) := by decide +kernel
theorem dL_setFutures_12 : decode cL_setFutures 12 = .ok (.astore_n 3, 1) := by decide +kernel
theorem dL_setFutures_13 : decode cL_setFutures 13 = .ok (.iconst 1, 1) := by decide +kernel
theorem dL_setFutures_14 : decode cL_setFutures 14 = .ok (.ireturn, 1) := by decide +kernel
theorem dL_setFutures_15 : decode cL_setFutures 15 = .ok (.iconst 0, 1) := by decide +kernel
theorem dL_setFutures_16 : decode cL_setFutures 16 = .ok (.ireturn, 1) := by decide +kernel
theorem dL_tradeAt_0 : decode cL_tradeAt 0 = .ok (.aload_n 2, 1) := by decide +kernel
theorem dL_tradeAt_1 : decode cL_tradeAt 1 = .ok (.iconst 0, 1) := by decide +kernel
theorem dL_tradeAt_2 : decode cL_tradeAt 2 = .ok (.aload_n 0, 1) := by decide +kernel
theorem dL_tradeAt_3 : decode cL_tradeAt 3 = .ok (.iload_n 1, 1) := by decide +kernel
theorem dL_tradeAt_4 : decode cL_tradeAt 4 = .ok (.invokevirtual 104, 3) := by decide +kernel
theorem dL_tradeAt_7 : decode cL_tradeAt 7 = .ok (.i2l, 1) := by decide +kernel
theorem dL_tradeAt_8 : decode cL_tradeAt 8 = .ok (.lastore, 1) := by decide +kernel
theorem dL_tradeAt_9 : decode cL_tradeAt 9 = .ok (.goto 6, 3) := by decide +kernel
theorem dL_tradeAt_12 : decode cL_tradeAt 12 = .ok (.astore_n 3, 1) := by decide +kernel
theorem dL_tradeAt_13 : decode cL_tradeAt 13 = .ok (.iconst 1, 1) := by decide +kernel
theorem dL_tradeAt_14 : decode cL_tradeAt 14 = .ok (.ireturn, 1) := by decide +kernel
theorem dL_tradeAt_15 : decode cL_tradeAt 15 = .ok (.iconst 0, 1) := by decide +kernel
theorem dL_tradeAt_16 : decode cL_tradeAt 16 = .ok (.ireturn, 1) := by decide +kernel
theorem dL_eventKind_0 : decode cL_eventKind 0 = .ok (.aload_n 2, 1) := by decide +kernel
theorem dL_eventKind_1 : decode cL_eventKind 1 = .ok (.iconst 0, 1) := by decide +kernel
theorem dL_eventKind_2 : decode cL_eventKind 2 = .ok (.aload_n 0, 1) := by decide +kernel
theorem dL_eventKind_3 : decode cL_eventKind 3 = .ok (.iload_n 1, 1) := by decide +kernel
theorem dL_eventKind_4 : decode cL_eventKind 4 = .ok (.invokevirtual 107, 3) := by decide +kernel
theorem dL_eventKind_7 : decode cL_eventKind 7 = .ok (.i2l, 1) := by decide +kernel
theorem dL_eventKind_8 : decode cL_eventKind 8 = .ok (.lastore, 1) := by decide +kernel
theorem dL_eventKind_9 : decode cL_eventKind 9 = .ok (.goto 6, 3) := by decide +kernel
theorem dL_eventKind_12 : decode cL_eventKind 12 = .ok (.astore_n 3, 1) := by decide +kernel
theorem dL_eventKind_13 : decode cL_eventKind 13 = .ok (.iconst 1, 1) := by decide +kernel
theorem dL_eventKind_14 : decode cL_eventKind 14 = .ok (.ireturn, 1) := by decide +kernel
theorem dL_eventKind_15 : decode cL_eventKind 15 = .ok (.iconst 0, 1) := by decide +kernel
theorem dL_eventKind_16 : decode cL_eventKind 16 = .ok (.ireturn, 1) := by decide +kernel
theorem dL_writeBin_0 : decode cL_writeBin 0 = .ok (.aload_n 2, 1) := by decide +kernel
theorem dL_writeBin_1 : decode cL_writeBin 1 = .ok (.iconst 0, 1) := by decide +kernel
theorem dL_writeBin_2 : decode cL_writeBin 2 = .ok (.aload_n 0, 1) := by decide +kernel
theorem dL_writeBin_3 : decode cL_writeBin 3 = .ok (.iload_n 1, 1) := by decide +kernel
theorem dL_writeBin_4 : decode cL_writeBin 4 = .ok (.invokevirtual 111, 3) := by decide +kernel
theorem dL_writeBin_7 : decode cL_writeBin 7 = .ok (.i2l, 1) := by decide +kernel
theorem dL_writeBin_8 : decode cL_writeBin 8 = .ok (.lastore, 1) := by decide +kernel
theorem dL_writeBin_9 : decode cL_writeBin 9 = .ok (.goto 6, 3) := by decide +kernel
theorem dL_writeBin_12 : decode cL_writeBin 12 = .ok (.astore_n 3, 1) := by decide +kernel
theorem dL_writeBin_13 : decode cL_writeBin 13 = .ok (.iconst 1, 1) := by decide +kernel
theorem dL_writeBin_14 : decode cL_writeBin 14 = .ok (.ireturn, 1) := by decide +kernel
theorem dL_writeBin_15 : decode cL_writeBin 15 = .ok (.iconst 0, 1) := by decide +kernel
theorem dL_writeBin_16 : decode cL_writeBin 16 = .ok (.ireturn, 1) := by decide +kernel
theorem dL_lineAt_0 : decode cL_lineAt 0 = .ok (.aload_n 2, 1) := by decide +kernel
theorem dL_lineAt_1 : decode cL_lineAt 1 = .ok (.iconst 0, 1) := by decide +kernel
theorem dL_lineAt_2 : decode cL_lineAt 2 = .ok (.aload_n 0, 1) := by decide +kernel
theorem dL_lineAt_3 : decode cL_lineAt 3 = .ok (.iload_n 1, 1) := by decide +kernel
theorem dL_lineAt_4 : decode cL_lineAt 4 = .ok (.invokevirtual 114, 3) := by decide +kernel
theorem dL_lineAt_7 : decode cL_lineAt 7 = .ok (.i2l, 1) := by decide +kernel
theorem dL_lineAt_8 : decode cL_lineAt 8 = .ok (.lastore, 1) := by decide +kernel
theorem dL_lineAt_9 : decode cL_lineAt 9 = .ok (.goto 6, 3) := by decide +kernel
theorem dL_lineAt_12 : decode cL_lineAt 12 = .ok (.astore_n 3, 1) := by decide +kernel
theorem dL_lineAt_13 : decode cL_lineAt 13 = .ok (.iconst 1, 1) := by decide +kernel
theorem dL_lineAt_14 : decode cL_lineAt 14 = .ok (.ireturn, 1) := by decide +kernel
theorem dL_lineAt_15 : decode cL_lineAt 15 = .ok (.iconst 0, 1) := by decide +kernel
theorem dL_lineAt_16 : decode cL_lineAt 16 = .ok (.ireturn, 1) := by decide +kernel
theorem dL_law_0 : decode cL_law 0 = .ok (.new 8, 3) := by decide +kernel
theorem dL_law_3 : decode cL_law 3 = .ok (.dup, 1) := by decide +kernel
theorem dL_law_4 : decode cL_law 4 = .ok (.invokespecial 117, 3) := by decide +kernel
theorem dL_law_7 : decode cL_law 7 = .ok (.astore_n 1, 1) := by decide +kernel
theorem dL_law_8 : decode cL_law 8 = .ok (.new 118, 3) := by decide +kernel
theorem dL_law_11 : decode cL_law 11 = .ok (.dup, 1) := by decide +kernel
theorem dL_law_12 : decode cL_law 12 = .ok (.invokespecial 120, 3) := by decide +kernel
theorem dL_law_15 : decode cL_law 15 = .ok (.astore_n 2, 1) := by decide +kernel
theorem dL_law_16 : decode cL_law 16 = .ok (.iconst 1, 1) := by decide +kernel
theorem dL_law_17 : decode cL_law 17 = .ok (.newarray .long, 2) := by decide +kernel
theorem dL_law_19 : decode cL_law 19 = .ok (.astore_n 3, 1) := by decide +kernel
theorem dL_law_20 : decode cL_law 20 = .ok (.iconst 1, 1) := by decide +kernel
theorem dL_law_21 : decode cL_law 21 = .ok (.newarray .double, 2) := by decide +kernel
theorem dL_law_23 : decode cL_law 23 = .ok (.astore 4, 2) := by decide +kernel
theorem dL_law_25 : decode cL_law 25 = .ok (.iconst 0, 1) := by decide +kernel
theorem dL_law_26 : decode cL_law 26 = .ok (.istore 5, 2) := by decide +kernel
theorem dL_law_28 : decode cL_law 28 = .ok (.iload 5, 2) := by decide +kernel
theorem dL_law_30 : decode cL_law 30 = .ok (.aload_n 0, 1) := by decide +kernel
theorem dL_law_31 : decode cL_law 31 = .ok (.arraylength, 1) := by decide +kernel
theorem dL_law_32 : decode cL_law 32 = .ok (.iconst 5, 1) := by decide +kernel
theorem dL_law_33 : decode cL_law 33 = .ok (.isub, 1) := by decide +kernel
theorem dL_law_34 : decode cL_law 34 = .ok (.if_icmp .gt 2419, 3) := by decide +kernel
theorem dL_law_37 : decode cL_law 37 = .ok (.aload_n 0, 1) := by decide +kernel
theorem dL_law_38 : decode cL_law 38 = .ok (.iload 5, 2) := by decide +kernel
theorem dL_law_40 : decode cL_law 40 = .ok (.iaload, 1) := by decide +kernel
theorem dL_law_41 : decode cL_law 41 = .ok (.bipush 63, 2) := by decide +kernel
theorem dL_law_43 : decode cL_law 43 = .ok (.iand, 1) := by decide +kernel
theorem dL_law_44 : decode cL_law 44 = .ok (.tableswitch 2403 0 38 #[172, 256, 269, 325, 417, 473, 541, 609, 665, 757, 825, 905, 973, 1041, 1097, 1153, 1221, 1289, 1357, 1425, 1493, 1570, 1648, 1740, 1832, 1924, 2016, 2072, 2085, 2098, 2111, 2167, 2181, 2195, 2209, 2222, 2278, 2291, 2347], 172) := by decide +kernel
theorem dL_law_216 : decode cL_law 216 = .ok (.aload_n 1, 1) := by decide +kernel
theorem dL_law_217 : decode cL_law 217 = .ok (.aload_n 0, 1) := by decide +kernel
theorem dL_law_218 : decode cL_law 218 = .ok (.iload 5, 2) := by decide +kernel
theorem dL_law_220 : decode cL_law 220 = .ok (.iconst 1, 1) := by decide +kernel
theorem dL_law_221 : decode cL_law 221 = .ok (.iadd, 1) := by decide +kernel
theorem dL_law_222 : decode cL_law 222 = .ok (.iaload, 1) := by decide +kernel
theorem dL_law_223 : decode cL_law 223 = .ok (.aload_n 0, 1) := by decide +kernel
theorem dL_law_224 : decode cL_law 224 = .ok (.iload 5, 2) := by decide +kernel
theorem dL_law_226 : decode cL_law 226 = .ok (.iconst 2, 1) := by decide +kernel
theorem dL_law_227 : decode cL_law 227 = .ok (.iadd, 1) := by decide +kernel
theorem dL_law_228 : decode cL_law 228 = .ok (.iaload, 1) := by decide +kernel
theorem dL_law_229 : decode cL_law 229 = .ok (.ifCond .eq 7, 3) := by decide +kernel
theorem dL_law_232 : decode cL_law 232 = .ok (.iconst 1, 1) := by decide +kernel
theorem dL_law_233 : decode cL_law 233 = .ok (.goto 4, 3) := by decide +kernel
theorem dL_law_236 : decode cL_law 236 = .ok (.iconst 0, 1) := by decide +kernel
theorem dL_law_237 : decode cL_law 237 = .ok (.aload_n 3, 1) := by decide +kernel
theorem dL_law_238 : decode cL_law 238 = .ok (.invokestatic 121, 3) := by decide +kernel
theorem dL_law_241 : decode cL_law 241 = .ok (.istore 6, 2) := by decide +kernel
theorem dL_law_243 : decode cL_law 243 = .ok (.aload_n 2, 1) := by decide +kernel
theorem dL_law_244 : decode cL_law 244 = .ok (.aload_n 0, 1) := by decide +kernel
theorem dL_law_245 : decode cL_law 245 = .ok (.iload 5, 2) := by decide +kernel
theorem dL_law_247 : decode cL_law 247 = .ok (.iconst 1, 1) := by decide +kernel
theorem dL_law_248 : decode cL_law 248 = .ok (.iadd, 1) := by decide +kernel
theorem dL_law_249 : decode cL_law 249 = .ok (.iaload, 1) := by decide +kernel
theorem dL_law_250 : decode cL_law 250 = .ok (.aload_n 0, 1) := by decide +kernel
theorem dL_law_251 : decode cL_law 251 = .ok (.iload 5, 2) := by decide +kernel
theorem dL_law_253 : decode cL_law 253 = .ok (.iconst 2, 1) := by decide +kernel
theorem dL_law_254 : decode cL_law 254 = .ok (.iadd, 1) := by decide +kernel
theorem dL_law_255 : decode cL_law 255 = .ok (.iaload, 1) := by decide +kernel
theorem dL_law_256 : decode cL_law 256 = .ok (.ifCond .eq 7, 3) := by decide +kernel
theorem dL_law_259 : decode cL_law 259 = .ok (.iconst 1, 1) := by decide +kernel
theorem dL_law_260 : decode cL_law 260 = .ok (.goto 4, 3) := by decide +kernel
theorem dL_law_263 : decode cL_law 263 = .ok (.iconst 0, 1) := by decide +kernel
theorem dL_law_264 : decode cL_law 264 = .ok (.invokevirtual 126, 3) := by decide +kernel
theorem dL_law_267 : decode cL_law 267 = .ok (.istore 7, 2) := by decide +kernel
theorem dL_law_269 : decode cL_law 269 = .ok (.aload_n 2, 1) := by decide +kernel
theorem dL_law_270 : decode cL_law 270 = .ok (.invokevirtual 127, 3) := by decide +kernel
theorem dL_law_273 : decode cL_law 273 = .ok (.iload 6, 2) := by decide +kernel
theorem dL_law_275 : decode cL_law 275 = .ok (.if_icmp .eq 5, 3) := by decide +kernel
theorem dL_law_278 : decode cL_law 278 = .ok (.iconst 0, 1) := by decide +kernel
theorem dL_law_279 : decode cL_law 279 = .ok (.ireturn, 1) := by decide +kernel
theorem dL_law_280 : decode cL_law 280 = .ok (.iload 6, 2) := by decide +kernel
theorem dL_law_282 : decode cL_law 282 = .ok (.ifCond .ne 15, 3) := by decide +kernel
theorem dL_law_285 : decode cL_law 285 = .ok (.aload_n 3, 1) := by decide +kernel
theorem dL_law_286 : decode cL_law 286 = .ok (.iconst 0, 1) := by decide +kernel
theorem dL_law_287 : decode cL_law 287 = .ok (.laload, 1) := by decide +kernel
theorem dL_law_288 : decode cL_law 288 = .ok (.iload 7, 2) := by decide +kernel
theorem dL_law_290 : decode cL_law 290 = .ok (.i2l, 1) := by decide +kernel
theorem dL_law_291 : decode cL_law 291 = .ok (.lcmp, 1) := by decide +kernel
theorem dL_law_292 : decode cL_law 292 = .ok (.ifCond .eq 5, 3) := by decide +kernel
theorem dL_law_295 : decode cL_law 295 = .ok (.iconst 0, 1) := by decide +kernel
theorem dL_law_296 : decode cL_law 296 = .ok (.ireturn, 1) := by decide +kernel
theorem dL_law_297 : decode cL_law 297 = .ok (.goto 2150, 3) := by decide +kernel
theorem dL_law_300 : decode cL_law 300 = .ok (.aload_n 1, 1) := by decide +kernel
theorem dL_law_301 : decode cL_law 301 = .ok (.invokevirtual 131, 3) := by decide +kernel
theorem dL_law_304 : decode cL_law 304 = .ok (.aload_n 2, 1) := by decide +kernel
theorem dL_law_305 : decode cL_law 305 = .ok (.invokevirtual 134, 3) := by decide +kernel
theorem dL_law_308 : decode cL_law 308 = .ok (.if_icmp .eq 2139, 3) := by decide +kernel
theorem dL_law_311 : decode cL_law 311 = .ok (.iconst 0, 1) := by decide +kernel
theorem dL_law_312 : decode cL_law 312 = .ok (.ireturn, 1) := by decide +kernel
theorem dL_law_313 : decode cL_law 313 = .ok (.aload_n 1, 1) := by decide +kernel
theorem dL_law_314 : decode cL_law 314 = .ok (.aload_n 0, 1) := by decide +kernel
theorem dL_law_315 : decode cL_law 315 = .ok (.iload 5, 2) := by decide +kernel
theorem dL_law_317 : decode cL_law 317 = .ok (.iconst 1, 1) := by decide +kernel
theorem dL_law_318 : decode cL_law 318 = .ok (.iadd, 1) := by decide +kernel
theorem dL_law_319 : decode cL_law 319 = .ok (.iaload, 1) := by decide +kernel
theorem dL_law_320 : decode cL_law 320 = .ok (.aload_n 3, 1) := by decide +kernel
theorem dL_law_321 : decode cL_law 321 = .ok (.invokestatic 135, 3) := by decide +kernel
theorem dL_law_324 : decode cL_law 324 = .ok (.istore 6, 2) := by decide +kernel
theorem dL_law_326 : decode cL_law 326 = .ok (.aload_n 2, 1) := by decide +kernel
theorem dL_law_327 : decode cL_law 327 = .ok (.aload_n 0, 1) := by decide +kernel
theorem dL_law_328 : decode cL_law 328 = .ok (.iload 5, 2) := by decide +kernel
theorem dL_law_330 : decode cL_law 330 = .ok (.iconst 1, 1) := by decide +kernel
theorem dL_law_331 : decode cL_law 331 = .ok (.iadd, 1) := by decide +kernel
theorem dL_law_332 : decode cL_law 332 = .ok (.iaload, 1) := by decide +kernel
theorem dL_law_333 : decode cL_law 333 = .ok (.invokevirtual 138, 3) := by decide +kernel
theorem dL_law_336 : decode cL_law 336 = .ok (.istore 7, 2) := by decide +kernel
theorem dL_law_338 : decode cL_law 338 = .ok (.aload_n 2, 1) := by decide +kernel
theorem dL_law_339 : decode cL_law 339 = .ok (.invokevirtual 127, 3) := by decide +kernel
theorem dL_law_342 : decode cL_law 342 = .ok (.iload 6, 2) := by decide +kernel
theorem dL_law_344 : decode cL_law 344 = .ok (.if_icmp .eq 5, 3) := by decide +kernel
theorem dL_law_347 : decode cL_law 347 = .ok (.iconst 0, 1) := by decide +kernel
theorem dL_law_348 : decode cL_law 348 = .ok (.ireturn, 1) := by decide +kernel
theorem dL_law_349 : decode cL_law 349 = .ok (.iload 6, 2) := by decide +kernel
theorem dL_law_351 : decode cL_law 351 = .ok (.ifCond .ne 15, 3) := by decide +kernel
theorem dL_law_354 : decode cL_law 354 = .ok (.aload_n 3, 1) := by decide +kernel
theorem dL_law_355 : decode cL_law 355 = .ok (.iconst 0, 1) := by decide +kernel
theorem dL_law_356 : decode cL_law 356 = .ok (.laload, 1) := by decide +kernel
theorem dL_law_357 : decode cL_law 357 = .ok (.iload 7, 2) := by decide +kernel
theorem dL_law_359 : decode cL_law 359 = .ok (.i2l, 1) := by decide +kernel
theorem dL_law_360 : decode cL_law 360 = .ok (.lcmp, 1) := by decide +kernel
theorem dL_law_361 : decode cL_law 361 = .ok (.ifCond .eq 5, 3) := by decide +kernel
theorem dL_law_364 : decode cL_law 364 = .ok (.iconst 0, 1) := by decide +kernel
theorem dL_law_365 : decode cL_law 365 = .ok (.ireturn, 1) := by decide +kernel
theorem dL_law_366 : decode cL_law 366 = .ok (.goto 2081, 3) := by decide +kernel
theorem dL_law_369 : decode cL_law 369 = .ok (.aload_n 1, 1) := by decide +kernel
theorem dL_law_370 : decode cL_law 370 = .ok (.aload_n 0, 1) := by decide +kernel
theorem dL_law_371 : decode cL_law 371 = .ok (.iload 5, 2) := by decide +kernel
theorem dL_law_373 : decode cL_law 373 = .ok (.iconst 1, 1) := by decide +kernel
theorem dL_law_374 : decode cL_law 374 = .ok (.iadd, 1) := by decide +kernel
theorem dL_law_375 : decode cL_law 375 = .ok (.iaload, 1) := by decide +kernel
theorem dL_law_376 : decode cL_law 376 = .ok (.aload_n 0, 1) := by decide +kernel
theorem dL_law_377 : decode cL_law 377 = .ok (.iload 5, 2) := by decide +kernel
theorem dL_law_379 : decode cL_law 379 = .ok (.iconst 2, 1) := by decide +kernel
theorem dL_law_380 : decode cL_law 380 = .ok (.iadd, 1) := by decide +kernel
theorem dL_law_381 : decode cL_law 381 = .ok (.iaload, 1) := by decide +kernel
theorem dL_law_382 : decode cL_law 382 = .ok (.aload_n 0, 1) := by decide +kernel
theorem dL_law_383 : decode cL_law 383 = .ok (.iload 5, 2) := by decide +kernel
theorem dL_law_385 : decode cL_law 385 = .ok (.iconst 3, 1) := by decide +kernel
theorem dL_law_386 : decode cL_law 386 = .ok (.iadd, 1) := by decide +kernel
theorem dL_law_387 : decode cL_law 387 = .ok (.iaload, 1) := by decide +kernel
theorem dL_law_388 : decode cL_law 388 = .ok (.aload_n 0, 1) := by decide +kernel
theorem dL_law_389 : decode cL_law 389 = .ok (.iload 5, 2) := by decide +kernel
theorem dL_law_391 : decode cL_law 391 = .ok (.iconst 4, 1) := by decide +kernel
theorem dL_law_392 : decode cL_law 392 = .ok (.iadd, 1) := by decide +kernel
theorem dL_law_393 : decode cL_law 393 = .ok (.iaload, 1) := by decide +kernel
theorem dL_law_394 : decode cL_law 394 = .ok (.aload_n 3, 1) := by decide +kernel
theorem dL_law_395 : decode cL_law 395 = .ok (.invokestatic 139, 3) := by decide +kernel
theorem dL_law_398 : decode cL_law 398 = .ok (.istore 6, 2) := by decide +kernel
theorem dL_law_400 : decode cL_law 400 = .ok (.aload_n 2, 1) := by decide +kernel
theorem dL_law_401 : decode cL_law 401 = .ok (.aload_n 0, 1) := by decide +kernel
theorem dL_law_402 : decode cL_law 402 = .ok (.iload 5, 2) := by decide +kernel
theorem dL_law_404 : decode cL_law 404 = .ok (.iconst 1, 1) := by decide +kernel
theorem dL_law_405 : decode cL_law 405 = .ok (.iadd, 1) := by decide +kernel
theorem dL_law_406 : decode cL_law 406 = .ok (.iaload, 1) := by decide +kernel
theorem dL_law_407 : decode cL_law 407 = .ok (.aload_n 0, 1) := by decide +kernel
theorem dL_law_408 : decode cL_law 408 = .ok (.iload 5, 2) := by decide +kernel
theorem dL_law_410 : decode cL_law 410 = .ok (.iconst 2, 1) := by decide +kernel
theorem dL_law_411 : decode cL_law 411 = .ok (.iadd, 1) := by decide +kernel
theorem dL_law_412 : decode cL_law 412 = .ok (.iaload, 1) := by decide +kernel
theorem dL_law_413 : decode cL_law 413 = .ok (.aload_n 0, 1) := by decide +kernel
theorem dL_law_414 : decode cL_law 414 = .ok (.iload 5, 2) := by decide +kernel
theorem dL_law_416 : decode cL_law 416 = .ok (.iconst 3, 1) := by decide +kernel
theorem dL_law_417 : decode cL_law 417 = .ok (.iadd, 1) := by decide +kernel
theorem dL_law_418 : decode cL_law 418 = .ok (.iaload, 1) := by decide +kernel
theorem dL_law_419 : decode cL_law 419 = .ok (.aload_n 0, 1) := by decide +kernel
theorem dL_law_420 : decode cL_law 420 = .ok (.iload 5, 2) := by decide +kernel
theorem dL_law_422 : decode cL_law 422 = .ok (.iconst 4, 1) := by decide +kernel
theorem dL_law_423 : decode cL_law 423 = .ok (.iadd, 1) := by decide +kernel
theorem dL_law_424 : decode cL_law 424 = .ok (.iaload, 1) := by decide +kernel
theorem dL_law_425 : decode cL_law 425 = .ok (.invokevirtual 142, 3) := by decide +kernel
theorem dL_law_428 : decode cL_law 428 = .ok (.istore 7, 2) := by decide +kernel
theorem dL_law_430 : decode cL_law 430 = .ok (.aload_n 2, 1) := by decide +kernel
theorem dL_law_431 : decode cL_law 431 = .ok (.invokevirtual 127, 3) := by decide +kernel
theorem dL_law_434 : decode cL_law 434 = .ok (.iload 6, 2) := by decide +kernel
theorem dL_law_436 : decode cL_law 436 = .ok (.if_icmp .eq 5, 3) := by decide +kernel
theorem dL_law_439 : decode cL_law 439 = .ok (.iconst 0, 1) := by decide +kernel
theorem dL_law_440 : decode cL_law 440 = .ok (.ireturn, 1) := by decide +kernel
theorem dL_law_441 : decode cL_law 441 = .ok (.iload 6, 2) := by decide +kernel
theorem dL_law_443 : decode cL_law 443 = .ok (.ifCond .ne 15, 3) := by decide +kernel
theorem dL_law_446 : decode cL_law 446 = .ok (.aload_n 3, 1) := by decide +kernel
theorem dL_law_447 : decode cL_law 447 = .ok (.iconst 0, 1) := by decide +kernel
theorem dL_law_448 : decode cL_law 448 = .ok (.laload, 1) := by decide +kernel
theorem dL_law_449 : decode cL_law 449 = .ok (.iload 7, 2) := by decide +kernel
theorem dL_law_451 : decode cL_law 451 = .ok (.i2l, 1) := by decide +kernel
theorem dL_law_452 : decode cL_law 452 = .ok (.lcmp, 1) := by decide +kernel
theorem dL_law_453 : decode cL_law 453 = .ok (.ifCond .eq 5, 3) := by decide +kernel
theorem dL_law_456 : decode cL_law 456 = .ok (.iconst 0, 1) := by decide +kernel
theorem dL_law_457 : decode cL_law 457 = .ok (.ireturn, 1) := by decide +kernel
theorem dL_law_458 : decode cL_law 458 = .ok (.goto 1989, 3) := by decide +kernel
theorem dL_law_461 : decode cL_law 461 = .ok (.aload_n 1, 1) := by decide +kernel
theorem dL_law_462 : decode cL_law 462 = .ok (.aload_n 0, 1) := by decide +kernel
theorem dL_law_463 : decode cL_law 463 = .ok (.iload 5, 2) := by decide +kernel
theorem dL_law_465 : decode cL_law 465 = .ok (.iconst 1, 1) := by decide +kernel
theorem dL_law_466 : decode cL_law 466 = .ok (.iadd, 1) := by decide +kernel
theorem dL_law_467 : decode cL_law 467 = .ok (.iaload, 1) := by decide +kernel
theorem dL_law_468 : decode cL_law 468 = .ok (.aload_n 3, 1) := by decide +kernel
theorem dL_law_469 : decode cL_law 469 = .ok (.invokestatic 143, 3) := by decide +kernel
theorem dL_law_472 : decode cL_law 472 = .ok (.istore 6, 2) := by decide +kernel
theorem dL_law_474 : decode cL_law 474 = .ok (.aload_n 2, 1) := by decide +kernel
theorem dL_law_475 : decode cL_law 475 = .ok (.aload_n 0, 1) := by decide +kernel
theorem dL_law_476 : decode cL_law 476 = .ok (.iload 5, 2) := by decide +kernel
theorem dL_law_478 : decode cL_law 478 = .ok (.iconst 1, 1) := by decide +kernel
theorem dL_law_479 : decode cL_law 479 = .ok (.iadd, 1) := by decide +kernel
theorem dL_law_480 : decode cL_law 480 = .ok (.iaload, 1) := by decide +kernel
theorem dL_law_481 : decode cL_law 481 = .ok (.invokevirtual 145, 3) := by decide +kernel
theorem dL_law_484 : decode cL_law 484 = .ok (.istore 7, 2) := by decide +kernel
theorem dL_law_486 : decode cL_law 486 = .ok (.aload_n 2, 1) := by decide +kernel
theorem dL_law_487 : decode cL_law 487 = .ok (.invokevirtual 127, 3) := by decide +kernel
theorem dL_law_490 : decode cL_law 490 = .ok (.iload 6, 2) := by decide +kernel
theorem dL_law_492 : decode cL_law 492 = .ok (.if_icmp .eq 5, 3) := by decide +kernel
theorem dL_law_495 : decode cL_law 495 = .ok (.iconst 0, 1) := by decide +kernel
theorem dL_law_496 : decode cL_law 496 = .ok (.ireturn, 1) := by decide +kernel
theorem dL_law_497 : decode cL_law 497 = .ok (.iload 6, 2) := by decide +kernel
theorem dL_law_499 : decode cL_law 499 = .ok (.ifCond .ne 15, 3) := by decide +kernel
theorem dL_law_502 : decode cL_law 502 = .ok (.aload_n 3, 1) := by decide +kernel
theorem dL_law_503 : decode cL_law 503 = .ok (.iconst 0, 1) := by decide +kernel
theorem dL_law_504 : decode cL_law 504 = .ok (.laload, 1) := by decide +kernel
theorem dL_law_505 : decode cL_law 505 = .ok (.iload 7, 2) := by decide +kernel
theorem dL_law_507 : decode cL_law 507 = .ok (.i2l, 1) := by decide +kernel
theorem dL_law_508 : decode cL_law 508 = .ok (.lcmp, 1) := by decide +kernel
theorem dL_law_509 : decode cL_law 509 = .ok (.ifCond .eq 5, 3) := by decide +kernel
theorem dL_law_512 : decode cL_law 512 = .ok (.iconst 0, 1) := by decide +kernel
theorem dL_law_513 : decode cL_law 513 = .ok (.ireturn, 1) := by decide +kernel
theorem dL_law_514 : decode cL_law 514 = .ok (.goto 1933, 3) := by decide +kernel
theorem dL_law_517 : decode cL_law 517 = .ok (.aload_n 1, 1) := by decide +kernel
theorem dL_law_518 : decode cL_law 518 = .ok (.aload_n 0, 1) := by decide +kernel
theorem dL_law_519 : decode cL_law 519 = .ok (.iload 5, 2) := by decide +kernel
theorem dL_law_521 : decode cL_law 521 = .ok (.iconst 1, 1) := by decide +kernel
theorem dL_law_522 : decode cL_law 522 = .ok (.iadd, 1) := by decide +kernel
theorem dL_law_523 : decode cL_law 523 = .ok (.iaload, 1) := by decide +kernel
theorem dL_law_524 : decode cL_law 524 = .ok (.aload_n 0, 1) := by decide +kernel
theorem dL_law_525 : decode cL_law 525 = .ok (.iload 5, 2) := by decide +kernel
theorem dL_law_527 : decode cL_law 527 = .ok (.iconst 2, 1) := by decide +kernel
theorem dL_law_528 : decode cL_law 528 = .ok (.iadd, 1) := by decide +kernel
theorem dL_law_529 : decode cL_law 529 = .ok (.iaload, 1) := by decide +kernel
theorem dL_law_530 : decode cL_law 530 = .ok (.aload_n 3, 1) := by decide +kernel
theorem dL_law_531 : decode cL_law 531 = .ok (.invokestatic 146, 3) := by decide +kernel
theorem dL_law_534 : decode cL_law 534 = .ok (.istore 6, 2) := by decide +kernel
theorem dL_law_536 : decode cL_law 536 = .ok (.aload_n 2, 1) := by decide +kernel
theorem dL_law_537 : decode cL_law 537 = .ok (.aload_n 0, 1) := by decide +kernel
theorem dL_law_538 : decode cL_law 538 = .ok (.iload 5, 2) := by decide +kernel
theorem dL_law_540 : decode cL_law 540 = .ok (.iconst 1, 1) := by decide +kernel
theorem dL_law_541 : decode cL_law 541 = .ok (.iadd, 1) := by decide +kernel
theorem dL_law_542 : decode cL_law 542 = .ok (.iaload, 1) := by decide +kernel
theorem dL_law_543 : decode cL_law 543 = .ok (.aload_n 0, 1) := by decide +kernel
theorem dL_law_544 : decode cL_law 544 = .ok (.iload 5, 2) := by decide +kernel
theorem dL_law_546 : decode cL_law 546 = .ok (.iconst 2, 1) := by decide +kernel
theorem dL_law_547 : decode cL_law 547 = .ok (.iadd, 1) := by decide +kernel
theorem dL_law_548 : decode cL_law 548 = .ok (.iaload, 1) := by decide +kernel
theorem dL_law_549 : decode cL_law 549 = .ok (.invokevirtual 149, 3) := by decide +kernel
theorem dL_law_552 : decode cL_law 552 = .ok (.istore 7, 2) := by decide +kernel
theorem dL_law_554 : decode cL_law 554 = .ok (.aload_n 2, 1) := by decide +kernel
theorem dL_law_555 : decode cL_law 555 = .ok (.invokevirtual 127, 3) := by decide +kernel
theorem dL_law_558 : decode cL_law 558 = .ok (.iload 6, 2) := by decide +kernel
theorem dL_law_560 : decode cL_law 560 = .ok (.if_icmp .eq 5, 3) := by decide +kernel
theorem dL_law_563 : decode cL_law 563 = .ok (.iconst 0, 1) := by decide +kernel
theorem dL_law_564 : decode cL_law 564 = .ok (.ireturn, 1) := by decide +kernel
theorem dL_law_565 : decode cL_law 565 = .ok (.iload 6, 2) := by decide +kernel
theorem dL_law_567 : decode cL_law 567 = .ok (.ifCond .ne 15, 3) := by decide +kernel
theorem dL_law_570 : decode cL_law 570 = .ok (.aload_n 3, 1) := by decide +kernel
theorem dL_law_571 : decode cL_law 571 = .ok (.iconst 0, 1) := by decide +kernel
theorem dL_law_572 : decode cL_law 572 = .ok (.laload, 1) := by decide +kernel
theorem dL_law_573 : decode cL_law 573 = .ok (.iload 7, 2) := by decide +kernel
theorem dL_law_575 : decode cL_law 575 = .ok (.i2l, 1) := by decide +kernel
theorem dL_law_576 : decode cL_law 576 = .ok (.lcmp, 1) := by decide +kernel
theorem dL_law_577 : decode cL_law 577 = .ok (.ifCond .eq 5, 3) := by decide +kernel
theorem dL_law_580 : decode cL_law 580 = .ok (.iconst 0, 1) := by decide +kernel
theorem dL_law_581 : decode cL_law 581 = .ok (.ireturn, 1) := by decide +kernel
theorem dL_law_582 : decode cL_law 582 = .ok (.goto 1865, 3) := by decide +kernel
theorem dL_law_585 : decode cL_law 585 = .ok (.aload_n 1, 1) := by decide +kernel
theorem dL_law_586 : decode cL_law 586 = .ok (.aload_n 0, 1) := by decide +kernel
theorem dL_law_587 : decode cL_law 587 = .ok (.iload 5, 2) := by decide +kernel
theorem dL_law_589 : decode cL_law 589 = .ok (.iconst 1, 1) := by decide +kernel
theorem dL_law_590 : decode cL_law 590 = .ok (.iadd, 1) := by decide +kernel
theorem dL_law_591 : decode cL_law 591 = .ok (.iaload, 1) := by decide +kernel
theorem dL_law_592 : decode cL_law 592 = .ok (.aload_n 0, 1) := by decide +kernel
theorem dL_law_593 : decode cL_law 593 = .ok (.iload 5, 2) := by decide +kernel
theorem dL_law_595 : decode cL_law 595 = .ok (.iconst 2, 1) := by decide +kernel
theorem dL_law_596 : decode cL_law 596 = .ok (.iadd, 1) := by decide +kernel
theorem dL_law_597 : decode cL_law 597 = .ok (.iaload, 1) := by decide +kernel
theorem dL_law_598 : decode cL_law 598 = .ok (.aload_n 3, 1) := by decide +kernel
theorem dL_law_599 : decode cL_law 599 = .ok (.invokestatic 150, 3) := by decide +kernel
theorem dL_law_602 : decode cL_law 602 = .ok (.istore 6, 2) := by decide +kernel
theorem dL_law_604 : decode cL_law 604 = .ok (.aload_n 2, 1) := by decide +kernel
theorem dL_law_605 : decode cL_law 605 = .ok (.aload_n 0, 1) := by decide +kernel
theorem dL_law_606 : decode cL_law 606 = .ok (.iload 5, 2) := by decide +kernel
theorem dL_law_608 : decode cL_law 608 = .ok (.iconst 1, 1) := by decide +kernel
theorem dL_law_609 : decode cL_law 609 = .ok (.iadd, 1) := by decide +kernel
theorem dL_law_610 : decode cL_law 610 = .ok (.iaload, 1) := by decide +kernel
theorem dL_law_611 : decode cL_law 611 = .ok (.aload_n 0, 1) := by decide +kernel
theorem dL_law_612 : decode cL_law 612 = .ok (.iload 5, 2) := by decide +kernel
theorem dL_law_614 : decode cL_law 614 = .ok (.iconst 2, 1) := by decide +kernel
theorem dL_law_615 : decode cL_law 615 = .ok (.iadd, 1) := by decide +kernel
theorem dL_law_616 : decode cL_law 616 = .ok (.iaload, 1) := by decide +kernel
theorem dL_law_617 : decode cL_law 617 = .ok (.invokevirtual 152, 3) := by decide +kernel
theorem dL_law_620 : decode cL_law 620 = .ok (.istore 7, 2) := by decide +kernel
theorem dL_law_622 : decode cL_law 622 = .ok (.aload_n 2, 1) := by decide +kernel
theorem dL_law_623 : decode cL_law 623 = .ok (.invokevirtual 127, 3) := by decide +kernel
theorem dL_law_626 : decode cL_law 626 = .ok (.iload 6, 2) := by decide +kernel
theorem dL_law_628 : decode cL_law 628 = .ok (.if_icmp .eq 5, 3) := by decide +kernel
theorem dL_law_631 : decode cL_law 631 = .ok (.iconst 0, 1) := by decide +kernel
theorem dL_law_632 : decode cL_law 632 = .ok (.ireturn, 1) := by decide +kernel
theorem dL_law_633 : decode cL_law 633 = .ok (.iload 6, 2) := by decide +kernel
theorem dL_law_635 : decode cL_law 635 = .ok (.ifCond .ne 15, 3) := by decide +kernel
theorem dL_law_638 : decode cL_law 638 = .ok (.aload_n 3, 1) := by decide +kernel
theorem dL_law_639 : decode cL_law 639 = .ok (.iconst 0, 1) := by decide +kernel
theorem dL_law_640 : decode cL_law 640 = .ok (.laload, 1) := by decide +kernel
theorem dL_law_641 : decode cL_law 641 = .ok (.iload 7, 2) := by decide +kernel
theorem dL_law_643 : decode cL_law 643 = .ok (.i2l, 1) := by decide +kernel
theorem dL_law_644 : decode cL_law 644 = .ok (.lcmp, 1) := by decide +kernel
theorem dL_law_645 : decode cL_law 645 = .ok (.ifCond .eq 5, 3) := by decide +kernel
theorem dL_law_648 : decode cL_law 648 = .ok (.iconst 0, 1) := by decide +kernel
theorem dL_law_649 : decode cL_law 649 = .ok (.ireturn, 1) := by decide +kernel
theorem dL_law_650 : decode cL_law 650 = .ok (.goto 1797, 3) := by decide +kernel
theorem dL_law_653 : decode cL_law 653 = .ok (.aload_n 1, 1) := by decide +kernel
theorem dL_law_654 : decode cL_law 654 = .ok (.aload_n 0, 1) := by decide +kernel
theorem dL_law_655 : decode cL_law 655 = .ok (.iload 5, 2) := by decide +kernel
theorem dL_law_657 : decode cL_law 657 = .ok (.iconst 1, 1) := by decide +kernel
theorem dL_law_658 : decode cL_law 658 = .ok (.iadd, 1) := by decide +kernel
theorem dL_law_659 : decode cL_law 659 = .ok (.iaload, 1) := by decide +kernel
theorem dL_law_660 : decode cL_law 660 = .ok (.aload_n 3, 1) := by decide +kernel
theorem dL_law_661 : decode cL_law 661 = .ok (.invokestatic 153, 3) := by decide +kernel
theorem dL_law_664 : decode cL_law 664 = .ok (.istore 6, 2) := by decide +kernel
theorem dL_law_666 : decode cL_law 666 = .ok (.aload_n 2, 1) := by decide +kernel
theorem dL_law_667 : decode cL_law 667 = .ok (.aload_n 0, 1) := by decide +kernel
theorem dL_law_668 : decode cL_law 668 = .ok (.iload 5, 2) := by decide +kernel
theorem dL_law_670 : decode cL_law 670 = .ok (.iconst 1, 1) := by decide +kernel
theorem dL_law_671 : decode cL_law 671 = .ok (.iadd, 1) := by decide +kernel
theorem dL_law_672 : decode cL_law 672 = .ok (.iaload, 1) := by decide +kernel
theorem dL_law_673 : decode cL_law 673 = .ok (.invokevirtual 155, 3) := by decide +kernel
theorem dL_law_676 : decode cL_law 676 = .ok (.istore 7, 2) := by decide +kernel
theorem dL_law_678 : decode cL_law 678 = .ok (.aload_n 2, 1) := by decide +kernel
theorem dL_law_679 : decode cL_law 679 = .ok (.invokevirtual 127, 3) := by decide +kernel
theorem dL_law_682 : decode cL_law 682 = .ok (.iload 6, 2) := by decide +kernel
theorem dL_law_684 : decode cL_law 684 = .ok (.if_icmp .eq 5, 3) := by decide +kernel
theorem dL_law_687 : decode cL_law 687 = .ok (.iconst 0, 1) := by decide +kernel
theorem dL_law_688 : decode cL_law 688 = .ok (.ireturn, 1) := by decide +kernel
theorem dL_law_689 : decode cL_law 689 = .ok (.iload 6, 2) := by decide +kernel
theorem dL_law_691 : decode cL_law 691 = .ok (.ifCond .ne 15, 3) := by decide +kernel
theorem dL_law_694 : decode cL_law 694 = .ok (.aload_n 3, 1) := by decide +kernel
theorem dL_law_695 : decode cL_law 695 = .ok (.iconst 0, 1) := by decide +kernel
theorem dL_law_696 : decode cL_law 696 = .ok (.laload, 1) := by decide +kernel
theorem dL_law_697 : decode cL_law 697 = .ok (.iload 7, 2) := by decide +kernel
theorem dL_law_699 : decode cL_law 699 = .ok (.i2l, 1) := by decide +kernel
theorem dL_law_700 : decode cL_law 700 = .ok (.lcmp, 1) := by decide +kernel
theorem dL_law_701 : decode cL_law 701 = .ok (.ifCond .eq 5, 3) := by decide +kernel
theorem dL_law_704 : decode cL_law 704 = .ok (.iconst 0, 1) := by decide +kernel
theorem dL_law_705 : decode cL_law 705 = .ok (.ireturn, 1) := by decide +kernel
theorem dL_law_706 : decode cL_law 706 = .ok (.goto 1741, 3) := by decide +kernel
theorem dL_law_709 : decode cL_law 709 = .ok (.aload_n 1, 1) := by decide +kernel
theorem dL_law_710 : decode cL_law 710 = .ok (.aload_n 0, 1) := by decide +kernel
theorem dL_law_711 : decode cL_law 711 = .ok (.iload 5, 2) := by decide +kernel
theorem dL_law_713 : decode cL_law 713 = .ok (.iconst 1, 1) := by decide +kernel
theorem dL_law_714 : decode cL_law 714 = .ok (.iadd, 1) := by decide +kernel
theorem dL_law_715 : decode cL_law 715 = .ok (.iaload, 1) := by decide +kernel
theorem dL_law_716 : decode cL_law 716 = .ok (.aload_n 0, 1) := by decide +kernel
theorem dL_law_717 : decode cL_law 717 = .ok (.iload 5, 2) := by decide +kernel
theorem dL_law_719 : decode cL_law 719 = .ok (.iconst 2, 1) := by decide +kernel
theorem dL_law_720 : decode cL_law 720 = .ok (.iadd, 1) := by decide +kernel
theorem dL_law_721 : decode cL_law 721 = .ok (.iaload, 1) := by decide +kernel
theorem dL_law_722 : decode cL_law 722 = .ok (.aload_n 0, 1) := by decide +kernel
theorem dL_law_723 : decode cL_law 723 = .ok (.iload 5, 2) := by decide +kernel
theorem dL_law_725 : decode cL_law 725 = .ok (.iconst 3, 1) := by decide +kernel
theorem dL_law_726 : decode cL_law 726 = .ok (.iadd, 1) := by decide +kernel
theorem dL_law_727 : decode cL_law 727 = .ok (.iaload, 1) := by decide +kernel
theorem dL_law_728 : decode cL_law 728 = .ok (.aload_n 0, 1) := by decide +kernel
theorem dL_law_729 : decode cL_law 729 = .ok (.iload 5, 2) := by decide +kernel
theorem dL_law_731 : decode cL_law 731 = .ok (.iconst 4, 1) := by decide +kernel
theorem dL_law_732 : decode cL_law 732 = .ok (.iadd, 1) := by decide +kernel
theorem dL_law_733 : decode cL_law 733 = .ok (.iaload, 1) := by decide +kernel
theorem dL_law_734 : decode cL_law 734 = .ok (.aload_n 3, 1) := by decide +kernel
theorem dL_law_735 : decode cL_law 735 = .ok (.invokestatic 156, 3) := by decide +kernel
theorem dL_law_738 : decode cL_law 738 = .ok (.istore 6, 2) := by decide +kernel
theorem dL_law_740 : decode cL_law 740 = .ok (.aload_n 2, 1) := by decide +kernel
theorem dL_law_741 : decode cL_law 741 = .ok (.aload_n 0, 1) := by decide +kernel
theorem dL_law_742 : decode cL_law 742 = .ok (.iload 5, 2) := by decide +kernel
theorem dL_law_744 : decode cL_law 744 = .ok (.iconst 1, 1) := by decide +kernel
theorem dL_law_745 : decode cL_law 745 = .ok (.iadd, 1) := by decide +kernel
theorem dL_law_746 : decode cL_law 746 = .ok (.iaload, 1) := by decide +kernel
theorem dL_law_747 : decode cL_law 747 = .ok (.aload_n 0, 1) := by decide +kernel
theorem dL_law_748 : decode cL_law 748 = .ok (.iload 5, 2) := by decide +kernel
theorem dL_law_750 : decode cL_law 750 = .ok (.iconst 2, 1) := by decide +kernel
theorem dL_law_751 : decode cL_law 751 = .ok (.iadd, 1) := by decide +kernel
theorem dL_law_752 : decode cL_law 752 = .ok (.iaload, 1) := by decide +kernel
theorem dL_law_753 : decode cL_law 753 = .ok (.aload_n 0, 1) := by decide +kernel
theorem dL_law_754 : decode cL_law 754 = .ok (.iload 5, 2) := by decide +kernel
theorem dL_law_756 : decode cL_law 756 = .ok (.iconst 3, 1) := by decide +kernel
theorem dL_law_757 : decode cL_law 757 = .ok (.iadd, 1) := by decide +kernel
theorem dL_law_758 : decode cL_law 758 = .ok (.iaload, 1) := by decide +kernel
theorem dL_law_759 : decode cL_law 759 = .ok (.aload_n 0, 1) := by decide +kernel
theorem dL_law_760 : decode cL_law 760 = .ok (.iload 5, 2) := by decide +kernel
theorem dL_law_762 : decode cL_law 762 = .ok (.iconst 4, 1) := by decide +kernel
theorem dL_law_763 : decode cL_law 763 = .ok (.iadd, 1) := by decide +kernel
theorem dL_law_764 : decode cL_law 764 = .ok (.iaload, 1) := by decide +kernel
theorem dL_law_765 : decode cL_law 765 = .ok (.invokevirtual 158, 3) := by decide +kernel
theorem dL_law_768 : decode cL_law 768 = .ok (.istore 7, 2) := by decide +kernel
theorem dL_law_770 : decode cL_law 770 = .ok (.aload_n 2, 1) := by decide +kernel
theorem dL_law_771 : decode cL_law 771 = .ok (.invokevirtual 127, 3) := by decide +kernel
theorem dL_law_774 : decode cL_law 774 = .ok (.iload 6, 2) := by decide +kernel
theorem dL_law_776 : decode cL_law 776 = .ok (.if_icmp .eq 5, 3) := by decide +kernel
theorem dL_law_779 : decode cL_law 779 = .ok (.iconst 0, 1) := by decide +kernel
theorem dL_law_780 : decode cL_law 780 = .ok (.ireturn, 1) := by decide +kernel
theorem dL_law_781 : decode cL_law 781 = .ok (.iload 6, 2) := by decide +kernel
theorem dL_law_783 : decode cL_law 783 = .ok (.ifCond .ne 15, 3) := by decide +kernel
theorem dL_law_786 : decode cL_law 786 = .ok (.aload_n 3, 1) := by decide +kernel
theorem dL_law_787 : decode cL_law 787 = .ok (.iconst 0, 1) := by decide +kernel
theorem dL_law_788 : decode cL_law 788 = .ok (.laload, 1) := by decide +kernel
theorem dL_law_789 : decode cL_law 789 = .ok (.iload 7, 2) := by decide +kernel
theorem dL_law_791 : decode cL_law 791 = .ok (.i2l, 1) := by decide +kernel
theorem dL_law_792 : decode cL_law 792 = .ok (.lcmp, 1) := by decide +kernel
theorem dL_law_793 : decode cL_law 793 = .ok (.ifCond .eq 5, 3) := by decide +kernel
theorem dL_law_796 : decode cL_law 796 = .ok (.iconst 0, 1) := by decide +kernel
theorem dL_law_797 : decode cL_law 797 = .ok (.ireturn, 1) := by decide +kernel
theorem dL_law_798 : decode cL_law 798 = .ok (.goto 1649, 3) := by decide +kernel
theorem dL_law_801 : decode cL_law 801 = .ok (.aload_n 1, 1) := by decide +kernel
theorem dL_law_802 : decode cL_law 802 = .ok (.aload_n 0, 1) := by decide +kernel
theorem dL_law_803 : decode cL_law 803 = .ok (.iload 5, 2) := by decide +kernel
theorem dL_law_805 : decode cL_law 805 = .ok (.iconst 1, 1) := by decide +kernel
theorem dL_law_806 : decode cL_law 806 = .ok (.iadd, 1) := by decide +kernel
theorem dL_law_807 : decode cL_law 807 = .ok (.iaload, 1) := by decide +kernel
theorem dL_law_808 : decode cL_law 808 = .ok (.aload_n 0, 1) := by decide +kernel
theorem dL_law_809 : decode cL_law 809 = .ok (.iload 5, 2) := by decide +kernel
theorem dL_law_811 : decode cL_law 811 = .ok (.iconst 2, 1) := by decide +kernel
theorem dL_law_812 : decode cL_law 812 = .ok (.iadd, 1) := by decide +kernel
theorem dL_law_813 : decode cL_law 813 = .ok (.iaload, 1) := by decide +kernel
theorem dL_law_814 : decode cL_law 814 = .ok (.aload_n 3, 1) := by decide +kernel
theorem dL_law_815 : decode cL_law 815 = .ok (.invokestatic 159, 3) := by decide +kernel
theorem dL_law_818 : decode cL_law 818 = .ok (.istore 6, 2) := by decide +kernel
theorem dL_law_820 : decode cL_law 820 = .ok (.aload_n 2, 1) := by decide +kernel
theorem dL_law_821 : decode cL_law 821 = .ok (.aload_n 0, 1) := by decide +kernel
theorem dL_law_822 : decode cL_law 822 = .ok (.iload 5, 2) := by decide +kernel
theorem dL_law_824 : decode cL_law 824 = .ok (.iconst 1, 1) := by decide +kernel
theorem dL_law_825 : decode cL_law 825 = .ok (.iadd, 1) := by decide +kernel
theorem dL_law_826 : decode cL_law 826 = .ok (.iaload, 1) := by decide +kernel
theorem dL_law_827 : decode cL_law 827 = .ok (.aload_n 0, 1) := by decide +kernel
theorem dL_law_828 : decode cL_law 828 = .ok (.iload 5, 2) := by decide +kernel
theorem dL_law_830 : decode cL_law 830 = .ok (.iconst 2, 1) := by decide +kernel
theorem dL_law_831 : decode cL_law 831 = .ok (.iadd, 1) := by decide +kernel
theorem dL_law_832 : decode cL_law 832 = .ok (.iaload, 1) := by decide +kernel
theorem dL_law_833 : decode cL_law 833 = .ok (.invokevirtual 161, 3) := by decide +kernel
theorem dL_law_836 : decode cL_law 836 = .ok (.istore 7, 2) := by decide +kernel
theorem dL_law_838 : decode cL_law 838 = .ok (.aload_n 2, 1) := by decide +kernel
theorem dL_law_839 : decode cL_law 839 = .ok (.invokevirtual 127, 3) := by decide +kernel
theorem dL_law_842 : decode cL_law 842 = .ok (.iload 6, 2) := by decide +kernel
theorem dL_law_844 : decode cL_law 844 = .ok (.if_icmp .eq 5, 3) := by decide +kernel
theorem dL_law_847 : decode cL_law 847 = .ok (.iconst 0, 1) := by decide +kernel
theorem dL_law_848 : decode cL_law 848 = .ok (.ireturn, 1) := by decide +kernel
theorem dL_law_849 : decode cL_law 849 = .ok (.iload 6, 2) := by decide +kernel
theorem dL_law_851 : decode cL_law 851 = .ok (.ifCond .ne 15, 3) := by decide +kernel
theorem dL_law_854 : decode cL_law 854 = .ok (.aload_n 3, 1) := by decide +kernel
theorem dL_law_855 : decode cL_law 855 = .ok (.iconst 0, 1) := by decide +kernel
theorem dL_law_856 : decode cL_law 856 = .ok (.laload, 1) := by decide +kernel
theorem dL_law_857 : decode cL_law 857 = .ok (.iload 7, 2) := by decide +kernel
theorem dL_law_859 : decode cL_law 859 = .ok (.i2l, 1) := by decide +kernel
theorem dL_law_860 : decode cL_law 860 = .ok (.lcmp, 1) := by decide +kernel
theorem dL_law_861 : decode cL_law 861 = .ok (.ifCond .eq 5, 3) := by decide +kernel
theorem dL_law_864 : decode cL_law 864 = .ok (.iconst 0, 1) := by decide +kernel
theorem dL_law_865 : decode cL_law 865 = .ok (.ireturn, 1) := by decide +kernel
theorem dL_law_866 : decode cL_law 866 = .ok (.goto 1581, 3) := by decide +kernel
theorem dL_law_869 : decode cL_law 869 = .ok (.aload_n 1, 1) := by decide +kernel
theorem dL_law_870 : decode cL_law 870 = .ok (.aload_n 0, 1) := by decide +kernel
theorem dL_law_871 : decode cL_law 871 = .ok (.iload 5, 2) := by decide +kernel
theorem dL_law_873 : decode cL_law 873 = .ok (.iconst 1, 1) := by decide +kernel
theorem dL_law_874 : decode cL_law 874 = .ok (.iadd, 1) := by decide +kernel
theorem dL_law_875 : decode cL_law 875 = .ok (.iaload, 1) := by decide +kernel
theorem dL_law_876 : decode cL_law 876 = .ok (.aload_n 0, 1) := by decide +kernel
theorem dL_law_877 : decode cL_law 877 = .ok (.iload 5, 2) := by decide +kernel
theorem dL_law_879 : decode cL_law 879 = .ok (.iconst 2, 1) := by decide +kernel
theorem dL_law_880 : decode cL_law 880 = .ok (.iadd, 1) := by decide +kernel
theorem dL_law_881 : decode cL_law 881 = .ok (.iaload, 1) := by decide +kernel
theorem dL_law_882 : decode cL_law 882 = .ok (.aload_n 0, 1) := by decide +kernel
theorem dL_law_883 : decode cL_law 883 = .ok (.iload 5, 2) := by decide +kernel
theorem dL_law_885 : decode cL_law 885 = .ok (.iconst 3, 1) := by decide +kernel
theorem dL_law_886 : decode cL_law 886 = .ok (.iadd, 1) := by decide +kernel
theorem dL_law_887 : decode cL_law 887 = .ok (.iaload, 1) := by decide +kernel
theorem dL_law_888 : decode cL_law 888 = .ok (.aload_n 3, 1) := by decide +kernel
theorem dL_law_889 : decode cL_law 889 = .ok (.invokestatic 162, 3) := by decide +kernel
theorem dL_law_892 : decode cL_law 892 = .ok (.istore 6, 2) := by decide +kernel
theorem dL_law_894 : decode cL_law 894 = .ok (.aload_n 2, 1) := by decide +kernel
theorem dL_law_895 : decode cL_law 895 = .ok (.aload_n 0, 1) := by decide +kernel
theorem dL_law_896 : decode cL_law 896 = .ok (.iload 5, 2) := by decide +kernel
theorem dL_law_898 : decode cL_law 898 = .ok (.iconst 1, 1) := by decide +kernel
theorem dL_law_899 : decode cL_law 899 = .ok (.iadd, 1) := by decide +kernel
theorem dL_law_900 : decode cL_law 900 = .ok (.iaload, 1) := by decide +kernel
theorem dL_law_901 : decode cL_law 901 = .ok (.aload_n 0, 1) := by decide +kernel
theorem dL_law_902 : decode cL_law 902 = .ok (.iload 5, 2) := by decide +kernel
theorem dL_law_904 : decode cL_law 904 = .ok (.iconst 2, 1) := by decide +kernel
theorem dL_law_905 : decode cL_law 905 = .ok (.iadd, 1) := by decide +kernel
theorem dL_law_906 : decode cL_law 906 = .ok (.iaload, 1) := by decide +kernel
theorem dL_law_907 : decode cL_law 907 = .ok (.aload_n 0, 1) := by decide +kernel
theorem dL_law_908 : decode cL_law 908 = .ok (.iload 5, 2) := by decide +kernel
theorem dL_law_910 : decode cL_law 910 = .ok (.iconst 3, 1) := by decide +kernel
theorem dL_law_911 : decode cL_law 911 = .ok (.iadd, 1) := by decide +kernel
theorem dL_law_912 : decode cL_law 912 = .ok (.iaload, 1) := by decide +kernel
theorem dL_law_913 : decode cL_law 913 = .ok (.invokevirtual 165, 3) := by decide +kernel
theorem dL_law_916 : decode cL_law 916 = .ok (.istore 7, 2) := by decide +kernel
theorem dL_law_918 : decode cL_law 918 = .ok (.aload_n 2, 1) := by decide +kernel
theorem dL_law_919 : decode cL_law 919 = .ok (.invokevirtual 127, 3) := by decide +kernel
theorem dL_law_922 : decode cL_law 922 = .ok (.iload 6, 2) := by decide +kernel
theorem dL_law_924 : decode cL_law 924 = .ok (.if_icmp .eq 5, 3) := by decide +kernel
theorem dL_law_927 : decode cL_law 927 = .ok (.iconst 0, 1) := by decide +kernel
theorem dL_law_928 : decode cL_law 928 = .ok (.ireturn, 1) := by decide +kernel
theorem dL_law_929 : decode cL_law 929 = .ok (.iload 6, 2) := by decide +kernel
theorem dL_law_931 : decode cL_law 931 = .ok (.ifCond .ne 15, 3) := by decide +kernel
theorem dL_law_934 : decode cL_law 934 = .ok (.aload_n 3, 1) := by decide +kernel
theorem dL_law_935 : decode cL_law 935 = .ok (.iconst 0, 1) := by decide +kernel
theorem dL_law_936 : decode cL_law 936 = .ok (.laload, 1) := by decide +kernel
theorem dL_law_937 : decode cL_law 937 = .ok (.iload 7, 2) := by decide +kernel
theorem dL_law_939 : decode cL_law 939 = .ok (.i2l, 1) := by decide +kernel
theorem dL_law_940 : decode cL_law 940 = .ok (.lcmp, 1) := by decide +kernel
theorem dL_law_941 : decode cL_law 941 = .ok (.ifCond .eq 5, 3) := by decide +kernel
theorem dL_law_944 : decode cL_law 944 = .ok (.iconst 0, 1) := by decide +kernel
theorem dL_law_945 : decode cL_law 945 = .ok (.ireturn, 1) := by decide +kernel
theorem dL_law_946 : decode cL_law 946 = .ok (.goto 1501, 3) := by decide +kernel
theorem dL_law_949 : decode cL_law 949 = .ok (.aload_n 1, 1) := by decide +kernel
theorem dL_law_950 : decode cL_law 950 = .ok (.aload_n 0, 1) := by decide +kernel
theorem dL_law_951 : decode cL_law 951 = .ok (.iload 5, 2) := by decide +kernel
theorem dL_law_953 : decode cL_law 953 = .ok (.iconst 1, 1) := by decide +kernel
theorem dL_law_954 : decode cL_law 954 = .ok (.iadd, 1) := by decide +kernel
theorem dL_law_955 : decode cL_law 955 = .ok (.iaload, 1) := by decide +kernel
theorem dL_law_956 : decode cL_law 956 = .ok (.aload_n 0, 1) := by decide +kernel
theorem dL_law_957 : decode cL_law 957 = .ok (.iload 5, 2) := by decide +kernel
theorem dL_law_959 : decode cL_law 959 = .ok (.iconst 2, 1) := by decide +kernel
theorem dL_law_960 : decode cL_law 960 = .ok (.iadd, 1) := by decide +kernel
theorem dL_law_961 : decode cL_law 961 = .ok (.iaload, 1) := by decide +kernel
theorem dL_law_962 : decode cL_law 962 = .ok (.aload_n 3, 1) := by decide +kernel
theorem dL_law_963 : decode cL_law 963 = .ok (.invokestatic 166, 3) := by decide +kernel
theorem dL_law_966 : decode cL_law 966 = .ok (.istore 6, 2) := by decide +kernel
theorem dL_law_968 : decode cL_law 968 = .ok (.aload_n 2, 1) := by decide +kernel
theorem dL_law_969 : decode cL_law 969 = .ok (.aload_n 0, 1) := by decide +kernel
theorem dL_law_970 : decode cL_law 970 = .ok (.iload 5, 2) := by decide +kernel
theorem dL_law_972 : decode cL_law 972 = .ok (.iconst 1, 1) := by decide +kernel
theorem dL_law_973 : decode cL_law 973 = .ok (.iadd, 1) := by decide +kernel
theorem dL_law_974 : decode cL_law 974 = .ok (.iaload, 1) := by decide +kernel
theorem dL_law_975 : decode cL_law 975 = .ok (.aload_n 0, 1) := by decide +kernel
theorem dL_law_976 : decode cL_law 976 = .ok (.iload 5, 2) := by decide +kernel
theorem dL_law_978 : decode cL_law 978 = .ok (.iconst 2, 1) := by decide +kernel
theorem dL_law_979 : decode cL_law 979 = .ok (.iadd, 1) := by decide +kernel
theorem dL_law_980 : decode cL_law 980 = .ok (.iaload, 1) := by decide +kernel
theorem dL_law_981 : decode cL_law 981 = .ok (.invokevirtual 168, 3) := by decide +kernel
theorem dL_law_984 : decode cL_law 984 = .ok (.istore 7, 2) := by decide +kernel
theorem dL_law_986 : decode cL_law 986 = .ok (.aload_n 2, 1) := by decide +kernel
theorem dL_law_987 : decode cL_law 987 = .ok (.invokevirtual 127, 3) := by decide +kernel
theorem dL_law_990 : decode cL_law 990 = .ok (.iload 6, 2) := by decide +kernel
theorem dL_law_992 : decode cL_law 992 = .ok (.if_icmp .eq 5, 3) := by decide +kernel
theorem dL_law_995 : decode cL_law 995 = .ok (.iconst 0, 1) := by decide +kernel
theorem dL_law_996 : decode cL_law 996 = .ok (.ireturn, 1) := by decide +kernel
theorem dL_law_997 : decode cL_law 997 = .ok (.iload 6, 2) := by decide +kernel
theorem dL_law_999 : decode cL_law 999 = .ok (.ifCond .ne 15, 3) := by decide +kernel
theorem dL_law_1002 : decode cL_law 1002 = .ok (.aload_n 3, 1) := by decide +kernel
theorem dL_law_1003 : decode cL_law 1003 = .ok (.iconst 0, 1) := by decide +kernel
theorem dL_law_1004 : decode cL_law 1004 = .ok (.laload, 1) := by decide +kernel
theorem dL_law_1005 : decode cL_law 1005 = .ok (.iload 7, 2) := by decide +kernel
theorem dL_law_1007 : decode cL_law 1007 = .ok (.i2l, 1) := by decide +kernel
theorem dL_law_1008 : decode cL_law 1008 = .ok (.lcmp, 1) := by decide +kernel
theorem dL_law_1009 : decode cL_law 1009 = .ok (.ifCond .eq 5, 3) := by decide +kernel
theorem dL_law_1012 : decode cL_law 1012 = .ok (.iconst 0, 1) := by decide +kernel
theorem dL_law_1013 : decode cL_law 1013 = .ok (.ireturn, 1) := by decide +kernel
theorem dL_law_1014 : decode cL_law 1014 = .ok (.goto 1433, 3) := by decide +kernel
theorem dL_law_1017 : decode cL_law 1017 = .ok (.aload_n 1, 1) := by decide +kernel
theorem dL_law_1018 : decode cL_law 1018 = .ok (.aload_n 0, 1) := by decide +kernel
theorem dL_law_1019 : decode cL_law 1019 = .ok (.iload 5, 2) := by decide +kernel
theorem dL_law_1021 : decode cL_law 1021 = .ok (.iconst 1, 1) := by decide +kernel
theorem dL_law_1022 : decode cL_law 1022 = .ok (.iadd, 1) := by decide +kernel
theorem dL_law_1023 : decode cL_law 1023 = .ok (.iaload, 1) := by decide +kernel
theorem dL_law_1024 : decode cL_law 1024 = .ok (.aload_n 0, 1) := by decide +kernel
theorem dL_law_1025 : decode cL_law 1025 = .ok (.iload 5, 2) := by decide +kernel
theorem dL_law_1027 : decode cL_law 1027 = .ok (.iconst 2, 1) := by decide +kernel
theorem dL_law_1028 : decode cL_law 1028 = .ok (.iadd, 1) := by decide +kernel
theorem dL_law_1029 : decode cL_law 1029 = .ok (.iaload, 1) := by decide +kernel
theorem dL_law_1030 : decode cL_law 1030 = .ok (.aload_n 3, 1) := by decide +kernel
theorem dL_law_1031 : decode cL_law 1031 = .ok (.invokestatic 169, 3) := by decide +kernel
theorem dL_law_1034 : decode cL_law 1034 = .ok (.istore 6, 2) := by decide +kernel
theorem dL_law_1036 : decode cL_law 1036 = .ok (.aload_n 2, 1) := by decide +kernel
theorem dL_law_1037 : decode cL_law 1037 = .ok (.aload_n 0, 1) := by decide +kernel
theorem dL_law_1038 : decode cL_law 1038 = .ok (.iload 5, 2) := by decide +kernel
theorem dL_law_1040 : decode cL_law 1040 = .ok (.iconst 1, 1) := by decide +kernel
theorem dL_law_1041 : decode cL_law 1041 = .ok (.iadd, 1) := by decide +kernel
theorem dL_law_1042 : decode cL_law 1042 = .ok (.iaload, 1) := by decide +kernel
theorem dL_law_1043 : decode cL_law 1043 = .ok (.aload_n 0, 1) := by decide +kernel
theorem dL_law_1044 : decode cL_law 1044 = .ok (.iload 5, 2) := by decide +kernel
theorem dL_law_1046 : decode cL_law 1046 = .ok (.iconst 2, 1) := by decide +kernel
theorem dL_law_1047 : decode cL_law 1047 = .ok (.iadd, 1) := by decide +kernel
theorem dL_law_1048 : decode cL_law 1048 = .ok (.iaload, 1) := by decide +kernel
theorem dL_law_1049 : decode cL_law 1049 = .ok (.invokevirtual 171, 3) := by decide +kernel
theorem dL_law_1052 : decode cL_law 1052 = .ok (.istore 7, 2) := by decide +kernel
theorem dL_law_1054 : decode cL_law 1054 = .ok (.aload_n 2, 1) := by decide +kernel
theorem dL_law_1055 : decode cL_law 1055 = .ok (.invokevirtual 127, 3) := by decide +kernel
theorem dL_law_1058 : decode cL_law 1058 = .ok (.iload 6, 2) := by decide +kernel
theorem dL_law_1060 : decode cL_law 1060 = .ok (.if_icmp .eq 5, 3) := by decide +kernel
theorem dL_law_1063 : decode cL_law 1063 = .ok (.iconst 0, 1) := by decide +kernel
theorem dL_law_1064 : decode cL_law 1064 = .ok (.ireturn, 1) := by decide +kernel
theorem dL_law_1065 : decode cL_law 1065 = .ok (.iload 6, 2) := by decide +kernel
theorem dL_law_1067 : decode cL_law 1067 = .ok (.ifCond .ne 15, 3) := by decide +kernel
theorem dL_law_1070 : decode cL_law 1070 = .ok (.aload_n 3, 1) := by decide +kernel
theorem dL_law_1071 : decode cL_law 1071 = .ok (.iconst 0, 1) := by decide +kernel
theorem dL_law_1072 : decode cL_law 1072 = .ok (.laload, 1) := by decide +kernel
theorem dL_law_1073 : decode cL_law 1073 = .ok (.iload 7, 2) := by decide +kernel
theorem dL_law_1075 : decode cL_law 1075 = .ok (.i2l, 1) := by decide +kernel
theorem dL_law_1076 : decode cL_law 1076 = .ok (.lcmp, 1) := by decide +kernel
theorem dL_law_1077 : decode cL_law 1077 = .ok (.ifCond .eq 5, 3) := by decide +kernel
theorem dL_law_1080 : decode cL_law 1080 = .ok (.iconst 0, 1) := by decide +kernel
theorem dL_law_1081 : decode cL_law 1081 = .ok (.ireturn, 1) := by decide +kernel
theorem dL_law_1082 : decode cL_law 1082 = .ok (.goto 1365, 3) := by decide +kernel
theorem dL_law_1085 : decode cL_law 1085 = .ok (.aload_n 1, 1) := by decide +kernel
theorem dL_law_1086 : decode cL_law 1086 = .ok (.aload_n 0, 1) := by decide +kernel
theorem dL_law_1087 : decode cL_law 1087 = .ok (.iload 5, 2) := by decide +kernel
theorem dL_law_1089 : decode cL_law 1089 = .ok (.iconst 1, 1) := by decide +kernel
theorem dL_law_1090 : decode cL_law 1090 = .ok (.iadd, 1) := by decide +kernel
theorem dL_law_1091 : decode cL_law 1091 = .ok (.iaload, 1) := by decide +kernel
theorem dL_law_1092 : decode cL_law 1092 = .ok (.aload_n 3, 1) := by decide +kernel
theorem dL_law_1093 : decode cL_law 1093 = .ok (.invokestatic 172, 3) := by decide +kernel
theorem dL_law_1096 : decode cL_law 1096 = .ok (.istore 6, 2) := by decide +kernel
theorem dL_law_1098 : decode cL_law 1098 = .ok (.aload_n 2, 1) := by decide +kernel
theorem dL_law_1099 : decode cL_law 1099 = .ok (.aload_n 0, 1) := by decide +kernel
theorem dL_law_1100 : decode cL_law 1100 = .ok (.iload 5, 2) := by decide +kernel
theorem dL_law_1102 : decode cL_law 1102 = .ok (.iconst 1, 1) := by decide +kernel
theorem dL_law_1103 : decode cL_law 1103 = .ok (.iadd, 1) := by decide +kernel
theorem dL_law_1104 : decode cL_law 1104 = .ok (.iaload, 1) := by decide +kernel
theorem dL_law_1105 : decode cL_law 1105 = .ok (.invokevirtual 174, 3) := by decide +kernel
theorem dL_law_1108 : decode cL_law 1108 = .ok (.istore 7, 2) := by decide +kernel
theorem dL_law_1110 : decode cL_law 1110 = .ok (.aload_n 2, 1) := by decide +kernel
theorem dL_law_1111 : decode cL_law 1111 = .ok (.invokevirtual 127, 3) := by decide +kernel
theorem dL_law_1114 : decode cL_law 1114 = .ok (.iload 6, 2) := by decide +kernel
theorem dL_law_1116 : decode cL_law 1116 = .ok (.if_icmp .eq 5, 3) := by decide +kernel
theorem dL_law_1119 : decode cL_law 1119 = .ok (.iconst 0, 1) := by decide +kernel
theorem dL_law_1120 : decode cL_law 1120 = .ok (.ireturn, 1) := by decide +kernel
theorem dL_law_1121 : decode cL_law 1121 = .ok (.iload 6, 2) := by decide +kernel
theorem dL_law_1123 : decode cL_law 1123 = .ok (.ifCond .ne 15, 3) := by decide +kernel
theorem dL_law_1126 : decode cL_law 1126 = .ok (.aload_n 3, 1) := by decide +kernel
theorem dL_law_1127 : decode cL_law 1127 = .ok (.iconst 0, 1) := by decide +kernel
theorem dL_law_1128 : decode cL_law 1128 = .ok (.laload, 1) := by decide +kernel
theorem dL_law_1129 : decode cL_law 1129 = .ok (.iload 7, 2) := by decide +kernel
theorem dL_law_1131 : decode cL_law 1131 = .ok (.i2l, 1) := by decide +kernel
theorem dL_law_1132 : decode cL_law 1132 = .ok (.lcmp, 1) := by decide +kernel
theorem dL_law_1133 : decode cL_law 1133 = .ok (.ifCond .eq 5, 3) := by decide +kernel
theorem dL_law_1136 : decode cL_law 1136 = .ok (.iconst 0, 1) := by decide +kernel
theorem dL_law_1137 : decode cL_law 1137 = .ok (.ireturn, 1) := by decide +kernel
theorem dL_law_1138 : decode cL_law 1138 = .ok (.goto 1309, 3) := by decide +kernel
theorem dL_law_1141 : decode cL_law 1141 = .ok (.aload_n 1, 1) := by decide +kernel
theorem dL_law_1142 : decode cL_law 1142 = .ok (.aload_n 0, 1) := by decide +kernel
theorem dL_law_1143 : decode cL_law 1143 = .ok (.iload 5, 2) := by decide +kernel
theorem dL_law_1145 : decode cL_law 1145 = .ok (.iconst 1, 1) := by decide +kernel
theorem dL_law_1146 : decode cL_law 1146 = .ok (.iadd, 1) := by decide +kernel
theorem dL_law_1147 : decode cL_law 1147 = .ok (.iaload, 1) := by decide +kernel
theorem dL_law_1148 : decode cL_law 1148 = .ok (.aload_n 3, 1) := by decide +kernel
theorem dL_law_1149 : decode cL_law 1149 = .ok (.invokestatic 175, 3) := by decide +kernel
theorem dL_law_1152 : decode cL_law 1152 = .ok (.istore 6, 2) := by decide +kernel
theorem dL_law_1154 : decode cL_law 1154 = .ok (.aload_n 2, 1) := by decide +kernel
theorem dL_law_1155 : decode cL_law 1155 = .ok (.aload_n 0, 1) := by decide +kernel
theorem dL_law_1156 : decode cL_law 1156 = .ok (.iload 5, 2) := by decide +kernel
theorem dL_law_1158 : decode cL_law 1158 = .ok (.iconst 1, 1) := by decide +kernel
theorem dL_law_1159 : decode cL_law 1159 = .ok (.iadd, 1) := by decide +kernel
theorem dL_law_1160 : decode cL_law 1160 = .ok (.iaload, 1) := by decide +kernel
theorem dL_law_1161 : decode cL_law 1161 = .ok (.invokevirtual 177, 3) := by decide +kernel
theorem dL_law_1164 : decode cL_law 1164 = .ok (.istore 7, 2) := by decide +kernel
theorem dL_law_1166 : decode cL_law 1166 = .ok (.aload_n 2, 1) := by decide +kernel
theorem dL_law_1167 : decode cL_law 1167 = .ok (.invokevirtual 127, 3) := by decide +kernel
theorem dL_law_1170 : decode cL_law 1170 = .ok (.iload 6, 2) := by decide +kernel
theorem dL_law_1172 : decode cL_law 1172 = .ok (.if_icmp .eq 5, 3) := by decide +kernel
theorem dL_law_1175 : decode cL_law 1175 = .ok (.iconst 0, 1) := by decide +kernel
theorem dL_law_1176 : decode cL_law 1176 = .ok (.ireturn, 1) := by decide +kernel
theorem dL_law_1177 : decode cL_law 1177 = .ok (.iload 6, 2) := by decide +kernel
theorem dL_law_1179 : decode cL_law 1179 = .ok (.ifCond .ne 15, 3) := by decide +kernel
theorem dL_law_1182 : decode cL_law 1182 = .ok (.aload_n 3, 1) := by decide +kernel
theorem dL_law_1183 : decode cL_law 1183 = .ok (.iconst 0, 1) := by decide +kernel
theorem dL_law_1184 : decode cL_law 1184 = .ok (.laload, 1) := by decide +kernel
theorem dL_law_1185 : decode cL_law 1185 = .ok (.iload 7, 2) := by decide +kernel
theorem dL_law_1187 : decode cL_law 1187 = .ok (.i2l, 1) := by decide +kernel
theorem dL_law_1188 : decode cL_law 1188 = .ok (.lcmp, 1) := by decide +kernel
theorem dL_law_1189 : decode cL_law 1189 = .ok (.ifCond .eq 5, 3) := by decide +kernel
theorem dL_law_1192 : decode cL_law 1192 = .ok (.iconst 0, 1) := by decide +kernel
theorem dL_law_1193 : decode cL_law 1193 = .ok (.ireturn, 1) := by decide +kernel
theorem dL_law_1194 : decode cL_law 1194 = .ok (.goto 1253, 3) := by decide +kernel
theorem dL_law_1197 : decode cL_law 1197 = .ok (.aload_n 1, 1) := by decide +kernel
theorem dL_law_1198 : decode cL_law 1198 = .ok (.aload_n 0, 1) := by decide +kernel
theorem dL_law_1199 : decode cL_law 1199 = .ok (.iload 5, 2) := by decide +kernel
theorem dL_law_1201 : decode cL_law 1201 = .ok (.iconst 1, 1) := by decide +kernel
theorem dL_law_1202 : decode cL_law 1202 = .ok (.iadd, 1) := by decide +kernel
theorem dL_law_1203 : decode cL_law 1203 = .ok (.iaload, 1) := by decide +kernel
theorem dL_law_1204 : decode cL_law 1204 = .ok (.aload_n 0, 1) := by decide +kernel
theorem dL_law_1205 : decode cL_law 1205 = .ok (.iload 5, 2) := by decide +kernel
theorem dL_law_1207 : decode cL_law 1207 = .ok (.iconst 2, 1) := by decide +kernel
theorem dL_law_1208 : decode cL_law 1208 = .ok (.iadd, 1) := by decide +kernel
theorem dL_law_1209 : decode cL_law 1209 = .ok (.iaload, 1) := by decide +kernel
theorem dL_law_1210 : decode cL_law 1210 = .ok (.aload_n 3, 1) := by decide +kernel
theorem dL_law_1211 : decode cL_law 1211 = .ok (.invokestatic 178, 3) := by decide +kernel
theorem dL_law_1214 : decode cL_law 1214 = .ok (.istore 6, 2) := by decide +kernel
theorem dL_law_1216 : decode cL_law 1216 = .ok (.aload_n 2, 1) := by decide +kernel
theorem dL_law_1217 : decode cL_law 1217 = .ok (.aload_n 0, 1) := by decide +kernel
theorem dL_law_1218 : decode cL_law 1218 = .ok (.iload 5, 2) := by decide +kernel
theorem dL_law_1220 : decode cL_law 1220 = .ok (.iconst 1, 1) := by decide +kernel
theorem dL_law_1221 : decode cL_law 1221 = .ok (.iadd, 1) := by decide +kernel
theorem dL_law_1222 : decode cL_law 1222 = .ok (.iaload, 1) := by decide +kernel
theorem dL_law_1223 : decode cL_law 1223 = .ok (.aload_n 0, 1) := by decide +kernel
theorem dL_law_1224 : decode cL_law 1224 = .ok (.iload 5, 2) := by decide +kernel
theorem dL_law_1226 : decode cL_law 1226 = .ok (.iconst 2, 1) := by decide +kernel
theorem dL_law_1227 : decode cL_law 1227 = .ok (.iadd, 1) := by decide +kernel
theorem dL_law_1228 : decode cL_law 1228 = .ok (.iaload, 1) := by decide +kernel
theorem dL_law_1229 : decode cL_law 1229 = .ok (.invokevirtual 180, 3) := by decide +kernel
theorem dL_law_1232 : decode cL_law 1232 = .ok (.istore 7, 2) := by decide +kernel
theorem dL_law_1234 : decode cL_law 1234 = .ok (.aload_n 2, 1) := by decide +kernel
theorem dL_law_1235 : decode cL_law 1235 = .ok (.invokevirtual 127, 3) := by decide +kernel
theorem dL_law_1238 : decode cL_law 1238 = .ok (.iload 6, 2) := by decide +kernel
theorem dL_law_1240 : decode cL_law 1240 = .ok (.if_icmp .eq 5, 3) := by decide +kernel
theorem dL_law_1243 : decode cL_law 1243 = .ok (.iconst 0, 1) := by decide +kernel
theorem dL_law_1244 : decode cL_law 1244 = .ok (.ireturn, 1) := by decide +kernel
theorem dL_law_1245 : decode cL_law 1245 = .ok (.iload 6, 2) := by decide +kernel
theorem dL_law_1247 : decode cL_law 1247 = .ok (.ifCond .ne 15, 3) := by decide +kernel
theorem dL_law_1250 : decode cL_law 1250 = .ok (.aload_n 3, 1) := by decide +kernel
theorem dL_law_1251 : decode cL_law 1251 = .ok (.iconst 0, 1) := by decide +kernel
theorem dL_law_1252 : decode cL_law 1252 = .ok (.laload, 1) := by decide +kernel
theorem dL_law_1253 : decode cL_law 1253 = .ok (.iload 7, 2) := by decide +kernel
theorem dL_law_1255 : decode cL_law 1255 = .ok (.i2l, 1) := by decide +kernel
theorem dL_law_1256 : decode cL_law 1256 = .ok (.lcmp, 1) := by decide +kernel
theorem dL_law_1257 : decode cL_law 1257 = .ok (.ifCond .eq 5, 3) := by decide +kernel
theorem dL_law_1260 : decode cL_law 1260 = .ok (.iconst 0, 1) := by decide +kernel
theorem dL_law_1261 : decode cL_law 1261 = .ok (.ireturn, 1) := by decide +kernel
theorem dL_law_1262 : decode cL_law 1262 = .ok (.goto 1185, 3) := by decide +kernel
theorem dL_law_1265 : decode cL_law 1265 = .ok (.aload_n 1, 1) := by decide +kernel
theorem dL_law_1266 : decode cL_law 1266 = .ok (.aload_n 0, 1) := by decide +kernel
theorem dL_law_1267 : decode cL_law 1267 = .ok (.iload 5, 2) := by decide +kernel
theorem dL_law_1269 : decode cL_law 1269 = .ok (.iconst 1, 1) := by decide +kernel
theorem dL_law_1270 : decode cL_law 1270 = .ok (.iadd, 1) := by decide +kernel
theorem dL_law_1271 : decode cL_law 1271 = .ok (.iaload, 1) := by decide +kernel
theorem dL_law_1272 : decode cL_law 1272 = .ok (.aload_n 0, 1) := by decide +kernel
theorem dL_law_1273 : decode cL_law 1273 = .ok (.iload 5, 2) := by decide +kernel
theorem dL_law_1275 : decode cL_law 1275 = .ok (.iconst 2, 1) := by decide +kernel
theorem dL_law_1276 : decode cL_law 1276 = .ok (.iadd, 1) := by decide +kernel
theorem dL_law_1277 : decode cL_law 1277 = .ok (.iaload, 1) := by decide +kernel
theorem dL_law_1278 : decode cL_law 1278 = .ok (.aload_n 3, 1) := by decide +kernel
theorem dL_law_1279 : decode cL_law 1279 = .ok (.invokestatic 181, 3) := by decide +kernel
theorem dL_law_1282 : decode cL_law 1282 = .ok (.istore 6, 2) := by decide +kernel
theorem dL_law_1284 : decode cL_law 1284 = .ok (.aload_n 2, 1) := by decide +kernel
theorem dL_law_1285 : decode cL_law 1285 = .ok (.aload_n 0, 1) := by decide +kernel
theorem dL_law_1286 : decode cL_law 1286 = .ok (.iload 5, 2) := by decide +kernel
theorem dL_law_1288 : decode cL_law 1288 = .ok (.iconst 1, 1) := by decide +kernel
theorem dL_law_1289 : decode cL_law 1289 = .ok (.iadd, 1) := by decide +kernel
theorem dL_law_1290 : decode cL_law 1290 = .ok (.iaload, 1) := by decide +kernel
theorem dL_law_1291 : decode cL_law 1291 = .ok (.aload_n 0, 1) := by decide +kernel
theorem dL_law_1292 : decode cL_law 1292 = .ok (.iload 5, 2) := by decide +kernel
theorem dL_law_1294 : decode cL_law 1294 = .ok (.iconst 2, 1) := by decide +kernel
theorem dL_law_1295 : decode cL_law 1295 = .ok (.iadd, 1) := by decide +kernel
theorem dL_law_1296 : decode cL_law 1296 = .ok (.iaload, 1) := by decide +kernel
theorem dL_law_1297 : decode cL_law 1297 = .ok (.invokevirtual 183, 3) := by decide +kernel
theorem dL_law_1300 : decode cL_law 1300 = .ok (.istore 7, 2) := by decide +kernel
theorem dL_law_1302 : decode cL_law 1302 = .ok (.aload_n 2, 1) := by decide +kernel
theorem dL_law_1303 : decode cL_law 1303 = .ok (.invokevirtual 127, 3) := by decide +kernel
theorem dL_law_1306 : decode cL_law 1306 = .ok (.iload 6, 2) := by decide +kernel
theorem dL_law_1308 : decode cL_law 1308 = .ok (.if_icmp .eq 5, 3) := by decide +kernel
theorem dL_law_1311 : decode cL_law 1311 = .ok (.iconst 0, 1) := by decide +kernel
theorem dL_law_1312 : decode cL_law 1312 = .ok (.ireturn, 1) := by decide +kernel
theorem dL_law_1313 : decode cL_law 1313 = .ok (.iload 6, 2) := by decide +kernel
theorem dL_law_1315 : decode cL_law 1315 = .ok (.ifCond .ne 15, 3) := by decide +kernel
theorem dL_law_1318 : decode cL_law 1318 = .ok (.aload_n 3, 1) := by decide +kernel
theorem dL_law_1319 : decode cL_law 1319 = .ok (.iconst 0, 1) := by decide +kernel
theorem dL_law_1320 : decode cL_law 1320 = .ok (.laload, 1) := by decide +kernel
theorem dL_law_1321 : decode cL_law 1321 = .ok (.iload 7, 2) := by decide +kernel
theorem dL_law_1323 : decode cL_law 1323 = .ok (.i2l, 1) := by decide +kernel
theorem dL_law_1324 : decode cL_law 1324 = .ok (.lcmp, 1) := by decide +kernel
theorem dL_law_1325 : decode cL_law 1325 = .ok (.ifCond .eq 5, 3) := by decide +kernel
theorem dL_law_1328 : decode cL_law 1328 = .ok (.iconst 0, 1) := by decide +kernel
theorem dL_law_1329 : decode cL_law 1329 = .ok (.ireturn, 1) := by decide +kernel
theorem dL_law_1330 : decode cL_law 1330 = .ok (.goto 1117, 3) := by decide +kernel
theorem dL_law_1333 : decode cL_law 1333 = .ok (.aload_n 1, 1) := by decide +kernel
theorem dL_law_1334 : decode cL_law 1334 = .ok (.aload_n 0, 1) := by decide +kernel
theorem dL_law_1335 : decode cL_law 1335 = .ok (.iload 5, 2) := by decide +kernel
theorem dL_law_1337 : decode cL_law 1337 = .ok (.iconst 1, 1) := by decide +kernel
theorem dL_law_1338 : decode cL_law 1338 = .ok (.iadd, 1) := by decide +kernel
theorem dL_law_1339 : decode cL_law 1339 = .ok (.iaload, 1) := by decide +kernel
theorem dL_law_1340 : decode cL_law 1340 = .ok (.aload_n 0, 1) := by decide +kernel
theorem dL_law_1341 : decode cL_law 1341 = .ok (.iload 5, 2) := by decide +kernel
theorem dL_law_1343 : decode cL_law 1343 = .ok (.iconst 2, 1) := by decide +kernel
theorem dL_law_1344 : decode cL_law 1344 = .ok (.iadd, 1) := by decide +kernel
theorem dL_law_1345 : decode cL_law 1345 = .ok (.iaload, 1) := by decide +kernel
theorem dL_law_1346 : decode cL_law 1346 = .ok (.aload_n 3, 1) := by decide +kernel
theorem dL_law_1347 : decode cL_law 1347 = .ok (.invokestatic 184, 3) := by decide +kernel
theorem dL_law_1350 : decode cL_law 1350 = .ok (.istore 6, 2) := by decide +kernel
theorem dL_law_1352 : decode cL_law 1352 = .ok (.aload_n 2, 1) := by decide +kernel
theorem dL_law_1353 : decode cL_law 1353 = .ok (.aload_n 0, 1) := by decide +kernel
theorem dL_law_1354 : decode cL_law 1354 = .ok (.iload 5, 2) := by decide +kernel
theorem dL_law_1356 : decode cL_law 1356 = .ok (.iconst 1, 1) := by decide +kernel
theorem dL_law_1357 : decode cL_law 1357 = .ok (.iadd, 1) := by decide +kernel
theorem dL_law_1358 : decode cL_law 1358 = .ok (.iaload, 1) := by decide +kernel
theorem dL_law_1359 : decode cL_law 1359 = .ok (.aload_n 0, 1) := by decide +kernel
theorem dL_law_1360 : decode cL_law 1360 = .ok (.iload 5, 2) := by decide +kernel
theorem dL_law_1362 : decode cL_law 1362 = .ok (.iconst 2, 1) := by decide +kernel
theorem dL_law_1363 : decode cL_law 1363 = .ok (.iadd, 1) := by decide +kernel
theorem dL_law_1364 : decode cL_law 1364 = .ok (.iaload, 1) := by decide +kernel
theorem dL_law_1365 : decode cL_law 1365 = .ok (.invokevirtual 186, 3) := by decide +kernel
theorem dL_law_1368 : decode cL_law 1368 = .ok (.istore 7, 2) := by decide +kernel
theorem dL_law_1370 : decode cL_law 1370 = .ok (.aload_n 2, 1) := by decide +kernel
theorem dL_law_1371 : decode cL_law 1371 = .ok (.invokevirtual 127, 3) := by decide +kernel
theorem dL_law_1374 : decode cL_law 1374 = .ok (.iload 6, 2) := by decide +kernel
theorem dL_law_1376 : decode cL_law 1376 = .ok (.if_icmp .eq 5, 3) := by decide +kernel
theorem dL_law_1379 : decode cL_law 1379 = .ok (.iconst 0, 1) := by decide +kernel
theorem dL_law_1380 : decode cL_law 1380 = .ok (.ireturn, 1) := by decide +kernel
theorem dL_law_1381 : decode cL_law 1381 = .ok (.iload 6, 2) := by decide +kernel
theorem dL_law_1383 : decode cL_law 1383 = .ok (.ifCond .ne 15, 3) := by decide +kernel
theorem dL_law_1386 : decode cL_law 1386 = .ok (.aload_n 3, 1) := by decide +kernel
theorem dL_law_1387 : decode cL_law 1387 = .ok (.iconst 0, 1) := by decide +kernel
theorem dL_law_1388 : decode cL_law 1388 = .ok (.laload, 1) := by decide +kernel
theorem dL_law_1389 : decode cL_law 1389 = .ok (.iload 7, 2) := by decide +kernel
theorem dL_law_1391 : decode cL_law 1391 = .ok (.i2l, 1) := by decide +kernel
theorem dL_law_1392 : decode cL_law 1392 = .ok (.lcmp, 1) := by decide +kernel
theorem dL_law_1393 : decode cL_law 1393 = .ok (.ifCond .eq 5, 3) := by decide +kernel
theorem dL_law_1396 : decode cL_law 1396 = .ok (.iconst 0, 1) := by decide +kernel
theorem dL_law_1397 : decode cL_law 1397 = .ok (.ireturn, 1) := by decide +kernel
theorem dL_law_1398 : decode cL_law 1398 = .ok (.goto 1049, 3) := by decide +kernel
theorem dL_law_1401 : decode cL_law 1401 = .ok (.aload_n 1, 1) := by decide +kernel
theorem dL_law_1402 : decode cL_law 1402 = .ok (.aload_n 0, 1) := by decide +kernel
theorem dL_law_1403 : decode cL_law 1403 = .ok (.iload 5, 2) := by decide +kernel
theorem dL_law_1405 : decode cL_law 1405 = .ok (.iconst 1, 1) := by decide +kernel
theorem dL_law_1406 : decode cL_law 1406 = .ok (.iadd, 1) := by decide +kernel
theorem dL_law_1407 : decode cL_law 1407 = .ok (.iaload, 1) := by decide +kernel
theorem dL_law_1408 : decode cL_law 1408 = .ok (.aload_n 0, 1) := by decide +kernel
theorem dL_law_1409 : decode cL_law 1409 = .ok (.iload 5, 2) := by decide +kernel
theorem dL_law_1411 : decode cL_law 1411 = .ok (.iconst 2, 1) := by decide +kernel
theorem dL_law_1412 : decode cL_law 1412 = .ok (.iadd, 1) := by decide +kernel
theorem dL_law_1413 : decode cL_law 1413 = .ok (.iaload, 1) := by decide +kernel
theorem dL_law_1414 : decode cL_law 1414 = .ok (.aload_n 3, 1) := by decide +kernel
theorem dL_law_1415 : decode cL_law 1415 = .ok (.invokestatic 187, 3) := by decide +kernel
theorem dL_law_1418 : decode cL_law 1418 = .ok (.istore 6, 2) := by decide +kernel
theorem dL_law_1420 : decode cL_law 1420 = .ok (.aload_n 2, 1) := by decide +kernel
theorem dL_law_1421 : decode cL_law 1421 = .ok (.aload_n 0, 1) := by decide +kernel
theorem dL_law_1422 : decode cL_law 1422 = .ok (.iload 5, 2) := by decide +kernel
theorem dL_law_1424 : decode cL_law 1424 = .ok (.iconst 1, 1) := by decide +kernel
theorem dL_law_1425 : decode cL_law 1425 = .ok (.iadd, 1) := by decide +kernel
theorem dL_law_1426 : decode cL_law 1426 = .ok (.iaload, 1) := by decide +kernel
theorem dL_law_1427 : decode cL_law 1427 = .ok (.aload_n 0, 1) := by decide +kernel
theorem dL_law_1428 : decode cL_law 1428 = .ok (.iload 5, 2) := by decide +kernel
theorem dL_law_1430 : decode cL_law 1430 = .ok (.iconst 2, 1) := by decide +kernel
theorem dL_law_1431 : decode cL_law 1431 = .ok (.iadd, 1) := by decide +kernel
theorem dL_law_1432 : decode cL_law 1432 = .ok (.iaload, 1) := by decide +kernel
theorem dL_law_1433 : decode cL_law 1433 = .ok (.invokevirtual 189, 3) := by decide +kernel
theorem dL_law_1436 : decode cL_law 1436 = .ok (.istore 7, 2) := by decide +kernel
theorem dL_law_1438 : decode cL_law 1438 = .ok (.aload_n 2, 1) := by decide +kernel
theorem dL_law_1439 : decode cL_law 1439 = .ok (.invokevirtual 127, 3) := by decide +kernel
theorem dL_law_1442 : decode cL_law 1442 = .ok (.iload 6, 2) := by decide +kernel
theorem dL_law_1444 : decode cL_law 1444 = .ok (.if_icmp .eq 5, 3) := by decide +kernel
theorem dL_law_1447 : decode cL_law 1447 = .ok (.iconst 0, 1) := by decide +kernel
theorem dL_law_1448 : decode cL_law 1448 = .ok (.ireturn, 1) := by decide +kernel
theorem dL_law_1449 : decode cL_law 1449 = .ok (.iload 6, 2) := by decide +kernel
theorem dL_law_1451 : decode cL_law 1451 = .ok (.ifCond .ne 15, 3) := by decide +kernel
theorem dL_law_1454 : decode cL_law 1454 = .ok (.aload_n 3, 1) := by decide +kernel
theorem dL_law_1455 : decode cL_law 1455 = .ok (.iconst 0, 1) := by decide +kernel
theorem dL_law_1456 : decode cL_law 1456 = .ok (.laload, 1) := by decide +kernel
theorem dL_law_1457 : decode cL_law 1457 = .ok (.iload 7, 2) := by decide +kernel
theorem dL_law_1459 : decode cL_law 1459 = .ok (.i2l, 1) := by decide +kernel
theorem dL_law_1460 : decode cL_law 1460 = .ok (.lcmp, 1) := by decide +kernel
theorem dL_law_1461 : decode cL_law 1461 = .ok (.ifCond .eq 5, 3) := by decide +kernel
theorem dL_law_1464 : decode cL_law 1464 = .ok (.iconst 0, 1) := by decide +kernel
theorem dL_law_1465 : decode cL_law 1465 = .ok (.ireturn, 1) := by decide +kernel
theorem dL_law_1466 : decode cL_law 1466 = .ok (.goto 981, 3) := by decide +kernel
theorem dL_law_1469 : decode cL_law 1469 = .ok (.aload_n 1, 1) := by decide +kernel
theorem dL_law_1470 : decode cL_law 1470 = .ok (.aload_n 0, 1) := by decide +kernel
theorem dL_law_1471 : decode cL_law 1471 = .ok (.iload 5, 2) := by decide +kernel
theorem dL_law_1473 : decode cL_law 1473 = .ok (.iconst 1, 1) := by decide +kernel
theorem dL_law_1474 : decode cL_law 1474 = .ok (.iadd, 1) := by decide +kernel
theorem dL_law_1475 : decode cL_law 1475 = .ok (.iaload, 1) := by decide +kernel
theorem dL_law_1476 : decode cL_law 1476 = .ok (.aload_n 0, 1) := by decide +kernel
theorem dL_law_1477 : decode cL_law 1477 = .ok (.iload 5, 2) := by decide +kernel
theorem dL_law_1479 : decode cL_law 1479 = .ok (.iconst 2, 1) := by decide +kernel
theorem dL_law_1480 : decode cL_law 1480 = .ok (.iadd, 1) := by decide +kernel
theorem dL_law_1481 : decode cL_law 1481 = .ok (.iaload, 1) := by decide +kernel
theorem dL_law_1482 : decode cL_law 1482 = .ok (.aload_n 3, 1) := by decide +kernel
theorem dL_law_1483 : decode cL_law 1483 = .ok (.invokestatic 190, 3) := by decide +kernel
theorem dL_law_1486 : decode cL_law 1486 = .ok (.istore 6, 2) := by decide +kernel
theorem dL_law_1488 : decode cL_law 1488 = .ok (.aload_n 2, 1) := by decide +kernel
theorem dL_law_1489 : decode cL_law 1489 = .ok (.aload_n 0, 1) := by decide +kernel
theorem dL_law_1490 : decode cL_law 1490 = .ok (.iload 5, 2) := by decide +kernel
theorem dL_law_1492 : decode cL_law 1492 = .ok (.iconst 1, 1) := by decide +kernel
theorem dL_law_1493 : decode cL_law 1493 = .ok (.iadd, 1) := by decide +kernel
theorem dL_law_1494 : decode cL_law 1494 = .ok (.iaload, 1) := by decide +kernel
theorem dL_law_1495 : decode cL_law 1495 = .ok (.aload_n 0, 1) := by decide +kernel
theorem dL_law_1496 : decode cL_law 1496 = .ok (.iload 5, 2) := by decide +kernel
theorem dL_law_1498 : decode cL_law 1498 = .ok (.iconst 2, 1) := by decide +kernel
theorem dL_law_1499 : decode cL_law 1499 = .ok (.iadd, 1) := by decide +kernel
theorem dL_law_1500 : decode cL_law 1500 = .ok (.iaload, 1) := by decide +kernel
theorem dL_law_1501 : decode cL_law 1501 = .ok (.invokevirtual 192, 3) := by decide +kernel
theorem dL_law_1504 : decode cL_law 1504 = .ok (.istore 7, 2) := by decide +kernel
theorem dL_law_1506 : decode cL_law 1506 = .ok (.aload_n 2, 1) := by decide +kernel
theorem dL_law_1507 : decode cL_law 1507 = .ok (.invokevirtual 127, 3) := by decide +kernel
theorem dL_law_1510 : decode cL_law 1510 = .ok (.iload 6, 2) := by decide +kernel
theorem dL_law_1512 : decode cL_law 1512 = .ok (.if_icmp .eq 5, 3) := by decide +kernel
theorem dL_law_1515 : decode cL_law 1515 = .ok (.iconst 0, 1) := by decide +kernel
theorem dL_law_1516 : decode cL_law 1516 = .ok (.ireturn, 1) := by decide +kernel
theorem dL_law_1517 : decode cL_law 1517 = .ok (.iload 6, 2) := by decide +kernel
theorem dL_law_1519 : decode cL_law 1519 = .ok (.ifCond .ne 15, 3) := by decide +kernel
theorem dL_law_1522 : decode cL_law 1522 = .ok (.aload_n 3, 1) := by decide +kernel
theorem dL_law_1523 : decode cL_law 1523 = .ok (.iconst 0, 1) := by decide +kernel
theorem dL_law_1524 : decode cL_law 1524 = .ok (.laload, 1) := by decide +kernel
theorem dL_law_1525 : decode cL_law 1525 = .ok (.iload 7, 2) := by decide +kernel
theorem dL_law_1527 : decode cL_law 1527 = .ok (.i2l, 1) := by decide +kernel
theorem dL_law_1528 : decode cL_law 1528 = .ok (.lcmp, 1) := by decide +kernel
theorem dL_law_1529 : decode cL_law 1529 = .ok (.ifCond .eq 5, 3) := by decide +kernel
theorem dL_law_1532 : decode cL_law 1532 = .ok (.iconst 0, 1) := by decide +kernel
theorem dL_law_1533 : decode cL_law 1533 = .ok (.ireturn, 1) := by decide +kernel
theorem dL_law_1534 : decode cL_law 1534 = .ok (.goto 913, 3) := by decide +kernel
theorem dL_law_1537 : decode cL_law 1537 = .ok (.aload_n 1, 1) := by decide +kernel
theorem dL_law_1538 : decode cL_law 1538 = .ok (.aload_n 0, 1) := by decide +kernel
theorem dL_law_1539 : decode cL_law 1539 = .ok (.iload 5, 2) := by decide +kernel
theorem dL_law_1541 : decode cL_law 1541 = .ok (.iconst 1, 1) := by decide +kernel
theorem dL_law_1542 : decode cL_law 1542 = .ok (.iadd, 1) := by decide +kernel
theorem dL_law_1543 : decode cL_law 1543 = .ok (.iaload, 1) := by decide +kernel
theorem dL_law_1544 : decode cL_law 1544 = .ok (.aload 4, 2) := by decide +kernel
theorem dL_law_1546 : decode cL_law 1546 = .ok (.invokestatic 193, 3) := by decide +kernel
theorem dL_law_1549 : decode cL_law 1549 = .ok (.istore 6, 2) := by decide +kernel
theorem dL_law_1551 : decode cL_law 1551 = .ok (.aload_n 2, 1) := by decide +kernel
theorem dL_law_1552 : decode cL_law 1552 = .ok (.aload_n 0, 1) := by decide +kernel
theorem dL_law_1553 : decode cL_law 1553 = .ok (.iload 5, 2) := by decide +kernel
theorem dL_law_1555 : decode cL_law 1555 = .ok (.iconst 1, 1) := by decide +kernel
theorem dL_law_1556 : decode cL_law 1556 = .ok (.iadd, 1) := by decide +kernel
theorem dL_law_1557 : decode cL_law 1557 = .ok (.iaload, 1) := by decide +kernel
theorem dL_law_1558 : decode cL_law 1558 = .ok (.invokevirtual 196, 3) := by decide +kernel
theorem dL_law_1561 : decode cL_law 1561 = .ok (.dstore 7, 2) := by decide +kernel
theorem dL_law_1563 : decode cL_law 1563 = .ok (.aload_n 2, 1) := by decide +kernel
theorem dL_law_1564 : decode cL_law 1564 = .ok (.invokevirtual 127, 3) := by decide +kernel
theorem dL_law_1567 : decode cL_law 1567 = .ok (.iload 6, 2) := by decide +kernel
theorem dL_law_1569 : decode cL_law 1569 = .ok (.if_icmp .eq 5, 3) := by decide +kernel
theorem dL_law_1572 : decode cL_law 1572 = .ok (.iconst 0, 1) := by decide +kernel
theorem dL_law_1573 : decode cL_law 1573 = .ok (.ireturn, 1) := by decide +kernel
theorem dL_law_1574 : decode cL_law 1574 = .ok (.iload 6, 2) := by decide +kernel
theorem dL_law_1576 : decode cL_law 1576 = .ok (.ifCond .ne 35, 3) := by decide +kernel
theorem dL_law_1579 : decode cL_law 1579 = .ok (.aload 4, 2) := by decide +kernel
theorem dL_law_1581 : decode cL_law 1581 = .ok (.iconst 0, 1) := by decide +kernel
theorem dL_law_1582 : decode cL_law 1582 = .ok (.daload, 1) := by decide +kernel
theorem dL_law_1583 : decode cL_law 1583 = .ok (.dload 7, 2) := by decide +kernel
theorem dL_law_1585 : decode cL_law 1585 = .ok (.dcmp .l, 1) := by decide +kernel
theorem dL_law_1586 : decode cL_law 1586 = .ok (.ifCond .eq 25, 3) := by decide +kernel
theorem dL_law_1589 : decode cL_law 1589 = .ok (.aload 4, 2) := by decide +kernel
theorem dL_law_1591 : decode cL_law 1591 = .ok (.iconst 0, 1) := by decide +kernel
theorem dL_law_1592 : decode cL_law 1592 = .ok (.daload, 1) := by decide +kernel
theorem dL_law_1593 : decode cL_law 1593 = .ok (.aload 4, 2) := by decide +kernel
theorem dL_law_1595 : decode cL_law 1595 = .ok (.iconst 0, 1) := by decide +kernel
theorem dL_law_1596 : decode cL_law 1596 = .ok (.daload, 1) := by decide +kernel
theorem dL_law_1597 : decode cL_law 1597 = .ok (.dcmp .l, 1) := by decide +kernel
theorem dL_law_1598 : decode cL_law 1598 = .ok (.ifCond .eq 11, 3) := by decide +kernel
theorem dL_law_1601 : decode cL_law 1601 = .ok (.dload 7, 2) := by decide +kernel
theorem dL_law_1603 : decode cL_law 1603 = .ok (.dload 7, 2) := by decide +kernel
theorem dL_law_1605 : decode cL_law 1605 = .ok (.dcmp .l, 1) := by decide +kernel
theorem dL_law_1606 : decode cL_law 1606 = .ok (.ifCond .ne 5, 3) := by decide +kernel
theorem dL_law_1609 : decode cL_law 1609 = .ok (.iconst 0, 1) := by decide +kernel
theorem dL_law_1610 : decode cL_law 1610 = .ok (.ireturn, 1) := by decide +kernel
theorem dL_law_1611 : decode cL_law 1611 = .ok (.goto 836, 3) := by decide +kernel
theorem dL_law_1614 : decode cL_law 1614 = .ok (.aload_n 1, 1) := by decide +kernel
theorem dL_law_1615 : decode cL_law 1615 = .ok (.aload_n 0, 1) := by decide +kernel
theorem dL_law_1616 : decode cL_law 1616 = .ok (.iload 5, 2) := by decide +kernel
theorem dL_law_1618 : decode cL_law 1618 = .ok (.iconst 1, 1) := by decide +kernel
theorem dL_law_1619 : decode cL_law 1619 = .ok (.iadd, 1) := by decide +kernel
theorem dL_law_1620 : decode cL_law 1620 = .ok (.iaload, 1) := by decide +kernel
theorem dL_law_1621 : decode cL_law 1621 = .ok (.aload 4, 2) := by decide +kernel
theorem dL_law_1623 : decode cL_law 1623 = .ok (.invokestatic 197, 3) := by decide +kernel
theorem dL_law_1626 : decode cL_law 1626 = .ok (.istore 6, 2) := by decide +kernel
theorem dL_law_1628 : decode cL_law 1628 = .ok (.aload_n 2, 1) := by decide +kernel
theorem dL_law_1629 : decode cL_law 1629 = .ok (.aload_n 0, 1) := by decide +kernel
theorem dL_law_1630 : decode cL_law 1630 = .ok (.iload 5, 2) := by decide +kernel
theorem dL_law_1632 : decode cL_law 1632 = .ok (.iconst 1, 1) := by decide +kernel
theorem dL_law_1633 : decode cL_law 1633 = .ok (.iadd, 1) := by decide +kernel
theorem dL_law_1634 : decode cL_law 1634 = .ok (.iaload, 1) := by decide +kernel
theorem dL_law_1635 : decode cL_law 1635 = .ok (.invokevirtual 199, 3) := by decide +kernel
theorem dL_law_1638 : decode cL_law 1638 = .ok (.fstore 7, 2) := by decide +kernel
theorem dL_law_1640 : decode cL_law 1640 = .ok (.aload_n 2, 1) := by decide +kernel
theorem dL_law_1641 : decode cL_law 1641 = .ok (.invokevirtual 127, 3) := by decide +kernel
theorem dL_law_1644 : decode cL_law 1644 = .ok (.iload 6, 2) := by decide +kernel
theorem dL_law_1646 : decode cL_law 1646 = .ok (.if_icmp .eq 5, 3) := by decide +kernel
theorem dL_law_1649 : decode cL_law 1649 = .ok (.iconst 0, 1) := by decide +kernel
theorem dL_law_1650 : decode cL_law 1650 = .ok (.ireturn, 1) := by decide +kernel
theorem dL_law_1651 : decode cL_law 1651 = .ok (.iload 6, 2) := by decide +kernel
theorem dL_law_1653 : decode cL_law 1653 = .ok (.ifCond .ne 36, 3) := by decide +kernel
theorem dL_law_1656 : decode cL_law 1656 = .ok (.aload 4, 2) := by decide +kernel
theorem dL_law_1658 : decode cL_law 1658 = .ok (.iconst 0, 1) := by decide +kernel
theorem dL_law_1659 : decode cL_law 1659 = .ok (.daload, 1) := by decide +kernel
theorem dL_law_1660 : decode cL_law 1660 = .ok (.fload 7, 2) := by decide +kernel
theorem dL_law_1662 : decode cL_law 1662 = .ok (.f2d, 1) := by decide +kernel
theorem dL_law_1663 : decode cL_law 1663 = .ok (.dcmp .l, 1) := by decide +kernel
theorem dL_law_1664 : decode cL_law 1664 = .ok (.ifCond .eq 25, 3) := by decide +kernel
theorem dL_law_1667 : decode cL_law 1667 = .ok (.aload 4, 2) := by decide +kernel
theorem dL_law_1669 : decode cL_law 1669 = .ok (.iconst 0, 1) := by decide +kernel
theorem dL_law_1670 : decode cL_law 1670 = .ok (.daload, 1) := by decide +kernel
theorem dL_law_1671 : decode cL_law 1671 = .ok (.aload 4, 2) := by decide +kernel
theorem dL_law_1673 : decode cL_law 1673 = .ok (.iconst 0, 1) := by decide +kernel
theorem dL_law_1674 : decode cL_law 1674 = .ok (.daload, 1) := by decide +kernel
theorem dL_law_1675 : decode cL_law 1675 = .ok (.dcmp .l, 1) := by decide +kernel
theorem dL_law_1676 : decode cL_law 1676 = .ok (.ifCond .eq 11, 3) := by decide +kernel
theorem dL_law_1679 : decode cL_law 1679 = .ok (.fload 7, 2) := by decide +kernel
theorem dL_law_1681 : decode cL_law 1681 = .ok (.fload 7, 2) := by decide +kernel
theorem dL_law_1683 : decode cL_law 1683 = .ok (.fcmp .l, 1) := by decide +kernel
theorem dL_law_1684 : decode cL_law 1684 = .ok (.ifCond .ne 5, 3) := by decide +kernel
theorem dL_law_1687 : decode cL_law 1687 = .ok (.iconst 0, 1) := by decide +kernel
theorem dL_law_1688 : decode cL_law 1688 = .ok (.ireturn, 1) := by decide +kernel
theorem dL_law_1689 : decode cL_law 1689 = .ok (.goto 758, 3) := by decide +kernel
theorem dL_law_1692 : decode cL_law 1692 = .ok (.aload_n 1, 1) := by decide +kernel
theorem dL_law_1693 : decode cL_law 1693 = .ok (.aload_n 0, 1) := by decide +kernel
theorem dL_law_1694 : decode cL_law 1694 = .ok (.iload 5, 2) := by decide +kernel
theorem dL_law_1696 : decode cL_law 1696 = .ok (.iconst 1, 1) := by decide +kernel
theorem dL_law_1697 : decode cL_law 1697 = .ok (.iadd, 1) := by decide +kernel
theorem dL_law_1698 : decode cL_law 1698 = .ok (.iaload, 1) := by decide +kernel
theorem dL_law_1699 : decode cL_law 1699 = .ok (.aload_n 0, 1) := by decide +kernel
theorem dL_law_1700 : decode cL_law 1700 = .ok (.iload 5, 2) := by decide +kernel
theorem dL_law_1702 : decode cL_law 1702 = .ok (.iconst 2, 1) := by decide +kernel
theorem dL_law_1703 : decode cL_law 1703 = .ok (.iadd, 1) := by decide +kernel
theorem dL_law_1704 : decode cL_law 1704 = .ok (.iaload, 1) := by decide +kernel
theorem dL_law_1705 : decode cL_law 1705 = .ok (.aload_n 0, 1) := by decide +kernel
theorem dL_law_1706 : decode cL_law 1706 = .ok (.iload 5, 2) := by decide +kernel
theorem dL_law_1708 : decode cL_law 1708 = .ok (.iconst 3, 1) := by decide +kernel
theorem dL_law_1709 : decode cL_law 1709 = .ok (.iadd, 1) := by decide +kernel
theorem dL_law_1710 : decode cL_law 1710 = .ok (.iaload, 1) := by decide +kernel
theorem dL_law_1711 : decode cL_law 1711 = .ok (.aload_n 0, 1) := by decide +kernel
theorem dL_law_1712 : decode cL_law 1712 = .ok (.iload 5, 2) := by decide +kernel
theorem dL_law_1714 : decode cL_law 1714 = .ok (.iconst 4, 1) := by decide +kernel
theorem dL_law_1715 : decode cL_law 1715 = .ok (.iadd, 1) := by decide +kernel
theorem dL_law_1716 : decode cL_law 1716 = .ok (.iaload, 1) := by decide +kernel
theorem dL_law_1717 : decode cL_law 1717 = .ok (.aload_n 3, 1) := by decide +kernel
theorem dL_law_1718 : decode cL_law 1718 = .ok (.invokestatic 200, 3) := by decide +kernel
theorem dL_law_1721 : decode cL_law 1721 = .ok (.istore 6, 2) := by decide +kernel
theorem dL_law_1723 : decode cL_law 1723 = .ok (.aload_n 2, 1) := by decide +kernel
theorem dL_law_1724 : decode cL_law 1724 = .ok (.aload_n 0, 1) := by decide +kernel
theorem dL_law_1725 : decode cL_law 1725 = .ok (.iload 5, 2) := by decide +kernel
theorem dL_law_1727 : decode cL_law 1727 = .ok (.iconst 1, 1) := by decide +kernel
theorem dL_law_1728 : decode cL_law 1728 = .ok (.iadd, 1) := by decide +kernel
theorem dL_law_1729 : decode cL_law 1729 = .ok (.iaload, 1) := by decide +kernel
theorem dL_law_1730 : decode cL_law 1730 = .ok (.aload_n 0, 1) := by decide +kernel
theorem dL_law_1731 : decode cL_law 1731 = .ok (.iload 5, 2) := by decide +kernel
theorem dL_law_1733 : decode cL_law 1733 = .ok (.iconst 2, 1) := by decide +kernel
theorem dL_law_1734 : decode cL_law 1734 = .ok (.iadd, 1) := by decide +kernel
theorem dL_law_1735 : decode cL_law 1735 = .ok (.iaload, 1) := by decide +kernel
theorem dL_law_1736 : decode cL_law 1736 = .ok (.aload_n 0, 1) := by decide +kernel
theorem dL_law_1737 : decode cL_law 1737 = .ok (.iload 5, 2) := by decide +kernel
theorem dL_law_1739 : decode cL_law 1739 = .ok (.iconst 3, 1) := by decide +kernel
theorem dL_law_1740 : decode cL_law 1740 = .ok (.iadd, 1) := by decide +kernel
theorem dL_law_1741 : decode cL_law 1741 = .ok (.iaload, 1) := by decide +kernel
theorem dL_law_1742 : decode cL_law 1742 = .ok (.aload_n 0, 1) := by decide +kernel
theorem dL_law_1743 : decode cL_law 1743 = .ok (.iload 5, 2) := by decide +kernel
theorem dL_law_1745 : decode cL_law 1745 = .ok (.iconst 4, 1) := by decide +kernel
theorem dL_law_1746 : decode cL_law 1746 = .ok (.iadd, 1) := by decide +kernel
theorem dL_law_1747 : decode cL_law 1747 = .ok (.iaload, 1) := by decide +kernel
theorem dL_law_1748 : decode cL_law 1748 = .ok (.invokevirtual 202, 3) := by decide +kernel
theorem dL_law_1751 : decode cL_law 1751 = .ok (.istore 7, 2) := by decide +kernel
theorem dL_law_1753 : decode cL_law 1753 = .ok (.aload_n 2, 1) := by decide +kernel
theorem dL_law_1754 : decode cL_law 1754 = .ok (.invokevirtual 127, 3) := by decide +kernel
theorem dL_law_1757 : decode cL_law 1757 = .ok (.iload 6, 2) := by decide +kernel
theorem dL_law_1759 : decode cL_law 1759 = .ok (.if_icmp .eq 5, 3) := by decide +kernel
theorem dL_law_1762 : decode cL_law 1762 = .ok (.iconst 0, 1) := by decide +kernel
theorem dL_law_1763 : decode cL_law 1763 = .ok (.ireturn, 1) := by decide +kernel
theorem dL_law_1764 : decode cL_law 1764 = .ok (.iload 6, 2) := by decide +kernel
theorem dL_law_1766 : decode cL_law 1766 = .ok (.ifCond .ne 15, 3) := by decide +kernel
theorem dL_law_1769 : decode cL_law 1769 = .ok (.aload_n 3, 1) := by decide +kernel
theorem dL_law_1770 : decode cL_law 1770 = .ok (.iconst 0, 1) := by decide +kernel
theorem dL_law_1771 : decode cL_law 1771 = .ok (.laload, 1) := by decide +kernel
theorem dL_law_1772 : decode cL_law 1772 = .ok (.iload 7, 2) := by decide +kernel
theorem dL_law_1774 : decode cL_law 1774 = .ok (.i2l, 1) := by decide +kernel
theorem dL_law_1775 : decode cL_law 1775 = .ok (.lcmp, 1) := by decide +kernel
theorem dL_law_1776 : decode cL_law 1776 = .ok (.ifCond .eq 5, 3) := by decide +kernel
theorem dL_law_1779 : decode cL_law 1779 = .ok (.iconst 0, 1) := by decide +kernel
theorem dL_law_1780 : decode cL_law 1780 = .ok (.ireturn, 1) := by decide +kernel
theorem dL_law_1781 : decode cL_law 1781 = .ok (.goto 666, 3) := by decide +kernel
theorem dL_law_1784 : decode cL_law 1784 = .ok (.aload_n 1, 1) := by decide +kernel
theorem dL_law_1785 : decode cL_law 1785 = .ok (.aload_n 0, 1) := by decide +kernel
theorem dL_law_1786 : decode cL_law 1786 = .ok (.iload 5, 2) := by decide +kernel
theorem dL_law_1788 : decode cL_law 1788 = .ok (.iconst 1, 1) := by decide +kernel
theorem dL_law_1789 : decode cL_law 1789 = .ok (.iadd, 1) := by decide +kernel
theorem dL_law_1790 : decode cL_law 1790 = .ok (.iaload, 1) := by decide +kernel
theorem dL_law_1791 : decode cL_law 1791 = .ok (.aload_n 0, 1) := by decide +kernel
theorem dL_law_1792 : decode cL_law 1792 = .ok (.iload 5, 2) := by decide +kernel
theorem dL_law_1794 : decode cL_law 1794 = .ok (.iconst 2, 1) := by decide +kernel
theorem dL_law_1795 : decode cL_law 1795 = .ok (.iadd, 1) := by decide +kernel
theorem dL_law_1796 : decode cL_law 1796 = .ok (.iaload, 1) := by decide +kernel
theorem dL_law_1797 : decode cL_law 1797 = .ok (.aload_n 0, 1) := by decide +kernel
theorem dL_law_1798 : decode cL_law 1798 = .ok (.iload 5, 2) := by decide +kernel
theorem dL_law_1800 : decode cL_law 1800 = .ok (.iconst 3, 1) := by decide +kernel
theorem dL_law_1801 : decode cL_law 1801 = .ok (.iadd, 1) := by decide +kernel
theorem dL_law_1802 : decode cL_law 1802 = .ok (.iaload, 1) := by decide +kernel
theorem dL_law_1803 : decode cL_law 1803 = .ok (.aload_n 0, 1) := by decide +kernel
theorem dL_law_1804 : decode cL_law 1804 = .ok (.iload 5, 2) := by decide +kernel
theorem dL_law_1806 : decode cL_law 1806 = .ok (.iconst 4, 1) := by decide +kernel
theorem dL_law_1807 : decode cL_law 1807 = .ok (.iadd, 1) := by decide +kernel
theorem dL_law_1808 : decode cL_law 1808 = .ok (.iaload, 1) := by decide +kernel
theorem dL_law_1809 : decode cL_law 1809 = .ok (.aload_n 3, 1) := by decide +kernel
theorem dL_law_1810 : decode cL_law 1810 = .ok (.invokestatic 203, 3) := by decide +kernel
theorem dL_law_1813 : decode cL_law 1813 = .ok (.istore 6, 2) := by decide +kernel
theorem dL_law_1815 : decode cL_law 1815 = .ok (.aload_n 2, 1) := by decide +kernel
theorem dL_law_1816 : decode cL_law 1816 = .ok (.aload_n 0, 1) := by decide +kernel
theorem dL_law_1817 : decode cL_law 1817 = .ok (.iload 5, 2) := by decide +kernel
theorem dL_law_1819 : decode cL_law 1819 = .ok (.iconst 1, 1) := by decide +kernel
theorem dL_law_1820 : decode cL_law 1820 = .ok (.iadd, 1) := by decide +kernel
theorem dL_law_1821 : decode cL_law 1821 = .ok (.iaload, 1) := by decide +kernel
theorem dL_law_1822 : decode cL_law 1822 = .ok (.aload_n 0, 1) := by decide +kernel
theorem dL_law_1823 : decode cL_law 1823 = .ok (.iload 5, 2) := by decide +kernel
theorem dL_law_1825 : decode cL_law 1825 = .ok (.iconst 2, 1) := by decide +kernel
theorem dL_law_1826 : decode cL_law 1826 = .ok (.iadd, 1) := by decide +kernel
theorem dL_law_1827 : decode cL_law 1827 = .ok (.iaload, 1) := by decide +kernel
theorem dL_law_1828 : decode cL_law 1828 = .ok (.aload_n 0, 1) := by decide +kernel
theorem dL_law_1829 : decode cL_law 1829 = .ok (.iload 5, 2) := by decide +kernel
theorem dL_law_1831 : decode cL_law 1831 = .ok (.iconst 3, 1) := by decide +kernel
theorem dL_law_1832 : decode cL_law 1832 = .ok (.iadd, 1) := by decide +kernel
theorem dL_law_1833 : decode cL_law 1833 = .ok (.iaload, 1) := by decide +kernel
theorem dL_law_1834 : decode cL_law 1834 = .ok (.aload_n 0, 1) := by decide +kernel
theorem dL_law_1835 : decode cL_law 1835 = .ok (.iload 5, 2) := by decide +kernel
theorem dL_law_1837 : decode cL_law 1837 = .ok (.iconst 4, 1) := by decide +kernel
theorem dL_law_1838 : decode cL_law 1838 = .ok (.iadd, 1) := by decide +kernel
theorem dL_law_1839 : decode cL_law 1839 = .ok (.iaload, 1) := by decide +kernel
theorem dL_law_1840 : decode cL_law 1840 = .ok (.invokevirtual 205, 3) := by decide +kernel
theorem dL_law_1843 : decode cL_law 1843 = .ok (.istore 7, 2) := by decide +kernel
theorem dL_law_1845 : decode cL_law 1845 = .ok (.aload_n 2, 1) := by decide +kernel
theorem dL_law_1846 : decode cL_law 1846 = .ok (.invokevirtual 127, 3) := by decide +kernel
theorem dL_law_1849 : decode cL_law 1849 = .ok (.iload 6, 2) := by decide +kernel
theorem dL_law_1851 : decode cL_law 1851 = .ok (.if_icmp .eq 5, 3) := by decide +kernel
theorem dL_law_1854 : decode cL_law 1854 = .ok (.iconst 0, 1) := by decide +kernel
theorem dL_law_1855 : decode cL_law 1855 = .ok (.ireturn, 1) := by decide +kernel
theorem dL_law_1856 : decode cL_law 1856 = .ok (.iload 6, 2) := by decide +kernel
theorem dL_law_1858 : decode cL_law 1858 = .ok (.ifCond .ne 15, 3) := by decide +kernel
theorem dL_law_1861 : decode cL_law 1861 = .ok (.aload_n 3, 1) := by decide +kernel
theorem dL_law_1862 : decode cL_law 1862 = .ok (.iconst 0, 1) := by decide +kernel
theorem dL_law_1863 : decode cL_law 1863 = .ok (.laload, 1) := by decide +kernel
theorem dL_law_1864 : decode cL_law 1864 = .ok (.iload 7, 2) := by decide +kernel
theorem dL_law_1866 : decode cL_law 1866 = .ok (.i2l, 1) := by decide +kernel
theorem dL_law_1867 : decode cL_law 1867 = .ok (.lcmp, 1) := by decide +kernel
theorem dL_law_1868 : decode cL_law 1868 = .ok (.ifCond .eq 5, 3) := by decide +kernel
theorem dL_law_1871 : decode cL_law 1871 = .ok (.iconst 0, 1) := by decide +kernel
theorem dL_law_1872 : decode cL_law 1872 = .ok (.ireturn, 1) := by decide +kernel
theorem dL_law_1873 : decode cL_law 1873 = .ok (.goto 574, 3) := by decide +kernel
theorem dL_law_1876 : decode cL_law 1876 = .ok (.aload_n 1, 1) := by decide +kernel
theorem dL_law_1877 : decode cL_law 1877 = .ok (.aload_n 0, 1) := by decide +kernel
theorem dL_law_1878 : decode cL_law 1878 = .ok (.iload 5, 2) := by decide +kernel
theorem dL_law_1880 : decode cL_law 1880 = .ok (.iconst 1, 1) := by decide +kernel
theorem dL_law_1881 : decode cL_law 1881 = .ok (.iadd, 1) := by decide +kernel
theorem dL_law_1882 : decode cL_law 1882 = .ok (.iaload, 1) := by decide +kernel
theorem dL_law_1883 : decode cL_law 1883 = .ok (.aload_n 0, 1) := by decide +kernel
theorem dL_law_1884 : decode cL_law 1884 = .ok (.iload 5, 2) := by decide +kernel
theorem dL_law_1886 : decode cL_law 1886 = .ok (.iconst 2, 1) := by decide +kernel
theorem dL_law_1887 : decode cL_law 1887 = .ok (.iadd, 1) := by decide +kernel
theorem dL_law_1888 : decode cL_law 1888 = .ok (.iaload, 1) := by decide +kernel
theorem dL_law_1889 : decode cL_law 1889 = .ok (.aload_n 0, 1) := by decide +kernel
theorem dL_law_1890 : decode cL_law 1890 = .ok (.iload 5, 2) := by decide +kernel
theorem dL_law_1892 : decode cL_law 1892 = .ok (.iconst 3, 1) := by decide +kernel
theorem dL_law_1893 : decode cL_law 1893 = .ok (.iadd, 1) := by decide +kernel
theorem dL_law_1894 : decode cL_law 1894 = .ok (.iaload, 1) := by decide +kernel
theorem dL_law_1895 : decode cL_law 1895 = .ok (.aload_n 0, 1) := by decide +kernel
theorem dL_law_1896 : decode cL_law 1896 = .ok (.iload 5, 2) := by decide +kernel
theorem dL_law_1898 : decode cL_law 1898 = .ok (.iconst 4, 1) := by decide +kernel
theorem dL_law_1899 : decode cL_law 1899 = .ok (.iadd, 1) := by decide +kernel
theorem dL_law_1900 : decode cL_law 1900 = .ok (.iaload, 1) := by decide +kernel
theorem dL_law_1901 : decode cL_law 1901 = .ok (.aload_n 3, 1) := by decide +kernel
theorem dL_law_1902 : decode cL_law 1902 = .ok (.invokestatic 206, 3) := by decide +kernel
theorem dL_law_1905 : decode cL_law 1905 = .ok (.istore 6, 2) := by decide +kernel
theorem dL_law_1907 : decode cL_law 1907 = .ok (.aload_n 2, 1) := by decide +kernel
theorem dL_law_1908 : decode cL_law 1908 = .ok (.aload_n 0, 1) := by decide +kernel
theorem dL_law_1909 : decode cL_law 1909 = .ok (.iload 5, 2) := by decide +kernel
theorem dL_law_1911 : decode cL_law 1911 = .ok (.iconst 1, 1) := by decide +kernel
theorem dL_law_1912 : decode cL_law 1912 = .ok (.iadd, 1) := by decide +kernel
theorem dL_law_1913 : decode cL_law 1913 = .ok (.iaload, 1) := by decide +kernel
theorem dL_law_1914 : decode cL_law 1914 = .ok (.aload_n 0, 1) := by decide +kernel
theorem dL_law_1915 : decode cL_law 1915 = .ok (.iload 5, 2) := by decide +kernel
theorem dL_law_1917 : decode cL_law 1917 = .ok (.iconst 2, 1) := by decide +kernel
theorem dL_law_1918 : decode cL_law 1918 = .ok (.iadd, 1) := by decide +kernel
theorem dL_law_1919 : decode cL_law 1919 = .ok (.iaload, 1) := by decide +kernel
theorem dL_law_1920 : decode cL_law 1920 = .ok (.aload_n 0, 1) := by decide +kernel
theorem dL_law_1921 : decode cL_law 1921 = .ok (.iload 5, 2) := by decide +kernel
theorem dL_law_1923 : decode cL_law 1923 = .ok (.iconst 3, 1) := by decide +kernel
theorem dL_law_1924 : decode cL_law 1924 = .ok (.iadd, 1) := by decide +kernel
theorem dL_law_1925 : decode cL_law 1925 = .ok (.iaload, 1) := by decide +kernel
theorem dL_law_1926 : decode cL_law 1926 = .ok (.aload_n 0, 1) := by decide +kernel
theorem dL_law_1927 : decode cL_law 1927 = .ok (.iload 5, 2) := by decide +kernel
theorem dL_law_1929 : decode cL_law 1929 = .ok (.iconst 4, 1) := by decide +kernel
theorem dL_law_1930 : decode cL_law 1930 = .ok (.iadd, 1) := by decide +kernel
theorem dL_law_1931 : decode cL_law 1931 = .ok (.iaload, 1) := by decide +kernel
theorem dL_law_1932 : decode cL_law 1932 = .ok (.invokevirtual 208, 3) := by decide +kernel
theorem dL_law_1935 : decode cL_law 1935 = .ok (.istore 7, 2) := by decide +kernel
theorem dL_law_1937 : decode cL_law 1937 = .ok (.aload_n 2, 1) := by decide +kernel
theorem dL_law_1938 : decode cL_law 1938 = .ok (.invokevirtual 127, 3) := by decide +kernel
theorem dL_law_1941 : decode cL_law 1941 = .ok (.iload 6, 2) := by decide +kernel
theorem dL_law_1943 : decode cL_law 1943 = .ok (.if_icmp .eq 5, 3) := by decide +kernel
theorem dL_law_1946 : decode cL_law 1946 = .ok (.iconst 0, 1) := by decide +kernel
theorem dL_law_1947 : decode cL_law 1947 = .ok (.ireturn, 1) := by decide +kernel
theorem dL_law_1948 : decode cL_law 1948 = .ok (.iload 6, 2) := by decide +kernel
theorem dL_law_1950 : decode cL_law 1950 = .ok (.ifCond .ne 15, 3) := by decide +kernel
theorem dL_law_1953 : decode cL_law 1953 = .ok (.aload_n 3, 1) := by decide +kernel
theorem dL_law_1954 : decode cL_law 1954 = .ok (.iconst 0, 1) := by decide +kernel
theorem dL_law_1955 : decode cL_law 1955 = .ok (.laload, 1) := by decide +kernel
theorem dL_law_1956 : decode cL_law 1956 = .ok (.iload 7, 2) := by decide +kernel
theorem dL_law_1958 : decode cL_law 1958 = .ok (.i2l, 1) := by decide +kernel
theorem dL_law_1959 : decode cL_law 1959 = .ok (.lcmp, 1) := by decide +kernel
theorem dL_law_1960 : decode cL_law 1960 = .ok (.ifCond .eq 5, 3) := by decide +kernel
theorem dL_law_1963 : decode cL_law 1963 = .ok (.iconst 0, 1) := by decide +kernel
theorem dL_law_1964 : decode cL_law 1964 = .ok (.ireturn, 1) := by decide +kernel
theorem dL_law_1965 : decode cL_law 1965 = .ok (.goto 482, 3) := by decide +kernel
theorem dL_law_1968 : decode cL_law 1968 = .ok (.aload_n 1, 1) := by decide +kernel
theorem dL_law_1969 : decode cL_law 1969 = .ok (.aload_n 0, 1) := by decide +kernel
theorem dL_law_1970 : decode cL_law 1970 = .ok (.iload 5, 2) := by decide +kernel
theorem dL_law_1972 : decode cL_law 1972 = .ok (.iconst 1, 1) := by decide +kernel
theorem dL_law_1973 : decode cL_law 1973 = .ok (.iadd, 1) := by decide +kernel
theorem dL_law_1974 : decode cL_law 1974 = .ok (.iaload, 1) := by decide +kernel
theorem dL_law_1975 : decode cL_law 1975 = .ok (.aload_n 0, 1) := by decide +kernel
theorem dL_law_1976 : decode cL_law 1976 = .ok (.iload 5, 2) := by decide +kernel
theorem dL_law_1978 : decode cL_law 1978 = .ok (.iconst 2, 1) := by decide +kernel
theorem dL_law_1979 : decode cL_law 1979 = .ok (.iadd, 1) := by decide +kernel
theorem dL_law_1980 : decode cL_law 1980 = .ok (.iaload, 1) := by decide +kernel
theorem dL_law_1981 : decode cL_law 1981 = .ok (.aload_n 0, 1) := by decide +kernel
theorem dL_law_1982 : decode cL_law 1982 = .ok (.iload 5, 2) := by decide +kernel
theorem dL_law_1984 : decode cL_law 1984 = .ok (.iconst 3, 1) := by decide +kernel
theorem dL_law_1985 : decode cL_law 1985 = .ok (.iadd, 1) := by decide +kernel
theorem dL_law_1986 : decode cL_law 1986 = .ok (.iaload, 1) := by decide +kernel
theorem dL_law_1987 : decode cL_law 1987 = .ok (.aload_n 0, 1) := by decide +kernel
theorem dL_law_1988 : decode cL_law 1988 = .ok (.iload 5, 2) := by decide +kernel
theorem dL_law_1990 : decode cL_law 1990 = .ok (.iconst 4, 1) := by decide +kernel
theorem dL_law_1991 : decode cL_law 1991 = .ok (.iadd, 1) := by decide +kernel
theorem dL_law_1992 : decode cL_law 1992 = .ok (.iaload, 1) := by decide +kernel
theorem dL_law_1993 : decode cL_law 1993 = .ok (.aload_n 3, 1) := by decide +kernel
theorem dL_law_1994 : decode cL_law 1994 = .ok (.invokestatic 209, 3) := by decide +kernel
theorem dL_law_1997 : decode cL_law 1997 = .ok (.istore 6, 2) := by decide +kernel
theorem dL_law_1999 : decode cL_law 1999 = .ok (.aload_n 2, 1) := by decide +kernel
theorem dL_law_2000 : decode cL_law 2000 = .ok (.aload_n 0, 1) := by decide +kernel
theorem dL_law_2001 : decode cL_law 2001 = .ok (.iload 5, 2) := by decide +kernel
theorem dL_law_2003 : decode cL_law 2003 = .ok (.iconst 1, 1) := by decide +kernel
theorem dL_law_2004 : decode cL_law 2004 = .ok (.iadd, 1) := by decide +kernel
theorem dL_law_2005 : decode cL_law 2005 = .ok (.iaload, 1) := by decide +kernel
theorem dL_law_2006 : decode cL_law 2006 = .ok (.aload_n 0, 1) := by decide +kernel
theorem dL_law_2007 : decode cL_law 2007 = .ok (.iload 5, 2) := by decide +kernel
theorem dL_law_2009 : decode cL_law 2009 = .ok (.iconst 2, 1) := by decide +kernel
theorem dL_law_2010 : decode cL_law 2010 = .ok (.iadd, 1) := by decide +kernel
theorem dL_law_2011 : decode cL_law 2011 = .ok (.iaload, 1) := by decide +kernel
theorem dL_law_2012 : decode cL_law 2012 = .ok (.aload_n 0, 1) := by decide +kernel
theorem dL_law_2013 : decode cL_law 2013 = .ok (.iload 5, 2) := by decide +kernel
theorem dL_law_2015 : decode cL_law 2015 = .ok (.iconst 3, 1) := by decide +kernel
theorem dL_law_2016 : decode cL_law 2016 = .ok (.iadd, 1) := by decide +kernel
theorem dL_law_2017 : decode cL_law 2017 = .ok (.iaload, 1) := by decide +kernel
theorem dL_law_2018 : decode cL_law 2018 = .ok (.aload_n 0, 1) := by decide +kernel
theorem dL_law_2019 : decode cL_law 2019 = .ok (.iload 5, 2) := by decide +kernel
theorem dL_law_2021 : decode cL_law 2021 = .ok (.iconst 4, 1) := by decide +kernel
theorem dL_law_2022 : decode cL_law 2022 = .ok (.iadd, 1) := by decide +kernel
theorem dL_law_2023 : decode cL_law 2023 = .ok (.iaload, 1) := by decide +kernel
theorem dL_law_2024 : decode cL_law 2024 = .ok (.invokevirtual 211, 3) := by decide +kernel
theorem dL_law_2027 : decode cL_law 2027 = .ok (.istore 7, 2) := by decide +kernel
theorem dL_law_2029 : decode cL_law 2029 = .ok (.aload_n 2, 1) := by decide +kernel
theorem dL_law_2030 : decode cL_law 2030 = .ok (.invokevirtual 127, 3) := by decide +kernel
theorem dL_law_2033 : decode cL_law 2033 = .ok (.iload 6, 2) := by decide +kernel
theorem dL_law_2035 : decode cL_law 2035 = .ok (.if_icmp .eq 5, 3) := by decide +kernel
theorem dL_law_2038 : decode cL_law 2038 = .ok (.iconst 0, 1) := by decide +kernel
theorem dL_law_2039 : decode cL_law 2039 = .ok (.ireturn, 1) := by decide +kernel
theorem dL_law_2040 : decode cL_law 2040 = .ok (.iload 6, 2) := by decide +kernel
theorem dL_law_2042 : decode cL_law 2042 = .ok (.ifCond .ne 15, 3) := by decide +kernel
theorem dL_law_2045 : decode cL_law 2045 = .ok (.aload_n 3, 1) := by decide +kernel
theorem dL_law_2046 : decode cL_law 2046 = .ok (.iconst 0, 1) := by decide +kernel
theorem dL_law_2047 : decode cL_law 2047 = .ok (.laload, 1) := by decide +kernel
theorem dL_law_2048 : decode cL_law 2048 = .ok (.iload 7, 2) := by decide +kernel
theorem dL_law_2050 : decode cL_law 2050 = .ok (.i2l, 1) := by decide +kernel
theorem dL_law_2051 : decode cL_law 2051 = .ok (.lcmp, 1) := by decide +kernel
theorem dL_law_2052 : decode cL_law 2052 = .ok (.ifCond .eq 5, 3) := by decide +kernel
theorem dL_law_2055 : decode cL_law 2055 = .ok (.iconst 0, 1) := by decide +kernel
theorem dL_law_2056 : decode cL_law 2056 = .ok (.ireturn, 1) := by decide +kernel
theorem dL_law_2057 : decode cL_law 2057 = .ok (.goto 390, 3) := by decide +kernel
theorem dL_law_2060 : decode cL_law 2060 = .ok (.aload_n 1, 1) := by decide +kernel
theorem dL_law_2061 : decode cL_law 2061 = .ok (.aload_n 0, 1) := by decide +kernel
theorem dL_law_2062 : decode cL_law 2062 = .ok (.iload 5, 2) := by decide +kernel
theorem dL_law_2064 : decode cL_law 2064 = .ok (.iconst 1, 1) := by decide +kernel
theorem dL_law_2065 : decode cL_law 2065 = .ok (.iadd, 1) := by decide +kernel
theorem dL_law_2066 : decode cL_law 2066 = .ok (.iaload, 1) := by decide +kernel
theorem dL_law_2067 : decode cL_law 2067 = .ok (.aload_n 3, 1) := by decide +kernel
theorem dL_law_2068 : decode cL_law 2068 = .ok (.invokestatic 212, 3) := by decide +kernel
theorem dL_law_2071 : decode cL_law 2071 = .ok (.istore 6, 2) := by decide +kernel
theorem dL_law_2073 : decode cL_law 2073 = .ok (.aload_n 2, 1) := by decide +kernel
theorem dL_law_2074 : decode cL_law 2074 = .ok (.aload_n 0, 1) := by decide +kernel
theorem dL_law_2075 : decode cL_law 2075 = .ok (.iload 5, 2) := by decide +kernel
theorem dL_law_2077 : decode cL_law 2077 = .ok (.iconst 1, 1) := by decide +kernel
theorem dL_law_2078 : decode cL_law 2078 = .ok (.iadd, 1) := by decide +kernel
theorem dL_law_2079 : decode cL_law 2079 = .ok (.iaload, 1) := by decide +kernel
theorem dL_law_2080 : decode cL_law 2080 = .ok (.invokevirtual 214, 3) := by decide +kernel
theorem dL_law_2083 : decode cL_law 2083 = .ok (.istore 7, 2) := by decide +kernel
theorem dL_law_2085 : decode cL_law 2085 = .ok (.aload_n 2, 1) := by decide +kernel
theorem dL_law_2086 : decode cL_law 2086 = .ok (.invokevirtual 127, 3) := by decide +kernel
theorem dL_law_2089 : decode cL_law 2089 = .ok (.iload 6, 2) := by decide +kernel
theorem dL_law_2091 : decode cL_law 2091 = .ok (.if_icmp .eq 5, 3) := by decide +kernel
theorem dL_law_2094 : decode cL_law 2094 = .ok (.iconst 0, 1) := by decide +kernel
theorem dL_law_2095 : decode cL_law 2095 = .ok (.ireturn, 1) := by decide +kernel
theorem dL_law_2096 : decode cL_law 2096 = .ok (.iload 6, 2) := by decide +kernel
theorem dL_law_2098 : decode cL_law 2098 = .ok (.ifCond .ne 15, 3) := by decide +kernel
theorem dL_law_2101 : decode cL_law 2101 = .ok (.aload_n 3, 1) := by decide +kernel
theorem dL_law_2102 : decode cL_law 2102 = .ok (.iconst 0, 1) := by decide +kernel
theorem dL_law_2103 : decode cL_law 2103 = .ok (.laload, 1) := by decide +kernel
theorem dL_law_2104 : decode cL_law 2104 = .ok (.iload 7, 2) := by decide +kernel
theorem dL_law_2106 : decode cL_law 2106 = .ok (.i2l, 1) := by decide +kernel
theorem dL_law_2107 : decode cL_law 2107 = .ok (.lcmp, 1) := by decide +kernel
theorem dL_law_2108 : decode cL_law 2108 = .ok (.ifCond .eq 5, 3) := by decide +kernel
theorem dL_law_2111 : decode cL_law 2111 = .ok (.iconst 0, 1) := by decide +kernel
theorem dL_law_2112 : decode cL_law 2112 = .ok (.ireturn, 1) := by decide +kernel
theorem dL_law_2113 : decode cL_law 2113 = .ok (.goto 334, 3) := by decide +kernel
theorem dL_law_2116 : decode cL_law 2116 = .ok (.aload_n 1, 1) := by decide +kernel
theorem dL_law_2117 : decode cL_law 2117 = .ok (.invokevirtual 215, 3) := by decide +kernel
theorem dL_law_2120 : decode cL_law 2120 = .ok (.aload_n 2, 1) := by decide +kernel
theorem dL_law_2121 : decode cL_law 2121 = .ok (.invokevirtual 218, 3) := by decide +kernel
theorem dL_law_2124 : decode cL_law 2124 = .ok (.if_icmp .eq 323, 3) := by decide +kernel
theorem dL_law_2127 : decode cL_law 2127 = .ok (.iconst 0, 1) := by decide +kernel
theorem dL_law_2128 : decode cL_law 2128 = .ok (.ireturn, 1) := by decide +kernel
theorem dL_law_2129 : decode cL_law 2129 = .ok (.aload_n 1, 1) := by decide +kernel
theorem dL_law_2130 : decode cL_law 2130 = .ok (.invokevirtual 219, 3) := by decide +kernel
theorem dL_law_2133 : decode cL_law 2133 = .ok (.aload_n 2, 1) := by decide +kernel
theorem dL_law_2134 : decode cL_law 2134 = .ok (.invokevirtual 222, 3) := by decide +kernel
theorem dL_law_2137 : decode cL_law 2137 = .ok (.if_icmp .eq 310, 3) := by decide +kernel
theorem dL_law_2140 : decode cL_law 2140 = .ok (.iconst 0, 1) := by decide +kernel
theorem dL_law_2141 : decode cL_law 2141 = .ok (.ireturn, 1) := by decide +kernel
theorem dL_law_2142 : decode cL_law 2142 = .ok (.aload_n 1, 1) := by decide +kernel
theorem dL_law_2143 : decode cL_law 2143 = .ok (.invokevirtual 223, 3) := by decide +kernel
theorem dL_law_2146 : decode cL_law 2146 = .ok (.aload_n 2, 1) := by decide +kernel
theorem dL_law_2147 : decode cL_law 2147 = .ok (.invokevirtual 226, 3) := by decide +kernel
theorem dL_law_2150 : decode cL_law 2150 = .ok (.if_icmp .eq 297, 3) := by decide +kernel
theorem dL_law_2153 : decode cL_law 2153 = .ok (.iconst 0, 1) := by decide +kernel
theorem dL_law_2154 : decode cL_law 2154 = .ok (.ireturn, 1) := by decide +kernel
theorem dL_law_2155 : decode cL_law 2155 = .ok (.aload_n 1, 1) := by decide +kernel
theorem dL_law_2156 : decode cL_law 2156 = .ok (.aload_n 0, 1) := by decide +kernel
theorem dL_law_2157 : decode cL_law 2157 = .ok (.iload 5, 2) := by decide +kernel
theorem dL_law_2159 : decode cL_law 2159 = .ok (.iconst 1, 1) := by decide +kernel
theorem dL_law_2160 : decode cL_law 2160 = .ok (.iadd, 1) := by decide +kernel
theorem dL_law_2161 : decode cL_law 2161 = .ok (.iaload, 1) := by decide +kernel
theorem dL_law_2162 : decode cL_law 2162 = .ok (.aload_n 3, 1) := by decide +kernel
theorem dL_law_2163 : decode cL_law 2163 = .ok (.invokestatic 227, 3) := by decide +kernel
theorem dL_law_2166 : decode cL_law 2166 = .ok (.istore 6, 2) := by decide +kernel
theorem dL_law_2168 : decode cL_law 2168 = .ok (.aload_n 2, 1) := by decide +kernel
theorem dL_law_2169 : decode cL_law 2169 = .ok (.aload_n 0, 1) := by decide +kernel
theorem dL_law_2170 : decode cL_law 2170 = .ok (.iload 5, 2) := by decide +kernel
theorem dL_law_2172 : decode cL_law 2172 = .ok (.iconst 1, 1) := by decide +kernel
theorem dL_law_2173 : decode cL_law 2173 = .ok (.iadd, 1) := by decide +kernel
theorem dL_law_2174 : decode cL_law 2174 = .ok (.iaload, 1) := by decide +kernel
theorem dL_law_2175 : decode cL_law 2175 = .ok (.invokevirtual 229, 3) := by decide +kernel
theorem dL_law_2178 : decode cL_law 2178 = .ok (.istore 7, 2) := by decide +kernel
theorem dL_law_2180 : decode cL_law 2180 = .ok (.aload_n 2, 1) := by decide +kernel
theorem dL_law_2181 : decode cL_law 2181 = .ok (.invokevirtual 127, 3) := by decide +kernel
theorem dL_law_2184 : decode cL_law 2184 = .ok (.iload 6, 2) := by decide +kernel
theorem dL_law_2186 : decode cL_law 2186 = .ok (.if_icmp .eq 5, 3) := by decide +kernel
theorem dL_law_2189 : decode cL_law 2189 = .ok (.iconst 0, 1) := by decide +kernel
theorem dL_law_2190 : decode cL_law 2190 = .ok (.ireturn, 1) := by decide +kernel
theorem dL_law_2191 : decode cL_law 2191 = .ok (.iload 6, 2) := by decide +kernel
theorem dL_law_2193 : decode cL_law 2193 = .ok (.ifCond .ne 15, 3) := by decide +kernel
theorem dL_law_2196 : decode cL_law 2196 = .ok (.aload_n 3, 1) := by decide +kernel
theorem dL_law_2197 : decode cL_law 2197 = .ok (.iconst 0, 1) := by decide +kernel
theorem dL_law_2198 : decode cL_law 2198 = .ok (.laload, 1) := by decide +kernel
theorem dL_law_2199 : decode cL_law 2199 = .ok (.iload 7, 2) := by decide +kernel
theorem dL_law_2201 : decode cL_law 2201 = .ok (.i2l, 1) := by decide +kernel
theorem dL_law_2202 : decode cL_law 2202 = .ok (.lcmp, 1) := by decide +kernel
theorem dL_law_2203 : decode cL_law 2203 = .ok (.ifCond .eq 5, 3) := by decide +kernel
theorem dL_law_2206 : decode cL_law 2206 = .ok (.iconst 0, 1) := by decide +kernel
theorem dL_law_2207 : decode cL_law 2207 = .ok (.ireturn, 1) := by decide +kernel
theorem dL_law_2208 : decode cL_law 2208 = .ok (.goto 239, 3) := by decide +kernel
theorem dL_law_2211 : decode cL_law 2211 = .ok (.aload_n 1, 1) := by decide +kernel
theorem dL_law_2212 : decode cL_law 2212 = .ok (.invokevirtual 230, 3) := by decide +kernel
theorem dL_law_2215 : decode cL_law 2215 = .ok (.aload_n 2, 1) := by decide +kernel
theorem dL_law_2216 : decode cL_law 2216 = .ok (.invokevirtual 234, 3) := by decide +kernel
theorem dL_law_2219 : decode cL_law 2219 = .ok (.lcmp, 1) := by decide +kernel
theorem dL_law_2220 : decode cL_law 2220 = .ok (.ifCond .eq 227, 3) := by decide +kernel
theorem dL_law_2223 : decode cL_law 2223 = .ok (.iconst 0, 1) := by decide +kernel
theorem dL_law_2224 : decode cL_law 2224 = .ok (.ireturn, 1) := by decide +kernel
theorem dL_law_2225 : decode cL_law 2225 = .ok (.aload_n 1, 1) := by decide +kernel
theorem dL_law_2226 : decode cL_law 2226 = .ok (.invokevirtual 235, 3) := by decide +kernel
theorem dL_law_2229 : decode cL_law 2229 = .ok (.aload_n 2, 1) := by decide +kernel
theorem dL_law_2230 : decode cL_law 2230 = .ok (.invokevirtual 238, 3) := by decide +kernel
theorem dL_law_2233 : decode cL_law 2233 = .ok (.lcmp, 1) := by decide +kernel
theorem dL_law_2234 : decode cL_law 2234 = .ok (.ifCond .eq 213, 3) := by decide +kernel
theorem dL_law_2237 : decode cL_law 2237 = .ok (.iconst 0, 1) := by decide +kernel
theorem dL_law_2238 : decode cL_law 2238 = .ok (.ireturn, 1) := by decide +kernel
theorem dL_law_2239 : decode cL_law 2239 = .ok (.aload_n 1, 1) := by decide +kernel
theorem dL_law_2240 : decode cL_law 2240 = .ok (.invokevirtual 239, 3) := by decide +kernel
theorem dL_law_2243 : decode cL_law 2243 = .ok (.aload_n 2, 1) := by decide +kernel
theorem dL_law_2244 : decode cL_law 2244 = .ok (.invokevirtual 242, 3) := by decide +kernel
theorem dL_law_2247 : decode cL_law 2247 = .ok (.lcmp, 1) := by decide +kernel
theorem dL_law_2248 : decode cL_law 2248 = .ok (.ifCond .eq 199, 3) := by decide +kernel
theorem dL_law_2251 : decode cL_law 2251 = .ok (.iconst 0, 1) := by decide +kernel
theorem dL_law_2252 : decode cL_law 2252 = .ok (.ireturn, 1) := by decide +kernel
theorem dL_law_2253 : decode cL_law 2253 = .ok (.aload_n 1, 1) := by decide +kernel
theorem dL_law_2254 : decode cL_law 2254 = .ok (.invokevirtual 243, 3) := by decide +kernel
theorem dL_law_2257 : decode cL_law 2257 = .ok (.aload_n 2, 1) := by decide +kernel
theorem dL_law_2258 : decode cL_law 2258 = .ok (.invokevirtual 246, 3) := by decide +kernel
theorem dL_law_2261 : decode cL_law 2261 = .ok (.if_icmp .eq 186, 3) := by decide +kernel
theorem dL_law_2264 : decode cL_law 2264 = .ok (.iconst 0, 1) := by decide +kernel
theorem dL_law_2265 : decode cL_law 2265 = .ok (.ireturn, 1) := by decide +kernel
theorem dL_law_2266 : decode cL_law 2266 = .ok (.aload_n 1, 1) := by decide +kernel
theorem dL_law_2267 : decode cL_law 2267 = .ok (.aload_n 0, 1) := by decide +kernel
theorem dL_law_2268 : decode cL_law 2268 = .ok (.iload 5, 2) := by decide +kernel
theorem dL_law_2270 : decode cL_law 2270 = .ok (.iconst 1, 1) := by decide +kernel
theorem dL_law_2271 : decode cL_law 2271 = .ok (.iadd, 1) := by decide +kernel
theorem dL_law_2272 : decode cL_law 2272 = .ok (.iaload, 1) := by decide +kernel
theorem dL_law_2273 : decode cL_law 2273 = .ok (.aload_n 3, 1) := by decide +kernel
theorem dL_law_2274 : decode cL_law 2274 = .ok (.invokestatic 247, 3) := by decide +kernel
theorem dL_law_2277 : decode cL_law 2277 = .ok (.istore 6, 2) := by decide +kernel
theorem dL_law_2279 : decode cL_law 2279 = .ok (.aload_n 2, 1) := by decide +kernel
theorem dL_law_2280 : decode cL_law 2280 = .ok (.aload_n 0, 1) := by decide +kernel
theorem dL_law_2281 : decode cL_law 2281 = .ok (.iload 5, 2) := by decide +kernel
theorem dL_law_2283 : decode cL_law 2283 = .ok (.iconst 1, 1) := by decide +kernel
theorem dL_law_2284 : decode cL_law 2284 = .ok (.iadd, 1) := by decide +kernel
theorem dL_law_2285 : decode cL_law 2285 = .ok (.iaload, 1) := by decide +kernel
theorem dL_law_2286 : decode cL_law 2286 = .ok (.invokevirtual 249, 3) := by decide +kernel
theorem dL_law_2289 : decode cL_law 2289 = .ok (.istore 7, 2) := by decide +kernel
theorem dL_law_2291 : decode cL_law 2291 = .ok (.aload_n 2, 1) := by decide +kernel
theorem dL_law_2292 : decode cL_law 2292 = .ok (.invokevirtual 127, 3) := by decide +kernel
theorem dL_law_2295 : decode cL_law 2295 = .ok (.iload 6, 2) := by decide +kernel
theorem dL_law_2297 : decode cL_law 2297 = .ok (.if_icmp .eq 5, 3) := by decide +kernel
theorem dL_law_2300 : decode cL_law 2300 = .ok (.iconst 0, 1) := by decide +kernel
theorem dL_law_2301 : decode cL_law 2301 = .ok (.ireturn, 1) := by decide +kernel
theorem dL_law_2302 : decode cL_law 2302 = .ok (.iload 6, 2) := by decide +kernel
theorem dL_law_2304 : decode cL_law 2304 = .ok (.ifCond .ne 15, 3) := by decide +kernel
theorem dL_law_2307 : decode cL_law 2307 = .ok (.aload_n 3, 1) := by decide +kernel
theorem dL_law_2308 : decode cL_law 2308 = .ok (.iconst 0, 1) := by decide +kernel
theorem dL_law_2309 : decode cL_law 2309 = .ok (.laload, 1) := by decide +kernel
theorem dL_law_2310 : decode cL_law 2310 = .ok (.iload 7, 2) := by decide +kernel
theorem dL_law_2312 : decode cL_law 2312 = .ok (.i2l, 1) := by decide +kernel
theorem dL_law_2313 : decode cL_law 2313 = .ok (.lcmp, 1) := by decide +kernel
theorem dL_law_2314 : decode cL_law 2314 = .ok (.ifCond .eq 5, 3) := by decide +kernel
theorem dL_law_2317 : decode cL_law 2317 = .ok (.iconst 0, 1) := by decide +kernel
theorem dL_law_2318 : decode cL_law 2318 = .ok (.ireturn, 1) := by decide +kernel
theorem dL_law_2319 : decode cL_law 2319 = .ok (.goto 128, 3) := by decide +kernel
theorem dL_law_2322 : decode cL_law 2322 = .ok (.aload_n 1, 1) := by decide +kernel
theorem dL_law_2323 : decode cL_law 2323 = .ok (.invokevirtual 250, 3) := by decide +kernel
theorem dL_law_2326 : decode cL_law 2326 = .ok (.aload_n 2, 1) := by decide +kernel
theorem dL_law_2327 : decode cL_law 2327 = .ok (.invokevirtual 254, 3) := by decide +kernel
theorem dL_law_2330 : decode cL_law 2330 = .ok (.if_icmp .eq 117, 3) := by decide +kernel
theorem dL_law_2333 : decode cL_law 2333 = .ok (.iconst 0, 1) := by decide +kernel
theorem dL_law_2334 : decode cL_law 2334 = .ok (.ireturn, 1) := by decide +kernel
theorem dL_law_2335 : decode cL_law 2335 = .ok (.aload_n 1, 1) := by decide +kernel
theorem dL_law_2336 : decode cL_law 2336 = .ok (.aload_n 0, 1) := by decide +kernel
theorem dL_law_2337 : decode cL_law 2337 = .ok (.iload 5, 2) := by decide +kernel
theorem dL_law_2339 : decode cL_law 2339 = .ok (.iconst 1, 1) := by decide +kernel
theorem dL_law_2340 : decode cL_law 2340 = .ok (.iadd, 1) := by decide +kernel
theorem dL_law_2341 : decode cL_law 2341 = .ok (.iaload, 1) := by decide +kernel
theorem dL_law_2342 : decode cL_law 2342 = .ok (.aload_n 3, 1) := by decide +kernel
theorem dL_law_2343 : decode cL_law 2343 = .ok (.invokestatic 255, 3) := by decide +kernel
theorem dL_law_2346 : decode cL_law 2346 = .ok (.istore 6, 2) := by decide +kernel
theorem dL_law_2348 : decode cL_law 2348 = .ok (.aload_n 2, 1) := by decide +kernel
theorem dL_law_2349 : decode cL_law 2349 = .ok (.aload_n 0, 1) := by decide +kernel
theorem dL_law_2350 : decode cL_law 2350 = .ok (.iload 5, 2) := by decide +kernel
theorem dL_law_2352 : decode cL_law 2352 = .ok (.iconst 1, 1) := by decide +kernel
theorem dL_law_2353 : decode cL_law 2353 = .ok (.iadd, 1) := by decide +kernel
theorem dL_law_2354 : decode cL_law 2354 = .ok (.iaload, 1) := by decide +kernel
theorem dL_law_2355 : decode cL_law 2355 = .ok (.invokevirtual 257, 3) := by decide +kernel
theorem dL_law_2358 : decode cL_law 2358 = .ok (.istore 7, 2) := by decide +kernel
theorem dL_law_2360 : decode cL_law 2360 = .ok (.aload_n 2, 1) := by decide +kernel
theorem dL_law_2361 : decode cL_law 2361 = .ok (.invokevirtual 127, 3) := by decide +kernel
theorem dL_law_2364 : decode cL_law 2364 = .ok (.iload 6, 2) := by decide +kernel
theorem dL_law_2366 : decode cL_law 2366 = .ok (.if_icmp .eq 5, 3) := by decide +kernel
theorem dL_law_2369 : decode cL_law 2369 = .ok (.iconst 0, 1) := by decide +kernel
theorem dL_law_2370 : decode cL_law 2370 = .ok (.ireturn, 1) := by decide +kernel
theorem dL_law_2371 : decode cL_law 2371 = .ok (.iload 6, 2) := by decide +kernel
theorem dL_law_2373 : decode cL_law 2373 = .ok (.ifCond .ne 15, 3) := by decide +kernel
theorem dL_law_2376 : decode cL_law 2376 = .ok (.aload_n 3, 1) := by decide +kernel
theorem dL_law_2377 : decode cL_law 2377 = .ok (.iconst 0, 1) := by decide +kernel
theorem dL_law_2378 : decode cL_law 2378 = .ok (.laload, 1) := by decide +kernel
theorem dL_law_2379 : decode cL_law 2379 = .ok (.iload 7, 2) := by decide +kernel
theorem dL_law_2381 : decode cL_law 2381 = .ok (.i2l, 1) := by decide +kernel
theorem dL_law_2382 : decode cL_law 2382 = .ok (.lcmp, 1) := by decide +kernel
theorem dL_law_2383 : decode cL_law 2383 = .ok (.ifCond .eq 5, 3) := by decide +kernel
theorem dL_law_2386 : decode cL_law 2386 = .ok (.iconst 0, 1) := by decide +kernel
theorem dL_law_2387 : decode cL_law 2387 = .ok (.ireturn, 1) := by decide +kernel
theorem dL_law_2388 : decode cL_law 2388 = .ok (.goto 59, 3) := by decide +kernel
theorem dL_law_2391 : decode cL_law 2391 = .ok (.aload_n 1, 1) := by decide +kernel
theorem dL_law_2392 : decode cL_law 2392 = .ok (.aload_n 0, 1) := by decide +kernel
theorem dL_law_2393 : decode cL_law 2393 = .ok (.iload 5, 2) := by decide +kernel
theorem dL_law_2395 : decode cL_law 2395 = .ok (.iconst 1, 1) := by decide +kernel
theorem dL_law_2396 : decode cL_law 2396 = .ok (.iadd, 1) := by decide +kernel
theorem dL_law_2397 : decode cL_law 2397 = .ok (.iaload, 1) := by decide +kernel
theorem dL_law_2398 : decode cL_law 2398 = .ok (.aload_n 3, 1) := by decide +kernel
theorem dL_law_2399 : decode cL_law 2399 = .ok (.invokestatic 258, 3) := by decide +kernel
theorem dL_law_2402 : decode cL_law 2402 = .ok (.istore 6, 2) := by decide +kernel
theorem dL_law_2404 : decode cL_law 2404 = .ok (.aload_n 2, 1) := by decide +kernel
theorem dL_law_2405 : decode cL_law 2405 = .ok (.aload_n 0, 1) := by decide +kernel
theorem dL_law_2406 : decode cL_law 2406 = .ok (.iload 5, 2) := by decide +kernel
theorem dL_law_2408 : decode cL_law 2408 = .ok (.iconst 1, 1) := by decide +kernel
theorem dL_law_2409 : decode cL_law 2409 = .ok (.iadd, 1) := by decide +kernel
theorem dL_law_2410 : decode cL_law 2410 = .ok (.iaload, 1) := by decide +kernel
theorem dL_law_2411 : decode cL_law 2411 = .ok (.invokevirtual 260, 3) := by decide +kernel
theorem dL_law_2414 : decode cL_law 2414 = .ok (.istore 7, 2) := by decide +kernel
theorem dL_law_2416 : decode cL_law 2416 = .ok (.aload_n 2, 1) := by decide +kernel
theorem dL_law_2417 : decode cL_law 2417 = .ok (.invokevirtual 127, 3) := by decide +kernel
theorem dL_law_2420 : decode cL_law 2420 = .ok (.iload 6, 2) := by decide +kernel
theorem dL_law_2422 : decode cL_law 2422 = .ok (.if_icmp .eq 5, 3) := by decide +kernel
theorem dL_law_2425 : decode cL_law 2425 = .ok (.iconst 0, 1) := by decide +kernel
theorem dL_law_2426 : decode cL_law 2426 = .ok (.ireturn, 1) := by decide +kernel
theorem dL_law_2427 : decode cL_law 2427 = .ok (.iload 6, 2) := by decide +kernel
theorem dL_law_2429 : decode cL_law 2429 = .ok (.ifCond .ne 15, 3) := by decide +kernel
theorem dL_law_2432 : decode cL_law 2432 = .ok (.aload_n 3, 1) := by decide +kernel
theorem dL_law_2433 : decode cL_law 2433 = .ok (.iconst 0, 1) := by decide +kernel
theorem dL_law_2434 : decode cL_law 2434 = .ok (.laload, 1) := by decide +kernel
theorem dL_law_2435 : decode cL_law 2435 = .ok (.iload 7, 2) := by decide +kernel
theorem dL_law_2437 : decode cL_law 2437 = .ok (.i2l, 1) := by decide +kernel
theorem dL_law_2438 : decode cL_law 2438 = .ok (.lcmp, 1) := by decide +kernel
theorem dL_law_2439 : decode cL_law 2439 = .ok (.ifCond .eq 5, 3) := by decide +kernel
theorem dL_law_2442 : decode cL_law 2442 = .ok (.iconst 0, 1) := by decide +kernel
theorem dL_law_2443 : decode cL_law 2443 = .ok (.ireturn, 1) := by decide +kernel
theorem dL_law_2444 : decode cL_law 2444 = .ok (.goto 3, 3) := by decide +kernel
theorem dL_law_2447 : decode cL_law 2447 = .ok (.iinc 5 5, 3) := by decide +kernel
theorem dL_law_2450 : decode cL_law 2450 = .ok (.goto (-2422), 3) := by decide +kernel
theorem dL_law_2453 : decode cL_law 2453 = .ok (.iconst 1, 1) := by decide +kernel
theorem dL_law_2454 : decode cL_law 2454 = .ok (.ireturn, 1) := by decide +kernel
