theorem dX8_rainAndPump_5 : decode cX8_rainAndPump 5 = .ok (.iload_n 1, 1) := by decide +kernel
theorem dX8_rainAndPump_6 : decode cX8_rainAndPump 6 = .ok (.iadd, 1) := by decide +kernel
theorem dX8_rainAndPump_7 : decode cX8_rainAndPump 7 = .ok (.putfield 7, 3) := by decide +kernel
theorem dX8_rainAndPump_10 : decode cX8_rainAndPump 10 = .ok (.iload_n 2, 1) := by decide +kernel
theorem dX8_rainAndPump_11 : decode cX8_rainAndPump 11 = .ok (.aload_n 0, 1) := by decide +kernel
theorem dX8_rainAndPump_12 : decode cX8_rainAndPump 12 = .ok (.getfield 7, 3) := by decide +kernel
theorem dX8_rainAndPump_15 : decode cX8_rainAndPump 15 = .ok (.invokestatic 13, 3) := by decide +kernel
theorem dX8_rainAndPump_18 : decode cX8_rainAndPump 18 = .ok (.istore_n 3, 1) := by decide +kernel
theorem dX8_rainAndPump_19 : decode cX8_rainAndPump 19 = .ok (.aload_n 0, 1) := by decide +kernel
theorem dX8_rainAndPump_20 : decode cX8_rainAndPump 20 = .ok (.dup, 1) := by decide +kernel
theorem dX8_rainAndPump_21 : decode cX8_rainAndPump 21 = .ok (.getfield 7, 3) := by decide +kernel
theorem dX8_rainAndPump_24 : decode cX8_rainAndPump 24 = .ok (.iload_n 3, 1) := by decide +kernel
theorem dX8_rainAndPump_25 : decode cX8_rainAndPump 25 = .ok (.isub, 1) := by decide +kernel
theorem dX8_rainAndPump_26 : decode cX8_rainAndPump 26 = .ok (.putfield 7, 3) := by decide +kernel
theorem dX8_rainAndPump_29 : decode cX8_rainAndPump 29 = .ok (.iload_n 3, 1) := by decide +kernel
theorem dX8_rainAndPump_30 : decode cX8_rainAndPump 30 = .ok (.ireturn, 1) := by decide +kernel
theorem dX9_init_0 : decode cX9_init 0 = .ok (.aload_n 0, 1) := by decide +kernel
theorem dX9_init_1 : decode cX9_init 1 = .ok (.invokespecial 1, 3) := by decide +kernel
theorem dX9_init_4 : decode cX9_init 4 = .ok (.aload_n 0, 1) := by decide +kernel
theorem dX9_init_5 : decode cX9_init 5 = .ok (.new 7, 3) := by decide +kernel
theorem dX9_init_8 : decode cX9_init 8 = .ok (.dup, 1) := by decide +kernel
theorem dX9_init_9 : decode cX9_init 9 = .ok (.invokespecial 9, 3) := by decide +kernel
theorem dX9_init_12 : decode cX9_init 12 = .ok (.putfield 10, 3) := by decide +kernel
theorem dX9_init_15 : decode cX9_init 15 = .ok (.aload_n 0, 1) := by decide +kernel
theorem dX9_init_16 : decode cX9_init 16 = .ok (.new 16, 3) := by decide +kernel
theorem dX9_init_19 : decode cX9_init 19 = .ok (.dup, 1) := by decide +kernel
theorem dX9_init_20 : decode cX9_init 20 = .ok (.invokespecial 18, 3) := by decide +kernel
theorem dX9_init_23 : decode cX9_init 23 = .ok (.putfield 19, 3) := by decide +kernel
theorem dX9_init_26 : decode cX9_init 26 = .ok (.aload_n 0, 1) := by decide +kernel
theorem dX9_init_27 : decode cX9_init 27 = .ok (.new 23, 3) := by decide +kernel
theorem dX9_init_30 : decode cX9_init 30 = .ok (.dup, 1) := by decide +kernel
theorem dX9_init_31 : decode cX9_init 31 = .ok (.aload_n 0, 1) := by decide +kernel
theorem dX9_init_32 : decode cX9_init 32 = .ok (.getfield 10, 3) := by decide +kernel
theorem dX9_init_35 : decode cX9_init 35 = .ok (.aload_n 0, 1) := by decide +kernel
theorem dX9_init_36 : decode cX9_init 36 = .ok (.getfield 19, 3) := by decide +kernel
theorem dX9_init_39 : decode cX9_init 39 = .ok (.invokespecial 25, 3) := by decide +kernel
theorem dX9_init_42 : decode cX9_init 42 = .ok (.putfield 28, 3) := by decide +kernel
theorem dX9_init_45 : decode cX9_init 45 = .ok (.aload_n 0, 1) := by decide +kernel
theorem dX9_init_46 : decode cX9_init 46 = .ok (.new 32, 3) := by decide +kernel
theorem dX9_init_49 : decode cX9_init 49 = .ok (.dup, 1) := by decide +kernel
theorem dX9_init_50 : decode cX9_init 50 = .ok (.aload_n 0, 1) := by decide +kernel
theorem dX9_init_51 : decode cX9_init 51 = .ok (.getfield 10, 3) := by decide +kernel
theorem dX9_init_54 : decode cX9_init 54 = .ok (.aload_n 0, 1) := by decide +kernel
theorem dX9_init_55 : decode cX9_init 55 = .ok (.getfield 28, 3) := by decide +kernel
theorem dX9_init_58 : decode cX9_init 58 = .ok (.invokespecial 34, 3) := by decide +kernel
theorem dX9_init_61 : decode cX9_init 61 = .ok (.putfield 37, 3) := by decide +kernel
theorem dX9_init_64 : decode cX9_init 64 = .ok (.aload_n 0, 1) := by decide +kernel
theorem dX9_init_65 : decode cX9_init 65 = .ok (.new 41, 3) := by decide +kernel
theorem dX9_init_68 : decode cX9_init 68 = .ok (.dup, 1) := by decide +kernel
theorem dX9_init_69 : decode cX9_init 69 = .ok (.invokespecial 43, 3) := by decide +kernel
theorem dX9_init_72 : decode cX9_init 72 = .ok (.putfield 44, 3) := by decide +kernel
theorem dX9_init_75 : decode cX9_init 75 = .ok (.aload_n 0, 1) := by decide +kernel
theorem dX9_init_76 : decode cX9_init 76 = .ok (.new 48, 3) := by decide +kernel
theorem dX9_init_79 : decode cX9_init 79 = .ok (.dup, 1) := by decide +kernel
theorem dX9_init_80 : decode cX9_init 80 = .ok (.invokespecial 50, 3) := by decide +kernel
theorem dX9_init_83 : decode cX9_init 83 = .ok (.putfield 51, 3) := by decide +kernel
theorem dX9_init_86 : decode cX9_init 86 = .ok (.aload_n 0, 1) := by decide +kernel
theorem dX9_init_87 : decode cX9_init 87 = .ok (.new 55, 3) := by decide +kernel
theorem dX9_init_90 : decode cX9_init 90 = .ok (.dup, 1) := by decide +kernel
theorem dX9_init_91 : decode cX9_init 91 = .ok (.invokespecial 57, 3) := by decide +kernel
theorem dX9_init_94 : decode cX9_init 94 = .ok (.putfield 58, 3) := by decide +kernel
theorem dX9_init_97 : decode cX9_init 97 = .ok (.aload_n 0, 1) := by decide +kernel
theorem dX9_init_98 : decode cX9_init 98 = .ok (.new 62, 3) := by decide +kernel
theorem dX9_init_101 : decode cX9_init 101 = .ok (.dup, 1) := by decide +kernel
theorem dX9_init_102 : decode cX9_init 102 = .ok (.invokespecial 64, 3) := by decide +kernel
theorem dX9_init_105 : decode cX9_init 105 = .ok (.putfield 65, 3) := by decide +kernel
theorem dX9_init_108 : decode cX9_init 108 = .ok (.aload_n 0, 1) := by decide +kernel
theorem dX9_init_109 : decode cX9_init 109 = .ok (.new 69, 3) := by decide +kernel
theorem dX9_init_112 : decode cX9_init 112 = .ok (.dup, 1) := by decide +kernel
theorem dX9_init_113 : decode cX9_init 113 = .ok (.invokespecial 71, 3) := by decide +kernel
theorem dX9_init_116 : decode cX9_init 116 = .ok (.putfield 72, 3) := by decide +kernel
theorem dX9_init_119 : decode cX9_init 119 = .ok (.return_, 1) := by decide +kernel
theorem dX9_rock_0 : decode cX9_rock 0 = .ok (.iload_n 1, 1) := by decide +kernel
theorem dX9_rock_1 : decode cX9_rock 1 = .ok (.invokestatic 76, 3) := by decide +kernel
theorem dX9_rock_4 : decode cX9_rock 4 = .ok (.iload_n 2, 1) := by decide +kernel
theorem dX9_rock_5 : decode cX9_rock 5 = .ok (.bipush 115, 2) := by decide +kernel
theorem dX9_rock_7 : decode cX9_rock 7 = .ok (.if_icmp .eq 19, 3) := by decide +kernel
theorem dX9_rock_10 : decode cX9_rock 10 = .ok (.iload_n 2, 1) := by decide +kernel
theorem dX9_rock_11 : decode cX9_rock 11 = .ok (.bipush 104, 2) := by decide +kernel
theorem dX9_rock_13 : decode cX9_rock 13 = .ok (.if_icmp .eq 13, 3) := by decide +kernel
theorem dX9_rock_16 : decode cX9_rock 16 = .ok (.new 80, 3) := by decide +kernel
theorem dX9_rock_19 : decode cX9_rock 19 = .ok (.dup, 1) := by decide +kernel
theorem dX9_rock_20 : decode cX9_rock 20 = .ok (.ldc 82, 2) := by decide +kernel
theorem dX9_rock_22 : decode cX9_rock 22 = .ok (.invokespecial 84, 3) := by decide +kernel
theorem dX9_rock_25 : decode cX9_rock 25 = .ok (.athrow, 1) := by decide +kernel
theorem dX9_rock_26 : decode cX9_rock 26 = .ok (.aload_n 0, 1) := by decide +kernel
theorem dX9_rock_27 : decode cX9_rock 27 = .ok (.iload_n 1, 1) := by decide +kernel
theorem dX9_rock_28 : decode cX9_rock 28 = .ok (.invokevirtual 87, 3) := by decide +kernel
theorem dX9_rock_31 : decode cX9_rock 31 = .ok (.aload_n 0, 1) := by decide +kernel
theorem dX9_rock_32 : decode cX9_rock 32 = .ok (.getfield 10, 3) := by decide +kernel
theorem dX9_rock_35 : decode cX9_rock 35 = .ok (.iload_n 1, 1) := by decide +kernel
theorem dX9_rock_36 : decode cX9_rock 36 = .ok (.invokevirtual 90, 3) := by decide +kernel
theorem dX9_rock_39 : decode cX9_rock 39 = .ok (.ifCond .eq 8, 3) := by decide +kernel
theorem dX9_rock_42 : decode cX9_rock 42 = .ok (.bipush 104, 2) := by decide +kernel
theorem dX9_rock_44 : decode cX9_rock 44 = .ok (.goto 5, 3) := by decide +kernel
theorem dX9_rock_47 : decode cX9_rock 47 = .ok (.bipush 115, 2) := by decide +kernel
theorem dX9_rock_49 : decode cX9_rock 49 = .ok (.istore_n 3, 1) := by decide +kernel
theorem dX9_rock_50 : decode cX9_rock 50 = .ok (.aload_n 0, 1) := by decide +kernel
theorem dX9_rock_51 : decode cX9_rock 51 = .ok (.getfield 10, 3) := by decide +kernel
theorem dX9_rock_54 : decode cX9_rock 54 = .ok (.iload_n 1, 1) := by decide +kernel
theorem dX9_rock_55 : decode cX9_rock 55 = .ok (.iload_n 2, 1) := by decide +kernel
theorem dX9_rock_56 : decode cX9_rock 56 = .ok (.bipush 104, 2) := by decide +kernel
theorem dX9_rock_58 : decode cX9_rock 58 = .ok (.if_icmp .ne 7, 3) := by decide +kernel
theorem dX9_rock_61 : decode cX9_rock 61 = .ok (.iconst 1, 1) := by decide +kernel
theorem dX9_rock_62 : decode cX9_rock 62 = .ok (.goto 4, 3) := by decide +kernel
theorem dX9_rock_65 : decode cX9_rock 65 = .ok (.iconst 0, 1) := by decide +kernel
theorem dX9_rock_66 : decode cX9_rock 66 = .ok (.invokevirtual 94, 3) := by decide +kernel
theorem dX9_rock_69 : decode cX9_rock 69 = .ok (.aload_n 0, 1) := by decide +kernel
theorem dX9_rock_70 : decode cX9_rock 70 = .ok (.getfield 37, 3) := by decide +kernel
theorem dX9_rock_73 : decode cX9_rock 73 = .ok (.invokevirtual 98, 3) := by decide +kernel
theorem dX9_rock_76 : decode cX9_rock 76 = .ok (.iload_n 3, 1) := by decide +kernel
theorem dX9_rock_77 : decode cX9_rock 77 = .ok (.ireturn, 1) := by decide +kernel
theorem dX9_sample_0 : decode cX9_sample 0 = .ok (.iload_n 1, 1) := by decide +kernel
theorem dX9_sample_1 : decode cX9_sample 1 = .ok (.invokestatic 76, 3) := by decide +kernel
theorem dX9_sample_4 : decode cX9_sample 4 = .ok (.iload_n 2, 1) := by decide +kernel
theorem dX9_sample_5 : decode cX9_sample 5 = .ok (.invokestatic 101, 3) := by decide +kernel
theorem dX9_sample_8 : decode cX9_sample 8 = .ok (.aload_n 0, 1) := by decide +kernel
theorem dX9_sample_9 : decode cX9_sample 9 = .ok (.getfield 19, 3) := by decide +kernel
theorem dX9_sample_12 : decode cX9_sample 12 = .ok (.invokevirtual 104, 3) := by decide +kernel
theorem dX9_sample_15 : decode cX9_sample 15 = .ok (.ifCond .eq 13, 3) := by decide +kernel
theorem dX9_sample_18 : decode cX9_sample 18 = .ok (.new 108, 3) := by decide +kernel
theorem dX9_sample_21 : decode cX9_sample 21 = .ok (.dup, 1) := by decide +kernel
theorem dX9_sample_22 : decode cX9_sample 22 = .ok (.ldc 110, 2) := by decide +kernel
theorem dX9_sample_24 : decode cX9_sample 24 = .ok (.invokespecial 112, 3) := by decide +kernel
theorem dX9_sample_27 : decode cX9_sample 27 = .ok (.athrow, 1) := by decide +kernel
theorem dX9_sample_28 : decode cX9_sample 28 = .ok (.aload_n 0, 1) := by decide +kernel
theorem dX9_sample_29 : decode cX9_sample 29 = .ok (.getfield 19, 3) := by decide +kernel
theorem dX9_sample_32 : decode cX9_sample 32 = .ok (.iload_n 1, 1) := by decide +kernel
theorem dX9_sample_33 : decode cX9_sample 33 = .ok (.iload_n 2, 1) := by decide +kernel
theorem dX9_sample_34 : decode cX9_sample 34 = .ok (.invokevirtual 113, 3) := by decide +kernel
theorem dX9_sample_37 : decode cX9_sample 37 = .ok (.aload_n 0, 1) := by decide +kernel
theorem dX9_sample_38 : decode cX9_sample 38 = .ok (.getfield 37, 3) := by decide +kernel
theorem dX9_sample_41 : decode cX9_sample 41 = .ok (.invokevirtual 98, 3) := by decide +kernel
theorem dX9_sample_44 : decode cX9_sample 44 = .ok (.aload_n 0, 1) := by decide +kernel
theorem dX9_sample_45 : decode cX9_sample 45 = .ok (.getfield 19, 3) := by decide +kernel
theorem dX9_sample_48 : decode cX9_sample 48 = .ok (.getfield 117, 3) := by decide +kernel
theorem dX9_sample_51 : decode cX9_sample 51 = .ok (.ireturn, 1) := by decide +kernel
theorem dX9_tellTruth_0 : decode cX9_tellTruth 0 = .ok (.iload_n 1, 1) := by decide +kernel
theorem dX9_tellTruth_1 : decode cX9_tellTruth 1 = .ok (.invokestatic 76, 3) := by decide +kernel
theorem dX9_tellTruth_4 : decode cX9_tellTruth 4 = .ok (.iload_n 2, 1) := by decide +kernel
theorem dX9_tellTruth_5 : decode cX9_tellTruth 5 = .ok (.invokestatic 101, 3) := by decide +kernel
theorem dX9_tellTruth_8 : decode cX9_tellTruth 8 = .ok (.aload_n 0, 1) := by decide +kernel
theorem dX9_tellTruth_9 : decode cX9_tellTruth 9 = .ok (.iload_n 1, 1) := by decide +kernel
theorem dX9_tellTruth_10 : decode cX9_tellTruth 10 = .ok (.invokevirtual 87, 3) := by decide +kernel
theorem dX9_tellTruth_13 : decode cX9_tellTruth 13 = .ok (.aload_n 0, 1) := by decide +kernel
theorem dX9_tellTruth_14 : decode cX9_tellTruth 14 = .ok (.getfield 72, 3) := by decide +kernel
theorem dX9_tellTruth_17 : decode cX9_tellTruth 17 = .ok (.iload_n 1, 1) := by decide +kernel
theorem dX9_tellTruth_18 : decode cX9_tellTruth 18 = .ok (.invokevirtual 121, 3) := by decide +kernel
theorem dX9_tellTruth_21 : decode cX9_tellTruth 21 = .ok (.istore_n 3, 1) := by decide +kernel
theorem dX9_tellTruth_22 : decode cX9_tellTruth 22 = .ok (.aload_n 0, 1) := by decide +kernel
theorem dX9_tellTruth_23 : decode cX9_tellTruth 23 = .ok (.getfield 72, 3) := by decide +kernel
theorem dX9_tellTruth_26 : decode cX9_tellTruth 26 = .ok (.iload_n 1, 1) := by decide +kernel
theorem dX9_tellTruth_27 : decode cX9_tellTruth 27 = .ok (.iload_n 2, 1) := by decide +kernel
theorem dX9_tellTruth_28 : decode cX9_tellTruth 28 = .ok (.invokevirtual 125, 3) := by decide +kernel
theorem dX9_tellTruth_31 : decode cX9_tellTruth 31 = .ok (.iload_n 3, 1) := by decide +kernel
theorem dX9_tellTruth_32 : decode cX9_tellTruth 32 = .ok (.ireturn, 1) := by decide +kernel
theorem dX9_grade_0 : decode cX9_grade 0 = .ok (.iload_n 1, 1) := by decide +kernel
theorem dX9_grade_1 : decode cX9_grade 1 = .ok (.invokestatic 76, 3) := by decide +kernel
theorem dX9_grade_4 : decode cX9_grade 4 = .ok (.aload_n 0, 1) := by decide +kernel
theorem dX9_grade_5 : decode cX9_grade 5 = .ok (.getfield 19, 3) := by decide +kernel
theorem dX9_grade_8 : decode cX9_grade 8 = .ok (.iload_n 1, 1) := by decide +kernel
theorem dX9_grade_9 : decode cX9_grade 9 = .ok (.invokevirtual 128, 3) := by decide +kernel
theorem dX9_grade_12 : decode cX9_grade 12 = .ok (.ireturn, 1) := by decide +kernel
theorem dX9_worth_0 : decode cX9_worth 0 = .ok (.iload_n 1, 1) := by decide +kernel
theorem dX9_worth_1 : decode cX9_worth 1 = .ok (.invokestatic 76, 3) := by decide +kernel
theorem dX9_worth_4 : decode cX9_worth 4 = .ok (.iload_n 2, 1) := by decide +kernel
theorem dX9_worth_5 : decode cX9_worth 5 = .ok (.invokestatic 101, 3) := by decide +kernel
theorem dX9_worth_8 : decode cX9_worth 8 = .ok (.aload_n 0, 1) := by decide +kernel
theorem dX9_worth_9 : decode cX9_worth 9 = .ok (.getfield 19, 3) := by decide +kernel
theorem dX9_worth_12 : decode cX9_worth 12 = .ok (.iload_n 1, 1) := by decide +kernel
theorem dX9_worth_13 : decode cX9_worth 13 = .ok (.iload_n 2, 1) := by decide +kernel
theorem dX9_worth_14 : decode cX9_worth 14 = .ok (.invokevirtual 131, 3) := by decide +kernel
theorem dX9_worth_17 : decode cX9_worth 17 = .ok (.ireturn, 1) := by decide +kernel
theorem dX9_isFree_0 : decode cX9_isFree 0 = .ok (.iload_n 1, 1) := by decide +kernel
theorem dX9_isFree_1 : decode cX9_isFree 1 = .ok (.invokestatic 76, 3) := by decide +kernel
theorem dX9_isFree_4 : decode cX9_isFree 4 = .ok (.aload_n 0, 1) := by decide +kernel
theorem dX9_isFree_5 : decode cX9_isFree 5 = .ok (.getfield 10, 3) := by decide +kernel
theorem dX9_isFree_8 : decode cX9_isFree 8 = .ok (.iload_n 1, 1) := by decide +kernel
theorem dX9_isFree_9 : decode cX9_isFree 9 = .ok (.invokevirtual 135, 3) := by decide +kernel
theorem dX9_isFree_12 : decode cX9_isFree 12 = .ok (.ireturn, 1) := by decide +kernel
theorem dX9_isDug_0 : decode cX9_isDug 0 = .ok (.iload_n 1, 1) := by decide +kernel
theorem dX9_isDug_1 : decode cX9_isDug 1 = .ok (.invokestatic 76, 3) := by decide +kernel
theorem dX9_isDug_4 : decode cX9_isDug 4 = .ok (.aload_n 0, 1) := by decide +kernel
theorem dX9_isDug_5 : decode cX9_isDug 5 = .ok (.getfield 10, 3) := by decide +kernel
theorem dX9_isDug_8 : decode cX9_isDug 8 = .ok (.iload_n 1, 1) := by decide +kernel
theorem dX9_isDug_9 : decode cX9_isDug 9 = .ok (.invokevirtual 138, 3) := by decide +kernel
theorem dX9_isDug_12 : decode cX9_isDug 12 = .ok (.ireturn, 1) := by decide +kernel
theorem dX9_pitWorth_0 : decode cX9_pitWorth 0 = .ok (.iload_n 1, 1) := by decide +kernel
theorem dX9_pitWorth_1 : decode cX9_pitWorth 1 = .ok (.invokestatic 101, 3) := by decide +kernel
theorem dX9_pitWorth_4 : decode cX9_pitWorth 4 = .ok (.aload_n 0, 1) := by decide +kernel
theorem dX9_pitWorth_5 : decode cX9_pitWorth 5 = .ok (.getfield 28, 3) := by decide +kernel
theorem dX9_pitWorth_8 : decode cX9_pitWorth 8 = .ok (.iload_n 1, 1) := by decide +kernel
theorem dX9_pitWorth_9 : decode cX9_pitWorth 9 = .ok (.invokevirtual 141, 3) := by decide +kernel
theorem dX9_pitWorth_12 : decode cX9_pitWorth 12 = .ok (.aload_n 0, 1) := by decide +kernel
theorem dX9_pitWorth_13 : decode cX9_pitWorth 13 = .ok (.getfield 28, 3) := by decide +kernel
theorem dX9_pitWorth_16 : decode cX9_pitWorth 16 = .ok (.getfield 144, 3) := by decide +kernel
theorem dX9_pitWorth_19 : decode cX9_pitWorth 19 = .ok (.lreturn, 1) := by decide +kernel
theorem dX9_pitSize_0 : decode cX9_pitSize 0 = .ok (.iload_n 1, 1) := by decide +kernel
theorem dX9_pitSize_1 : decode cX9_pitSize 1 = .ok (.invokestatic 101, 3) := by decide +kernel
theorem dX9_pitSize_4 : decode cX9_pitSize 4 = .ok (.aload_n 0, 1) := by decide +kernel
theorem dX9_pitSize_5 : decode cX9_pitSize 5 = .ok (.getfield 28, 3) := by decide +kernel
theorem dX9_pitSize_8 : decode cX9_pitSize 8 = .ok (.iload_n 1, 1) := by decide +kernel
theorem dX9_pitSize_9 : decode cX9_pitSize 9 = .ok (.invokevirtual 141, 3) := by decide +kernel
theorem dX9_pitSize_12 : decode cX9_pitSize 12 = .ok (.aload_n 0, 1) := by decide +kernel
theorem dX9_pitSize_13 : decode cX9_pitSize 13 = .ok (.getfield 28, 3) := by decide +kernel
theorem dX9_pitSize_16 : decode cX9_pitSize 16 = .ok (.getfield 148, 3) := by decide +kernel
theorem dX9_pitSize_19 : decode cX9_pitSize 19 = .ok (.ireturn, 1) := by decide +kernel
theorem dX9_isInPit_0 : decode cX9_isInPit 0 = .ok (.iload_n 1, 1) := by decide +kernel
theorem dX9_isInPit_1 : decode cX9_isInPit 1 = .ok (.invokestatic 101, 3) := by decide +kernel
theorem dX9_isInPit_4 : decode cX9_isInPit 4 = .ok (.iload_n 2, 1) := by decide +kernel
theorem dX9_isInPit_5 : decode cX9_isInPit 5 = .ok (.invokestatic 76, 3) := by decide +kernel
theorem dX9_isInPit_8 : decode cX9_isInPit 8 = .ok (.aload_n 0, 1) := by decide +kernel
theorem dX9_isInPit_9 : decode cX9_isInPit 9 = .ok (.getfield 28, 3) := by decide +kernel
theorem dX9_isInPit_12 : decode cX9_isInPit 12 = .ok (.iload_n 1, 1) := by decide +kernel
theorem dX9_isInPit_13 : decode cX9_isInPit 13 = .ok (.invokevirtual 141, 3) := by decide +kernel
theorem dX9_isInPit_16 : decode cX9_isInPit 16 = .ok (.aload_n 0, 1) := by decide +kernel
theorem dX9_isInPit_17 : decode cX9_isInPit 17 = .ok (.getfield 28, 3) := by decide +kernel
theorem dX9_isInPit_20 : decode cX9_isInPit 20 = .ok (.iload_n 2, 1) := by decide +kernel
theorem dX9_isInPit_21 : decode cX9_isInPit 21 = .ok (.invokevirtual 151, 3) := by decide +kernel
theorem dX9_isInPit_24 : decode cX9_isInPit 24 = .ok (.ireturn, 1) := by decide +kernel
theorem dX9_worthWith_0 : decode cX9_worthWith 0 = .ok (.iload_n 1, 1) := by decide +kernel
theorem dX9_worthWith_1 : decode cX9_worthWith 1 = .ok (.invokestatic 101, 3) := by decide +kernel
theorem dX9_worthWith_4 : decode cX9_worthWith 4 = .ok (.iload_n 2, 1) := by decide +kernel
theorem dX9_worthWith_5 : decode cX9_worthWith 5 = .ok (.invokestatic 76, 3) := by decide +kernel
theorem dX9_worthWith_8 : decode cX9_worthWith 8 = .ok (.aload_n 0, 1) := by decide +kernel
theorem dX9_worthWith_9 : decode cX9_worthWith 9 = .ok (.iload_n 2, 1) := by decide +kernel
theorem dX9_worthWith_10 : decode cX9_worthWith 10 = .ok (.invokevirtual 87, 3) := by decide +kernel
theorem dX9_worthWith_13 : decode cX9_worthWith 13 = .ok (.aload_n 0, 1) := by decide +kernel
theorem dX9_worthWith_14 : decode cX9_worthWith 14 = .ok (.getfield 28, 3) := by decide +kernel
theorem dX9_worthWith_17 : decode cX9_worthWith 17 = .ok (.iload_n 1, 1) := by decide +kernel
theorem dX9_worthWith_18 : decode cX9_worthWith 18 = .ok (.iload_n 2, 1) := by decide +kernel
theorem dX9_worthWith_19 : decode cX9_worthWith 19 = .ok (.invokevirtual 154, 3) := by decide +kernel
theorem dX9_worthWith_22 : decode cX9_worthWith 22 = .ok (.lreturn, 1) := by decide +kernel
theorem dX9_phase_0 : decode cX9_phase 0 = .ok (.iload_n 1, 1) := by decide +kernel
theorem dX9_phase_1 : decode cX9_phase 1 = .ok (.invokestatic 101, 3) := by decide +kernel
theorem dX9_phase_4 : decode cX9_phase 4 = .ok (.iload_n 1, 1) := by decide +kernel
theorem dX9_phase_5 : decode cX9_phase 5 = .ok (.aload_n 0, 1) := by decide +kernel
theorem dX9_phase_6 : decode cX9_phase 6 = .ok (.getfield 37, 3) := by decide +kernel
theorem dX9_phase_9 : decode cX9_phase 9 = .ok (.invokevirtual 158, 3) := by decide +kernel
theorem dX9_phase_12 : decode cX9_phase 12 = .ok (.if_icmp .gt 13, 3) := by decide +kernel
theorem dX9_phase_15 : decode cX9_phase 15 = .ok (.new 80, 3) := by decide +kernel
theorem dX9_phase_18 : decode cX9_phase 18 = .ok (.dup, 1) := by decide +kernel
theorem dX9_phase_19 : decode cX9_phase 19 = .ok (.ldc 162, 2) := by decide +kernel
theorem dX9_phase_21 : decode cX9_phase 21 = .ok (.invokespecial 84, 3) := by decide +kernel
theorem dX9_phase_24 : decode cX9_phase 24 = .ok (.athrow, 1) := by decide +kernel
theorem dX9_phase_25 : decode cX9_phase 25 = .ok (.aload_n 0, 1) := by decide +kernel
theorem dX9_phase_26 : decode cX9_phase 26 = .ok (.getfield 37, 3) := by decide +kernel
theorem dX9_phase_29 : decode cX9_phase 29 = .ok (.invokevirtual 164, 3) := by decide +kernel
theorem dX9_phase_32 : decode cX9_phase 32 = .ok (.ifCond .eq 13, 3) := by decide +kernel
theorem dX9_phase_35 : decode cX9_phase 35 = .ok (.new 108, 3) := by decide +kernel
theorem dX9_phase_38 : decode cX9_phase 38 = .ok (.dup, 1) := by decide +kernel
theorem dX9_phase_39 : decode cX9_phase 39 = .ok (.ldc 165, 2) := by decide +kernel
theorem dX9_phase_41 : decode cX9_phase 41 = .ok (.invokespecial 112, 3) := by decide +kernel
theorem dX9_phase_44 : decode cX9_phase 44 = .ok (.athrow, 1) := by decide +kernel
theorem dX9_phase_45 : decode cX9_phase 45 = .ok (.aload_n 0, 1) := by decide +kernel
theorem dX9_phase_46 : decode cX9_phase 46 = .ok (.getfield 37, 3) := by decide +kernel
theorem dX9_phase_49 : decode cX9_phase 49 = .ok (.iload_n 1, 1) := by decide +kernel
theorem dX9_phase_50 : decode cX9_phase 50 = .ok (.invokevirtual 167, 3) := by decide +kernel
theorem dX9_phase_53 : decode cX9_phase 53 = .ok (.aload_n 0, 1) := by decide +kernel
theorem dX9_phase_54 : decode cX9_phase 54 = .ok (.getfield 37, 3) := by decide +kernel
theorem dX9_phase_57 : decode cX9_phase 57 = .ok (.getfield 170, 3) := by decide +kernel
theorem dX9_phase_60 : decode cX9_phase 60 = .ok (.ireturn, 1) := by decide +kernel
theorem dX9_clearPhases_0 : decode cX9_clearPhases 0 = .ok (.aload_n 0, 1) := by decide +kernel
theorem dX9_clearPhases_1 : decode cX9_clearPhases 1 = .ok (.getfield 37, 3) := by decide +kernel
theorem dX9_clearPhases_4 : decode cX9_clearPhases 4 = .ok (.getfield 170, 3) := by decide +kernel
theorem dX9_clearPhases_7 : decode cX9_clearPhases 7 = .ok (.istore_n 1, 1) := by decide +kernel
theorem dX9_clearPhases_8 : decode cX9_clearPhases 8 = .ok (.aload_n 0, 1) := by decide +kernel
theorem dX9_clearPhases_9 : decode cX9_clearPhases 9 = .ok (.getfield 37, 3) := by decide +kernel
theorem dX9_clearPhases_12 : decode cX9_clearPhases 12 = .ok (.invokevirtual 173, 3) := by decide +kernel
theorem dX9_clearPhases_15 : decode cX9_clearPhases 15 = .ok (.iload_n 1, 1) := by decide +kernel
theorem dX9_clearPhases_16 : decode cX9_clearPhases 16 = .ok (.ireturn, 1) := by decide +kernel
theorem dX9_phaseOf_0 : decode cX9_phaseOf 0 = .ok (.iload_n 1, 1) := by decide +kernel
theorem dX9_phaseOf_1 : decode cX9_phaseOf 1 = .ok (.invokestatic 76, 3) := by decide +kernel
theorem dX9_phaseOf_4 : decode cX9_phaseOf 4 = .ok (.aload_n 0, 1) := by decide +kernel
theorem dX9_phaseOf_5 : decode cX9_phaseOf 5 = .ok (.getfield 37, 3) := by decide +kernel
theorem dX9_phaseOf_8 : decode cX9_phaseOf 8 = .ok (.invokevirtual 176, 3) := by decide +kernel
theorem dX9_phaseOf_11 : decode cX9_phaseOf 11 = .ok (.aload_n 0, 1) := by decide +kernel
theorem dX9_phaseOf_12 : decode cX9_phaseOf 12 = .ok (.getfield 37, 3) := by decide +kernel
theorem dX9_phaseOf_15 : decode cX9_phaseOf 15 = .ok (.iload_n 1, 1) := by decide +kernel
theorem dX9_phaseOf_16 : decode cX9_phaseOf 16 = .ok (.invokevirtual 179, 3) := by decide +kernel
theorem dX9_phaseOf_19 : decode cX9_phaseOf 19 = .ok (.ireturn, 1) := by decide +kernel
theorem dX9_set_0 : decode cX9_set 0 = .ok (.aload_n 0, 1) := by decide +kernel
theorem dX9_set_1 : decode cX9_set 1 = .ok (.getfield 44, 3) := by decide +kernel
theorem dX9_set_4 : decode cX9_set 4 = .ok (.iload_n 1, 1) := by decide +kernel
theorem dX9_set_5 : decode cX9_set 5 = .ok (.invokevirtual 182, 3) := by decide +kernel
theorem dX9_set_8 : decode cX9_set 8 = .ok (.istore_n 3, 1) := by decide +kernel
theorem dX9_set_9 : decode cX9_set 9 = .ok (.iload_n 3, 1) := by decide +kernel
theorem dX9_set_10 : decode cX9_set 10 = .ok (.ifCond .ge 13, 3) := by decide +kernel
theorem dX9_set_13 : decode cX9_set 13 = .ok (.new 80, 3) := by decide +kernel
theorem dX9_set_16 : decode cX9_set 16 = .ok (.dup, 1) := by decide +kernel
theorem dX9_set_17 : decode cX9_set 17 = .ok (.ldc 186, 2) := by decide +kernel
theorem dX9_set_19 : decode cX9_set 19 = .ok (.invokespecial 84, 3) := by decide +kernel
theorem dX9_set_22 : decode cX9_set 22 = .ok (.athrow, 1) := by decide +kernel
theorem dX9_set_23 : decode cX9_set 23 = .ok (.iload_n 2, 1) := by decide +kernel
theorem dX9_set_24 : decode cX9_set 24 = .ok (.ifCond .lt 8, 3) := by decide +kernel
theorem dX9_set_27 : decode cX9_set 27 = .ok (.iload_n 2, 1) := by decide +kernel
theorem dX9_set_28 : decode cX9_set 28 = .ok (.iload_n 3, 1) := by decide +kernel
theorem dX9_set_29 : decode cX9_set 29 = .ok (.if_icmp .le 13, 3) := by decide +kernel
theorem dX9_set_32 : decode cX9_set 32 = .ok (.new 80, 3) := by decide +kernel
theorem dX9_set_35 : decode cX9_set 35 = .ok (.dup, 1) := by decide +kernel
theorem dX9_set_36 : decode cX9_set 36 = .ok (.ldc 188, 2) := by decide +kernel
theorem dX9_set_38 : decode cX9_set 38 = .ok (.invokespecial 84, 3) := by decide +kernel
theorem dX9_set_41 : decode cX9_set 41 = .ok (.athrow, 1) := by decide +kernel
theorem dX9_set_42 : decode cX9_set 42 = .ok (.aload_n 0, 1) := by decide +kernel
theorem dX9_set_43 : decode cX9_set 43 = .ok (.getfield 44, 3) := by decide +kernel
theorem dX9_set_46 : decode cX9_set 46 = .ok (.iload_n 1, 1) := by decide +kernel
theorem dX9_set_47 : decode cX9_set 47 = .ok (.invokevirtual 190, 3) := by decide +kernel
theorem dX9_set_50 : decode cX9_set 50 = .ok (.istore 4, 2) := by decide +kernel
theorem dX9_set_52 : decode cX9_set 52 = .ok (.aload_n 0, 1) := by decide +kernel
theorem dX9_set_53 : decode cX9_set 53 = .ok (.getfield 44, 3) := by decide +kernel
theorem dX9_set_56 : decode cX9_set 56 = .ok (.iload_n 1, 1) := by decide +kernel
theorem dX9_set_57 : decode cX9_set 57 = .ok (.iload_n 2, 1) := by decide +kernel
theorem dX9_set_58 : decode cX9_set 58 = .ok (.invokevirtual 193, 3) := by decide +kernel
theorem dX9_set_61 : decode cX9_set 61 = .ok (.iload 4, 2) := by decide +kernel
theorem dX9_set_63 : decode cX9_set 63 = .ok (.ireturn, 1) := by decide +kernel
theorem dX9_mix_0 : decode cX9_mix 0 = .ok (.aload_n 0, 1) := by decide +kernel
theorem dX9_mix_1 : decode cX9_mix 1 = .ok (.getfield 51, 3) := by decide +kernel
theorem dX9_mix_4 : decode cX9_mix 4 = .ok (.getfield 197, 3) := by decide +kernel
theorem dX9_mix_7 : decode cX9_mix 7 = .ok (.istore_n 2, 1) := by decide +kernel
theorem dX9_mix_8 : decode cX9_mix 8 = .ok (.aload_n 0, 1) := by decide +kernel
theorem dX9_mix_9 : decode cX9_mix 9 = .ok (.getfield 51, 3) := by decide +kernel
theorem dX9_mix_12 : decode cX9_mix 12 = .ok (.iload_n 1, 1) := by decide +kernel
theorem dX9_mix_13 : decode cX9_mix 13 = .ok (.putfield 197, 3) := by decide +kernel
theorem dX9_mix_16 : decode cX9_mix 16 = .ok (.iload_n 2, 1) := by decide +kernel
theorem dX9_mix_17 : decode cX9_mix 17 = .ok (.ireturn, 1) := by decide +kernel
theorem dX9_goOn_0 : decode cX9_goOn 0 = .ok (.iload_n 1, 1) := by decide +kernel
theorem dX9_goOn_1 : decode cX9_goOn 1 = .ok (.iconst 1, 1) := by decide +kernel
theorem dX9_goOn_2 : decode cX9_goOn 2 = .ok (.if_icmp .lt 9, 3) := by decide +kernel
theorem dX9_goOn_5 : decode cX9_goOn 5 = .ok (.iload_n 1, 1) := by decide +kernel
theorem dX9_goOn_6 : decode cX9_goOn 6 = .ok (.bipush 20, 2) := by decide +kernel
theorem dX9_goOn_8 : decode cX9_goOn 8 = .ok (.if_icmp .le 13, 3) := by decide +kernel
theorem dX9_goOn_11 : decode cX9_goOn 11 = .ok (.new 80, 3) := by decide +kernel
theorem dX9_goOn_14 : decode cX9_goOn 14 = .ok (.dup, 1) := by decide +kernel
theorem dX9_goOn_15 : decode cX9_goOn 15 = .ok (.ldc 201, 2) := by decide +kernel
theorem dX9_goOn_17 : decode cX9_goOn 17 = .ok (.invokespecial 84, 3) := by decide +kernel
theorem dX9_goOn_20 : decode cX9_goOn 20 = .ok (.athrow, 1) := by decide +kernel
theorem dX9_goOn_21 : decode cX9_goOn 21 = .ok (.aload_n 0, 1) := by decide +kernel
theorem dX9_goOn_22 : decode cX9_goOn 22 = .ok (.getfield 10, 3) := by decide +kernel
theorem dX9_goOn_25 : decode cX9_goOn 25 = .ok (.getfield 203, 3) := by decide +kernel
theorem dX9_goOn_28 : decode cX9_goOn 28 = .ok (.istore_n 2, 1) := by decide +kernel
theorem dX9_goOn_29 : decode cX9_goOn 29 = .ok (.iconst 0, 1) := by decide +kernel
theorem dX9_goOn_30 : decode cX9_goOn 30 = .ok (.istore_n 3, 1) := by decide +kernel
theorem dX9_goOn_31 : decode cX9_goOn 31 = .ok (.iload_n 3, 1) := by decide +kernel
theorem dX9_goOn_32 : decode cX9_goOn 32 = .ok (.iload_n 1, 1) := by decide +kernel
theorem dX9_goOn_33 : decode cX9_goOn 33 = .ok (.if_icmp .ge 13, 3) := by decide +kernel
theorem dX9_goOn_36 : decode cX9_goOn 36 = .ok (.aload_n 0, 1) := by decide +kernel
theorem dX9_goOn_37 : decode cX9_goOn 37 = .ok (.invokevirtual 206, 3) := by decide +kernel
theorem dX9_goOn_40 : decode cX9_goOn 40 = .ok (.iinc 3 1, 3) := by decide +kernel
theorem dX9_goOn_43 : decode cX9_goOn 43 = .ok (.goto (-12), 3) := by decide +kernel
theorem dX9_goOn_46 : decode cX9_goOn 46 = .ok (.aload_n 0, 1) := by decide +kernel
theorem dX9_goOn_47 : decode cX9_goOn 47 = .ok (.getfield 10, 3) := by decide +kernel
theorem dX9_goOn_50 : decode cX9_goOn 50 = .ok (.getfield 203, 3) := by decide +kernel
theorem dX9_goOn_53 : decode cX9_goOn 53 = .ok (.iload_n 2, 1) := by decide +kernel
theorem dX9_goOn_54 : decode cX9_goOn 54 = .ok (.isub, 1) := by decide +kernel
theorem dX9_goOn_55 : decode cX9_goOn 55 = .ok (.ireturn, 1) := by decide +kernel
theorem dX9_week_0 : decode cX9_week 0 = .ok (.aload_n 0, 1) := by decide +kernel
theorem dX9_week_1 : decode cX9_week 1 = .ok (.getfield 72, 3) := by decide +kernel
theorem dX9_week_4 : decode cX9_week 4 = .ok (.getfield 209, 3) := by decide +kernel
theorem dX9_week_7 : decode cX9_week 7 = .ok (.ireturn, 1) := by decide +kernel
theorem dX9_wentTo_0 : decode cX9_wentTo 0 = .ok (.iload_n 1, 1) := by decide +kernel
theorem dX9_wentTo_1 : decode cX9_wentTo 1 = .ok (.invokestatic 76, 3) := by decide +kernel
theorem dX9_wentTo_4 : decode cX9_wentTo 4 = .ok (.aload_n 0, 1) := by decide +kernel
theorem dX9_wentTo_5 : decode cX9_wentTo 5 = .ok (.iload_n 1, 1) := by decide +kernel
theorem dX9_wentTo_6 : decode cX9_wentTo 6 = .ok (.invokevirtual 212, 3) := by decide +kernel
theorem dX9_wentTo_9 : decode cX9_wentTo 9 = .ok (.aload_n 0, 1) := by decide +kernel
theorem dX9_wentTo_10 : decode cX9_wentTo 10 = .ok (.getfield 72, 3) := by decide +kernel
theorem dX9_wentTo_13 : decode cX9_wentTo 13 = .ok (.iload_n 1, 1) := by decide +kernel
theorem dX9_wentTo_14 : decode cX9_wentTo 14 = .ok (.invokevirtual 215, 3) := by decide +kernel
theorem dX9_wentTo_17 : decode cX9_wentTo 17 = .ok (.ireturn, 1) := by decide +kernel
theorem dX9_dugIn_0 : decode cX9_dugIn 0 = .ok (.iload_n 1, 1) := by decide +kernel
theorem dX9_dugIn_1 : decode cX9_dugIn 1 = .ok (.invokestatic 76, 3) := by decide +kernel
theorem dX9_dugIn_4 : decode cX9_dugIn 4 = .ok (.aload_n 0, 1) := by decide +kernel
theorem dX9_dugIn_5 : decode cX9_dugIn 5 = .ok (.iload_n 1, 1) := by decide +kernel
theorem dX9_dugIn_6 : decode cX9_dugIn 6 = .ok (.invokevirtual 212, 3) := by decide +kernel
theorem dX9_dugIn_9 : decode cX9_dugIn 9 = .ok (.aload_n 0, 1) := by decide +kernel
theorem dX9_dugIn_10 : decode cX9_dugIn 10 = .ok (.getfield 10, 3) := by decide +kernel
theorem dX9_dugIn_13 : decode cX9_dugIn 13 = .ok (.iload_n 1, 1) := by decide +kernel
theorem dX9_dugIn_14 : decode cX9_dugIn 14 = .ok (.invokevirtual 219, 3) := by decide +kernel
theorem dX9_dugIn_17 : decode cX9_dugIn 17 = .ok (.ireturn, 1) := by decide +kernel
theorem dX9_stock_0 : decode cX9_stock 0 = .ok (.aload_n 0, 1) := by decide +kernel
theorem dX9_stock_1 : decode cX9_stock 1 = .ok (.getfield 51, 3) := by decide +kernel
theorem dX9_stock_4 : decode cX9_stock 4 = .ok (.invokevirtual 222, 3) := by decide +kernel
theorem dX9_stock_7 : decode cX9_stock 7 = .ok (.ireturn, 1) := by decide +kernel
theorem dX9_stockGrades_0 : decode cX9_stockGrades 0 = .ok (.aload_n 0, 1) := by decide +kernel
theorem dX9_stockGrades_1 : decode cX9_stockGrades 1 = .ok (.getfield 51, 3) := by decide +kernel
theorem dX9_stockGrades_4 : decode cX9_stockGrades 4 = .ok (.invokevirtual 225, 3) := by decide +kernel
theorem dX9_stockGrades_7 : decode cX9_stockGrades 7 = .ok (.ireturn, 1) := by decide +kernel
theorem dX9_water_0 : decode cX9_water 0 = .ok (.aload_n 0, 1) := by decide +kernel
theorem dX9_water_1 : decode cX9_water 1 = .ok (.getfield 65, 3) := by decide +kernel
theorem dX9_water_4 : decode cX9_water 4 = .ok (.getfield 228, 3) := by decide +kernel
theorem dX9_water_7 : decode cX9_water 7 = .ok (.ireturn, 1) := by decide +kernel
theorem dX9_recovery_0 : decode cX9_recovery 0 = .ok (.aload_n 0, 1) := by decide +kernel
theorem dX9_recovery_1 : decode cX9_recovery 1 = .ok (.getfield 58, 3) := by decide +kernel
theorem dX9_recovery_4 : decode cX9_recovery 4 = .ok (.getfield 231, 3) := by decide +kernel
theorem dX9_recovery_7 : decode cX9_recovery 7 = .ok (.ifCond .ne 13, 3) := by decide +kernel
theorem dX9_recovery_10 : decode cX9_recovery 10 = .ok (.new 234, 3) := by decide +kernel
theorem dX9_recovery_13 : decode cX9_recovery 13 = .ok (.dup, 1) := by decide +kernel
theorem dX9_recovery_14 : decode cX9_recovery 14 = .ok (.ldc 236, 2) := by decide +kernel
theorem dX9_recovery_16 : decode cX9_recovery 16 = .ok (.invokespecial 238, 3) := by decide +kernel
theorem dX9_recovery_19 : decode cX9_recovery 19 = .ok (.athrow, 1) := by decide +kernel
theorem dX9_recovery_20 : decode cX9_recovery 20 = .ok (.aload_n 0, 1) := by decide +kernel
theorem dX9_recovery_21 : decode cX9_recovery 21 = .ok (.getfield 58, 3) := by decide +kernel
theorem dX9_recovery_24 : decode cX9_recovery 24 = .ok (.getfield 239, 3) := by decide +kernel
theorem dX9_recovery_27 : decode cX9_recovery 27 = .ok (.ireturn, 1) := by decide +kernel
theorem dX9_metal_0 : decode cX9_metal 0 = .ok (.aload_n 0, 1) := by decide +kernel
theorem dX9_metal_1 : decode cX9_metal 1 = .ok (.getfield 58, 3) := by decide +kernel
theorem dX9_metal_4 : decode cX9_metal 4 = .ok (.getfield 242, 3) := by decide +kernel
theorem dX9_metal_7 : decode cX9_metal 7 = .ok (.lreturn, 1) := by decide +kernel
theorem dX9_money_0 : decode cX9_money 0 = .ok (.aload_n 0, 1) := by decide +kernel
theorem dX9_money_1 : decode cX9_money 1 = .ok (.getfield 72, 3) := by decide +kernel
theorem dX9_money_4 : decode cX9_money 4 = .ok (.getfield 245, 3) := by decide +kernel
theorem dX9_money_7 : decode cX9_money 7 = .ok (.lreturn, 1) := by decide +kernel
theorem dX9_tons_0 : decode cX9_tons 0 = .ok (.iload_n 1, 1) := by decide +kernel
theorem dX9_tons_1 : decode cX9_tons 1 = .ok (.bipush 112, 2) := by decide +kernel
theorem dX9_tons_3 : decode cX9_tons 3 = .ok (.if_icmp .ne 14, 3) := by decide +kernel
theorem dX9_tons_6 : decode cX9_tons 6 = .ok (.bipush 10, 2) := by decide +kernel
theorem dX9_tons_8 : decode cX9_tons 8 = .ok (.aload_n 0, 1) := by decide +kernel
theorem dX9_tons_9 : decode cX9_tons 9 = .ok (.getfield 58, 3) := by decide +kernel
theorem dX9_tons_12 : decode cX9_tons 12 = .ok (.getfield 248, 3) := by decide +kernel
theorem dX9_tons_15 : decode cX9_tons 15 = .ok (.imul, 1) := by decide +kernel
theorem dX9_tons_16 : decode cX9_tons 16 = .ok (.ireturn, 1) := by decide +kernel
theorem dX9_tons_17 : decode cX9_tons 17 = .ok (.iload_n 1, 1) := by decide +kernel
theorem dX9_tons_18 : decode cX9_tons 18 = .ok (.bipush 115, 2) := by decide +kernel
theorem dX9_tons_20 : decode cX9_tons 20 = .ok (.if_icmp .ne 14, 3) := by decide +kernel
theorem dX9_tons_23 : decode cX9_tons 23 = .ok (.bipush 10, 2) := by decide +kernel
theorem dX9_tons_25 : decode cX9_tons 25 = .ok (.aload_n 0, 1) := by decide +kernel
theorem dX9_tons_26 : decode cX9_tons 26 = .ok (.getfield 51, 3) := by decide +kernel
theorem dX9_tons_29 : decode cX9_tons 29 = .ok (.invokevirtual 222, 3) := by decide +kernel
theorem dX9_tons_32 : decode cX9_tons 32 = .ok (.imul, 1) := by decide +kernel
theorem dX9_tons_33 : decode cX9_tons 33 = .ok (.ireturn, 1) := by decide +kernel
theorem dX9_tons_34 : decode cX9_tons 34 = .ok (.iload_n 1, 1) := by decide +kernel
theorem dX9_tons_35 : decode cX9_tons 35 = .ok (.bipush 100, 2) := by decide +kernel
theorem dX9_tons_37 : decode cX9_tons 37 = .ok (.if_icmp .ne 14, 3) := by decide +kernel
theorem dX9_tons_40 : decode cX9_tons 40 = .ok (.bipush 10, 2) := by decide +kernel
theorem dX9_tons_42 : decode cX9_tons 42 = .ok (.aload_n 0, 1) := by decide +kernel
theorem dX9_tons_43 : decode cX9_tons 43 = .ok (.getfield 72, 3) := by decide +kernel
theorem dX9_tons_46 : decode cX9_tons 46 = .ok (.getfield 251, 3) := by decide +kernel
theorem dX9_tons_49 : decode cX9_tons 49 = .ok (.imul, 1) := by decide +kernel
theorem dX9_tons_50 : decode cX9_tons 50 = .ok (.ireturn, 1) := by decide +kernel
theorem dX9_tons_51 : decode cX9_tons 51 = .ok (.new 80, 3) := by decide +kernel
theorem dX9_tons_54 : decode cX9_tons 54 = .ok (.dup, 1) := by decide +kernel
theorem dX9_tons_55 : decode cX9_tons 55 = .ok (.ldc 186, 2) := by decide +kernel
theorem dX9_tons_57 : decode cX9_tons 57 = .ok (.invokespecial 84, 3) := by decide +kernel
theorem dX9_tons_60 : decode cX9_tons 60 = .ok (.athrow, 1) := by decide +kernel
theorem dX9_factor_0 : decode cX9_factor 0 = .ok (.aload_n 0, 1) := by decide +kernel
theorem dX9_factor_1 : decode cX9_factor 1 = .ok (.getfield 72, 3) := by decide +kernel
theorem dX9_factor_4 : decode cX9_factor 4 = .ok (.getfield 254, 3) := by decide +kernel
theorem dX9_factor_7 : decode cX9_factor 7 = .ok (.ifCond .gt 14, 3) := by decide +kernel
theorem dX9_factor_10 : decode cX9_factor 10 = .ok (.new 257, 3) := by decide +kernel
theorem dX9_factor_13 : decode cX9_factor 13 = .ok (.dup, 1) := by decide +kernel
theorem dX9_factor_14 : decode cX9_factor 14 = .ok (.ldc_w 259, 3) := by decide +kernel
theorem dX9_factor_17 : decode cX9_factor 17 = .ok (.invokespecial 261, 3) := by decide +kernel
theorem dX9_factor_20 : decode cX9_factor 20 = .ok (.athrow, 1) := by decide +kernel
theorem dX9_factor_21 : decode cX9_factor 21 = .ok (.bipush 100, 2) := by decide +kernel
theorem dX9_factor_23 : decode cX9_factor 23 = .ok (.aload_n 0, 1) := by decide +kernel
theorem dX9_factor_24 : decode cX9_factor 24 = .ok (.getfield 72, 3) := by decide +kernel
theorem dX9_factor_27 : decode cX9_factor 27 = .ok (.getfield 262, 3) := by decide +kernel
theorem dX9_factor_30 : decode cX9_factor 30 = .ok (.imul, 1) := by decide +kernel
theorem dX9_factor_31 : decode cX9_factor 31 = .ok (.aload_n 0, 1) := by decide +kernel
theorem dX9_factor_32 : decode cX9_factor 32 = .ok (.getfield 72, 3) := by decide +kernel
theorem dX9_factor_35 : decode cX9_factor 35 = .ok (.getfield 254, 3) := by decide +kernel
theorem dX9_factor_38 : decode cX9_factor 38 = .ok (.idiv, 1) := by decide +kernel
theorem dX9_factor_39 : decode cX9_factor 39 = .ok (.ireturn, 1) := by decide +kernel
theorem dX9_isBalanced_0 : decode cX9_isBalanced 0 = .ok (.bipush 10, 2) := by decide +kernel
theorem dX9_isBalanced_2 : decode cX9_isBalanced 2 = .ok (.aload_n 0, 1) := by decide +kernel
theorem dX9_isBalanced_3 : decode cX9_isBalanced 3 = .ok (.getfield 58, 3) := by decide +kernel
theorem dX9_isBalanced_6 : decode cX9_isBalanced 6 = .ok (.getfield 248, 3) := by decide +kernel
theorem dX9_isBalanced_9 : decode cX9_isBalanced 9 = .ok (.aload_n 0, 1) := by decide +kernel
theorem dX9_isBalanced_10 : decode cX9_isBalanced 10 = .ok (.getfield 51, 3) := by decide +kernel
theorem dX9_isBalanced_13 : decode cX9_isBalanced 13 = .ok (.invokevirtual 222, 3) := by decide +kernel
theorem dX9_isBalanced_16 : decode cX9_isBalanced 16 = .ok (.iadd, 1) := by decide +kernel
theorem dX9_isBalanced_17 : decode cX9_isBalanced 17 = .ok (.aload_n 0, 1) := by decide +kernel
theorem dX9_isBalanced_18 : decode cX9_isBalanced 18 = .ok (.getfield 72, 3) := by decide +kernel
theorem dX9_isBalanced_21 : decode cX9_isBalanced 21 = .ok (.getfield 251, 3) := by decide +kernel
theorem dX9_isBalanced_24 : decode cX9_isBalanced 24 = .ok (.iadd, 1) := by decide +kernel
theorem dX9_isBalanced_25 : decode cX9_isBalanced 25 = .ok (.imul, 1) := by decide +kernel
theorem dX9_isBalanced_26 : decode cX9_isBalanced 26 = .ok (.istore_n 1, 1) := by decide +kernel
theorem dX9_isBalanced_27 : decode cX9_isBalanced 27 = .ok (.iload_n 1, 1) := by decide +kernel
theorem dX9_isBalanced_28 : decode cX9_isBalanced 28 = .ok (.bipush 10, 2) := by decide +kernel
theorem dX9_isBalanced_30 : decode cX9_isBalanced 30 = .ok (.aload_n 0, 1) := by decide +kernel
theorem dX9_isBalanced_31 : decode cX9_isBalanced 31 = .ok (.getfield 10, 3) := by decide +kernel
theorem dX9_isBalanced_34 : decode cX9_isBalanced 34 = .ok (.getfield 203, 3) := by decide +kernel
theorem dX9_isBalanced_37 : decode cX9_isBalanced 37 = .ok (.imul, 1) := by decide +kernel
theorem dX9_isBalanced_38 : decode cX9_isBalanced 38 = .ok (.if_icmp .ne 17, 3) := by decide +kernel
theorem dX9_isBalanced_41 : decode cX9_isBalanced 41 = .ok (.aload_n 0, 1) := by decide +kernel
theorem dX9_isBalanced_42 : decode cX9_isBalanced 42 = .ok (.getfield 10, 3) := by decide +kernel
theorem dX9_isBalanced_45 : decode cX9_isBalanced 45 = .ok (.invokevirtual 265, 3) := by decide +kernel
theorem dX9_isBalanced_48 : decode cX9_isBalanced 48 = .ok (.ifCond .eq 7, 3) := by decide +kernel
theorem dX9_isBalanced_51 : decode cX9_isBalanced 51 = .ok (.iconst 1, 1) := by decide +kernel
theorem dX9_isBalanced_52 : decode cX9_isBalanced 52 = .ok (.goto 4, 3) := by decide +kernel
theorem dX9_isBalanced_55 : decode cX9_isBalanced 55 = .ok (.iconst 0, 1) := by decide +kernel
theorem dX9_isBalanced_56 : decode cX9_isBalanced 56 = .ok (.ireturn, 1) := by decide +kernel
theorem dX9_dugShare_0 : decode cX9_dugShare 0 = .ok (.aload_n 0, 1) := by decide +kernel
theorem dX9_dugShare_1 : decode cX9_dugShare 1 = .ok (.getfield 10, 3) := by decide +kernel
theorem dX9_dugShare_4 : decode cX9_dugShare 4 = .ok (.getfield 203, 3) := by decide +kernel
theorem dX9_dugShare_7 : decode cX9_dugShare 7 = .ok (.i2f, 1) := by decide +kernel
theorem dX9_dugShare_8 : decode cX9_dugShare 8 = .ok (.ldc_w 268, 3) := by decide +kernel
theorem dX9_dugShare_11 : decode cX9_dugShare 11 = .ok (.fdiv, 1) := by decide +kernel
theorem dX9_dugShare_12 : decode cX9_dugShare 12 = .ok (.freturn, 1) := by decide +kernel
theorem dX9_meanFed_0 : decode cX9_meanFed 0 = .ok (.aload_n 0, 1) := by decide +kernel
theorem dX9_meanFed_1 : decode cX9_meanFed 1 = .ok (.getfield 58, 3) := by decide +kernel
theorem dX9_meanFed_4 : decode cX9_meanFed 4 = .ok (.getfield 248, 3) := by decide +kernel
theorem dX9_meanFed_7 : decode cX9_meanFed 7 = .ok (.ifCond .gt 13, 3) := by decide +kernel
theorem dX9_meanFed_10 : decode cX9_meanFed 10 = .ok (.new 257, 3) := by decide +kernel
theorem dX9_meanFed_13 : decode cX9_meanFed 13 = .ok (.dup, 1) := by decide +kernel
theorem dX9_meanFed_14 : decode cX9_meanFed 14 = .ok (.ldc 236, 2) := by decide +kernel
theorem dX9_meanFed_16 : decode cX9_meanFed 16 = .ok (.invokespecial 261, 3) := by decide +kernel
theorem dX9_meanFed_19 : decode cX9_meanFed 19 = .ok (.athrow, 1) := by decide +kernel
theorem dX9_meanFed_20 : decode cX9_meanFed 20 = .ok (.aload_n 0, 1) := by decide +kernel
theorem dX9_meanFed_21 : decode cX9_meanFed 21 = .ok (.getfield 58, 3) := by decide +kernel
theorem dX9_meanFed_24 : decode cX9_meanFed 24 = .ok (.getfield 269, 3) := by decide +kernel
theorem dX9_meanFed_27 : decode cX9_meanFed 27 = .ok (.i2d, 1) := by decide +kernel
theorem dX9_meanFed_28 : decode cX9_meanFed 28 = .ok (.aload_n 0, 1) := by decide +kernel
theorem dX9_meanFed_29 : decode cX9_meanFed 29 = .ok (.getfield 58, 3) := by decide +kernel
theorem dX9_meanFed_32 : decode cX9_meanFed 32 = .ok (.getfield 248, 3) := by decide +kernel
theorem dX9_meanFed_35 : decode cX9_meanFed 35 = .ok (.i2d, 1) := by decide +kernel
theorem dX9_meanFed_36 : decode cX9_meanFed 36 = .ok (.ddiv, 1) := by decide +kernel
theorem dX9_meanFed_37 : decode cX9_meanFed 37 = .ok (.dreturn, 1) := by decide +kernel
theorem dX9_passWeek_0 : decode cX9_passWeek 0 = .ok (.aload_n 0, 1) := by decide +kernel
theorem dX9_passWeek_1 : decode cX9_passWeek 1 = .ok (.getfield 37, 3) := by decide +kernel
theorem dX9_passWeek_4 : decode cX9_passWeek 4 = .ok (.invokevirtual 176, 3) := by decide +kernel
theorem dX9_passWeek_7 : decode cX9_passWeek 7 = .ok (.aload_n 0, 1) := by decide +kernel
theorem dX9_passWeek_8 : decode cX9_passWeek 8 = .ok (.getfield 58, 3) := by decide +kernel
theorem dX9_passWeek_11 : decode cX9_passWeek 11 = .ok (.invokevirtual 272, 3) := by decide +kernel
theorem dX9_passWeek_14 : decode cX9_passWeek 14 = .ok (.aload_n 0, 1) := by decide +kernel
theorem dX9_passWeek_15 : decode cX9_passWeek 15 = .ok (.invokevirtual 275, 3) := by decide +kernel
theorem dX9_passWeek_18 : decode cX9_passWeek 18 = .ok (.istore_n 1, 1) := by decide +kernel
theorem dX9_passWeek_19 : decode cX9_passWeek 19 = .ok (.aload_n 0, 1) := by decide +kernel
theorem dX9_passWeek_20 : decode cX9_passWeek 20 = .ok (.getfield 44, 3) := by decide +kernel
theorem dX9_passWeek_23 : decode cX9_passWeek 23 = .ok (.bipush 115, 2) := by decide +kernel
theorem dX9_passWeek_25 : decode cX9_passWeek 25 = .ok (.invokevirtual 190, 3) := by decide +kernel
theorem dX9_passWeek_28 : decode cX9_passWeek 28 = .ok (.istore_n 2, 1) := by decide +kernel
theorem dX9_passWeek_29 : decode cX9_passWeek 29 = .ok (.iconst 0, 1) := by decide +kernel
theorem dX9_passWeek_30 : decode cX9_passWeek 30 = .ok (.istore_n 3, 1) := by decide +kernel
theorem dX9_passWeek_31 : decode cX9_passWeek 31 = .ok (.iload_n 3, 1) := by decide +kernel
theorem dX9_passWeek_32 : decode cX9_passWeek 32 = .ok (.iload_n 2, 1) := by decide +kernel
theorem dX9_passWeek_33 : decode cX9_passWeek 33 = .ok (.if_icmp .ge 30, 3) := by decide +kernel
theorem dX9_passWeek_36 : decode cX9_passWeek 36 = .ok (.aload_n 0, 1) := by decide +kernel
theorem dX9_passWeek_37 : decode cX9_passWeek 37 = .ok (.iload_n 1, 1) := by decide +kernel
theorem dX9_passWeek_38 : decode cX9_passWeek 38 = .ok (.invokevirtual 278, 3) := by decide +kernel
theorem dX9_passWeek_41 : decode cX9_passWeek 41 = .ok (.istore 4, 2) := by decide +kernel
theorem dX9_passWeek_43 : decode cX9_passWeek 43 = .ok (.iload 4, 2) := by decide +kernel
theorem dX9_passWeek_45 : decode cX9_passWeek 45 = .ok (.ifCond .ge 6, 3) := by decide +kernel
theorem dX9_passWeek_48 : decode cX9_passWeek 48 = .ok (.goto 15, 3) := by decide +kernel
theorem dX9_passWeek_51 : decode cX9_passWeek 51 = .ok (.aload_n 0, 1) := by decide +kernel
theorem dX9_passWeek_52 : decode cX9_passWeek 52 = .ok (.iload 4, 2) := by decide +kernel
theorem dX9_passWeek_54 : decode cX9_passWeek 54 = .ok (.invokevirtual 281, 3) := by decide +kernel
theorem dX9_passWeek_57 : decode cX9_passWeek 57 = .ok (.iinc 3 1, 3) := by decide +kernel
theorem dX9_passWeek_60 : decode cX9_passWeek 60 = .ok (.goto (-29), 3) := by decide +kernel
theorem dX9_passWeek_63 : decode cX9_passWeek 63 = .ok (.aload_n 0, 1) := by decide +kernel
theorem dX9_passWeek_64 : decode cX9_passWeek 64 = .ok (.invokevirtual 284, 3) := by decide +kernel
theorem dX9_passWeek_67 : decode cX9_passWeek 67 = .ok (.aload_n 0, 1) := by decide +kernel
theorem dX9_passWeek_68 : decode cX9_passWeek 68 = .ok (.getfield 72, 3) := by decide +kernel
theorem dX9_passWeek_71 : decode cX9_passWeek 71 = .ok (.dup, 1) := by decide +kernel
theorem dX9_passWeek_72 : decode cX9_passWeek 72 = .ok (.getfield 245, 3) := by decide +kernel
theorem dX9_passWeek_75 : decode cX9_passWeek 75 = .ok (.aload_n 0, 1) := by decide +kernel
theorem dX9_passWeek_76 : decode cX9_passWeek 76 = .ok (.getfield 58, 3) := by decide +kernel
theorem dX9_passWeek_79 : decode cX9_passWeek 79 = .ok (.invokevirtual 287, 3) := by decide +kernel
theorem dX9_passWeek_82 : decode cX9_passWeek 82 = .ok (.aload_n 0, 1) := by decide +kernel
theorem dX9_passWeek_83 : decode cX9_passWeek 83 = .ok (.getfield 44, 3) := by decide +kernel
theorem dX9_passWeek_86 : decode cX9_passWeek 86 = .ok (.bipush 109, 2) := by decide +kernel
theorem dX9_passWeek_88 : decode cX9_passWeek 88 = .ok (.invokevirtual 190, 3) := by decide +kernel
theorem dX9_passWeek_91 : decode cX9_passWeek 91 = .ok (.i2l, 1) := by decide +kernel
theorem dX9_passWeek_92 : decode cX9_passWeek 92 = .ok (.lmul, 1) := by decide +kernel
theorem dX9_passWeek_93 : decode cX9_passWeek 93 = .ok (.ldc2_w 291, 3) := by decide +kernel
theorem dX9_passWeek_96 : decode cX9_passWeek 96 = .ok (.ldiv, 1) := by decide +kernel
theorem dX9_passWeek_97 : decode cX9_passWeek 97 = .ok (.ldc2_w 293, 3) := by decide +kernel
theorem dX9_passWeek_100 : decode cX9_passWeek 100 = .ok (.aload_n 0, 1) := by decide +kernel
theorem dX9_passWeek_101 : decode cX9_passWeek 101 = .ok (.getfield 58, 3) := by decide +kernel
theorem dX9_passWeek_104 : decode cX9_passWeek 104 = .ok (.getfield 295, 3) := by decide +kernel
theorem dX9_passWeek_107 : decode cX9_passWeek 107 = .ok (.i2l, 1) := by decide +kernel
theorem dX9_passWeek_108 : decode cX9_passWeek 108 = .ok (.lmul, 1) := by decide +kernel
theorem dX9_passWeek_109 : decode cX9_passWeek 109 = .ok (.lsub, 1) := by decide +kernel
theorem dX9_passWeek_110 : decode cX9_passWeek 110 = .ok (.ladd, 1) := by decide +kernel
theorem dX9_passWeek_111 : decode cX9_passWeek 111 = .ok (.putfield 245, 3) := by decide +kernel
theorem dX9_passWeek_114 : decode cX9_passWeek 114 = .ok (.aload_n 0, 1) := by decide +kernel
theorem dX9_passWeek_115 : decode cX9_passWeek 115 = .ok (.getfield 65, 3) := by decide +kernel
theorem dX9_passWeek_118 : decode cX9_passWeek 118 = .ok (.aload_n 0, 1) := by decide +kernel
theorem dX9_passWeek_119 : decode cX9_passWeek 119 = .ok (.getfield 44, 3) := by decide +kernel
theorem dX9_passWeek_122 : decode cX9_passWeek 122 = .ok (.bipush 114, 2) := by decide +kernel
theorem dX9_passWeek_124 : decode cX9_passWeek 124 = .ok (.invokevirtual 190, 3) := by decide +kernel
theorem dX9_passWeek_127 : decode cX9_passWeek 127 = .ok (.aload_n 0, 1) := by decide +kernel
theorem dX9_passWeek_128 : decode cX9_passWeek 128 = .ok (.getfield 44, 3) := by decide +kernel
theorem dX9_passWeek_131 : decode cX9_passWeek 131 = .ok (.bipush 119, 2) := by decide +kernel
theorem dX9_passWeek_133 : decode cX9_passWeek 133 = .ok (.invokevirtual 190, 3) := by decide +kernel
theorem dX9_passWeek_136 : decode cX9_passWeek 136 = .ok (.invokevirtual 298, 3) := by decide +kernel
theorem dX9_passWeek_139 : decode cX9_passWeek 139 = .ok (.istore_n 3, 1) := by decide +kernel
theorem dX9_passWeek_140 : decode cX9_passWeek 140 = .ok (.aload_n 0, 1) := by decide +kernel
theorem dX9_passWeek_141 : decode cX9_passWeek 141 = .ok (.getfield 72, 3) := by decide +kernel
theorem dX9_passWeek_144 : decode cX9_passWeek 144 = .ok (.dup, 1) := by decide +kernel
theorem dX9_passWeek_145 : decode cX9_passWeek 145 = .ok (.getfield 245, 3) := by decide +kernel
theorem dX9_passWeek_148 : decode cX9_passWeek 148 = .ok (.iconst 5, 1) := by decide +kernel
theorem dX9_passWeek_149 : decode cX9_passWeek 149 = .ok (.iload_n 3, 1) := by decide +kernel
theorem dX9_passWeek_150 : decode cX9_passWeek 150 = .ok (.bipush 9, 2) := by decide +kernel
theorem dX9_passWeek_152 : decode cX9_passWeek 152 = .ok (.iadd, 1) := by decide +kernel
theorem dX9_passWeek_153 : decode cX9_passWeek 153 = .ok (.bipush 10, 2) := by decide +kernel
theorem dX9_passWeek_155 : decode cX9_passWeek 155 = .ok (.idiv, 1) := by decide +kernel
theorem dX9_passWeek_156 : decode cX9_passWeek 156 = .ok (.imul, 1) := by decide +kernel
theorem dX9_passWeek_157 : decode cX9_passWeek 157 = .ok (.i2l, 1) := by decide +kernel
theorem dX9_passWeek_158 : decode cX9_passWeek 158 = .ok (.lsub, 1) := by decide +kernel
theorem dX9_passWeek_159 : decode cX9_passWeek 159 = .ok (.putfield 245, 3) := by decide +kernel
theorem dX9_passWeek_162 : decode cX9_passWeek 162 = .ok (.aload_n 0, 1) := by decide +kernel
theorem dX9_passWeek_163 : decode cX9_passWeek 163 = .ok (.getfield 72, 3) := by decide +kernel
theorem dX9_passWeek_166 : decode cX9_passWeek 166 = .ok (.dup, 1) := by decide +kernel
theorem dX9_passWeek_167 : decode cX9_passWeek 167 = .ok (.getfield 209, 3) := by decide +kernel
theorem dX9_passWeek_170 : decode cX9_passWeek 170 = .ok (.iconst 1, 1) := by decide +kernel
theorem dX9_passWeek_171 : decode cX9_passWeek 171 = .ok (.iadd, 1) := by decide +kernel
theorem dX9_passWeek_172 : decode cX9_passWeek 172 = .ok (.putfield 209, 3) := by decide +kernel
theorem dX9_passWeek_175 : decode cX9_passWeek 175 = .ok (.return_, 1) := by decide +kernel
theorem dX9_dryLevels_0 : decode cX9_dryLevels 0 = .ok (.aload_n 0, 1) := by decide +kernel
theorem dX9_dryLevels_1 : decode cX9_dryLevels 1 = .ok (.getfield 10, 3) := by decide +kernel
theorem dX9_dryLevels_4 : decode cX9_dryLevels 4 = .ok (.invokevirtual 301, 3) := by decide +kernel
theorem dX9_dryLevels_7 : decode cX9_dryLevels 7 = .ok (.istore_n 1, 1) := by decide +kernel
theorem dX9_dryLevels_8 : decode cX9_dryLevels 8 = .ok (.iload_n 1, 1) := by decide +kernel
theorem dX9_dryLevels_9 : decode cX9_dryLevels 9 = .ok (.ifCond .lt 15, 3) := by decide +kernel
theorem dX9_dryLevels_12 : decode cX9_dryLevels 12 = .ok (.aload_n 0, 1) := by decide +kernel
theorem dX9_dryLevels_13 : decode cX9_dryLevels 13 = .ok (.getfield 65, 3) := by decide +kernel
theorem dX9_dryLevels_16 : decode cX9_dryLevels 16 = .ok (.getfield 228, 3) := by decide +kernel
theorem dX9_dryLevels_19 : decode cX9_dryLevels 19 = .ok (.bipush 50, 2) := by decide +kernel
theorem dX9_dryLevels_21 : decode cX9_dryLevels 21 = .ok (.if_icmp .gt 6, 3) := by decide +kernel
theorem dX9_dryLevels_24 : decode cX9_dryLevels 24 = .ok (.bipush 6, 2) := by decide +kernel
theorem dX9_dryLevels_26 : decode cX9_dryLevels 26 = .ok (.ireturn, 1) := by decide +kernel
theorem dX9_dryLevels_27 : decode cX9_dryLevels 27 = .ok (.iload_n 1, 1) := by decide +kernel
theorem dX9_dryLevels_28 : decode cX9_dryLevels 28 = .ok (.iconst 1, 1) := by decide +kernel
theorem dX9_dryLevels_29 : decode cX9_dryLevels 29 = .ok (.invokestatic 304, 3) := by decide +kernel
theorem dX9_dryLevels_32 : decode cX9_dryLevels 32 = .ok (.ireturn, 1) := by decide +kernel
theorem dX9_nextBlock_0 : decode cX9_nextBlock 0 = .ok (.iconst (-1), 1) := by decide +kernel
theorem dX9_nextBlock_1 : decode cX9_nextBlock 1 = .ok (.istore_n 2, 1) := by decide +kernel
theorem dX9_nextBlock_2 : decode cX9_nextBlock 2 = .ok (.iconst 4, 1) := by decide +kernel
theorem dX9_nextBlock_3 : decode cX9_nextBlock 3 = .ok (.istore_n 3, 1) := by decide +kernel
theorem dX9_nextBlock_4 : decode cX9_nextBlock 4 = .ok (.iconst 0, 1) := by decide +kernel
theorem dX9_nextBlock_5 : decode cX9_nextBlock 5 = .ok (.istore 4, 2) := by decide +kernel
theorem dX9_nextBlock_7 : decode cX9_nextBlock 7 = .ok (.iload 4, 2) := by decide +kernel
theorem dX9_nextBlock_9 : decode cX9_nextBlock 9 = .ok (.iload_n 1, 1) := by decide +kernel
theorem dX9_nextBlock_10 : decode cX9_nextBlock 10 = .ok (.bipush 10, 2) := by decide +kernel
theorem dX9_nextBlock_12 : decode cX9_nextBlock 12 = .ok (.imul, 1) := by decide +kernel
theorem dX9_nextBlock_13 : decode cX9_nextBlock 13 = .ok (.if_icmp .ge 49, 3) := by decide +kernel
theorem dX9_nextBlock_16 : decode cX9_nextBlock 16 = .ok (.aload_n 0, 1) := by decide +kernel
theorem dX9_nextBlock_17 : decode cX9_nextBlock 17 = .ok (.getfield 37, 3) := by decide +kernel
theorem dX9_nextBlock_20 : decode cX9_nextBlock 20 = .ok (.iload 4, 2) := by decide +kernel
theorem dX9_nextBlock_22 : decode cX9_nextBlock 22 = .ok (.invokevirtual 179, 3) := by decide +kernel
theorem dX9_nextBlock_25 : decode cX9_nextBlock 25 = .ok (.istore 5, 2) := by decide +kernel
theorem dX9_nextBlock_27 : decode cX9_nextBlock 27 = .ok (.iload 5, 2) := by decide +kernel
theorem dX9_nextBlock_29 : decode cX9_nextBlock 29 = .ok (.ifCond .lt 27, 3) := by decide +kernel
theorem dX9_nextBlock_32 : decode cX9_nextBlock 32 = .ok (.iload 5, 2) := by decide +kernel
theorem dX9_nextBlock_34 : decode cX9_nextBlock 34 = .ok (.iload_n 3, 1) := by decide +kernel
theorem dX9_nextBlock_35 : decode cX9_nextBlock 35 = .ok (.if_icmp .ge 21, 3) := by decide +kernel
theorem dX9_nextBlock_38 : decode cX9_nextBlock 38 = .ok (.aload_n 0, 1) := by decide +kernel
theorem dX9_nextBlock_39 : decode cX9_nextBlock 39 = .ok (.getfield 10, 3) := by decide +kernel
theorem dX9_nextBlock_42 : decode cX9_nextBlock 42 = .ok (.iload 4, 2) := by decide +kernel
theorem dX9_nextBlock_44 : decode cX9_nextBlock 44 = .ok (.invokevirtual 135, 3) := by decide +kernel
theorem dX9_nextBlock_47 : decode cX9_nextBlock 47 = .ok (.ifCond .eq 9, 3) := by decide +kernel
theorem dX9_nextBlock_50 : decode cX9_nextBlock 50 = .ok (.iload 4, 2) := by decide +kernel
theorem dX9_nextBlock_52 : decode cX9_nextBlock 52 = .ok (.istore_n 2, 1) := by decide +kernel
theorem dX9_nextBlock_53 : decode cX9_nextBlock 53 = .ok (.iload 5, 2) := by decide +kernel
theorem dX9_nextBlock_55 : decode cX9_nextBlock 55 = .ok (.istore_n 3, 1) := by decide +kernel
theorem dX9_nextBlock_56 : decode cX9_nextBlock 56 = .ok (.iinc 4 1, 3) := by decide +kernel
theorem dX9_nextBlock_59 : decode cX9_nextBlock 59 = .ok (.goto (-52), 3) := by decide +kernel
theorem dX9_nextBlock_62 : decode cX9_nextBlock 62 = .ok (.iload_n 2, 1) := by decide +kernel
theorem dX9_nextBlock_63 : decode cX9_nextBlock 63 = .ok (.ireturn, 1) := by decide +kernel
theorem dX9_digOut_0 : decode cX9_digOut 0 = .ok (.aload_n 0, 1) := by decide +kernel
theorem dX9_digOut_1 : decode cX9_digOut 1 = .ok (.getfield 19, 3) := by decide +kernel
theorem dX9_digOut_4 : decode cX9_digOut 4 = .ok (.iload_n 1, 1) := by decide +kernel
theorem dX9_digOut_5 : decode cX9_digOut 5 = .ok (.invokevirtual 128, 3) := by decide +kernel
theorem dX9_digOut_8 : decode cX9_digOut 8 = .ok (.istore_n 2, 1) := by decide +kernel
theorem dX9_digOut_9 : decode cX9_digOut 9 = .ok (.aload_n 0, 1) := by decide +kernel
theorem dX9_digOut_10 : decode cX9_digOut 10 = .ok (.getfield 72, 3) := by decide +kernel
theorem dX9_digOut_13 : decode cX9_digOut 13 = .ok (.iload_n 1, 1) := by decide +kernel
theorem dX9_digOut_14 : decode cX9_digOut 14 = .ok (.invokevirtual 121, 3) := by decide +kernel
theorem dX9_digOut_17 : decode cX9_digOut 17 = .ok (.istore_n 3, 1) := by decide +kernel
theorem dX9_digOut_18 : decode cX9_digOut 18 = .ok (.iload_n 3, 1) := by decide +kernel
theorem dX9_digOut_19 : decode cX9_digOut 19 = .ok (.ifCond .lt 7, 3) := by decide +kernel
theorem dX9_digOut_22 : decode cX9_digOut 22 = .ok (.iload_n 3, 1) := by decide +kernel
theorem dX9_digOut_23 : decode cX9_digOut 23 = .ok (.goto 4, 3) := by decide +kernel
theorem dX9_digOut_26 : decode cX9_digOut 26 = .ok (.iload_n 2, 1) := by decide +kernel
theorem dX9_digOut_27 : decode cX9_digOut 27 = .ok (.istore 4, 2) := by decide +kernel
theorem dX9_digOut_29 : decode cX9_digOut 29 = .ok (.aload_n 0, 1) := by decide +kernel
theorem dX9_digOut_30 : decode cX9_digOut 30 = .ok (.getfield 10, 3) := by decide +kernel
theorem dX9_digOut_33 : decode cX9_digOut 33 = .ok (.iload_n 1, 1) := by decide +kernel
theorem dX9_digOut_34 : decode cX9_digOut 34 = .ok (.aload_n 0, 1) := by decide +kernel
theorem dX9_digOut_35 : decode cX9_digOut 35 = .ok (.getfield 72, 3) := by decide +kernel
theorem dX9_digOut_38 : decode cX9_digOut 38 = .ok (.getfield 209, 3) := by decide +kernel
theorem dX9_digOut_41 : decode cX9_digOut 41 = .ok (.invokevirtual 309, 3) := by decide +kernel
theorem dX9_digOut_44 : decode cX9_digOut 44 = .ok (.aload_n 0, 1) := by decide +kernel
theorem dX9_digOut_45 : decode cX9_digOut 45 = .ok (.getfield 72, 3) := by decide +kernel
theorem dX9_digOut_48 : decode cX9_digOut 48 = .ok (.iload 4, 2) := by decide +kernel
theorem dX9_digOut_50 : decode cX9_digOut 50 = .ok (.iload_n 2, 1) := by decide +kernel
theorem dX9_digOut_51 : decode cX9_digOut 51 = .ok (.invokevirtual 312, 3) := by decide +kernel
theorem dX9_digOut_54 : decode cX9_digOut 54 = .ok (.aload_n 0, 1) := by decide +kernel
theorem dX9_digOut_55 : decode cX9_digOut 55 = .ok (.getfield 72, 3) := by decide +kernel
theorem dX9_digOut_58 : decode cX9_digOut 58 = .ok (.dup, 1) := by decide +kernel
theorem dX9_digOut_59 : decode cX9_digOut 59 = .ok (.getfield 245, 3) := by decide +kernel
theorem dX9_digOut_62 : decode cX9_digOut 62 = .ok (.iload_n 1, 1) := by decide +kernel
theorem dX9_digOut_63 : decode cX9_digOut 63 = .ok (.invokestatic 315, 3) := by decide +kernel
theorem dX9_digOut_66 : decode cX9_digOut 66 = .ok (.i2l, 1) := by decide +kernel
theorem dX9_digOut_67 : decode cX9_digOut 67 = .ok (.lsub, 1) := by decide +kernel
theorem dX9_digOut_68 : decode cX9_digOut 68 = .ok (.putfield 245, 3) := by decide +kernel
theorem dX9_digOut_71 : decode cX9_digOut 71 = .ok (.aload_n 0, 1) := by decide +kernel
theorem dX9_digOut_72 : decode cX9_digOut 72 = .ok (.iload_n 1, 1) := by decide +kernel
theorem dX9_digOut_73 : decode cX9_digOut 73 = .ok (.iload 4, 2) := by decide +kernel
theorem dX9_digOut_75 : decode cX9_digOut 75 = .ok (.invokevirtual 318, 3) := by decide +kernel
theorem dX9_digOut_78 : decode cX9_digOut 78 = .ok (.iload_n 3, 1) := by decide +kernel
theorem dX9_digOut_79 : decode cX9_digOut 79 = .ok (.ifCond .lt 22, 3) := by decide +kernel
theorem dX9_digOut_82 : decode cX9_digOut 82 = .ok (.aload_n 0, 1) := by decide +kernel
theorem dX9_digOut_83 : decode cX9_digOut 83 = .ok (.getfield 19, 3) := by decide +kernel
theorem dX9_digOut_86 : decode cX9_digOut 86 = .ok (.invokevirtual 104, 3) := by decide +kernel
theorem dX9_digOut_89 : decode cX9_digOut 89 = .ok (.ifCond .ne 12, 3) := by decide +kernel
theorem dX9_digOut_92 : decode cX9_digOut 92 = .ok (.aload_n 0, 1) := by decide +kernel
theorem dX9_digOut_93 : decode cX9_digOut 93 = .ok (.getfield 19, 3) := by decide +kernel
theorem dX9_digOut_96 : decode cX9_digOut 96 = .ok (.iload_n 1, 1) := by decide +kernel
theorem dX9_digOut_97 : decode cX9_digOut 97 = .ok (.iload_n 3, 1) := by decide +kernel
theorem dX9_digOut_98 : decode cX9_digOut 98 = .ok (.invokevirtual 113, 3) := by decide +kernel
theorem dX9_digOut_101 : decode cX9_digOut 101 = .ok (.aload_n 0, 1) := by decide +kernel
theorem dX9_digOut_102 : decode cX9_digOut 102 = .ok (.getfield 37, 3) := by decide +kernel
theorem dX9_digOut_105 : decode cX9_digOut 105 = .ok (.invokevirtual 98, 3) := by decide +kernel
theorem dX9_digOut_108 : decode cX9_digOut 108 = .ok (.return_, 1) := by decide +kernel
theorem dX9_haul_0 : decode cX9_haul 0 = .ok (.iload_n 2, 1) := by decide +kernel
theorem dX9_haul_1 : decode cX9_haul 1 = .ok (.aload_n 0, 1) := by decide +kernel
theorem dX9_haul_2 : decode cX9_haul 2 = .ok (.getfield 44, 3) := by decide +kernel
theorem dX9_haul_5 : decode cX9_haul 5 = .ok (.bipush 99, 2) := by decide +kernel
theorem dX9_haul_7 : decode cX9_haul 7 = .ok (.invokevirtual 190, 3) := by decide +kernel
theorem dX9_haul_10 : decode cX9_haul 10 = .ok (.if_icmp .lt 43, 3) := by decide +kernel
theorem dX9_haul_13 : decode cX9_haul 13 = .ok (.aload_n 0, 1) := by decide +kernel
theorem dX9_haul_14 : decode cX9_haul 14 = .ok (.getfield 58, 3) := by decide +kernel
theorem dX9_haul_17 : decode cX9_haul 17 = .ok (.getfield 295, 3) := by decide +kernel
theorem dX9_haul_20 : decode cX9_haul 20 = .ok (.aload_n 0, 1) := by decide +kernel
theorem dX9_haul_21 : decode cX9_haul 21 = .ok (.getfield 44, 3) := by decide +kernel
theorem dX9_haul_24 : decode cX9_haul 24 = .ok (.bipush 112, 2) := by decide +kernel
theorem dX9_haul_26 : decode cX9_haul 26 = .ok (.invokevirtual 190, 3) := by decide +kernel
theorem dX9_haul_29 : decode cX9_haul 29 = .ok (.if_icmp .ge 24, 3) := by decide +kernel
theorem dX9_haul_32 : decode cX9_haul 32 = .ok (.aload_n 0, 1) := by decide +kernel
theorem dX9_haul_33 : decode cX9_haul 33 = .ok (.getfield 58, 3) := by decide +kernel
theorem dX9_haul_36 : decode cX9_haul 36 = .ok (.iload_n 2, 1) := by decide +kernel
theorem dX9_haul_37 : decode cX9_haul 37 = .ok (.invokevirtual 321, 3) := by decide +kernel
theorem dX9_haul_40 : decode cX9_haul 40 = .ok (.aload_n 0, 1) := by decide +kernel
theorem dX9_haul_41 : decode cX9_haul 41 = .ok (.getfield 72, 3) := by decide +kernel
theorem dX9_haul_44 : decode cX9_haul 44 = .ok (.iload_n 1, 1) := by decide +kernel
theorem dX9_haul_45 : decode cX9_haul 45 = .ok (.bipush 112, 2) := by decide +kernel
theorem dX9_haul_47 : decode cX9_haul 47 = .ok (.invokevirtual 324, 3) := by decide +kernel
theorem dX9_haul_50 : decode cX9_haul 50 = .ok (.goto 60, 3) := by decide +kernel
theorem dX9_haul_53 : decode cX9_haul 53 = .ok (.iload_n 2, 1) := by decide +kernel
theorem dX9_haul_54 : decode cX9_haul 54 = .ok (.aload_n 0, 1) := by decide +kernel
theorem dX9_haul_55 : decode cX9_haul 55 = .ok (.getfield 44, 3) := by decide +kernel
theorem dX9_haul_58 : decode cX9_haul 58 = .ok (.bipush 108, 2) := by decide +kernel
theorem dX9_haul_60 : decode cX9_haul 60 = .ok (.invokevirtual 190, 3) := by decide +kernel
theorem dX9_haul_63 : decode cX9_haul 63 = .ok (.if_icmp .lt 24, 3) := by decide +kernel
theorem dX9_haul_66 : decode cX9_haul 66 = .ok (.aload_n 0, 1) := by decide +kernel
theorem dX9_haul_67 : decode cX9_haul 67 = .ok (.getfield 51, 3) := by decide +kernel
theorem dX9_haul_70 : decode cX9_haul 70 = .ok (.iload_n 2, 1) := by decide +kernel
theorem dX9_haul_71 : decode cX9_haul 71 = .ok (.invokevirtual 328, 3) := by decide +kernel
theorem dX9_haul_74 : decode cX9_haul 74 = .ok (.aload_n 0, 1) := by decide +kernel
theorem dX9_haul_75 : decode cX9_haul 75 = .ok (.getfield 72, 3) := by decide +kernel
theorem dX9_haul_78 : decode cX9_haul 78 = .ok (.iload_n 1, 1) := by decide +kernel
theorem dX9_haul_79 : decode cX9_haul 79 = .ok (.bipush 115, 2) := by decide +kernel
theorem dX9_haul_81 : decode cX9_haul 81 = .ok (.invokevirtual 324, 3) := by decide +kernel
theorem dX9_haul_84 : decode cX9_haul 84 = .ok (.goto 26, 3) := by decide +kernel
theorem dX9_haul_87 : decode cX9_haul 87 = .ok (.aload_n 0, 1) := by decide +kernel
theorem dX9_haul_88 : decode cX9_haul 88 = .ok (.getfield 72, 3) := by decide +kernel
theorem dX9_haul_91 : decode cX9_haul 91 = .ok (.dup, 1) := by decide +kernel
theorem dX9_haul_92 : decode cX9_haul 92 = .ok (.getfield 251, 3) := by decide +kernel
theorem dX9_haul_95 : decode cX9_haul 95 = .ok (.iconst 1, 1) := by decide +kernel
theorem dX9_haul_96 : decode cX9_haul 96 = .ok (.iadd, 1) := by decide +kernel
theorem dX9_haul_97 : decode cX9_haul 97 = .ok (.putfield 251, 3) := by decide +kernel
theorem dX9_haul_100 : decode cX9_haul 100 = .ok (.aload_n 0, 1) := by decide +kernel
theorem dX9_haul_101 : decode cX9_haul 101 = .ok (.getfield 72, 3) := by decide +kernel
theorem dX9_haul_104 : decode cX9_haul 104 = .ok (.iload_n 1, 1) := by decide +kernel
theorem dX9_haul_105 : decode cX9_haul 105 = .ok (.bipush 100, 2) := by decide +kernel
theorem dX9_haul_107 : decode cX9_haul 107 = .ok (.invokevirtual 324, 3) := by decide +kernel
theorem dX9_haul_110 : decode cX9_haul 110 = .ok (.return_, 1) := by decide +kernel
theorem dX9_feedFromPile_0 : decode cX9_feedFromPile 0 = .ok (.aload_n 0, 1) := by decide +kernel
theorem dX9_feedFromPile_1 : decode cX9_feedFromPile 1 = .ok (.getfield 44, 3) := by decide +kernel
theorem dX9_feedFromPile_4 : decode cX9_feedFromPile 4 = .ok (.bipush 112, 2) := by decide +kernel
theorem dX9_feedFromPile_6 : decode cX9_feedFromPile 6 = .ok (.invokevirtual 190, 3) := by decide +kernel
theorem dX9_feedFromPile_9 : decode cX9_feedFromPile 9 = .ok (.istore_n 1, 1) := by decide +kernel
theorem dX9_feedFromPile_10 : decode cX9_feedFromPile 10 = .ok (.aload_n 0, 1) := by decide +kernel
theorem dX9_feedFromPile_11 : decode cX9_feedFromPile 11 = .ok (.getfield 58, 3) := by decide +kernel
theorem dX9_feedFromPile_14 : decode cX9_feedFromPile 14 = .ok (.getfield 295, 3) := by decide +kernel
theorem dX9_feedFromPile_17 : decode cX9_feedFromPile 17 = .ok (.istore_n 2, 1) := by decide +kernel
theorem dX9_feedFromPile_18 : decode cX9_feedFromPile 18 = .ok (.iload_n 2, 1) := by decide +kernel
theorem dX9_feedFromPile_19 : decode cX9_feedFromPile 19 = .ok (.iload_n 1, 1) := by decide +kernel
theorem dX9_feedFromPile_20 : decode cX9_feedFromPile 20 = .ok (.if_icmp .ge 33, 3) := by decide +kernel
theorem dX9_feedFromPile_23 : decode cX9_feedFromPile 23 = .ok (.aload_n 0, 1) := by decide +kernel
theorem dX9_feedFromPile_24 : decode cX9_feedFromPile 24 = .ok (.getfield 51, 3) := by decide +kernel
theorem dX9_feedFromPile_27 : decode cX9_feedFromPile 27 = .ok (.invokevirtual 222, 3) := by decide +kernel
theorem dX9_feedFromPile_30 : decode cX9_feedFromPile 30 = .ok (.ifCond .le 23, 3) := by decide +kernel
theorem dX9_feedFromPile_33 : decode cX9_feedFromPile 33 = .ok (.aload_n 0, 1) := by decide +kernel
theorem dX9_feedFromPile_34 : decode cX9_feedFromPile 34 = .ok (.getfield 58, 3) := by decide +kernel
theorem dX9_feedFromPile_37 : decode cX9_feedFromPile 37 = .ok (.aload_n 0, 1) := by decide +kernel
theorem dX9_feedFromPile_38 : decode cX9_feedFromPile 38 = .ok (.getfield 51, 3) := by decide +kernel
theorem dX9_feedFromPile_41 : decode cX9_feedFromPile 41 = .ok (.invokevirtual 331, 3) := by decide +kernel
theorem dX9_feedFromPile_44 : decode cX9_feedFromPile 44 = .ok (.invokevirtual 321, 3) := by decide +kernel
theorem dX9_feedFromPile_47 : decode cX9_feedFromPile 47 = .ok (.iinc 2 1, 3) := by decide +kernel
theorem dX9_feedFromPile_50 : decode cX9_feedFromPile 50 = .ok (.goto (-32), 3) := by decide +kernel
theorem dX9_feedFromPile_53 : decode cX9_feedFromPile 53 = .ok (.return_, 1) := by decide +kernel
theorem dX9_requireBlock_0 : decode cX9_requireBlock 0 = .ok (.iload_n 0, 1) := by decide +kernel
theorem dX9_requireBlock_1 : decode cX9_requireBlock 1 = .ok (.invokestatic 334, 3) := by decide +kernel
theorem dX9_requireBlock_4 : decode cX9_requireBlock 4 = .ok (.ifCond .ne 14, 3) := by decide +kernel
theorem dX9_requireBlock_7 : decode cX9_requireBlock 7 = .ok (.new 337, 3) := by decide +kernel
theorem dX9_requireBlock_10 : decode cX9_requireBlock 10 = .ok (.dup, 1) := by decide +kernel
theorem dX9_requireBlock_11 : decode cX9_requireBlock 11 = .ok (.ldc_w 339, 3) := by decide +kernel
theorem dX9_requireBlock_14 : decode cX9_requireBlock 14 = .ok (.invokespecial 341, 3) := by decide +kernel
theorem dX9_requireBlock_17 : decode cX9_requireBlock 17 = .ok (.athrow, 1) := by decide +kernel
theorem dX9_requireBlock_18 : decode cX9_requireBlock 18 = .ok (.return_, 1) := by decide +kernel
theorem dX9_requireHundred_0 : decode cX9_requireHundred 0 = .ok (.iload_n 0, 1) := by decide +kernel
theorem dX9_requireHundred_1 : decode cX9_requireHundred 1 = .ok (.ifCond .lt 9, 3) := by decide +kernel
theorem dX9_requireHundred_4 : decode cX9_requireHundred 4 = .ok (.iload_n 0, 1) := by decide +kernel
theorem dX9_requireHundred_5 : decode cX9_requireHundred 5 = .ok (.bipush 99, 2) := by decide +kernel
theorem dX9_requireHundred_7 : decode cX9_requireHundred 7 = .ok (.if_icmp .le 14, 3) := by decide +kernel
theorem dX9_requireHundred_10 : decode cX9_requireHundred 10 = .ok (.new 80, 3) := by decide +kernel
theorem dX9_requireHundred_13 : decode cX9_requireHundred 13 = .ok (.dup, 1) := by decide +kernel
theorem dX9_requireHundred_14 : decode cX9_requireHundred 14 = .ok (.ldc_w 342, 3) := by decide +kernel
theorem dX9_requireHundred_17 : decode cX9_requireHundred 17 = .ok (.invokespecial 84, 3) := by decide +kernel
theorem dX9_requireHundred_20 : decode cX9_requireHundred 20 = .ok (.athrow, 1) := by decide +kernel
theorem dX9_requireHundred_21 : decode cX9_requireHundred 21 = .ok (.return_, 1) := by decide +kernel
theorem dX9_requireUndug_0 : decode cX9_requireUndug 0 = .ok (.aload_n 0, 1) := by decide +kernel
theorem dX9_requireUndug_1 : decode cX9_requireUndug 1 = .ok (.getfield 10, 3) := by decide +kernel
theorem dX9_requireUndug_4 : decode cX9_requireUndug 4 = .ok (.iload_n 1, 1) := by decide +kernel
theorem dX9_requireUndug_5 : decode cX9_requireUndug 5 = .ok (.invokevirtual 138, 3) := by decide +kernel
theorem dX9_requireUndug_8 : decode cX9_requireUndug 8 = .ok (.ifCond .eq 14, 3) := by decide +kernel
theorem dX9_requireUndug_11 : decode cX9_requireUndug 11 = .ok (.new 344, 3) := by decide +kernel
theorem dX9_requireUndug_14 : decode cX9_requireUndug 14 = .ok (.dup, 1) := by decide +kernel
theorem dX9_requireUndug_15 : decode cX9_requireUndug 15 = .ok (.ldc_w 346, 3) := by decide +kernel
theorem dX9_requireUndug_18 : decode cX9_requireUndug 18 = .ok (.invokespecial 348, 3) := by decide +kernel
theorem dX9_requireUndug_21 : decode cX9_requireUndug 21 = .ok (.athrow, 1) := by decide +kernel
theorem dX9_requireUndug_22 : decode cX9_requireUndug 22 = .ok (.return_, 1) := by decide +kernel
theorem dX9_requireDug_0 : decode cX9_requireDug 0 = .ok (.aload_n 0, 1) := by decide +kernel
theorem dX9_requireDug_1 : decode cX9_requireDug 1 = .ok (.getfield 10, 3) := by decide +kernel
theorem dX9_requireDug_4 : decode cX9_requireDug 4 = .ok (.iload_n 1, 1) := by decide +kernel
theorem dX9_requireDug_5 : decode cX9_requireDug 5 = .ok (.invokevirtual 138, 3) := by decide +kernel
theorem dX9_requireDug_8 : decode cX9_requireDug 8 = .ok (.ifCond .ne 14, 3) := by decide +kernel
theorem dX9_requireDug_11 : decode cX9_requireDug 11 = .ok (.new 234, 3) := by decide +kernel
theorem dX9_requireDug_14 : decode cX9_requireDug 14 = .ok (.dup, 1) := by decide +kernel
theorem dX9_requireDug_15 : decode cX9_requireDug 15 = .ok (.ldc_w 349, 3) := by decide +kernel
theorem dX9_requireDug_18 : decode cX9_requireDug 18 = .ok (.invokespecial 238, 3) := by decide +kernel
theorem dX9_requireDug_21 : decode cX9_requireDug 21 = .ok (.athrow, 1) := by decide +kernel
theorem dX9_requireDug_22 : decode cX9_requireDug 22 = .ok (.return_, 1) := by decide +kernel
theorem dX9_isBlock_0 : decode cX9_isBlock 0 = .ok (.iload_n 0, 1) := by decide +kernel
theorem dX9_isBlock_1 : decode cX9_isBlock 1 = .ok (.ifCond .lt 13, 3) := by decide +kernel
theorem dX9_isBlock_4 : decode cX9_isBlock 4 = .ok (.iload_n 0, 1) := by decide +kernel
theorem dX9_isBlock_5 : decode cX9_isBlock 5 = .ok (.bipush 60, 2) := by decide +kernel
theorem dX9_isBlock_7 : decode cX9_isBlock 7 = .ok (.if_icmp .ge 7, 3) := by decide +kernel
theorem dX9_isBlock_10 : decode cX9_isBlock 10 = .ok (.iconst 1, 1) := by decide +kernel
theorem dX9_isBlock_11 : decode cX9_isBlock 11 = .ok (.goto 4, 3) := by decide +kernel
theorem dX9_isBlock_14 : decode cX9_isBlock 14 = .ok (.iconst 0, 1) := by decide +kernel
theorem dX9_isBlock_15 : decode cX9_isBlock 15 = .ok (.ireturn, 1) := by decide +kernel
theorem dX9_diggingCost_0 : decode cX9_diggingCost 0 = .ok (.bipush 30, 2) := by decide +kernel
theorem dX9_diggingCost_2 : decode cX9_diggingCost 2 = .ok (.bipush 10, 2) := by decide +kernel
theorem dX9_diggingCost_4 : decode cX9_diggingCost 4 = .ok (.iload_n 0, 1) := by decide +kernel
theorem dX9_diggingCost_5 : decode cX9_diggingCost 5 = .ok (.bipush 10, 2) := by decide +kernel
theorem dX9_diggingCost_7 : decode cX9_diggingCost 7 = .ok (.idiv, 1) := by decide +kernel
theorem dX9_diggingCost_8 : decode cX9_diggingCost 8 = .ok (.imul, 1) := by decide +kernel
theorem dX9_diggingCost_9 : decode cX9_diggingCost 9 = .ok (.iadd, 1) := by decide +kernel
theorem dX9_diggingCost_10 : decode cX9_diggingCost 10 = .ok (.ireturn, 1) := by decide +kernel
theorem dX9_toNearest_0 : decode cX9_toNearest 0 = .ok (.dload_n 0, 1) := by decide +kernel
theorem dX9_toNearest_1 : decode cX9_toNearest 1 = .ok (.d2i, 1) := by decide +kernel
theorem dX9_toNearest_2 : decode cX9_toNearest 2 = .ok (.istore_n 2, 1) := by decide +kernel
theorem dX9_toNearest_3 : decode cX9_toNearest 3 = .ok (.dload_n 0, 1) := by decide +kernel
theorem dX9_toNearest_4 : decode cX9_toNearest 4 = .ok (.iload_n 2, 1) := by decide +kernel
theorem dX9_toNearest_5 : decode cX9_toNearest 5 = .ok (.i2d, 1) := by decide +kernel
theorem dX9_toNearest_6 : decode cX9_toNearest 6 = .ok (.dsub, 1) := by decide +kernel
theorem dX9_toNearest_7 : decode cX9_toNearest 7 = .ok (.dstore_n 3, 1) := by decide +kernel
theorem dX9_toNearest_8 : decode cX9_toNearest 8 = .ok (.dload_n 3, 1) := by decide +kernel
theorem dX9_toNearest_9 : decode cX9_toNearest 9 = .ok (.ldc2_w 351, 3) := by decide +kernel
theorem dX9_toNearest_12 : decode cX9_toNearest 12 = .ok (.dcmp .l, 1) := by decide +kernel
theorem dX9_toNearest_13 : decode cX9_toNearest 13 = .ok (.ifCond .gt 17, 3) := by decide +kernel
theorem dX9_toNearest_16 : decode cX9_toNearest 16 = .ok (.dload_n 3, 1) := by decide +kernel
theorem dX9_toNearest_17 : decode cX9_toNearest 17 = .ok (.ldc2_w 351, 3) := by decide +kernel
theorem dX9_toNearest_20 : decode cX9_toNearest 20 = .ok (.dcmp .l, 1) := by decide +kernel
theorem dX9_toNearest_21 : decode cX9_toNearest 21 = .ok (.ifCond .ne 13, 3) := by decide +kernel
theorem dX9_toNearest_24 : decode cX9_toNearest 24 = .ok (.iload_n 2, 1) := by decide +kernel
theorem dX9_toNearest_25 : decode cX9_toNearest 25 = .ok (.iconst 2, 1) := by decide +kernel
theorem dX9_toNearest_26 : decode cX9_toNearest 26 = .ok (.irem, 1) := by decide +kernel
theorem dX9_toNearest_27 : decode cX9_toNearest 27 = .ok (.ifCond .eq 7, 3) := by decide +kernel
theorem dX9_toNearest_30 : decode cX9_toNearest 30 = .ok (.iconst 1, 1) := by decide +kernel
theorem dX9_toNearest_31 : decode cX9_toNearest 31 = .ok (.goto 4, 3) := by decide +kernel
theorem dX9_toNearest_34 : decode cX9_toNearest 34 = .ok (.iconst 0, 1) := by decide +kernel
theorem dX9_toNearest_35 : decode cX9_toNearest 35 = .ok (.istore 5, 2) := by decide +kernel
theorem dX9_toNearest_37 : decode cX9_toNearest 37 = .ok (.iload 5, 2) := by decide +kernel
theorem dX9_toNearest_39 : decode cX9_toNearest 39 = .ok (.ifCond .eq 9, 3) := by decide +kernel
theorem dX9_toNearest_42 : decode cX9_toNearest 42 = .ok (.iload_n 2, 1) := by decide +kernel
theorem dX9_toNearest_43 : decode cX9_toNearest 43 = .ok (.iconst 1, 1) := by decide +kernel
theorem dX9_toNearest_44 : decode cX9_toNearest 44 = .ok (.iadd, 1) := by decide +kernel
theorem dX9_toNearest_45 : decode cX9_toNearest 45 = .ok (.goto 4, 3) := by decide +kernel
theorem dX9_toNearest_48 : decode cX9_toNearest 48 = .ok (.iload_n 2, 1) := by decide +kernel
theorem dX9_toNearest_49 : decode cX9_toNearest 49 = .ok (.ireturn, 1) := by decide +kernel
theorem dX10_init_0 : decode cX10_init 0 = .ok (.aload_n 0, 1) := by decide +kernel
theorem dX10_init_1 : decode cX10_init 1 = .ok (.invokespecial 3, 3) := by decide +kernel
theorem dX10_init_4 : decode cX10_init 4 = .ok (.aload_n 0, 1) := by decide +kernel
theorem dX10_init_5 : decode cX10_init 5 = .ok (.iconst (-1), 1) := by decide +kernel
theorem dX10_init_6 : decode cX10_init 6 = .ok (.putfield 9, 3) := by decide +kernel
theorem dX10_init_9 : decode cX10_init 9 = .ok (.return_, 1) := by decide +kernel
theorem dX11_init_0 : decode cX11_init 0 = .ok (.aload_n 0, 1) := by decide +kernel
theorem dX11_init_1 : decode cX11_init 1 = .ok (.aload_n 1, 1) := by decide +kernel
theorem dX11_init_2 : decode cX11_init 2 = .ok (.putfield 3, 3) := by decide +kernel
theorem dX11_init_5 : decode cX11_init 5 = .ok (.aload_n 0, 1) := by decide +kernel
theorem dX11_init_6 : decode cX11_init 6 = .ok (.invokespecial 9, 3) := by decide +kernel
theorem dX11_init_9 : decode cX11_init 9 = .ok (.aload_n 0, 1) := by decide +kernel
theorem dX11_init_10 : decode cX11_init 10 = .ok (.bipush 62, 2) := by decide +kernel
theorem dX11_init_12 : decode cX11_init 12 = .ok (.bipush 62, 2) := by decide +kernel
theorem dX11_init_14 : decode cX11_init 14 = .ok (.multianewarray 15 2, 4) := by decide +kernel
theorem dX11_init_18 : decode cX11_init 18 = .ok (.putfield 17, 3) := by decide +kernel
theorem dX11_init_21 : decode cX11_init 21 = .ok (.iconst 0, 1) := by decide +kernel
theorem dX11_init_22 : decode cX11_init 22 = .ok (.istore_n 3, 1) := by decide +kernel
theorem dX11_init_23 : decode cX11_init 23 = .ok (.iload_n 3, 1) := by decide +kernel
theorem dX11_init_24 : decode cX11_init 24 = .ok (.bipush 60, 2) := by decide +kernel
theorem dX11_init_26 : decode cX11_init 26 = .ok (.if_icmp .ge 145, 3) := by decide +kernel
theorem dX11_init_29 : decode cX11_init 29 = .ok (.aload_n 1, 1) := by decide +kernel
theorem dX11_init_30 : decode cX11_init 30 = .ok (.getfield 20, 3) := by decide +kernel
theorem dX11_init_33 : decode cX11_init 33 = .ok (.iload_n 3, 1) := by decide +kernel
theorem dX11_init_34 : decode cX11_init 34 = .ok (.invokeinterface 24 2, 5) := by decide +kernel
theorem dX11_init_39 : decode cX11_init 39 = .ok (.checkcast 30, 3) := by decide +kernel
theorem dX11_init_42 : decode cX11_init 42 = .ok (.getfield 32, 3) := by decide +kernel
theorem dX11_init_45 : decode cX11_init 45 = .ok (.ifCond .eq 6, 3) := by decide +kernel
theorem dX11_init_48 : decode cX11_init 48 = .ok (.goto 117, 3) := by decide +kernel
theorem dX11_init_51 : decode cX11_init 51 = .ok (.aload_n 1, 1) := by decide +kernel
theorem dX11_init_52 : decode cX11_init 52 = .ok (.iload_n 3, 1) := by decide +kernel
theorem dX11_init_53 : decode cX11_init 53 = .ok (.iload_n 2, 1) := by decide +kernel
theorem dX11_init_54 : decode cX11_init 54 = .ok (.invokevirtual 36, 3) := by decide +kernel
theorem dX11_init_57 : decode cX11_init 57 = .ok (.istore 4, 2) := by decide +kernel
theorem dX11_init_59 : decode cX11_init 59 = .ok (.iload 4, 2) := by decide +kernel
theorem dX11_init_61 : decode cX11_init 61 = .ok (.ifCond .le 17, 3) := by decide +kernel
theorem dX11_init_64 : decode cX11_init 64 = .ok (.aload_n 0, 1) := by decide +kernel
theorem dX11_init_65 : decode cX11_init 65 = .ok (.getfield 17, 3) := by decide +kernel
theorem dX11_init_68 : decode cX11_init 68 = .ok (.bipush 60, 2) := by decide +kernel
theorem dX11_init_70 : decode cX11_init 70 = .ok (.aaload, 1) := by decide +kernel
theorem dX11_init_71 : decode cX11_init 71 = .ok (.iload_n 3, 1) := by decide +kernel
theorem dX11_init_72 : decode cX11_init 72 = .ok (.iload 4, 2) := by decide +kernel
theorem dX11_init_74 : decode cX11_init 74 = .ok (.iastore, 1) := by decide +kernel
theorem dX11_init_75 : decode cX11_init 75 = .ok (.goto 15, 3) := by decide +kernel
theorem dX11_init_78 : decode cX11_init 78 = .ok (.aload_n 0, 1) := by decide +kernel
theorem dX11_init_79 : decode cX11_init 79 = .ok (.getfield 17, 3) := by decide +kernel
theorem dX11_init_82 : decode cX11_init 82 = .ok (.iload_n 3, 1) := by decide +kernel
theorem dX11_init_83 : decode cX11_init 83 = .ok (.aaload, 1) := by decide +kernel
theorem dX11_init_84 : decode cX11_init 84 = .ok (.bipush 61, 2) := by decide +kernel
theorem dX11_init_86 : decode cX11_init 86 = .ok (.iload 4, 2) := by decide +kernel
theorem dX11_init_88 : decode cX11_init 88 = .ok (.ineg, 1) := by decide +kernel
theorem dX11_init_89 : decode cX11_init 89 = .ok (.iastore, 1) := by decide +kernel
theorem dX11_init_90 : decode cX11_init 90 = .ok (.aload_n 1, 1) := by decide +kernel
theorem dX11_init_91 : decode cX11_init 91 = .ok (.iload_n 3, 1) := by decide +kernel
theorem dX11_init_92 : decode cX11_init 92 = .ok (.invokevirtual 40, 3) := by decide +kernel
theorem dX11_init_95 : decode cX11_init 95 = .ok (.invokeinterface 44 1, 5) := by decide +kernel
theorem dX11_init_100 : decode cX11_init 100 = .ok (.astore 5, 2) := by decide +kernel
theorem dX11_init_102 : decode cX11_init 102 = .ok (.aload 5, 2) := by decide +kernel
theorem dX11_init_104 : decode cX11_init 104 = .ok (.invokeinterface 48 1, 5) := by decide +kernel
theorem dX11_init_109 : decode cX11_init 109 = .ok (.ifCond .eq 56, 3) := by decide +kernel
theorem dX11_init_112 : decode cX11_init 112 = .ok (.aload 5, 2) := by decide +kernel
theorem dX11_init_114 : decode cX11_init 114 = .ok (.invokeinterface 54 1, 5) := by decide +kernel
theorem dX11_init_119 : decode cX11_init 119 = .ok (.checkcast 58, 3) := by decide +kernel
theorem dX11_init_122 : decode cX11_init 122 = .ok (.invokevirtual 60, 3) := by decide +kernel
theorem dX11_init_125 : decode cX11_init 125 = .ok (.istore 6, 2) := by decide +kernel
theorem dX11_init_127 : decode cX11_init 127 = .ok (.aload_n 0, 1) := by decide +kernel
theorem dX11_init_128 : decode cX11_init 128 = .ok (.getfield 17, 3) := by decide +kernel
theorem dX11_init_131 : decode cX11_init 131 = .ok (.iload_n 3, 1) := by decide +kernel
theorem dX11_init_132 : decode cX11_init 132 = .ok (.aaload, 1) := by decide +kernel
theorem dX11_init_133 : decode cX11_init 133 = .ok (.iload 6, 2) := by decide +kernel
theorem dX11_init_135 : decode cX11_init 135 = .ok (.aload_n 1, 1) := by decide +kernel
theorem dX11_init_136 : decode cX11_init 136 = .ok (.getfield 20, 3) := by decide +kernel
theorem dX11_init_139 : decode cX11_init 139 = .ok (.iload 6, 2) := by decide +kernel
theorem dX11_init_141 : decode cX11_init 141 = .ok (.invokeinterface 24 2, 5) := by decide +kernel
theorem dX11_init_146 : decode cX11_init 146 = .ok (.checkcast 30, 3) := by decide +kernel
theorem dX11_init_149 : decode cX11_init 149 = .ok (.getfield 32, 3) := by decide +kernel
theorem dX11_init_152 : decode cX11_init 152 = .ok (.ifCond .eq 7, 3) := by decide +kernel
theorem dX11_init_155 : decode cX11_init 155 = .ok (.iconst 0, 1) := by decide +kernel
theorem dX11_init_156 : decode cX11_init 156 = .ok (.goto 5, 3) := by decide +kernel
theorem dX11_init_159 : decode cX11_init 159 = .ok (.ldc 64, 2) := by decide +kernel
theorem dX11_init_161 : decode cX11_init 161 = .ok (.iastore, 1) := by decide +kernel
theorem dX11_init_162 : decode cX11_init 162 = .ok (.goto (-60), 3) := by decide +kernel
theorem dX11_init_165 : decode cX11_init 165 = .ok (.iinc 3 1, 3) := by decide +kernel
theorem dX11_init_168 : decode cX11_init 168 = .ok (.goto (-145), 3) := by decide +kernel
theorem dX11_init_171 : decode cX11_init 171 = .ok (.aload_n 0, 1) := by decide +kernel
theorem dX11_init_172 : decode cX11_init 172 = .ok (.invokevirtual 65, 3) := by decide +kernel
theorem dX11_init_175 : decode cX11_init 175 = .ok (.astore_n 3, 1) := by decide +kernel
theorem dX11_init_176 : decode cX11_init 176 = .ok (.aload_n 0, 1) := by decide +kernel
theorem dX11_init_177 : decode cX11_init 177 = .ok (.getfield 69, 3) := by decide +kernel
theorem dX11_init_180 : decode cX11_init 180 = .ok (.bipush 61, 2) := by decide +kernel
theorem dX11_init_182 : decode cX11_init 182 = .ok (.baload, 1) := by decide +kernel
theorem dX11_init_183 : decode cX11_init 183 = .ok (.ifCond .eq 108, 3) := by decide +kernel
theorem dX11_init_186 : decode cX11_init 186 = .ok (.ldc 64, 2) := by decide +kernel
theorem dX11_init_188 : decode cX11_init 188 = .ok (.istore 4, 2) := by decide +kernel
theorem dX11_init_190 : decode cX11_init 190 = .ok (.bipush 61, 2) := by decide +kernel
theorem dX11_init_192 : decode cX11_init 192 = .ok (.istore 5, 2) := by decide +kernel
theorem dX11_init_194 : decode cX11_init 194 = .ok (.iload 5, 2) := by decide +kernel
theorem dX11_init_196 : decode cX11_init 196 = .ok (.bipush 60, 2) := by decide +kernel
theorem dX11_init_198 : decode cX11_init 198 = .ok (.if_icmp .eq 31, 3) := by decide +kernel
theorem dX11_init_201 : decode cX11_init 201 = .ok (.iload 4, 2) := by decide +kernel
theorem dX11_init_203 : decode cX11_init 203 = .ok (.aload_n 0, 1) := by decide +kernel
theorem dX11_init_204 : decode cX11_init 204 = .ok (.getfield 17, 3) := by decide +kernel
theorem dX11_init_207 : decode cX11_init 207 = .ok (.aload_n 3, 1) := by decide +kernel
theorem dX11_init_208 : decode cX11_init 208 = .ok (.iload 5, 2) := by decide +kernel
theorem dX11_init_210 : decode cX11_init 210 = .ok (.iaload, 1) := by decide +kernel
theorem dX11_init_211 : decode cX11_init 211 = .ok (.aaload, 1) := by decide +kernel
theorem dX11_init_212 : decode cX11_init 212 = .ok (.iload 5, 2) := by decide +kernel
theorem dX11_init_214 : decode cX11_init 214 = .ok (.iaload, 1) := by decide +kernel
theorem dX11_init_215 : decode cX11_init 215 = .ok (.invokestatic 73, 3) := by decide +kernel
theorem dX11_init_218 : decode cX11_init 218 = .ok (.istore 4, 2) := by decide +kernel
theorem dX11_init_220 : decode cX11_init 220 = .ok (.aload_n 3, 1) := by decide +kernel
theorem dX11_init_221 : decode cX11_init 221 = .ok (.iload 5, 2) := by decide +kernel
theorem dX11_init_223 : decode cX11_init 223 = .ok (.iaload, 1) := by decide +kernel
theorem dX11_init_224 : decode cX11_init 224 = .ok (.istore 5, 2) := by decide +kernel
theorem dX11_init_226 : decode cX11_init 226 = .ok (.goto (-32), 3) := by decide +kernel
theorem dX11_init_229 : decode cX11_init 229 = .ok (.bipush 61, 2) := by decide +kernel
theorem dX11_init_231 : decode cX11_init 231 = .ok (.istore 5, 2) := by decide +kernel
theorem dX11_init_233 : decode cX11_init 233 = .ok (.iload 5, 2) := by decide +kernel
theorem dX11_init_235 : decode cX11_init 235 = .ok (.bipush 60, 2) := by decide +kernel
theorem dX11_init_237 : decode cX11_init 237 = .ok (.if_icmp .eq 46, 3) := by decide +kernel
theorem dX11_init_240 : decode cX11_init 240 = .ok (.aload_n 0, 1) := by decide +kernel
theorem dX11_init_241 : decode cX11_init 241 = .ok (.getfield 17, 3) := by decide +kernel
theorem dX11_init_244 : decode cX11_init 244 = .ok (.aload_n 3, 1) := by decide +kernel
theorem dX11_init_245 : decode cX11_init 245 = .ok (.iload 5, 2) := by decide +kernel
theorem dX11_init_247 : decode cX11_init 247 = .ok (.iaload, 1) := by decide +kernel
theorem dX11_init_248 : decode cX11_init 248 = .ok (.aaload, 1) := by decide +kernel
theorem dX11_init_249 : decode cX11_init 249 = .ok (.iload 5, 2) := by decide +kernel
theorem dX11_init_251 : decode cX11_init 251 = .ok (.dup2, 1) := by decide +kernel
theorem dX11_init_252 : decode cX11_init 252 = .ok (.iaload, 1) := by decide +kernel
theorem dX11_init_253 : decode cX11_init 253 = .ok (.iload 4, 2) := by decide +kernel
theorem dX11_init_255 : decode cX11_init 255 = .ok (.isub, 1) := by decide +kernel
theorem dX11_init_256 : decode cX11_init 256 = .ok (.iastore, 1) := by decide +kernel
theorem dX11_init_257 : decode cX11_init 257 = .ok (.aload_n 0, 1) := by decide +kernel
theorem dX11_init_258 : decode cX11_init 258 = .ok (.getfield 17, 3) := by decide +kernel
theorem dX11_init_261 : decode cX11_init 261 = .ok (.iload 5, 2) := by decide +kernel
theorem dX11_init_263 : decode cX11_init 263 = .ok (.aaload, 1) := by decide +kernel
theorem dX11_init_264 : decode cX11_init 264 = .ok (.aload_n 3, 1) := by decide +kernel
theorem dX11_init_265 : decode cX11_init 265 = .ok (.iload 5, 2) := by decide +kernel
theorem dX11_init_267 : decode cX11_init 267 = .ok (.iaload, 1) := by decide +kernel
theorem dX11_init_268 : decode cX11_init 268 = .ok (.dup2, 1) := by decide +kernel
theorem dX11_init_269 : decode cX11_init 269 = .ok (.iaload, 1) := by decide +kernel
theorem dX11_init_270 : decode cX11_init 270 = .ok (.iload 4, 2) := by decide +kernel
theorem dX11_init_272 : decode cX11_init 272 = .ok (.iadd, 1) := by decide +kernel
theorem dX11_init_273 : decode cX11_init 273 = .ok (.iastore, 1) := by decide +kernel
theorem dX11_init_274 : decode cX11_init 274 = .ok (.aload_n 3, 1) := by decide +kernel
theorem dX11_init_275 : decode cX11_init 275 = .ok (.iload 5, 2) := by decide +kernel
theorem dX11_init_277 : decode cX11_init 277 = .ok (.iaload, 1) := by decide +kernel
theorem dX11_init_278 : decode cX11_init 278 = .ok (.istore 5, 2) := by decide +kernel
theorem dX11_init_280 : decode cX11_init 280 = .ok (.goto (-47), 3) := by decide +kernel
theorem dX11_init_283 : decode cX11_init 283 = .ok (.aload_n 0, 1) := by decide +kernel
theorem dX11_init_284 : decode cX11_init 284 = .ok (.invokevirtual 65, 3) := by decide +kernel
theorem dX11_init_287 : decode cX11_init 287 = .ok (.astore_n 3, 1) := by decide +kernel
theorem dX11_init_288 : decode cX11_init 288 = .ok (.goto (-112), 3) := by decide +kernel
theorem dX11_init_291 : decode cX11_init 291 = .ok (.return_, 1) := by decide +kernel
theorem dX11_way_0 : decode cX11_way 0 = .ok (.bipush 62, 2) := by decide +kernel
theorem dX11_way_2 : decode cX11_way 2 = .ok (.newarray .int, 2) := by decide +kernel
theorem dX11_way_4 : decode cX11_way 4 = .ok (.astore_n 1, 1) := by decide +kernel
theorem dX11_way_5 : decode cX11_way 5 = .ok (.aload_n 0, 1) := by decide +kernel
theorem dX11_way_6 : decode cX11_way 6 = .ok (.bipush 62, 2) := by decide +kernel
theorem dX11_way_8 : decode cX11_way 8 = .ok (.newarray .boolean, 2) := by decide +kernel
theorem dX11_way_10 : decode cX11_way 10 = .ok (.putfield 69, 3) := by decide +kernel
theorem dX11_way_13 : decode cX11_way 13 = .ok (.aload_n 0, 1) := by decide +kernel
theorem dX11_way_14 : decode cX11_way 14 = .ok (.getfield 69, 3) := by decide +kernel
theorem dX11_way_17 : decode cX11_way 17 = .ok (.bipush 60, 2) := by decide +kernel
theorem dX11_way_19 : decode cX11_way 19 = .ok (.iconst 1, 1) := by decide +kernel
theorem dX11_way_20 : decode cX11_way 20 = .ok (.bastore, 1) := by decide +kernel
theorem dX11_way_21 : decode cX11_way 21 = .ok (.bipush 62, 2) := by decide +kernel
theorem dX11_way_23 : decode cX11_way 23 = .ok (.newarray .int, 2) := by decide +kernel
theorem dX11_way_25 : decode cX11_way 25 = .ok (.astore_n 2, 1) := by decide +kernel
theorem dX11_way_26 : decode cX11_way 26 = .ok (.aload_n 2, 1) := by decide +kernel
theorem dX11_way_27 : decode cX11_way 27 = .ok (.iconst 0, 1) := by decide +kernel
theorem dX11_way_28 : decode cX11_way 28 = .ok (.bipush 60, 2) := by decide +kernel
theorem dX11_way_30 : decode cX11_way 30 = .ok (.iastore, 1) := by decide +kernel
theorem dX11_way_31 : decode cX11_way 31 = .ok (.iconst 1, 1) := by decide +kernel
theorem dX11_way_32 : decode cX11_way 32 = .ok (.istore_n 3, 1) := by decide +kernel
theorem dX11_way_33 : decode cX11_way 33 = .ok (.iconst 0, 1) := by decide +kernel
theorem dX11_way_34 : decode cX11_way 34 = .ok (.istore 4, 2) := by decide +kernel
theorem dX11_way_36 : decode cX11_way 36 = .ok (.iload 4, 2) := by decide +kernel
theorem dX11_way_38 : decode cX11_way 38 = .ok (.iload_n 3, 1) := by decide +kernel
theorem dX11_way_39 : decode cX11_way 39 = .ok (.if_icmp .ge 77, 3) := by decide +kernel
theorem dX11_way_42 : decode cX11_way 42 = .ok (.iconst 0, 1) := by decide +kernel
theorem dX11_way_43 : decode cX11_way 43 = .ok (.istore 5, 2) := by decide +kernel
theorem dX11_way_45 : decode cX11_way 45 = .ok (.iload 5, 2) := by decide +kernel
theorem dX11_way_47 : decode cX11_way 47 = .ok (.bipush 62, 2) := by decide +kernel
theorem dX11_way_49 : decode cX11_way 49 = .ok (.if_icmp .ge 61, 3) := by decide +kernel
theorem dX11_way_52 : decode cX11_way 52 = .ok (.aload_n 0, 1) := by decide +kernel
theorem dX11_way_53 : decode cX11_way 53 = .ok (.getfield 69, 3) := by decide +kernel
theorem dX11_way_56 : decode cX11_way 56 = .ok (.iload 5, 2) := by decide +kernel
theorem dX11_way_58 : decode cX11_way 58 = .ok (.baload, 1) := by decide +kernel
theorem dX11_way_59 : decode cX11_way 59 = .ok (.ifCond .ne 45, 3) := by decide +kernel
theorem dX11_way_62 : decode cX11_way 62 = .ok (.aload_n 0, 1) := by decide +kernel
theorem dX11_way_63 : decode cX11_way 63 = .ok (.getfield 17, 3) := by decide +kernel
theorem dX11_way_66 : decode cX11_way 66 = .ok (.aload_n 2, 1) := by decide +kernel
theorem dX11_way_67 : decode cX11_way 67 = .ok (.iload 4, 2) := by decide +kernel
theorem dX11_way_69 : decode cX11_way 69 = .ok (.iaload, 1) := by decide +kernel
theorem dX11_way_70 : decode cX11_way 70 = .ok (.aaload, 1) := by decide +kernel
theorem dX11_way_71 : decode cX11_way 71 = .ok (.iload 5, 2) := by decide +kernel
theorem dX11_way_73 : decode cX11_way 73 = .ok (.iaload, 1) := by decide +kernel
theorem dX11_way_74 : decode cX11_way 74 = .ok (.ifCond .ne 6, 3) := by decide +kernel
theorem dX11_way_77 : decode cX11_way 77 = .ok (.goto 27, 3) := by decide +kernel
theorem dX11_way_80 : decode cX11_way 80 = .ok (.aload_n 0, 1) := by decide +kernel
theorem dX11_way_81 : decode cX11_way 81 = .ok (.getfield 69, 3) := by decide +kernel
theorem dX11_way_84 : decode cX11_way 84 = .ok (.iload 5, 2) := by decide +kernel
theorem dX11_way_86 : decode cX11_way 86 = .ok (.iconst 1, 1) := by decide +kernel
theorem dX11_way_87 : decode cX11_way 87 = .ok (.bastore, 1) := by decide +kernel
theorem dX11_way_88 : decode cX11_way 88 = .ok (.aload_n 1, 1) := by decide +kernel
theorem dX11_way_89 : decode cX11_way 89 = .ok (.iload 5, 2) := by decide +kernel
theorem dX11_way_91 : decode cX11_way 91 = .ok (.aload_n 2, 1) := by decide +kernel
theorem dX11_way_92 : decode cX11_way 92 = .ok (.iload 4, 2) := by decide +kernel
theorem dX11_way_94 : decode cX11_way 94 = .ok (.iaload, 1) := by decide +kernel
theorem dX11_way_95 : decode cX11_way 95 = .ok (.iastore, 1) := by decide +kernel
theorem dX11_way_96 : decode cX11_way 96 = .ok (.aload_n 2, 1) := by decide +kernel
theorem dX11_way_97 : decode cX11_way 97 = .ok (.iload_n 3, 1) := by decide +kernel
theorem dX11_way_98 : decode cX11_way 98 = .ok (.iload 5, 2) := by decide +kernel
theorem dX11_way_100 : decode cX11_way 100 = .ok (.iastore, 1) := by decide +kernel
theorem dX11_way_101 : decode cX11_way 101 = .ok (.iinc 3 1, 3) := by decide +kernel
theorem dX11_way_104 : decode cX11_way 104 = .ok (.iinc 5 1, 3) := by decide +kernel
theorem dX11_way_107 : decode cX11_way 107 = .ok (.goto (-62), 3) := by decide +kernel
theorem dX11_way_110 : decode cX11_way 110 = .ok (.iinc 4 1, 3) := by decide +kernel
theorem dX11_way_113 : decode cX11_way 113 = .ok (.goto (-77), 3) := by decide +kernel
theorem dX11_way_116 : decode cX11_way 116 = .ok (.aload_n 1, 1) := by decide +kernel
theorem dX11_way_117 : decode cX11_way 117 = .ok (.areturn, 1) := by decide +kernel
theorem dX11_has_0 : decode cX11_has 0 = .ok (.aload_n 0, 1) := by decide +kernel
theorem dX11_has_1 : decode cX11_has 1 = .ok (.getfield 69, 3) := by decide +kernel
theorem dX11_has_4 : decode cX11_has 4 = .ok (.iload_n 1, 1) := by decide +kernel
theorem dX11_has_5 : decode cX11_has 5 = .ok (.baload, 1) := by decide +kernel
theorem dX11_has_6 : decode cX11_has 6 = .ok (.ireturn, 1) := by decide +kernel
theorem dX12_init_0 : decode cX12_init 0 = .ok (.aload_n 0, 1) := by decide +kernel
theorem dX12_init_1 : decode cX12_init 1 = .ok (.invokespecial 1, 3) := by decide +kernel
theorem dX12_init_4 : decode cX12_init 4 = .ok (.aload_n 0, 1) := by decide +kernel
theorem dX12_init_5 : decode cX12_init 5 = .ok (.iload_n 1, 1) := by decide +kernel
theorem dX12_init_6 : decode cX12_init 6 = .ok (.putfield 7, 3) := by decide +kernel
theorem dX12_init_9 : decode cX12_init 9 = .ok (.aload_n 0, 1) := by decide +kernel
theorem dX12_init_10 : decode cX12_init 10 = .ok (.iload_n 2, 1) := by decide +kernel
theorem dX12_init_11 : decode cX12_init 11 = .ok (.putfield 13, 3) := by decide +kernel
theorem dX12_init_14 : decode cX12_init 14 = .ok (.return_, 1) := by decide +kernel
theorem dX13_thrown_0 : decode cX13_thrown 0 = .ok (.aload_n 0, 1) := by decide +kernel
theorem dX13_thrown_1 : decode cX13_thrown 1 = .ok (.getfield 1, 3) := by decide +kernel
theorem dX13_thrown_4 : decode cX13_thrown 4 = .ok (.ireturn, 1) := by decide +kernel
theorem dX13_isWrong_0 : decode cX13_isWrong 0 = .ok (.aload_n 0, 1) := by decide +kernel
theorem dX13_isWrong_1 : decode cX13_isWrong 1 = .ok (.iload_n 1, 1) := by decide +kernel
theorem dX13_isWrong_2 : decode cX13_isWrong 2 = .ok (.putfield 1, 3) := by decide +kernel
theorem dX13_isWrong_5 : decode cX13_isWrong 5 = .ok (.iload_n 1, 1) := by decide +kernel
theorem dX13_isWrong_6 : decode cX13_isWrong 6 = .ok (.ifCond .le 7, 3) := by decide +kernel
theorem dX13_isWrong_9 : decode cX13_isWrong 9 = .ok (.iconst 1, 1) := by decide +kernel
theorem dX13_isWrong_10 : decode cX13_isWrong 10 = .ok (.goto 4, 3) := by decide +kernel
theorem dX13_isWrong_13 : decode cX13_isWrong 13 = .ok (.iconst 0, 1) := by decide +kernel
theorem dX13_isWrong_14 : decode cX13_isWrong 14 = .ok (.ireturn, 1) := by decide +kernel
theorem dX13_isBetween_0 : decode cX13_isBetween 0 = .ok (.iload_n 1, 1) := by decide +kernel
theorem dX13_isBetween_1 : decode cX13_isBetween 1 = .ok (.iload_n 0, 1) := by decide +kernel
theorem dX13_isBetween_2 : decode cX13_isBetween 2 = .ok (.if_icmp .gt 12, 3) := by decide +kernel
theorem dX13_isBetween_5 : decode cX13_isBetween 5 = .ok (.iload_n 0, 1) := by decide +kernel
theorem dX13_isBetween_6 : decode cX13_isBetween 6 = .ok (.iload_n 2, 1) := by decide +kernel
theorem dX13_isBetween_7 : decode cX13_isBetween 7 = .ok (.if_icmp .gt 7, 3) := by decide +kernel
theorem dX13_isBetween_10 : decode cX13_isBetween 10 = .ok (.iconst 1, 1) := by decide +kernel
theorem dX13_isBetween_11 : decode cX13_isBetween 11 = .ok (.goto 4, 3) := by decide +kernel
theorem dX13_isBetween_14 : decode cX13_isBetween 14 = .ok (.iconst 0, 1) := by decide +kernel
theorem dX13_isBetween_15 : decode cX13_isBetween 15 = .ok (.ireturn, 1) := by decide +kernel
theorem dX13_isBlock_0 : decode cX13_isBlock 0 = .ok (.iload_n 0, 1) := by decide +kernel
theorem dX13_isBlock_1 : decode cX13_isBlock 1 = .ok (.iconst 0, 1) := by decide +kernel
theorem dX13_isBlock_2 : decode cX13_isBlock 2 = .ok (.bipush 59, 2) := by decide +kernel
theorem dX13_isBlock_4 : decode cX13_isBlock 4 = .ok (.invokestatic 7, 3) := by decide +kernel
theorem dX13_isBlock_7 : decode cX13_isBlock 7 = .ok (.ireturn, 1) := by decide +kernel
theorem dX13_init_0 : decode cX13_init 0 = .ok (.aload_n 0, 1) := by decide +kernel
theorem dX13_init_1 : decode cX13_init 1 = .ok (.invokespecial 11, 3) := by decide +kernel
theorem dX13_init_4 : decode cX13_init 4 = .ok (.aload_n 0, 1) := by decide +kernel
theorem dX13_init_5 : decode cX13_init 5 = .ok (.new 17, 3) := by decide +kernel
theorem dX13_init_8 : decode cX13_init 8 = .ok (.dup, 1) := by decide +kernel
theorem dX13_init_9 : decode cX13_init 9 = .ok (.invokespecial 19, 3) := by decide +kernel
theorem dX13_init_12 : decode cX13_init 12 = .ok (.putfield 20, 3) := by decide +kernel
theorem dX13_init_15 : decode cX13_init 15 = .ok (.aload_n 0, 1) := by decide +kernel
theorem dX13_init_16 : decode cX13_init 16 = .ok (.new 17, 3) := by decide +kernel
theorem dX13_init_19 : decode cX13_init 19 = .ok (.dup, 1) := by decide +kernel
theorem dX13_init_20 : decode cX13_init 20 = .ok (.invokespecial 19, 3) := by decide +kernel
theorem dX13_init_23 : decode cX13_init 23 = .ok (.putfield 24, 3) := by decide +kernel
theorem dX13_init_26 : decode cX13_init 26 = .ok (.aload_n 0, 1) := by decide +kernel
theorem dX13_init_27 : decode cX13_init 27 = .ok (.new 17, 3) := by decide +kernel
theorem dX13_init_30 : decode cX13_init 30 = .ok (.dup, 1) := by decide +kernel
theorem dX13_init_31 : decode cX13_init 31 = .ok (.invokespecial 19, 3) := by decide +kernel
theorem dX13_init_34 : decode cX13_init 34 = .ok (.putfield 27, 3) := by decide +kernel
theorem dX13_init_37 : decode cX13_init 37 = .ok (.aload_n 0, 1) := by decide +kernel
theorem dX13_init_38 : decode cX13_init 38 = .ok (.new 17, 3) := by decide +kernel
theorem dX13_init_41 : decode cX13_init 41 = .ok (.dup, 1) := by decide +kernel
theorem dX13_init_42 : decode cX13_init 42 = .ok (.invokespecial 19, 3) := by decide +kernel
theorem dX13_init_45 : decode cX13_init 45 = .ok (.putfield 30, 3) := by decide +kernel
theorem dX13_init_48 : decode cX13_init 48 = .ok (.aload_n 0, 1) := by decide +kernel
theorem dX13_init_49 : decode cX13_init 49 = .ok (.bipush 7, 2) := by decide +kernel
theorem dX13_init_51 : decode cX13_init 51 = .ok (.newarray .int, 2) := by decide +kernel
theorem dX13_init_53 : decode cX13_init 53 = .ok (.dup, 1) := by decide +kernel
theorem dX13_init_54 : decode cX13_init 54 = .ok (.iconst 0, 1) := by decide +kernel
theorem dX13_init_55 : decode cX13_init 55 = .ok (.iconst 3, 1) := by decide +kernel
theorem dX13_init_56 : decode cX13_init 56 = .ok (.iastore, 1) := by decide +kernel
theorem dX13_init_57 : decode cX13_init 57 = .ok (.dup, 1) := by decide +kernel
theorem dX13_init_58 : decode cX13_init 58 = .ok (.iconst 1, 1) := by decide +kernel
theorem dX13_init_59 : decode cX13_init 59 = .ok (.iconst 2, 1) := by decide +kernel
theorem dX13_init_60 : decode cX13_init 60 = .ok (.iastore, 1) := by decide +kernel
theorem dX13_init_61 : decode cX13_init 61 = .ok (.dup, 1) := by decide +kernel
theorem dX13_init_62 : decode cX13_init 62 = .ok (.iconst 2, 1) := by decide +kernel
theorem dX13_init_63 : decode cX13_init 63 = .ok (.bipush 20, 2) := by decide +kernel
theorem dX13_init_65 : decode cX13_init 65 = .ok (.iastore, 1) := by decide +kernel
theorem dX13_init_66 : decode cX13_init 66 = .ok (.dup, 1) := by decide +kernel
theorem dX13_init_67 : decode cX13_init 67 = .ok (.iconst 3, 1) := by decide +kernel
theorem dX13_init_68 : decode cX13_init 68 = .ok (.bipush 10, 2) := by decide +kernel
theorem dX13_init_70 : decode cX13_init 70 = .ok (.iastore, 1) := by decide +kernel
theorem dX13_init_71 : decode cX13_init 71 = .ok (.dup, 1) := by decide +kernel
theorem dX13_init_72 : decode cX13_init 72 = .ok (.iconst 4, 1) := by decide +kernel
theorem dX13_init_73 : decode cX13_init 73 = .ok (.bipush 10, 2) := by decide +kernel
theorem dX13_init_75 : decode cX13_init 75 = .ok (.iastore, 1) := by decide +kernel
theorem dX13_init_76 : decode cX13_init 76 = .ok (.dup, 1) := by decide +kernel
theorem dX13_init_77 : decode cX13_init 77 = .ok (.iconst 5, 1) := by decide +kernel
theorem dX13_init_78 : decode cX13_init 78 = .ok (.bipush 10, 2) := by decide +kernel
theorem dX13_init_80 : decode cX13_init 80 = .ok (.iastore, 1) := by decide +kernel
theorem dX13_init_81 : decode cX13_init 81 = .ok (.dup, 1) := by decide +kernel
theorem dX13_init_82 : decode cX13_init 82 = .ok (.bipush 6, 2) := by decide +kernel
theorem dX13_init_84 : decode cX13_init 84 = .ok (.iconst 5, 1) := by decide +kernel
theorem dX13_init_85 : decode cX13_init 85 = .ok (.iastore, 1) := by decide +kernel
theorem dX13_init_86 : decode cX13_init 86 = .ok (.putfield 33, 3) := by decide +kernel
theorem dX13_init_89 : decode cX13_init 89 = .ok (.iconst 0, 1) := by decide +kernel
theorem dX13_init_90 : decode cX13_init 90 = .ok (.istore_n 1, 1) := by decide +kernel
theorem dX13_init_91 : decode cX13_init 91 = .ok (.iload_n 1, 1) := by decide +kernel
theorem dX13_init_92 : decode cX13_init 92 = .ok (.bipush 60, 2) := by decide +kernel
theorem dX13_init_94 : decode cX13_init 94 = .ok (.if_icmp .ge 26, 3) := by decide +kernel
theorem dX13_init_97 : decode cX13_init 97 = .ok (.aload_n 0, 1) := by decide +kernel
theorem dX13_init_98 : decode cX13_init 98 = .ok (.getfield 20, 3) := by decide +kernel
theorem dX13_init_101 : decode cX13_init 101 = .ok (.new 37, 3) := by decide +kernel
theorem dX13_init_104 : decode cX13_init 104 = .ok (.dup, 1) := by decide +kernel
theorem dX13_init_105 : decode cX13_init 105 = .ok (.invokespecial 39, 3) := by decide +kernel
theorem dX13_init_108 : decode cX13_init 108 = .ok (.invokeinterface 40 2, 5) := by decide +kernel
theorem dX13_init_113 : decode cX13_init 113 = .ok (.pop, 1) := by decide +kernel
theorem dX13_init_114 : decode cX13_init 114 = .ok (.iinc 1 1, 3) := by decide +kernel
theorem dX13_init_117 : decode cX13_init 117 = .ok (.goto (-26), 3) := by decide +kernel
theorem dX13_init_120 : decode cX13_init 120 = .ok (.return_, 1) := by decide +kernel
theorem dX13_rock_0 : decode cX13_rock 0 = .ok (.aload_n 0, 1) := by decide +kernel
theorem dX13_rock_1 : decode cX13_rock 1 = .ok (.iload_n 1, 1) := by decide +kernel
theorem dX13_rock_2 : decode cX13_rock 2 = .ok (.invokestatic 46, 3) := by decide +kernel
theorem dX13_rock_5 : decode cX13_rock 5 = .ok (.ifCond .ne 7, 3) := by decide +kernel
theorem dX13_rock_8 : decode cX13_rock 8 = .ok (.iconst 1, 1) := by decide +kernel
theorem dX13_rock_9 : decode cX13_rock 9 = .ok (.goto 43, 3) := by decide +kernel
theorem dX13_rock_12 : decode cX13_rock 12 = .ok (.iload_n 2, 1) := by decide +kernel
theorem dX13_rock_13 : decode cX13_rock 13 = .ok (.bipush 115, 2) := by decide +kernel
theorem dX13_rock_15 : decode cX13_rock 15 = .ok (.if_icmp .eq 13, 3) := by decide +kernel
theorem dX13_rock_18 : decode cX13_rock 18 = .ok (.iload_n 2, 1) := by decide +kernel
theorem dX13_rock_19 : decode cX13_rock 19 = .ok (.bipush 104, 2) := by decide +kernel
theorem dX13_rock_21 : decode cX13_rock 21 = .ok (.if_icmp .eq 7, 3) := by decide +kernel
theorem dX13_rock_24 : decode cX13_rock 24 = .ok (.iconst 2, 1) := by decide +kernel
theorem dX13_rock_25 : decode cX13_rock 25 = .ok (.goto 27, 3) := by decide +kernel
theorem dX13_rock_28 : decode cX13_rock 28 = .ok (.aload_n 0, 1) := by decide +kernel
theorem dX13_rock_29 : decode cX13_rock 29 = .ok (.getfield 20, 3) := by decide +kernel
theorem dX13_rock_32 : decode cX13_rock 32 = .ok (.iload_n 1, 1) := by decide +kernel
theorem dX13_rock_33 : decode cX13_rock 33 = .ok (.invokeinterface 50 2, 5) := by decide +kernel
theorem dX13_rock_38 : decode cX13_rock 38 = .ok (.checkcast 37, 3) := by decide +kernel
theorem dX13_rock_41 : decode cX13_rock 41 = .ok (.getfield 54, 3) := by decide +kernel
theorem dX13_rock_44 : decode cX13_rock 44 = .ok (.ifCond .eq 7, 3) := by decide +kernel
theorem dX13_rock_47 : decode cX13_rock 47 = .ok (.iconst 3, 1) := by decide +kernel
theorem dX13_rock_48 : decode cX13_rock 48 = .ok (.goto 4, 3) := by decide +kernel
theorem dX13_rock_51 : decode cX13_rock 51 = .ok (.iconst 0, 1) := by decide +kernel
theorem dX13_rock_52 : decode cX13_rock 52 = .ok (.invokevirtual 58, 3) := by decide +kernel
theorem dX13_rock_55 : decode cX13_rock 55 = .ok (.ifCond .eq 5, 3) := by decide +kernel
theorem dX13_rock_58 : decode cX13_rock 58 = .ok (.iconst 0, 1) := by decide +kernel
theorem dX13_rock_59 : decode cX13_rock 59 = .ok (.ireturn, 1) := by decide +kernel
theorem dX13_rock_60 : decode cX13_rock 60 = .ok (.aload_n 0, 1) := by decide +kernel
theorem dX13_rock_61 : decode cX13_rock 61 = .ok (.getfield 20, 3) := by decide +kernel
theorem dX13_rock_64 : decode cX13_rock 64 = .ok (.iload_n 1, 1) := by decide +kernel
theorem dX13_rock_65 : decode cX13_rock 65 = .ok (.invokeinterface 50 2, 5) := by decide +kernel
theorem dX13_rock_70 : decode cX13_rock 70 = .ok (.checkcast 37, 3) := by decide +kernel
theorem dX13_rock_73 : decode cX13_rock 73 = .ok (.getfield 61, 3) := by decide +kernel
theorem dX13_rock_76 : decode cX13_rock 76 = .ok (.ifCond .eq 8, 3) := by decide +kernel
theorem dX13_rock_79 : decode cX13_rock 79 = .ok (.bipush 104, 2) := by decide +kernel
theorem dX13_rock_81 : decode cX13_rock 81 = .ok (.goto 5, 3) := by decide +kernel
theorem dX13_rock_84 : decode cX13_rock 84 = .ok (.bipush 115, 2) := by decide +kernel
theorem dX13_rock_86 : decode cX13_rock 86 = .ok (.istore_n 3, 1) := by decide +kernel
theorem dX13_rock_87 : decode cX13_rock 87 = .ok (.aload_n 0, 1) := by decide +kernel
theorem dX13_rock_88 : decode cX13_rock 88 = .ok (.getfield 20, 3) := by decide +kernel
theorem dX13_rock_91 : decode cX13_rock 91 = .ok (.iload_n 1, 1) := by decide +kernel
theorem dX13_rock_92 : decode cX13_rock 92 = .ok (.invokeinterface 50 2, 5) := by decide +kernel
theorem dX13_rock_97 : decode cX13_rock 97 = .ok (.checkcast 37, 3) := by decide +kernel
theorem dX13_rock_100 : decode cX13_rock 100 = .ok (.iload_n 2, 1) := by decide +kernel
theorem dX13_rock_101 : decode cX13_rock 101 = .ok (.bipush 104, 2) := by decide +kernel
theorem dX13_rock_103 : decode cX13_rock 103 = .ok (.if_icmp .ne 7, 3) := by decide +kernel
theorem dX13_rock_106 : decode cX13_rock 106 = .ok (.iconst 1, 1) := by decide +kernel
theorem dX13_rock_107 : decode cX13_rock 107 = .ok (.goto 4, 3) := by decide +kernel
theorem dX13_rock_110 : decode cX13_rock 110 = .ok (.iconst 0, 1) := by decide +kernel
theorem dX13_rock_111 : decode cX13_rock 111 = .ok (.putfield 61, 3) := by decide +kernel
theorem dX13_rock_114 : decode cX13_rock 114 = .ok (.iload_n 3, 1) := by decide +kernel
theorem dX13_rock_115 : decode cX13_rock 115 = .ok (.ireturn, 1) := by decide +kernel
theorem dX13_sample_0 : decode cX13_sample 0 = .ok (.aload_n 0, 1) := by decide +kernel
theorem dX13_sample_1 : decode cX13_sample 1 = .ok (.iload_n 1, 1) := by decide +kernel
theorem dX13_sample_2 : decode cX13_sample 2 = .ok (.invokestatic 46, 3) := by decide +kernel
theorem dX13_sample_5 : decode cX13_sample 5 = .ok (.ifCond .ne 7, 3) := by decide +kernel
theorem dX13_sample_8 : decode cX13_sample 8 = .ok (.iconst 1, 1) := by decide +kernel
theorem dX13_sample_9 : decode cX13_sample 9 = .ok (.goto 36, 3) := by decide +kernel
theorem dX13_sample_12 : decode cX13_sample 12 = .ok (.iload_n 2, 1) := by decide +kernel
theorem dX13_sample_13 : decode cX13_sample 13 = .ok (.iconst 0, 1) := by decide +kernel
theorem dX13_sample_14 : decode cX13_sample 14 = .ok (.bipush 99, 2) := by decide +kernel
theorem dX13_sample_16 : decode cX13_sample 16 = .ok (.invokestatic 7, 3) := by decide +kernel
theorem dX13_sample_19 : decode cX13_sample 19 = .ok (.ifCond .ne 7, 3) := by decide +kernel
theorem dX13_sample_22 : decode cX13_sample 22 = .ok (.iconst 2, 1) := by decide +kernel
theorem dX13_sample_23 : decode cX13_sample 23 = .ok (.goto 22, 3) := by decide +kernel
theorem dX13_sample_26 : decode cX13_sample 26 = .ok (.aload_n 0, 1) := by decide +kernel
theorem dX13_sample_27 : decode cX13_sample 27 = .ok (.getfield 24, 3) := by decide +kernel
theorem dX13_sample_30 : decode cX13_sample 30 = .ok (.invokeinterface 64 1, 5) := by decide +kernel
theorem dX13_sample_35 : decode cX13_sample 35 = .ok (.bipush 40, 2) := by decide +kernel
theorem dX13_sample_37 : decode cX13_sample 37 = .ok (.if_icmp .ne 7, 3) := by decide +kernel
theorem dX13_sample_40 : decode cX13_sample 40 = .ok (.iconst 3, 1) := by decide +kernel
theorem dX13_sample_41 : decode cX13_sample 41 = .ok (.goto 4, 3) := by decide +kernel
theorem dX13_sample_44 : decode cX13_sample 44 = .ok (.iconst 0, 1) := by decide +kernel
theorem dX13_sample_45 : decode cX13_sample 45 = .ok (.invokevirtual 58, 3) := by decide +kernel
theorem dX13_sample_48 : decode cX13_sample 48 = .ok (.ifCond .eq 5, 3) := by decide +kernel
theorem dX13_sample_51 : decode cX13_sample 51 = .ok (.iconst 0, 1) := by decide +kernel
theorem dX13_sample_52 : decode cX13_sample 52 = .ok (.ireturn, 1) := by decide +kernel
theorem dX13_sample_53 : decode cX13_sample 53 = .ok (.aload_n 0, 1) := by decide +kernel
theorem dX13_sample_54 : decode cX13_sample 54 = .ok (.getfield 24, 3) := by decide +kernel
theorem dX13_sample_57 : decode cX13_sample 57 = .ok (.new 68, 3) := by decide +kernel
theorem dX13_sample_60 : decode cX13_sample 60 = .ok (.dup, 1) := by decide +kernel
theorem dX13_sample_61 : decode cX13_sample 61 = .ok (.iload_n 1, 1) := by decide +kernel
theorem dX13_sample_62 : decode cX13_sample 62 = .ok (.iload_n 2, 1) := by decide +kernel
theorem dX13_sample_63 : decode cX13_sample 63 = .ok (.invokespecial 70, 3) := by decide +kernel
theorem dX13_sample_66 : decode cX13_sample 66 = .ok (.invokeinterface 40 2, 5) := by decide +kernel
theorem dX13_sample_71 : decode cX13_sample 71 = .ok (.pop, 1) := by decide +kernel
theorem dX13_sample_72 : decode cX13_sample 72 = .ok (.aload_n 0, 1) := by decide +kernel
theorem dX13_sample_73 : decode cX13_sample 73 = .ok (.getfield 24, 3) := by decide +kernel
theorem dX13_sample_76 : decode cX13_sample 76 = .ok (.invokeinterface 64 1, 5) := by decide +kernel
theorem dX13_sample_81 : decode cX13_sample 81 = .ok (.ireturn, 1) := by decide +kernel
theorem dX13_tellTruth_0 : decode cX13_tellTruth 0 = .ok (.aload_n 0, 1) := by decide +kernel
theorem dX13_tellTruth_1 : decode cX13_tellTruth 1 = .ok (.iload_n 1, 1) := by decide +kernel
theorem dX13_tellTruth_2 : decode cX13_tellTruth 2 = .ok (.invokestatic 46, 3) := by decide +kernel
theorem dX13_tellTruth_5 : decode cX13_tellTruth 5 = .ok (.ifCond .ne 7, 3) := by decide +kernel
theorem dX13_tellTruth_8 : decode cX13_tellTruth 8 = .ok (.iconst 1, 1) := by decide +kernel
theorem dX13_tellTruth_9 : decode cX13_tellTruth 9 = .ok (.goto 41, 3) := by decide +kernel
theorem dX13_tellTruth_12 : decode cX13_tellTruth 12 = .ok (.iload_n 2, 1) := by decide +kernel
theorem dX13_tellTruth_13 : decode cX13_tellTruth 13 = .ok (.iconst 0, 1) := by decide +kernel
theorem dX13_tellTruth_14 : decode cX13_tellTruth 14 = .ok (.bipush 99, 2) := by decide +kernel
theorem dX13_tellTruth_16 : decode cX13_tellTruth 16 = .ok (.invokestatic 7, 3) := by decide +kernel
theorem dX13_tellTruth_19 : decode cX13_tellTruth 19 = .ok (.ifCond .ne 7, 3) := by decide +kernel
theorem dX13_tellTruth_22 : decode cX13_tellTruth 22 = .ok (.iconst 2, 1) := by decide +kernel
theorem dX13_tellTruth_23 : decode cX13_tellTruth 23 = .ok (.goto 27, 3) := by decide +kernel
theorem dX13_tellTruth_26 : decode cX13_tellTruth 26 = .ok (.aload_n 0, 1) := by decide +kernel
theorem dX13_tellTruth_27 : decode cX13_tellTruth 27 = .ok (.getfield 20, 3) := by decide +kernel
theorem dX13_tellTruth_30 : decode cX13_tellTruth 30 = .ok (.iload_n 1, 1) := by decide +kernel
theorem dX13_tellTruth_31 : decode cX13_tellTruth 31 = .ok (.invokeinterface 50 2, 5) := by decide +kernel
theorem dX13_tellTruth_36 : decode cX13_tellTruth 36 = .ok (.checkcast 37, 3) := by decide +kernel
theorem dX13_tellTruth_39 : decode cX13_tellTruth 39 = .ok (.getfield 54, 3) := by decide +kernel
theorem dX13_tellTruth_42 : decode cX13_tellTruth 42 = .ok (.ifCond .eq 7, 3) := by decide +kernel
theorem dX13_tellTruth_45 : decode cX13_tellTruth 45 = .ok (.iconst 3, 1) := by decide +kernel
theorem dX13_tellTruth_46 : decode cX13_tellTruth 46 = .ok (.goto 4, 3) := by decide +kernel
theorem dX13_tellTruth_49 : decode cX13_tellTruth 49 = .ok (.iconst 0, 1) := by decide +kernel
theorem dX13_tellTruth_50 : decode cX13_tellTruth 50 = .ok (.invokevirtual 58, 3) := by decide +kernel
theorem dX13_tellTruth_53 : decode cX13_tellTruth 53 = .ok (.ifCond .eq 5, 3) := by decide +kernel
theorem dX13_tellTruth_56 : decode cX13_tellTruth 56 = .ok (.iconst 0, 1) := by decide +kernel
theorem dX13_tellTruth_57 : decode cX13_tellTruth 57 = .ok (.ireturn, 1) := by decide +kernel
theorem dX13_tellTruth_58 : decode cX13_tellTruth 58 = .ok (.aload_n 0, 1) := by decide +kernel
theorem dX13_tellTruth_59 : decode cX13_tellTruth 59 = .ok (.getfield 20, 3) := by decide +kernel
theorem dX13_tellTruth_62 : decode cX13_tellTruth 62 = .ok (.iload_n 1, 1) := by decide +kernel
theorem dX13_tellTruth_63 : decode cX13_tellTruth 63 = .ok (.invokeinterface 50 2, 5) := by decide +kernel
theorem dX13_tellTruth_68 : decode cX13_tellTruth 68 = .ok (.checkcast 37, 3) := by decide +kernel
theorem dX13_tellTruth_71 : decode cX13_tellTruth 71 = .ok (.getfield 73, 3) := by decide +kernel
theorem dX13_tellTruth_74 : decode cX13_tellTruth 74 = .ok (.istore_n 3, 1) := by decide +kernel
theorem dX13_tellTruth_75 : decode cX13_tellTruth 75 = .ok (.aload_n 0, 1) := by decide +kernel
theorem dX13_tellTruth_76 : decode cX13_tellTruth 76 = .ok (.getfield 20, 3) := by decide +kernel
theorem dX13_tellTruth_79 : decode cX13_tellTruth 79 = .ok (.iload_n 1, 1) := by decide +kernel
theorem dX13_tellTruth_80 : decode cX13_tellTruth 80 = .ok (.invokeinterface 50 2, 5) := by decide +kernel
theorem dX13_tellTruth_85 : decode cX13_tellTruth 85 = .ok (.checkcast 37, 3) := by decide +kernel
theorem dX13_tellTruth_88 : decode cX13_tellTruth 88 = .ok (.iload_n 2, 1) := by decide +kernel
theorem dX13_tellTruth_89 : decode cX13_tellTruth 89 = .ok (.putfield 73, 3) := by decide +kernel
theorem dX13_tellTruth_92 : decode cX13_tellTruth 92 = .ok (.iload_n 3, 1) := by decide +kernel
theorem dX13_tellTruth_93 : decode cX13_tellTruth 93 = .ok (.ireturn, 1) := by decide +kernel
theorem dX13_gradeOf_0 : decode cX13_gradeOf 0 = .ok (.dconst 0, 1) := by decide +kernel
theorem dX13_gradeOf_1 : decode cX13_gradeOf 1 = .ok (.dstore_n 2, 1) := by decide +kernel
theorem dX13_gradeOf_2 : decode cX13_gradeOf 2 = .ok (.dconst 0, 1) := by decide +kernel
theorem dX13_gradeOf_3 : decode cX13_gradeOf 3 = .ok (.dstore 4, 2) := by decide +kernel
theorem dX13_gradeOf_5 : decode cX13_gradeOf 5 = .ok (.dconst 0, 1) := by decide +kernel
theorem dX13_gradeOf_6 : decode cX13_gradeOf 6 = .ok (.dstore 6, 2) := by decide +kernel
theorem dX13_gradeOf_8 : decode cX13_gradeOf 8 = .ok (.iconst 0, 1) := by decide +kernel
theorem dX13_gradeOf_9 : decode cX13_gradeOf 9 = .ok (.istore 8, 2) := by decide +kernel
theorem dX13_gradeOf_11 : decode cX13_gradeOf 11 = .ok (.aload_n 0, 1) := by decide +kernel
theorem dX13_gradeOf_12 : decode cX13_gradeOf 12 = .ok (.getfield 24, 3) := by decide +kernel
theorem dX13_gradeOf_15 : decode cX13_gradeOf 15 = .ok (.invokeinterface 76 1, 5) := by decide +kernel
theorem dX13_gradeOf_20 : decode cX13_gradeOf 20 = .ok (.astore 9, 2) := by decide +kernel
theorem dX13_gradeOf_22 : decode cX13_gradeOf 22 = .ok (.aload 9, 2) := by decide +kernel
theorem dX13_gradeOf_24 : decode cX13_gradeOf 24 = .ok (.invokeinterface 80 1, 5) := by decide +kernel
theorem dX13_gradeOf_29 : decode cX13_gradeOf 29 = .ok (.ifCond .eq 111, 3) := by decide +kernel
theorem dX13_gradeOf_32 : decode cX13_gradeOf 32 = .ok (.aload 9, 2) := by decide +kernel
theorem dX13_gradeOf_34 : decode cX13_gradeOf 34 = .ok (.invokeinterface 86 1, 5) := by decide +kernel
theorem dX13_gradeOf_39 : decode cX13_gradeOf 39 = .ok (.checkcast 68, 3) := by decide +kernel
theorem dX13_gradeOf_42 : decode cX13_gradeOf 42 = .ok (.astore 10, 2) := by decide +kernel
theorem dX13_gradeOf_44 : decode cX13_gradeOf 44 = .ok (.aload 10, 2) := by decide +kernel
theorem dX13_gradeOf_46 : decode cX13_gradeOf 46 = .ok (.getfield 90, 3) := by decide +kernel
theorem dX13_gradeOf_49 : decode cX13_gradeOf 49 = .ok (.iload_n 1, 1) := by decide +kernel
theorem dX13_gradeOf_50 : decode cX13_gradeOf 50 = .ok (.if_icmp .ne 18, 3) := by decide +kernel
theorem dX13_gradeOf_53 : decode cX13_gradeOf 53 = .ok (.dload_n 2, 1) := by decide +kernel
theorem dX13_gradeOf_54 : decode cX13_gradeOf 54 = .ok (.aload 10, 2) := by decide +kernel
theorem dX13_gradeOf_56 : decode cX13_gradeOf 56 = .ok (.getfield 93, 3) := by decide +kernel
theorem dX13_gradeOf_59 : decode cX13_gradeOf 59 = .ok (.i2d, 1) := by decide +kernel
theorem dX13_gradeOf_60 : decode cX13_gradeOf 60 = .ok (.dadd, 1) := by decide +kernel
theorem dX13_gradeOf_61 : decode cX13_gradeOf 61 = .ok (.dstore_n 2, 1) := by decide +kernel
theorem dX13_gradeOf_62 : decode cX13_gradeOf 62 = .ok (.iinc 8 1, 3) := by decide +kernel
theorem dX13_gradeOf_65 : decode cX13_gradeOf 65 = .ok (.goto (-43), 3) := by decide +kernel
theorem dX13_gradeOf_68 : decode cX13_gradeOf 68 = .ok (.aload 10, 2) := by decide +kernel
theorem dX13_gradeOf_70 : decode cX13_gradeOf 70 = .ok (.getfield 90, 3) := by decide +kernel
theorem dX13_gradeOf_73 : decode cX13_gradeOf 73 = .ok (.bipush 10, 2) := by decide +kernel
theorem dX13_gradeOf_75 : decode cX13_gradeOf 75 = .ok (.irem, 1) := by decide +kernel
theorem dX13_gradeOf_76 : decode cX13_gradeOf 76 = .ok (.iload_n 1, 1) := by decide +kernel
theorem dX13_gradeOf_77 : decode cX13_gradeOf 77 = .ok (.bipush 10, 2) := by decide +kernel
theorem dX13_gradeOf_79 : decode cX13_gradeOf 79 = .ok (.irem, 1) := by decide +kernel
theorem dX13_gradeOf_80 : decode cX13_gradeOf 80 = .ok (.isub, 1) := by decide +kernel
theorem dX13_gradeOf_81 : decode cX13_gradeOf 81 = .ok (.istore 11, 2) := by decide +kernel
theorem dX13_gradeOf_83 : decode cX13_gradeOf 83 = .ok (.aload 10, 2) := by decide +kernel
theorem dX13_gradeOf_85 : decode cX13_gradeOf 85 = .ok (.getfield 90, 3) := by decide +kernel
theorem dX13_gradeOf_88 : decode cX13_gradeOf 88 = .ok (.bipush 10, 2) := by decide +kernel
theorem dX13_gradeOf_90 : decode cX13_gradeOf 90 = .ok (.idiv, 1) := by decide +kernel
theorem dX13_gradeOf_91 : decode cX13_gradeOf 91 = .ok (.iload_n 1, 1) := by decide +kernel
theorem dX13_gradeOf_92 : decode cX13_gradeOf 92 = .ok (.bipush 10, 2) := by decide +kernel
theorem dX13_gradeOf_94 : decode cX13_gradeOf 94 = .ok (.idiv, 1) := by decide +kernel
theorem dX13_gradeOf_95 : decode cX13_gradeOf 95 = .ok (.isub, 1) := by decide +kernel
theorem dX13_gradeOf_96 : decode cX13_gradeOf 96 = .ok (.istore 12, 2) := by decide +kernel
theorem dX13_gradeOf_98 : decode cX13_gradeOf 98 = .ok (.dconst 1, 1) := by decide +kernel
theorem dX13_gradeOf_99 : decode cX13_gradeOf 99 = .ok (.iload 11, 2) := by decide +kernel
theorem dX13_gradeOf_101 : decode cX13_gradeOf 101 = .ok (.iload 11, 2) := by decide +kernel
theorem dX13_gradeOf_103 : decode cX13_gradeOf 103 = .ok (.imul, 1) := by decide +kernel
theorem dX13_gradeOf_104 : decode cX13_gradeOf 104 = .ok (.iconst 4, 1) := by decide +kernel
theorem dX13_gradeOf_105 : decode cX13_gradeOf 105 = .ok (.iload 12, 2) := by decide +kernel
theorem dX13_gradeOf_107 : decode cX13_gradeOf 107 = .ok (.imul, 1) := by decide +kernel
theorem dX13_gradeOf_108 : decode cX13_gradeOf 108 = .ok (.iload 12, 2) := by decide +kernel
theorem dX13_gradeOf_110 : decode cX13_gradeOf 110 = .ok (.imul, 1) := by decide +kernel
theorem dX13_gradeOf_111 : decode cX13_gradeOf 111 = .ok (.iadd, 1) := by decide +kernel
theorem dX13_gradeOf_112 : decode cX13_gradeOf 112 = .ok (.i2d, 1) := by decide +kernel
theorem dX13_gradeOf_113 : decode cX13_gradeOf 113 = .ok (.ddiv, 1) := by decide +kernel
theorem dX13_gradeOf_114 : decode cX13_gradeOf 114 = .ok (.dstore 13, 2) := by decide +kernel
theorem dX13_gradeOf_116 : decode cX13_gradeOf 116 = .ok (.dload 4, 2) := by decide +kernel
theorem dX13_gradeOf_118 : decode cX13_gradeOf 118 = .ok (.dload 13, 2) := by decide +kernel
theorem dX13_gradeOf_120 : decode cX13_gradeOf 120 = .ok (.aload 10, 2) := by decide +kernel
theorem dX13_gradeOf_122 : decode cX13_gradeOf 122 = .ok (.getfield 93, 3) := by decide +kernel
theorem dX13_gradeOf_125 : decode cX13_gradeOf 125 = .ok (.i2d, 1) := by decide +kernel
theorem dX13_gradeOf_126 : decode cX13_gradeOf 126 = .ok (.dmul, 1) := by decide +kernel
theorem dX13_gradeOf_127 : decode cX13_gradeOf 127 = .ok (.dadd, 1) := by decide +kernel
theorem dX13_gradeOf_128 : decode cX13_gradeOf 128 = .ok (.dstore 4, 2) := by decide +kernel
theorem dX13_gradeOf_130 : decode cX13_gradeOf 130 = .ok (.dload 6, 2) := by decide +kernel
theorem dX13_gradeOf_132 : decode cX13_gradeOf 132 = .ok (.dload 13, 2) := by decide +kernel
theorem dX13_gradeOf_134 : decode cX13_gradeOf 134 = .ok (.dadd, 1) := by decide +kernel
theorem dX13_gradeOf_135 : decode cX13_gradeOf 135 = .ok (.dstore 6, 2) := by decide +kernel
theorem dX13_gradeOf_137 : decode cX13_gradeOf 137 = .ok (.goto (-115), 3) := by decide +kernel
theorem dX13_gradeOf_140 : decode cX13_gradeOf 140 = .ok (.aload_n 0, 1) := by decide +kernel
theorem dX13_gradeOf_141 : decode cX13_gradeOf 141 = .ok (.getfield 24, 3) := by decide +kernel
theorem dX13_gradeOf_144 : decode cX13_gradeOf 144 = .ok (.invokeinterface 96 1, 5) := by decide +kernel
theorem dX13_gradeOf_149 : decode cX13_gradeOf 149 = .ok (.ifCond .eq 5, 3) := by decide +kernel
theorem dX13_gradeOf_152 : decode cX13_gradeOf 152 = .ok (.iconst 0, 1) := by decide +kernel
theorem dX13_gradeOf_153 : decode cX13_gradeOf 153 = .ok (.ireturn, 1) := by decide +kernel
theorem dX13_gradeOf_154 : decode cX13_gradeOf 154 = .ok (.iload 8, 2) := by decide +kernel
theorem dX13_gradeOf_156 : decode cX13_gradeOf 156 = .ok (.ifCond .le 11, 3) := by decide +kernel
theorem dX13_gradeOf_159 : decode cX13_gradeOf 159 = .ok (.dload_n 2, 1) := by decide +kernel
theorem dX13_gradeOf_160 : decode cX13_gradeOf 160 = .ok (.iload 8, 2) := by decide +kernel
theorem dX13_gradeOf_162 : decode cX13_gradeOf 162 = .ok (.i2d, 1) := by decide +kernel
theorem dX13_gradeOf_163 : decode cX13_gradeOf 163 = .ok (.ddiv, 1) := by decide +kernel
theorem dX13_gradeOf_164 : decode cX13_gradeOf 164 = .ok (.goto 8, 3) := by decide +kernel
theorem dX13_gradeOf_167 : decode cX13_gradeOf 167 = .ok (.dload 4, 2) := by decide +kernel
theorem dX13_gradeOf_169 : decode cX13_gradeOf 169 = .ok (.dload 6, 2) := by decide +kernel
theorem dX13_gradeOf_171 : decode cX13_gradeOf 171 = .ok (.ddiv, 1) := by decide +kernel
theorem dX13_gradeOf_172 : decode cX13_gradeOf 172 = .ok (.invokestatic 99, 3) := by decide +kernel
theorem dX13_gradeOf_175 : decode cX13_gradeOf 175 = .ok (.d2i, 1) := by decide +kernel
theorem dX13_gradeOf_176 : decode cX13_gradeOf 176 = .ok (.ireturn, 1) := by decide +kernel
theorem dX13_grade_0 : decode cX13_grade 0 = .ok (.aload_n 0, 1) := by decide +kernel
theorem dX13_grade_1 : decode cX13_grade 1 = .ok (.iload_n 1, 1) := by decide +kernel
theorem dX13_grade_2 : decode cX13_grade 2 = .ok (.invokestatic 46, 3) := by decide +kernel
theorem dX13_grade_5 : decode cX13_grade 5 = .ok (.ifCond .eq 7, 3) := by decide +kernel
theorem dX13_grade_8 : decode cX13_grade 8 = .ok (.iconst 0, 1) := by decide +kernel
theorem dX13_grade_9 : decode cX13_grade 9 = .ok (.goto 4, 3) := by decide +kernel
theorem dX13_grade_12 : decode cX13_grade 12 = .ok (.iconst 1, 1) := by decide +kernel
theorem dX13_grade_13 : decode cX13_grade 13 = .ok (.invokevirtual 58, 3) := by decide +kernel
theorem dX13_grade_16 : decode cX13_grade 16 = .ok (.ifCond .eq 7, 3) := by decide +kernel
theorem dX13_grade_19 : decode cX13_grade 19 = .ok (.iconst 0, 1) := by decide +kernel
theorem dX13_grade_20 : decode cX13_grade 20 = .ok (.goto 8, 3) := by decide +kernel
theorem dX13_grade_23 : decode cX13_grade 23 = .ok (.aload_n 0, 1) := by decide +kernel
theorem dX13_grade_24 : decode cX13_grade 24 = .ok (.iload_n 1, 1) := by decide +kernel
theorem dX13_grade_25 : decode cX13_grade 25 = .ok (.invokevirtual 105, 3) := by decide +kernel
theorem dX13_grade_28 : decode cX13_grade 28 = .ok (.ireturn, 1) := by decide +kernel
theorem dX13_digging_0 : decode cX13_digging 0 = .ok (.bipush 30, 2) := by decide +kernel
theorem dX13_digging_2 : decode cX13_digging 2 = .ok (.bipush 10, 2) := by decide +kernel
theorem dX13_digging_4 : decode cX13_digging 4 = .ok (.iload_n 0, 1) := by decide +kernel
theorem dX13_digging_5 : decode cX13_digging 5 = .ok (.bipush 10, 2) := by decide +kernel
theorem dX13_digging_7 : decode cX13_digging 7 = .ok (.idiv, 1) := by decide +kernel
theorem dX13_digging_8 : decode cX13_digging 8 = .ok (.imul, 1) := by decide +kernel
theorem dX13_digging_9 : decode cX13_digging 9 = .ok (.iadd, 1) := by decide +kernel
theorem dX13_digging_10 : decode cX13_digging 10 = .ok (.ireturn, 1) := by decide +kernel
theorem dX13_worthOf_0 : decode cX13_worthOf 0 = .ok (.iconst 0, 1) := by decide +kernel
theorem dX13_worthOf_1 : decode cX13_worthOf 1 = .ok (.aload_n 0, 1) := by decide +kernel
theorem dX13_worthOf_2 : decode cX13_worthOf 2 = .ok (.iload_n 1, 1) := by decide +kernel
theorem dX13_worthOf_3 : decode cX13_worthOf 3 = .ok (.invokevirtual 105, 3) := by decide +kernel
theorem dX13_worthOf_6 : decode cX13_worthOf 6 = .ok (.iload_n 2, 1) := by decide +kernel
theorem dX13_worthOf_7 : decode cX13_worthOf 7 = .ok (.imul, 1) := by decide +kernel
theorem dX13_worthOf_8 : decode cX13_worthOf 8 = .ok (.sipush 200, 3) := by decide +kernel
theorem dX13_worthOf_11 : decode cX13_worthOf 11 = .ok (.isub, 1) := by decide +kernel
theorem dX13_worthOf_12 : decode cX13_worthOf 12 = .ok (.invokestatic 109, 3) := by decide +kernel
theorem dX13_worthOf_15 : decode cX13_worthOf 15 = .ok (.iload_n 1, 1) := by decide +kernel
theorem dX13_worthOf_16 : decode cX13_worthOf 16 = .ok (.invokestatic 113, 3) := by decide +kernel
theorem dX13_worthOf_19 : decode cX13_worthOf 19 = .ok (.isub, 1) := by decide +kernel
theorem dX13_worthOf_20 : decode cX13_worthOf 20 = .ok (.ireturn, 1) := by decide +kernel
theorem dX13_isPrice_0 : decode cX13_isPrice 0 = .ok (.iload_n 0, 1) := by decide +kernel
theorem dX13_isPrice_1 : decode cX13_isPrice 1 = .ok (.iconst 0, 1) := by decide +kernel
theorem dX13_isPrice_2 : decode cX13_isPrice 2 = .ok (.bipush 99, 2) := by decide +kernel
theorem dX13_isPrice_4 : decode cX13_isPrice 4 = .ok (.invokestatic 7, 3) := by decide +kernel
theorem dX13_isPrice_7 : decode cX13_isPrice 7 = .ok (.ireturn, 1) := by decide +kernel
theorem dX13_worth_0 : decode cX13_worth 0 = .ok (.aload_n 0, 1) := by decide +kernel
theorem dX13_worth_1 : decode cX13_worth 1 = .ok (.iload_n 1, 1) := by decide +kernel
theorem dX13_worth_2 : decode cX13_worth 2 = .ok (.invokestatic 46, 3) := by decide +kernel
theorem dX13_worth_5 : decode cX13_worth 5 = .ok (.ifCond .ne 7, 3) := by decide +kernel
theorem dX13_worth_8 : decode cX13_worth 8 = .ok (.iconst 1, 1) := by decide +kernel
theorem dX13_worth_9 : decode cX13_worth 9 = .ok (.goto 15, 3) := by decide +kernel
theorem dX13_worth_12 : decode cX13_worth 12 = .ok (.iload_n 2, 1) := by decide +kernel
theorem dX13_worth_13 : decode cX13_worth 13 = .ok (.invokestatic 116, 3) := by decide +kernel
theorem dX13_worth_16 : decode cX13_worth 16 = .ok (.ifCond .ne 7, 3) := by decide +kernel
theorem dX13_worth_19 : decode cX13_worth 19 = .ok (.iconst 2, 1) := by decide +kernel
theorem dX13_worth_20 : decode cX13_worth 20 = .ok (.goto 4, 3) := by decide +kernel
theorem dX13_worth_23 : decode cX13_worth 23 = .ok (.iconst 0, 1) := by decide +kernel
theorem dX13_worth_24 : decode cX13_worth 24 = .ok (.invokevirtual 58, 3) := by decide +kernel
theorem dX13_worth_27 : decode cX13_worth 27 = .ok (.ifCond .eq 7, 3) := by decide +kernel
theorem dX13_worth_30 : decode cX13_worth 30 = .ok (.iconst 0, 1) := by decide +kernel
theorem dX13_worth_31 : decode cX13_worth 31 = .ok (.goto 9, 3) := by decide +kernel
theorem dX13_worth_34 : decode cX13_worth 34 = .ok (.aload_n 0, 1) := by decide +kernel
theorem dX13_worth_35 : decode cX13_worth 35 = .ok (.iload_n 1, 1) := by decide +kernel
theorem dX13_worth_36 : decode cX13_worth 36 = .ok (.iload_n 2, 1) := by decide +kernel
theorem dX13_worth_37 : decode cX13_worth 37 = .ok (.invokevirtual 119, 3) := by decide +kernel
theorem dX13_worth_40 : decode cX13_worth 40 = .ok (.ireturn, 1) := by decide +kernel
theorem dX13_above_0 : decode cX13_above 0 = .ok (.new 17, 3) := by decide +kernel
theorem dX13_above_3 : decode cX13_above 3 = .ok (.dup, 1) := by decide +kernel
theorem dX13_above_4 : decode cX13_above 4 = .ok (.invokespecial 19, 3) := by decide +kernel
theorem dX13_above_7 : decode cX13_above 7 = .ok (.astore_n 2, 1) := by decide +kernel
theorem dX13_above_8 : decode cX13_above 8 = .ok (.iload_n 1, 1) := by decide +kernel
theorem dX13_above_9 : decode cX13_above 9 = .ok (.bipush 10, 2) := by decide +kernel
theorem dX13_above_11 : decode cX13_above 11 = .ok (.irem, 1) := by decide +kernel
theorem dX13_above_12 : decode cX13_above 12 = .ok (.istore_n 3, 1) := by decide +kernel
theorem dX13_above_13 : decode cX13_above 13 = .ok (.iload_n 3, 1) := by decide +kernel
theorem dX13_above_14 : decode cX13_above 14 = .ok (.iconst 1, 1) := by decide +kernel
theorem dX13_above_15 : decode cX13_above 15 = .ok (.isub, 1) := by decide +kernel
theorem dX13_above_16 : decode cX13_above 16 = .ok (.istore 4, 2) := by decide +kernel
theorem dX13_above_18 : decode cX13_above 18 = .ok (.iload 4, 2) := by decide +kernel
theorem dX13_above_20 : decode cX13_above 20 = .ok (.iload_n 3, 1) := by decide +kernel
theorem dX13_above_21 : decode cX13_above 21 = .ok (.iconst 1, 1) := by decide +kernel
theorem dX13_above_22 : decode cX13_above 22 = .ok (.iadd, 1) := by decide +kernel
theorem dX13_above_23 : decode cX13_above 23 = .ok (.if_icmp .gt 82, 3) := by decide +kernel
theorem dX13_above_26 : decode cX13_above 26 = .ok (.iload 4, 2) := by decide +kernel
theorem dX13_above_28 : decode cX13_above 28 = .ok (.iload_n 3, 1) := by decide +kernel
theorem dX13_above_29 : decode cX13_above 29 = .ok (.if_icmp .eq 33, 3) := by decide +kernel
theorem dX13_above_32 : decode cX13_above 32 = .ok (.aload_n 0, 1) := by decide +kernel
theorem dX13_above_33 : decode cX13_above 33 = .ok (.getfield 20, 3) := by decide +kernel
theorem dX13_above_36 : decode cX13_above 36 = .ok (.iload_n 1, 1) := by decide +kernel
theorem dX13_above_37 : decode cX13_above 37 = .ok (.invokeinterface 50 2, 5) := by decide +kernel
theorem dX13_above_42 : decode cX13_above 42 = .ok (.checkcast 37, 3) := by decide +kernel
theorem dX13_above_45 : decode cX13_above 45 = .ok (.getfield 61, 3) := by decide +kernel
theorem dX13_above_48 : decode cX13_above 48 = .ok (.ifCond .ne 18, 3) := by decide +kernel
theorem dX13_above_51 : decode cX13_above 51 = .ok (.iload 4, 2) := by decide +kernel
theorem dX13_above_53 : decode cX13_above 53 = .ok (.iconst 0, 1) := by decide +kernel
theorem dX13_above_54 : decode cX13_above 54 = .ok (.bipush 9, 2) := by decide +kernel
theorem dX13_above_56 : decode cX13_above 56 = .ok (.invokestatic 7, 3) := by decide +kernel
theorem dX13_above_59 : decode cX13_above 59 = .ok (.ifCond .eq 7, 3) := by decide +kernel
theorem dX13_above_62 : decode cX13_above 62 = .ok (.iconst 1, 1) := by decide +kernel
theorem dX13_above_63 : decode cX13_above 63 = .ok (.goto 4, 3) := by decide +kernel
theorem dX13_above_66 : decode cX13_above 66 = .ok (.iconst 0, 1) := by decide +kernel
theorem dX13_above_67 : decode cX13_above 67 = .ok (.istore 5, 2) := by decide +kernel
theorem dX13_above_69 : decode cX13_above 69 = .ok (.iload_n 1, 1) := by decide +kernel
theorem dX13_above_70 : decode cX13_above 70 = .ok (.bipush 10, 2) := by decide +kernel
theorem dX13_above_72 : decode cX13_above 72 = .ok (.if_icmp .lt 27, 3) := by decide +kernel
theorem dX13_above_75 : decode cX13_above 75 = .ok (.iload 5, 2) := by decide +kernel
theorem dX13_above_77 : decode cX13_above 77 = .ok (.ifCond .eq 22, 3) := by decide +kernel
theorem dX13_above_80 : decode cX13_above 80 = .ok (.aload_n 2, 1) := by decide +kernel
theorem dX13_above_81 : decode cX13_above 81 = .ok (.iload_n 1, 1) := by decide +kernel
theorem dX13_above_82 : decode cX13_above 82 = .ok (.bipush 10, 2) := by decide +kernel
theorem dX13_above_84 : decode cX13_above 84 = .ok (.isub, 1) := by decide +kernel
theorem dX13_above_85 : decode cX13_above 85 = .ok (.iload_n 3, 1) := by decide +kernel
theorem dX13_above_86 : decode cX13_above 86 = .ok (.isub, 1) := by decide +kernel
theorem dX13_above_87 : decode cX13_above 87 = .ok (.iload 4, 2) := by decide +kernel
theorem dX13_above_89 : decode cX13_above 89 = .ok (.iadd, 1) := by decide +kernel
theorem dX13_above_90 : decode cX13_above 90 = .ok (.invokestatic 122, 3) := by decide +kernel
theorem dX13_above_93 : decode cX13_above 93 = .ok (.invokeinterface 40 2, 5) := by decide +kernel
theorem dX13_above_98 : decode cX13_above 98 = .ok (.pop, 1) := by decide +kernel
theorem dX13_above_99 : decode cX13_above 99 = .ok (.iinc 4 1, 3) := by decide +kernel
theorem dX13_above_102 : decode cX13_above 102 = .ok (.goto (-84), 3) := by decide +kernel
theorem dX13_above_105 : decode cX13_above 105 = .ok (.aload_n 2, 1) := by decide +kernel
theorem dX13_above_106 : decode cX13_above 106 = .ok (.areturn, 1) := by decide +kernel
theorem dX13_liesFree_0 : decode cX13_liesFree 0 = .ok (.aload_n 0, 1) := by decide +kernel
theorem dX13_liesFree_1 : decode cX13_liesFree 1 = .ok (.getfield 20, 3) := by decide +kernel
theorem dX13_liesFree_4 : decode cX13_liesFree 4 = .ok (.iload_n 1, 1) := by decide +kernel
theorem dX13_liesFree_5 : decode cX13_liesFree 5 = .ok (.invokeinterface 50 2, 5) := by decide +kernel
theorem dX13_liesFree_10 : decode cX13_liesFree 10 = .ok (.checkcast 37, 3) := by decide +kernel
theorem dX13_liesFree_13 : decode cX13_liesFree 13 = .ok (.getfield 54, 3) := by decide +kernel
theorem dX13_liesFree_16 : decode cX13_liesFree 16 = .ok (.ifCond .ne 7, 3) := by decide +kernel
theorem dX13_liesFree_19 : decode cX13_liesFree 19 = .ok (.iconst 1, 1) := by decide +kernel
theorem dX13_liesFree_20 : decode cX13_liesFree 20 = .ok (.goto 4, 3) := by decide +kernel
theorem dX13_liesFree_23 : decode cX13_liesFree 23 = .ok (.iconst 0, 1) := by decide +kernel
theorem dX13_liesFree_24 : decode cX13_liesFree 24 = .ok (.istore_n 2, 1) := by decide +kernel
theorem dX13_liesFree_25 : decode cX13_liesFree 25 = .ok (.aload_n 0, 1) := by decide +kernel
theorem dX13_liesFree_26 : decode cX13_liesFree 26 = .ok (.iload_n 1, 1) := by decide +kernel
theorem dX13_liesFree_27 : decode cX13_liesFree 27 = .ok (.invokevirtual 128, 3) := by decide +kernel
theorem dX13_liesFree_30 : decode cX13_liesFree 30 = .ok (.invokeinterface 76 1, 5) := by decide +kernel
theorem dX13_liesFree_35 : decode cX13_liesFree 35 = .ok (.astore_n 3, 1) := by decide +kernel
theorem dX13_liesFree_36 : decode cX13_liesFree 36 = .ok (.aload_n 3, 1) := by decide +kernel
theorem dX13_liesFree_37 : decode cX13_liesFree 37 = .ok (.invokeinterface 80 1, 5) := by decide +kernel
theorem dX13_liesFree_42 : decode cX13_liesFree 42 = .ok (.ifCond .eq 40, 3) := by decide +kernel
theorem dX13_liesFree_45 : decode cX13_liesFree 45 = .ok (.aload_n 3, 1) := by decide +kernel
theorem dX13_liesFree_46 : decode cX13_liesFree 46 = .ok (.invokeinterface 86 1, 5) := by decide +kernel
theorem dX13_liesFree_51 : decode cX13_liesFree 51 = .ok (.checkcast 123, 3) := by decide +kernel
theorem dX13_liesFree_54 : decode cX13_liesFree 54 = .ok (.invokevirtual 132, 3) := by decide +kernel
theorem dX13_liesFree_57 : decode cX13_liesFree 57 = .ok (.istore 4, 2) := by decide +kernel
theorem dX13_liesFree_59 : decode cX13_liesFree 59 = .ok (.iload_n 2, 1) := by decide +kernel
theorem dX13_liesFree_60 : decode cX13_liesFree 60 = .ok (.aload_n 0, 1) := by decide +kernel
theorem dX13_liesFree_61 : decode cX13_liesFree 61 = .ok (.getfield 20, 3) := by decide +kernel
theorem dX13_liesFree_64 : decode cX13_liesFree 64 = .ok (.iload 4, 2) := by decide +kernel
theorem dX13_liesFree_66 : decode cX13_liesFree 66 = .ok (.invokeinterface 50 2, 5) := by decide +kernel
theorem dX13_liesFree_71 : decode cX13_liesFree 71 = .ok (.checkcast 37, 3) := by decide +kernel
theorem dX13_liesFree_74 : decode cX13_liesFree 74 = .ok (.getfield 54, 3) := by decide +kernel
theorem dX13_liesFree_77 : decode cX13_liesFree 77 = .ok (.iand, 1) := by decide +kernel
theorem dX13_liesFree_78 : decode cX13_liesFree 78 = .ok (.istore_n 2, 1) := by decide +kernel
theorem dX13_liesFree_79 : decode cX13_liesFree 79 = .ok (.goto (-43), 3) := by decide +kernel
theorem dX13_liesFree_82 : decode cX13_liesFree 82 = .ok (.iload_n 2, 1) := by decide +kernel
theorem dX13_liesFree_83 : decode cX13_liesFree 83 = .ok (.ireturn, 1) := by decide +kernel
theorem dX13_isFree_0 : decode cX13_isFree 0 = .ok (.aload_n 0, 1) := by decide +kernel
theorem dX13_isFree_1 : decode cX13_isFree 1 = .ok (.iload_n 1, 1) := by decide +kernel
theorem dX13_isFree_2 : decode cX13_isFree 2 = .ok (.invokestatic 46, 3) := by decide +kernel
theorem dX13_isFree_5 : decode cX13_isFree 5 = .ok (.ifCond .eq 7, 3) := by decide +kernel
theorem dX13_isFree_8 : decode cX13_isFree 8 = .ok (.iconst 0, 1) := by decide +kernel
theorem dX13_isFree_9 : decode cX13_isFree 9 = .ok (.goto 4, 3) := by decide +kernel
theorem dX13_isFree_12 : decode cX13_isFree 12 = .ok (.iconst 1, 1) := by decide +kernel
theorem dX13_isFree_13 : decode cX13_isFree 13 = .ok (.invokevirtual 58, 3) := by decide +kernel
theorem dX13_isFree_16 : decode cX13_isFree 16 = .ok (.ifCond .ne 15, 3) := by decide +kernel
theorem dX13_isFree_19 : decode cX13_isFree 19 = .ok (.aload_n 0, 1) := by decide +kernel
theorem dX13_isFree_20 : decode cX13_isFree 20 = .ok (.iload_n 1, 1) := by decide +kernel
theorem dX13_isFree_21 : decode cX13_isFree 21 = .ok (.invokevirtual 135, 3) := by decide +kernel
theorem dX13_isFree_24 : decode cX13_isFree 24 = .ok (.ifCond .eq 7, 3) := by decide +kernel
theorem dX13_isFree_27 : decode cX13_isFree 27 = .ok (.iconst 1, 1) := by decide +kernel
theorem dX13_isFree_28 : decode cX13_isFree 28 = .ok (.goto 4, 3) := by decide +kernel
theorem dX13_isFree_31 : decode cX13_isFree 31 = .ok (.iconst 0, 1) := by decide +kernel
theorem dX13_isFree_32 : decode cX13_isFree 32 = .ok (.ireturn, 1) := by decide +kernel
theorem dX13_isDug_0 : decode cX13_isDug 0 = .ok (.aload_n 0, 1) := by decide +kernel
theorem dX13_isDug_1 : decode cX13_isDug 1 = .ok (.iload_n 1, 1) := by decide +kernel
theorem dX13_isDug_2 : decode cX13_isDug 2 = .ok (.invokestatic 46, 3) := by decide +kernel
theorem dX13_isDug_5 : decode cX13_isDug 5 = .ok (.ifCond .eq 7, 3) := by decide +kernel
theorem dX13_isDug_8 : decode cX13_isDug 8 = .ok (.iconst 0, 1) := by decide +kernel
theorem dX13_isDug_9 : decode cX13_isDug 9 = .ok (.goto 4, 3) := by decide +kernel
theorem dX13_isDug_12 : decode cX13_isDug 12 = .ok (.iconst 1, 1) := by decide +kernel
theorem dX13_isDug_13 : decode cX13_isDug 13 = .ok (.invokevirtual 58, 3) := by decide +kernel
theorem dX13_isDug_16 : decode cX13_isDug 16 = .ok (.ifCond .ne 26, 3) := by decide +kernel
theorem dX13_isDug_19 : decode cX13_isDug 19 = .ok (.aload_n 0, 1) := by decide +kernel
theorem dX13_isDug_20 : decode cX13_isDug 20 = .ok (.getfield 20, 3) := by decide +kernel
theorem dX13_isDug_23 : decode cX13_isDug 23 = .ok (.iload_n 1, 1) := by decide +kernel
theorem dX13_isDug_24 : decode cX13_isDug 24 = .ok (.invokeinterface 50 2, 5) := by decide +kernel
theorem dX13_isDug_29 : decode cX13_isDug 29 = .ok (.checkcast 37, 3) := by decide +kernel
theorem dX13_isDug_32 : decode cX13_isDug 32 = .ok (.getfield 54, 3) := by decide +kernel
theorem dX13_isDug_35 : decode cX13_isDug 35 = .ok (.ifCond .eq 7, 3) := by decide +kernel
theorem dX13_isDug_38 : decode cX13_isDug 38 = .ok (.iconst 1, 1) := by decide +kernel
theorem dX13_isDug_39 : decode cX13_isDug 39 = .ok (.goto 4, 3) := by decide +kernel
theorem dX13_isDug_42 : decode cX13_isDug 42 = .ok (.iconst 0, 1) := by decide +kernel
theorem dX13_isDug_43 : decode cX13_isDug 43 = .ok (.ireturn, 1) := by decide +kernel
theorem dX13_pitWorth_0 : decode cX13_pitWorth 0 = .ok (.aload_n 0, 1) := by decide +kernel
theorem dX13_pitWorth_1 : decode cX13_pitWorth 1 = .ok (.iload_n 1, 1) := by decide +kernel
theorem dX13_pitWorth_2 : decode cX13_pitWorth 2 = .ok (.invokestatic 116, 3) := by decide +kernel
theorem dX13_pitWorth_5 : decode cX13_pitWorth 5 = .ok (.ifCond .eq 7, 3) := by decide +kernel
theorem dX13_pitWorth_8 : decode cX13_pitWorth 8 = .ok (.iconst 0, 1) := by decide +kernel
theorem dX13_pitWorth_9 : decode cX13_pitWorth 9 = .ok (.goto 4, 3) := by decide +kernel
theorem dX13_pitWorth_12 : decode cX13_pitWorth 12 = .ok (.iconst 1, 1) := by decide +kernel
theorem dX13_pitWorth_13 : decode cX13_pitWorth 13 = .ok (.invokevirtual 58, 3) := by decide +kernel
theorem dX13_pitWorth_16 : decode cX13_pitWorth 16 = .ok (.ifCond .eq 5, 3) := by decide +kernel
theorem dX13_pitWorth_19 : decode cX13_pitWorth 19 = .ok (.lconst 0, 1) := by decide +kernel
theorem dX13_pitWorth_20 : decode cX13_pitWorth 20 = .ok (.lreturn, 1) := by decide +kernel
theorem dX13_pitWorth_21 : decode cX13_pitWorth 21 = .ok (.new 138, 3) := by decide +kernel
theorem dX13_pitWorth_24 : decode cX13_pitWorth 24 = .ok (.dup, 1) := by decide +kernel
theorem dX13_pitWorth_25 : decode cX13_pitWorth 25 = .ok (.aload_n 0, 1) := by decide +kernel
theorem dX13_pitWorth_26 : decode cX13_pitWorth 26 = .ok (.iload_n 1, 1) := by decide +kernel
theorem dX13_pitWorth_27 : decode cX13_pitWorth 27 = .ok (.invokespecial 140, 3) := by decide +kernel
theorem dX13_pitWorth_30 : decode cX13_pitWorth 30 = .ok (.astore_n 2, 1) := by decide +kernel
theorem dX13_pitWorth_31 : decode cX13_pitWorth 31 = .ok (.lconst 0, 1) := by decide +kernel
theorem dX13_pitWorth_32 : decode cX13_pitWorth 32 = .ok (.lstore_n 3, 1) := by decide +kernel
theorem dX13_pitWorth_33 : decode cX13_pitWorth 33 = .ok (.iconst 0, 1) := by decide +kernel
theorem dX13_pitWorth_34 : decode cX13_pitWorth 34 = .ok (.istore 5, 2) := by decide +kernel
theorem dX13_pitWorth_36 : decode cX13_pitWorth 36 = .ok (.iload 5, 2) := by decide +kernel
theorem dX13_pitWorth_38 : decode cX13_pitWorth 38 = .ok (.bipush 60, 2) := by decide +kernel
theorem dX13_pitWorth_40 : decode cX13_pitWorth 40 = .ok (.if_icmp .ge 33, 3) := by decide +kernel
theorem dX13_pitWorth_43 : decode cX13_pitWorth 43 = .ok (.lload_n 3, 1) := by decide +kernel
theorem dX13_pitWorth_44 : decode cX13_pitWorth 44 = .ok (.aload_n 2, 1) := by decide +kernel
theorem dX13_pitWorth_45 : decode cX13_pitWorth 45 = .ok (.iload 5, 2) := by decide +kernel
theorem dX13_pitWorth_47 : decode cX13_pitWorth 47 = .ok (.invokevirtual 143, 3) := by decide +kernel
theorem dX13_pitWorth_50 : decode cX13_pitWorth 50 = .ok (.ifCond .eq 14, 3) := by decide +kernel
theorem dX13_pitWorth_53 : decode cX13_pitWorth 53 = .ok (.aload_n 0, 1) := by decide +kernel
theorem dX13_pitWorth_54 : decode cX13_pitWorth 54 = .ok (.iload 5, 2) := by decide +kernel
theorem dX13_pitWorth_56 : decode cX13_pitWorth 56 = .ok (.iload_n 1, 1) := by decide +kernel
theorem dX13_pitWorth_57 : decode cX13_pitWorth 57 = .ok (.invokevirtual 119, 3) := by decide +kernel
theorem dX13_pitWorth_60 : decode cX13_pitWorth 60 = .ok (.i2l, 1) := by decide +kernel
theorem dX13_pitWorth_61 : decode cX13_pitWorth 61 = .ok (.goto 4, 3) := by decide +kernel
theorem dX13_pitWorth_64 : decode cX13_pitWorth 64 = .ok (.lconst 0, 1) := by decide +kernel
theorem dX13_pitWorth_65 : decode cX13_pitWorth 65 = .ok (.ladd, 1) := by decide +kernel
theorem dX13_pitWorth_66 : decode cX13_pitWorth 66 = .ok (.lstore_n 3, 1) := by decide +kernel
theorem dX13_pitWorth_67 : decode cX13_pitWorth 67 = .ok (.iinc 5 1, 3) := by decide +kernel
theorem dX13_pitWorth_70 : decode cX13_pitWorth 70 = .ok (.goto (-34), 3) := by decide +kernel
theorem dX13_pitWorth_73 : decode cX13_pitWorth 73 = .ok (.lload_n 3, 1) := by decide +kernel
theorem dX13_pitWorth_74 : decode cX13_pitWorth 74 = .ok (.lreturn, 1) := by decide +kernel
theorem dX13_pitSize_0 : decode cX13_pitSize 0 = .ok (.aload_n 0, 1) := by decide +kernel
theorem dX13_pitSize_1 : decode cX13_pitSize 1 = .ok (.iload_n 1, 1) := by decide +kernel
theorem dX13_pitSize_2 : decode cX13_pitSize 2 = .ok (.invokestatic 116, 3) := by decide +kernel
theorem dX13_pitSize_5 : decode cX13_pitSize 5 = .ok (.ifCond .eq 7, 3) := by decide +kernel
theorem dX13_pitSize_8 : decode cX13_pitSize 8 = .ok (.iconst 0, 1) := by decide +kernel
theorem dX13_pitSize_9 : decode cX13_pitSize 9 = .ok (.goto 4, 3) := by decide +kernel
theorem dX13_pitSize_12 : decode cX13_pitSize 12 = .ok (.iconst 1, 1) := by decide +kernel
theorem dX13_pitSize_13 : decode cX13_pitSize 13 = .ok (.invokevirtual 58, 3) := by decide +kernel
theorem dX13_pitSize_16 : decode cX13_pitSize 16 = .ok (.ifCond .eq 5, 3) := by decide +kernel
theorem dX13_pitSize_19 : decode cX13_pitSize 19 = .ok (.iconst 0, 1) := by decide +kernel
theorem dX13_pitSize_20 : decode cX13_pitSize 20 = .ok (.ireturn, 1) := by decide +kernel
theorem dX13_pitSize_21 : decode cX13_pitSize 21 = .ok (.new 138, 3) := by decide +kernel
theorem dX13_pitSize_24 : decode cX13_pitSize 24 = .ok (.dup, 1) := by decide +kernel
theorem dX13_pitSize_25 : decode cX13_pitSize 25 = .ok (.aload_n 0, 1) := by decide +kernel
theorem dX13_pitSize_26 : decode cX13_pitSize 26 = .ok (.iload_n 1, 1) := by decide +kernel
theorem dX13_pitSize_27 : decode cX13_pitSize 27 = .ok (.invokespecial 140, 3) := by decide +kernel
theorem dX13_pitSize_30 : decode cX13_pitSize 30 = .ok (.astore_n 2, 1) := by decide +kernel
theorem dX13_pitSize_31 : decode cX13_pitSize 31 = .ok (.iconst 0, 1) := by decide +kernel
theorem dX13_pitSize_32 : decode cX13_pitSize 32 = .ok (.istore_n 3, 1) := by decide +kernel
theorem dX13_pitSize_33 : decode cX13_pitSize 33 = .ok (.iconst 0, 1) := by decide +kernel
theorem dX13_pitSize_34 : decode cX13_pitSize 34 = .ok (.istore 4, 2) := by decide +kernel
theorem dX13_pitSize_36 : decode cX13_pitSize 36 = .ok (.iload 4, 2) := by decide +kernel
theorem dX13_pitSize_38 : decode cX13_pitSize 38 = .ok (.bipush 60, 2) := by decide +kernel
theorem dX13_pitSize_40 : decode cX13_pitSize 40 = .ok (.if_icmp .ge 26, 3) := by decide +kernel
theorem dX13_pitSize_43 : decode cX13_pitSize 43 = .ok (.iload_n 3, 1) := by decide +kernel
theorem dX13_pitSize_44 : decode cX13_pitSize 44 = .ok (.aload_n 2, 1) := by decide +kernel
theorem dX13_pitSize_45 : decode cX13_pitSize 45 = .ok (.iload 4, 2) := by decide +kernel
theorem dX13_pitSize_47 : decode cX13_pitSize 47 = .ok (.invokevirtual 143, 3) := by decide +kernel
theorem dX13_pitSize_50 : decode cX13_pitSize 50 = .ok (.ifCond .eq 7, 3) := by decide +kernel
theorem dX13_pitSize_53 : decode cX13_pitSize 53 = .ok (.iconst 1, 1) := by decide +kernel
theorem dX13_pitSize_54 : decode cX13_pitSize 54 = .ok (.goto 4, 3) := by decide +kernel
theorem dX13_pitSize_57 : decode cX13_pitSize 57 = .ok (.iconst 0, 1) := by decide +kernel
theorem dX13_pitSize_58 : decode cX13_pitSize 58 = .ok (.iadd, 1) := by decide +kernel
theorem dX13_pitSize_59 : decode cX13_pitSize 59 = .ok (.istore_n 3, 1) := by decide +kernel
theorem dX13_pitSize_60 : decode cX13_pitSize 60 = .ok (.iinc 4 1, 3) := by decide +kernel
theorem dX13_pitSize_63 : decode cX13_pitSize 63 = .ok (.goto (-27), 3) := by decide +kernel
theorem dX13_pitSize_66 : decode cX13_pitSize 66 = .ok (.iload_n 3, 1) := by decide +kernel
theorem dX13_pitSize_67 : decode cX13_pitSize 67 = .ok (.ireturn, 1) := by decide +kernel
theorem dX13_isInPit_0 : decode cX13_isInPit 0 = .ok (.aload_n 0, 1) := by decide +kernel
theorem dX13_isInPit_1 : decode cX13_isInPit 1 = .ok (.iload_n 1, 1) := by decide +kernel
theorem dX13_isInPit_2 : decode cX13_isInPit 2 = .ok (.invokestatic 116, 3) := by decide +kernel
theorem dX13_isInPit_5 : decode cX13_isInPit 5 = .ok (.ifCond .ne 7, 3) := by decide +kernel
theorem dX13_isInPit_8 : decode cX13_isInPit 8 = .ok (.iconst 1, 1) := by decide +kernel
theorem dX13_isInPit_9 : decode cX13_isInPit 9 = .ok (.goto 15, 3) := by decide +kernel
theorem dX13_isInPit_12 : decode cX13_isInPit 12 = .ok (.iload_n 2, 1) := by decide +kernel
theorem dX13_isInPit_13 : decode cX13_isInPit 13 = .ok (.invokestatic 46, 3) := by decide +kernel
theorem dX13_isInPit_16 : decode cX13_isInPit 16 = .ok (.ifCond .ne 7, 3) := by decide +kernel
theorem dX13_isInPit_19 : decode cX13_isInPit 19 = .ok (.iconst 2, 1) := by decide +kernel
theorem dX13_isInPit_20 : decode cX13_isInPit 20 = .ok (.goto 4, 3) := by decide +kernel
theorem dX13_isInPit_23 : decode cX13_isInPit 23 = .ok (.iconst 0, 1) := by decide +kernel
theorem dX13_isInPit_24 : decode cX13_isInPit 24 = .ok (.invokevirtual 58, 3) := by decide +kernel
theorem dX13_isInPit_27 : decode cX13_isInPit 27 = .ok (.ifCond .ne 23, 3) := by decide +kernel
theorem dX13_isInPit_30 : decode cX13_isInPit 30 = .ok (.new 138, 3) := by decide +kernel
theorem dX13_isInPit_33 : decode cX13_isInPit 33 = .ok (.dup, 1) := by decide +kernel
theorem dX13_isInPit_34 : decode cX13_isInPit 34 = .ok (.aload_n 0, 1) := by decide +kernel
theorem dX13_isInPit_35 : decode cX13_isInPit 35 = .ok (.iload_n 1, 1) := by decide +kernel
theorem dX13_isInPit_36 : decode cX13_isInPit 36 = .ok (.invokespecial 140, 3) := by decide +kernel
theorem dX13_isInPit_39 : decode cX13_isInPit 39 = .ok (.iload_n 2, 1) := by decide +kernel
theorem dX13_isInPit_40 : decode cX13_isInPit 40 = .ok (.invokevirtual 143, 3) := by decide +kernel
theorem dX13_isInPit_43 : decode cX13_isInPit 43 = .ok (.ifCond .eq 7, 3) := by decide +kernel
theorem dX13_isInPit_46 : decode cX13_isInPit 46 = .ok (.iconst 1, 1) := by decide +kernel
theorem dX13_isInPit_47 : decode cX13_isInPit 47 = .ok (.goto 4, 3) := by decide +kernel
theorem dX13_isInPit_50 : decode cX13_isInPit 50 = .ok (.iconst 0, 1) := by decide +kernel
theorem dX13_isInPit_51 : decode cX13_isInPit 51 = .ok (.ireturn, 1) := by decide +kernel
theorem dX13_worthWith_0 : decode cX13_worthWith 0 = .ok (.aload_n 0, 1) := by decide +kernel
theorem dX13_worthWith_1 : decode cX13_worthWith 1 = .ok (.iload_n 1, 1) := by decide +kernel
theorem dX13_worthWith_2 : decode cX13_worthWith 2 = .ok (.invokestatic 116, 3) := by decide +kernel
theorem dX13_worthWith_5 : decode cX13_worthWith 5 = .ok (.ifCond .ne 7, 3) := by decide +kernel
theorem dX13_worthWith_8 : decode cX13_worthWith 8 = .ok (.iconst 1, 1) := by decide +kernel
theorem dX13_worthWith_9 : decode cX13_worthWith 9 = .ok (.goto 38, 3) := by decide +kernel
theorem dX13_worthWith_12 : decode cX13_worthWith 12 = .ok (.iload_n 2, 1) := by decide +kernel
theorem dX13_worthWith_13 : decode cX13_worthWith 13 = .ok (.invokestatic 46, 3) := by decide +kernel
theorem dX13_worthWith_16 : decode cX13_worthWith 16 = .ok (.ifCond .ne 7, 3) := by decide +kernel
theorem dX13_worthWith_19 : decode cX13_worthWith 19 = .ok (.iconst 2, 1) := by decide +kernel
theorem dX13_worthWith_20 : decode cX13_worthWith 20 = .ok (.goto 27, 3) := by decide +kernel
theorem dX13_worthWith_23 : decode cX13_worthWith 23 = .ok (.aload_n 0, 1) := by decide +kernel
theorem dX13_worthWith_24 : decode cX13_worthWith 24 = .ok (.getfield 20, 3) := by decide +kernel
theorem dX13_worthWith_27 : decode cX13_worthWith 27 = .ok (.iload_n 2, 1) := by decide +kernel
theorem dX13_worthWith_28 : decode cX13_worthWith 28 = .ok (.invokeinterface 50 2, 5) := by decide +kernel
theorem dX13_worthWith_33 : decode cX13_worthWith 33 = .ok (.checkcast 37, 3) := by decide +kernel
theorem dX13_worthWith_36 : decode cX13_worthWith 36 = .ok (.getfield 54, 3) := by decide +kernel
theorem dX13_worthWith_39 : decode cX13_worthWith 39 = .ok (.ifCond .eq 7, 3) := by decide +kernel
theorem dX13_worthWith_42 : decode cX13_worthWith 42 = .ok (.iconst 3, 1) := by decide +kernel
theorem dX13_worthWith_43 : decode cX13_worthWith 43 = .ok (.goto 4, 3) := by decide +kernel
theorem dX13_worthWith_46 : decode cX13_worthWith 46 = .ok (.iconst 0, 1) := by decide +kernel
theorem dX13_worthWith_47 : decode cX13_worthWith 47 = .ok (.invokevirtual 58, 3) := by decide +kernel
theorem dX13_worthWith_50 : decode cX13_worthWith 50 = .ok (.ifCond .eq 5, 3) := by decide +kernel
theorem dX13_worthWith_53 : decode cX13_worthWith 53 = .ok (.lconst 0, 1) := by decide +kernel
theorem dX13_worthWith_54 : decode cX13_worthWith 54 = .ok (.lreturn, 1) := by decide +kernel
theorem dX13_worthWith_55 : decode cX13_worthWith 55 = .ok (.bipush 60, 2) := by decide +kernel
theorem dX13_worthWith_57 : decode cX13_worthWith 57 = .ok (.newarray .boolean, 2) := by decide +kernel
theorem dX13_worthWith_59 : decode cX13_worthWith 59 = .ok (.astore_n 3, 1) := by decide +kernel
theorem dX13_worthWith_60 : decode cX13_worthWith 60 = .ok (.aload_n 3, 1) := by decide +kernel
theorem dX13_worthWith_61 : decode cX13_worthWith 61 = .ok (.iload_n 2, 1) := by decide +kernel
theorem dX13_worthWith_62 : decode cX13_worthWith 62 = .ok (.iconst 1, 1) := by decide +kernel
theorem dX13_worthWith_63 : decode cX13_worthWith 63 = .ok (.bastore, 1) := by decide +kernel
theorem dX13_worthWith_64 : decode cX13_worthWith 64 = .ok (.lconst 0, 1) := by decide +kernel
theorem dX13_worthWith_65 : decode cX13_worthWith 65 = .ok (.lstore 4, 2) := by decide +kernel
theorem dX13_worthWith_67 : decode cX13_worthWith 67 = .ok (.iload_n 2, 1) := by decide +kernel
theorem dX13_worthWith_68 : decode cX13_worthWith 68 = .ok (.istore 6, 2) := by decide +kernel
theorem dX13_worthWith_70 : decode cX13_worthWith 70 = .ok (.iload 6, 2) := by decide +kernel
theorem dX13_worthWith_72 : decode cX13_worthWith 72 = .ok (.ifCond .lt 98, 3) := by decide +kernel
theorem dX13_worthWith_75 : decode cX13_worthWith 75 = .ok (.aload_n 3, 1) := by decide +kernel
theorem dX13_worthWith_76 : decode cX13_worthWith 76 = .ok (.iload 6, 2) := by decide +kernel
theorem dX13_worthWith_78 : decode cX13_worthWith 78 = .ok (.baload, 1) := by decide +kernel
theorem dX13_worthWith_79 : decode cX13_worthWith 79 = .ok (.ifCond .eq 85, 3) := by decide +kernel
theorem dX13_worthWith_82 : decode cX13_worthWith 82 = .ok (.aload_n 0, 1) := by decide +kernel
theorem dX13_worthWith_83 : decode cX13_worthWith 83 = .ok (.getfield 20, 3) := by decide +kernel
theorem dX13_worthWith_86 : decode cX13_worthWith 86 = .ok (.iload 6, 2) := by decide +kernel
theorem dX13_worthWith_88 : decode cX13_worthWith 88 = .ok (.invokeinterface 50 2, 5) := by decide +kernel
theorem dX13_worthWith_93 : decode cX13_worthWith 93 = .ok (.checkcast 37, 3) := by decide +kernel
theorem dX13_worthWith_96 : decode cX13_worthWith 96 = .ok (.getfield 54, 3) := by decide +kernel
theorem dX13_worthWith_99 : decode cX13_worthWith 99 = .ok (.ifCond .eq 6, 3) := by decide +kernel
theorem dX13_worthWith_102 : decode cX13_worthWith 102 = .ok (.goto 62, 3) := by decide +kernel
theorem dX13_worthWith_105 : decode cX13_worthWith 105 = .ok (.lload 4, 2) := by decide +kernel
theorem dX13_worthWith_107 : decode cX13_worthWith 107 = .ok (.aload_n 0, 1) := by decide +kernel
theorem dX13_worthWith_108 : decode cX13_worthWith 108 = .ok (.iload 6, 2) := by decide +kernel
theorem dX13_worthWith_110 : decode cX13_worthWith 110 = .ok (.iload_n 1, 1) := by decide +kernel
theorem dX13_worthWith_111 : decode cX13_worthWith 111 = .ok (.invokevirtual 119, 3) := by decide +kernel
theorem dX13_worthWith_114 : decode cX13_worthWith 114 = .ok (.i2l, 1) := by decide +kernel
theorem dX13_worthWith_115 : decode cX13_worthWith 115 = .ok (.ladd, 1) := by decide +kernel
theorem dX13_worthWith_116 : decode cX13_worthWith 116 = .ok (.lstore 4, 2) := by decide +kernel
theorem dX13_worthWith_118 : decode cX13_worthWith 118 = .ok (.aload_n 0, 1) := by decide +kernel
theorem dX13_worthWith_119 : decode cX13_worthWith 119 = .ok (.iload 6, 2) := by decide +kernel
theorem dX13_worthWith_121 : decode cX13_worthWith 121 = .ok (.invokevirtual 128, 3) := by decide +kernel
theorem dX13_worthWith_124 : decode cX13_worthWith 124 = .ok (.invokeinterface 76 1, 5) := by decide +kernel
theorem dX13_worthWith_129 : decode cX13_worthWith 129 = .ok (.astore 7, 2) := by decide +kernel
theorem dX13_worthWith_131 : decode cX13_worthWith 131 = .ok (.aload 7, 2) := by decide +kernel
theorem dX13_worthWith_133 : decode cX13_worthWith 133 = .ok (.invokeinterface 80 1, 5) := by decide +kernel
theorem dX13_worthWith_138 : decode cX13_worthWith 138 = .ok (.ifCond .eq 26, 3) := by decide +kernel
theorem dX13_worthWith_141 : decode cX13_worthWith 141 = .ok (.aload 7, 2) := by decide +kernel
theorem dX13_worthWith_143 : decode cX13_worthWith 143 = .ok (.invokeinterface 86 1, 5) := by decide +kernel
theorem dX13_worthWith_148 : decode cX13_worthWith 148 = .ok (.checkcast 123, 3) := by decide +kernel
theorem dX13_worthWith_151 : decode cX13_worthWith 151 = .ok (.invokevirtual 132, 3) := by decide +kernel
theorem dX13_worthWith_154 : decode cX13_worthWith 154 = .ok (.istore 8, 2) := by decide +kernel
theorem dX13_worthWith_156 : decode cX13_worthWith 156 = .ok (.aload_n 3, 1) := by decide +kernel
theorem dX13_worthWith_157 : decode cX13_worthWith 157 = .ok (.iload 8, 2) := by decide +kernel
theorem dX13_worthWith_159 : decode cX13_worthWith 159 = .ok (.iconst 1, 1) := by decide +kernel
theorem dX13_worthWith_160 : decode cX13_worthWith 160 = .ok (.bastore, 1) := by decide +kernel
theorem dX13_worthWith_161 : decode cX13_worthWith 161 = .ok (.goto (-30), 3) := by decide +kernel
theorem dX13_worthWith_164 : decode cX13_worthWith 164 = .ok (.iinc 6 (-1), 3) := by decide +kernel
theorem dX13_worthWith_167 : decode cX13_worthWith 167 = .ok (.goto (-97), 3) := by decide +kernel
theorem dX13_worthWith_170 : decode cX13_worthWith 170 = .ok (.lload 4, 2) := by decide +kernel
theorem dX13_worthWith_172 : decode cX13_worthWith 172 = .ok (.lreturn, 1) := by decide +kernel
theorem dX13_phase_0 : decode cX13_phase 0 = .ok (.iload_n 1, 1) := by decide +kernel
theorem dX13_phase_1 : decode cX13_phase 1 = .ok (.invokestatic 116, 3) := by decide +kernel
theorem dX13_phase_4 : decode cX13_phase 4 = .ok (.ifCond .eq 49, 3) := by decide +kernel
theorem dX13_phase_7 : decode cX13_phase 7 = .ok (.aload_n 0, 1) := by decide +kernel
theorem dX13_phase_8 : decode cX13_phase 8 = .ok (.getfield 27, 3) := by decide +kernel
theorem dX13_phase_11 : decode cX13_phase 11 = .ok (.invokeinterface 96 1, 5) := by decide +kernel
theorem dX13_phase_16 : decode cX13_phase 16 = .ok (.ifCond .ne 33, 3) := by decide +kernel
theorem dX13_phase_19 : decode cX13_phase 19 = .ok (.iload_n 1, 1) := by decide +kernel
theorem dX13_phase_20 : decode cX13_phase 20 = .ok (.aload_n 0, 1) := by decide +kernel
theorem dX13_phase_21 : decode cX13_phase 21 = .ok (.getfield 27, 3) := by decide +kernel
theorem dX13_phase_24 : decode cX13_phase 24 = .ok (.aload_n 0, 1) := by decide +kernel
theorem dX13_phase_25 : decode cX13_phase 25 = .ok (.getfield 27, 3) := by decide +kernel
theorem dX13_phase_28 : decode cX13_phase 28 = .ok (.invokeinterface 64 1, 5) := by decide +kernel
theorem dX13_phase_33 : decode cX13_phase 33 = .ok (.iconst 1, 1) := by decide +kernel
theorem dX13_phase_34 : decode cX13_phase 34 = .ok (.isub, 1) := by decide +kernel
theorem dX13_phase_35 : decode cX13_phase 35 = .ok (.invokeinterface 50 2, 5) := by decide +kernel
theorem dX13_phase_40 : decode cX13_phase 40 = .ok (.checkcast 123, 3) := by decide +kernel
theorem dX13_phase_43 : decode cX13_phase 43 = .ok (.invokevirtual 132, 3) := by decide +kernel
theorem dX13_phase_46 : decode cX13_phase 46 = .ok (.if_icmp .le 7, 3) := by decide +kernel
theorem dX13_phase_49 : decode cX13_phase 49 = .ok (.iconst 1, 1) := by decide +kernel
theorem dX13_phase_50 : decode cX13_phase 50 = .ok (.goto 4, 3) := by decide +kernel
theorem dX13_phase_53 : decode cX13_phase 53 = .ok (.iconst 0, 1) := by decide +kernel
theorem dX13_phase_54 : decode cX13_phase 54 = .ok (.istore_n 2, 1) := by decide +kernel
theorem dX13_phase_55 : decode cX13_phase 55 = .ok (.aload_n 0, 1) := by decide +kernel
theorem dX13_phase_56 : decode cX13_phase 56 = .ok (.iload_n 2, 1) := by decide +kernel
theorem dX13_phase_57 : decode cX13_phase 57 = .ok (.ifCond .ne 7, 3) := by decide +kernel
theorem dX13_phase_60 : decode cX13_phase 60 = .ok (.iconst 1, 1) := by decide +kernel
theorem dX13_phase_61 : decode cX13_phase 61 = .ok (.goto 21, 3) := by decide +kernel
theorem dX13_phase_64 : decode cX13_phase 64 = .ok (.aload_n 0, 1) := by decide +kernel
theorem dX13_phase_65 : decode cX13_phase 65 = .ok (.getfield 27, 3) := by decide +kernel
theorem dX13_phase_68 : decode cX13_phase 68 = .ok (.invokeinterface 64 1, 5) := by decide +kernel
theorem dX13_phase_73 : decode cX13_phase 73 = .ok (.iconst 4, 1) := by decide +kernel
theorem dX13_phase_74 : decode cX13_phase 74 = .ok (.if_icmp .ne 7, 3) := by decide +kernel
theorem dX13_phase_77 : decode cX13_phase 77 = .ok (.iconst 2, 1) := by decide +kernel
theorem dX13_phase_78 : decode cX13_phase 78 = .ok (.goto 4, 3) := by decide +kernel
theorem dX13_phase_81 : decode cX13_phase 81 = .ok (.iconst 0, 1) := by decide +kernel
theorem dX13_phase_82 : decode cX13_phase 82 = .ok (.invokevirtual 58, 3) := by decide +kernel
theorem dX13_phase_85 : decode cX13_phase 85 = .ok (.ifCond .eq 5, 3) := by decide +kernel
theorem dX13_phase_88 : decode cX13_phase 88 = .ok (.iconst 0, 1) := by decide +kernel
theorem dX13_phase_89 : decode cX13_phase 89 = .ok (.ireturn, 1) := by decide +kernel
theorem dX13_phase_90 : decode cX13_phase 90 = .ok (.aload_n 0, 1) := by decide +kernel
theorem dX13_phase_91 : decode cX13_phase 91 = .ok (.getfield 27, 3) := by decide +kernel
theorem dX13_phase_94 : decode cX13_phase 94 = .ok (.iload_n 1, 1) := by decide +kernel
theorem dX13_phase_95 : decode cX13_phase 95 = .ok (.invokestatic 122, 3) := by decide +kernel
theorem dX13_phase_98 : decode cX13_phase 98 = .ok (.invokeinterface 40 2, 5) := by decide +kernel
theorem dX13_phase_103 : decode cX13_phase 103 = .ok (.pop, 1) := by decide +kernel
theorem dX13_phase_104 : decode cX13_phase 104 = .ok (.aload_n 0, 1) := by decide +kernel
theorem dX13_phase_105 : decode cX13_phase 105 = .ok (.getfield 27, 3) := by decide +kernel
theorem dX13_phase_108 : decode cX13_phase 108 = .ok (.invokeinterface 64 1, 5) := by decide +kernel
theorem dX13_phase_113 : decode cX13_phase 113 = .ok (.ireturn, 1) := by decide +kernel
theorem dX13_clearPhases_0 : decode cX13_clearPhases 0 = .ok (.aload_n 0, 1) := by decide +kernel
theorem dX13_clearPhases_1 : decode cX13_clearPhases 1 = .ok (.iconst 0, 1) := by decide +kernel
theorem dX13_clearPhases_2 : decode cX13_clearPhases 2 = .ok (.putfield 1, 3) := by decide +kernel
theorem dX13_clearPhases_5 : decode cX13_clearPhases 5 = .ok (.aload_n 0, 1) := by decide +kernel
theorem dX13_clearPhases_6 : decode cX13_clearPhases 6 = .ok (.getfield 27, 3) := by decide +kernel
theorem dX13_clearPhases_9 : decode cX13_clearPhases 9 = .ok (.invokeinterface 64 1, 5) := by decide +kernel
theorem dX13_clearPhases_14 : decode cX13_clearPhases 14 = .ok (.istore_n 1, 1) := by decide +kernel
theorem dX13_clearPhases_15 : decode cX13_clearPhases 15 = .ok (.aload_n 0, 1) := by decide +kernel
theorem dX13_clearPhases_16 : decode cX13_clearPhases 16 = .ok (.getfield 27, 3) := by decide +kernel
theorem dX13_clearPhases_19 : decode cX13_clearPhases 19 = .ok (.invokeinterface 146 1, 5) := by decide +kernel
theorem dX13_clearPhases_24 : decode cX13_clearPhases 24 = .ok (.iload_n 1, 1) := by decide +kernel
theorem dX13_clearPhases_25 : decode cX13_clearPhases 25 = .ok (.ireturn, 1) := by decide +kernel
theorem dX13_phasesNow_0 : decode cX13_phasesNow 0 = .ok (.bipush 60, 2) := by decide +kernel
theorem dX13_phasesNow_2 : decode cX13_phasesNow 2 = .ok (.newarray .int, 2) := by decide +kernel
theorem dX13_phasesNow_4 : decode cX13_phasesNow 4 = .ok (.astore_n 1, 1) := by decide +kernel
theorem dX13_phasesNow_5 : decode cX13_phasesNow 5 = .ok (.aload_n 1, 1) := by decide +kernel
theorem dX13_phasesNow_6 : decode cX13_phasesNow 6 = .ok (.iconst (-1), 1) := by decide +kernel
theorem dX13_phasesNow_7 : decode cX13_phasesNow 7 = .ok (.invokestatic 149, 3) := by decide +kernel
theorem dX13_phasesNow_10 : decode cX13_phasesNow 10 = .ok (.aload_n 0, 1) := by decide +kernel
theorem dX13_phasesNow_11 : decode cX13_phasesNow 11 = .ok (.getfield 27, 3) := by decide +kernel
theorem dX13_phasesNow_14 : decode cX13_phasesNow 14 = .ok (.invokeinterface 64 1, 5) := by decide +kernel
theorem dX13_phasesNow_19 : decode cX13_phasesNow 19 = .ok (.iconst 1, 1) := by decide +kernel
theorem dX13_phasesNow_20 : decode cX13_phasesNow 20 = .ok (.isub, 1) := by decide +kernel
theorem dX13_phasesNow_21 : decode cX13_phasesNow 21 = .ok (.istore_n 2, 1) := by decide +kernel
theorem dX13_phasesNow_22 : decode cX13_phasesNow 22 = .ok (.iload_n 2, 1) := by decide +kernel
theorem dX13_phasesNow_23 : decode cX13_phasesNow 23 = .ok (.ifCond .lt 71, 3) := by decide +kernel
theorem dX13_phasesNow_26 : decode cX13_phasesNow 26 = .ok (.new 138, 3) := by decide +kernel
theorem dX13_phasesNow_29 : decode cX13_phasesNow 29 = .ok (.dup, 1) := by decide +kernel
theorem dX13_phasesNow_30 : decode cX13_phasesNow 30 = .ok (.aload_n 0, 1) := by decide +kernel
theorem dX13_phasesNow_31 : decode cX13_phasesNow 31 = .ok (.aload_n 0, 1) := by decide +kernel
theorem dX13_phasesNow_32 : decode cX13_phasesNow 32 = .ok (.getfield 27, 3) := by decide +kernel
theorem dX13_phasesNow_35 : decode cX13_phasesNow 35 = .ok (.iload_n 2, 1) := by decide +kernel
theorem dX13_phasesNow_36 : decode cX13_phasesNow 36 = .ok (.invokeinterface 50 2, 5) := by decide +kernel
theorem dX13_phasesNow_41 : decode cX13_phasesNow 41 = .ok (.checkcast 123, 3) := by decide +kernel
theorem dX13_phasesNow_44 : decode cX13_phasesNow 44 = .ok (.invokevirtual 132, 3) := by decide +kernel
theorem dX13_phasesNow_47 : decode cX13_phasesNow 47 = .ok (.invokespecial 140, 3) := by decide +kernel
theorem dX13_phasesNow_50 : decode cX13_phasesNow 50 = .ok (.astore_n 3, 1) := by decide +kernel
theorem dX13_phasesNow_51 : decode cX13_phasesNow 51 = .ok (.iconst 0, 1) := by decide +kernel
theorem dX13_phasesNow_52 : decode cX13_phasesNow 52 = .ok (.istore 4, 2) := by decide +kernel
theorem dX13_phasesNow_54 : decode cX13_phasesNow 54 = .ok (.iload 4, 2) := by decide +kernel
theorem dX13_phasesNow_56 : decode cX13_phasesNow 56 = .ok (.bipush 60, 2) := by decide +kernel
theorem dX13_phasesNow_58 : decode cX13_phasesNow 58 = .ok (.if_icmp .ge 30, 3) := by decide +kernel
theorem dX13_phasesNow_61 : decode cX13_phasesNow 61 = .ok (.aload_n 1, 1) := by decide +kernel
theorem dX13_phasesNow_62 : decode cX13_phasesNow 62 = .ok (.iload 4, 2) := by decide +kernel
theorem dX13_phasesNow_64 : decode cX13_phasesNow 64 = .ok (.aload_n 3, 1) := by decide +kernel
theorem dX13_phasesNow_65 : decode cX13_phasesNow 65 = .ok (.iload 4, 2) := by decide +kernel
theorem dX13_phasesNow_67 : decode cX13_phasesNow 67 = .ok (.invokevirtual 143, 3) := by decide +kernel
theorem dX13_phasesNow_70 : decode cX13_phasesNow 70 = .ok (.ifCond .eq 7, 3) := by decide +kernel
theorem dX13_phasesNow_73 : decode cX13_phasesNow 73 = .ok (.iload_n 2, 1) := by decide +kernel
theorem dX13_phasesNow_74 : decode cX13_phasesNow 74 = .ok (.goto 7, 3) := by decide +kernel
theorem dX13_phasesNow_77 : decode cX13_phasesNow 77 = .ok (.aload_n 1, 1) := by decide +kernel
theorem dX13_phasesNow_78 : decode cX13_phasesNow 78 = .ok (.iload 4, 2) := by decide +kernel
theorem dX13_phasesNow_80 : decode cX13_phasesNow 80 = .ok (.iaload, 1) := by decide +kernel
theorem dX13_phasesNow_81 : decode cX13_phasesNow 81 = .ok (.iastore, 1) := by decide +kernel
theorem dX13_phasesNow_82 : decode cX13_phasesNow 82 = .ok (.iinc 4 1, 3) := by decide +kernel
theorem dX13_phasesNow_85 : decode cX13_phasesNow 85 = .ok (.goto (-31), 3) := by decide +kernel
theorem dX13_phasesNow_88 : decode cX13_phasesNow 88 = .ok (.iinc 2 (-1), 3) := by decide +kernel
theorem dX13_phasesNow_91 : decode cX13_phasesNow 91 = .ok (.goto (-69), 3) := by decide +kernel
theorem dX13_phasesNow_94 : decode cX13_phasesNow 94 = .ok (.aload_n 1, 1) := by decide +kernel
theorem dX13_phasesNow_95 : decode cX13_phasesNow 95 = .ok (.areturn, 1) := by decide +kernel
theorem dX13_phaseOf_0 : decode cX13_phaseOf 0 = .ok (.aload_n 0, 1) := by decide +kernel
theorem dX13_phaseOf_1 : decode cX13_phaseOf 1 = .ok (.iload_n 1, 1) := by decide +kernel
theorem dX13_phaseOf_2 : decode cX13_phaseOf 2 = .ok (.invokestatic 46, 3) := by decide +kernel
theorem dX13_phaseOf_5 : decode cX13_phaseOf 5 = .ok (.ifCond .eq 7, 3) := by decide +kernel
theorem dX13_phaseOf_8 : decode cX13_phaseOf 8 = .ok (.iconst 0, 1) := by decide +kernel
theorem dX13_phaseOf_9 : decode cX13_phaseOf 9 = .ok (.goto 4, 3) := by decide +kernel
theorem dX13_phaseOf_12 : decode cX13_phaseOf 12 = .ok (.iconst 1, 1) := by decide +kernel
theorem dX13_phaseOf_13 : decode cX13_phaseOf 13 = .ok (.invokevirtual 58, 3) := by decide +kernel
theorem dX13_phaseOf_16 : decode cX13_phaseOf 16 = .ok (.ifCond .eq 7, 3) := by decide +kernel
theorem dX13_phaseOf_19 : decode cX13_phaseOf 19 = .ok (.iconst 0, 1) := by decide +kernel
theorem dX13_phaseOf_20 : decode cX13_phaseOf 20 = .ok (.goto 9, 3) := by decide +kernel
theorem dX13_phaseOf_23 : decode cX13_phaseOf 23 = .ok (.aload_n 0, 1) := by decide +kernel
theorem dX13_phaseOf_24 : decode cX13_phaseOf 24 = .ok (.invokevirtual 155, 3) := by decide +kernel
theorem dX13_phaseOf_27 : decode cX13_phaseOf 27 = .ok (.iload_n 1, 1) := by decide +kernel
theorem dX13_phaseOf_28 : decode cX13_phaseOf 28 = .ok (.iaload, 1) := by decide +kernel
theorem dX13_phaseOf_29 : decode cX13_phaseOf 29 = .ok (.ireturn, 1) := by decide +kernel
theorem dX13_set_0 : decode cX13_set 0 = .ok (.ldc 159, 2) := by decide +kernel
theorem dX13_set_2 : decode cX13_set 2 = .ok (.iload_n 1, 1) := by decide +kernel
theorem dX13_set_3 : decode cX13_set 3 = .ok (.invokevirtual 161, 3) := by decide +kernel
theorem dX13_set_6 : decode cX13_set 6 = .ok (.istore_n 3, 1) := by decide +kernel
theorem dX13_set_7 : decode cX13_set 7 = .ok (.aload_n 0, 1) := by decide +kernel
theorem dX13_set_8 : decode cX13_set 8 = .ok (.iload_n 3, 1) := by decide +kernel
theorem dX13_set_9 : decode cX13_set 9 = .ok (.ifCond .lt 16, 3) := by decide +kernel
theorem dX13_set_12 : decode cX13_set 12 = .ok (.iload_n 2, 1) := by decide +kernel
theorem dX13_set_13 : decode cX13_set 13 = .ok (.iconst 0, 1) := by decide +kernel
theorem dX13_set_14 : decode cX13_set 14 = .ok (.getstatic 166, 3) := by decide +kernel
theorem dX13_set_17 : decode cX13_set 17 = .ok (.iload_n 3, 1) := by decide +kernel
theorem dX13_set_18 : decode cX13_set 18 = .ok (.iaload, 1) := by decide +kernel
theorem dX13_set_19 : decode cX13_set 19 = .ok (.invokestatic 7, 3) := by decide +kernel
theorem dX13_set_22 : decode cX13_set 22 = .ok (.ifCond .ne 7, 3) := by decide +kernel
theorem dX13_set_25 : decode cX13_set 25 = .ok (.iconst 1, 1) := by decide +kernel
theorem dX13_set_26 : decode cX13_set 26 = .ok (.goto 4, 3) := by decide +kernel
theorem dX13_set_29 : decode cX13_set 29 = .ok (.iconst 0, 1) := by decide +kernel
theorem dX13_set_30 : decode cX13_set 30 = .ok (.invokevirtual 58, 3) := by decide +kernel
theorem dX13_set_33 : decode cX13_set 33 = .ok (.ifCond .eq 5, 3) := by decide +kernel
theorem dX13_set_36 : decode cX13_set 36 = .ok (.iconst 0, 1) := by decide +kernel
theorem dX13_set_37 : decode cX13_set 37 = .ok (.ireturn, 1) := by decide +kernel
theorem dX13_set_38 : decode cX13_set 38 = .ok (.aload_n 0, 1) := by decide +kernel
theorem dX13_set_39 : decode cX13_set 39 = .ok (.getfield 33, 3) := by decide +kernel
theorem dX13_set_42 : decode cX13_set 42 = .ok (.iload_n 3, 1) := by decide +kernel
theorem dX13_set_43 : decode cX13_set 43 = .ok (.iaload, 1) := by decide +kernel
theorem dX13_set_44 : decode cX13_set 44 = .ok (.istore 4, 2) := by decide +kernel
theorem dX13_set_46 : decode cX13_set 46 = .ok (.aload_n 0, 1) := by decide +kernel
theorem dX13_set_47 : decode cX13_set 47 = .ok (.getfield 33, 3) := by decide +kernel
theorem dX13_set_50 : decode cX13_set 50 = .ok (.iload_n 3, 1) := by decide +kernel
theorem dX13_set_51 : decode cX13_set 51 = .ok (.iload_n 2, 1) := by decide +kernel
theorem dX13_set_52 : decode cX13_set 52 = .ok (.iastore, 1) := by decide +kernel
theorem dX13_set_53 : decode cX13_set 53 = .ok (.iload 4, 2) := by decide +kernel
theorem dX13_set_55 : decode cX13_set 55 = .ok (.ireturn, 1) := by decide +kernel
theorem dX13_toldOf_0 : decode cX13_toldOf 0 = .ok (.aload_n 0, 1) := by decide +kernel
theorem dX13_toldOf_1 : decode cX13_toldOf 1 = .ok (.getfield 33, 3) := by decide +kernel
theorem dX13_toldOf_4 : decode cX13_toldOf 4 = .ok (.ldc 159, 2) := by decide +kernel
theorem dX13_toldOf_6 : decode cX13_toldOf 6 = .ok (.iload_n 1, 1) := by decide +kernel
theorem dX13_toldOf_7 : decode cX13_toldOf 7 = .ok (.invokevirtual 161, 3) := by decide +kernel
theorem dX13_toldOf_10 : decode cX13_toldOf 10 = .ok (.iaload, 1) := by decide +kernel
theorem dX13_toldOf_11 : decode cX13_toldOf 11 = .ok (.ireturn, 1) := by decide +kernel
theorem dX13_mix_0 : decode cX13_mix 0 = .ok (.aload_n 0, 1) := by decide +kernel
theorem dX13_mix_1 : decode cX13_mix 1 = .ok (.iconst 0, 1) := by decide +kernel
theorem dX13_mix_2 : decode cX13_mix 2 = .ok (.putfield 1, 3) := by decide +kernel
theorem dX13_mix_5 : decode cX13_mix 5 = .ok (.aload_n 0, 1) := by decide +kernel
theorem dX13_mix_6 : decode cX13_mix 6 = .ok (.getfield 169, 3) := by decide +kernel
theorem dX13_mix_9 : decode cX13_mix 9 = .ok (.istore_n 2, 1) := by decide +kernel
theorem dX13_mix_10 : decode cX13_mix 10 = .ok (.aload_n 0, 1) := by decide +kernel
theorem dX13_mix_11 : decode cX13_mix 11 = .ok (.iload_n 1, 1) := by decide +kernel
theorem dX13_mix_12 : decode cX13_mix 12 = .ok (.putfield 169, 3) := by decide +kernel
theorem dX13_mix_15 : decode cX13_mix 15 = .ok (.iload_n 2, 1) := by decide +kernel
theorem dX13_mix_16 : decode cX13_mix 16 = .ok (.ireturn, 1) := by decide +kernel
theorem dX13_flooded_0 : decode cX13_flooded 0 = .ok (.iconst (-1), 1) := by decide +kernel
theorem dX13_flooded_1 : decode cX13_flooded 1 = .ok (.istore_n 1, 1) := by decide +kernel
theorem dX13_flooded_2 : decode cX13_flooded 2 = .ok (.iconst 0, 1) := by decide +kernel
theorem dX13_flooded_3 : decode cX13_flooded 3 = .ok (.istore_n 2, 1) := by decide +kernel
theorem dX13_flooded_4 : decode cX13_flooded 4 = .ok (.iload_n 2, 1) := by decide +kernel
theorem dX13_flooded_5 : decode cX13_flooded 5 = .ok (.bipush 60, 2) := by decide +kernel
theorem dX13_flooded_7 : decode cX13_flooded 7 = .ok (.if_icmp .ge 37, 3) := by decide +kernel
theorem dX13_flooded_10 : decode cX13_flooded 10 = .ok (.aload_n 0, 1) := by decide +kernel
theorem dX13_flooded_11 : decode cX13_flooded 11 = .ok (.getfield 20, 3) := by decide +kernel
theorem dX13_flooded_14 : decode cX13_flooded 14 = .ok (.iload_n 2, 1) := by decide +kernel
theorem dX13_flooded_15 : decode cX13_flooded 15 = .ok (.invokeinterface 50 2, 5) := by decide +kernel
theorem dX13_flooded_20 : decode cX13_flooded 20 = .ok (.checkcast 37, 3) := by decide +kernel
theorem dX13_flooded_23 : decode cX13_flooded 23 = .ok (.getfield 54, 3) := by decide +kernel
theorem dX13_flooded_26 : decode cX13_flooded 26 = .ok (.ifCond .eq 10, 3) := by decide +kernel
theorem dX13_flooded_29 : decode cX13_flooded 29 = .ok (.iload_n 2, 1) := by decide +kernel
theorem dX13_flooded_30 : decode cX13_flooded 30 = .ok (.bipush 10, 2) := by decide +kernel
theorem dX13_flooded_32 : decode cX13_flooded 32 = .ok (.idiv, 1) := by decide +kernel
theorem dX13_flooded_33 : decode cX13_flooded 33 = .ok (.goto 4, 3) := by decide +kernel
theorem dX13_flooded_36 : decode cX13_flooded 36 = .ok (.iload_n 1, 1) := by decide +kernel
theorem dX13_flooded_37 : decode cX13_flooded 37 = .ok (.istore_n 1, 1) := by decide +kernel
theorem dX13_flooded_38 : decode cX13_flooded 38 = .ok (.iinc 2 1, 3) := by decide +kernel
theorem dX13_flooded_41 : decode cX13_flooded 41 = .ok (.goto (-37), 3) := by decide +kernel
theorem dX13_flooded_44 : decode cX13_flooded 44 = .ok (.aload_n 0, 1) := by decide +kernel
theorem dX13_flooded_45 : decode cX13_flooded 45 = .ok (.getfield 172, 3) := by decide +kernel
theorem dX13_flooded_48 : decode cX13_flooded 48 = .ok (.bipush 50, 2) := by decide +kernel
theorem dX13_flooded_50 : decode cX13_flooded 50 = .ok (.if_icmp .le 15, 3) := by decide +kernel
theorem dX13_flooded_53 : decode cX13_flooded 53 = .ok (.iload_n 1, 1) := by decide +kernel
theorem dX13_flooded_54 : decode cX13_flooded 54 = .ok (.ifCond .lt 11, 3) := by decide +kernel
theorem dX13_flooded_57 : decode cX13_flooded 57 = .ok (.iconst 1, 1) := by decide +kernel
theorem dX13_flooded_58 : decode cX13_flooded 58 = .ok (.iload_n 1, 1) := by decide +kernel
theorem dX13_flooded_59 : decode cX13_flooded 59 = .ok (.invokestatic 109, 3) := by decide +kernel
theorem dX13_flooded_62 : decode cX13_flooded 62 = .ok (.goto 5, 3) := by decide +kernel
theorem dX13_flooded_65 : decode cX13_flooded 65 = .ok (.bipush 6, 2) := by decide +kernel
theorem dX13_flooded_67 : decode cX13_flooded 67 = .ok (.ireturn, 1) := by decide +kernel
theorem dX13_next_0 : decode cX13_next 0 = .ok (.iconst (-1), 1) := by decide +kernel
theorem dX13_next_1 : decode cX13_next 1 = .ok (.istore_n 3, 1) := by decide +kernel
theorem dX13_next_2 : decode cX13_next 2 = .ok (.iconst 0, 1) := by decide +kernel
theorem dX13_next_3 : decode cX13_next 3 = .ok (.istore 4, 2) := by decide +kernel
theorem dX13_next_5 : decode cX13_next 5 = .ok (.iload 4, 2) := by decide +kernel
theorem dX13_next_7 : decode cX13_next 7 = .ok (.bipush 60, 2) := by decide +kernel
theorem dX13_next_9 : decode cX13_next 9 = .ok (.if_icmp .ge 56, 3) := by decide +kernel
theorem dX13_next_12 : decode cX13_next 12 = .ok (.aload_n 2, 1) := by decide +kernel
theorem dX13_next_13 : decode cX13_next 13 = .ok (.iload 4, 2) := by decide +kernel
theorem dX13_next_15 : decode cX13_next 15 = .ok (.iaload, 1) := by decide +kernel
theorem dX13_next_16 : decode cX13_next 16 = .ok (.iconst (-1), 1) := by decide +kernel
theorem dX13_next_17 : decode cX13_next 17 = .ok (.if_icmp .eq 42, 3) := by decide +kernel
theorem dX13_next_20 : decode cX13_next 20 = .ok (.iload 4, 2) := by decide +kernel
theorem dX13_next_22 : decode cX13_next 22 = .ok (.bipush 10, 2) := by decide +kernel
theorem dX13_next_24 : decode cX13_next 24 = .ok (.idiv, 1) := by decide +kernel
theorem dX13_next_25 : decode cX13_next 25 = .ok (.iload_n 1, 1) := by decide +kernel
theorem dX13_next_26 : decode cX13_next 26 = .ok (.if_icmp .ge 33, 3) := by decide +kernel
theorem dX13_next_29 : decode cX13_next 29 = .ok (.aload_n 0, 1) := by decide +kernel
theorem dX13_next_30 : decode cX13_next 30 = .ok (.iload 4, 2) := by decide +kernel
theorem dX13_next_32 : decode cX13_next 32 = .ok (.invokevirtual 135, 3) := by decide +kernel
theorem dX13_next_35 : decode cX13_next 35 = .ok (.ifCond .ne 6, 3) := by decide +kernel
theorem dX13_next_38 : decode cX13_next 38 = .ok (.goto 21, 3) := by decide +kernel
theorem dX13_next_41 : decode cX13_next 41 = .ok (.iload_n 3, 1) := by decide +kernel
theorem dX13_next_42 : decode cX13_next 42 = .ok (.iconst (-1), 1) := by decide +kernel
theorem dX13_next_43 : decode cX13_next 43 = .ok (.if_icmp .eq 13, 3) := by decide +kernel
theorem dX13_next_46 : decode cX13_next 46 = .ok (.aload_n 2, 1) := by decide +kernel
theorem dX13_next_47 : decode cX13_next 47 = .ok (.iload 4, 2) := by decide +kernel
theorem dX13_next_49 : decode cX13_next 49 = .ok (.iaload, 1) := by decide +kernel
theorem dX13_next_50 : decode cX13_next 50 = .ok (.aload_n 2, 1) := by decide +kernel
theorem dX13_next_51 : decode cX13_next 51 = .ok (.iload_n 3, 1) := by decide +kernel
theorem dX13_next_52 : decode cX13_next 52 = .ok (.iaload, 1) := by decide +kernel
theorem dX13_next_53 : decode cX13_next 53 = .ok (.if_icmp .ge 6, 3) := by decide +kernel
theorem dX13_next_56 : decode cX13_next 56 = .ok (.iload 4, 2) := by decide +kernel
theorem dX13_next_58 : decode cX13_next 58 = .ok (.istore_n 3, 1) := by decide +kernel
theorem dX13_next_59 : decode cX13_next 59 = .ok (.iinc 4 1, 3) := by decide +kernel
theorem dX13_next_62 : decode cX13_next 62 = .ok (.goto (-57), 3) := by decide +kernel
theorem dX13_next_65 : decode cX13_next 65 = .ok (.iload_n 3, 1) := by decide +kernel
theorem dX13_next_66 : decode cX13_next 66 = .ok (.ireturn, 1) := by decide +kernel
theorem dX13_aWeek_0 : decode cX13_aWeek 0 = .ok (.aload_n 0, 1) := by decide +kernel
theorem dX13_aWeek_1 : decode cX13_aWeek 1 = .ok (.invokevirtual 155, 3) := by decide +kernel
theorem dX13_aWeek_4 : decode cX13_aWeek 4 = .ok (.astore_n 1, 1) := by decide +kernel
theorem dX13_aWeek_5 : decode cX13_aWeek 5 = .ok (.aload_n 0, 1) := by decide +kernel
theorem dX13_aWeek_6 : decode cX13_aWeek 6 = .ok (.invokevirtual 175, 3) := by decide +kernel
theorem dX13_aWeek_9 : decode cX13_aWeek 9 = .ok (.istore_n 2, 1) := by decide +kernel
theorem dX13_aWeek_10 : decode cX13_aWeek 10 = .ok (.new 17, 3) := by decide +kernel
theorem dX13_aWeek_13 : decode cX13_aWeek 13 = .ok (.dup, 1) := by decide +kernel
theorem dX13_aWeek_14 : decode cX13_aWeek 14 = .ok (.invokespecial 19, 3) := by decide +kernel
theorem dX13_aWeek_17 : decode cX13_aWeek 17 = .ok (.astore_n 3, 1) := by decide +kernel
theorem dX13_aWeek_18 : decode cX13_aWeek 18 = .ok (.aload_n 0, 1) := by decide +kernel
theorem dX13_aWeek_19 : decode cX13_aWeek 19 = .ok (.bipush 112, 2) := by decide +kernel
theorem dX13_aWeek_21 : decode cX13_aWeek 21 = .ok (.invokevirtual 178, 3) := by decide +kernel
theorem dX13_aWeek_24 : decode cX13_aWeek 24 = .ok (.istore 4, 2) := by decide +kernel
theorem dX13_aWeek_26 : decode cX13_aWeek 26 = .ok (.iconst 0, 1) := by decide +kernel
theorem dX13_aWeek_27 : decode cX13_aWeek 27 = .ok (.istore 5, 2) := by decide +kernel
theorem dX13_aWeek_29 : decode cX13_aWeek 29 = .ok (.iload 5, 2) := by decide +kernel
theorem dX13_aWeek_31 : decode cX13_aWeek 31 = .ok (.aload_n 0, 1) := by decide +kernel
theorem dX13_aWeek_32 : decode cX13_aWeek 32 = .ok (.bipush 115, 2) := by decide +kernel
theorem dX13_aWeek_34 : decode cX13_aWeek 34 = .ok (.invokevirtual 178, 3) := by decide +kernel
theorem dX13_aWeek_37 : decode cX13_aWeek 37 = .ok (.if_icmp .ge 35, 3) := by decide +kernel
theorem dX13_aWeek_40 : decode cX13_aWeek 40 = .ok (.aload_n 0, 1) := by decide +kernel
theorem dX13_aWeek_41 : decode cX13_aWeek 41 = .ok (.iload_n 2, 1) := by decide +kernel
theorem dX13_aWeek_42 : decode cX13_aWeek 42 = .ok (.aload_n 1, 1) := by decide +kernel
theorem dX13_aWeek_43 : decode cX13_aWeek 43 = .ok (.invokevirtual 182, 3) := by decide +kernel
theorem dX13_aWeek_46 : decode cX13_aWeek 46 = .ok (.istore 6, 2) := by decide +kernel
theorem dX13_aWeek_48 : decode cX13_aWeek 48 = .ok (.iload 6, 2) := by decide +kernel
theorem dX13_aWeek_50 : decode cX13_aWeek 50 = .ok (.iconst (-1), 1) := by decide +kernel
theorem dX13_aWeek_51 : decode cX13_aWeek 51 = .ok (.if_icmp .ne 6, 3) := by decide +kernel
theorem dX13_aWeek_54 : decode cX13_aWeek 54 = .ok (.goto 18, 3) := by decide +kernel
theorem dX13_aWeek_57 : decode cX13_aWeek 57 = .ok (.aload_n 0, 1) := by decide +kernel
theorem dX13_aWeek_58 : decode cX13_aWeek 58 = .ok (.iload 6, 2) := by decide +kernel
theorem dX13_aWeek_60 : decode cX13_aWeek 60 = .ok (.aload_n 3, 1) := by decide +kernel
theorem dX13_aWeek_61 : decode cX13_aWeek 61 = .ok (.iload 4, 2) := by decide +kernel
theorem dX13_aWeek_63 : decode cX13_aWeek 63 = .ok (.invokevirtual 185, 3) := by decide +kernel
theorem dX13_aWeek_66 : decode cX13_aWeek 66 = .ok (.iinc 5 1, 3) := by decide +kernel
theorem dX13_aWeek_69 : decode cX13_aWeek 69 = .ok (.goto (-40), 3) := by decide +kernel
theorem dX13_aWeek_72 : decode cX13_aWeek 72 = .ok (.aload_n 3, 1) := by decide +kernel
theorem dX13_aWeek_73 : decode cX13_aWeek 73 = .ok (.invokeinterface 64 1, 5) := by decide +kernel
theorem dX13_aWeek_78 : decode cX13_aWeek 78 = .ok (.iload 4, 2) := by decide +kernel
theorem dX13_aWeek_80 : decode cX13_aWeek 80 = .ok (.if_icmp .ge 27, 3) := by decide +kernel
theorem dX13_aWeek_83 : decode cX13_aWeek 83 = .ok (.aload_n 0, 1) := by decide +kernel
theorem dX13_aWeek_84 : decode cX13_aWeek 84 = .ok (.getfield 189, 3) := by decide +kernel
theorem dX13_aWeek_87 : decode cX13_aWeek 87 = .ok (.ifCond .le 20, 3) := by decide +kernel
theorem dX13_aWeek_90 : decode cX13_aWeek 90 = .ok (.aload_n 3, 1) := by decide +kernel
theorem dX13_aWeek_91 : decode cX13_aWeek 91 = .ok (.aload_n 0, 1) := by decide +kernel
theorem dX13_aWeek_92 : decode cX13_aWeek 92 = .ok (.invokevirtual 192, 3) := by decide +kernel
theorem dX13_aWeek_95 : decode cX13_aWeek 95 = .ok (.invokestatic 122, 3) := by decide +kernel
theorem dX13_aWeek_98 : decode cX13_aWeek 98 = .ok (.invokeinterface 40 2, 5) := by decide +kernel
theorem dX13_aWeek_103 : decode cX13_aWeek 103 = .ok (.pop, 1) := by decide +kernel
theorem dX13_aWeek_104 : decode cX13_aWeek 104 = .ok (.goto (-32), 3) := by decide +kernel
theorem dX13_aWeek_107 : decode cX13_aWeek 107 = .ok (.aload_n 0, 1) := by decide +kernel
theorem dX13_aWeek_108 : decode cX13_aWeek 108 = .ok (.aload_n 3, 1) := by decide +kernel
theorem dX13_aWeek_109 : decode cX13_aWeek 109 = .ok (.invokevirtual 195, 3) := by decide +kernel
theorem dX13_aWeek_112 : decode cX13_aWeek 112 = .ok (.aload_n 0, 1) := by decide +kernel
theorem dX13_aWeek_113 : decode cX13_aWeek 113 = .ok (.dup, 1) := by decide +kernel
theorem dX13_aWeek_114 : decode cX13_aWeek 114 = .ok (.getfield 172, 3) := by decide +kernel
theorem dX13_aWeek_117 : decode cX13_aWeek 117 = .ok (.aload_n 0, 1) := by decide +kernel
theorem dX13_aWeek_118 : decode cX13_aWeek 118 = .ok (.bipush 114, 2) := by decide +kernel
theorem dX13_aWeek_120 : decode cX13_aWeek 120 = .ok (.invokevirtual 178, 3) := by decide +kernel
theorem dX13_aWeek_123 : decode cX13_aWeek 123 = .ok (.iadd, 1) := by decide +kernel
theorem dX13_aWeek_124 : decode cX13_aWeek 124 = .ok (.putfield 172, 3) := by decide +kernel
theorem dX13_aWeek_127 : decode cX13_aWeek 127 = .ok (.aload_n 0, 1) := by decide +kernel
theorem dX13_aWeek_128 : decode cX13_aWeek 128 = .ok (.bipush 119, 2) := by decide +kernel
theorem dX13_aWeek_130 : decode cX13_aWeek 130 = .ok (.invokevirtual 178, 3) := by decide +kernel
theorem dX13_aWeek_133 : decode cX13_aWeek 133 = .ok (.aload_n 0, 1) := by decide +kernel
theorem dX13_aWeek_134 : decode cX13_aWeek 134 = .ok (.getfield 172, 3) := by decide +kernel
theorem dX13_aWeek_137 : decode cX13_aWeek 137 = .ok (.invokestatic 199, 3) := by decide +kernel
theorem dX13_aWeek_140 : decode cX13_aWeek 140 = .ok (.istore 5, 2) := by decide +kernel
theorem dX13_aWeek_142 : decode cX13_aWeek 142 = .ok (.aload_n 0, 1) := by decide +kernel
theorem dX13_aWeek_143 : decode cX13_aWeek 143 = .ok (.dup, 1) := by decide +kernel
theorem dX13_aWeek_144 : decode cX13_aWeek 144 = .ok (.getfield 172, 3) := by decide +kernel
theorem dX13_aWeek_147 : decode cX13_aWeek 147 = .ok (.iload 5, 2) := by decide +kernel
theorem dX13_aWeek_149 : decode cX13_aWeek 149 = .ok (.isub, 1) := by decide +kernel
theorem dX13_aWeek_150 : decode cX13_aWeek 150 = .ok (.putfield 172, 3) := by decide +kernel
theorem dX13_aWeek_153 : decode cX13_aWeek 153 = .ok (.aload_n 0, 1) := by decide +kernel
theorem dX13_aWeek_154 : decode cX13_aWeek 154 = .ok (.dup, 1) := by decide +kernel
theorem dX13_aWeek_155 : decode cX13_aWeek 155 = .ok (.getfield 202, 3) := by decide +kernel
theorem dX13_aWeek_158 : decode cX13_aWeek 158 = .ok (.ldc2_w 206, 3) := by decide +kernel
theorem dX13_aWeek_161 : decode cX13_aWeek 161 = .ok (.iload 5, 2) := by decide +kernel
theorem dX13_aWeek_163 : decode cX13_aWeek 163 = .ok (.bipush 9, 2) := by decide +kernel
theorem dX13_aWeek_165 : decode cX13_aWeek 165 = .ok (.iadd, 1) := by decide +kernel
theorem dX13_aWeek_166 : decode cX13_aWeek 166 = .ok (.bipush 10, 2) := by decide +kernel
theorem dX13_aWeek_168 : decode cX13_aWeek 168 = .ok (.idiv, 1) := by decide +kernel
theorem dX13_aWeek_169 : decode cX13_aWeek 169 = .ok (.i2l, 1) := by decide +kernel
theorem dX13_aWeek_170 : decode cX13_aWeek 170 = .ok (.lmul, 1) := by decide +kernel
theorem dX13_aWeek_171 : decode cX13_aWeek 171 = .ok (.lsub, 1) := by decide +kernel
theorem dX13_aWeek_172 : decode cX13_aWeek 172 = .ok (.putfield 202, 3) := by decide +kernel
theorem dX13_aWeek_175 : decode cX13_aWeek 175 = .ok (.aload_n 0, 1) := by decide +kernel
theorem dX13_aWeek_176 : decode cX13_aWeek 176 = .ok (.dup, 1) := by decide +kernel
theorem dX13_aWeek_177 : decode cX13_aWeek 177 = .ok (.getfield 208, 3) := by decide +kernel
theorem dX13_aWeek_180 : decode cX13_aWeek 180 = .ok (.iconst 1, 1) := by decide +kernel
theorem dX13_aWeek_181 : decode cX13_aWeek 181 = .ok (.iadd, 1) := by decide +kernel
theorem dX13_aWeek_182 : decode cX13_aWeek 182 = .ok (.putfield 208, 3) := by decide +kernel
theorem dX13_aWeek_185 : decode cX13_aWeek 185 = .ok (.return_, 1) := by decide +kernel
theorem dX13_digs_0 : decode cX13_digs 0 = .ok (.aload_n 0, 1) := by decide +kernel
theorem dX13_digs_1 : decode cX13_digs 1 = .ok (.getfield 20, 3) := by decide +kernel
theorem dX13_digs_4 : decode cX13_digs 4 = .ok (.iload_n 1, 1) := by decide +kernel
theorem dX13_digs_5 : decode cX13_digs 5 = .ok (.invokeinterface 50 2, 5) := by decide +kernel
theorem dX13_digs_10 : decode cX13_digs 10 = .ok (.checkcast 37, 3) := by decide +kernel
theorem dX13_digs_13 : decode cX13_digs 13 = .ok (.astore 4, 2) := by decide +kernel
theorem dX13_digs_15 : decode cX13_digs 15 = .ok (.aload_n 0, 1) := by decide +kernel
theorem dX13_digs_16 : decode cX13_digs 16 = .ok (.iload_n 1, 1) := by decide +kernel
theorem dX13_digs_17 : decode cX13_digs 17 = .ok (.invokevirtual 105, 3) := by decide +kernel
theorem dX13_digs_20 : decode cX13_digs 20 = .ok (.istore 5, 2) := by decide +kernel
theorem dX13_digs_22 : decode cX13_digs 22 = .ok (.aload 4, 2) := by decide +kernel
theorem dX13_digs_24 : decode cX13_digs 24 = .ok (.getfield 73, 3) := by decide +kernel
theorem dX13_digs_27 : decode cX13_digs 27 = .ok (.iconst (-1), 1) := by decide +kernel
theorem dX13_digs_28 : decode cX13_digs 28 = .ok (.if_icmp .ne 8, 3) := by decide +kernel
theorem dX13_digs_31 : decode cX13_digs 31 = .ok (.iload 5, 2) := by decide +kernel
theorem dX13_digs_33 : decode cX13_digs 33 = .ok (.goto 8, 3) := by decide +kernel
theorem dX13_digs_36 : decode cX13_digs 36 = .ok (.aload 4, 2) := by decide +kernel
theorem dX13_digs_38 : decode cX13_digs 38 = .ok (.getfield 73, 3) := by decide +kernel
theorem dX13_digs_41 : decode cX13_digs 41 = .ok (.istore 6, 2) := by decide +kernel
theorem dX13_digs_43 : decode cX13_digs 43 = .ok (.aload_n 0, 1) := by decide +kernel
theorem dX13_digs_44 : decode cX13_digs 44 = .ok (.dup, 1) := by decide +kernel
theorem dX13_digs_45 : decode cX13_digs 45 = .ok (.getfield 211, 3) := by decide +kernel
theorem dX13_digs_48 : decode cX13_digs 48 = .ok (.iload 5, 2) := by decide +kernel
theorem dX13_digs_50 : decode cX13_digs 50 = .ok (.iadd, 1) := by decide +kernel
theorem dX13_digs_51 : decode cX13_digs 51 = .ok (.putfield 211, 3) := by decide +kernel
theorem dX13_digs_54 : decode cX13_digs 54 = .ok (.aload_n 0, 1) := by decide +kernel
theorem dX13_digs_55 : decode cX13_digs 55 = .ok (.dup, 1) := by decide +kernel
theorem dX13_digs_56 : decode cX13_digs 56 = .ok (.getfield 214, 3) := by decide +kernel
theorem dX13_digs_59 : decode cX13_digs 59 = .ok (.iload 6, 2) := by decide +kernel
theorem dX13_digs_61 : decode cX13_digs 61 = .ok (.iadd, 1) := by decide +kernel
theorem dX13_digs_62 : decode cX13_digs 62 = .ok (.putfield 214, 3) := by decide +kernel
theorem dX13_digs_65 : decode cX13_digs 65 = .ok (.aload_n 0, 1) := by decide +kernel
theorem dX13_digs_66 : decode cX13_digs 66 = .ok (.dup, 1) := by decide +kernel
theorem dX13_digs_67 : decode cX13_digs 67 = .ok (.getfield 202, 3) := by decide +kernel
theorem dX13_digs_70 : decode cX13_digs 70 = .ok (.iload_n 1, 1) := by decide +kernel
theorem dX13_digs_71 : decode cX13_digs 71 = .ok (.invokestatic 113, 3) := by decide +kernel
theorem dX13_digs_74 : decode cX13_digs 74 = .ok (.i2l, 1) := by decide +kernel
theorem dX13_digs_75 : decode cX13_digs 75 = .ok (.lsub, 1) := by decide +kernel
theorem dX13_digs_76 : decode cX13_digs 76 = .ok (.putfield 202, 3) := by decide +kernel
theorem dX13_digs_79 : decode cX13_digs 79 = .ok (.aload 4, 2) := by decide +kernel
theorem dX13_digs_81 : decode cX13_digs 81 = .ok (.iconst 1, 1) := by decide +kernel
theorem dX13_digs_82 : decode cX13_digs 82 = .ok (.putfield 54, 3) := by decide +kernel
theorem dX13_digs_85 : decode cX13_digs 85 = .ok (.aload 4, 2) := by decide +kernel
theorem dX13_digs_87 : decode cX13_digs 87 = .ok (.aload_n 0, 1) := by decide +kernel
theorem dX13_digs_88 : decode cX13_digs 88 = .ok (.getfield 208, 3) := by decide +kernel
theorem dX13_digs_91 : decode cX13_digs 91 = .ok (.putfield 217, 3) := by decide +kernel
theorem dX13_digs_94 : decode cX13_digs 94 = .ok (.aload 4, 2) := by decide +kernel
theorem dX13_digs_96 : decode cX13_digs 96 = .ok (.iload 6, 2) := by decide +kernel
theorem dX13_digs_98 : decode cX13_digs 98 = .ok (.aload_n 0, 1) := by decide +kernel
theorem dX13_digs_99 : decode cX13_digs 99 = .ok (.bipush 99, 2) := by decide +kernel
theorem dX13_digs_101 : decode cX13_digs 101 = .ok (.invokevirtual 178, 3) := by decide +kernel
theorem dX13_digs_104 : decode cX13_digs 104 = .ok (.if_icmp .lt 18, 3) := by decide +kernel
theorem dX13_digs_107 : decode cX13_digs 107 = .ok (.aload_n 2, 1) := by decide +kernel
theorem dX13_digs_108 : decode cX13_digs 108 = .ok (.invokeinterface 64 1, 5) := by decide +kernel
theorem dX13_digs_113 : decode cX13_digs 113 = .ok (.iload_n 3, 1) := by decide +kernel
theorem dX13_digs_114 : decode cX13_digs 114 = .ok (.if_icmp .ge 8, 3) := by decide +kernel
theorem dX13_digs_117 : decode cX13_digs 117 = .ok (.bipush 112, 2) := by decide +kernel
theorem dX13_digs_119 : decode cX13_digs 119 = .ok (.goto 21, 3) := by decide +kernel
theorem dX13_digs_122 : decode cX13_digs 122 = .ok (.iload 6, 2) := by decide +kernel
theorem dX13_digs_124 : decode cX13_digs 124 = .ok (.aload_n 0, 1) := by decide +kernel
theorem dX13_digs_125 : decode cX13_digs 125 = .ok (.bipush 108, 2) := by decide +kernel
theorem dX13_digs_127 : decode cX13_digs 127 = .ok (.invokevirtual 178, 3) := by decide +kernel
theorem dX13_digs_130 : decode cX13_digs 130 = .ok (.if_icmp .lt 8, 3) := by decide +kernel
theorem dX13_digs_133 : decode cX13_digs 133 = .ok (.bipush 115, 2) := by decide +kernel
theorem dX13_digs_135 : decode cX13_digs 135 = .ok (.goto 5, 3) := by decide +kernel
theorem dX13_digs_138 : decode cX13_digs 138 = .ok (.bipush 100, 2) := by decide +kernel
theorem dX13_digs_140 : decode cX13_digs 140 = .ok (.putfield 218, 3) := by decide +kernel
theorem dX13_digs_143 : decode cX13_digs 143 = .ok (.aload 4, 2) := by decide +kernel
theorem dX13_digs_145 : decode cX13_digs 145 = .ok (.getfield 218, 3) := by decide +kernel
theorem dX13_digs_148 : decode cX13_digs 148 = .ok (.bipush 112, 2) := by decide +kernel
theorem dX13_digs_150 : decode cX13_digs 150 = .ok (.if_icmp .ne 15, 3) := by decide +kernel
theorem dX13_digs_153 : decode cX13_digs 153 = .ok (.aload_n 2, 1) := by decide +kernel
theorem dX13_digs_154 : decode cX13_digs 154 = .ok (.iload 6, 2) := by decide +kernel
theorem dX13_digs_156 : decode cX13_digs 156 = .ok (.invokestatic 122, 3) := by decide +kernel
theorem dX13_digs_159 : decode cX13_digs 159 = .ok (.invokeinterface 40 2, 5) := by decide +kernel
theorem dX13_digs_164 : decode cX13_digs 164 = .ok (.pop, 1) := by decide +kernel
theorem dX13_digs_165 : decode cX13_digs 165 = .ok (.aload 4, 2) := by decide +kernel
theorem dX13_digs_167 : decode cX13_digs 167 = .ok (.getfield 218, 3) := by decide +kernel
theorem dX13_digs_170 : decode cX13_digs 170 = .ok (.bipush 100, 2) := by decide +kernel
theorem dX13_digs_172 : decode cX13_digs 172 = .ok (.if_icmp .ne 13, 3) := by decide +kernel
theorem dX13_digs_175 : decode cX13_digs 175 = .ok (.aload_n 0, 1) := by decide +kernel
theorem dX13_digs_176 : decode cX13_digs 176 = .ok (.dup, 1) := by decide +kernel
theorem dX13_digs_177 : decode cX13_digs 177 = .ok (.getfield 222, 3) := by decide +kernel
theorem dX13_digs_180 : decode cX13_digs 180 = .ok (.iconst 1, 1) := by decide +kernel
theorem dX13_digs_181 : decode cX13_digs 181 = .ok (.iadd, 1) := by decide +kernel
theorem dX13_digs_182 : decode cX13_digs 182 = .ok (.putfield 222, 3) := by decide +kernel
theorem dX13_digs_185 : decode cX13_digs 185 = .ok (.aload 4, 2) := by decide +kernel
theorem dX13_digs_187 : decode cX13_digs 187 = .ok (.getfield 218, 3) := by decide +kernel
theorem dX13_digs_190 : decode cX13_digs 190 = .ok (.bipush 115, 2) := by decide +kernel
theorem dX13_digs_192 : decode cX13_digs 192 = .ok (.if_icmp .ne 39, 3) := by decide +kernel
theorem dX13_digs_195 : decode cX13_digs 195 = .ok (.aload_n 0, 1) := by decide +kernel
theorem dX13_digs_196 : decode cX13_digs 196 = .ok (.getfield 30, 3) := by decide +kernel
theorem dX13_digs_199 : decode cX13_digs 199 = .ok (.iload 6, 2) := by decide +kernel
theorem dX13_digs_201 : decode cX13_digs 201 = .ok (.invokestatic 122, 3) := by decide +kernel
theorem dX13_digs_204 : decode cX13_digs 204 = .ok (.invokeinterface 40 2, 5) := by decide +kernel
theorem dX13_digs_209 : decode cX13_digs 209 = .ok (.pop, 1) := by decide +kernel
theorem dX13_digs_210 : decode cX13_digs 210 = .ok (.aload_n 0, 1) := by decide +kernel
theorem dX13_digs_211 : decode cX13_digs 211 = .ok (.dup, 1) := by decide +kernel
theorem dX13_digs_212 : decode cX13_digs 212 = .ok (.getfield 189, 3) := by decide +kernel
theorem dX13_digs_215 : decode cX13_digs 215 = .ok (.iconst 1, 1) := by decide +kernel
theorem dX13_digs_216 : decode cX13_digs 216 = .ok (.iadd, 1) := by decide +kernel
theorem dX13_digs_217 : decode cX13_digs 217 = .ok (.putfield 189, 3) := by decide +kernel
theorem dX13_digs_220 : decode cX13_digs 220 = .ok (.aload_n 0, 1) := by decide +kernel
theorem dX13_digs_221 : decode cX13_digs 221 = .ok (.dup, 1) := by decide +kernel
theorem dX13_digs_222 : decode cX13_digs 222 = .ok (.getfield 225, 3) := by decide +kernel
theorem dX13_digs_225 : decode cX13_digs 225 = .ok (.iload 6, 2) := by decide +kernel
theorem dX13_digs_227 : decode cX13_digs 227 = .ok (.iadd, 1) := by decide +kernel
theorem dX13_digs_228 : decode cX13_digs 228 = .ok (.putfield 225, 3) := by decide +kernel
theorem dX13_digs_231 : decode cX13_digs 231 = .ok (.aload 4, 2) := by decide +kernel
theorem dX13_digs_233 : decode cX13_digs 233 = .ok (.getfield 73, 3) := by decide +kernel
theorem dX13_digs_236 : decode cX13_digs 236 = .ok (.iconst (-1), 1) := by decide +kernel
theorem dX13_digs_237 : decode cX13_digs 237 = .ok (.if_icmp .eq 37, 3) := by decide +kernel
theorem dX13_digs_240 : decode cX13_digs 240 = .ok (.aload_n 0, 1) := by decide +kernel
theorem dX13_digs_241 : decode cX13_digs 241 = .ok (.getfield 24, 3) := by decide +kernel
theorem dX13_digs_244 : decode cX13_digs 244 = .ok (.invokeinterface 64 1, 5) := by decide +kernel
theorem dX13_digs_249 : decode cX13_digs 249 = .ok (.bipush 40, 2) := by decide +kernel
theorem dX13_digs_251 : decode cX13_digs 251 = .ok (.if_icmp .ge 23, 3) := by decide +kernel
theorem dX13_digs_254 : decode cX13_digs 254 = .ok (.aload_n 0, 1) := by decide +kernel
theorem dX13_digs_255 : decode cX13_digs 255 = .ok (.getfield 24, 3) := by decide +kernel
theorem dX13_digs_258 : decode cX13_digs 258 = .ok (.new 68, 3) := by decide +kernel
theorem dX13_digs_261 : decode cX13_digs 261 = .ok (.dup, 1) := by decide +kernel
theorem dX13_digs_262 : decode cX13_digs 262 = .ok (.iload_n 1, 1) := by decide +kernel
theorem dX13_digs_263 : decode cX13_digs 263 = .ok (.iload 6, 2) := by decide +kernel
theorem dX13_digs_265 : decode cX13_digs 265 = .ok (.invokespecial 70, 3) := by decide +kernel
theorem dX13_digs_268 : decode cX13_digs 268 = .ok (.invokeinterface 40 2, 5) := by decide +kernel
theorem dX13_digs_273 : decode cX13_digs 273 = .ok (.pop, 1) := by decide +kernel
theorem dX13_digs_274 : decode cX13_digs 274 = .ok (.return_, 1) := by decide +kernel
theorem dX13_given_0 : decode cX13_given 0 = .ok (.aload_n 0, 1) := by decide +kernel
theorem dX13_given_1 : decode cX13_given 1 = .ok (.getfield 169, 3) := by decide +kernel
theorem dX13_given_4 : decode cX13_given 4 = .ok (.ifCond .eq 28, 3) := by decide +kernel
theorem dX13_given_7 : decode cX13_given 7 = .ok (.aload_n 0, 1) := by decide +kernel
theorem dX13_given_8 : decode cX13_given 8 = .ok (.aload_n 0, 1) := by decide +kernel
theorem dX13_given_9 : decode cX13_given 9 = .ok (.getfield 189, 3) := by decide +kernel
theorem dX13_given_12 : decode cX13_given 12 = .ok (.putfield 228, 3) := by decide +kernel
theorem dX13_given_15 : decode cX13_given 15 = .ok (.aload_n 0, 1) := by decide +kernel
theorem dX13_given_16 : decode cX13_given 16 = .ok (.aload_n 0, 1) := by decide +kernel
theorem dX13_given_17 : decode cX13_given 17 = .ok (.getfield 225, 3) := by decide +kernel
theorem dX13_given_20 : decode cX13_given 20 = .ok (.putfield 231, 3) := by decide +kernel
theorem dX13_given_23 : decode cX13_given 23 = .ok (.aload_n 0, 1) := by decide +kernel
theorem dX13_given_24 : decode cX13_given 24 = .ok (.getfield 30, 3) := by decide +kernel
theorem dX13_given_27 : decode cX13_given 27 = .ok (.invokeinterface 146 1, 5) := by decide +kernel
theorem dX13_given_32 : decode cX13_given 32 = .ok (.aload_n 0, 1) := by decide +kernel
theorem dX13_given_33 : decode cX13_given 33 = .ok (.getfield 228, 3) := by decide +kernel
theorem dX13_given_36 : decode cX13_given 36 = .ok (.ifCond .le 15, 3) := by decide +kernel
theorem dX13_given_39 : decode cX13_given 39 = .ok (.aload_n 0, 1) := by decide +kernel
theorem dX13_given_40 : decode cX13_given 40 = .ok (.getfield 231, 3) := by decide +kernel
theorem dX13_given_43 : decode cX13_given 43 = .ok (.aload_n 0, 1) := by decide +kernel
theorem dX13_given_44 : decode cX13_given 44 = .ok (.getfield 228, 3) := by decide +kernel
theorem dX13_given_47 : decode cX13_given 47 = .ok (.idiv, 1) := by decide +kernel
theorem dX13_given_48 : decode cX13_given 48 = .ok (.goto 19, 3) := by decide +kernel
theorem dX13_given_51 : decode cX13_given 51 = .ok (.aload_n 0, 1) := by decide +kernel
theorem dX13_given_52 : decode cX13_given 52 = .ok (.getfield 30, 3) := by decide +kernel
theorem dX13_given_55 : decode cX13_given 55 = .ok (.iconst 0, 1) := by decide +kernel
theorem dX13_given_56 : decode cX13_given 56 = .ok (.invokeinterface 234 2, 5) := by decide +kernel
theorem dX13_given_61 : decode cX13_given 61 = .ok (.checkcast 123, 3) := by decide +kernel
theorem dX13_given_64 : decode cX13_given 64 = .ok (.invokevirtual 132, 3) := by decide +kernel
theorem dX13_given_67 : decode cX13_given 67 = .ok (.istore_n 1, 1) := by decide +kernel
theorem dX13_given_68 : decode cX13_given 68 = .ok (.aload_n 0, 1) := by decide +kernel
theorem dX13_given_69 : decode cX13_given 69 = .ok (.dup, 1) := by decide +kernel
theorem dX13_given_70 : decode cX13_given 70 = .ok (.getfield 231, 3) := by decide +kernel
theorem dX13_given_73 : decode cX13_given 73 = .ok (.aload_n 0, 1) := by decide +kernel
theorem dX13_given_74 : decode cX13_given 74 = .ok (.getfield 228, 3) := by decide +kernel
theorem dX13_given_77 : decode cX13_given 77 = .ok (.ifCond .le 7, 3) := by decide +kernel
theorem dX13_given_80 : decode cX13_given 80 = .ok (.iload_n 1, 1) := by decide +kernel
theorem dX13_given_81 : decode cX13_given 81 = .ok (.goto 4, 3) := by decide +kernel
theorem dX13_given_84 : decode cX13_given 84 = .ok (.iconst 0, 1) := by decide +kernel
theorem dX13_given_85 : decode cX13_given 85 = .ok (.isub, 1) := by decide +kernel
theorem dX13_given_86 : decode cX13_given 86 = .ok (.putfield 231, 3) := by decide +kernel
theorem dX13_given_89 : decode cX13_given 89 = .ok (.aload_n 0, 1) := by decide +kernel
theorem dX13_given_90 : decode cX13_given 90 = .ok (.dup, 1) := by decide +kernel
theorem dX13_given_91 : decode cX13_given 91 = .ok (.getfield 228, 3) := by decide +kernel
theorem dX13_given_94 : decode cX13_given 94 = .ok (.aload_n 0, 1) := by decide +kernel
theorem dX13_given_95 : decode cX13_given 95 = .ok (.getfield 228, 3) := by decide +kernel
theorem dX13_given_98 : decode cX13_given 98 = .ok (.ifCond .le 7, 3) := by decide +kernel
theorem dX13_given_101 : decode cX13_given 101 = .ok (.iconst 1, 1) := by decide +kernel
theorem dX13_given_102 : decode cX13_given 102 = .ok (.goto 4, 3) := by decide +kernel
theorem dX13_given_105 : decode cX13_given 105 = .ok (.iconst 0, 1) := by decide +kernel
theorem dX13_given_106 : decode cX13_given 106 = .ok (.isub, 1) := by decide +kernel
theorem dX13_given_107 : decode cX13_given 107 = .ok (.putfield 228, 3) := by decide +kernel
theorem dX13_given_110 : decode cX13_given 110 = .ok (.aload_n 0, 1) := by decide +kernel
theorem dX13_given_111 : decode cX13_given 111 = .ok (.dup, 1) := by decide +kernel
theorem dX13_given_112 : decode cX13_given 112 = .ok (.getfield 189, 3) := by decide +kernel
theorem dX13_given_115 : decode cX13_given 115 = .ok (.iconst 1, 1) := by decide +kernel
theorem dX13_given_116 : decode cX13_given 116 = .ok (.isub, 1) := by decide +kernel
theorem dX13_given_117 : decode cX13_given 117 = .ok (.putfield 189, 3) := by decide +kernel
theorem dX13_given_120 : decode cX13_given 120 = .ok (.aload_n 0, 1) := by decide +kernel
theorem dX13_given_121 : decode cX13_given 121 = .ok (.dup, 1) := by decide +kernel
theorem dX13_given_122 : decode cX13_given 122 = .ok (.getfield 225, 3) := by decide +kernel
theorem dX13_given_125 : decode cX13_given 125 = .ok (.iload_n 1, 1) := by decide +kernel
theorem dX13_given_126 : decode cX13_given 126 = .ok (.isub, 1) := by decide +kernel
theorem dX13_given_127 : decode cX13_given 127 = .ok (.putfield 225, 3) := by decide +kernel
theorem dX13_given_130 : decode cX13_given 130 = .ok (.iload_n 1, 1) := by decide +kernel
theorem dX13_given_131 : decode cX13_given 131 = .ok (.ireturn, 1) := by decide +kernel
theorem dX13_mills_0 : decode cX13_mills 0 = .ok (.aload_n 1, 1) := by decide +kernel
theorem dX13_mills_1 : decode cX13_mills 1 = .ok (.invokeinterface 96 1, 5) := by decide +kernel
theorem dX13_mills_6 : decode cX13_mills 6 = .ok (.ifCond .eq 4, 3) := by decide +kernel
theorem dX13_mills_9 : decode cX13_mills 9 = .ok (.return_, 1) := by decide +kernel
theorem dX13_mills_10 : decode cX13_mills 10 = .ok (.iconst 0, 1) := by decide +kernel
theorem dX13_mills_11 : decode cX13_mills 11 = .ok (.istore_n 2, 1) := by decide +kernel
theorem dX13_mills_12 : decode cX13_mills 12 = .ok (.aload_n 1, 1) := by decide +kernel
theorem dX13_mills_13 : decode cX13_mills 13 = .ok (.invokeinterface 76 1, 5) := by decide +kernel
theorem dX13_mills_18 : decode cX13_mills 18 = .ok (.astore_n 3, 1) := by decide +kernel
theorem dX13_mills_19 : decode cX13_mills 19 = .ok (.aload_n 3, 1) := by decide +kernel
theorem dX13_mills_20 : decode cX13_mills 20 = .ok (.invokeinterface 80 1, 5) := by decide +kernel
theorem dX13_mills_25 : decode cX13_mills 25 = .ok (.ifCond .eq 25, 3) := by decide +kernel
theorem dX13_mills_28 : decode cX13_mills 28 = .ok (.aload_n 3, 1) := by decide +kernel
theorem dX13_mills_29 : decode cX13_mills 29 = .ok (.invokeinterface 86 1, 5) := by decide +kernel
theorem dX13_mills_34 : decode cX13_mills 34 = .ok (.checkcast 123, 3) := by decide +kernel
theorem dX13_mills_37 : decode cX13_mills 37 = .ok (.invokevirtual 132, 3) := by decide +kernel
theorem dX13_mills_40 : decode cX13_mills 40 = .ok (.istore 4, 2) := by decide +kernel
theorem dX13_mills_42 : decode cX13_mills 42 = .ok (.iload_n 2, 1) := by decide +kernel
theorem dX13_mills_43 : decode cX13_mills 43 = .ok (.iload 4, 2) := by decide +kernel
theorem dX13_mills_45 : decode cX13_mills 45 = .ok (.iadd, 1) := by decide +kernel
theorem dX13_mills_46 : decode cX13_mills 46 = .ok (.istore_n 2, 1) := by decide +kernel
theorem dX13_mills_47 : decode cX13_mills 47 = .ok (.goto (-28), 3) := by decide +kernel
theorem dX13_mills_50 : decode cX13_mills 50 = .ok (.iload_n 2, 1) := by decide +kernel
theorem dX13_mills_51 : decode cX13_mills 51 = .ok (.i2d, 1) := by decide +kernel
theorem dX13_mills_52 : decode cX13_mills 52 = .ok (.aload_n 1, 1) := by decide +kernel
theorem dX13_mills_53 : decode cX13_mills 53 = .ok (.invokeinterface 64 1, 5) := by decide +kernel
theorem dX13_mills_58 : decode cX13_mills 58 = .ok (.i2d, 1) := by decide +kernel
theorem dX13_mills_59 : decode cX13_mills 59 = .ok (.ddiv, 1) := by decide +kernel
theorem dX13_mills_60 : decode cX13_mills 60 = .ok (.dstore_n 3, 1) := by decide +kernel
theorem dX13_mills_61 : decode cX13_mills 61 = .ok (.aload_n 0, 1) := by decide +kernel
theorem dX13_mills_62 : decode cX13_mills 62 = .ok (.aload_n 0, 1) := by decide +kernel
theorem dX13_mills_63 : decode cX13_mills 63 = .ok (.getfield 237, 3) := by decide +kernel
theorem dX13_mills_66 : decode cX13_mills 66 = .ok (.ifCond .eq 29, 3) := by decide +kernel
theorem dX13_mills_69 : decode cX13_mills 69 = .ok (.ldc2_w 240, 3) := by decide +kernel
theorem dX13_mills_72 : decode cX13_mills 72 = .ok (.ldc2_w 242, 3) := by decide +kernel
theorem dX13_mills_75 : decode cX13_mills 75 = .ok (.dload_n 3, 1) := by decide +kernel
theorem dX13_mills_76 : decode cX13_mills 76 = .ok (.aload_n 0, 1) := by decide +kernel
theorem dX13_mills_77 : decode cX13_mills 77 = .ok (.getfield 244, 3) := by decide +kernel
theorem dX13_mills_80 : decode cX13_mills 80 = .ok (.dsub, 1) := by decide +kernel
theorem dX13_mills_81 : decode cX13_mills 81 = .ok (.invokestatic 248, 3) := by decide +kernel
theorem dX13_mills_84 : decode cX13_mills 84 = .ok (.dsub, 1) := by decide +kernel
theorem dX13_mills_85 : decode cX13_mills 85 = .ok (.invokestatic 251, 3) := by decide +kernel
theorem dX13_mills_88 : decode cX13_mills 88 = .ok (.invokestatic 99, 3) := by decide +kernel
theorem dX13_mills_91 : decode cX13_mills 91 = .ok (.d2i, 1) := by decide +kernel
theorem dX13_mills_92 : decode cX13_mills 92 = .ok (.goto 5, 3) := by decide +kernel
theorem dX13_mills_95 : decode cX13_mills 95 = .ok (.bipush 90, 2) := by decide +kernel
theorem dX13_mills_97 : decode cX13_mills 97 = .ok (.putfield 254, 3) := by decide +kernel
theorem dX13_mills_100 : decode cX13_mills 100 = .ok (.aload_n 0, 1) := by decide +kernel
theorem dX13_mills_101 : decode cX13_mills 101 = .ok (.iconst 1, 1) := by decide +kernel
theorem dX13_mills_102 : decode cX13_mills 102 = .ok (.putfield 237, 3) := by decide +kernel
theorem dX13_mills_105 : decode cX13_mills 105 = .ok (.aload_n 0, 1) := by decide +kernel
theorem dX13_mills_106 : decode cX13_mills 106 = .ok (.dload_n 3, 1) := by decide +kernel
theorem dX13_mills_107 : decode cX13_mills 107 = .ok (.putfield 244, 3) := by decide +kernel
theorem dX13_mills_110 : decode cX13_mills 110 = .ok (.lconst 0, 1) := by decide +kernel
theorem dX13_mills_111 : decode cX13_mills 111 = .ok (.lstore 5, 2) := by decide +kernel
theorem dX13_mills_113 : decode cX13_mills 113 = .ok (.aload_n 1, 1) := by decide +kernel
theorem dX13_mills_114 : decode cX13_mills 114 = .ok (.invokeinterface 76 1, 5) := by decide +kernel
theorem dX13_mills_119 : decode cX13_mills 119 = .ok (.astore 7, 2) := by decide +kernel
theorem dX13_mills_121 : decode cX13_mills 121 = .ok (.aload 7, 2) := by decide +kernel
theorem dX13_mills_123 : decode cX13_mills 123 = .ok (.invokeinterface 80 1, 5) := by decide +kernel
theorem dX13_mills_128 : decode cX13_mills 128 = .ok (.ifCond .eq 40, 3) := by decide +kernel
theorem dX13_mills_131 : decode cX13_mills 131 = .ok (.aload 7, 2) := by decide +kernel
theorem dX13_mills_133 : decode cX13_mills 133 = .ok (.invokeinterface 86 1, 5) := by decide +kernel
theorem dX13_mills_138 : decode cX13_mills 138 = .ok (.checkcast 123, 3) := by decide +kernel
theorem dX13_mills_141 : decode cX13_mills 141 = .ok (.invokevirtual 132, 3) := by decide +kernel
theorem dX13_mills_144 : decode cX13_mills 144 = .ok (.istore 8, 2) := by decide +kernel
theorem dX13_mills_146 : decode cX13_mills 146 = .ok (.lload 5, 2) := by decide +kernel
theorem dX13_mills_148 : decode cX13_mills 148 = .ok (.bipush 10, 2) := by decide +kernel
theorem dX13_mills_150 : decode cX13_mills 150 = .ok (.iload 8, 2) := by decide +kernel
theorem dX13_mills_152 : decode cX13_mills 152 = .ok (.imul, 1) := by decide +kernel
theorem dX13_mills_153 : decode cX13_mills 153 = .ok (.aload_n 0, 1) := by decide +kernel
theorem dX13_mills_154 : decode cX13_mills 154 = .ok (.getfield 254, 3) := by decide +kernel
theorem dX13_mills_157 : decode cX13_mills 157 = .ok (.imul, 1) := by decide +kernel
theorem dX13_mills_158 : decode cX13_mills 158 = .ok (.bipush 100, 2) := by decide +kernel
theorem dX13_mills_160 : decode cX13_mills 160 = .ok (.idiv, 1) := by decide +kernel
theorem dX13_mills_161 : decode cX13_mills 161 = .ok (.i2l, 1) := by decide +kernel
theorem dX13_mills_162 : decode cX13_mills 162 = .ok (.ladd, 1) := by decide +kernel
theorem dX13_mills_163 : decode cX13_mills 163 = .ok (.lstore 5, 2) := by decide +kernel
theorem dX13_mills_165 : decode cX13_mills 165 = .ok (.goto (-44), 3) := by decide +kernel
theorem dX13_mills_168 : decode cX13_mills 168 = .ok (.aload_n 0, 1) := by decide +kernel
theorem dX13_mills_169 : decode cX13_mills 169 = .ok (.dup, 1) := by decide +kernel
theorem dX13_mills_170 : decode cX13_mills 170 = .ok (.getfield 257, 3) := by decide +kernel
theorem dX13_mills_173 : decode cX13_mills 173 = .ok (.lload 5, 2) := by decide +kernel
theorem dX13_mills_175 : decode cX13_mills 175 = .ok (.ladd, 1) := by decide +kernel
theorem dX13_mills_176 : decode cX13_mills 176 = .ok (.putfield 257, 3) := by decide +kernel
theorem dX13_mills_179 : decode cX13_mills 179 = .ok (.aload_n 0, 1) := by decide +kernel
theorem dX13_mills_180 : decode cX13_mills 180 = .ok (.dup, 1) := by decide +kernel
theorem dX13_mills_181 : decode cX13_mills 181 = .ok (.getfield 202, 3) := by decide +kernel
theorem dX13_mills_184 : decode cX13_mills 184 = .ok (.lload 5, 2) := by decide +kernel
theorem dX13_mills_186 : decode cX13_mills 186 = .ok (.aload_n 0, 1) := by decide +kernel
theorem dX13_mills_187 : decode cX13_mills 187 = .ok (.bipush 109, 2) := by decide +kernel
theorem dX13_mills_189 : decode cX13_mills 189 = .ok (.invokevirtual 178, 3) := by decide +kernel
theorem dX13_mills_192 : decode cX13_mills 192 = .ok (.i2l, 1) := by decide +kernel
theorem dX13_mills_193 : decode cX13_mills 193 = .ok (.lmul, 1) := by decide +kernel
theorem dX13_mills_194 : decode cX13_mills 194 = .ok (.ldc2_w 260, 3) := by decide +kernel
theorem dX13_mills_197 : decode cX13_mills 197 = .ok (.ldiv, 1) := by decide +kernel
theorem dX13_mills_198 : decode cX13_mills 198 = .ok (.ldc2_w 262, 3) := by decide +kernel
theorem dX13_mills_201 : decode cX13_mills 201 = .ok (.aload_n 1, 1) := by decide +kernel
theorem dX13_mills_202 : decode cX13_mills 202 = .ok (.invokeinterface 64 1, 5) := by decide +kernel
theorem dX13_mills_207 : decode cX13_mills 207 = .ok (.i2l, 1) := by decide +kernel
theorem dX13_mills_208 : decode cX13_mills 208 = .ok (.lmul, 1) := by decide +kernel
theorem dX13_mills_209 : decode cX13_mills 209 = .ok (.lsub, 1) := by decide +kernel
theorem dX13_mills_210 : decode cX13_mills 210 = .ok (.ladd, 1) := by decide +kernel
theorem dX13_mills_211 : decode cX13_mills 211 = .ok (.putfield 202, 3) := by decide +kernel
theorem dX13_mills_214 : decode cX13_mills 214 = .ok (.aload_n 0, 1) := by decide +kernel
theorem dX13_mills_215 : decode cX13_mills 215 = .ok (.dup, 1) := by decide +kernel
theorem dX13_mills_216 : decode cX13_mills 216 = .ok (.getfield 264, 3) := by decide +kernel
theorem dX13_mills_219 : decode cX13_mills 219 = .ok (.aload_n 1, 1) := by decide +kernel
theorem dX13_mills_220 : decode cX13_mills 220 = .ok (.invokeinterface 64 1, 5) := by decide +kernel
theorem dX13_mills_225 : decode cX13_mills 225 = .ok (.iadd, 1) := by decide +kernel
theorem dX13_mills_226 : decode cX13_mills 226 = .ok (.putfield 264, 3) := by decide +kernel
theorem dX13_mills_229 : decode cX13_mills 229 = .ok (.aload_n 0, 1) := by decide +kernel
theorem dX13_mills_230 : decode cX13_mills 230 = .ok (.dup, 1) := by decide +kernel
theorem dX13_mills_231 : decode cX13_mills 231 = .ok (.getfield 267, 3) := by decide +kernel
theorem dX13_mills_234 : decode cX13_mills 234 = .ok (.iload_n 2, 1) := by decide +kernel
theorem dX13_mills_235 : decode cX13_mills 235 = .ok (.iadd, 1) := by decide +kernel
theorem dX13_mills_236 : decode cX13_mills 236 = .ok (.putfield 267, 3) := by decide +kernel
theorem dX13_mills_239 : decode cX13_mills 239 = .ok (.return_, 1) := by decide +kernel
theorem dX13_goOn_0 : decode cX13_goOn 0 = .ok (.aload_n 0, 1) := by decide +kernel
theorem dX13_goOn_1 : decode cX13_goOn 1 = .ok (.iload_n 1, 1) := by decide +kernel
theorem dX13_goOn_2 : decode cX13_goOn 2 = .ok (.iconst 1, 1) := by decide +kernel
theorem dX13_goOn_3 : decode cX13_goOn 3 = .ok (.bipush 20, 2) := by decide +kernel
theorem dX13_goOn_5 : decode cX13_goOn 5 = .ok (.invokestatic 7, 3) := by decide +kernel
theorem dX13_goOn_8 : decode cX13_goOn 8 = .ok (.ifCond .eq 7, 3) := by decide +kernel
theorem dX13_goOn_11 : decode cX13_goOn 11 = .ok (.iconst 0, 1) := by decide +kernel
theorem dX13_goOn_12 : decode cX13_goOn 12 = .ok (.goto 4, 3) := by decide +kernel
theorem dX13_goOn_15 : decode cX13_goOn 15 = .ok (.iconst 1, 1) := by decide +kernel
theorem dX13_goOn_16 : decode cX13_goOn 16 = .ok (.invokevirtual 58, 3) := by decide +kernel
theorem dX13_goOn_19 : decode cX13_goOn 19 = .ok (.ifCond .eq 5, 3) := by decide +kernel
theorem dX13_goOn_22 : decode cX13_goOn 22 = .ok (.iconst 0, 1) := by decide +kernel
theorem dX13_goOn_23 : decode cX13_goOn 23 = .ok (.ireturn, 1) := by decide +kernel
theorem dX13_goOn_24 : decode cX13_goOn 24 = .ok (.aload_n 0, 1) := by decide +kernel
theorem dX13_goOn_25 : decode cX13_goOn 25 = .ok (.invokevirtual 270, 3) := by decide +kernel
theorem dX13_goOn_28 : decode cX13_goOn 28 = .ok (.istore_n 2, 1) := by decide +kernel
theorem dX13_goOn_29 : decode cX13_goOn 29 = .ok (.iconst 0, 1) := by decide +kernel
theorem dX13_goOn_30 : decode cX13_goOn 30 = .ok (.istore_n 3, 1) := by decide +kernel
theorem dX13_goOn_31 : decode cX13_goOn 31 = .ok (.iload_n 3, 1) := by decide +kernel
theorem dX13_goOn_32 : decode cX13_goOn 32 = .ok (.iload_n 1, 1) := by decide +kernel
theorem dX13_goOn_33 : decode cX13_goOn 33 = .ok (.if_icmp .ge 13, 3) := by decide +kernel
theorem dX13_goOn_36 : decode cX13_goOn 36 = .ok (.aload_n 0, 1) := by decide +kernel
theorem dX13_goOn_37 : decode cX13_goOn 37 = .ok (.invokevirtual 273, 3) := by decide +kernel
