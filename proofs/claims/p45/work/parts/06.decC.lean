theorem dX10_init_0 : decode cX10_init 0 = .ok (.aload_n 0, 1) := by decide +kernel
theorem dX10_init_1 : decode cX10_init 1 = .ok (.invokespecial 3, 3) := by decide +kernel
theorem dX10_init_4 : decode cX10_init 4 = .ok (.aload_n 0, 1) := by decide +kernel
theorem dX10_init_5 : decode cX10_init 5 = .ok (.new 9, 3) := by decide +kernel
theorem dX10_init_8 : decode cX10_init 8 = .ok (.dup, 1) := by decide +kernel
theorem dX10_init_9 : decode cX10_init 9 = .ok (.invokespecial 11, 3) := by decide +kernel
theorem dX10_init_12 : decode cX10_init 12 = .ok (.putfield 12, 3) := by decide +kernel
theorem dX10_init_15 : decode cX10_init 15 = .ok (.aload_n 0, 1) := by decide +kernel
theorem dX10_init_16 : decode cX10_init 16 = .ok (.new 16, 3) := by decide +kernel
theorem dX10_init_19 : decode cX10_init 19 = .ok (.dup, 1) := by decide +kernel
theorem dX10_init_20 : decode cX10_init 20 = .ok (.invokespecial 18, 3) := by decide +kernel
theorem dX10_init_23 : decode cX10_init 23 = .ok (.putfield 19, 3) := by decide +kernel
theorem dX10_init_26 : decode cX10_init 26 = .ok (.aload_n 0, 1) := by decide +kernel
theorem dX10_init_27 : decode cX10_init 27 = .ok (.new 23, 3) := by decide +kernel
theorem dX10_init_30 : decode cX10_init 30 = .ok (.dup, 1) := by decide +kernel
theorem dX10_init_31 : decode cX10_init 31 = .ok (.invokespecial 25, 3) := by decide +kernel
theorem dX10_init_34 : decode cX10_init 34 = .ok (.putfield 26, 3) := by decide +kernel
theorem dX10_init_37 : decode cX10_init 37 = .ok (.aload_n 0, 1) := by decide +kernel
theorem dX10_init_38 : decode cX10_init 38 = .ok (.new 30, 3) := by decide +kernel
theorem dX10_init_41 : decode cX10_init 41 = .ok (.dup, 1) := by decide +kernel
theorem dX10_init_42 : decode cX10_init 42 = .ok (.invokespecial 32, 3) := by decide +kernel
theorem dX10_init_45 : decode cX10_init 45 = .ok (.putfield 33, 3) := by decide +kernel
theorem dX10_init_48 : decode cX10_init 48 = .ok (.aload_n 0, 1) := by decide +kernel
theorem dX10_init_49 : decode cX10_init 49 = .ok (.new 37, 3) := by decide +kernel
theorem dX10_init_52 : decode cX10_init 52 = .ok (.dup, 1) := by decide +kernel
theorem dX10_init_53 : decode cX10_init 53 = .ok (.iconst 0, 1) := by decide +kernel
theorem dX10_init_54 : decode cX10_init 54 = .ok (.invokespecial 39, 3) := by decide +kernel
theorem dX10_init_57 : decode cX10_init 57 = .ok (.putfield 42, 3) := by decide +kernel
theorem dX10_init_60 : decode cX10_init 60 = .ok (.aload_n 0, 1) := by decide +kernel
theorem dX10_init_61 : decode cX10_init 61 = .ok (.new 37, 3) := by decide +kernel
theorem dX10_init_64 : decode cX10_init 64 = .ok (.dup, 1) := by decide +kernel
theorem dX10_init_65 : decode cX10_init 65 = .ok (.iconst 1, 1) := by decide +kernel
theorem dX10_init_66 : decode cX10_init 66 = .ok (.invokespecial 39, 3) := by decide +kernel
theorem dX10_init_69 : decode cX10_init 69 = .ok (.putfield 46, 3) := by decide +kernel
theorem dX10_init_72 : decode cX10_init 72 = .ok (.aload_n 0, 1) := by decide +kernel
theorem dX10_init_73 : decode cX10_init 73 = .ok (.new 49, 3) := by decide +kernel
theorem dX10_init_76 : decode cX10_init 76 = .ok (.dup, 1) := by decide +kernel
theorem dX10_init_77 : decode cX10_init 77 = .ok (.invokespecial 51, 3) := by decide +kernel
theorem dX10_init_80 : decode cX10_init 80 = .ok (.putfield 52, 3) := by decide +kernel
theorem dX10_init_83 : decode cX10_init 83 = .ok (.aload_n 0, 1) := by decide +kernel
theorem dX10_init_84 : decode cX10_init 84 = .ok (.iconst 1, 1) := by decide +kernel
theorem dX10_init_85 : decode cX10_init 85 = .ok (.putfield 56, 3) := by decide +kernel
theorem dX10_init_88 : decode cX10_init 88 = .ok (.aload_n 0, 1) := by decide +kernel
theorem dX10_init_89 : decode cX10_init 89 = .ok (.iconst 0, 1) := by decide +kernel
theorem dX10_init_90 : decode cX10_init 90 = .ok (.putfield 60, 3) := by decide +kernel
theorem dX10_init_93 : decode cX10_init 93 = .ok (.return_, 1) := by decide +kernel
theorem dX10_addStatement_0 : decode cX10_addStatement 0 = .ok (.iload_n 1, 1) := by decide +kernel
theorem dX10_addStatement_1 : decode cX10_addStatement 1 = .ok (.iconst 0, 1) := by decide +kernel
theorem dX10_addStatement_2 : decode cX10_addStatement 2 = .ok (.bipush 99, 2) := by decide +kernel
theorem dX10_addStatement_4 : decode cX10_addStatement 4 = .ok (.invokestatic 63, 3) := by decide +kernel
theorem dX10_addStatement_7 : decode cX10_addStatement 7 = .ok (.aload_n 0, 1) := by decide +kernel
theorem dX10_addStatement_8 : decode cX10_addStatement 8 = .ok (.getfield 12, 3) := by decide +kernel
theorem dX10_addStatement_11 : decode cX10_addStatement 11 = .ok (.getfield 67, 3) := by decide +kernel
theorem dX10_addStatement_14 : decode cX10_addStatement 14 = .ok (.invokevirtual 71, 3) := by decide +kernel
theorem dX10_addStatement_17 : decode cX10_addStatement 17 = .ok (.iconst 4, 1) := by decide +kernel
theorem dX10_addStatement_18 : decode cX10_addStatement 18 = .ok (.if_icmp .lt 13, 3) := by decide +kernel
theorem dX10_addStatement_21 : decode cX10_addStatement 21 = .ok (.new 77, 3) := by decide +kernel
theorem dX10_addStatement_24 : decode cX10_addStatement 24 = .ok (.dup, 1) := by decide +kernel
theorem dX10_addStatement_25 : decode cX10_addStatement 25 = .ok (.ldc 79, 2) := by decide +kernel
theorem dX10_addStatement_27 : decode cX10_addStatement 27 = .ok (.invokespecial 81, 3) := by decide +kernel
theorem dX10_addStatement_30 : decode cX10_addStatement 30 = .ok (.athrow, 1) := by decide +kernel
theorem dX10_addStatement_31 : decode cX10_addStatement 31 = .ok (.aload_n 0, 1) := by decide +kernel
theorem dX10_addStatement_32 : decode cX10_addStatement 32 = .ok (.getfield 12, 3) := by decide +kernel
theorem dX10_addStatement_35 : decode cX10_addStatement 35 = .ok (.getfield 67, 3) := by decide +kernel
theorem dX10_addStatement_38 : decode cX10_addStatement 38 = .ok (.new 84, 3) := by decide +kernel
theorem dX10_addStatement_41 : decode cX10_addStatement 41 = .ok (.dup, 1) := by decide +kernel
theorem dX10_addStatement_42 : decode cX10_addStatement 42 = .ok (.iload_n 1, 1) := by decide +kernel
theorem dX10_addStatement_43 : decode cX10_addStatement 43 = .ok (.invokespecial 86, 3) := by decide +kernel
theorem dX10_addStatement_46 : decode cX10_addStatement 46 = .ok (.invokevirtual 89, 3) := by decide +kernel
theorem dX10_addStatement_49 : decode cX10_addStatement 49 = .ok (.pop, 1) := by decide +kernel
theorem dX10_addStatement_50 : decode cX10_addStatement 50 = .ok (.aload_n 0, 1) := by decide +kernel
theorem dX10_addStatement_51 : decode cX10_addStatement 51 = .ok (.getfield 12, 3) := by decide +kernel
theorem dX10_addStatement_54 : decode cX10_addStatement 54 = .ok (.getfield 67, 3) := by decide +kernel
theorem dX10_addStatement_57 : decode cX10_addStatement 57 = .ok (.invokevirtual 71, 3) := by decide +kernel
theorem dX10_addStatement_60 : decode cX10_addStatement 60 = .ok (.iconst 1, 1) := by decide +kernel
theorem dX10_addStatement_61 : decode cX10_addStatement 61 = .ok (.isub, 1) := by decide +kernel
theorem dX10_addStatement_62 : decode cX10_addStatement 62 = .ok (.ireturn, 1) := by decide +kernel
theorem dX10_addRead_0 : decode cX10_addRead 0 = .ok (.aload_n 0, 1) := by decide +kernel
theorem dX10_addRead_1 : decode cX10_addRead 1 = .ok (.iload_n 1, 1) := by decide +kernel
theorem dX10_addRead_2 : decode cX10_addRead 2 = .ok (.invokevirtual 93, 3) := by decide +kernel
theorem dX10_addRead_5 : decode cX10_addRead 5 = .ok (.aload_n 0, 1) := by decide +kernel
theorem dX10_addRead_6 : decode cX10_addRead 6 = .ok (.iload_n 2, 1) := by decide +kernel
theorem dX10_addRead_7 : decode cX10_addRead 7 = .ok (.invokevirtual 93, 3) := by decide +kernel
theorem dX10_addRead_10 : decode cX10_addRead 10 = .ok (.iload_n 3, 1) := by decide +kernel
theorem dX10_addRead_11 : decode cX10_addRead 11 = .ok (.iconst 1, 1) := by decide +kernel
theorem dX10_addRead_12 : decode cX10_addRead 12 = .ok (.bipush 9, 2) := by decide +kernel
theorem dX10_addRead_14 : decode cX10_addRead 14 = .ok (.invokestatic 63, 3) := by decide +kernel
theorem dX10_addRead_17 : decode cX10_addRead 17 = .ok (.iload 4, 2) := by decide +kernel
theorem dX10_addRead_19 : decode cX10_addRead 19 = .ok (.iconst 0, 1) := by decide +kernel
theorem dX10_addRead_20 : decode cX10_addRead 20 = .ok (.iconst 3, 1) := by decide +kernel
theorem dX10_addRead_21 : decode cX10_addRead 21 = .ok (.invokestatic 63, 3) := by decide +kernel
theorem dX10_addRead_24 : decode cX10_addRead 24 = .ok (.iload 5, 2) := by decide +kernel
theorem dX10_addRead_26 : decode cX10_addRead 26 = .ok (.bipush (-3), 2) := by decide +kernel
theorem dX10_addRead_28 : decode cX10_addRead 28 = .ok (.iconst 3, 1) := by decide +kernel
theorem dX10_addRead_29 : decode cX10_addRead 29 = .ok (.invokestatic 63, 3) := by decide +kernel
theorem dX10_addRead_32 : decode cX10_addRead 32 = .ok (.aload_n 0, 1) := by decide +kernel
theorem dX10_addRead_33 : decode cX10_addRead 33 = .ok (.getfield 12, 3) := by decide +kernel
theorem dX10_addRead_36 : decode cX10_addRead 36 = .ok (.getfield 67, 3) := by decide +kernel
theorem dX10_addRead_39 : decode cX10_addRead 39 = .ok (.iload_n 1, 1) := by decide +kernel
theorem dX10_addRead_40 : decode cX10_addRead 40 = .ok (.invokevirtual 96, 3) := by decide +kernel
theorem dX10_addRead_43 : decode cX10_addRead 43 = .ok (.checkcast 84, 3) := by decide +kernel
theorem dX10_addRead_46 : decode cX10_addRead 46 = .ok (.getfield 100, 3) := by decide +kernel
theorem dX10_addRead_49 : decode cX10_addRead 49 = .ok (.astore 6, 2) := by decide +kernel
theorem dX10_addRead_51 : decode cX10_addRead 51 = .ok (.aload 6, 2) := by decide +kernel
theorem dX10_addRead_53 : decode cX10_addRead 53 = .ok (.invokevirtual 71, 3) := by decide +kernel
theorem dX10_addRead_56 : decode cX10_addRead 56 = .ok (.iconst 4, 1) := by decide +kernel
theorem dX10_addRead_57 : decode cX10_addRead 57 = .ok (.if_icmp .lt 13, 3) := by decide +kernel
theorem dX10_addRead_60 : decode cX10_addRead 60 = .ok (.new 77, 3) := by decide +kernel
theorem dX10_addRead_63 : decode cX10_addRead 63 = .ok (.dup, 1) := by decide +kernel
theorem dX10_addRead_64 : decode cX10_addRead 64 = .ok (.ldc 103, 2) := by decide +kernel
theorem dX10_addRead_66 : decode cX10_addRead 66 = .ok (.invokespecial 81, 3) := by decide +kernel
theorem dX10_addRead_69 : decode cX10_addRead 69 = .ok (.athrow, 1) := by decide +kernel
theorem dX10_addRead_70 : decode cX10_addRead 70 = .ok (.aload 6, 2) := by decide +kernel
theorem dX10_addRead_72 : decode cX10_addRead 72 = .ok (.new 105, 3) := by decide +kernel
theorem dX10_addRead_75 : decode cX10_addRead 75 = .ok (.dup, 1) := by decide +kernel
theorem dX10_addRead_76 : decode cX10_addRead 76 = .ok (.iload_n 2, 1) := by decide +kernel
theorem dX10_addRead_77 : decode cX10_addRead 77 = .ok (.iload_n 3, 1) := by decide +kernel
theorem dX10_addRead_78 : decode cX10_addRead 78 = .ok (.iload 4, 2) := by decide +kernel
theorem dX10_addRead_80 : decode cX10_addRead 80 = .ok (.iload 5, 2) := by decide +kernel
theorem dX10_addRead_82 : decode cX10_addRead 82 = .ok (.invokespecial 107, 3) := by decide +kernel
theorem dX10_addRead_85 : decode cX10_addRead 85 = .ok (.invokevirtual 89, 3) := by decide +kernel
theorem dX10_addRead_88 : decode cX10_addRead 88 = .ok (.pop, 1) := by decide +kernel
theorem dX10_addRead_89 : decode cX10_addRead 89 = .ok (.aload 6, 2) := by decide +kernel
theorem dX10_addRead_91 : decode cX10_addRead 91 = .ok (.invokevirtual 71, 3) := by decide +kernel
theorem dX10_addRead_94 : decode cX10_addRead 94 = .ok (.iconst 1, 1) := by decide +kernel
theorem dX10_addRead_95 : decode cX10_addRead 95 = .ok (.isub, 1) := by decide +kernel
theorem dX10_addRead_96 : decode cX10_addRead 96 = .ok (.ireturn, 1) := by decide +kernel
theorem dX10_dropReads_0 : decode cX10_dropReads 0 = .ok (.aload_n 0, 1) := by decide +kernel
theorem dX10_dropReads_1 : decode cX10_dropReads 1 = .ok (.iload_n 1, 1) := by decide +kernel
theorem dX10_dropReads_2 : decode cX10_dropReads 2 = .ok (.invokevirtual 93, 3) := by decide +kernel
theorem dX10_dropReads_5 : decode cX10_dropReads 5 = .ok (.aload_n 0, 1) := by decide +kernel
theorem dX10_dropReads_6 : decode cX10_dropReads 6 = .ok (.getfield 12, 3) := by decide +kernel
theorem dX10_dropReads_9 : decode cX10_dropReads 9 = .ok (.getfield 67, 3) := by decide +kernel
theorem dX10_dropReads_12 : decode cX10_dropReads 12 = .ok (.iload_n 1, 1) := by decide +kernel
theorem dX10_dropReads_13 : decode cX10_dropReads 13 = .ok (.invokevirtual 96, 3) := by decide +kernel
theorem dX10_dropReads_16 : decode cX10_dropReads 16 = .ok (.checkcast 84, 3) := by decide +kernel
theorem dX10_dropReads_19 : decode cX10_dropReads 19 = .ok (.getfield 100, 3) := by decide +kernel
theorem dX10_dropReads_22 : decode cX10_dropReads 22 = .ok (.astore_n 2, 1) := by decide +kernel
theorem dX10_dropReads_23 : decode cX10_dropReads 23 = .ok (.aload_n 2, 1) := by decide +kernel
theorem dX10_dropReads_24 : decode cX10_dropReads 24 = .ok (.invokevirtual 71, 3) := by decide +kernel
theorem dX10_dropReads_27 : decode cX10_dropReads 27 = .ok (.istore_n 3, 1) := by decide +kernel
theorem dX10_dropReads_28 : decode cX10_dropReads 28 = .ok (.aload_n 2, 1) := by decide +kernel
theorem dX10_dropReads_29 : decode cX10_dropReads 29 = .ok (.invokevirtual 110, 3) := by decide +kernel
theorem dX10_dropReads_32 : decode cX10_dropReads 32 = .ok (.iload_n 3, 1) := by decide +kernel
theorem dX10_dropReads_33 : decode cX10_dropReads 33 = .ok (.ireturn, 1) := by decide +kernel
theorem dX10_setLasting_0 : decode cX10_setLasting 0 = .ok (.aload_n 0, 1) := by decide +kernel
theorem dX10_setLasting_1 : decode cX10_setLasting 1 = .ok (.iload_n 1, 1) := by decide +kernel
theorem dX10_setLasting_2 : decode cX10_setLasting 2 = .ok (.invokevirtual 93, 3) := by decide +kernel
theorem dX10_setLasting_5 : decode cX10_setLasting 5 = .ok (.aload_n 0, 1) := by decide +kernel
theorem dX10_setLasting_6 : decode cX10_setLasting 6 = .ok (.getfield 12, 3) := by decide +kernel
theorem dX10_setLasting_9 : decode cX10_setLasting 9 = .ok (.getfield 67, 3) := by decide +kernel
theorem dX10_setLasting_12 : decode cX10_setLasting 12 = .ok (.iload_n 1, 1) := by decide +kernel
theorem dX10_setLasting_13 : decode cX10_setLasting 13 = .ok (.invokevirtual 96, 3) := by decide +kernel
theorem dX10_setLasting_16 : decode cX10_setLasting 16 = .ok (.checkcast 84, 3) := by decide +kernel
theorem dX10_setLasting_19 : decode cX10_setLasting 19 = .ok (.astore_n 3, 1) := by decide +kernel
theorem dX10_setLasting_20 : decode cX10_setLasting 20 = .ok (.aload_n 3, 1) := by decide +kernel
theorem dX10_setLasting_21 : decode cX10_setLasting 21 = .ok (.getfield 113, 3) := by decide +kernel
theorem dX10_setLasting_24 : decode cX10_setLasting 24 = .ok (.istore 4, 2) := by decide +kernel
theorem dX10_setLasting_26 : decode cX10_setLasting 26 = .ok (.aload_n 3, 1) := by decide +kernel
theorem dX10_setLasting_27 : decode cX10_setLasting 27 = .ok (.iload_n 2, 1) := by decide +kernel
theorem dX10_setLasting_28 : decode cX10_setLasting 28 = .ok (.putfield 113, 3) := by decide +kernel
theorem dX10_setLasting_31 : decode cX10_setLasting 31 = .ok (.iload 4, 2) := by decide +kernel
theorem dX10_setLasting_33 : decode cX10_setLasting 33 = .ok (.ireturn, 1) := by decide +kernel
theorem dX10_setField_0 : decode cX10_setField 0 = .ok (.iload_n 1, 1) := by decide +kernel
theorem dX10_setField_1 : decode cX10_setField 1 = .ok (.iconst 1, 1) := by decide +kernel
theorem dX10_setField_2 : decode cX10_setField 2 = .ok (.bipush 8, 2) := by decide +kernel
theorem dX10_setField_4 : decode cX10_setField 4 = .ok (.invokestatic 63, 3) := by decide +kernel
theorem dX10_setField_7 : decode cX10_setField 7 = .ok (.iload_n 2, 1) := by decide +kernel
theorem dX10_setField_8 : decode cX10_setField 8 = .ok (.iconst 1, 1) := by decide +kernel
theorem dX10_setField_9 : decode cX10_setField 9 = .ok (.bipush 8, 2) := by decide +kernel
theorem dX10_setField_11 : decode cX10_setField 11 = .ok (.invokestatic 63, 3) := by decide +kernel
theorem dX10_setField_14 : decode cX10_setField 14 = .ok (.aload_n 0, 1) := by decide +kernel
theorem dX10_setField_15 : decode cX10_setField 15 = .ok (.getfield 12, 3) := by decide +kernel
theorem dX10_setField_18 : decode cX10_setField 18 = .ok (.iload_n 1, 1) := by decide +kernel
theorem dX10_setField_19 : decode cX10_setField 19 = .ok (.iload_n 2, 1) := by decide +kernel
theorem dX10_setField_20 : decode cX10_setField 20 = .ok (.invokevirtual 117, 3) := by decide +kernel
theorem dX10_setField_23 : decode cX10_setField 23 = .ok (.aload_n 0, 1) := by decide +kernel
theorem dX10_setField_24 : decode cX10_setField 24 = .ok (.getfield 12, 3) := by decide +kernel
theorem dX10_setField_27 : decode cX10_setField 27 = .ok (.getfield 121, 3) := by decide +kernel
theorem dX10_setField_30 : decode cX10_setField 30 = .ok (.ireturn, 1) := by decide +kernel
theorem dX10_setSchedule_0 : decode cX10_setSchedule 0 = .ok (.iload_n 1, 1) := by decide +kernel
theorem dX10_setSchedule_1 : decode cX10_setSchedule 1 = .ok (.iload_n 2, 1) := by decide +kernel
theorem dX10_setSchedule_2 : decode cX10_setSchedule 2 = .ok (.invokestatic 124, 3) := by decide +kernel
theorem dX10_setSchedule_5 : decode cX10_setSchedule 5 = .ok (.aload_n 0, 1) := by decide +kernel
theorem dX10_setSchedule_6 : decode cX10_setSchedule 6 = .ok (.iload_n 1, 1) := by decide +kernel
theorem dX10_setSchedule_7 : decode cX10_setSchedule 7 = .ok (.putfield 56, 3) := by decide +kernel
theorem dX10_setSchedule_10 : decode cX10_setSchedule 10 = .ok (.aload_n 0, 1) := by decide +kernel
theorem dX10_setSchedule_11 : decode cX10_setSchedule 11 = .ok (.iload_n 2, 1) := by decide +kernel
theorem dX10_setSchedule_12 : decode cX10_setSchedule 12 = .ok (.putfield 60, 3) := by decide +kernel
theorem dX10_setSchedule_15 : decode cX10_setSchedule 15 = .ok (.aload_n 0, 1) := by decide +kernel
theorem dX10_setSchedule_16 : decode cX10_setSchedule 16 = .ok (.invokevirtual 127, 3) := by decide +kernel
theorem dX10_setSchedule_19 : decode cX10_setSchedule 19 = .ok (.ireturn, 1) := by decide +kernel
theorem dX10_setOffset_0 : decode cX10_setOffset 0 = .ok (.aload_n 0, 1) := by decide +kernel
theorem dX10_setOffset_1 : decode cX10_setOffset 1 = .ok (.iload_n 1, 1) := by decide +kernel
theorem dX10_setOffset_2 : decode cX10_setOffset 2 = .ok (.invokevirtual 93, 3) := by decide +kernel
theorem dX10_setOffset_5 : decode cX10_setOffset 5 = .ok (.iload_n 2, 1) := by decide +kernel
theorem dX10_setOffset_6 : decode cX10_setOffset 6 = .ok (.iconst 0, 1) := by decide +kernel
theorem dX10_setOffset_7 : decode cX10_setOffset 7 = .ok (.bipush 30, 2) := by decide +kernel
theorem dX10_setOffset_9 : decode cX10_setOffset 9 = .ok (.invokestatic 63, 3) := by decide +kernel
theorem dX10_setOffset_12 : decode cX10_setOffset 12 = .ok (.aload_n 0, 1) := by decide +kernel
theorem dX10_setOffset_13 : decode cX10_setOffset 13 = .ok (.getfield 12, 3) := by decide +kernel
theorem dX10_setOffset_16 : decode cX10_setOffset 16 = .ok (.getfield 67, 3) := by decide +kernel
theorem dX10_setOffset_19 : decode cX10_setOffset 19 = .ok (.iload_n 1, 1) := by decide +kernel
theorem dX10_setOffset_20 : decode cX10_setOffset 20 = .ok (.invokevirtual 96, 3) := by decide +kernel
theorem dX10_setOffset_23 : decode cX10_setOffset 23 = .ok (.checkcast 84, 3) := by decide +kernel
theorem dX10_setOffset_26 : decode cX10_setOffset 26 = .ok (.iload_n 2, 1) := by decide +kernel
theorem dX10_setOffset_27 : decode cX10_setOffset 27 = .ok (.putfield 131, 3) := by decide +kernel
theorem dX10_setOffset_30 : decode cX10_setOffset 30 = .ok (.aload_n 0, 1) := by decide +kernel
theorem dX10_setOffset_31 : decode cX10_setOffset 31 = .ok (.invokevirtual 127, 3) := by decide +kernel
theorem dX10_setOffset_34 : decode cX10_setOffset 34 = .ok (.ireturn, 1) := by decide +kernel
theorem dX10_isAllowed_0 : decode cX10_isAllowed 0 = .ok (.aload_n 0, 1) := by decide +kernel
theorem dX10_isAllowed_1 : decode cX10_isAllowed 1 = .ok (.getfield 12, 3) := by decide +kernel
theorem dX10_isAllowed_4 : decode cX10_isAllowed 4 = .ok (.aload_n 0, 1) := by decide +kernel
theorem dX10_isAllowed_5 : decode cX10_isAllowed 5 = .ok (.getfield 56, 3) := by decide +kernel
theorem dX10_isAllowed_8 : decode cX10_isAllowed 8 = .ok (.aload_n 0, 1) := by decide +kernel
theorem dX10_isAllowed_9 : decode cX10_isAllowed 9 = .ok (.getfield 60, 3) := by decide +kernel
theorem dX10_isAllowed_12 : decode cX10_isAllowed 12 = .ok (.invokevirtual 134, 3) := by decide +kernel
theorem dX10_isAllowed_15 : decode cX10_isAllowed 15 = .ok (.ireturn, 1) := by decide +kernel
theorem dX10_isReadInOrder_0 : decode cX10_isReadInOrder 0 = .ok (.aload_n 0, 1) := by decide +kernel
theorem dX10_isReadInOrder_1 : decode cX10_isReadInOrder 1 = .ok (.iload_n 1, 1) := by decide +kernel
theorem dX10_isReadInOrder_2 : decode cX10_isReadInOrder 2 = .ok (.invokevirtual 93, 3) := by decide +kernel
theorem dX10_isReadInOrder_5 : decode cX10_isReadInOrder 5 = .ok (.aload_n 0, 1) := by decide +kernel
theorem dX10_isReadInOrder_6 : decode cX10_isReadInOrder 6 = .ok (.getfield 12, 3) := by decide +kernel
theorem dX10_isReadInOrder_9 : decode cX10_isReadInOrder 9 = .ok (.getfield 67, 3) := by decide +kernel
theorem dX10_isReadInOrder_12 : decode cX10_isReadInOrder 12 = .ok (.iload_n 1, 1) := by decide +kernel
theorem dX10_isReadInOrder_13 : decode cX10_isReadInOrder 13 = .ok (.invokevirtual 96, 3) := by decide +kernel
theorem dX10_isReadInOrder_16 : decode cX10_isReadInOrder 16 = .ok (.checkcast 84, 3) := by decide +kernel
theorem dX10_isReadInOrder_19 : decode cX10_isReadInOrder 19 = .ok (.getfield 100, 3) := by decide +kernel
theorem dX10_isReadInOrder_22 : decode cX10_isReadInOrder 22 = .ok (.astore_n 3, 1) := by decide +kernel
theorem dX10_isReadInOrder_23 : decode cX10_isReadInOrder 23 = .ok (.iload_n 2, 1) := by decide +kernel
theorem dX10_isReadInOrder_24 : decode cX10_isReadInOrder 24 = .ok (.ifCond .lt 11, 3) := by decide +kernel
theorem dX10_isReadInOrder_27 : decode cX10_isReadInOrder 27 = .ok (.iload_n 2, 1) := by decide +kernel
theorem dX10_isReadInOrder_28 : decode cX10_isReadInOrder 28 = .ok (.aload_n 3, 1) := by decide +kernel
theorem dX10_isReadInOrder_29 : decode cX10_isReadInOrder 29 = .ok (.invokevirtual 71, 3) := by decide +kernel
theorem dX10_isReadInOrder_32 : decode cX10_isReadInOrder 32 = .ok (.if_icmp .lt 13, 3) := by decide +kernel
theorem dX10_isReadInOrder_35 : decode cX10_isReadInOrder 35 = .ok (.new 138, 3) := by decide +kernel
theorem dX10_isReadInOrder_38 : decode cX10_isReadInOrder 38 = .ok (.dup, 1) := by decide +kernel
theorem dX10_isReadInOrder_39 : decode cX10_isReadInOrder 39 = .ok (.ldc 140, 2) := by decide +kernel
theorem dX10_isReadInOrder_41 : decode cX10_isReadInOrder 41 = .ok (.invokespecial 142, 3) := by decide +kernel
theorem dX10_isReadInOrder_44 : decode cX10_isReadInOrder 44 = .ok (.athrow, 1) := by decide +kernel
theorem dX10_isReadInOrder_45 : decode cX10_isReadInOrder 45 = .ok (.aload_n 0, 1) := by decide +kernel
theorem dX10_isReadInOrder_46 : decode cX10_isReadInOrder 46 = .ok (.getfield 12, 3) := by decide +kernel
theorem dX10_isReadInOrder_49 : decode cX10_isReadInOrder 49 = .ok (.iload_n 1, 1) := by decide +kernel
theorem dX10_isReadInOrder_50 : decode cX10_isReadInOrder 50 = .ok (.aload_n 3, 1) := by decide +kernel
theorem dX10_isReadInOrder_51 : decode cX10_isReadInOrder 51 = .ok (.iload_n 2, 1) := by decide +kernel
theorem dX10_isReadInOrder_52 : decode cX10_isReadInOrder 52 = .ok (.invokevirtual 96, 3) := by decide +kernel
theorem dX10_isReadInOrder_55 : decode cX10_isReadInOrder 55 = .ok (.checkcast 105, 3) := by decide +kernel
theorem dX10_isReadInOrder_58 : decode cX10_isReadInOrder 58 = .ok (.aload_n 0, 1) := by decide +kernel
theorem dX10_isReadInOrder_59 : decode cX10_isReadInOrder 59 = .ok (.getfield 56, 3) := by decide +kernel
theorem dX10_isReadInOrder_62 : decode cX10_isReadInOrder 62 = .ok (.aload_n 0, 1) := by decide +kernel
theorem dX10_isReadInOrder_63 : decode cX10_isReadInOrder 63 = .ok (.getfield 60, 3) := by decide +kernel
theorem dX10_isReadInOrder_66 : decode cX10_isReadInOrder 66 = .ok (.invokevirtual 143, 3) := by decide +kernel
theorem dX10_isReadInOrder_69 : decode cX10_isReadInOrder 69 = .ok (.ireturn, 1) := by decide +kernel
theorem dX10_steps_0 : decode cX10_steps 0 = .ok (.aload_n 0, 1) := by decide +kernel
theorem dX10_steps_1 : decode cX10_steps 1 = .ok (.getfield 12, 3) := by decide +kernel
theorem dX10_steps_4 : decode cX10_steps 4 = .ok (.invokevirtual 147, 3) := by decide +kernel
theorem dX10_steps_7 : decode cX10_steps 7 = .ok (.ireturn, 1) := by decide +kernel
theorem dX10_stepOf_0 : decode cX10_stepOf 0 = .ok (.aload_n 0, 1) := by decide +kernel
theorem dX10_stepOf_1 : decode cX10_stepOf 1 = .ok (.iload_n 1, 1) := by decide +kernel
theorem dX10_stepOf_2 : decode cX10_stepOf 2 = .ok (.iload_n 2, 1) := by decide +kernel
theorem dX10_stepOf_3 : decode cX10_stepOf 3 = .ok (.iload_n 3, 1) := by decide +kernel
theorem dX10_stepOf_4 : decode cX10_stepOf 4 = .ok (.invokevirtual 150, 3) := by decide +kernel
theorem dX10_stepOf_7 : decode cX10_stepOf 7 = .ok (.istore 4, 2) := by decide +kernel
theorem dX10_stepOf_9 : decode cX10_stepOf 9 = .ok (.aload_n 0, 1) := by decide +kernel
theorem dX10_stepOf_10 : decode cX10_stepOf 10 = .ok (.invokevirtual 154, 3) := by decide +kernel
theorem dX10_stepOf_13 : decode cX10_stepOf 13 = .ok (.getfield 158, 3) := by decide +kernel
theorem dX10_stepOf_16 : decode cX10_stepOf 16 = .ok (.iload 4, 2) := by decide +kernel
theorem dX10_stepOf_18 : decode cX10_stepOf 18 = .ok (.iaload, 1) := by decide +kernel
theorem dX10_stepOf_19 : decode cX10_stepOf 19 = .ok (.ireturn, 1) := by decide +kernel
theorem dX10_statementAt_0 : decode cX10_statementAt 0 = .ok (.aload_n 0, 1) := by decide +kernel
theorem dX10_statementAt_1 : decode cX10_statementAt 1 = .ok (.iload_n 1, 1) := by decide +kernel
theorem dX10_statementAt_2 : decode cX10_statementAt 2 = .ok (.invokevirtual 162, 3) := by decide +kernel
theorem dX10_statementAt_5 : decode cX10_statementAt 5 = .ok (.aload_n 0, 1) := by decide +kernel
theorem dX10_statementAt_6 : decode cX10_statementAt 6 = .ok (.invokevirtual 154, 3) := by decide +kernel
theorem dX10_statementAt_9 : decode cX10_statementAt 9 = .ok (.pop, 1) := by decide +kernel
theorem dX10_statementAt_10 : decode cX10_statementAt 10 = .ok (.aload_n 0, 1) := by decide +kernel
theorem dX10_statementAt_11 : decode cX10_statementAt 11 = .ok (.getfield 19, 3) := by decide +kernel
theorem dX10_statementAt_14 : decode cX10_statementAt 14 = .ok (.getfield 165, 3) := by decide +kernel
theorem dX10_statementAt_17 : decode cX10_statementAt 17 = .ok (.aload_n 0, 1) := by decide +kernel
theorem dX10_statementAt_18 : decode cX10_statementAt 18 = .ok (.getfield 19, 3) := by decide +kernel
theorem dX10_statementAt_21 : decode cX10_statementAt 21 = .ok (.getfield 168, 3) := by decide +kernel
theorem dX10_statementAt_24 : decode cX10_statementAt 24 = .ok (.iload_n 1, 1) := by decide +kernel
theorem dX10_statementAt_25 : decode cX10_statementAt 25 = .ok (.iaload, 1) := by decide +kernel
theorem dX10_statementAt_26 : decode cX10_statementAt 26 = .ok (.iaload, 1) := by decide +kernel
theorem dX10_statementAt_27 : decode cX10_statementAt 27 = .ok (.ireturn, 1) := by decide +kernel
theorem dX10_pointAt_0 : decode cX10_pointAt 0 = .ok (.aload_n 0, 1) := by decide +kernel
theorem dX10_pointAt_1 : decode cX10_pointAt 1 = .ok (.iload_n 1, 1) := by decide +kernel
theorem dX10_pointAt_2 : decode cX10_pointAt 2 = .ok (.invokevirtual 162, 3) := by decide +kernel
theorem dX10_pointAt_5 : decode cX10_pointAt 5 = .ok (.aload_n 0, 1) := by decide +kernel
theorem dX10_pointAt_6 : decode cX10_pointAt 6 = .ok (.invokevirtual 154, 3) := by decide +kernel
theorem dX10_pointAt_9 : decode cX10_pointAt 9 = .ok (.pop, 1) := by decide +kernel
theorem dX10_pointAt_10 : decode cX10_pointAt 10 = .ok (.aload_n 0, 1) := by decide +kernel
theorem dX10_pointAt_11 : decode cX10_pointAt 11 = .ok (.getfield 19, 3) := by decide +kernel
theorem dX10_pointAt_14 : decode cX10_pointAt 14 = .ok (.getfield 168, 3) := by decide +kernel
theorem dX10_pointAt_17 : decode cX10_pointAt 17 = .ok (.iload_n 1, 1) := by decide +kernel
theorem dX10_pointAt_18 : decode cX10_pointAt 18 = .ok (.iaload, 1) := by decide +kernel
theorem dX10_pointAt_19 : decode cX10_pointAt 19 = .ok (.istore_n 2, 1) := by decide +kernel
theorem dX10_pointAt_20 : decode cX10_pointAt 20 = .ok (.iload_n 2, 1) := by decide +kernel
theorem dX10_pointAt_21 : decode cX10_pointAt 21 = .ok (.aload_n 0, 1) := by decide +kernel
theorem dX10_pointAt_22 : decode cX10_pointAt 22 = .ok (.getfield 12, 3) := by decide +kernel
theorem dX10_pointAt_25 : decode cX10_pointAt 25 = .ok (.aload_n 0, 1) := by decide +kernel
theorem dX10_pointAt_26 : decode cX10_pointAt 26 = .ok (.getfield 19, 3) := by decide +kernel
theorem dX10_pointAt_29 : decode cX10_pointAt 29 = .ok (.getfield 165, 3) := by decide +kernel
theorem dX10_pointAt_32 : decode cX10_pointAt 32 = .ok (.iload_n 2, 1) := by decide +kernel
theorem dX10_pointAt_33 : decode cX10_pointAt 33 = .ok (.iaload, 1) := by decide +kernel
theorem dX10_pointAt_34 : decode cX10_pointAt 34 = .ok (.invokevirtual 171, 3) := by decide +kernel
theorem dX10_pointAt_37 : decode cX10_pointAt 37 = .ok (.isub, 1) := by decide +kernel
theorem dX10_pointAt_38 : decode cX10_pointAt 38 = .ok (.ireturn, 1) := by decide +kernel
theorem dX10_endOf_0 : decode cX10_endOf 0 = .ok (.aload_n 0, 1) := by decide +kernel
theorem dX10_endOf_1 : decode cX10_endOf 1 = .ok (.iload_n 1, 1) := by decide +kernel
theorem dX10_endOf_2 : decode cX10_endOf 2 = .ok (.iload_n 2, 1) := by decide +kernel
theorem dX10_endOf_3 : decode cX10_endOf 3 = .ok (.iload_n 3, 1) := by decide +kernel
theorem dX10_endOf_4 : decode cX10_endOf 4 = .ok (.invokevirtual 150, 3) := by decide +kernel
theorem dX10_endOf_7 : decode cX10_endOf 7 = .ok (.istore 4, 2) := by decide +kernel
theorem dX10_endOf_9 : decode cX10_endOf 9 = .ok (.aload_n 0, 1) := by decide +kernel
theorem dX10_endOf_10 : decode cX10_endOf 10 = .ok (.invokevirtual 154, 3) := by decide +kernel
theorem dX10_endOf_13 : decode cX10_endOf 13 = .ok (.getfield 175, 3) := by decide +kernel
theorem dX10_endOf_16 : decode cX10_endOf 16 = .ok (.iload 4, 2) := by decide +kernel
theorem dX10_endOf_18 : decode cX10_endOf 18 = .ok (.iaload, 1) := by decide +kernel
theorem dX10_endOf_19 : decode cX10_endOf 19 = .ok (.ireturn, 1) := by decide +kernel
theorem dX10_liveAt_0 : decode cX10_liveAt 0 = .ok (.aload_n 0, 1) := by decide +kernel
theorem dX10_liveAt_1 : decode cX10_liveAt 1 = .ok (.iload_n 1, 1) := by decide +kernel
theorem dX10_liveAt_2 : decode cX10_liveAt 2 = .ok (.invokevirtual 162, 3) := by decide +kernel
theorem dX10_liveAt_5 : decode cX10_liveAt 5 = .ok (.aload_n 0, 1) := by decide +kernel
theorem dX10_liveAt_6 : decode cX10_liveAt 6 = .ok (.invokevirtual 154, 3) := by decide +kernel
theorem dX10_liveAt_9 : decode cX10_liveAt 9 = .ok (.iload_n 1, 1) := by decide +kernel
theorem dX10_liveAt_10 : decode cX10_liveAt 10 = .ok (.invokevirtual 178, 3) := by decide +kernel
theorem dX10_liveAt_13 : decode cX10_liveAt 13 = .ok (.ireturn, 1) := by decide +kernel
theorem dX10_mostLive_0 : decode cX10_mostLive 0 = .ok (.aload_n 0, 1) := by decide +kernel
theorem dX10_mostLive_1 : decode cX10_mostLive 1 = .ok (.invokevirtual 154, 3) := by decide +kernel
theorem dX10_mostLive_4 : decode cX10_mostLive 4 = .ok (.iconst 0, 1) := by decide +kernel
theorem dX10_mostLive_5 : decode cX10_mostLive 5 = .ok (.aload_n 0, 1) := by decide +kernel
theorem dX10_mostLive_6 : decode cX10_mostLive 6 = .ok (.getfield 12, 3) := by decide +kernel
theorem dX10_mostLive_9 : decode cX10_mostLive 9 = .ok (.invokevirtual 147, 3) := by decide +kernel
theorem dX10_mostLive_12 : decode cX10_mostLive 12 = .ok (.invokevirtual 181, 3) := by decide +kernel
theorem dX10_mostLive_15 : decode cX10_mostLive 15 = .ok (.ireturn, 1) := by decide +kernel
theorem dX10_mostLiveOf_0 : decode cX10_mostLiveOf 0 = .ok (.aload_n 0, 1) := by decide +kernel
theorem dX10_mostLiveOf_1 : decode cX10_mostLiveOf 1 = .ok (.iload_n 1, 1) := by decide +kernel
theorem dX10_mostLiveOf_2 : decode cX10_mostLiveOf 2 = .ok (.invokevirtual 93, 3) := by decide +kernel
theorem dX10_mostLiveOf_5 : decode cX10_mostLiveOf 5 = .ok (.aload_n 0, 1) := by decide +kernel
theorem dX10_mostLiveOf_6 : decode cX10_mostLiveOf 6 = .ok (.invokevirtual 154, 3) := by decide +kernel
theorem dX10_mostLiveOf_9 : decode cX10_mostLiveOf 9 = .ok (.aload_n 0, 1) := by decide +kernel
theorem dX10_mostLiveOf_10 : decode cX10_mostLiveOf 10 = .ok (.getfield 12, 3) := by decide +kernel
theorem dX10_mostLiveOf_13 : decode cX10_mostLiveOf 13 = .ok (.iload_n 1, 1) := by decide +kernel
theorem dX10_mostLiveOf_14 : decode cX10_mostLiveOf 14 = .ok (.invokevirtual 171, 3) := by decide +kernel
theorem dX10_mostLiveOf_17 : decode cX10_mostLiveOf 17 = .ok (.aload_n 0, 1) := by decide +kernel
theorem dX10_mostLiveOf_18 : decode cX10_mostLiveOf 18 = .ok (.getfield 12, 3) := by decide +kernel
theorem dX10_mostLiveOf_21 : decode cX10_mostLiveOf 21 = .ok (.iload_n 1, 1) := by decide +kernel
theorem dX10_mostLiveOf_22 : decode cX10_mostLiveOf 22 = .ok (.iconst 1, 1) := by decide +kernel
theorem dX10_mostLiveOf_23 : decode cX10_mostLiveOf 23 = .ok (.iadd, 1) := by decide +kernel
theorem dX10_mostLiveOf_24 : decode cX10_mostLiveOf 24 = .ok (.invokevirtual 171, 3) := by decide +kernel
theorem dX10_mostLiveOf_27 : decode cX10_mostLiveOf 27 = .ok (.invokevirtual 181, 3) := by decide +kernel
theorem dX10_mostLiveOf_30 : decode cX10_mostLiveOf 30 = .ok (.ireturn, 1) := by decide +kernel
theorem dX10_conflictsOf_0 : decode cX10_conflictsOf 0 = .ok (.aload_n 0, 1) := by decide +kernel
theorem dX10_conflictsOf_1 : decode cX10_conflictsOf 1 = .ok (.iload_n 1, 1) := by decide +kernel
theorem dX10_conflictsOf_2 : decode cX10_conflictsOf 2 = .ok (.iload_n 2, 1) := by decide +kernel
theorem dX10_conflictsOf_3 : decode cX10_conflictsOf 3 = .ok (.iload_n 3, 1) := by decide +kernel
theorem dX10_conflictsOf_4 : decode cX10_conflictsOf 4 = .ok (.invokevirtual 150, 3) := by decide +kernel
theorem dX10_conflictsOf_7 : decode cX10_conflictsOf 7 = .ok (.istore 5, 2) := by decide +kernel
theorem dX10_conflictsOf_9 : decode cX10_conflictsOf 9 = .ok (.aload_n 0, 1) := by decide +kernel
theorem dX10_conflictsOf_10 : decode cX10_conflictsOf 10 = .ok (.iload 4, 2) := by decide +kernel
theorem dX10_conflictsOf_12 : decode cX10_conflictsOf 12 = .ok (.invokevirtual 93, 3) := by decide +kernel
theorem dX10_conflictsOf_15 : decode cX10_conflictsOf 15 = .ok (.aload_n 0, 1) := by decide +kernel
theorem dX10_conflictsOf_16 : decode cX10_conflictsOf 16 = .ok (.invokevirtual 154, 3) := by decide +kernel
theorem dX10_conflictsOf_19 : decode cX10_conflictsOf 19 = .ok (.iload 5, 2) := by decide +kernel
theorem dX10_conflictsOf_21 : decode cX10_conflictsOf 21 = .ok (.aload_n 0, 1) := by decide +kernel
theorem dX10_conflictsOf_22 : decode cX10_conflictsOf 22 = .ok (.getfield 12, 3) := by decide +kernel
theorem dX10_conflictsOf_25 : decode cX10_conflictsOf 25 = .ok (.iload 4, 2) := by decide +kernel
theorem dX10_conflictsOf_27 : decode cX10_conflictsOf 27 = .ok (.invokevirtual 171, 3) := by decide +kernel
theorem dX10_conflictsOf_30 : decode cX10_conflictsOf 30 = .ok (.aload_n 0, 1) := by decide +kernel
theorem dX10_conflictsOf_31 : decode cX10_conflictsOf 31 = .ok (.getfield 12, 3) := by decide +kernel
theorem dX10_conflictsOf_34 : decode cX10_conflictsOf 34 = .ok (.iload 4, 2) := by decide +kernel
theorem dX10_conflictsOf_36 : decode cX10_conflictsOf 36 = .ok (.iconst 1, 1) := by decide +kernel
theorem dX10_conflictsOf_37 : decode cX10_conflictsOf 37 = .ok (.iadd, 1) := by decide +kernel
theorem dX10_conflictsOf_38 : decode cX10_conflictsOf 38 = .ok (.invokevirtual 171, 3) := by decide +kernel
theorem dX10_conflictsOf_41 : decode cX10_conflictsOf 41 = .ok (.invokevirtual 185, 3) := by decide +kernel
theorem dX10_conflictsOf_44 : decode cX10_conflictsOf 44 = .ok (.ireturn, 1) := by decide +kernel
theorem dX10_conflictPairs_0 : decode cX10_conflictPairs 0 = .ok (.aload_n 0, 1) := by decide +kernel
theorem dX10_conflictPairs_1 : decode cX10_conflictPairs 1 = .ok (.iload_n 1, 1) := by decide +kernel
theorem dX10_conflictPairs_2 : decode cX10_conflictPairs 2 = .ok (.invokevirtual 93, 3) := by decide +kernel
theorem dX10_conflictPairs_5 : decode cX10_conflictPairs 5 = .ok (.aload_n 0, 1) := by decide +kernel
theorem dX10_conflictPairs_6 : decode cX10_conflictPairs 6 = .ok (.invokevirtual 154, 3) := by decide +kernel
theorem dX10_conflictPairs_9 : decode cX10_conflictPairs 9 = .ok (.pop, 1) := by decide +kernel
theorem dX10_conflictPairs_10 : decode cX10_conflictPairs 10 = .ok (.iconst 0, 1) := by decide +kernel
theorem dX10_conflictPairs_11 : decode cX10_conflictPairs 11 = .ok (.istore_n 2, 1) := by decide +kernel
theorem dX10_conflictPairs_12 : decode cX10_conflictPairs 12 = .ok (.aload_n 0, 1) := by decide +kernel
theorem dX10_conflictPairs_13 : decode cX10_conflictPairs 13 = .ok (.getfield 12, 3) := by decide +kernel
theorem dX10_conflictPairs_16 : decode cX10_conflictPairs 16 = .ok (.iload_n 1, 1) := by decide +kernel
theorem dX10_conflictPairs_17 : decode cX10_conflictPairs 17 = .ok (.iconst 1, 1) := by decide +kernel
theorem dX10_conflictPairs_18 : decode cX10_conflictPairs 18 = .ok (.iadd, 1) := by decide +kernel
theorem dX10_conflictPairs_19 : decode cX10_conflictPairs 19 = .ok (.invokevirtual 171, 3) := by decide +kernel
theorem dX10_conflictPairs_22 : decode cX10_conflictPairs 22 = .ok (.istore_n 3, 1) := by decide +kernel
theorem dX10_conflictPairs_23 : decode cX10_conflictPairs 23 = .ok (.aload_n 0, 1) := by decide +kernel
theorem dX10_conflictPairs_24 : decode cX10_conflictPairs 24 = .ok (.getfield 12, 3) := by decide +kernel
theorem dX10_conflictPairs_27 : decode cX10_conflictPairs 27 = .ok (.iload_n 1, 1) := by decide +kernel
theorem dX10_conflictPairs_28 : decode cX10_conflictPairs 28 = .ok (.invokevirtual 171, 3) := by decide +kernel
theorem dX10_conflictPairs_31 : decode cX10_conflictPairs 31 = .ok (.istore 4, 2) := by decide +kernel
theorem dX10_conflictPairs_33 : decode cX10_conflictPairs 33 = .ok (.iload 4, 2) := by decide +kernel
theorem dX10_conflictPairs_35 : decode cX10_conflictPairs 35 = .ok (.iload_n 3, 1) := by decide +kernel
theorem dX10_conflictPairs_36 : decode cX10_conflictPairs 36 = .ok (.if_icmp .ge 26, 3) := by decide +kernel
theorem dX10_conflictPairs_39 : decode cX10_conflictPairs 39 = .ok (.iload_n 2, 1) := by decide +kernel
theorem dX10_conflictPairs_40 : decode cX10_conflictPairs 40 = .ok (.aload_n 0, 1) := by decide +kernel
theorem dX10_conflictPairs_41 : decode cX10_conflictPairs 41 = .ok (.getfield 19, 3) := by decide +kernel
theorem dX10_conflictPairs_44 : decode cX10_conflictPairs 44 = .ok (.iload 4, 2) := by decide +kernel
theorem dX10_conflictPairs_46 : decode cX10_conflictPairs 46 = .ok (.iload 4, 2) := by decide +kernel
theorem dX10_conflictPairs_48 : decode cX10_conflictPairs 48 = .ok (.iconst 1, 1) := by decide +kernel
theorem dX10_conflictPairs_49 : decode cX10_conflictPairs 49 = .ok (.iadd, 1) := by decide +kernel
theorem dX10_conflictPairs_50 : decode cX10_conflictPairs 50 = .ok (.iload_n 3, 1) := by decide +kernel
theorem dX10_conflictPairs_51 : decode cX10_conflictPairs 51 = .ok (.invokevirtual 185, 3) := by decide +kernel
theorem dX10_conflictPairs_54 : decode cX10_conflictPairs 54 = .ok (.iadd, 1) := by decide +kernel
theorem dX10_conflictPairs_55 : decode cX10_conflictPairs 55 = .ok (.istore_n 2, 1) := by decide +kernel
theorem dX10_conflictPairs_56 : decode cX10_conflictPairs 56 = .ok (.iinc 4 1, 3) := by decide +kernel
theorem dX10_conflictPairs_59 : decode cX10_conflictPairs 59 = .ok (.goto (-26), 3) := by decide +kernel
theorem dX10_conflictPairs_62 : decode cX10_conflictPairs 62 = .ok (.iload_n 2, 1) := by decide +kernel
theorem dX10_conflictPairs_63 : decode cX10_conflictPairs 63 = .ok (.ireturn, 1) := by decide +kernel
theorem dX10_keepWhole_0 : decode cX10_keepWhole 0 = .ok (.aload_n 0, 1) := by decide +kernel
theorem dX10_keepWhole_1 : decode cX10_keepWhole 1 = .ok (.iload_n 1, 1) := by decide +kernel
theorem dX10_keepWhole_2 : decode cX10_keepWhole 2 = .ok (.invokevirtual 93, 3) := by decide +kernel
theorem dX10_keepWhole_5 : decode cX10_keepWhole 5 = .ok (.aload_n 0, 1) := by decide +kernel
theorem dX10_keepWhole_6 : decode cX10_keepWhole 6 = .ok (.getfield 12, 3) := by decide +kernel
theorem dX10_keepWhole_9 : decode cX10_keepWhole 9 = .ok (.getfield 67, 3) := by decide +kernel
theorem dX10_keepWhole_12 : decode cX10_keepWhole 12 = .ok (.iload_n 1, 1) := by decide +kernel
theorem dX10_keepWhole_13 : decode cX10_keepWhole 13 = .ok (.invokevirtual 96, 3) := by decide +kernel
theorem dX10_keepWhole_16 : decode cX10_keepWhole 16 = .ok (.checkcast 84, 3) := by decide +kernel
theorem dX10_keepWhole_19 : decode cX10_keepWhole 19 = .ok (.getfield 188, 3) := by decide +kernel
theorem dX10_keepWhole_22 : decode cX10_keepWhole 22 = .ok (.invokevirtual 191, 3) := by decide +kernel
theorem dX10_keepWhole_25 : decode cX10_keepWhole 25 = .ok (.aload_n 0, 1) := by decide +kernel
theorem dX10_keepWhole_26 : decode cX10_keepWhole 26 = .ok (.iload_n 1, 1) := by decide +kernel
theorem dX10_keepWhole_27 : decode cX10_keepWhole 27 = .ok (.invokevirtual 194, 3) := by decide +kernel
theorem dX10_keepWhole_30 : decode cX10_keepWhole 30 = .ok (.ireturn, 1) := by decide +kernel
theorem dX10_keepRest_0 : decode cX10_keepRest 0 = .ok (.aload_n 0, 1) := by decide +kernel
theorem dX10_keepRest_1 : decode cX10_keepRest 1 = .ok (.iload_n 1, 1) := by decide +kernel
theorem dX10_keepRest_2 : decode cX10_keepRest 2 = .ok (.invokevirtual 93, 3) := by decide +kernel
theorem dX10_keepRest_5 : decode cX10_keepRest 5 = .ok (.iload_n 2, 1) := by decide +kernel
theorem dX10_keepRest_6 : decode cX10_keepRest 6 = .ok (.iconst 1, 1) := by decide +kernel
theorem dX10_keepRest_7 : decode cX10_keepRest 7 = .ok (.bipush 99, 2) := by decide +kernel
theorem dX10_keepRest_9 : decode cX10_keepRest 9 = .ok (.invokestatic 63, 3) := by decide +kernel
theorem dX10_keepRest_12 : decode cX10_keepRest 12 = .ok (.aload_n 0, 1) := by decide +kernel
theorem dX10_keepRest_13 : decode cX10_keepRest 13 = .ok (.getfield 12, 3) := by decide +kernel
theorem dX10_keepRest_16 : decode cX10_keepRest 16 = .ok (.getfield 67, 3) := by decide +kernel
theorem dX10_keepRest_19 : decode cX10_keepRest 19 = .ok (.iload_n 1, 1) := by decide +kernel
theorem dX10_keepRest_20 : decode cX10_keepRest 20 = .ok (.invokevirtual 96, 3) := by decide +kernel
theorem dX10_keepRest_23 : decode cX10_keepRest 23 = .ok (.checkcast 84, 3) := by decide +kernel
theorem dX10_keepRest_26 : decode cX10_keepRest 26 = .ok (.getfield 188, 3) := by decide +kernel
theorem dX10_keepRest_29 : decode cX10_keepRest 29 = .ok (.iload_n 2, 1) := by decide +kernel
theorem dX10_keepRest_30 : decode cX10_keepRest 30 = .ok (.invokevirtual 197, 3) := by decide +kernel
theorem dX10_keepRest_33 : decode cX10_keepRest 33 = .ok (.aload_n 0, 1) := by decide +kernel
theorem dX10_keepRest_34 : decode cX10_keepRest 34 = .ok (.iload_n 1, 1) := by decide +kernel
theorem dX10_keepRest_35 : decode cX10_keepRest 35 = .ok (.invokevirtual 194, 3) := by decide +kernel
theorem dX10_keepRest_38 : decode cX10_keepRest 38 = .ok (.ireturn, 1) := by decide +kernel
theorem dX10_keepTwoRests_0 : decode cX10_keepTwoRests 0 = .ok (.aload_n 0, 1) := by decide +kernel
theorem dX10_keepTwoRests_1 : decode cX10_keepTwoRests 1 = .ok (.iload_n 1, 1) := by decide +kernel
theorem dX10_keepTwoRests_2 : decode cX10_keepTwoRests 2 = .ok (.invokevirtual 93, 3) := by decide +kernel
theorem dX10_keepTwoRests_5 : decode cX10_keepTwoRests 5 = .ok (.iload_n 2, 1) := by decide +kernel
theorem dX10_keepTwoRests_6 : decode cX10_keepTwoRests 6 = .ok (.iconst 1, 1) := by decide +kernel
theorem dX10_keepTwoRests_7 : decode cX10_keepTwoRests 7 = .ok (.bipush 99, 2) := by decide +kernel
theorem dX10_keepTwoRests_9 : decode cX10_keepTwoRests 9 = .ok (.invokestatic 63, 3) := by decide +kernel
theorem dX10_keepTwoRests_12 : decode cX10_keepTwoRests 12 = .ok (.iload_n 3, 1) := by decide +kernel
theorem dX10_keepTwoRests_13 : decode cX10_keepTwoRests 13 = .ok (.iconst 1, 1) := by decide +kernel
theorem dX10_keepTwoRests_14 : decode cX10_keepTwoRests 14 = .ok (.bipush 99, 2) := by decide +kernel
theorem dX10_keepTwoRests_16 : decode cX10_keepTwoRests 16 = .ok (.invokestatic 63, 3) := by decide +kernel
theorem dX10_keepTwoRests_19 : decode cX10_keepTwoRests 19 = .ok (.aload_n 0, 1) := by decide +kernel
theorem dX10_keepTwoRests_20 : decode cX10_keepTwoRests 20 = .ok (.getfield 12, 3) := by decide +kernel
theorem dX10_keepTwoRests_23 : decode cX10_keepTwoRests 23 = .ok (.getfield 67, 3) := by decide +kernel
theorem dX10_keepTwoRests_26 : decode cX10_keepTwoRests 26 = .ok (.iload_n 1, 1) := by decide +kernel
theorem dX10_keepTwoRests_27 : decode cX10_keepTwoRests 27 = .ok (.invokevirtual 96, 3) := by decide +kernel
theorem dX10_keepTwoRests_30 : decode cX10_keepTwoRests 30 = .ok (.checkcast 84, 3) := by decide +kernel
theorem dX10_keepTwoRests_33 : decode cX10_keepTwoRests 33 = .ok (.getfield 188, 3) := by decide +kernel
theorem dX10_keepTwoRests_36 : decode cX10_keepTwoRests 36 = .ok (.iload_n 2, 1) := by decide +kernel
theorem dX10_keepTwoRests_37 : decode cX10_keepTwoRests 37 = .ok (.iload_n 3, 1) := by decide +kernel
theorem dX10_keepTwoRests_38 : decode cX10_keepTwoRests 38 = .ok (.invokevirtual 200, 3) := by decide +kernel
theorem dX10_keepTwoRests_41 : decode cX10_keepTwoRests 41 = .ok (.aload_n 0, 1) := by decide +kernel
theorem dX10_keepTwoRests_42 : decode cX10_keepTwoRests 42 = .ok (.iload_n 1, 1) := by decide +kernel
theorem dX10_keepTwoRests_43 : decode cX10_keepTwoRests 43 = .ok (.invokevirtual 194, 3) := by decide +kernel
theorem dX10_keepTwoRests_46 : decode cX10_keepTwoRests 46 = .ok (.ireturn, 1) := by decide +kernel
theorem dX10_keepSlant_0 : decode cX10_keepSlant 0 = .ok (.aload_n 0, 1) := by decide +kernel
theorem dX10_keepSlant_1 : decode cX10_keepSlant 1 = .ok (.iload_n 1, 1) := by decide +kernel
theorem dX10_keepSlant_2 : decode cX10_keepSlant 2 = .ok (.invokevirtual 93, 3) := by decide +kernel
theorem dX10_keepSlant_5 : decode cX10_keepSlant 5 = .ok (.iload_n 2, 1) := by decide +kernel
theorem dX10_keepSlant_6 : decode cX10_keepSlant 6 = .ok (.iconst 0, 1) := by decide +kernel
theorem dX10_keepSlant_7 : decode cX10_keepSlant 7 = .ok (.bipush 9, 2) := by decide +kernel
theorem dX10_keepSlant_9 : decode cX10_keepSlant 9 = .ok (.invokestatic 63, 3) := by decide +kernel
theorem dX10_keepSlant_12 : decode cX10_keepSlant 12 = .ok (.iload_n 3, 1) := by decide +kernel
theorem dX10_keepSlant_13 : decode cX10_keepSlant 13 = .ok (.iconst 1, 1) := by decide +kernel
theorem dX10_keepSlant_14 : decode cX10_keepSlant 14 = .ok (.bipush 99, 2) := by decide +kernel
theorem dX10_keepSlant_16 : decode cX10_keepSlant 16 = .ok (.invokestatic 63, 3) := by decide +kernel
theorem dX10_keepSlant_19 : decode cX10_keepSlant 19 = .ok (.aload_n 0, 1) := by decide +kernel
theorem dX10_keepSlant_20 : decode cX10_keepSlant 20 = .ok (.getfield 12, 3) := by decide +kernel
theorem dX10_keepSlant_23 : decode cX10_keepSlant 23 = .ok (.getfield 67, 3) := by decide +kernel
theorem dX10_keepSlant_26 : decode cX10_keepSlant 26 = .ok (.iload_n 1, 1) := by decide +kernel
theorem dX10_keepSlant_27 : decode cX10_keepSlant 27 = .ok (.invokevirtual 96, 3) := by decide +kernel
theorem dX10_keepSlant_30 : decode cX10_keepSlant 30 = .ok (.checkcast 84, 3) := by decide +kernel
theorem dX10_keepSlant_33 : decode cX10_keepSlant 33 = .ok (.getfield 188, 3) := by decide +kernel
theorem dX10_keepSlant_36 : decode cX10_keepSlant 36 = .ok (.iload_n 2, 1) := by decide +kernel
theorem dX10_keepSlant_37 : decode cX10_keepSlant 37 = .ok (.iload_n 3, 1) := by decide +kernel
theorem dX10_keepSlant_38 : decode cX10_keepSlant 38 = .ok (.invokevirtual 203, 3) := by decide +kernel
theorem dX10_keepSlant_41 : decode cX10_keepSlant 41 = .ok (.aload_n 0, 1) := by decide +kernel
theorem dX10_keepSlant_42 : decode cX10_keepSlant 42 = .ok (.iload_n 1, 1) := by decide +kernel
theorem dX10_keepSlant_43 : decode cX10_keepSlant 43 = .ok (.invokevirtual 194, 3) := by decide +kernel
theorem dX10_keepSlant_46 : decode cX10_keepSlant 46 = .ok (.ireturn, 1) := by decide +kernel
theorem dX10_contract_0 : decode cX10_contract 0 = .ok (.aload_n 0, 1) := by decide +kernel
theorem dX10_contract_1 : decode cX10_contract 1 = .ok (.invokevirtual 154, 3) := by decide +kernel
theorem dX10_contract_4 : decode cX10_contract 4 = .ok (.pop, 1) := by decide +kernel
theorem dX10_contract_5 : decode cX10_contract 5 = .ok (.iconst 0, 1) := by decide +kernel
theorem dX10_contract_6 : decode cX10_contract 6 = .ok (.istore_n 1, 1) := by decide +kernel
theorem dX10_contract_7 : decode cX10_contract 7 = .ok (.iload_n 1, 1) := by decide +kernel
theorem dX10_contract_8 : decode cX10_contract 8 = .ok (.aload_n 0, 1) := by decide +kernel
theorem dX10_contract_9 : decode cX10_contract 9 = .ok (.getfield 12, 3) := by decide +kernel
theorem dX10_contract_12 : decode cX10_contract 12 = .ok (.getfield 67, 3) := by decide +kernel
theorem dX10_contract_15 : decode cX10_contract 15 = .ok (.invokevirtual 71, 3) := by decide +kernel
theorem dX10_contract_18 : decode cX10_contract 18 = .ok (.if_icmp .ge 35, 3) := by decide +kernel
theorem dX10_contract_21 : decode cX10_contract 21 = .ok (.aload_n 0, 1) := by decide +kernel
theorem dX10_contract_22 : decode cX10_contract 22 = .ok (.iload_n 1, 1) := by decide +kernel
theorem dX10_contract_23 : decode cX10_contract 23 = .ok (.invokevirtual 206, 3) := by decide +kernel
theorem dX10_contract_26 : decode cX10_contract 26 = .ok (.aload_n 0, 1) := by decide +kernel
theorem dX10_contract_27 : decode cX10_contract 27 = .ok (.aload_n 0, 1) := by decide +kernel
theorem dX10_contract_28 : decode cX10_contract 28 = .ok (.getfield 12, 3) := by decide +kernel
theorem dX10_contract_31 : decode cX10_contract 31 = .ok (.getfield 67, 3) := by decide +kernel
theorem dX10_contract_34 : decode cX10_contract 34 = .ok (.iload_n 1, 1) := by decide +kernel
theorem dX10_contract_35 : decode cX10_contract 35 = .ok (.invokevirtual 96, 3) := by decide +kernel
theorem dX10_contract_38 : decode cX10_contract 38 = .ok (.checkcast 84, 3) := by decide +kernel
theorem dX10_contract_41 : decode cX10_contract 41 = .ok (.getfield 188, 3) := by decide +kernel
theorem dX10_contract_44 : decode cX10_contract 44 = .ok (.invokevirtual 209, 3) := by decide +kernel
theorem dX10_contract_47 : decode cX10_contract 47 = .ok (.iinc 1 1, 3) := by decide +kernel
theorem dX10_contract_50 : decode cX10_contract 50 = .ok (.goto (-43), 3) := by decide +kernel
theorem dX10_contract_53 : decode cX10_contract 53 = .ok (.aload_n 0, 1) := by decide +kernel
theorem dX10_contract_54 : decode cX10_contract 54 = .ok (.invokevirtual 213, 3) := by decide +kernel
theorem dX10_contract_57 : decode cX10_contract 57 = .ok (.ireturn, 1) := by decide +kernel
theorem dX10_windowSize_0 : decode cX10_windowSize 0 = .ok (.aload_n 0, 1) := by decide +kernel
theorem dX10_windowSize_1 : decode cX10_windowSize 1 = .ok (.iload_n 1, 1) := by decide +kernel
theorem dX10_windowSize_2 : decode cX10_windowSize 2 = .ok (.invokevirtual 93, 3) := by decide +kernel
theorem dX10_windowSize_5 : decode cX10_windowSize 5 = .ok (.aload_n 0, 1) := by decide +kernel
theorem dX10_windowSize_6 : decode cX10_windowSize 6 = .ok (.iload_n 1, 1) := by decide +kernel
theorem dX10_windowSize_7 : decode cX10_windowSize 7 = .ok (.invokevirtual 194, 3) := by decide +kernel
theorem dX10_windowSize_10 : decode cX10_windowSize 10 = .ok (.ireturn, 1) := by decide +kernel
theorem dX10_room_0 : decode cX10_room 0 = .ok (.iconst 0, 1) := by decide +kernel
theorem dX10_room_1 : decode cX10_room 1 = .ok (.istore_n 1, 1) := by decide +kernel
theorem dX10_room_2 : decode cX10_room 2 = .ok (.iconst 0, 1) := by decide +kernel
theorem dX10_room_3 : decode cX10_room 3 = .ok (.istore_n 2, 1) := by decide +kernel
theorem dX10_room_4 : decode cX10_room 4 = .ok (.iload_n 2, 1) := by decide +kernel
theorem dX10_room_5 : decode cX10_room 5 = .ok (.aload_n 0, 1) := by decide +kernel
theorem dX10_room_6 : decode cX10_room 6 = .ok (.getfield 12, 3) := by decide +kernel
theorem dX10_room_9 : decode cX10_room 9 = .ok (.getfield 67, 3) := by decide +kernel
theorem dX10_room_12 : decode cX10_room 12 = .ok (.invokevirtual 71, 3) := by decide +kernel
theorem dX10_room_15 : decode cX10_room 15 = .ok (.if_icmp .ge 17, 3) := by decide +kernel
theorem dX10_room_18 : decode cX10_room 18 = .ok (.iload_n 1, 1) := by decide +kernel
theorem dX10_room_19 : decode cX10_room 19 = .ok (.aload_n 0, 1) := by decide +kernel
theorem dX10_room_20 : decode cX10_room 20 = .ok (.iload_n 2, 1) := by decide +kernel
theorem dX10_room_21 : decode cX10_room 21 = .ok (.invokevirtual 194, 3) := by decide +kernel
theorem dX10_room_24 : decode cX10_room 24 = .ok (.iadd, 1) := by decide +kernel
theorem dX10_room_25 : decode cX10_room 25 = .ok (.istore_n 1, 1) := by decide +kernel
theorem dX10_room_26 : decode cX10_room 26 = .ok (.iinc 2 1, 3) := by decide +kernel
theorem dX10_room_29 : decode cX10_room 29 = .ok (.goto (-25), 3) := by decide +kernel
theorem dX10_room_32 : decode cX10_room 32 = .ok (.iload_n 1, 1) := by decide +kernel
theorem dX10_room_33 : decode cX10_room 33 = .ok (.ireturn, 1) := by decide +kernel
theorem dX10_placeOf_0 : decode cX10_placeOf 0 = .ok (.aload_n 0, 1) := by decide +kernel
theorem dX10_placeOf_1 : decode cX10_placeOf 1 = .ok (.iload_n 1, 1) := by decide +kernel
theorem dX10_placeOf_2 : decode cX10_placeOf 2 = .ok (.invokevirtual 93, 3) := by decide +kernel
theorem dX10_placeOf_5 : decode cX10_placeOf 5 = .ok (.aload_n 0, 1) := by decide +kernel
theorem dX10_placeOf_6 : decode cX10_placeOf 6 = .ok (.iload_n 2, 1) := by decide +kernel
theorem dX10_placeOf_7 : decode cX10_placeOf 7 = .ok (.iload_n 3, 1) := by decide +kernel
theorem dX10_placeOf_8 : decode cX10_placeOf 8 = .ok (.invokevirtual 216, 3) := by decide +kernel
theorem dX10_placeOf_11 : decode cX10_placeOf 11 = .ok (.aload_n 0, 1) := by decide +kernel
theorem dX10_placeOf_12 : decode cX10_placeOf 12 = .ok (.getfield 12, 3) := by decide +kernel
theorem dX10_placeOf_15 : decode cX10_placeOf 15 = .ok (.getfield 67, 3) := by decide +kernel
theorem dX10_placeOf_18 : decode cX10_placeOf 18 = .ok (.iload_n 1, 1) := by decide +kernel
theorem dX10_placeOf_19 : decode cX10_placeOf 19 = .ok (.invokevirtual 96, 3) := by decide +kernel
theorem dX10_placeOf_22 : decode cX10_placeOf 22 = .ok (.checkcast 84, 3) := by decide +kernel
theorem dX10_placeOf_25 : decode cX10_placeOf 25 = .ok (.getfield 188, 3) := by decide +kernel
theorem dX10_placeOf_28 : decode cX10_placeOf 28 = .ok (.iload_n 2, 1) := by decide +kernel
theorem dX10_placeOf_29 : decode cX10_placeOf 29 = .ok (.iload_n 3, 1) := by decide +kernel
theorem dX10_placeOf_30 : decode cX10_placeOf 30 = .ok (.aload_n 0, 1) := by decide +kernel
theorem dX10_placeOf_31 : decode cX10_placeOf 31 = .ok (.getfield 12, 3) := by decide +kernel
theorem dX10_placeOf_34 : decode cX10_placeOf 34 = .ok (.getfield 219, 3) := by decide +kernel
theorem dX10_placeOf_37 : decode cX10_placeOf 37 = .ok (.invokevirtual 222, 3) := by decide +kernel
theorem dX10_placeOf_40 : decode cX10_placeOf 40 = .ok (.ireturn, 1) := by decide +kernel
theorem dX10_isRight_0 : decode cX10_isRight 0 = .ok (.aload_n 0, 1) := by decide +kernel
theorem dX10_isRight_1 : decode cX10_isRight 1 = .ok (.iload_n 1, 1) := by decide +kernel
theorem dX10_isRight_2 : decode cX10_isRight 2 = .ok (.invokevirtual 93, 3) := by decide +kernel
theorem dX10_isRight_5 : decode cX10_isRight 5 = .ok (.aload_n 0, 1) := by decide +kernel
theorem dX10_isRight_6 : decode cX10_isRight 6 = .ok (.invokevirtual 154, 3) := by decide +kernel
theorem dX10_isRight_9 : decode cX10_isRight 9 = .ok (.pop, 1) := by decide +kernel
theorem dX10_isRight_10 : decode cX10_isRight 10 = .ok (.aload_n 0, 1) := by decide +kernel
theorem dX10_isRight_11 : decode cX10_isRight 11 = .ok (.iload_n 1, 1) := by decide +kernel
theorem dX10_isRight_12 : decode cX10_isRight 12 = .ok (.invokevirtual 206, 3) := by decide +kernel
theorem dX10_isRight_15 : decode cX10_isRight 15 = .ok (.aload_n 0, 1) := by decide +kernel
theorem dX10_isRight_16 : decode cX10_isRight 16 = .ok (.getfield 26, 3) := by decide +kernel
theorem dX10_isRight_19 : decode cX10_isRight 19 = .ok (.aload_n 0, 1) := by decide +kernel
theorem dX10_isRight_20 : decode cX10_isRight 20 = .ok (.getfield 12, 3) := by decide +kernel
theorem dX10_isRight_23 : decode cX10_isRight 23 = .ok (.getfield 67, 3) := by decide +kernel
theorem dX10_isRight_26 : decode cX10_isRight 26 = .ok (.iload_n 1, 1) := by decide +kernel
theorem dX10_isRight_27 : decode cX10_isRight 27 = .ok (.invokevirtual 96, 3) := by decide +kernel
theorem dX10_isRight_30 : decode cX10_isRight 30 = .ok (.checkcast 84, 3) := by decide +kernel
theorem dX10_isRight_33 : decode cX10_isRight 33 = .ok (.getfield 188, 3) := by decide +kernel
theorem dX10_isRight_36 : decode cX10_isRight 36 = .ok (.invokevirtual 225, 3) := by decide +kernel
theorem dX10_isRight_39 : decode cX10_isRight 39 = .ok (.ireturn, 1) := by decide +kernel
theorem dX10_leastRest_0 : decode cX10_leastRest 0 = .ok (.aload_n 0, 1) := by decide +kernel
theorem dX10_leastRest_1 : decode cX10_leastRest 1 = .ok (.iload_n 1, 1) := by decide +kernel
theorem dX10_leastRest_2 : decode cX10_leastRest 2 = .ok (.invokevirtual 93, 3) := by decide +kernel
theorem dX10_leastRest_5 : decode cX10_leastRest 5 = .ok (.aload_n 0, 1) := by decide +kernel
theorem dX10_leastRest_6 : decode cX10_leastRest 6 = .ok (.invokevirtual 154, 3) := by decide +kernel
theorem dX10_leastRest_9 : decode cX10_leastRest 9 = .ok (.pop, 1) := by decide +kernel
theorem dX10_leastRest_10 : decode cX10_leastRest 10 = .ok (.aload_n 0, 1) := by decide +kernel
theorem dX10_leastRest_11 : decode cX10_leastRest 11 = .ok (.iload_n 1, 1) := by decide +kernel
theorem dX10_leastRest_12 : decode cX10_leastRest 12 = .ok (.invokevirtual 206, 3) := by decide +kernel
theorem dX10_leastRest_15 : decode cX10_leastRest 15 = .ok (.aload_n 0, 1) := by decide +kernel
theorem dX10_leastRest_16 : decode cX10_leastRest 16 = .ok (.getfield 26, 3) := by decide +kernel
theorem dX10_leastRest_19 : decode cX10_leastRest 19 = .ok (.aload_n 0, 1) := by decide +kernel
theorem dX10_leastRest_20 : decode cX10_leastRest 20 = .ok (.getfield 33, 3) := by decide +kernel
theorem dX10_leastRest_23 : decode cX10_leastRest 23 = .ok (.invokevirtual 229, 3) := by decide +kernel
theorem dX10_leastRest_26 : decode cX10_leastRest 26 = .ok (.ireturn, 1) := by decide +kernel
theorem dX10_leastRestByDifferences_0 : decode cX10_leastRestByDifferences 0 = .ok (.aload_n 0, 1) := by decide +kernel
theorem dX10_leastRestByDifferences_1 : decode cX10_leastRestByDifferences 1 = .ok (.iload_n 1, 1) := by decide +kernel
theorem dX10_leastRestByDifferences_2 : decode cX10_leastRestByDifferences 2 = .ok (.invokevirtual 93, 3) := by decide +kernel
theorem dX10_leastRestByDifferences_5 : decode cX10_leastRestByDifferences 5 = .ok (.aload_n 0, 1) := by decide +kernel
theorem dX10_leastRestByDifferences_6 : decode cX10_leastRestByDifferences 6 = .ok (.invokevirtual 154, 3) := by decide +kernel
theorem dX10_leastRestByDifferences_9 : decode cX10_leastRestByDifferences 9 = .ok (.pop, 1) := by decide +kernel
theorem dX10_leastRestByDifferences_10 : decode cX10_leastRestByDifferences 10 = .ok (.aload_n 0, 1) := by decide +kernel
theorem dX10_leastRestByDifferences_11 : decode cX10_leastRestByDifferences 11 = .ok (.iload_n 1, 1) := by decide +kernel
theorem dX10_leastRestByDifferences_12 : decode cX10_leastRestByDifferences 12 = .ok (.invokevirtual 206, 3) := by decide +kernel
theorem dX10_leastRestByDifferences_15 : decode cX10_leastRestByDifferences 15 = .ok (.aload_n 0, 1) := by decide +kernel
theorem dX10_leastRestByDifferences_16 : decode cX10_leastRestByDifferences 16 = .ok (.getfield 26, 3) := by decide +kernel
theorem dX10_leastRestByDifferences_19 : decode cX10_leastRestByDifferences 19 = .ok (.invokevirtual 233, 3) := by decide +kernel
theorem dX10_leastRestByDifferences_22 : decode cX10_leastRestByDifferences 22 = .ok (.ireturn, 1) := by decide +kernel
theorem dX10_leastRowRest_0 : decode cX10_leastRowRest 0 = .ok (.aload_n 0, 1) := by decide +kernel
theorem dX10_leastRowRest_1 : decode cX10_leastRowRest 1 = .ok (.iload_n 1, 1) := by decide +kernel
theorem dX10_leastRowRest_2 : decode cX10_leastRowRest 2 = .ok (.invokevirtual 93, 3) := by decide +kernel
theorem dX10_leastRowRest_5 : decode cX10_leastRowRest 5 = .ok (.aload_n 0, 1) := by decide +kernel
theorem dX10_leastRowRest_6 : decode cX10_leastRowRest 6 = .ok (.invokevirtual 154, 3) := by decide +kernel
theorem dX10_leastRowRest_9 : decode cX10_leastRowRest 9 = .ok (.pop, 1) := by decide +kernel
theorem dX10_leastRowRest_10 : decode cX10_leastRowRest 10 = .ok (.aload_n 0, 1) := by decide +kernel
theorem dX10_leastRowRest_11 : decode cX10_leastRowRest 11 = .ok (.iload_n 1, 1) := by decide +kernel
theorem dX10_leastRowRest_12 : decode cX10_leastRowRest 12 = .ok (.invokevirtual 206, 3) := by decide +kernel
theorem dX10_leastRowRest_15 : decode cX10_leastRowRest 15 = .ok (.aload_n 0, 1) := by decide +kernel
theorem dX10_leastRowRest_16 : decode cX10_leastRowRest 16 = .ok (.getfield 26, 3) := by decide +kernel
theorem dX10_leastRowRest_19 : decode cX10_leastRowRest 19 = .ok (.aload_n 0, 1) := by decide +kernel
theorem dX10_leastRowRest_20 : decode cX10_leastRowRest 20 = .ok (.getfield 33, 3) := by decide +kernel
theorem dX10_leastRowRest_23 : decode cX10_leastRowRest 23 = .ok (.invokevirtual 236, 3) := by decide +kernel
theorem dX10_leastRowRest_26 : decode cX10_leastRowRest 26 = .ok (.aload_n 0, 1) := by decide +kernel
theorem dX10_leastRowRest_27 : decode cX10_leastRowRest 27 = .ok (.getfield 33, 3) := by decide +kernel
theorem dX10_leastRowRest_30 : decode cX10_leastRowRest 30 = .ok (.getfield 239, 3) := by decide +kernel
theorem dX10_leastRowRest_33 : decode cX10_leastRowRest 33 = .ok (.ireturn, 1) := by decide +kernel
theorem dX10_leastColumnRest_0 : decode cX10_leastColumnRest 0 = .ok (.aload_n 0, 1) := by decide +kernel
theorem dX10_leastColumnRest_1 : decode cX10_leastColumnRest 1 = .ok (.iload_n 1, 1) := by decide +kernel
theorem dX10_leastColumnRest_2 : decode cX10_leastColumnRest 2 = .ok (.invokevirtual 93, 3) := by decide +kernel
theorem dX10_leastColumnRest_5 : decode cX10_leastColumnRest 5 = .ok (.aload_n 0, 1) := by decide +kernel
theorem dX10_leastColumnRest_6 : decode cX10_leastColumnRest 6 = .ok (.invokevirtual 154, 3) := by decide +kernel
theorem dX10_leastColumnRest_9 : decode cX10_leastColumnRest 9 = .ok (.pop, 1) := by decide +kernel
theorem dX10_leastColumnRest_10 : decode cX10_leastColumnRest 10 = .ok (.aload_n 0, 1) := by decide +kernel
theorem dX10_leastColumnRest_11 : decode cX10_leastColumnRest 11 = .ok (.iload_n 1, 1) := by decide +kernel
theorem dX10_leastColumnRest_12 : decode cX10_leastColumnRest 12 = .ok (.invokevirtual 206, 3) := by decide +kernel
theorem dX10_leastColumnRest_15 : decode cX10_leastColumnRest 15 = .ok (.aload_n 0, 1) := by decide +kernel
theorem dX10_leastColumnRest_16 : decode cX10_leastColumnRest 16 = .ok (.getfield 26, 3) := by decide +kernel
theorem dX10_leastColumnRest_19 : decode cX10_leastColumnRest 19 = .ok (.aload_n 0, 1) := by decide +kernel
theorem dX10_leastColumnRest_20 : decode cX10_leastColumnRest 20 = .ok (.getfield 33, 3) := by decide +kernel
theorem dX10_leastColumnRest_23 : decode cX10_leastColumnRest 23 = .ok (.invokevirtual 236, 3) := by decide +kernel
theorem dX10_leastColumnRest_26 : decode cX10_leastColumnRest 26 = .ok (.aload_n 0, 1) := by decide +kernel
theorem dX10_leastColumnRest_27 : decode cX10_leastColumnRest 27 = .ok (.getfield 33, 3) := by decide +kernel
theorem dX10_leastColumnRest_30 : decode cX10_leastColumnRest 30 = .ok (.getfield 242, 3) := by decide +kernel
theorem dX10_leastColumnRest_33 : decode cX10_leastColumnRest 33 = .ok (.ireturn, 1) := by decide +kernel
theorem dX10_leastSlantModulus_0 : decode cX10_leastSlantModulus 0 = .ok (.aload_n 0, 1) := by decide +kernel
theorem dX10_leastSlantModulus_1 : decode cX10_leastSlantModulus 1 = .ok (.iload_n 1, 1) := by decide +kernel
theorem dX10_leastSlantModulus_2 : decode cX10_leastSlantModulus 2 = .ok (.invokevirtual 93, 3) := by decide +kernel
theorem dX10_leastSlantModulus_5 : decode cX10_leastSlantModulus 5 = .ok (.aload_n 0, 1) := by decide +kernel
theorem dX10_leastSlantModulus_6 : decode cX10_leastSlantModulus 6 = .ok (.invokevirtual 154, 3) := by decide +kernel
theorem dX10_leastSlantModulus_9 : decode cX10_leastSlantModulus 9 = .ok (.pop, 1) := by decide +kernel
theorem dX10_leastSlantModulus_10 : decode cX10_leastSlantModulus 10 = .ok (.aload_n 0, 1) := by decide +kernel
theorem dX10_leastSlantModulus_11 : decode cX10_leastSlantModulus 11 = .ok (.iload_n 1, 1) := by decide +kernel
theorem dX10_leastSlantModulus_12 : decode cX10_leastSlantModulus 12 = .ok (.invokevirtual 206, 3) := by decide +kernel
theorem dX10_leastSlantModulus_15 : decode cX10_leastSlantModulus 15 = .ok (.aload_n 0, 1) := by decide +kernel
theorem dX10_leastSlantModulus_16 : decode cX10_leastSlantModulus 16 = .ok (.getfield 26, 3) := by decide +kernel
theorem dX10_leastSlantModulus_19 : decode cX10_leastSlantModulus 19 = .ok (.aload_n 0, 1) := by decide +kernel
theorem dX10_leastSlantModulus_20 : decode cX10_leastSlantModulus 20 = .ok (.getfield 33, 3) := by decide +kernel
theorem dX10_leastSlantModulus_23 : decode cX10_leastSlantModulus 23 = .ok (.invokevirtual 245, 3) := by decide +kernel
theorem dX10_leastSlantModulus_26 : decode cX10_leastSlantModulus 26 = .ok (.aload_n 0, 1) := by decide +kernel
theorem dX10_leastSlantModulus_27 : decode cX10_leastSlantModulus 27 = .ok (.getfield 33, 3) := by decide +kernel
theorem dX10_leastSlantModulus_30 : decode cX10_leastSlantModulus 30 = .ok (.getfield 248, 3) := by decide +kernel
theorem dX10_leastSlantModulus_33 : decode cX10_leastSlantModulus 33 = .ok (.ireturn, 1) := by decide +kernel
theorem dX10_leastSlant_0 : decode cX10_leastSlant 0 = .ok (.aload_n 0, 1) := by decide +kernel
theorem dX10_leastSlant_1 : decode cX10_leastSlant 1 = .ok (.iload_n 1, 1) := by decide +kernel
theorem dX10_leastSlant_2 : decode cX10_leastSlant 2 = .ok (.invokevirtual 93, 3) := by decide +kernel
theorem dX10_leastSlant_5 : decode cX10_leastSlant 5 = .ok (.aload_n 0, 1) := by decide +kernel
theorem dX10_leastSlant_6 : decode cX10_leastSlant 6 = .ok (.invokevirtual 154, 3) := by decide +kernel
theorem dX10_leastSlant_9 : decode cX10_leastSlant 9 = .ok (.pop, 1) := by decide +kernel
theorem dX10_leastSlant_10 : decode cX10_leastSlant 10 = .ok (.aload_n 0, 1) := by decide +kernel
theorem dX10_leastSlant_11 : decode cX10_leastSlant 11 = .ok (.iload_n 1, 1) := by decide +kernel
theorem dX10_leastSlant_12 : decode cX10_leastSlant 12 = .ok (.invokevirtual 206, 3) := by decide +kernel
theorem dX10_leastSlant_15 : decode cX10_leastSlant 15 = .ok (.aload_n 0, 1) := by decide +kernel
theorem dX10_leastSlant_16 : decode cX10_leastSlant 16 = .ok (.getfield 26, 3) := by decide +kernel
theorem dX10_leastSlant_19 : decode cX10_leastSlant 19 = .ok (.aload_n 0, 1) := by decide +kernel
theorem dX10_leastSlant_20 : decode cX10_leastSlant 20 = .ok (.getfield 33, 3) := by decide +kernel
theorem dX10_leastSlant_23 : decode cX10_leastSlant 23 = .ok (.invokevirtual 245, 3) := by decide +kernel
theorem dX10_leastSlant_26 : decode cX10_leastSlant 26 = .ok (.aload_n 0, 1) := by decide +kernel
theorem dX10_leastSlant_27 : decode cX10_leastSlant 27 = .ok (.getfield 33, 3) := by decide +kernel
theorem dX10_leastSlant_30 : decode cX10_leastSlant 30 = .ok (.getfield 251, 3) := by decide +kernel
theorem dX10_leastSlant_33 : decode cX10_leastSlant 33 = .ok (.ireturn, 1) := by decide +kernel
theorem dX10_leastJointRest_0 : decode cX10_leastJointRest 0 = .ok (.aload_n 0, 1) := by decide +kernel
theorem dX10_leastJointRest_1 : decode cX10_leastJointRest 1 = .ok (.iload_n 1, 1) := by decide +kernel
theorem dX10_leastJointRest_2 : decode cX10_leastJointRest 2 = .ok (.invokevirtual 93, 3) := by decide +kernel
theorem dX10_leastJointRest_5 : decode cX10_leastJointRest 5 = .ok (.aload_n 0, 1) := by decide +kernel
theorem dX10_leastJointRest_6 : decode cX10_leastJointRest 6 = .ok (.iload_n 2, 1) := by decide +kernel
theorem dX10_leastJointRest_7 : decode cX10_leastJointRest 7 = .ok (.invokevirtual 93, 3) := by decide +kernel
theorem dX10_leastJointRest_10 : decode cX10_leastJointRest 10 = .ok (.aload_n 0, 1) := by decide +kernel
theorem dX10_leastJointRest_11 : decode cX10_leastJointRest 11 = .ok (.invokevirtual 154, 3) := by decide +kernel
theorem dX10_leastJointRest_14 : decode cX10_leastJointRest 14 = .ok (.pop, 1) := by decide +kernel
theorem dX10_leastJointRest_15 : decode cX10_leastJointRest 15 = .ok (.aload_n 0, 1) := by decide +kernel
theorem dX10_leastJointRest_16 : decode cX10_leastJointRest 16 = .ok (.iload_n 1, 1) := by decide +kernel
theorem dX10_leastJointRest_17 : decode cX10_leastJointRest 17 = .ok (.invokevirtual 206, 3) := by decide +kernel
theorem dX10_leastJointRest_20 : decode cX10_leastJointRest 20 = .ok (.iload_n 2, 1) := by decide +kernel
theorem dX10_leastJointRest_21 : decode cX10_leastJointRest 21 = .ok (.iload_n 1, 1) := by decide +kernel
theorem dX10_leastJointRest_22 : decode cX10_leastJointRest 22 = .ok (.if_icmp .eq 37, 3) := by decide +kernel
theorem dX10_leastJointRest_25 : decode cX10_leastJointRest 25 = .ok (.aload_n 0, 1) := by decide +kernel
theorem dX10_leastJointRest_26 : decode cX10_leastJointRest 26 = .ok (.getfield 26, 3) := by decide +kernel
theorem dX10_leastJointRest_29 : decode cX10_leastJointRest 29 = .ok (.aload_n 0, 1) := by decide +kernel
theorem dX10_leastJointRest_30 : decode cX10_leastJointRest 30 = .ok (.getfield 12, 3) := by decide +kernel
theorem dX10_leastJointRest_33 : decode cX10_leastJointRest 33 = .ok (.aload_n 0, 1) := by decide +kernel
theorem dX10_leastJointRest_34 : decode cX10_leastJointRest 34 = .ok (.getfield 19, 3) := by decide +kernel
theorem dX10_leastJointRest_37 : decode cX10_leastJointRest 37 = .ok (.iload_n 2, 1) := by decide +kernel
theorem dX10_leastJointRest_38 : decode cX10_leastJointRest 38 = .ok (.iload_n 2, 1) := by decide +kernel
theorem dX10_leastJointRest_39 : decode cX10_leastJointRest 39 = .ok (.invokevirtual 254, 3) := by decide +kernel
theorem dX10_leastJointRest_42 : decode cX10_leastJointRest 42 = .ok (.aload_n 0, 1) := by decide +kernel
theorem dX10_leastJointRest_43 : decode cX10_leastJointRest 43 = .ok (.getfield 26, 3) := by decide +kernel
theorem dX10_leastJointRest_46 : decode cX10_leastJointRest 46 = .ok (.aload_n 0, 1) := by decide +kernel
theorem dX10_leastJointRest_47 : decode cX10_leastJointRest 47 = .ok (.getfield 12, 3) := by decide +kernel
theorem dX10_leastJointRest_50 : decode cX10_leastJointRest 50 = .ok (.aload_n 0, 1) := by decide +kernel
theorem dX10_leastJointRest_51 : decode cX10_leastJointRest 51 = .ok (.getfield 19, 3) := by decide +kernel
theorem dX10_leastJointRest_54 : decode cX10_leastJointRest 54 = .ok (.iload_n 1, 1) := by decide +kernel
theorem dX10_leastJointRest_55 : decode cX10_leastJointRest 55 = .ok (.iload_n 2, 1) := by decide +kernel
theorem dX10_leastJointRest_56 : decode cX10_leastJointRest 56 = .ok (.invokevirtual 254, 3) := by decide +kernel
theorem dX10_leastJointRest_59 : decode cX10_leastJointRest 59 = .ok (.aload_n 0, 1) := by decide +kernel
theorem dX10_leastJointRest_60 : decode cX10_leastJointRest 60 = .ok (.getfield 26, 3) := by decide +kernel
theorem dX10_leastJointRest_63 : decode cX10_leastJointRest 63 = .ok (.aload_n 0, 1) := by decide +kernel
theorem dX10_leastJointRest_64 : decode cX10_leastJointRest 64 = .ok (.getfield 33, 3) := by decide +kernel
theorem dX10_leastJointRest_67 : decode cX10_leastJointRest 67 = .ok (.invokevirtual 229, 3) := by decide +kernel
theorem dX10_leastJointRest_70 : decode cX10_leastJointRest 70 = .ok (.ireturn, 1) := by decide +kernel
theorem dX10_valueOf_0 : decode cX10_valueOf 0 = .ok (.aload_n 0, 1) := by decide +kernel
theorem dX10_valueOf_1 : decode cX10_valueOf 1 = .ok (.iload_n 1, 1) := by decide +kernel
theorem dX10_valueOf_2 : decode cX10_valueOf 2 = .ok (.iload_n 2, 1) := by decide +kernel
theorem dX10_valueOf_3 : decode cX10_valueOf 3 = .ok (.iload_n 3, 1) := by decide +kernel
theorem dX10_valueOf_4 : decode cX10_valueOf 4 = .ok (.invokevirtual 150, 3) := by decide +kernel
theorem dX10_valueOf_7 : decode cX10_valueOf 7 = .ok (.istore 4, 2) := by decide +kernel
theorem dX10_valueOf_9 : decode cX10_valueOf 9 = .ok (.aload_n 0, 1) := by decide +kernel
theorem dX10_valueOf_10 : decode cX10_valueOf 10 = .ok (.aload_n 0, 1) := by decide +kernel
theorem dX10_valueOf_11 : decode cX10_valueOf 11 = .ok (.getfield 42, 3) := by decide +kernel
theorem dX10_valueOf_14 : decode cX10_valueOf 14 = .ok (.iload 4, 2) := by decide +kernel
theorem dX10_valueOf_16 : decode cX10_valueOf 16 = .ok (.invokevirtual 257, 3) := by decide +kernel
theorem dX10_valueOf_19 : decode cX10_valueOf 19 = .ok (.ireturn, 1) := by decide +kernel
theorem dX10_contractedValueOf_0 : decode cX10_contractedValueOf 0 = .ok (.aload_n 0, 1) := by decide +kernel
theorem dX10_contractedValueOf_1 : decode cX10_contractedValueOf 1 = .ok (.iload_n 1, 1) := by decide +kernel
theorem dX10_contractedValueOf_2 : decode cX10_contractedValueOf 2 = .ok (.iload_n 2, 1) := by decide +kernel
theorem dX10_contractedValueOf_3 : decode cX10_contractedValueOf 3 = .ok (.iload_n 3, 1) := by decide +kernel
theorem dX10_contractedValueOf_4 : decode cX10_contractedValueOf 4 = .ok (.invokevirtual 150, 3) := by decide +kernel
theorem dX10_contractedValueOf_7 : decode cX10_contractedValueOf 7 = .ok (.istore 4, 2) := by decide +kernel
theorem dX10_contractedValueOf_9 : decode cX10_contractedValueOf 9 = .ok (.aload_n 0, 1) := by decide +kernel
theorem dX10_contractedValueOf_10 : decode cX10_contractedValueOf 10 = .ok (.aload_n 0, 1) := by decide +kernel
theorem dX10_contractedValueOf_11 : decode cX10_contractedValueOf 11 = .ok (.getfield 46, 3) := by decide +kernel
theorem dX10_contractedValueOf_14 : decode cX10_contractedValueOf 14 = .ok (.iload 4, 2) := by decide +kernel
theorem dX10_contractedValueOf_16 : decode cX10_contractedValueOf 16 = .ok (.invokevirtual 257, 3) := by decide +kernel
theorem dX10_contractedValueOf_19 : decode cX10_contractedValueOf 19 = .ok (.ireturn, 1) := by decide +kernel
theorem dX10_firstWrongStep_0 : decode cX10_firstWrongStep 0 = .ok (.aload_n 0, 1) := by decide +kernel
theorem dX10_firstWrongStep_1 : decode cX10_firstWrongStep 1 = .ok (.invokevirtual 154, 3) := by decide +kernel
theorem dX10_firstWrongStep_4 : decode cX10_firstWrongStep 4 = .ok (.pop, 1) := by decide +kernel
theorem dX10_firstWrongStep_5 : decode cX10_firstWrongStep 5 = .ok (.aload_n 0, 1) := by decide +kernel
theorem dX10_firstWrongStep_6 : decode cX10_firstWrongStep 6 = .ok (.getfield 42, 3) := by decide +kernel
theorem dX10_firstWrongStep_9 : decode cX10_firstWrongStep 9 = .ok (.invokevirtual 261, 3) := by decide +kernel
theorem dX10_firstWrongStep_12 : decode cX10_firstWrongStep 12 = .ok (.aload_n 0, 1) := by decide +kernel
theorem dX10_firstWrongStep_13 : decode cX10_firstWrongStep 13 = .ok (.getfield 46, 3) := by decide +kernel
theorem dX10_firstWrongStep_16 : decode cX10_firstWrongStep 16 = .ok (.invokevirtual 261, 3) := by decide +kernel
theorem dX10_firstWrongStep_19 : decode cX10_firstWrongStep 19 = .ok (.iconst 0, 1) := by decide +kernel
theorem dX10_firstWrongStep_20 : decode cX10_firstWrongStep 20 = .ok (.istore_n 1, 1) := by decide +kernel
theorem dX10_firstWrongStep_21 : decode cX10_firstWrongStep 21 = .ok (.iload_n 1, 1) := by decide +kernel
theorem dX10_firstWrongStep_22 : decode cX10_firstWrongStep 22 = .ok (.aload_n 0, 1) := by decide +kernel
theorem dX10_firstWrongStep_23 : decode cX10_firstWrongStep 23 = .ok (.getfield 12, 3) := by decide +kernel
theorem dX10_firstWrongStep_26 : decode cX10_firstWrongStep 26 = .ok (.invokevirtual 147, 3) := by decide +kernel
theorem dX10_firstWrongStep_29 : decode cX10_firstWrongStep 29 = .ok (.if_icmp .ge 56, 3) := by decide +kernel
theorem dX10_firstWrongStep_32 : decode cX10_firstWrongStep 32 = .ok (.aload_n 0, 1) := by decide +kernel
theorem dX10_firstWrongStep_33 : decode cX10_firstWrongStep 33 = .ok (.getfield 19, 3) := by decide +kernel
theorem dX10_firstWrongStep_36 : decode cX10_firstWrongStep 36 = .ok (.getfield 168, 3) := by decide +kernel
theorem dX10_firstWrongStep_39 : decode cX10_firstWrongStep 39 = .ok (.iload_n 1, 1) := by decide +kernel
theorem dX10_firstWrongStep_40 : decode cX10_firstWrongStep 40 = .ok (.iaload, 1) := by decide +kernel
theorem dX10_firstWrongStep_41 : decode cX10_firstWrongStep 41 = .ok (.istore_n 2, 1) := by decide +kernel
theorem dX10_firstWrongStep_42 : decode cX10_firstWrongStep 42 = .ok (.aload_n 0, 1) := by decide +kernel
theorem dX10_firstWrongStep_43 : decode cX10_firstWrongStep 43 = .ok (.getfield 42, 3) := by decide +kernel
theorem dX10_firstWrongStep_46 : decode cX10_firstWrongStep 46 = .ok (.aload_n 0, 1) := by decide +kernel
theorem dX10_firstWrongStep_47 : decode cX10_firstWrongStep 47 = .ok (.getfield 12, 3) := by decide +kernel
theorem dX10_firstWrongStep_50 : decode cX10_firstWrongStep 50 = .ok (.aload_n 0, 1) := by decide +kernel
theorem dX10_firstWrongStep_51 : decode cX10_firstWrongStep 51 = .ok (.getfield 19, 3) := by decide +kernel
theorem dX10_firstWrongStep_54 : decode cX10_firstWrongStep 54 = .ok (.iload_n 2, 1) := by decide +kernel
theorem dX10_firstWrongStep_55 : decode cX10_firstWrongStep 55 = .ok (.invokevirtual 264, 3) := by decide +kernel
theorem dX10_firstWrongStep_58 : decode cX10_firstWrongStep 58 = .ok (.aload_n 0, 1) := by decide +kernel
theorem dX10_firstWrongStep_59 : decode cX10_firstWrongStep 59 = .ok (.getfield 46, 3) := by decide +kernel
theorem dX10_firstWrongStep_62 : decode cX10_firstWrongStep 62 = .ok (.aload_n 0, 1) := by decide +kernel
theorem dX10_firstWrongStep_63 : decode cX10_firstWrongStep 63 = .ok (.getfield 12, 3) := by decide +kernel
theorem dX10_firstWrongStep_66 : decode cX10_firstWrongStep 66 = .ok (.aload_n 0, 1) := by decide +kernel
theorem dX10_firstWrongStep_67 : decode cX10_firstWrongStep 67 = .ok (.getfield 19, 3) := by decide +kernel
theorem dX10_firstWrongStep_70 : decode cX10_firstWrongStep 70 = .ok (.iload_n 2, 1) := by decide +kernel
theorem dX10_firstWrongStep_71 : decode cX10_firstWrongStep 71 = .ok (.invokevirtual 264, 3) := by decide +kernel
theorem dX10_firstWrongStep_74 : decode cX10_firstWrongStep 74 = .ok (.if_icmp .eq 5, 3) := by decide +kernel
theorem dX10_firstWrongStep_77 : decode cX10_firstWrongStep 77 = .ok (.iload_n 1, 1) := by decide +kernel
theorem dX10_firstWrongStep_78 : decode cX10_firstWrongStep 78 = .ok (.ireturn, 1) := by decide +kernel
theorem dX10_firstWrongStep_79 : decode cX10_firstWrongStep 79 = .ok (.iinc 1 1, 3) := by decide +kernel
theorem dX10_firstWrongStep_82 : decode cX10_firstWrongStep 82 = .ok (.goto (-61), 3) := by decide +kernel
theorem dX10_firstWrongStep_85 : decode cX10_firstWrongStep 85 = .ok (.iconst (-1), 1) := by decide +kernel
theorem dX10_firstWrongStep_86 : decode cX10_firstWrongStep 86 = .ok (.ireturn, 1) := by decide +kernel
theorem dX10_bestRowWeight_0 : decode cX10_bestRowWeight 0 = .ok (.aload_n 0, 1) := by decide +kernel
theorem dX10_bestRowWeight_1 : decode cX10_bestRowWeight 1 = .ok (.invokevirtual 268, 3) := by decide +kernel
theorem dX10_bestRowWeight_4 : decode cX10_bestRowWeight 4 = .ok (.aload_n 0, 1) := by decide +kernel
theorem dX10_bestRowWeight_5 : decode cX10_bestRowWeight 5 = .ok (.getfield 52, 3) := by decide +kernel
theorem dX10_bestRowWeight_8 : decode cX10_bestRowWeight 8 = .ok (.getfield 271, 3) := by decide +kernel
theorem dX10_bestRowWeight_11 : decode cX10_bestRowWeight 11 = .ok (.ireturn, 1) := by decide +kernel
theorem dX10_bestColumnWeight_0 : decode cX10_bestColumnWeight 0 = .ok (.aload_n 0, 1) := by decide +kernel
theorem dX10_bestColumnWeight_1 : decode cX10_bestColumnWeight 1 = .ok (.invokevirtual 268, 3) := by decide +kernel
theorem dX10_bestColumnWeight_4 : decode cX10_bestColumnWeight 4 = .ok (.aload_n 0, 1) := by decide +kernel
theorem dX10_bestColumnWeight_5 : decode cX10_bestColumnWeight 5 = .ok (.getfield 52, 3) := by decide +kernel
theorem dX10_bestColumnWeight_8 : decode cX10_bestColumnWeight 8 = .ok (.getfield 272, 3) := by decide +kernel
theorem dX10_bestColumnWeight_11 : decode cX10_bestColumnWeight 11 = .ok (.ireturn, 1) := by decide +kernel
theorem dX10_bestRoom_0 : decode cX10_bestRoom 0 = .ok (.aload_n 0, 1) := by decide +kernel
theorem dX10_bestRoom_1 : decode cX10_bestRoom 1 = .ok (.invokevirtual 268, 3) := by decide +kernel
theorem dX10_bestRoom_4 : decode cX10_bestRoom 4 = .ok (.aload_n 0, 1) := by decide +kernel
theorem dX10_bestRoom_5 : decode cX10_bestRoom 5 = .ok (.getfield 52, 3) := by decide +kernel
theorem dX10_bestRoom_8 : decode cX10_bestRoom 8 = .ok (.getfield 273, 3) := by decide +kernel
theorem dX10_bestRoom_11 : decode cX10_bestRoom 11 = .ok (.ireturn, 1) := by decide +kernel
theorem dX10_requireRange_0 : decode cX10_requireRange 0 = .ok (.iload_n 0, 1) := by decide +kernel
theorem dX10_requireRange_1 : decode cX10_requireRange 1 = .ok (.iload_n 1, 1) := by decide +kernel
theorem dX10_requireRange_2 : decode cX10_requireRange 2 = .ok (.if_icmp .lt 8, 3) := by decide +kernel
theorem dX10_requireRange_5 : decode cX10_requireRange 5 = .ok (.iload_n 0, 1) := by decide +kernel
theorem dX10_requireRange_6 : decode cX10_requireRange 6 = .ok (.iload_n 2, 1) := by decide +kernel
theorem dX10_requireRange_7 : decode cX10_requireRange 7 = .ok (.if_icmp .le 14, 3) := by decide +kernel
theorem dX10_requireRange_10 : decode cX10_requireRange 10 = .ok (.new 275, 3) := by decide +kernel
theorem dX10_requireRange_13 : decode cX10_requireRange 13 = .ok (.dup, 1) := by decide +kernel
theorem dX10_requireRange_14 : decode cX10_requireRange 14 = .ok (.ldc_w 277, 3) := by decide +kernel
theorem dX10_requireRange_17 : decode cX10_requireRange 17 = .ok (.invokespecial 279, 3) := by decide +kernel
theorem dX10_requireRange_20 : decode cX10_requireRange 20 = .ok (.athrow, 1) := by decide +kernel
theorem dX10_requireRange_21 : decode cX10_requireRange 21 = .ok (.return_, 1) := by decide +kernel
theorem dX10_requireWeights_0 : decode cX10_requireWeights 0 = .ok (.iload_n 0, 1) := by decide +kernel
theorem dX10_requireWeights_1 : decode cX10_requireWeights 1 = .ok (.iconst 0, 1) := by decide +kernel
theorem dX10_requireWeights_2 : decode cX10_requireWeights 2 = .ok (.bipush 9, 2) := by decide +kernel
theorem dX10_requireWeights_4 : decode cX10_requireWeights 4 = .ok (.invokestatic 63, 3) := by decide +kernel
theorem dX10_requireWeights_7 : decode cX10_requireWeights 7 = .ok (.iload_n 1, 1) := by decide +kernel
theorem dX10_requireWeights_8 : decode cX10_requireWeights 8 = .ok (.iconst 0, 1) := by decide +kernel
theorem dX10_requireWeights_9 : decode cX10_requireWeights 9 = .ok (.bipush 9, 2) := by decide +kernel
theorem dX10_requireWeights_11 : decode cX10_requireWeights 11 = .ok (.invokestatic 63, 3) := by decide +kernel
theorem dX10_requireWeights_14 : decode cX10_requireWeights 14 = .ok (.return_, 1) := by decide +kernel
theorem dX10_requireStatement_0 : decode cX10_requireStatement 0 = .ok (.iload_n 1, 1) := by decide +kernel
theorem dX10_requireStatement_1 : decode cX10_requireStatement 1 = .ok (.ifCond .lt 17, 3) := by decide +kernel
theorem dX10_requireStatement_4 : decode cX10_requireStatement 4 = .ok (.iload_n 1, 1) := by decide +kernel
theorem dX10_requireStatement_5 : decode cX10_requireStatement 5 = .ok (.aload_n 0, 1) := by decide +kernel
theorem dX10_requireStatement_6 : decode cX10_requireStatement 6 = .ok (.getfield 12, 3) := by decide +kernel
theorem dX10_requireStatement_9 : decode cX10_requireStatement 9 = .ok (.getfield 67, 3) := by decide +kernel
theorem dX10_requireStatement_12 : decode cX10_requireStatement 12 = .ok (.invokevirtual 71, 3) := by decide +kernel
theorem dX10_requireStatement_15 : decode cX10_requireStatement 15 = .ok (.if_icmp .lt 14, 3) := by decide +kernel
theorem dX10_requireStatement_18 : decode cX10_requireStatement 18 = .ok (.new 138, 3) := by decide +kernel
theorem dX10_requireStatement_21 : decode cX10_requireStatement 21 = .ok (.dup, 1) := by decide +kernel
theorem dX10_requireStatement_22 : decode cX10_requireStatement 22 = .ok (.ldc_w 280, 3) := by decide +kernel
theorem dX10_requireStatement_25 : decode cX10_requireStatement 25 = .ok (.invokespecial 142, 3) := by decide +kernel
theorem dX10_requireStatement_28 : decode cX10_requireStatement 28 = .ok (.athrow, 1) := by decide +kernel
theorem dX10_requireStatement_29 : decode cX10_requireStatement 29 = .ok (.return_, 1) := by decide +kernel
theorem dX10_requirePoint_0 : decode cX10_requirePoint 0 = .ok (.aload_n 0, 1) := by decide +kernel
theorem dX10_requirePoint_1 : decode cX10_requirePoint 1 = .ok (.getfield 12, 3) := by decide +kernel
theorem dX10_requirePoint_4 : decode cX10_requirePoint 4 = .ok (.iload_n 1, 1) := by decide +kernel
theorem dX10_requirePoint_5 : decode cX10_requirePoint 5 = .ok (.iload_n 2, 1) := by decide +kernel
theorem dX10_requirePoint_6 : decode cX10_requirePoint 6 = .ok (.invokevirtual 282, 3) := by decide +kernel
theorem dX10_requirePoint_9 : decode cX10_requirePoint 9 = .ok (.ifCond .ne 14, 3) := by decide +kernel
theorem dX10_requirePoint_12 : decode cX10_requirePoint 12 = .ok (.new 138, 3) := by decide +kernel
theorem dX10_requirePoint_15 : decode cX10_requirePoint 15 = .ok (.dup, 1) := by decide +kernel
theorem dX10_requirePoint_16 : decode cX10_requirePoint 16 = .ok (.ldc_w 285, 3) := by decide +kernel
theorem dX10_requirePoint_19 : decode cX10_requirePoint 19 = .ok (.invokespecial 142, 3) := by decide +kernel
theorem dX10_requirePoint_22 : decode cX10_requirePoint 22 = .ok (.athrow, 1) := by decide +kernel
theorem dX10_requirePoint_23 : decode cX10_requirePoint 23 = .ok (.return_, 1) := by decide +kernel
theorem dX10_requireCell_0 : decode cX10_requireCell 0 = .ok (.aload_n 0, 1) := by decide +kernel
theorem dX10_requireCell_1 : decode cX10_requireCell 1 = .ok (.iload_n 1, 1) := by decide +kernel
theorem dX10_requireCell_2 : decode cX10_requireCell 2 = .ok (.invokevirtual 93, 3) := by decide +kernel
theorem dX10_requireCell_5 : decode cX10_requireCell 5 = .ok (.aload_n 0, 1) := by decide +kernel
theorem dX10_requireCell_6 : decode cX10_requireCell 6 = .ok (.iload_n 2, 1) := by decide +kernel
theorem dX10_requireCell_7 : decode cX10_requireCell 7 = .ok (.iload_n 3, 1) := by decide +kernel
theorem dX10_requireCell_8 : decode cX10_requireCell 8 = .ok (.invokevirtual 216, 3) := by decide +kernel
theorem dX10_requireCell_11 : decode cX10_requireCell 11 = .ok (.aload_n 0, 1) := by decide +kernel
theorem dX10_requireCell_12 : decode cX10_requireCell 12 = .ok (.getfield 12, 3) := by decide +kernel
theorem dX10_requireCell_15 : decode cX10_requireCell 15 = .ok (.iload_n 1, 1) := by decide +kernel
theorem dX10_requireCell_16 : decode cX10_requireCell 16 = .ok (.iload_n 2, 1) := by decide +kernel
theorem dX10_requireCell_17 : decode cX10_requireCell 17 = .ok (.iload_n 3, 1) := by decide +kernel
theorem dX10_requireCell_18 : decode cX10_requireCell 18 = .ok (.invokevirtual 287, 3) := by decide +kernel
theorem dX10_requireCell_21 : decode cX10_requireCell 21 = .ok (.ireturn, 1) := by decide +kernel
theorem dX10_requireStep_0 : decode cX10_requireStep 0 = .ok (.iload_n 1, 1) := by decide +kernel
theorem dX10_requireStep_1 : decode cX10_requireStep 1 = .ok (.ifCond .lt 14, 3) := by decide +kernel
theorem dX10_requireStep_4 : decode cX10_requireStep 4 = .ok (.iload_n 1, 1) := by decide +kernel
theorem dX10_requireStep_5 : decode cX10_requireStep 5 = .ok (.aload_n 0, 1) := by decide +kernel
theorem dX10_requireStep_6 : decode cX10_requireStep 6 = .ok (.getfield 12, 3) := by decide +kernel
theorem dX10_requireStep_9 : decode cX10_requireStep 9 = .ok (.invokevirtual 147, 3) := by decide +kernel
theorem dX10_requireStep_12 : decode cX10_requireStep 12 = .ok (.if_icmp .lt 14, 3) := by decide +kernel
theorem dX10_requireStep_15 : decode cX10_requireStep 15 = .ok (.new 138, 3) := by decide +kernel
theorem dX10_requireStep_18 : decode cX10_requireStep 18 = .ok (.dup, 1) := by decide +kernel
theorem dX10_requireStep_19 : decode cX10_requireStep 19 = .ok (.ldc_w 290, 3) := by decide +kernel
theorem dX10_requireStep_22 : decode cX10_requireStep 22 = .ok (.invokespecial 142, 3) := by decide +kernel
theorem dX10_requireStep_25 : decode cX10_requireStep 25 = .ok (.athrow, 1) := by decide +kernel
theorem dX10_requireStep_26 : decode cX10_requireStep 26 = .ok (.return_, 1) := by decide +kernel
theorem dX10_arranged_0 : decode cX10_arranged 0 = .ok (.aload_n 0, 1) := by decide +kernel
theorem dX10_arranged_1 : decode cX10_arranged 1 = .ok (.getfield 19, 3) := by decide +kernel
theorem dX10_arranged_4 : decode cX10_arranged 4 = .ok (.aload_n 0, 1) := by decide +kernel
theorem dX10_arranged_5 : decode cX10_arranged 5 = .ok (.getfield 12, 3) := by decide +kernel
theorem dX10_arranged_8 : decode cX10_arranged 8 = .ok (.aload_n 0, 1) := by decide +kernel
theorem dX10_arranged_9 : decode cX10_arranged 9 = .ok (.getfield 56, 3) := by decide +kernel
theorem dX10_arranged_12 : decode cX10_arranged 12 = .ok (.aload_n 0, 1) := by decide +kernel
theorem dX10_arranged_13 : decode cX10_arranged 13 = .ok (.getfield 60, 3) := by decide +kernel
theorem dX10_arranged_16 : decode cX10_arranged 16 = .ok (.invokevirtual 292, 3) := by decide +kernel
theorem dX10_arranged_19 : decode cX10_arranged 19 = .ok (.aload_n 0, 1) := by decide +kernel
theorem dX10_arranged_20 : decode cX10_arranged 20 = .ok (.getfield 19, 3) := by decide +kernel
theorem dX10_arranged_23 : decode cX10_arranged 23 = .ok (.areturn, 1) := by decide +kernel
theorem dX10_gatherDifferences_0 : decode cX10_gatherDifferences 0 = .ok (.aload_n 0, 1) := by decide +kernel
theorem dX10_gatherDifferences_1 : decode cX10_gatherDifferences 1 = .ok (.getfield 26, 3) := by decide +kernel
theorem dX10_gatherDifferences_4 : decode cX10_gatherDifferences 4 = .ok (.aload_n 0, 1) := by decide +kernel
theorem dX10_gatherDifferences_5 : decode cX10_gatherDifferences 5 = .ok (.getfield 12, 3) := by decide +kernel
theorem dX10_gatherDifferences_8 : decode cX10_gatherDifferences 8 = .ok (.invokevirtual 296, 3) := by decide +kernel
theorem dX10_gatherDifferences_11 : decode cX10_gatherDifferences 11 = .ok (.aload_n 0, 1) := by decide +kernel
theorem dX10_gatherDifferences_12 : decode cX10_gatherDifferences 12 = .ok (.getfield 26, 3) := by decide +kernel
theorem dX10_gatherDifferences_15 : decode cX10_gatherDifferences 15 = .ok (.aload_n 0, 1) := by decide +kernel
theorem dX10_gatherDifferences_16 : decode cX10_gatherDifferences 16 = .ok (.getfield 12, 3) := by decide +kernel
theorem dX10_gatherDifferences_19 : decode cX10_gatherDifferences 19 = .ok (.aload_n 0, 1) := by decide +kernel
theorem dX10_gatherDifferences_20 : decode cX10_gatherDifferences 20 = .ok (.getfield 19, 3) := by decide +kernel
theorem dX10_gatherDifferences_23 : decode cX10_gatherDifferences 23 = .ok (.iload_n 1, 1) := by decide +kernel
theorem dX10_gatherDifferences_24 : decode cX10_gatherDifferences 24 = .ok (.iload_n 1, 1) := by decide +kernel
theorem dX10_gatherDifferences_25 : decode cX10_gatherDifferences 25 = .ok (.invokevirtual 254, 3) := by decide +kernel
theorem dX10_gatherDifferences_28 : decode cX10_gatherDifferences 28 = .ok (.return_, 1) := by decide +kernel
theorem dX10_placesOf_0 : decode cX10_placesOf 0 = .ok (.aload_n 0, 1) := by decide +kernel
theorem dX10_placesOf_1 : decode cX10_placesOf 1 = .ok (.getfield 12, 3) := by decide +kernel
theorem dX10_placesOf_4 : decode cX10_placesOf 4 = .ok (.getfield 67, 3) := by decide +kernel
theorem dX10_placesOf_7 : decode cX10_placesOf 7 = .ok (.iload_n 1, 1) := by decide +kernel
theorem dX10_placesOf_8 : decode cX10_placesOf 8 = .ok (.invokevirtual 96, 3) := by decide +kernel
theorem dX10_placesOf_11 : decode cX10_placesOf 11 = .ok (.checkcast 84, 3) := by decide +kernel
theorem dX10_placesOf_14 : decode cX10_placesOf 14 = .ok (.getfield 188, 3) := by decide +kernel
theorem dX10_placesOf_17 : decode cX10_placesOf 17 = .ok (.aload_n 0, 1) := by decide +kernel
theorem dX10_placesOf_18 : decode cX10_placesOf 18 = .ok (.getfield 12, 3) := by decide +kernel
theorem dX10_placesOf_21 : decode cX10_placesOf 21 = .ok (.getfield 121, 3) := by decide +kernel
theorem dX10_placesOf_24 : decode cX10_placesOf 24 = .ok (.invokevirtual 299, 3) := by decide +kernel
theorem dX10_placesOf_27 : decode cX10_placesOf 27 = .ok (.ireturn, 1) := by decide +kernel
theorem dX10_keepSmallest_0 : decode cX10_keepSmallest 0 = .ok (.aload_n 1, 1) := by decide +kernel
theorem dX10_keepSmallest_1 : decode cX10_keepSmallest 1 = .ok (.invokevirtual 191, 3) := by decide +kernel
theorem dX10_keepSmallest_4 : decode cX10_keepSmallest 4 = .ok (.aload_n 0, 1) := by decide +kernel
theorem dX10_keepSmallest_5 : decode cX10_keepSmallest 5 = .ok (.getfield 26, 3) := by decide +kernel
theorem dX10_keepSmallest_8 : decode cX10_keepSmallest 8 = .ok (.aload_n 0, 1) := by decide +kernel
theorem dX10_keepSmallest_9 : decode cX10_keepSmallest 9 = .ok (.getfield 33, 3) := by decide +kernel
theorem dX10_keepSmallest_12 : decode cX10_keepSmallest 12 = .ok (.invokevirtual 229, 3) := by decide +kernel
theorem dX10_keepSmallest_15 : decode cX10_keepSmallest 15 = .ok (.pop, 1) := by decide +kernel
theorem dX10_keepSmallest_16 : decode cX10_keepSmallest 16 = .ok (.aload_n 0, 1) := by decide +kernel
theorem dX10_keepSmallest_17 : decode cX10_keepSmallest 17 = .ok (.aload_n 1, 1) := by decide +kernel
theorem dX10_keepSmallest_18 : decode cX10_keepSmallest 18 = .ok (.invokevirtual 302, 3) := by decide +kernel
theorem dX10_keepSmallest_21 : decode cX10_keepSmallest 21 = .ok (.aload_n 0, 1) := by decide +kernel
theorem dX10_keepSmallest_22 : decode cX10_keepSmallest 22 = .ok (.getfield 26, 3) := by decide +kernel
theorem dX10_keepSmallest_25 : decode cX10_keepSmallest 25 = .ok (.aload_n 0, 1) := by decide +kernel
theorem dX10_keepSmallest_26 : decode cX10_keepSmallest 26 = .ok (.getfield 33, 3) := by decide +kernel
theorem dX10_keepSmallest_29 : decode cX10_keepSmallest 29 = .ok (.invokevirtual 236, 3) := by decide +kernel
theorem dX10_keepSmallest_32 : decode cX10_keepSmallest 32 = .ok (.aload_n 0, 1) := by decide +kernel
theorem dX10_keepSmallest_33 : decode cX10_keepSmallest 33 = .ok (.aload_n 1, 1) := by decide +kernel
theorem dX10_keepSmallest_34 : decode cX10_keepSmallest 34 = .ok (.invokevirtual 302, 3) := by decide +kernel
theorem dX10_keepSmallest_37 : decode cX10_keepSmallest 37 = .ok (.aload_n 0, 1) := by decide +kernel
theorem dX10_keepSmallest_38 : decode cX10_keepSmallest 38 = .ok (.getfield 26, 3) := by decide +kernel
theorem dX10_keepSmallest_41 : decode cX10_keepSmallest 41 = .ok (.aload_n 0, 1) := by decide +kernel
theorem dX10_keepSmallest_42 : decode cX10_keepSmallest 42 = .ok (.getfield 33, 3) := by decide +kernel
theorem dX10_keepSmallest_45 : decode cX10_keepSmallest 45 = .ok (.invokevirtual 245, 3) := by decide +kernel
theorem dX10_keepSmallest_48 : decode cX10_keepSmallest 48 = .ok (.aload_n 0, 1) := by decide +kernel
theorem dX10_keepSmallest_49 : decode cX10_keepSmallest 49 = .ok (.aload_n 1, 1) := by decide +kernel
theorem dX10_keepSmallest_50 : decode cX10_keepSmallest 50 = .ok (.invokevirtual 302, 3) := by decide +kernel
theorem dX10_keepSmallest_53 : decode cX10_keepSmallest 53 = .ok (.return_, 1) := by decide +kernel
theorem dX10_keepIfSmaller_0 : decode cX10_keepIfSmaller 0 = .ok (.aload_n 0, 1) := by decide +kernel
theorem dX10_keepIfSmaller_1 : decode cX10_keepIfSmaller 1 = .ok (.getfield 12, 3) := by decide +kernel
theorem dX10_keepIfSmaller_4 : decode cX10_keepIfSmaller 4 = .ok (.getfield 121, 3) := by decide +kernel
theorem dX10_keepIfSmaller_7 : decode cX10_keepIfSmaller 7 = .ok (.istore_n 2, 1) := by decide +kernel
theorem dX10_keepIfSmaller_8 : decode cX10_keepIfSmaller 8 = .ok (.aload_n 0, 1) := by decide +kernel
theorem dX10_keepIfSmaller_9 : decode cX10_keepIfSmaller 9 = .ok (.getfield 33, 3) := by decide +kernel
theorem dX10_keepIfSmaller_12 : decode cX10_keepIfSmaller 12 = .ok (.iload_n 2, 1) := by decide +kernel
theorem dX10_keepIfSmaller_13 : decode cX10_keepIfSmaller 13 = .ok (.invokevirtual 299, 3) := by decide +kernel
theorem dX10_keepIfSmaller_16 : decode cX10_keepIfSmaller 16 = .ok (.aload_n 1, 1) := by decide +kernel
theorem dX10_keepIfSmaller_17 : decode cX10_keepIfSmaller 17 = .ok (.iload_n 2, 1) := by decide +kernel
theorem dX10_keepIfSmaller_18 : decode cX10_keepIfSmaller 18 = .ok (.invokevirtual 299, 3) := by decide +kernel
theorem dX10_keepIfSmaller_21 : decode cX10_keepIfSmaller 21 = .ok (.if_icmp .ge 11, 3) := by decide +kernel
theorem dX10_keepIfSmaller_24 : decode cX10_keepIfSmaller 24 = .ok (.aload_n 1, 1) := by decide +kernel
theorem dX10_keepIfSmaller_25 : decode cX10_keepIfSmaller 25 = .ok (.aload_n 0, 1) := by decide +kernel
theorem dX10_keepIfSmaller_26 : decode cX10_keepIfSmaller 26 = .ok (.getfield 33, 3) := by decide +kernel
theorem dX10_keepIfSmaller_29 : decode cX10_keepIfSmaller 29 = .ok (.invokevirtual 305, 3) := by decide +kernel
theorem dX10_keepIfSmaller_32 : decode cX10_keepIfSmaller 32 = .ok (.return_, 1) := by decide +kernel
theorem dX10_valueWritten_0 : decode cX10_valueWritten 0 = .ok (.aload_n 0, 1) := by decide +kernel
theorem dX10_valueWritten_1 : decode cX10_valueWritten 1 = .ok (.invokevirtual 154, 3) := by decide +kernel
theorem dX10_valueWritten_4 : decode cX10_valueWritten 4 = .ok (.pop, 1) := by decide +kernel
theorem dX10_valueWritten_5 : decode cX10_valueWritten 5 = .ok (.aload_n 1, 1) := by decide +kernel
theorem dX10_valueWritten_6 : decode cX10_valueWritten 6 = .ok (.invokevirtual 261, 3) := by decide +kernel
theorem dX10_valueWritten_9 : decode cX10_valueWritten 9 = .ok (.iconst 0, 1) := by decide +kernel
theorem dX10_valueWritten_10 : decode cX10_valueWritten 10 = .ok (.istore_n 3, 1) := by decide +kernel
theorem dX10_valueWritten_11 : decode cX10_valueWritten 11 = .ok (.iconst 0, 1) := by decide +kernel
theorem dX10_valueWritten_12 : decode cX10_valueWritten 12 = .ok (.istore 4, 2) := by decide +kernel
theorem dX10_valueWritten_14 : decode cX10_valueWritten 14 = .ok (.iload 4, 2) := by decide +kernel
theorem dX10_valueWritten_16 : decode cX10_valueWritten 16 = .ok (.aload_n 0, 1) := by decide +kernel
theorem dX10_valueWritten_17 : decode cX10_valueWritten 17 = .ok (.getfield 19, 3) := by decide +kernel
theorem dX10_valueWritten_20 : decode cX10_valueWritten 20 = .ok (.getfield 158, 3) := by decide +kernel
theorem dX10_valueWritten_23 : decode cX10_valueWritten 23 = .ok (.iload_n 2, 1) := by decide +kernel
theorem dX10_valueWritten_24 : decode cX10_valueWritten 24 = .ok (.iaload, 1) := by decide +kernel
theorem dX10_valueWritten_25 : decode cX10_valueWritten 25 = .ok (.if_icmp .gt 32, 3) := by decide +kernel
theorem dX10_valueWritten_28 : decode cX10_valueWritten 28 = .ok (.aload_n 1, 1) := by decide +kernel
theorem dX10_valueWritten_29 : decode cX10_valueWritten 29 = .ok (.aload_n 0, 1) := by decide +kernel
theorem dX10_valueWritten_30 : decode cX10_valueWritten 30 = .ok (.getfield 12, 3) := by decide +kernel
theorem dX10_valueWritten_33 : decode cX10_valueWritten 33 = .ok (.aload_n 0, 1) := by decide +kernel
theorem dX10_valueWritten_34 : decode cX10_valueWritten 34 = .ok (.getfield 19, 3) := by decide +kernel
theorem dX10_valueWritten_37 : decode cX10_valueWritten 37 = .ok (.aload_n 0, 1) := by decide +kernel
theorem dX10_valueWritten_38 : decode cX10_valueWritten 38 = .ok (.getfield 19, 3) := by decide +kernel
theorem dX10_valueWritten_41 : decode cX10_valueWritten 41 = .ok (.getfield 168, 3) := by decide +kernel
theorem dX10_valueWritten_44 : decode cX10_valueWritten 44 = .ok (.iload 4, 2) := by decide +kernel
theorem dX10_valueWritten_46 : decode cX10_valueWritten 46 = .ok (.iaload, 1) := by decide +kernel
theorem dX10_valueWritten_47 : decode cX10_valueWritten 47 = .ok (.invokevirtual 264, 3) := by decide +kernel
theorem dX10_valueWritten_50 : decode cX10_valueWritten 50 = .ok (.istore_n 3, 1) := by decide +kernel
theorem dX10_valueWritten_51 : decode cX10_valueWritten 51 = .ok (.iinc 4 1, 3) := by decide +kernel
theorem dX10_valueWritten_54 : decode cX10_valueWritten 54 = .ok (.goto (-40), 3) := by decide +kernel
theorem dX10_valueWritten_57 : decode cX10_valueWritten 57 = .ok (.iload_n 3, 1) := by decide +kernel
theorem dX10_valueWritten_58 : decode cX10_valueWritten 58 = .ok (.ireturn, 1) := by decide +kernel
theorem dX10_findBest_0 : decode cX10_findBest 0 = .ok (.aload_n 0, 1) := by decide +kernel
theorem dX10_findBest_1 : decode cX10_findBest 1 = .ok (.getfield 52, 3) := by decide +kernel
theorem dX10_findBest_4 : decode cX10_findBest 4 = .ok (.iconst 0, 1) := by decide +kernel
theorem dX10_findBest_5 : decode cX10_findBest 5 = .ok (.putfield 308, 3) := by decide +kernel
theorem dX10_findBest_8 : decode cX10_findBest 8 = .ok (.iconst 0, 1) := by decide +kernel
theorem dX10_findBest_9 : decode cX10_findBest 9 = .ok (.istore_n 1, 1) := by decide +kernel
theorem dX10_findBest_10 : decode cX10_findBest 10 = .ok (.iload_n 1, 1) := by decide +kernel
theorem dX10_findBest_11 : decode cX10_findBest 11 = .ok (.iconst 3, 1) := by decide +kernel
theorem dX10_findBest_12 : decode cX10_findBest 12 = .ok (.if_icmp .gt 49, 3) := by decide +kernel
theorem dX10_findBest_15 : decode cX10_findBest 15 = .ok (.iconst 0, 1) := by decide +kernel
theorem dX10_findBest_16 : decode cX10_findBest 16 = .ok (.istore_n 2, 1) := by decide +kernel
theorem dX10_findBest_17 : decode cX10_findBest 17 = .ok (.iload_n 2, 1) := by decide +kernel
theorem dX10_findBest_18 : decode cX10_findBest 18 = .ok (.iconst 3, 1) := by decide +kernel
theorem dX10_findBest_19 : decode cX10_findBest 19 = .ok (.if_icmp .gt 36, 3) := by decide +kernel
theorem dX10_findBest_22 : decode cX10_findBest 22 = .ok (.aload_n 0, 1) := by decide +kernel
theorem dX10_findBest_23 : decode cX10_findBest 23 = .ok (.getfield 12, 3) := by decide +kernel
theorem dX10_findBest_26 : decode cX10_findBest 26 = .ok (.iload_n 1, 1) := by decide +kernel
theorem dX10_findBest_27 : decode cX10_findBest 27 = .ok (.iload_n 2, 1) := by decide +kernel
theorem dX10_findBest_28 : decode cX10_findBest 28 = .ok (.invokevirtual 134, 3) := by decide +kernel
theorem dX10_findBest_31 : decode cX10_findBest 31 = .ok (.ifCond .eq 18, 3) := by decide +kernel
theorem dX10_findBest_34 : decode cX10_findBest 34 = .ok (.aload_n 0, 1) := by decide +kernel
theorem dX10_findBest_35 : decode cX10_findBest 35 = .ok (.getfield 52, 3) := by decide +kernel
theorem dX10_findBest_38 : decode cX10_findBest 38 = .ok (.iload_n 1, 1) := by decide +kernel
theorem dX10_findBest_39 : decode cX10_findBest 39 = .ok (.iload_n 2, 1) := by decide +kernel
theorem dX10_findBest_40 : decode cX10_findBest 40 = .ok (.aload_n 0, 1) := by decide +kernel
theorem dX10_findBest_41 : decode cX10_findBest 41 = .ok (.iload_n 1, 1) := by decide +kernel
theorem dX10_findBest_42 : decode cX10_findBest 42 = .ok (.iload_n 2, 1) := by decide +kernel
theorem dX10_findBest_43 : decode cX10_findBest 43 = .ok (.invokevirtual 311, 3) := by decide +kernel
theorem dX10_findBest_46 : decode cX10_findBest 46 = .ok (.invokevirtual 314, 3) := by decide +kernel
theorem dX10_findBest_49 : decode cX10_findBest 49 = .ok (.iinc 2 1, 3) := by decide +kernel
theorem dX10_findBest_52 : decode cX10_findBest 52 = .ok (.goto (-35), 3) := by decide +kernel
theorem dX10_findBest_55 : decode cX10_findBest 55 = .ok (.iinc 1 1, 3) := by decide +kernel
theorem dX10_findBest_58 : decode cX10_findBest 58 = .ok (.goto (-48), 3) := by decide +kernel
theorem dX10_findBest_61 : decode cX10_findBest 61 = .ok (.aload_n 0, 1) := by decide +kernel
theorem dX10_findBest_62 : decode cX10_findBest 62 = .ok (.getfield 52, 3) := by decide +kernel
theorem dX10_findBest_65 : decode cX10_findBest 65 = .ok (.getfield 308, 3) := by decide +kernel
theorem dX10_findBest_68 : decode cX10_findBest 68 = .ok (.ifCond .ne 14, 3) := by decide +kernel
theorem dX10_findBest_71 : decode cX10_findBest 71 = .ok (.new 77, 3) := by decide +kernel
theorem dX10_findBest_74 : decode cX10_findBest 74 = .ok (.dup, 1) := by decide +kernel
theorem dX10_findBest_75 : decode cX10_findBest 75 = .ok (.ldc_w 317, 3) := by decide +kernel
theorem dX10_findBest_78 : decode cX10_findBest 78 = .ok (.invokespecial 81, 3) := by decide +kernel
theorem dX10_findBest_81 : decode cX10_findBest 81 = .ok (.athrow, 1) := by decide +kernel
theorem dX10_findBest_82 : decode cX10_findBest 82 = .ok (.return_, 1) := by decide +kernel
theorem dX10_leastRoomWith_0 : decode cX10_leastRoomWith 0 = .ok (.aload_n 0, 1) := by decide +kernel
theorem dX10_leastRoomWith_1 : decode cX10_leastRoomWith 1 = .ok (.getfield 19, 3) := by decide +kernel
theorem dX10_leastRoomWith_4 : decode cX10_leastRoomWith 4 = .ok (.aload_n 0, 1) := by decide +kernel
theorem dX10_leastRoomWith_5 : decode cX10_leastRoomWith 5 = .ok (.getfield 12, 3) := by decide +kernel
theorem dX10_leastRoomWith_8 : decode cX10_leastRoomWith 8 = .ok (.iload_n 1, 1) := by decide +kernel
theorem dX10_leastRoomWith_9 : decode cX10_leastRoomWith 9 = .ok (.iload_n 2, 1) := by decide +kernel
theorem dX10_leastRoomWith_10 : decode cX10_leastRoomWith 10 = .ok (.invokevirtual 292, 3) := by decide +kernel
theorem dX10_leastRoomWith_13 : decode cX10_leastRoomWith 13 = .ok (.iconst 0, 1) := by decide +kernel
theorem dX10_leastRoomWith_14 : decode cX10_leastRoomWith 14 = .ok (.istore_n 3, 1) := by decide +kernel
theorem dX10_leastRoomWith_15 : decode cX10_leastRoomWith 15 = .ok (.iconst 0, 1) := by decide +kernel
theorem dX10_leastRoomWith_16 : decode cX10_leastRoomWith 16 = .ok (.istore 4, 2) := by decide +kernel
theorem dX10_leastRoomWith_18 : decode cX10_leastRoomWith 18 = .ok (.iload 4, 2) := by decide +kernel
theorem dX10_leastRoomWith_20 : decode cX10_leastRoomWith 20 = .ok (.aload_n 0, 1) := by decide +kernel
theorem dX10_leastRoomWith_21 : decode cX10_leastRoomWith 21 = .ok (.getfield 12, 3) := by decide +kernel
theorem dX10_leastRoomWith_24 : decode cX10_leastRoomWith 24 = .ok (.getfield 67, 3) := by decide +kernel
theorem dX10_leastRoomWith_27 : decode cX10_leastRoomWith 27 = .ok (.invokevirtual 71, 3) := by decide +kernel
theorem dX10_leastRoomWith_30 : decode cX10_leastRoomWith 30 = .ok (.if_icmp .ge 29, 3) := by decide +kernel
theorem dX10_leastRoomWith_33 : decode cX10_leastRoomWith 33 = .ok (.aload_n 0, 1) := by decide +kernel
theorem dX10_leastRoomWith_34 : decode cX10_leastRoomWith 34 = .ok (.iload 4, 2) := by decide +kernel
theorem dX10_leastRoomWith_36 : decode cX10_leastRoomWith 36 = .ok (.invokevirtual 206, 3) := by decide +kernel
theorem dX10_leastRoomWith_39 : decode cX10_leastRoomWith 39 = .ok (.iload_n 3, 1) := by decide +kernel
theorem dX10_leastRoomWith_40 : decode cX10_leastRoomWith 40 = .ok (.aload_n 0, 1) := by decide +kernel
theorem dX10_leastRoomWith_41 : decode cX10_leastRoomWith 41 = .ok (.getfield 26, 3) := by decide +kernel
theorem dX10_leastRoomWith_44 : decode cX10_leastRoomWith 44 = .ok (.aload_n 0, 1) := by decide +kernel
theorem dX10_leastRoomWith_45 : decode cX10_leastRoomWith 45 = .ok (.getfield 33, 3) := by decide +kernel
theorem dX10_leastRoomWith_48 : decode cX10_leastRoomWith 48 = .ok (.invokevirtual 229, 3) := by decide +kernel
theorem dX10_leastRoomWith_51 : decode cX10_leastRoomWith 51 = .ok (.iadd, 1) := by decide +kernel
theorem dX10_leastRoomWith_52 : decode cX10_leastRoomWith 52 = .ok (.istore_n 3, 1) := by decide +kernel
theorem dX10_leastRoomWith_53 : decode cX10_leastRoomWith 53 = .ok (.iinc 4 1, 3) := by decide +kernel
theorem dX10_leastRoomWith_56 : decode cX10_leastRoomWith 56 = .ok (.goto (-38), 3) := by decide +kernel
theorem dX10_leastRoomWith_59 : decode cX10_leastRoomWith 59 = .ok (.iload_n 3, 1) := by decide +kernel
theorem dX10_leastRoomWith_60 : decode cX10_leastRoomWith 60 = .ok (.ireturn, 1) := by decide +kernel
theorem dX10_restOf_0 : decode cX10_restOf 0 = .ok (.iload_n 1, 1) := by decide +kernel
theorem dX10_restOf_1 : decode cX10_restOf 1 = .ok (.iconst 1, 1) := by decide +kernel
theorem dX10_restOf_2 : decode cX10_restOf 2 = .ok (.if_icmp .ge 7, 3) := by decide +kernel
theorem dX10_restOf_5 : decode cX10_restOf 5 = .ok (.iconst 0, 1) := by decide +kernel
theorem dX10_restOf_6 : decode cX10_restOf 6 = .ok (.goto 6, 3) := by decide +kernel
theorem dX10_restOf_9 : decode cX10_restOf 9 = .ok (.iload_n 0, 1) := by decide +kernel
theorem dX10_restOf_10 : decode cX10_restOf 10 = .ok (.iload_n 1, 1) := by decide +kernel
theorem dX10_restOf_11 : decode cX10_restOf 11 = .ok (.irem, 1) := by decide +kernel
theorem dX10_restOf_12 : decode cX10_restOf 12 = .ok (.ireturn, 1) := by decide +kernel
