theorem dX1_init_0 : decode cX1_init 0 = .ok (.aload_n 0, 1) := by decide +kernel
theorem dX1_init_1 : decode cX1_init 1 = .ok (.invokespecial 1, 3) := by decide +kernel
theorem dX1_init_4 : decode cX1_init 4 = .ok (.aload_n 0, 1) := by decide +kernel
theorem dX1_init_5 : decode cX1_init 5 = .ok (.iconst 0, 1) := by decide +kernel
theorem dX1_init_6 : decode cX1_init 6 = .ok (.putfield 7, 3) := by decide +kernel
theorem dX1_init_9 : decode cX1_init 9 = .ok (.aload_n 0, 1) := by decide +kernel
theorem dX1_init_10 : decode cX1_init 10 = .ok (.iconst 0, 1) := by decide +kernel
theorem dX1_init_11 : decode cX1_init 11 = .ok (.putfield 13, 3) := by decide +kernel
theorem dX1_init_14 : decode cX1_init 14 = .ok (.aload_n 0, 1) := by decide +kernel
theorem dX1_init_15 : decode cX1_init 15 = .ok (.iconst 0, 1) := by decide +kernel
theorem dX1_init_16 : decode cX1_init 16 = .ok (.putfield 17, 3) := by decide +kernel
theorem dX1_init_19 : decode cX1_init 19 = .ok (.aload_n 0, 1) := by decide +kernel
theorem dX1_init_20 : decode cX1_init 20 = .ok (.iconst 0, 1) := by decide +kernel
theorem dX1_init_21 : decode cX1_init 21 = .ok (.putfield 20, 3) := by decide +kernel
theorem dX1_init_24 : decode cX1_init 24 = .ok (.return_, 1) := by decide +kernel
theorem dX1_offer_0 : decode cX1_offer 0 = .ok (.aload_n 0, 1) := by decide +kernel
theorem dX1_offer_1 : decode cX1_offer 1 = .ok (.getfield 7, 3) := by decide +kernel
theorem dX1_offer_4 : decode cX1_offer 4 = .ok (.ifCond .eq 11, 3) := by decide +kernel
theorem dX1_offer_7 : decode cX1_offer 7 = .ok (.iload_n 3, 1) := by decide +kernel
theorem dX1_offer_8 : decode cX1_offer 8 = .ok (.aload_n 0, 1) := by decide +kernel
theorem dX1_offer_9 : decode cX1_offer 9 = .ok (.getfield 20, 3) := by decide +kernel
theorem dX1_offer_12 : decode cX1_offer 12 = .ok (.if_icmp .ge 23, 3) := by decide +kernel
theorem dX1_offer_15 : decode cX1_offer 15 = .ok (.aload_n 0, 1) := by decide +kernel
theorem dX1_offer_16 : decode cX1_offer 16 = .ok (.iconst 1, 1) := by decide +kernel
theorem dX1_offer_17 : decode cX1_offer 17 = .ok (.putfield 7, 3) := by decide +kernel
theorem dX1_offer_20 : decode cX1_offer 20 = .ok (.aload_n 0, 1) := by decide +kernel
theorem dX1_offer_21 : decode cX1_offer 21 = .ok (.iload_n 1, 1) := by decide +kernel
theorem dX1_offer_22 : decode cX1_offer 22 = .ok (.putfield 13, 3) := by decide +kernel
theorem dX1_offer_25 : decode cX1_offer 25 = .ok (.aload_n 0, 1) := by decide +kernel
theorem dX1_offer_26 : decode cX1_offer 26 = .ok (.iload_n 2, 1) := by decide +kernel
theorem dX1_offer_27 : decode cX1_offer 27 = .ok (.putfield 17, 3) := by decide +kernel
theorem dX1_offer_30 : decode cX1_offer 30 = .ok (.aload_n 0, 1) := by decide +kernel
theorem dX1_offer_31 : decode cX1_offer 31 = .ok (.iload_n 3, 1) := by decide +kernel
theorem dX1_offer_32 : decode cX1_offer 32 = .ok (.putfield 20, 3) := by decide +kernel
theorem dX1_offer_35 : decode cX1_offer 35 = .ok (.return_, 1) := by decide +kernel
theorem dX2_init_0 : decode cX2_init 0 = .ok (.aload_n 0, 1) := by decide +kernel
theorem dX2_init_1 : decode cX2_init 1 = .ok (.invokespecial 3, 3) := by decide +kernel
theorem dX2_init_4 : decode cX2_init 4 = .ok (.aload_n 0, 1) := by decide +kernel
theorem dX2_init_5 : decode cX2_init 5 = .ok (.sipush 225, 3) := by decide +kernel
theorem dX2_init_8 : decode cX2_init 8 = .ok (.newarray .boolean, 2) := by decide +kernel
theorem dX2_init_10 : decode cX2_init 10 = .ok (.putfield 9, 3) := by decide +kernel
theorem dX2_init_13 : decode cX2_init 13 = .ok (.aload_n 0, 1) := by decide +kernel
theorem dX2_init_14 : decode cX2_init 14 = .ok (.sipush 225, 3) := by decide +kernel
theorem dX2_init_17 : decode cX2_init 17 = .ok (.newarray .int, 2) := by decide +kernel
theorem dX2_init_19 : decode cX2_init 19 = .ok (.putfield 15, 3) := by decide +kernel
theorem dX2_init_22 : decode cX2_init 22 = .ok (.aload_n 0, 1) := by decide +kernel
theorem dX2_init_23 : decode cX2_init 23 = .ok (.sipush 225, 3) := by decide +kernel
theorem dX2_init_26 : decode cX2_init 26 = .ok (.newarray .int, 2) := by decide +kernel
theorem dX2_init_28 : decode cX2_init 28 = .ok (.putfield 19, 3) := by decide +kernel
theorem dX2_init_31 : decode cX2_init 31 = .ok (.aload_n 0, 1) := by decide +kernel
theorem dX2_init_32 : decode cX2_init 32 = .ok (.bipush 64, 2) := by decide +kernel
theorem dX2_init_34 : decode cX2_init 34 = .ok (.newarray .boolean, 2) := by decide +kernel
theorem dX2_init_36 : decode cX2_init 36 = .ok (.putfield 22, 3) := by decide +kernel
theorem dX2_init_39 : decode cX2_init 39 = .ok (.aload_n 0, 1) := by decide +kernel
theorem dX2_init_40 : decode cX2_init 40 = .ok (.iconst 0, 1) := by decide +kernel
theorem dX2_init_41 : decode cX2_init 41 = .ok (.putfield 25, 3) := by decide +kernel
theorem dX2_init_44 : decode cX2_init 44 = .ok (.aload_n 0, 1) := by decide +kernel
theorem dX2_init_45 : decode cX2_init 45 = .ok (.iconst 4, 1) := by decide +kernel
theorem dX2_init_46 : decode cX2_init 46 = .ok (.putfield 29, 3) := by decide +kernel
theorem dX2_init_49 : decode cX2_init 49 = .ok (.aload_n 0, 1) := by decide +kernel
theorem dX2_init_50 : decode cX2_init 50 = .ok (.iconst 4, 1) := by decide +kernel
theorem dX2_init_51 : decode cX2_init 51 = .ok (.putfield 32, 3) := by decide +kernel
theorem dX2_init_54 : decode cX2_init 54 = .ok (.return_, 1) := by decide +kernel
theorem dX2_clear_0 : decode cX2_clear 0 = .ok (.iconst 0, 1) := by decide +kernel
theorem dX2_clear_1 : decode cX2_clear 1 = .ok (.istore_n 2, 1) := by decide +kernel
theorem dX2_clear_2 : decode cX2_clear 2 = .ok (.iload_n 2, 1) := by decide +kernel
theorem dX2_clear_3 : decode cX2_clear 3 = .ok (.aload_n 0, 1) := by decide +kernel
theorem dX2_clear_4 : decode cX2_clear 4 = .ok (.getfield 9, 3) := by decide +kernel
theorem dX2_clear_7 : decode cX2_clear 7 = .ok (.arraylength, 1) := by decide +kernel
theorem dX2_clear_8 : decode cX2_clear 8 = .ok (.if_icmp .ge 16, 3) := by decide +kernel
theorem dX2_clear_11 : decode cX2_clear 11 = .ok (.aload_n 0, 1) := by decide +kernel
theorem dX2_clear_12 : decode cX2_clear 12 = .ok (.getfield 9, 3) := by decide +kernel
theorem dX2_clear_15 : decode cX2_clear 15 = .ok (.iload_n 2, 1) := by decide +kernel
theorem dX2_clear_16 : decode cX2_clear 16 = .ok (.iconst 0, 1) := by decide +kernel
theorem dX2_clear_17 : decode cX2_clear 17 = .ok (.bastore, 1) := by decide +kernel
theorem dX2_clear_18 : decode cX2_clear 18 = .ok (.iinc 2 1, 3) := by decide +kernel
theorem dX2_clear_21 : decode cX2_clear 21 = .ok (.goto (-19), 3) := by decide +kernel
theorem dX2_clear_24 : decode cX2_clear 24 = .ok (.aload_n 0, 1) := by decide +kernel
theorem dX2_clear_25 : decode cX2_clear 25 = .ok (.iconst 0, 1) := by decide +kernel
theorem dX2_clear_26 : decode cX2_clear 26 = .ok (.putfield 25, 3) := by decide +kernel
theorem dX2_clear_29 : decode cX2_clear 29 = .ok (.aload_n 0, 1) := by decide +kernel
theorem dX2_clear_30 : decode cX2_clear 30 = .ok (.aload_n 1, 1) := by decide +kernel
theorem dX2_clear_31 : decode cX2_clear 31 = .ok (.getfield 35, 3) := by decide +kernel
theorem dX2_clear_34 : decode cX2_clear 34 = .ok (.putfield 29, 3) := by decide +kernel
theorem dX2_clear_37 : decode cX2_clear 37 = .ok (.aload_n 0, 1) := by decide +kernel
theorem dX2_clear_38 : decode cX2_clear 38 = .ok (.aload_n 1, 1) := by decide +kernel
theorem dX2_clear_39 : decode cX2_clear 39 = .ok (.getfield 38, 3) := by decide +kernel
theorem dX2_clear_42 : decode cX2_clear 42 = .ok (.putfield 32, 3) := by decide +kernel
theorem dX2_clear_45 : decode cX2_clear 45 = .ok (.return_, 1) := by decide +kernel
theorem dX2_add_0 : decode cX2_add 0 = .ok (.aload_n 1, 1) := by decide +kernel
theorem dX2_add_1 : decode cX2_add 1 = .ok (.iload 4, 2) := by decide +kernel
theorem dX2_add_3 : decode cX2_add 3 = .ok (.iconst 1, 1) := by decide +kernel
theorem dX2_add_4 : decode cX2_add 4 = .ok (.iadd, 1) := by decide +kernel
theorem dX2_add_5 : decode cX2_add 5 = .ok (.invokevirtual 39, 3) := by decide +kernel
theorem dX2_add_8 : decode cX2_add 8 = .ok (.istore 5, 2) := by decide +kernel
theorem dX2_add_10 : decode cX2_add 10 = .ok (.aload_n 1, 1) := by decide +kernel
theorem dX2_add_11 : decode cX2_add 11 = .ok (.iload_n 3, 1) := by decide +kernel
theorem dX2_add_12 : decode cX2_add 12 = .ok (.invokevirtual 39, 3) := by decide +kernel
theorem dX2_add_15 : decode cX2_add 15 = .ok (.istore 6, 2) := by decide +kernel
theorem dX2_add_17 : decode cX2_add 17 = .ok (.iload 6, 2) := by decide +kernel
theorem dX2_add_19 : decode cX2_add 19 = .ok (.aload_n 1, 1) := by decide +kernel
theorem dX2_add_20 : decode cX2_add 20 = .ok (.iload_n 3, 1) := by decide +kernel
theorem dX2_add_21 : decode cX2_add 21 = .ok (.iconst 1, 1) := by decide +kernel
theorem dX2_add_22 : decode cX2_add 22 = .ok (.iadd, 1) := by decide +kernel
theorem dX2_add_23 : decode cX2_add 23 = .ok (.invokevirtual 39, 3) := by decide +kernel
theorem dX2_add_26 : decode cX2_add 26 = .ok (.if_icmp .ge 92, 3) := by decide +kernel
theorem dX2_add_29 : decode cX2_add 29 = .ok (.iload_n 3, 1) := by decide +kernel
theorem dX2_add_30 : decode cX2_add 30 = .ok (.iload 4, 2) := by decide +kernel
theorem dX2_add_32 : decode cX2_add 32 = .ok (.if_icmp .ne 10, 3) := by decide +kernel
theorem dX2_add_35 : decode cX2_add 35 = .ok (.iload 6, 2) := by decide +kernel
theorem dX2_add_37 : decode cX2_add 37 = .ok (.iconst 1, 1) := by decide +kernel
theorem dX2_add_38 : decode cX2_add 38 = .ok (.iadd, 1) := by decide +kernel
theorem dX2_add_39 : decode cX2_add 39 = .ok (.goto 9, 3) := by decide +kernel
theorem dX2_add_42 : decode cX2_add 42 = .ok (.aload_n 1, 1) := by decide +kernel
theorem dX2_add_43 : decode cX2_add 43 = .ok (.iload 4, 2) := by decide +kernel
theorem dX2_add_45 : decode cX2_add 45 = .ok (.invokevirtual 39, 3) := by decide +kernel
theorem dX2_add_48 : decode cX2_add 48 = .ok (.istore 7, 2) := by decide +kernel
theorem dX2_add_50 : decode cX2_add 50 = .ok (.iload 7, 2) := by decide +kernel
theorem dX2_add_52 : decode cX2_add 52 = .ok (.istore 8, 2) := by decide +kernel
theorem dX2_add_54 : decode cX2_add 54 = .ok (.iload 8, 2) := by decide +kernel
theorem dX2_add_56 : decode cX2_add 56 = .ok (.iload 5, 2) := by decide +kernel
theorem dX2_add_58 : decode cX2_add 58 = .ok (.if_icmp .ge 54, 3) := by decide +kernel
theorem dX2_add_61 : decode cX2_add 61 = .ok (.aload_n 2, 1) := by decide +kernel
theorem dX2_add_62 : decode cX2_add 62 = .ok (.iload 6, 2) := by decide +kernel
theorem dX2_add_64 : decode cX2_add 64 = .ok (.iload 8, 2) := by decide +kernel
theorem dX2_add_66 : decode cX2_add 66 = .ok (.invokevirtual 43, 3) := by decide +kernel
theorem dX2_add_69 : decode cX2_add 69 = .ok (.ifCond .eq 37, 3) := by decide +kernel
theorem dX2_add_72 : decode cX2_add 72 = .ok (.aload_n 0, 1) := by decide +kernel
theorem dX2_add_73 : decode cX2_add 73 = .ok (.aload_n 2, 1) := by decide +kernel
theorem dX2_add_74 : decode cX2_add 74 = .ok (.getfield 49, 3) := by decide +kernel
theorem dX2_add_77 : decode cX2_add 77 = .ok (.iload 8, 2) := by decide +kernel
theorem dX2_add_79 : decode cX2_add 79 = .ok (.iaload, 1) := by decide +kernel
theorem dX2_add_80 : decode cX2_add 80 = .ok (.aload_n 2, 1) := by decide +kernel
theorem dX2_add_81 : decode cX2_add 81 = .ok (.getfield 49, 3) := by decide +kernel
theorem dX2_add_84 : decode cX2_add 84 = .ok (.iload 6, 2) := by decide +kernel
theorem dX2_add_86 : decode cX2_add 86 = .ok (.iaload, 1) := by decide +kernel
theorem dX2_add_87 : decode cX2_add 87 = .ok (.isub, 1) := by decide +kernel
theorem dX2_add_88 : decode cX2_add 88 = .ok (.aload_n 2, 1) := by decide +kernel
theorem dX2_add_89 : decode cX2_add 89 = .ok (.getfield 52, 3) := by decide +kernel
theorem dX2_add_92 : decode cX2_add 92 = .ok (.iload 8, 2) := by decide +kernel
theorem dX2_add_94 : decode cX2_add 94 = .ok (.iaload, 1) := by decide +kernel
theorem dX2_add_95 : decode cX2_add 95 = .ok (.aload_n 2, 1) := by decide +kernel
theorem dX2_add_96 : decode cX2_add 96 = .ok (.getfield 52, 3) := by decide +kernel
theorem dX2_add_99 : decode cX2_add 99 = .ok (.iload 6, 2) := by decide +kernel
theorem dX2_add_101 : decode cX2_add 101 = .ok (.iaload, 1) := by decide +kernel
theorem dX2_add_102 : decode cX2_add 102 = .ok (.isub, 1) := by decide +kernel
theorem dX2_add_103 : decode cX2_add 103 = .ok (.invokevirtual 55, 3) := by decide +kernel
theorem dX2_add_106 : decode cX2_add 106 = .ok (.iinc 8 1, 3) := by decide +kernel
theorem dX2_add_109 : decode cX2_add 109 = .ok (.goto (-55), 3) := by decide +kernel
theorem dX2_add_112 : decode cX2_add 112 = .ok (.iinc 6 1, 3) := by decide +kernel
theorem dX2_add_115 : decode cX2_add 115 = .ok (.goto (-98), 3) := by decide +kernel
theorem dX2_add_118 : decode cX2_add 118 = .ok (.return_, 1) := by decide +kernel
theorem dX2_addOne_0 : decode cX2_addOne 0 = .ok (.iload_n 1, 1) := by decide +kernel
theorem dX2_addOne_1 : decode cX2_addOne 1 = .ok (.bipush 8, 2) := by decide +kernel
theorem dX2_addOne_3 : decode cX2_addOne 3 = .ok (.iadd, 1) := by decide +kernel
theorem dX2_addOne_4 : decode cX2_addOne 4 = .ok (.iconst 1, 1) := by decide +kernel
theorem dX2_addOne_5 : decode cX2_addOne 5 = .ok (.isub, 1) := by decide +kernel
theorem dX2_addOne_6 : decode cX2_addOne 6 = .ok (.bipush 15, 2) := by decide +kernel
theorem dX2_addOne_8 : decode cX2_addOne 8 = .ok (.imul, 1) := by decide +kernel
theorem dX2_addOne_9 : decode cX2_addOne 9 = .ok (.iload_n 2, 1) := by decide +kernel
theorem dX2_addOne_10 : decode cX2_addOne 10 = .ok (.iadd, 1) := by decide +kernel
theorem dX2_addOne_11 : decode cX2_addOne 11 = .ok (.bipush 8, 2) := by decide +kernel
theorem dX2_addOne_13 : decode cX2_addOne 13 = .ok (.iadd, 1) := by decide +kernel
theorem dX2_addOne_14 : decode cX2_addOne 14 = .ok (.iconst 1, 1) := by decide +kernel
theorem dX2_addOne_15 : decode cX2_addOne 15 = .ok (.isub, 1) := by decide +kernel
theorem dX2_addOne_16 : decode cX2_addOne 16 = .ok (.istore_n 3, 1) := by decide +kernel
theorem dX2_addOne_17 : decode cX2_addOne 17 = .ok (.aload_n 0, 1) := by decide +kernel
theorem dX2_addOne_18 : decode cX2_addOne 18 = .ok (.getfield 9, 3) := by decide +kernel
theorem dX2_addOne_21 : decode cX2_addOne 21 = .ok (.iload_n 3, 1) := by decide +kernel
theorem dX2_addOne_22 : decode cX2_addOne 22 = .ok (.baload, 1) := by decide +kernel
theorem dX2_addOne_23 : decode cX2_addOne 23 = .ok (.ifCond .eq 4, 3) := by decide +kernel
theorem dX2_addOne_26 : decode cX2_addOne 26 = .ok (.return_, 1) := by decide +kernel
theorem dX2_addOne_27 : decode cX2_addOne 27 = .ok (.aload_n 0, 1) := by decide +kernel
theorem dX2_addOne_28 : decode cX2_addOne 28 = .ok (.getfield 9, 3) := by decide +kernel
theorem dX2_addOne_31 : decode cX2_addOne 31 = .ok (.iload_n 3, 1) := by decide +kernel
theorem dX2_addOne_32 : decode cX2_addOne 32 = .ok (.iconst 1, 1) := by decide +kernel
theorem dX2_addOne_33 : decode cX2_addOne 33 = .ok (.bastore, 1) := by decide +kernel
theorem dX2_addOne_34 : decode cX2_addOne 34 = .ok (.aload_n 0, 1) := by decide +kernel
theorem dX2_addOne_35 : decode cX2_addOne 35 = .ok (.getfield 15, 3) := by decide +kernel
theorem dX2_addOne_38 : decode cX2_addOne 38 = .ok (.aload_n 0, 1) := by decide +kernel
theorem dX2_addOne_39 : decode cX2_addOne 39 = .ok (.getfield 25, 3) := by decide +kernel
theorem dX2_addOne_42 : decode cX2_addOne 42 = .ok (.iload_n 1, 1) := by decide +kernel
theorem dX2_addOne_43 : decode cX2_addOne 43 = .ok (.iastore, 1) := by decide +kernel
theorem dX2_addOne_44 : decode cX2_addOne 44 = .ok (.aload_n 0, 1) := by decide +kernel
theorem dX2_addOne_45 : decode cX2_addOne 45 = .ok (.getfield 19, 3) := by decide +kernel
theorem dX2_addOne_48 : decode cX2_addOne 48 = .ok (.aload_n 0, 1) := by decide +kernel
theorem dX2_addOne_49 : decode cX2_addOne 49 = .ok (.getfield 25, 3) := by decide +kernel
theorem dX2_addOne_52 : decode cX2_addOne 52 = .ok (.iload_n 2, 1) := by decide +kernel
theorem dX2_addOne_53 : decode cX2_addOne 53 = .ok (.iastore, 1) := by decide +kernel
theorem dX2_addOne_54 : decode cX2_addOne 54 = .ok (.aload_n 0, 1) := by decide +kernel
theorem dX2_addOne_55 : decode cX2_addOne 55 = .ok (.dup, 1) := by decide +kernel
theorem dX2_addOne_56 : decode cX2_addOne 56 = .ok (.getfield 25, 3) := by decide +kernel
theorem dX2_addOne_59 : decode cX2_addOne 59 = .ok (.iconst 1, 1) := by decide +kernel
theorem dX2_addOne_60 : decode cX2_addOne 60 = .ok (.iadd, 1) := by decide +kernel
theorem dX2_addOne_61 : decode cX2_addOne 61 = .ok (.putfield 25, 3) := by decide +kernel
theorem dX2_addOne_64 : decode cX2_addOne 64 = .ok (.return_, 1) := by decide +kernel
theorem dX2_areKeptApart_0 : decode cX2_areKeptApart 0 = .ok (.iconst 0, 1) := by decide +kernel
theorem dX2_areKeptApart_1 : decode cX2_areKeptApart 1 = .ok (.istore_n 2, 1) := by decide +kernel
theorem dX2_areKeptApart_2 : decode cX2_areKeptApart 2 = .ok (.iload_n 2, 1) := by decide +kernel
theorem dX2_areKeptApart_3 : decode cX2_areKeptApart 3 = .ok (.aload_n 0, 1) := by decide +kernel
theorem dX2_areKeptApart_4 : decode cX2_areKeptApart 4 = .ok (.getfield 25, 3) := by decide +kernel
theorem dX2_areKeptApart_7 : decode cX2_areKeptApart 7 = .ok (.if_icmp .ge 34, 3) := by decide +kernel
theorem dX2_areKeptApart_10 : decode cX2_areKeptApart 10 = .ok (.aload_n 1, 1) := by decide +kernel
theorem dX2_areKeptApart_11 : decode cX2_areKeptApart 11 = .ok (.aload_n 0, 1) := by decide +kernel
theorem dX2_areKeptApart_12 : decode cX2_areKeptApart 12 = .ok (.getfield 15, 3) := by decide +kernel
theorem dX2_areKeptApart_15 : decode cX2_areKeptApart 15 = .ok (.iload_n 2, 1) := by decide +kernel
theorem dX2_areKeptApart_16 : decode cX2_areKeptApart 16 = .ok (.iaload, 1) := by decide +kernel
theorem dX2_areKeptApart_17 : decode cX2_areKeptApart 17 = .ok (.aload_n 0, 1) := by decide +kernel
theorem dX2_areKeptApart_18 : decode cX2_areKeptApart 18 = .ok (.getfield 19, 3) := by decide +kernel
theorem dX2_areKeptApart_21 : decode cX2_areKeptApart 21 = .ok (.iload_n 2, 1) := by decide +kernel
theorem dX2_areKeptApart_22 : decode cX2_areKeptApart 22 = .ok (.iaload, 1) := by decide +kernel
theorem dX2_areKeptApart_23 : decode cX2_areKeptApart 23 = .ok (.aload_n 0, 1) := by decide +kernel
theorem dX2_areKeptApart_24 : decode cX2_areKeptApart 24 = .ok (.getfield 32, 3) := by decide +kernel
theorem dX2_areKeptApart_27 : decode cX2_areKeptApart 27 = .ok (.invokevirtual 59, 3) := by decide +kernel
theorem dX2_areKeptApart_30 : decode cX2_areKeptApart 30 = .ok (.ifCond .ne 5, 3) := by decide +kernel
theorem dX2_areKeptApart_33 : decode cX2_areKeptApart 33 = .ok (.iconst 0, 1) := by decide +kernel
theorem dX2_areKeptApart_34 : decode cX2_areKeptApart 34 = .ok (.ireturn, 1) := by decide +kernel
theorem dX2_areKeptApart_35 : decode cX2_areKeptApart 35 = .ok (.iinc 2 1, 3) := by decide +kernel
theorem dX2_areKeptApart_38 : decode cX2_areKeptApart 38 = .ok (.goto (-36), 3) := by decide +kernel
theorem dX2_areKeptApart_41 : decode cX2_areKeptApart 41 = .ok (.iconst 1, 1) := by decide +kernel
theorem dX2_areKeptApart_42 : decode cX2_areKeptApart 42 = .ok (.ireturn, 1) := by decide +kernel
theorem dX2_leastRestModulus_0 : decode cX2_leastRestModulus 0 = .ok (.iconst 1, 1) := by decide +kernel
theorem dX2_leastRestModulus_1 : decode cX2_leastRestModulus 1 = .ok (.istore_n 2, 1) := by decide +kernel
theorem dX2_leastRestModulus_2 : decode cX2_leastRestModulus 2 = .ok (.iload_n 2, 1) := by decide +kernel
theorem dX2_leastRestModulus_3 : decode cX2_leastRestModulus 3 = .ok (.bipush 99, 2) := by decide +kernel
theorem dX2_leastRestModulus_5 : decode cX2_leastRestModulus 5 = .ok (.if_icmp .gt 24, 3) := by decide +kernel
theorem dX2_leastRestModulus_8 : decode cX2_leastRestModulus 8 = .ok (.aload_n 1, 1) := by decide +kernel
theorem dX2_leastRestModulus_9 : decode cX2_leastRestModulus 9 = .ok (.iload_n 2, 1) := by decide +kernel
theorem dX2_leastRestModulus_10 : decode cX2_leastRestModulus 10 = .ok (.invokevirtual 65, 3) := by decide +kernel
theorem dX2_leastRestModulus_13 : decode cX2_leastRestModulus 13 = .ok (.aload_n 0, 1) := by decide +kernel
theorem dX2_leastRestModulus_14 : decode cX2_leastRestModulus 14 = .ok (.aload_n 1, 1) := by decide +kernel
theorem dX2_leastRestModulus_15 : decode cX2_leastRestModulus 15 = .ok (.invokevirtual 69, 3) := by decide +kernel
theorem dX2_leastRestModulus_18 : decode cX2_leastRestModulus 18 = .ok (.ifCond .eq 5, 3) := by decide +kernel
theorem dX2_leastRestModulus_21 : decode cX2_leastRestModulus 21 = .ok (.iload_n 2, 1) := by decide +kernel
theorem dX2_leastRestModulus_22 : decode cX2_leastRestModulus 22 = .ok (.ireturn, 1) := by decide +kernel
theorem dX2_leastRestModulus_23 : decode cX2_leastRestModulus 23 = .ok (.iinc 2 1, 3) := by decide +kernel
theorem dX2_leastRestModulus_26 : decode cX2_leastRestModulus 26 = .ok (.goto (-24), 3) := by decide +kernel
theorem dX2_leastRestModulus_29 : decode cX2_leastRestModulus 29 = .ok (.iconst (-1), 1) := by decide +kernel
theorem dX2_leastRestModulus_30 : decode cX2_leastRestModulus 30 = .ok (.ireturn, 1) := by decide +kernel
theorem dX2_leastModulusDividingNone_0 : decode cX2_leastModulusDividingNone 0 = .ok (.iconst 0, 1) := by decide +kernel
theorem dX2_leastModulusDividingNone_1 : decode cX2_leastModulusDividingNone 1 = .ok (.istore_n 1, 1) := by decide +kernel
theorem dX2_leastModulusDividingNone_2 : decode cX2_leastModulusDividingNone 2 = .ok (.iload_n 1, 1) := by decide +kernel
theorem dX2_leastModulusDividingNone_3 : decode cX2_leastModulusDividingNone 3 = .ok (.aload_n 0, 1) := by decide +kernel
theorem dX2_leastModulusDividingNone_4 : decode cX2_leastModulusDividingNone 4 = .ok (.getfield 22, 3) := by decide +kernel
theorem dX2_leastModulusDividingNone_7 : decode cX2_leastModulusDividingNone 7 = .ok (.arraylength, 1) := by decide +kernel
theorem dX2_leastModulusDividingNone_8 : decode cX2_leastModulusDividingNone 8 = .ok (.if_icmp .ge 16, 3) := by decide +kernel
theorem dX2_leastModulusDividingNone_11 : decode cX2_leastModulusDividingNone 11 = .ok (.aload_n 0, 1) := by decide +kernel
theorem dX2_leastModulusDividingNone_12 : decode cX2_leastModulusDividingNone 12 = .ok (.getfield 22, 3) := by decide +kernel
theorem dX2_leastModulusDividingNone_15 : decode cX2_leastModulusDividingNone 15 = .ok (.iload_n 1, 1) := by decide +kernel
theorem dX2_leastModulusDividingNone_16 : decode cX2_leastModulusDividingNone 16 = .ok (.iconst 0, 1) := by decide +kernel
theorem dX2_leastModulusDividingNone_17 : decode cX2_leastModulusDividingNone 17 = .ok (.bastore, 1) := by decide +kernel
theorem dX2_leastModulusDividingNone_18 : decode cX2_leastModulusDividingNone 18 = .ok (.iinc 1 1, 3) := by decide +kernel
theorem dX2_leastModulusDividingNone_21 : decode cX2_leastModulusDividingNone 21 = .ok (.goto (-19), 3) := by decide +kernel
theorem dX2_leastModulusDividingNone_24 : decode cX2_leastModulusDividingNone 24 = .ok (.iconst 0, 1) := by decide +kernel
theorem dX2_leastModulusDividingNone_25 : decode cX2_leastModulusDividingNone 25 = .ok (.istore_n 1, 1) := by decide +kernel
theorem dX2_leastModulusDividingNone_26 : decode cX2_leastModulusDividingNone 26 = .ok (.iload_n 1, 1) := by decide +kernel
theorem dX2_leastModulusDividingNone_27 : decode cX2_leastModulusDividingNone 27 = .ok (.aload_n 0, 1) := by decide +kernel
theorem dX2_leastModulusDividingNone_28 : decode cX2_leastModulusDividingNone 28 = .ok (.getfield 25, 3) := by decide +kernel
theorem dX2_leastModulusDividingNone_31 : decode cX2_leastModulusDividingNone 31 = .ok (.if_icmp .ge 36, 3) := by decide +kernel
theorem dX2_leastModulusDividingNone_34 : decode cX2_leastModulusDividingNone 34 = .ok (.aload_n 0, 1) := by decide +kernel
theorem dX2_leastModulusDividingNone_35 : decode cX2_leastModulusDividingNone 35 = .ok (.getfield 22, 3) := by decide +kernel
theorem dX2_leastModulusDividingNone_38 : decode cX2_leastModulusDividingNone 38 = .ok (.aload_n 0, 1) := by decide +kernel
theorem dX2_leastModulusDividingNone_39 : decode cX2_leastModulusDividingNone 39 = .ok (.getfield 15, 3) := by decide +kernel
theorem dX2_leastModulusDividingNone_42 : decode cX2_leastModulusDividingNone 42 = .ok (.iload_n 1, 1) := by decide +kernel
theorem dX2_leastModulusDividingNone_43 : decode cX2_leastModulusDividingNone 43 = .ok (.iaload, 1) := by decide +kernel
theorem dX2_leastModulusDividingNone_44 : decode cX2_leastModulusDividingNone 44 = .ok (.aload_n 0, 1) := by decide +kernel
theorem dX2_leastModulusDividingNone_45 : decode cX2_leastModulusDividingNone 45 = .ok (.getfield 32, 3) := by decide +kernel
theorem dX2_leastModulusDividingNone_48 : decode cX2_leastModulusDividingNone 48 = .ok (.imul, 1) := by decide +kernel
theorem dX2_leastModulusDividingNone_49 : decode cX2_leastModulusDividingNone 49 = .ok (.aload_n 0, 1) := by decide +kernel
theorem dX2_leastModulusDividingNone_50 : decode cX2_leastModulusDividingNone 50 = .ok (.getfield 19, 3) := by decide +kernel
theorem dX2_leastModulusDividingNone_53 : decode cX2_leastModulusDividingNone 53 = .ok (.iload_n 1, 1) := by decide +kernel
theorem dX2_leastModulusDividingNone_54 : decode cX2_leastModulusDividingNone 54 = .ok (.iaload, 1) := by decide +kernel
theorem dX2_leastModulusDividingNone_55 : decode cX2_leastModulusDividingNone 55 = .ok (.iadd, 1) := by decide +kernel
theorem dX2_leastModulusDividingNone_56 : decode cX2_leastModulusDividingNone 56 = .ok (.invokestatic 73, 3) := by decide +kernel
theorem dX2_leastModulusDividingNone_59 : decode cX2_leastModulusDividingNone 59 = .ok (.iconst 1, 1) := by decide +kernel
theorem dX2_leastModulusDividingNone_60 : decode cX2_leastModulusDividingNone 60 = .ok (.bastore, 1) := by decide +kernel
theorem dX2_leastModulusDividingNone_61 : decode cX2_leastModulusDividingNone 61 = .ok (.iinc 1 1, 3) := by decide +kernel
theorem dX2_leastModulusDividingNone_64 : decode cX2_leastModulusDividingNone 64 = .ok (.goto (-38), 3) := by decide +kernel
theorem dX2_leastModulusDividingNone_67 : decode cX2_leastModulusDividingNone 67 = .ok (.iconst 1, 1) := by decide +kernel
theorem dX2_leastModulusDividingNone_68 : decode cX2_leastModulusDividingNone 68 = .ok (.istore_n 1, 1) := by decide +kernel
theorem dX2_leastModulusDividingNone_69 : decode cX2_leastModulusDividingNone 69 = .ok (.iload_n 1, 1) := by decide +kernel
theorem dX2_leastModulusDividingNone_70 : decode cX2_leastModulusDividingNone 70 = .ok (.aload_n 0, 1) := by decide +kernel
theorem dX2_leastModulusDividingNone_71 : decode cX2_leastModulusDividingNone 71 = .ok (.getfield 22, 3) := by decide +kernel
theorem dX2_leastModulusDividingNone_74 : decode cX2_leastModulusDividingNone 74 = .ok (.arraylength, 1) := by decide +kernel
theorem dX2_leastModulusDividingNone_75 : decode cX2_leastModulusDividingNone 75 = .ok (.if_icmp .ge 17, 3) := by decide +kernel
theorem dX2_leastModulusDividingNone_78 : decode cX2_leastModulusDividingNone 78 = .ok (.aload_n 0, 1) := by decide +kernel
theorem dX2_leastModulusDividingNone_79 : decode cX2_leastModulusDividingNone 79 = .ok (.iload_n 1, 1) := by decide +kernel
theorem dX2_leastModulusDividingNone_80 : decode cX2_leastModulusDividingNone 80 = .ok (.invokevirtual 78, 3) := by decide +kernel
theorem dX2_leastModulusDividingNone_83 : decode cX2_leastModulusDividingNone 83 = .ok (.ifCond .eq 9, 3) := by decide +kernel
theorem dX2_leastModulusDividingNone_86 : decode cX2_leastModulusDividingNone 86 = .ok (.iinc 1 1, 3) := by decide +kernel
theorem dX2_leastModulusDividingNone_89 : decode cX2_leastModulusDividingNone 89 = .ok (.goto (-20), 3) := by decide +kernel
theorem dX2_leastModulusDividingNone_92 : decode cX2_leastModulusDividingNone 92 = .ok (.iload_n 1, 1) := by decide +kernel
theorem dX2_leastModulusDividingNone_93 : decode cX2_leastModulusDividingNone 93 = .ok (.ireturn, 1) := by decide +kernel
theorem dX2_dividesOne_0 : decode cX2_dividesOne 0 = .ok (.iload_n 1, 1) := by decide +kernel
theorem dX2_dividesOne_1 : decode cX2_dividesOne 1 = .ok (.istore_n 2, 1) := by decide +kernel
theorem dX2_dividesOne_2 : decode cX2_dividesOne 2 = .ok (.iload_n 2, 1) := by decide +kernel
theorem dX2_dividesOne_3 : decode cX2_dividesOne 3 = .ok (.aload_n 0, 1) := by decide +kernel
theorem dX2_dividesOne_4 : decode cX2_dividesOne 4 = .ok (.getfield 22, 3) := by decide +kernel
theorem dX2_dividesOne_7 : decode cX2_dividesOne 7 = .ok (.arraylength, 1) := by decide +kernel
theorem dX2_dividesOne_8 : decode cX2_dividesOne 8 = .ok (.if_icmp .ge 21, 3) := by decide +kernel
theorem dX2_dividesOne_11 : decode cX2_dividesOne 11 = .ok (.aload_n 0, 1) := by decide +kernel
theorem dX2_dividesOne_12 : decode cX2_dividesOne 12 = .ok (.getfield 22, 3) := by decide +kernel
theorem dX2_dividesOne_15 : decode cX2_dividesOne 15 = .ok (.iload_n 2, 1) := by decide +kernel
theorem dX2_dividesOne_16 : decode cX2_dividesOne 16 = .ok (.baload, 1) := by decide +kernel
theorem dX2_dividesOne_17 : decode cX2_dividesOne 17 = .ok (.ifCond .eq 5, 3) := by decide +kernel
theorem dX2_dividesOne_20 : decode cX2_dividesOne 20 = .ok (.iconst 1, 1) := by decide +kernel
theorem dX2_dividesOne_21 : decode cX2_dividesOne 21 = .ok (.ireturn, 1) := by decide +kernel
theorem dX2_dividesOne_22 : decode cX2_dividesOne 22 = .ok (.iload_n 2, 1) := by decide +kernel
theorem dX2_dividesOne_23 : decode cX2_dividesOne 23 = .ok (.iload_n 1, 1) := by decide +kernel
theorem dX2_dividesOne_24 : decode cX2_dividesOne 24 = .ok (.iadd, 1) := by decide +kernel
theorem dX2_dividesOne_25 : decode cX2_dividesOne 25 = .ok (.istore_n 2, 1) := by decide +kernel
theorem dX2_dividesOne_26 : decode cX2_dividesOne 26 = .ok (.goto (-24), 3) := by decide +kernel
theorem dX2_dividesOne_29 : decode cX2_dividesOne 29 = .ok (.iconst 0, 1) := by decide +kernel
theorem dX2_dividesOne_30 : decode cX2_dividesOne 30 = .ok (.ireturn, 1) := by decide +kernel
theorem dX2_findTwoRests_0 : decode cX2_findTwoRests 0 = .ok (.aload_n 0, 1) := by decide +kernel
theorem dX2_findTwoRests_1 : decode cX2_findTwoRests 1 = .ok (.getfield 29, 3) := by decide +kernel
theorem dX2_findTwoRests_4 : decode cX2_findTwoRests 4 = .ok (.istore_n 2, 1) := by decide +kernel
theorem dX2_findTwoRests_5 : decode cX2_findTwoRests 5 = .ok (.aload_n 0, 1) := by decide +kernel
theorem dX2_findTwoRests_6 : decode cX2_findTwoRests 6 = .ok (.getfield 32, 3) := by decide +kernel
theorem dX2_findTwoRests_9 : decode cX2_findTwoRests 9 = .ok (.istore_n 3, 1) := by decide +kernel
theorem dX2_findTwoRests_10 : decode cX2_findTwoRests 10 = .ok (.iconst 1, 1) := by decide +kernel
theorem dX2_findTwoRests_11 : decode cX2_findTwoRests 11 = .ok (.istore 4, 2) := by decide +kernel
theorem dX2_findTwoRests_13 : decode cX2_findTwoRests 13 = .ok (.iload 4, 2) := by decide +kernel
theorem dX2_findTwoRests_15 : decode cX2_findTwoRests 15 = .ok (.aload_n 0, 1) := by decide +kernel
theorem dX2_findTwoRests_16 : decode cX2_findTwoRests 16 = .ok (.getfield 29, 3) := by decide +kernel
theorem dX2_findTwoRests_19 : decode cX2_findTwoRests 19 = .ok (.if_icmp .gt 60, 3) := by decide +kernel
theorem dX2_findTwoRests_22 : decode cX2_findTwoRests 22 = .ok (.iconst 1, 1) := by decide +kernel
theorem dX2_findTwoRests_23 : decode cX2_findTwoRests 23 = .ok (.istore 5, 2) := by decide +kernel
theorem dX2_findTwoRests_25 : decode cX2_findTwoRests 25 = .ok (.iload 5, 2) := by decide +kernel
theorem dX2_findTwoRests_27 : decode cX2_findTwoRests 27 = .ok (.aload_n 0, 1) := by decide +kernel
theorem dX2_findTwoRests_28 : decode cX2_findTwoRests 28 = .ok (.getfield 32, 3) := by decide +kernel
theorem dX2_findTwoRests_31 : decode cX2_findTwoRests 31 = .ok (.if_icmp .gt 42, 3) := by decide +kernel
theorem dX2_findTwoRests_34 : decode cX2_findTwoRests 34 = .ok (.aload_n 1, 1) := by decide +kernel
theorem dX2_findTwoRests_35 : decode cX2_findTwoRests 35 = .ok (.iload 4, 2) := by decide +kernel
theorem dX2_findTwoRests_37 : decode cX2_findTwoRests 37 = .ok (.iload 5, 2) := by decide +kernel
theorem dX2_findTwoRests_39 : decode cX2_findTwoRests 39 = .ok (.invokevirtual 82, 3) := by decide +kernel
theorem dX2_findTwoRests_42 : decode cX2_findTwoRests 42 = .ok (.iload 4, 2) := by decide +kernel
theorem dX2_findTwoRests_44 : decode cX2_findTwoRests 44 = .ok (.iload 5, 2) := by decide +kernel
theorem dX2_findTwoRests_46 : decode cX2_findTwoRests 46 = .ok (.imul, 1) := by decide +kernel
theorem dX2_findTwoRests_47 : decode cX2_findTwoRests 47 = .ok (.iload_n 2, 1) := by decide +kernel
theorem dX2_findTwoRests_48 : decode cX2_findTwoRests 48 = .ok (.iload_n 3, 1) := by decide +kernel
theorem dX2_findTwoRests_49 : decode cX2_findTwoRests 49 = .ok (.imul, 1) := by decide +kernel
theorem dX2_findTwoRests_50 : decode cX2_findTwoRests 50 = .ok (.if_icmp .ge 17, 3) := by decide +kernel
theorem dX2_findTwoRests_53 : decode cX2_findTwoRests 53 = .ok (.aload_n 0, 1) := by decide +kernel
theorem dX2_findTwoRests_54 : decode cX2_findTwoRests 54 = .ok (.aload_n 1, 1) := by decide +kernel
theorem dX2_findTwoRests_55 : decode cX2_findTwoRests 55 = .ok (.invokevirtual 69, 3) := by decide +kernel
theorem dX2_findTwoRests_58 : decode cX2_findTwoRests 58 = .ok (.ifCond .eq 9, 3) := by decide +kernel
theorem dX2_findTwoRests_61 : decode cX2_findTwoRests 61 = .ok (.iload 4, 2) := by decide +kernel
theorem dX2_findTwoRests_63 : decode cX2_findTwoRests 63 = .ok (.istore_n 2, 1) := by decide +kernel
theorem dX2_findTwoRests_64 : decode cX2_findTwoRests 64 = .ok (.iload 5, 2) := by decide +kernel
theorem dX2_findTwoRests_66 : decode cX2_findTwoRests 66 = .ok (.istore_n 3, 1) := by decide +kernel
theorem dX2_findTwoRests_67 : decode cX2_findTwoRests 67 = .ok (.iinc 5 1, 3) := by decide +kernel
theorem dX2_findTwoRests_70 : decode cX2_findTwoRests 70 = .ok (.goto (-45), 3) := by decide +kernel
theorem dX2_findTwoRests_73 : decode cX2_findTwoRests 73 = .ok (.iinc 4 1, 3) := by decide +kernel
theorem dX2_findTwoRests_76 : decode cX2_findTwoRests 76 = .ok (.goto (-63), 3) := by decide +kernel
theorem dX2_findTwoRests_79 : decode cX2_findTwoRests 79 = .ok (.aload_n 1, 1) := by decide +kernel
theorem dX2_findTwoRests_80 : decode cX2_findTwoRests 80 = .ok (.iload_n 2, 1) := by decide +kernel
theorem dX2_findTwoRests_81 : decode cX2_findTwoRests 81 = .ok (.iload_n 3, 1) := by decide +kernel
theorem dX2_findTwoRests_82 : decode cX2_findTwoRests 82 = .ok (.invokevirtual 82, 3) := by decide +kernel
theorem dX2_findTwoRests_85 : decode cX2_findTwoRests 85 = .ok (.return_, 1) := by decide +kernel
theorem dX2_findSlant_0 : decode cX2_findSlant 0 = .ok (.iconst 1, 1) := by decide +kernel
theorem dX2_findSlant_1 : decode cX2_findSlant 1 = .ok (.istore_n 2, 1) := by decide +kernel
theorem dX2_findSlant_2 : decode cX2_findSlant 2 = .ok (.iload_n 2, 1) := by decide +kernel
theorem dX2_findSlant_3 : decode cX2_findSlant 3 = .ok (.aload_n 0, 1) := by decide +kernel
theorem dX2_findSlant_4 : decode cX2_findSlant 4 = .ok (.getfield 29, 3) := by decide +kernel
theorem dX2_findSlant_7 : decode cX2_findSlant 7 = .ok (.aload_n 0, 1) := by decide +kernel
theorem dX2_findSlant_8 : decode cX2_findSlant 8 = .ok (.getfield 32, 3) := by decide +kernel
theorem dX2_findSlant_11 : decode cX2_findSlant 11 = .ok (.imul, 1) := by decide +kernel
theorem dX2_findSlant_12 : decode cX2_findSlant 12 = .ok (.if_icmp .gt 38, 3) := by decide +kernel
theorem dX2_findSlant_15 : decode cX2_findSlant 15 = .ok (.iconst 0, 1) := by decide +kernel
theorem dX2_findSlant_16 : decode cX2_findSlant 16 = .ok (.istore_n 3, 1) := by decide +kernel
theorem dX2_findSlant_17 : decode cX2_findSlant 17 = .ok (.iload_n 3, 1) := by decide +kernel
theorem dX2_findSlant_18 : decode cX2_findSlant 18 = .ok (.bipush 9, 2) := by decide +kernel
theorem dX2_findSlant_20 : decode cX2_findSlant 20 = .ok (.if_icmp .gt 24, 3) := by decide +kernel
theorem dX2_findSlant_23 : decode cX2_findSlant 23 = .ok (.aload_n 1, 1) := by decide +kernel
theorem dX2_findSlant_24 : decode cX2_findSlant 24 = .ok (.iload_n 3, 1) := by decide +kernel
theorem dX2_findSlant_25 : decode cX2_findSlant 25 = .ok (.iload_n 2, 1) := by decide +kernel
theorem dX2_findSlant_26 : decode cX2_findSlant 26 = .ok (.invokevirtual 85, 3) := by decide +kernel
theorem dX2_findSlant_29 : decode cX2_findSlant 29 = .ok (.aload_n 0, 1) := by decide +kernel
theorem dX2_findSlant_30 : decode cX2_findSlant 30 = .ok (.aload_n 1, 1) := by decide +kernel
theorem dX2_findSlant_31 : decode cX2_findSlant 31 = .ok (.invokevirtual 69, 3) := by decide +kernel
theorem dX2_findSlant_34 : decode cX2_findSlant 34 = .ok (.ifCond .eq 4, 3) := by decide +kernel
theorem dX2_findSlant_37 : decode cX2_findSlant 37 = .ok (.return_, 1) := by decide +kernel
theorem dX2_findSlant_38 : decode cX2_findSlant 38 = .ok (.iinc 3 1, 3) := by decide +kernel
theorem dX2_findSlant_41 : decode cX2_findSlant 41 = .ok (.goto (-24), 3) := by decide +kernel
theorem dX2_findSlant_44 : decode cX2_findSlant 44 = .ok (.iinc 2 1, 3) := by decide +kernel
theorem dX2_findSlant_47 : decode cX2_findSlant 47 = .ok (.goto (-45), 3) := by decide +kernel
theorem dX2_findSlant_50 : decode cX2_findSlant 50 = .ok (.return_, 1) := by decide +kernel
theorem dX4_init_0 : decode cX4_init 0 = .ok (.aload_n 0, 1) := by decide +kernel
theorem dX4_init_1 : decode cX4_init 1 = .ok (.invokespecial 3, 3) := by decide +kernel
theorem dX4_init_4 : decode cX4_init 4 = .ok (.aload_n 0, 1) := by decide +kernel
theorem dX4_init_5 : decode cX4_init 5 = .ok (.iload_n 1, 1) := by decide +kernel
theorem dX4_init_6 : decode cX4_init 6 = .ok (.putfield 9, 3) := by decide +kernel
theorem dX4_init_9 : decode cX4_init 9 = .ok (.aload_n 0, 1) := by decide +kernel
theorem dX4_init_10 : decode cX4_init 10 = .ok (.iconst 4, 1) := by decide +kernel
theorem dX4_init_11 : decode cX4_init 11 = .ok (.iload_n 1, 1) := by decide +kernel
theorem dX4_init_12 : decode cX4_init 12 = .ok (.ifCond .eq 9, 3) := by decide +kernel
theorem dX4_init_15 : decode cX4_init 15 = .ok (.sipush 701, 3) := by decide +kernel
theorem dX4_init_18 : decode cX4_init 18 = .ok (.goto 5, 3) := by decide +kernel
theorem dX4_init_21 : decode cX4_init 21 = .ok (.bipush 64, 2) := by decide +kernel
theorem dX4_init_23 : decode cX4_init 23 = .ok (.multianewarray 15 2, 4) := by decide +kernel
theorem dX4_init_27 : decode cX4_init 27 = .ok (.putfield 17, 3) := by decide +kernel
theorem dX4_init_30 : decode cX4_init 30 = .ok (.return_, 1) := by decide +kernel
theorem dX4_empty_0 : decode cX4_empty 0 = .ok (.iconst 0, 1) := by decide +kernel
theorem dX4_empty_1 : decode cX4_empty 1 = .ok (.istore_n 1, 1) := by decide +kernel
theorem dX4_empty_2 : decode cX4_empty 2 = .ok (.iload_n 1, 1) := by decide +kernel
theorem dX4_empty_3 : decode cX4_empty 3 = .ok (.aload_n 0, 1) := by decide +kernel
theorem dX4_empty_4 : decode cX4_empty 4 = .ok (.getfield 17, 3) := by decide +kernel
theorem dX4_empty_7 : decode cX4_empty 7 = .ok (.arraylength, 1) := by decide +kernel
theorem dX4_empty_8 : decode cX4_empty 8 = .ok (.if_icmp .ge 19, 3) := by decide +kernel
theorem dX4_empty_11 : decode cX4_empty 11 = .ok (.aload_n 0, 1) := by decide +kernel
theorem dX4_empty_12 : decode cX4_empty 12 = .ok (.getfield 17, 3) := by decide +kernel
theorem dX4_empty_15 : decode cX4_empty 15 = .ok (.iload_n 1, 1) := by decide +kernel
theorem dX4_empty_16 : decode cX4_empty 16 = .ok (.aaload, 1) := by decide +kernel
theorem dX4_empty_17 : decode cX4_empty 17 = .ok (.iconst 0, 1) := by decide +kernel
theorem dX4_empty_18 : decode cX4_empty 18 = .ok (.invokestatic 20, 3) := by decide +kernel
theorem dX4_empty_21 : decode cX4_empty 21 = .ok (.iinc 1 1, 3) := by decide +kernel
theorem dX4_empty_24 : decode cX4_empty 24 = .ok (.goto (-22), 3) := by decide +kernel
theorem dX4_empty_27 : decode cX4_empty 27 = .ok (.return_, 1) := by decide +kernel
theorem dX4_doStep_0 : decode cX4_doStep 0 = .ok (.aload_n 2, 1) := by decide +kernel
theorem dX4_doStep_1 : decode cX4_doStep 1 = .ok (.getfield 26, 3) := by decide +kernel
theorem dX4_doStep_4 : decode cX4_doStep 4 = .ok (.iload_n 3, 1) := by decide +kernel
theorem dX4_doStep_5 : decode cX4_doStep 5 = .ok (.iaload, 1) := by decide +kernel
theorem dX4_doStep_6 : decode cX4_doStep 6 = .ok (.istore 4, 2) := by decide +kernel
theorem dX4_doStep_8 : decode cX4_doStep 8 = .ok (.aload_n 2, 1) := by decide +kernel
theorem dX4_doStep_9 : decode cX4_doStep 9 = .ok (.getfield 32, 3) := by decide +kernel
theorem dX4_doStep_12 : decode cX4_doStep 12 = .ok (.iload_n 3, 1) := by decide +kernel
theorem dX4_doStep_13 : decode cX4_doStep 13 = .ok (.iaload, 1) := by decide +kernel
theorem dX4_doStep_14 : decode cX4_doStep 14 = .ok (.istore 5, 2) := by decide +kernel
theorem dX4_doStep_16 : decode cX4_doStep 16 = .ok (.aload_n 2, 1) := by decide +kernel
theorem dX4_doStep_17 : decode cX4_doStep 17 = .ok (.getfield 35, 3) := by decide +kernel
theorem dX4_doStep_20 : decode cX4_doStep 20 = .ok (.iload_n 3, 1) := by decide +kernel
theorem dX4_doStep_21 : decode cX4_doStep 21 = .ok (.iaload, 1) := by decide +kernel
theorem dX4_doStep_22 : decode cX4_doStep 22 = .ok (.istore 6, 2) := by decide +kernel
theorem dX4_doStep_24 : decode cX4_doStep 24 = .ok (.aload_n 1, 1) := by decide +kernel
theorem dX4_doStep_25 : decode cX4_doStep 25 = .ok (.getfield 38, 3) := by decide +kernel
theorem dX4_doStep_28 : decode cX4_doStep 28 = .ok (.iload 4, 2) := by decide +kernel
theorem dX4_doStep_30 : decode cX4_doStep 30 = .ok (.invokevirtual 44, 3) := by decide +kernel
theorem dX4_doStep_33 : decode cX4_doStep 33 = .ok (.checkcast 50, 3) := by decide +kernel
theorem dX4_doStep_36 : decode cX4_doStep 36 = .ok (.astore 7, 2) := by decide +kernel
theorem dX4_doStep_38 : decode cX4_doStep 38 = .ok (.aload 7, 2) := by decide +kernel
theorem dX4_doStep_40 : decode cX4_doStep 40 = .ok (.getfield 52, 3) := by decide +kernel
theorem dX4_doStep_43 : decode cX4_doStep 43 = .ok (.istore 8, 2) := by decide +kernel
theorem dX4_doStep_45 : decode cX4_doStep 45 = .ok (.iconst 0, 1) := by decide +kernel
theorem dX4_doStep_46 : decode cX4_doStep 46 = .ok (.istore 9, 2) := by decide +kernel
theorem dX4_doStep_48 : decode cX4_doStep 48 = .ok (.iload 9, 2) := by decide +kernel
theorem dX4_doStep_50 : decode cX4_doStep 50 = .ok (.aload 7, 2) := by decide +kernel
theorem dX4_doStep_52 : decode cX4_doStep 52 = .ok (.getfield 56, 3) := by decide +kernel
theorem dX4_doStep_55 : decode cX4_doStep 55 = .ok (.invokevirtual 59, 3) := by decide +kernel
theorem dX4_doStep_58 : decode cX4_doStep 58 = .ok (.if_icmp .ge 61, 3) := by decide +kernel
theorem dX4_doStep_61 : decode cX4_doStep 61 = .ok (.aload 7, 2) := by decide +kernel
theorem dX4_doStep_63 : decode cX4_doStep 63 = .ok (.getfield 56, 3) := by decide +kernel
theorem dX4_doStep_66 : decode cX4_doStep 66 = .ok (.iload 9, 2) := by decide +kernel
theorem dX4_doStep_68 : decode cX4_doStep 68 = .ok (.invokevirtual 44, 3) := by decide +kernel
theorem dX4_doStep_71 : decode cX4_doStep 71 = .ok (.checkcast 63, 3) := by decide +kernel
theorem dX4_doStep_74 : decode cX4_doStep 74 = .ok (.astore 10, 2) := by decide +kernel
theorem dX4_doStep_76 : decode cX4_doStep 76 = .ok (.iload 8, 2) := by decide +kernel
theorem dX4_doStep_78 : decode cX4_doStep 78 = .ok (.aload 10, 2) := by decide +kernel
theorem dX4_doStep_80 : decode cX4_doStep 80 = .ok (.getfield 65, 3) := by decide +kernel
theorem dX4_doStep_83 : decode cX4_doStep 83 = .ok (.aload_n 0, 1) := by decide +kernel
theorem dX4_doStep_84 : decode cX4_doStep 84 = .ok (.aload_n 1, 1) := by decide +kernel
theorem dX4_doStep_85 : decode cX4_doStep 85 = .ok (.aload 10, 2) := by decide +kernel
theorem dX4_doStep_87 : decode cX4_doStep 87 = .ok (.getfield 68, 3) := by decide +kernel
theorem dX4_doStep_90 : decode cX4_doStep 90 = .ok (.iload 5, 2) := by decide +kernel
theorem dX4_doStep_92 : decode cX4_doStep 92 = .ok (.aload 10, 2) := by decide +kernel
theorem dX4_doStep_94 : decode cX4_doStep 94 = .ok (.getfield 71, 3) := by decide +kernel
theorem dX4_doStep_97 : decode cX4_doStep 97 = .ok (.isub, 1) := by decide +kernel
theorem dX4_doStep_98 : decode cX4_doStep 98 = .ok (.iload 6, 2) := by decide +kernel
theorem dX4_doStep_100 : decode cX4_doStep 100 = .ok (.aload 10, 2) := by decide +kernel
theorem dX4_doStep_102 : decode cX4_doStep 102 = .ok (.getfield 74, 3) := by decide +kernel
theorem dX4_doStep_105 : decode cX4_doStep 105 = .ok (.isub, 1) := by decide +kernel
theorem dX4_doStep_106 : decode cX4_doStep 106 = .ok (.invokevirtual 77, 3) := by decide +kernel
theorem dX4_doStep_109 : decode cX4_doStep 109 = .ok (.imul, 1) := by decide +kernel
theorem dX4_doStep_110 : decode cX4_doStep 110 = .ok (.iadd, 1) := by decide +kernel
theorem dX4_doStep_111 : decode cX4_doStep 111 = .ok (.istore 8, 2) := by decide +kernel
theorem dX4_doStep_113 : decode cX4_doStep 113 = .ok (.iinc 9 1, 3) := by decide +kernel
theorem dX4_doStep_116 : decode cX4_doStep 116 = .ok (.goto (-68), 3) := by decide +kernel
theorem dX4_doStep_119 : decode cX4_doStep 119 = .ok (.iload 8, 2) := by decide +kernel
theorem dX4_doStep_121 : decode cX4_doStep 121 = .ok (.sipush 9973, 3) := by decide +kernel
theorem dX4_doStep_124 : decode cX4_doStep 124 = .ok (.irem, 1) := by decide +kernel
theorem dX4_doStep_125 : decode cX4_doStep 125 = .ok (.istore 9, 2) := by decide +kernel
theorem dX4_doStep_127 : decode cX4_doStep 127 = .ok (.aload_n 0, 1) := by decide +kernel
theorem dX4_doStep_128 : decode cX4_doStep 128 = .ok (.getfield 17, 3) := by decide +kernel
theorem dX4_doStep_131 : decode cX4_doStep 131 = .ok (.iload 4, 2) := by decide +kernel
theorem dX4_doStep_133 : decode cX4_doStep 133 = .ok (.aaload, 1) := by decide +kernel
theorem dX4_doStep_134 : decode cX4_doStep 134 = .ok (.aload_n 0, 1) := by decide +kernel
theorem dX4_doStep_135 : decode cX4_doStep 135 = .ok (.aload_n 1, 1) := by decide +kernel
theorem dX4_doStep_136 : decode cX4_doStep 136 = .ok (.iload 4, 2) := by decide +kernel
theorem dX4_doStep_138 : decode cX4_doStep 138 = .ok (.iload 5, 2) := by decide +kernel
theorem dX4_doStep_140 : decode cX4_doStep 140 = .ok (.iload 6, 2) := by decide +kernel
theorem dX4_doStep_142 : decode cX4_doStep 142 = .ok (.invokevirtual 81, 3) := by decide +kernel
theorem dX4_doStep_145 : decode cX4_doStep 145 = .ok (.iload 9, 2) := by decide +kernel
theorem dX4_doStep_147 : decode cX4_doStep 147 = .ok (.iastore, 1) := by decide +kernel
theorem dX4_doStep_148 : decode cX4_doStep 148 = .ok (.iload 9, 2) := by decide +kernel
theorem dX4_doStep_150 : decode cX4_doStep 150 = .ok (.ireturn, 1) := by decide +kernel
theorem dX4_taken_0 : decode cX4_taken 0 = .ok (.aload_n 1, 1) := by decide +kernel
theorem dX4_taken_1 : decode cX4_taken 1 = .ok (.iload_n 3, 1) := by decide +kernel
theorem dX4_taken_2 : decode cX4_taken 2 = .ok (.iload 4, 2) := by decide +kernel
theorem dX4_taken_4 : decode cX4_taken 4 = .ok (.invokevirtual 84, 3) := by decide +kernel
theorem dX4_taken_7 : decode cX4_taken 7 = .ok (.ifCond .ne 24, 3) := by decide +kernel
theorem dX4_taken_10 : decode cX4_taken 10 = .ok (.iconst 5, 1) := by decide +kernel
theorem dX4_taken_11 : decode cX4_taken 11 = .ok (.iload_n 3, 1) := by decide +kernel
theorem dX4_taken_12 : decode cX4_taken 12 = .ok (.imul, 1) := by decide +kernel
theorem dX4_taken_13 : decode cX4_taken 13 = .ok (.bipush 7, 2) := by decide +kernel
theorem dX4_taken_15 : decode cX4_taken 15 = .ok (.iload 4, 2) := by decide +kernel
theorem dX4_taken_17 : decode cX4_taken 17 = .ok (.imul, 1) := by decide +kernel
theorem dX4_taken_18 : decode cX4_taken 18 = .ok (.iadd, 1) := by decide +kernel
theorem dX4_taken_19 : decode cX4_taken 19 = .ok (.iload_n 2, 1) := by decide +kernel
theorem dX4_taken_20 : decode cX4_taken 20 = .ok (.iadd, 1) := by decide +kernel
theorem dX4_taken_21 : decode cX4_taken 21 = .ok (.istore 5, 2) := by decide +kernel
theorem dX4_taken_23 : decode cX4_taken 23 = .ok (.iload 5, 2) := by decide +kernel
theorem dX4_taken_25 : decode cX4_taken 25 = .ok (.bipush 100, 2) := by decide +kernel
theorem dX4_taken_27 : decode cX4_taken 27 = .ok (.invokestatic 88, 3) := by decide +kernel
theorem dX4_taken_30 : decode cX4_taken 30 = .ok (.ireturn, 1) := by decide +kernel
theorem dX4_taken_31 : decode cX4_taken 31 = .ok (.aload_n 0, 1) := by decide +kernel
theorem dX4_taken_32 : decode cX4_taken 32 = .ok (.getfield 17, 3) := by decide +kernel
theorem dX4_taken_35 : decode cX4_taken 35 = .ok (.iload_n 2, 1) := by decide +kernel
theorem dX4_taken_36 : decode cX4_taken 36 = .ok (.aaload, 1) := by decide +kernel
theorem dX4_taken_37 : decode cX4_taken 37 = .ok (.aload_n 0, 1) := by decide +kernel
theorem dX4_taken_38 : decode cX4_taken 38 = .ok (.aload_n 1, 1) := by decide +kernel
theorem dX4_taken_39 : decode cX4_taken 39 = .ok (.iload_n 2, 1) := by decide +kernel
theorem dX4_taken_40 : decode cX4_taken 40 = .ok (.iload_n 3, 1) := by decide +kernel
theorem dX4_taken_41 : decode cX4_taken 41 = .ok (.iload 4, 2) := by decide +kernel
theorem dX4_taken_43 : decode cX4_taken 43 = .ok (.invokevirtual 81, 3) := by decide +kernel
theorem dX4_taken_46 : decode cX4_taken 46 = .ok (.iaload, 1) := by decide +kernel
theorem dX4_taken_47 : decode cX4_taken 47 = .ok (.ireturn, 1) := by decide +kernel
theorem dX4_placeIn_0 : decode cX4_placeIn 0 = .ok (.aload_n 0, 1) := by decide +kernel
theorem dX4_placeIn_1 : decode cX4_placeIn 1 = .ok (.getfield 9, 3) := by decide +kernel
theorem dX4_placeIn_4 : decode cX4_placeIn 4 = .ok (.ifCond .ne 13, 3) := by decide +kernel
theorem dX4_placeIn_7 : decode cX4_placeIn 7 = .ok (.iload_n 3, 1) := by decide +kernel
theorem dX4_placeIn_8 : decode cX4_placeIn 8 = .ok (.aload_n 1, 1) := by decide +kernel
theorem dX4_placeIn_9 : decode cX4_placeIn 9 = .ok (.getfield 94, 3) := by decide +kernel
theorem dX4_placeIn_12 : decode cX4_placeIn 12 = .ok (.imul, 1) := by decide +kernel
theorem dX4_placeIn_13 : decode cX4_placeIn 13 = .ok (.iload 4, 2) := by decide +kernel
theorem dX4_placeIn_15 : decode cX4_placeIn 15 = .ok (.iadd, 1) := by decide +kernel
theorem dX4_placeIn_16 : decode cX4_placeIn 16 = .ok (.ireturn, 1) := by decide +kernel
theorem dX4_placeIn_17 : decode cX4_placeIn 17 = .ok (.aload_n 1, 1) := by decide +kernel
theorem dX4_placeIn_18 : decode cX4_placeIn 18 = .ok (.getfield 38, 3) := by decide +kernel
theorem dX4_placeIn_21 : decode cX4_placeIn 21 = .ok (.iload_n 2, 1) := by decide +kernel
theorem dX4_placeIn_22 : decode cX4_placeIn 22 = .ok (.invokevirtual 44, 3) := by decide +kernel
theorem dX4_placeIn_25 : decode cX4_placeIn 25 = .ok (.checkcast 50, 3) := by decide +kernel
theorem dX4_placeIn_28 : decode cX4_placeIn 28 = .ok (.getfield 97, 3) := by decide +kernel
theorem dX4_placeIn_31 : decode cX4_placeIn 31 = .ok (.iload_n 3, 1) := by decide +kernel
theorem dX4_placeIn_32 : decode cX4_placeIn 32 = .ok (.iload 4, 2) := by decide +kernel
theorem dX4_placeIn_34 : decode cX4_placeIn 34 = .ok (.aload_n 1, 1) := by decide +kernel
theorem dX4_placeIn_35 : decode cX4_placeIn 35 = .ok (.getfield 94, 3) := by decide +kernel
theorem dX4_placeIn_38 : decode cX4_placeIn 38 = .ok (.invokevirtual 101, 3) := by decide +kernel
theorem dX4_placeIn_41 : decode cX4_placeIn 41 = .ok (.ireturn, 1) := by decide +kernel
theorem dX5_init_0 : decode cX5_init 0 = .ok (.aload_n 0, 1) := by decide +kernel
theorem dX5_init_1 : decode cX5_init 1 = .ok (.invokespecial 3, 3) := by decide +kernel
theorem dX5_init_4 : decode cX5_init 4 = .ok (.aload_n 0, 1) := by decide +kernel
theorem dX5_init_5 : decode cX5_init 5 = .ok (.new 9, 3) := by decide +kernel
theorem dX5_init_8 : decode cX5_init 8 = .ok (.dup, 1) := by decide +kernel
theorem dX5_init_9 : decode cX5_init 9 = .ok (.invokespecial 11, 3) := by decide +kernel
theorem dX5_init_12 : decode cX5_init 12 = .ok (.putfield 12, 3) := by decide +kernel
theorem dX5_init_15 : decode cX5_init 15 = .ok (.aload_n 0, 1) := by decide +kernel
theorem dX5_init_16 : decode cX5_init 16 = .ok (.iconst 4, 1) := by decide +kernel
theorem dX5_init_17 : decode cX5_init 17 = .ok (.putfield 18, 3) := by decide +kernel
theorem dX5_init_20 : decode cX5_init 20 = .ok (.aload_n 0, 1) := by decide +kernel
theorem dX5_init_21 : decode cX5_init 21 = .ok (.iconst 4, 1) := by decide +kernel
theorem dX5_init_22 : decode cX5_init 22 = .ok (.putfield 22, 3) := by decide +kernel
theorem dX5_init_25 : decode cX5_init 25 = .ok (.aload_n 0, 1) := by decide +kernel
theorem dX5_init_26 : decode cX5_init 26 = .ok (.bipush 16, 2) := by decide +kernel
theorem dX5_init_28 : decode cX5_init 28 = .ok (.putfield 25, 3) := by decide +kernel
theorem dX5_init_31 : decode cX5_init 31 = .ok (.return_, 1) := by decide +kernel
theorem dX5_spread_0 : decode cX5_spread 0 = .ok (.aload_n 0, 1) := by decide +kernel
theorem dX5_spread_1 : decode cX5_spread 1 = .ok (.iload_n 1, 1) := by decide +kernel
theorem dX5_spread_2 : decode cX5_spread 2 = .ok (.putfield 18, 3) := by decide +kernel
theorem dX5_spread_5 : decode cX5_spread 5 = .ok (.aload_n 0, 1) := by decide +kernel
theorem dX5_spread_6 : decode cX5_spread 6 = .ok (.iload_n 2, 1) := by decide +kernel
theorem dX5_spread_7 : decode cX5_spread 7 = .ok (.putfield 22, 3) := by decide +kernel
theorem dX5_spread_10 : decode cX5_spread 10 = .ok (.aload_n 0, 1) := by decide +kernel
theorem dX5_spread_11 : decode cX5_spread 11 = .ok (.iload_n 1, 1) := by decide +kernel
theorem dX5_spread_12 : decode cX5_spread 12 = .ok (.iload_n 2, 1) := by decide +kernel
theorem dX5_spread_13 : decode cX5_spread 13 = .ok (.imul, 1) := by decide +kernel
theorem dX5_spread_14 : decode cX5_spread 14 = .ok (.putfield 25, 3) := by decide +kernel
theorem dX5_spread_17 : decode cX5_spread 17 = .ok (.return_, 1) := by decide +kernel
theorem dX5_cells_0 : decode cX5_cells 0 = .ok (.aload_n 0, 1) := by decide +kernel
theorem dX5_cells_1 : decode cX5_cells 1 = .ok (.aload_n 0, 1) := by decide +kernel
theorem dX5_cells_2 : decode cX5_cells 2 = .ok (.getfield 12, 3) := by decide +kernel
theorem dX5_cells_5 : decode cX5_cells 5 = .ok (.invokevirtual 28, 3) := by decide +kernel
theorem dX5_cells_8 : decode cX5_cells 8 = .ok (.invokevirtual 32, 3) := by decide +kernel
theorem dX5_cells_11 : decode cX5_cells 11 = .ok (.ireturn, 1) := by decide +kernel
theorem dX5_firstCell_0 : decode cX5_firstCell 0 = .ok (.iload_n 1, 1) := by decide +kernel
theorem dX5_firstCell_1 : decode cX5_firstCell 1 = .ok (.aload_n 0, 1) := by decide +kernel
theorem dX5_firstCell_2 : decode cX5_firstCell 2 = .ok (.getfield 25, 3) := by decide +kernel
theorem dX5_firstCell_5 : decode cX5_firstCell 5 = .ok (.imul, 1) := by decide +kernel
theorem dX5_firstCell_6 : decode cX5_firstCell 6 = .ok (.ireturn, 1) := by decide +kernel
theorem dX5_hasPoint_0 : decode cX5_hasPoint 0 = .ok (.iload_n 1, 1) := by decide +kernel
theorem dX5_hasPoint_1 : decode cX5_hasPoint 1 = .ok (.ifCond .lt 27, 3) := by decide +kernel
theorem dX5_hasPoint_4 : decode cX5_hasPoint 4 = .ok (.iload_n 1, 1) := by decide +kernel
theorem dX5_hasPoint_5 : decode cX5_hasPoint 5 = .ok (.aload_n 0, 1) := by decide +kernel
theorem dX5_hasPoint_6 : decode cX5_hasPoint 6 = .ok (.getfield 18, 3) := by decide +kernel
theorem dX5_hasPoint_9 : decode cX5_hasPoint 9 = .ok (.if_icmp .ge 19, 3) := by decide +kernel
theorem dX5_hasPoint_12 : decode cX5_hasPoint 12 = .ok (.iload_n 2, 1) := by decide +kernel
theorem dX5_hasPoint_13 : decode cX5_hasPoint 13 = .ok (.ifCond .lt 15, 3) := by decide +kernel
theorem dX5_hasPoint_16 : decode cX5_hasPoint 16 = .ok (.iload_n 2, 1) := by decide +kernel
theorem dX5_hasPoint_17 : decode cX5_hasPoint 17 = .ok (.aload_n 0, 1) := by decide +kernel
theorem dX5_hasPoint_18 : decode cX5_hasPoint 18 = .ok (.getfield 22, 3) := by decide +kernel
theorem dX5_hasPoint_21 : decode cX5_hasPoint 21 = .ok (.if_icmp .ge 7, 3) := by decide +kernel
theorem dX5_hasPoint_24 : decode cX5_hasPoint 24 = .ok (.iconst 1, 1) := by decide +kernel
theorem dX5_hasPoint_25 : decode cX5_hasPoint 25 = .ok (.goto 4, 3) := by decide +kernel
theorem dX5_hasPoint_28 : decode cX5_hasPoint 28 = .ok (.iconst 0, 1) := by decide +kernel
theorem dX5_hasPoint_29 : decode cX5_hasPoint 29 = .ok (.ireturn, 1) := by decide +kernel
theorem dX5_cellOf_0 : decode cX5_cellOf 0 = .ok (.iload_n 1, 1) := by decide +kernel
theorem dX5_cellOf_1 : decode cX5_cellOf 1 = .ok (.aload_n 0, 1) := by decide +kernel
theorem dX5_cellOf_2 : decode cX5_cellOf 2 = .ok (.getfield 25, 3) := by decide +kernel
theorem dX5_cellOf_5 : decode cX5_cellOf 5 = .ok (.imul, 1) := by decide +kernel
theorem dX5_cellOf_6 : decode cX5_cellOf 6 = .ok (.iload_n 2, 1) := by decide +kernel
theorem dX5_cellOf_7 : decode cX5_cellOf 7 = .ok (.aload_n 0, 1) := by decide +kernel
theorem dX5_cellOf_8 : decode cX5_cellOf 8 = .ok (.getfield 22, 3) := by decide +kernel
theorem dX5_cellOf_11 : decode cX5_cellOf 11 = .ok (.imul, 1) := by decide +kernel
theorem dX5_cellOf_12 : decode cX5_cellOf 12 = .ok (.iadd, 1) := by decide +kernel
theorem dX5_cellOf_13 : decode cX5_cellOf 13 = .ok (.iload_n 3, 1) := by decide +kernel
theorem dX5_cellOf_14 : decode cX5_cellOf 14 = .ok (.iadd, 1) := by decide +kernel
theorem dX5_cellOf_15 : decode cX5_cellOf 15 = .ok (.ireturn, 1) := by decide +kernel
theorem dX5_allows_0 : decode cX5_allows 0 = .ok (.iconst 0, 1) := by decide +kernel
theorem dX5_allows_1 : decode cX5_allows 1 = .ok (.istore_n 3, 1) := by decide +kernel
theorem dX5_allows_2 : decode cX5_allows 2 = .ok (.iload_n 3, 1) := by decide +kernel
theorem dX5_allows_3 : decode cX5_allows 3 = .ok (.aload_n 0, 1) := by decide +kernel
theorem dX5_allows_4 : decode cX5_allows 4 = .ok (.getfield 12, 3) := by decide +kernel
theorem dX5_allows_7 : decode cX5_allows 7 = .ok (.invokevirtual 28, 3) := by decide +kernel
theorem dX5_allows_10 : decode cX5_allows 10 = .ok (.if_icmp .ge 66, 3) := by decide +kernel
theorem dX5_allows_13 : decode cX5_allows 13 = .ok (.aload_n 0, 1) := by decide +kernel
theorem dX5_allows_14 : decode cX5_allows 14 = .ok (.getfield 12, 3) := by decide +kernel
theorem dX5_allows_17 : decode cX5_allows 17 = .ok (.iload_n 3, 1) := by decide +kernel
theorem dX5_allows_18 : decode cX5_allows 18 = .ok (.invokevirtual 36, 3) := by decide +kernel
theorem dX5_allows_21 : decode cX5_allows 21 = .ok (.checkcast 40, 3) := by decide +kernel
theorem dX5_allows_24 : decode cX5_allows 24 = .ok (.getfield 42, 3) := by decide +kernel
theorem dX5_allows_27 : decode cX5_allows 27 = .ok (.astore 4, 2) := by decide +kernel
theorem dX5_allows_29 : decode cX5_allows 29 = .ok (.iconst 0, 1) := by decide +kernel
theorem dX5_allows_30 : decode cX5_allows 30 = .ok (.istore 5, 2) := by decide +kernel
theorem dX5_allows_32 : decode cX5_allows 32 = .ok (.iload 5, 2) := by decide +kernel
theorem dX5_allows_34 : decode cX5_allows 34 = .ok (.aload 4, 2) := by decide +kernel
theorem dX5_allows_36 : decode cX5_allows 36 = .ok (.invokevirtual 28, 3) := by decide +kernel
theorem dX5_allows_39 : decode cX5_allows 39 = .ok (.if_icmp .ge 31, 3) := by decide +kernel
theorem dX5_allows_42 : decode cX5_allows 42 = .ok (.aload_n 0, 1) := by decide +kernel
theorem dX5_allows_43 : decode cX5_allows 43 = .ok (.iload_n 3, 1) := by decide +kernel
theorem dX5_allows_44 : decode cX5_allows 44 = .ok (.aload 4, 2) := by decide +kernel
theorem dX5_allows_46 : decode cX5_allows 46 = .ok (.iload 5, 2) := by decide +kernel
theorem dX5_allows_48 : decode cX5_allows 48 = .ok (.invokevirtual 36, 3) := by decide +kernel
theorem dX5_allows_51 : decode cX5_allows 51 = .ok (.checkcast 45, 3) := by decide +kernel
theorem dX5_allows_54 : decode cX5_allows 54 = .ok (.iload_n 1, 1) := by decide +kernel
theorem dX5_allows_55 : decode cX5_allows 55 = .ok (.iload_n 2, 1) := by decide +kernel
theorem dX5_allows_56 : decode cX5_allows 56 = .ok (.invokevirtual 47, 3) := by decide +kernel
theorem dX5_allows_59 : decode cX5_allows 59 = .ok (.ifCond .ne 5, 3) := by decide +kernel
theorem dX5_allows_62 : decode cX5_allows 62 = .ok (.iconst 0, 1) := by decide +kernel
theorem dX5_allows_63 : decode cX5_allows 63 = .ok (.ireturn, 1) := by decide +kernel
theorem dX5_allows_64 : decode cX5_allows 64 = .ok (.iinc 5 1, 3) := by decide +kernel
theorem dX5_allows_67 : decode cX5_allows 67 = .ok (.goto (-35), 3) := by decide +kernel
theorem dX5_allows_70 : decode cX5_allows 70 = .ok (.iinc 3 1, 3) := by decide +kernel
theorem dX5_allows_73 : decode cX5_allows 73 = .ok (.goto (-71), 3) := by decide +kernel
theorem dX5_allows_76 : decode cX5_allows 76 = .ok (.iconst 1, 1) := by decide +kernel
theorem dX5_allows_77 : decode cX5_allows 77 = .ok (.ireturn, 1) := by decide +kernel
theorem dX5_comesLater_0 : decode cX5_comesLater 0 = .ok (.aload_n 2, 1) := by decide +kernel
theorem dX5_comesLater_1 : decode cX5_comesLater 1 = .ok (.getfield 51, 3) := by decide +kernel
theorem dX5_comesLater_4 : decode cX5_comesLater 4 = .ok (.aload_n 0, 1) := by decide +kernel
theorem dX5_comesLater_5 : decode cX5_comesLater 5 = .ok (.getfield 18, 3) := by decide +kernel
theorem dX5_comesLater_8 : decode cX5_comesLater 8 = .ok (.if_icmp .ge 17, 3) := by decide +kernel
theorem dX5_comesLater_11 : decode cX5_comesLater 11 = .ok (.aload_n 2, 1) := by decide +kernel
theorem dX5_comesLater_12 : decode cX5_comesLater 12 = .ok (.getfield 54, 3) := by decide +kernel
theorem dX5_comesLater_15 : decode cX5_comesLater 15 = .ok (.invokestatic 57, 3) := by decide +kernel
theorem dX5_comesLater_18 : decode cX5_comesLater 18 = .ok (.aload_n 0, 1) := by decide +kernel
theorem dX5_comesLater_19 : decode cX5_comesLater 19 = .ok (.getfield 22, 3) := by decide +kernel
theorem dX5_comesLater_22 : decode cX5_comesLater 22 = .ok (.if_icmp .lt 5, 3) := by decide +kernel
theorem dX5_comesLater_25 : decode cX5_comesLater 25 = .ok (.iconst 1, 1) := by decide +kernel
theorem dX5_comesLater_26 : decode cX5_comesLater 26 = .ok (.ireturn, 1) := by decide +kernel
theorem dX5_comesLater_27 : decode cX5_comesLater 27 = .ok (.aload_n 2, 1) := by decide +kernel
theorem dX5_comesLater_28 : decode cX5_comesLater 28 = .ok (.getfield 51, 3) := by decide +kernel
theorem dX5_comesLater_31 : decode cX5_comesLater 31 = .ok (.iload_n 3, 1) := by decide +kernel
theorem dX5_comesLater_32 : decode cX5_comesLater 32 = .ok (.imul, 1) := by decide +kernel
theorem dX5_comesLater_33 : decode cX5_comesLater 33 = .ok (.aload_n 2, 1) := by decide +kernel
theorem dX5_comesLater_34 : decode cX5_comesLater 34 = .ok (.getfield 54, 3) := by decide +kernel
theorem dX5_comesLater_37 : decode cX5_comesLater 37 = .ok (.iload 4, 2) := by decide +kernel
theorem dX5_comesLater_39 : decode cX5_comesLater 39 = .ok (.imul, 1) := by decide +kernel
theorem dX5_comesLater_40 : decode cX5_comesLater 40 = .ok (.iadd, 1) := by decide +kernel
theorem dX5_comesLater_41 : decode cX5_comesLater 41 = .ok (.aload_n 0, 1) := by decide +kernel
theorem dX5_comesLater_42 : decode cX5_comesLater 42 = .ok (.getfield 12, 3) := by decide +kernel
theorem dX5_comesLater_45 : decode cX5_comesLater 45 = .ok (.iload_n 1, 1) := by decide +kernel
theorem dX5_comesLater_46 : decode cX5_comesLater 46 = .ok (.invokevirtual 36, 3) := by decide +kernel
theorem dX5_comesLater_49 : decode cX5_comesLater 49 = .ok (.checkcast 40, 3) := by decide +kernel
theorem dX5_comesLater_52 : decode cX5_comesLater 52 = .ok (.getfield 62, 3) := by decide +kernel
theorem dX5_comesLater_55 : decode cX5_comesLater 55 = .ok (.iadd, 1) := by decide +kernel
theorem dX5_comesLater_56 : decode cX5_comesLater 56 = .ok (.aload_n 0, 1) := by decide +kernel
theorem dX5_comesLater_57 : decode cX5_comesLater 57 = .ok (.getfield 12, 3) := by decide +kernel
theorem dX5_comesLater_60 : decode cX5_comesLater 60 = .ok (.aload_n 2, 1) := by decide +kernel
theorem dX5_comesLater_61 : decode cX5_comesLater 61 = .ok (.getfield 65, 3) := by decide +kernel
theorem dX5_comesLater_64 : decode cX5_comesLater 64 = .ok (.invokevirtual 36, 3) := by decide +kernel
theorem dX5_comesLater_67 : decode cX5_comesLater 67 = .ok (.checkcast 40, 3) := by decide +kernel
theorem dX5_comesLater_70 : decode cX5_comesLater 70 = .ok (.getfield 62, 3) := by decide +kernel
theorem dX5_comesLater_73 : decode cX5_comesLater 73 = .ok (.isub, 1) := by decide +kernel
theorem dX5_comesLater_74 : decode cX5_comesLater 74 = .ok (.istore 5, 2) := by decide +kernel
theorem dX5_comesLater_76 : decode cX5_comesLater 76 = .ok (.iload 5, 2) := by decide +kernel
theorem dX5_comesLater_78 : decode cX5_comesLater 78 = .ok (.ifCond .eq 14, 3) := by decide +kernel
theorem dX5_comesLater_81 : decode cX5_comesLater 81 = .ok (.iload 5, 2) := by decide +kernel
theorem dX5_comesLater_83 : decode cX5_comesLater 83 = .ok (.ifCond .le 7, 3) := by decide +kernel
theorem dX5_comesLater_86 : decode cX5_comesLater 86 = .ok (.iconst 1, 1) := by decide +kernel
theorem dX5_comesLater_87 : decode cX5_comesLater 87 = .ok (.goto 4, 3) := by decide +kernel
theorem dX5_comesLater_90 : decode cX5_comesLater 90 = .ok (.iconst 0, 1) := by decide +kernel
theorem dX5_comesLater_91 : decode cX5_comesLater 91 = .ok (.ireturn, 1) := by decide +kernel
theorem dX5_comesLater_92 : decode cX5_comesLater 92 = .ok (.iload_n 1, 1) := by decide +kernel
theorem dX5_comesLater_93 : decode cX5_comesLater 93 = .ok (.aload_n 2, 1) := by decide +kernel
theorem dX5_comesLater_94 : decode cX5_comesLater 94 = .ok (.getfield 65, 3) := by decide +kernel
theorem dX5_comesLater_97 : decode cX5_comesLater 97 = .ok (.if_icmp .eq 17, 3) := by decide +kernel
theorem dX5_comesLater_100 : decode cX5_comesLater 100 = .ok (.iload_n 1, 1) := by decide +kernel
theorem dX5_comesLater_101 : decode cX5_comesLater 101 = .ok (.aload_n 2, 1) := by decide +kernel
theorem dX5_comesLater_102 : decode cX5_comesLater 102 = .ok (.getfield 65, 3) := by decide +kernel
theorem dX5_comesLater_105 : decode cX5_comesLater 105 = .ok (.if_icmp .le 7, 3) := by decide +kernel
theorem dX5_comesLater_108 : decode cX5_comesLater 108 = .ok (.iconst 1, 1) := by decide +kernel
theorem dX5_comesLater_109 : decode cX5_comesLater 109 = .ok (.goto 4, 3) := by decide +kernel
theorem dX5_comesLater_112 : decode cX5_comesLater 112 = .ok (.iconst 0, 1) := by decide +kernel
theorem dX5_comesLater_113 : decode cX5_comesLater 113 = .ok (.ireturn, 1) := by decide +kernel
theorem dX5_comesLater_114 : decode cX5_comesLater 114 = .ok (.aload_n 2, 1) := by decide +kernel
theorem dX5_comesLater_115 : decode cX5_comesLater 115 = .ok (.getfield 51, 3) := by decide +kernel
theorem dX5_comesLater_118 : decode cX5_comesLater 118 = .ok (.ifCond .gt 17, 3) := by decide +kernel
theorem dX5_comesLater_121 : decode cX5_comesLater 121 = .ok (.aload_n 2, 1) := by decide +kernel
theorem dX5_comesLater_122 : decode cX5_comesLater 122 = .ok (.getfield 51, 3) := by decide +kernel
theorem dX5_comesLater_125 : decode cX5_comesLater 125 = .ok (.ifCond .ne 14, 3) := by decide +kernel
theorem dX5_comesLater_128 : decode cX5_comesLater 128 = .ok (.aload_n 2, 1) := by decide +kernel
theorem dX5_comesLater_129 : decode cX5_comesLater 129 = .ok (.getfield 54, 3) := by decide +kernel
theorem dX5_comesLater_132 : decode cX5_comesLater 132 = .ok (.ifCond .le 7, 3) := by decide +kernel
theorem dX5_comesLater_135 : decode cX5_comesLater 135 = .ok (.iconst 1, 1) := by decide +kernel
theorem dX5_comesLater_136 : decode cX5_comesLater 136 = .ok (.goto 4, 3) := by decide +kernel
theorem dX5_comesLater_139 : decode cX5_comesLater 139 = .ok (.iconst 0, 1) := by decide +kernel
theorem dX5_comesLater_140 : decode cX5_comesLater 140 = .ok (.ireturn, 1) := by decide +kernel
theorem dX6_init_0 : decode cX6_init 0 = .ok (.aload_n 0, 1) := by decide +kernel
theorem dX6_init_1 : decode cX6_init 1 = .ok (.invokespecial 1, 3) := by decide +kernel
theorem dX6_init_4 : decode cX6_init 4 = .ok (.aload_n 0, 1) := by decide +kernel
theorem dX6_init_5 : decode cX6_init 5 = .ok (.iload_n 1, 1) := by decide +kernel
theorem dX6_init_6 : decode cX6_init 6 = .ok (.putfield 7, 3) := by decide +kernel
theorem dX6_init_9 : decode cX6_init 9 = .ok (.aload_n 0, 1) := by decide +kernel
theorem dX6_init_10 : decode cX6_init 10 = .ok (.iload_n 2, 1) := by decide +kernel
theorem dX6_init_11 : decode cX6_init 11 = .ok (.putfield 13, 3) := by decide +kernel
theorem dX6_init_14 : decode cX6_init 14 = .ok (.aload_n 0, 1) := by decide +kernel
theorem dX6_init_15 : decode cX6_init 15 = .ok (.iload_n 3, 1) := by decide +kernel
theorem dX6_init_16 : decode cX6_init 16 = .ok (.putfield 16, 3) := by decide +kernel
theorem dX6_init_19 : decode cX6_init 19 = .ok (.aload_n 0, 1) := by decide +kernel
theorem dX6_init_20 : decode cX6_init 20 = .ok (.iload 4, 2) := by decide +kernel
theorem dX6_init_22 : decode cX6_init 22 = .ok (.putfield 19, 3) := by decide +kernel
theorem dX6_init_25 : decode cX6_init 25 = .ok (.return_, 1) := by decide +kernel
theorem dX7_init_0 : decode cX7_init 0 = .ok (.aload_n 0, 1) := by decide +kernel
theorem dX7_init_1 : decode cX7_init 1 = .ok (.invokespecial 1, 3) := by decide +kernel
theorem dX7_init_4 : decode cX7_init 4 = .ok (.aload_n 0, 1) := by decide +kernel
theorem dX7_init_5 : decode cX7_init 5 = .ok (.new 7, 3) := by decide +kernel
theorem dX7_init_8 : decode cX7_init 8 = .ok (.dup, 1) := by decide +kernel
theorem dX7_init_9 : decode cX7_init 9 = .ok (.invokespecial 9, 3) := by decide +kernel
theorem dX7_init_12 : decode cX7_init 12 = .ok (.putfield 10, 3) := by decide +kernel
theorem dX7_init_15 : decode cX7_init 15 = .ok (.aload_n 0, 1) := by decide +kernel
theorem dX7_init_16 : decode cX7_init 16 = .ok (.new 16, 3) := by decide +kernel
theorem dX7_init_19 : decode cX7_init 19 = .ok (.dup, 1) := by decide +kernel
theorem dX7_init_20 : decode cX7_init 20 = .ok (.invokespecial 18, 3) := by decide +kernel
theorem dX7_init_23 : decode cX7_init 23 = .ok (.putfield 19, 3) := by decide +kernel
theorem dX7_init_26 : decode cX7_init 26 = .ok (.aload_n 0, 1) := by decide +kernel
theorem dX7_init_27 : decode cX7_init 27 = .ok (.iconst 0, 1) := by decide +kernel
theorem dX7_init_28 : decode cX7_init 28 = .ok (.putfield 23, 3) := by decide +kernel
theorem dX7_init_31 : decode cX7_init 31 = .ok (.aload_n 0, 1) := by decide +kernel
theorem dX7_init_32 : decode cX7_init 32 = .ok (.iconst 0, 1) := by decide +kernel
theorem dX7_init_33 : decode cX7_init 33 = .ok (.putfield 27, 3) := by decide +kernel
theorem dX7_init_36 : decode cX7_init 36 = .ok (.aload_n 0, 1) := by decide +kernel
theorem dX7_init_37 : decode cX7_init 37 = .ok (.iload_n 1, 1) := by decide +kernel
theorem dX7_init_38 : decode cX7_init 38 = .ok (.putfield 31, 3) := by decide +kernel
theorem dX7_init_41 : decode cX7_init 41 = .ok (.return_, 1) := by decide +kernel
theorem dX8_init_0 : decode cX8_init 0 = .ok (.aload_n 0, 1) := by decide +kernel
theorem dX8_init_1 : decode cX8_init 1 = .ok (.invokespecial 1, 3) := by decide +kernel
theorem dX8_init_4 : decode cX8_init 4 = .ok (.aload_n 0, 1) := by decide +kernel
theorem dX8_init_5 : decode cX8_init 5 = .ok (.getstatic 7, 3) := by decide +kernel
theorem dX8_init_8 : decode cX8_init 8 = .ok (.putfield 13, 3) := by decide +kernel
theorem dX8_init_11 : decode cX8_init 11 = .ok (.aload_n 0, 1) := by decide +kernel
theorem dX8_init_12 : decode cX8_init 12 = .ok (.iconst 1, 1) := by decide +kernel
theorem dX8_init_13 : decode cX8_init 13 = .ok (.putfield 18, 3) := by decide +kernel
theorem dX8_init_16 : decode cX8_init 16 = .ok (.aload_n 0, 1) := by decide +kernel
theorem dX8_init_17 : decode cX8_init 17 = .ok (.iconst 1, 1) := by decide +kernel
theorem dX8_init_18 : decode cX8_init 18 = .ok (.putfield 22, 3) := by decide +kernel
theorem dX8_init_21 : decode cX8_init 21 = .ok (.aload_n 0, 1) := by decide +kernel
theorem dX8_init_22 : decode cX8_init 22 = .ok (.iconst 1, 1) := by decide +kernel
theorem dX8_init_23 : decode cX8_init 23 = .ok (.putfield 25, 3) := by decide +kernel
theorem dX8_init_26 : decode cX8_init 26 = .ok (.aload_n 0, 1) := by decide +kernel
theorem dX8_init_27 : decode cX8_init 27 = .ok (.iconst 0, 1) := by decide +kernel
theorem dX8_init_28 : decode cX8_init 28 = .ok (.putfield 28, 3) := by decide +kernel
theorem dX8_init_31 : decode cX8_init 31 = .ok (.return_, 1) := by decide +kernel
theorem dX8_becomeWhole_0 : decode cX8_becomeWhole 0 = .ok (.aload_n 0, 1) := by decide +kernel
theorem dX8_becomeWhole_1 : decode cX8_becomeWhole 1 = .ok (.getstatic 7, 3) := by decide +kernel
theorem dX8_becomeWhole_4 : decode cX8_becomeWhole 4 = .ok (.putfield 13, 3) := by decide +kernel
theorem dX8_becomeWhole_7 : decode cX8_becomeWhole 7 = .ok (.return_, 1) := by decide +kernel
theorem dX8_becomeRest_0 : decode cX8_becomeRest 0 = .ok (.aload_n 0, 1) := by decide +kernel
theorem dX8_becomeRest_1 : decode cX8_becomeRest 1 = .ok (.getstatic 31, 3) := by decide +kernel
theorem dX8_becomeRest_4 : decode cX8_becomeRest 4 = .ok (.putfield 13, 3) := by decide +kernel
theorem dX8_becomeRest_7 : decode cX8_becomeRest 7 = .ok (.aload_n 0, 1) := by decide +kernel
theorem dX8_becomeRest_8 : decode cX8_becomeRest 8 = .ok (.iload_n 1, 1) := by decide +kernel
theorem dX8_becomeRest_9 : decode cX8_becomeRest 9 = .ok (.putfield 18, 3) := by decide +kernel
theorem dX8_becomeRest_12 : decode cX8_becomeRest 12 = .ok (.return_, 1) := by decide +kernel
theorem dX8_becomeTwoRests_0 : decode cX8_becomeTwoRests 0 = .ok (.aload_n 0, 1) := by decide +kernel
theorem dX8_becomeTwoRests_1 : decode cX8_becomeTwoRests 1 = .ok (.getstatic 34, 3) := by decide +kernel
theorem dX8_becomeTwoRests_4 : decode cX8_becomeTwoRests 4 = .ok (.putfield 13, 3) := by decide +kernel
theorem dX8_becomeTwoRests_7 : decode cX8_becomeTwoRests 7 = .ok (.aload_n 0, 1) := by decide +kernel
theorem dX8_becomeTwoRests_8 : decode cX8_becomeTwoRests 8 = .ok (.iload_n 1, 1) := by decide +kernel
theorem dX8_becomeTwoRests_9 : decode cX8_becomeTwoRests 9 = .ok (.putfield 22, 3) := by decide +kernel
theorem dX8_becomeTwoRests_12 : decode cX8_becomeTwoRests 12 = .ok (.aload_n 0, 1) := by decide +kernel
theorem dX8_becomeTwoRests_13 : decode cX8_becomeTwoRests 13 = .ok (.iload_n 2, 1) := by decide +kernel
theorem dX8_becomeTwoRests_14 : decode cX8_becomeTwoRests 14 = .ok (.putfield 25, 3) := by decide +kernel
theorem dX8_becomeTwoRests_17 : decode cX8_becomeTwoRests 17 = .ok (.return_, 1) := by decide +kernel
theorem dX8_becomeSlant_0 : decode cX8_becomeSlant 0 = .ok (.aload_n 0, 1) := by decide +kernel
theorem dX8_becomeSlant_1 : decode cX8_becomeSlant 1 = .ok (.getstatic 37, 3) := by decide +kernel
theorem dX8_becomeSlant_4 : decode cX8_becomeSlant 4 = .ok (.putfield 13, 3) := by decide +kernel
theorem dX8_becomeSlant_7 : decode cX8_becomeSlant 7 = .ok (.aload_n 0, 1) := by decide +kernel
theorem dX8_becomeSlant_8 : decode cX8_becomeSlant 8 = .ok (.iload_n 1, 1) := by decide +kernel
theorem dX8_becomeSlant_9 : decode cX8_becomeSlant 9 = .ok (.putfield 28, 3) := by decide +kernel
theorem dX8_becomeSlant_12 : decode cX8_becomeSlant 12 = .ok (.aload_n 0, 1) := by decide +kernel
theorem dX8_becomeSlant_13 : decode cX8_becomeSlant 13 = .ok (.iload_n 2, 1) := by decide +kernel
theorem dX8_becomeSlant_14 : decode cX8_becomeSlant 14 = .ok (.putfield 18, 3) := by decide +kernel
theorem dX8_becomeSlant_17 : decode cX8_becomeSlant 17 = .ok (.return_, 1) := by decide +kernel
theorem dX8_become_0 : decode cX8_become 0 = .ok (.aload_n 0, 1) := by decide +kernel
theorem dX8_become_1 : decode cX8_become 1 = .ok (.aload_n 1, 1) := by decide +kernel
theorem dX8_become_2 : decode cX8_become 2 = .ok (.getfield 13, 3) := by decide +kernel
theorem dX8_become_5 : decode cX8_become 5 = .ok (.putfield 13, 3) := by decide +kernel
theorem dX8_become_8 : decode cX8_become 8 = .ok (.aload_n 0, 1) := by decide +kernel
theorem dX8_become_9 : decode cX8_become 9 = .ok (.aload_n 1, 1) := by decide +kernel
theorem dX8_become_10 : decode cX8_become 10 = .ok (.getfield 18, 3) := by decide +kernel
theorem dX8_become_13 : decode cX8_become 13 = .ok (.putfield 18, 3) := by decide +kernel
theorem dX8_become_16 : decode cX8_become 16 = .ok (.aload_n 0, 1) := by decide +kernel
theorem dX8_become_17 : decode cX8_become 17 = .ok (.aload_n 1, 1) := by decide +kernel
theorem dX8_become_18 : decode cX8_become 18 = .ok (.getfield 22, 3) := by decide +kernel
theorem dX8_become_21 : decode cX8_become 21 = .ok (.putfield 22, 3) := by decide +kernel
theorem dX8_become_24 : decode cX8_become 24 = .ok (.aload_n 0, 1) := by decide +kernel
theorem dX8_become_25 : decode cX8_become 25 = .ok (.aload_n 1, 1) := by decide +kernel
theorem dX8_become_26 : decode cX8_become 26 = .ok (.getfield 25, 3) := by decide +kernel
theorem dX8_become_29 : decode cX8_become 29 = .ok (.putfield 25, 3) := by decide +kernel
theorem dX8_become_32 : decode cX8_become 32 = .ok (.aload_n 0, 1) := by decide +kernel
theorem dX8_become_33 : decode cX8_become 33 = .ok (.aload_n 1, 1) := by decide +kernel
theorem dX8_become_34 : decode cX8_become 34 = .ok (.getfield 28, 3) := by decide +kernel
theorem dX8_become_37 : decode cX8_become 37 = .ok (.putfield 28, 3) := by decide +kernel
theorem dX8_become_40 : decode cX8_become 40 = .ok (.return_, 1) := by decide +kernel
theorem dX8_places_0 : decode cX8_places 0 = .ok (.aload_n 0, 1) := by decide +kernel
theorem dX8_places_1 : decode cX8_places 1 = .ok (.getfield 13, 3) := by decide +kernel
theorem dX8_places_4 : decode cX8_places 4 = .ok (.getstatic 7, 3) := by decide +kernel
theorem dX8_places_7 : decode cX8_places 7 = .ok (.if_acmp .ne 5, 3) := by decide +kernel
theorem dX8_places_10 : decode cX8_places 10 = .ok (.iload_n 1, 1) := by decide +kernel
theorem dX8_places_11 : decode cX8_places 11 = .ok (.ireturn, 1) := by decide +kernel
theorem dX8_places_12 : decode cX8_places 12 = .ok (.aload_n 0, 1) := by decide +kernel
theorem dX8_places_13 : decode cX8_places 13 = .ok (.getfield 13, 3) := by decide +kernel
theorem dX8_places_16 : decode cX8_places 16 = .ok (.getstatic 34, 3) := by decide +kernel
theorem dX8_places_19 : decode cX8_places 19 = .ok (.if_acmp .ne 15, 3) := by decide +kernel
theorem dX8_places_22 : decode cX8_places 22 = .ok (.aload_n 0, 1) := by decide +kernel
theorem dX8_places_23 : decode cX8_places 23 = .ok (.getfield 22, 3) := by decide +kernel
theorem dX8_places_26 : decode cX8_places 26 = .ok (.aload_n 0, 1) := by decide +kernel
theorem dX8_places_27 : decode cX8_places 27 = .ok (.getfield 25, 3) := by decide +kernel
theorem dX8_places_30 : decode cX8_places 30 = .ok (.imul, 1) := by decide +kernel
theorem dX8_places_31 : decode cX8_places 31 = .ok (.goto 7, 3) := by decide +kernel
theorem dX8_places_34 : decode cX8_places 34 = .ok (.aload_n 0, 1) := by decide +kernel
theorem dX8_places_35 : decode cX8_places 35 = .ok (.getfield 18, 3) := by decide +kernel
theorem dX8_places_38 : decode cX8_places 38 = .ok (.ireturn, 1) := by decide +kernel
theorem dX8_placeFor_0 : decode cX8_placeFor 0 = .ok (.getstatic 40, 3) := by decide +kernel
theorem dX8_placeFor_3 : decode cX8_placeFor 3 = .ok (.aload_n 0, 1) := by decide +kernel
theorem dX8_placeFor_4 : decode cX8_placeFor 4 = .ok (.getfield 13, 3) := by decide +kernel
theorem dX8_placeFor_7 : decode cX8_placeFor 7 = .ok (.invokevirtual 46, 3) := by decide +kernel
theorem dX8_placeFor_10 : decode cX8_placeFor 10 = .ok (.iaload, 1) := by decide +kernel
theorem dX8_placeFor_11 : decode cX8_placeFor 11 = .ok (.tableswitch 77 1 3 #[25, 38, 61], 25) := by decide +kernel
theorem dX8_placeFor_36 : decode cX8_placeFor 36 = .ok (.iload_n 1, 1) := by decide +kernel
theorem dX8_placeFor_37 : decode cX8_placeFor 37 = .ok (.iload_n 3, 1) := by decide +kernel
theorem dX8_placeFor_38 : decode cX8_placeFor 38 = .ok (.imul, 1) := by decide +kernel
theorem dX8_placeFor_39 : decode cX8_placeFor 39 = .ok (.iload_n 2, 1) := by decide +kernel
theorem dX8_placeFor_40 : decode cX8_placeFor 40 = .ok (.iadd, 1) := by decide +kernel
theorem dX8_placeFor_41 : decode cX8_placeFor 41 = .ok (.aload_n 0, 1) := by decide +kernel
theorem dX8_placeFor_42 : decode cX8_placeFor 42 = .ok (.getfield 18, 3) := by decide +kernel
theorem dX8_placeFor_45 : decode cX8_placeFor 45 = .ok (.invokestatic 50, 3) := by decide +kernel
theorem dX8_placeFor_48 : decode cX8_placeFor 48 = .ok (.ireturn, 1) := by decide +kernel
theorem dX8_placeFor_49 : decode cX8_placeFor 49 = .ok (.iload_n 1, 1) := by decide +kernel
theorem dX8_placeFor_50 : decode cX8_placeFor 50 = .ok (.aload_n 0, 1) := by decide +kernel
theorem dX8_placeFor_51 : decode cX8_placeFor 51 = .ok (.getfield 22, 3) := by decide +kernel
theorem dX8_placeFor_54 : decode cX8_placeFor 54 = .ok (.invokestatic 50, 3) := by decide +kernel
theorem dX8_placeFor_57 : decode cX8_placeFor 57 = .ok (.aload_n 0, 1) := by decide +kernel
theorem dX8_placeFor_58 : decode cX8_placeFor 58 = .ok (.getfield 25, 3) := by decide +kernel
theorem dX8_placeFor_61 : decode cX8_placeFor 61 = .ok (.imul, 1) := by decide +kernel
theorem dX8_placeFor_62 : decode cX8_placeFor 62 = .ok (.iload_n 2, 1) := by decide +kernel
theorem dX8_placeFor_63 : decode cX8_placeFor 63 = .ok (.aload_n 0, 1) := by decide +kernel
theorem dX8_placeFor_64 : decode cX8_placeFor 64 = .ok (.getfield 25, 3) := by decide +kernel
theorem dX8_placeFor_67 : decode cX8_placeFor 67 = .ok (.invokestatic 50, 3) := by decide +kernel
theorem dX8_placeFor_70 : decode cX8_placeFor 70 = .ok (.iadd, 1) := by decide +kernel
theorem dX8_placeFor_71 : decode cX8_placeFor 71 = .ok (.ireturn, 1) := by decide +kernel
theorem dX8_placeFor_72 : decode cX8_placeFor 72 = .ok (.iload_n 1, 1) := by decide +kernel
theorem dX8_placeFor_73 : decode cX8_placeFor 73 = .ok (.iload_n 2, 1) := by decide +kernel
theorem dX8_placeFor_74 : decode cX8_placeFor 74 = .ok (.aload_n 0, 1) := by decide +kernel
theorem dX8_placeFor_75 : decode cX8_placeFor 75 = .ok (.getfield 28, 3) := by decide +kernel
theorem dX8_placeFor_78 : decode cX8_placeFor 78 = .ok (.imul, 1) := by decide +kernel
theorem dX8_placeFor_79 : decode cX8_placeFor 79 = .ok (.iadd, 1) := by decide +kernel
theorem dX8_placeFor_80 : decode cX8_placeFor 80 = .ok (.aload_n 0, 1) := by decide +kernel
theorem dX8_placeFor_81 : decode cX8_placeFor 81 = .ok (.getfield 18, 3) := by decide +kernel
theorem dX8_placeFor_84 : decode cX8_placeFor 84 = .ok (.invokestatic 50, 3) := by decide +kernel
theorem dX8_placeFor_87 : decode cX8_placeFor 87 = .ok (.ireturn, 1) := by decide +kernel
theorem dX8_placeFor_88 : decode cX8_placeFor 88 = .ok (.iload_n 1, 1) := by decide +kernel
theorem dX8_placeFor_89 : decode cX8_placeFor 89 = .ok (.iload_n 3, 1) := by decide +kernel
theorem dX8_placeFor_90 : decode cX8_placeFor 90 = .ok (.imul, 1) := by decide +kernel
theorem dX8_placeFor_91 : decode cX8_placeFor 91 = .ok (.iload_n 2, 1) := by decide +kernel
theorem dX8_placeFor_92 : decode cX8_placeFor 92 = .ok (.iadd, 1) := by decide +kernel
theorem dX8_placeFor_93 : decode cX8_placeFor 93 = .ok (.ireturn, 1) := by decide +kernel
theorem dX8_keepsApart_0 : decode cX8_keepsApart 0 = .ok (.getstatic 40, 3) := by decide +kernel
theorem dX8_keepsApart_3 : decode cX8_keepsApart 3 = .ok (.aload_n 0, 1) := by decide +kernel
theorem dX8_keepsApart_4 : decode cX8_keepsApart 4 = .ok (.getfield 13, 3) := by decide +kernel
theorem dX8_keepsApart_7 : decode cX8_keepsApart 7 = .ok (.invokevirtual 46, 3) := by decide +kernel
theorem dX8_keepsApart_10 : decode cX8_keepsApart 10 = .ok (.iaload, 1) := by decide +kernel
theorem dX8_keepsApart_11 : decode cX8_keepsApart 11 = .ok (.tableswitch 98 1 3 #[25, 46, 74], 25) := by decide +kernel
theorem dX8_keepsApart_36 : decode cX8_keepsApart 36 = .ok (.iload_n 1, 1) := by decide +kernel
theorem dX8_keepsApart_37 : decode cX8_keepsApart 37 = .ok (.iload_n 3, 1) := by decide +kernel
theorem dX8_keepsApart_38 : decode cX8_keepsApart 38 = .ok (.imul, 1) := by decide +kernel
theorem dX8_keepsApart_39 : decode cX8_keepsApart 39 = .ok (.iload_n 2, 1) := by decide +kernel
theorem dX8_keepsApart_40 : decode cX8_keepsApart 40 = .ok (.iadd, 1) := by decide +kernel
theorem dX8_keepsApart_41 : decode cX8_keepsApart 41 = .ok (.aload_n 0, 1) := by decide +kernel
theorem dX8_keepsApart_42 : decode cX8_keepsApart 42 = .ok (.getfield 18, 3) := by decide +kernel
theorem dX8_keepsApart_45 : decode cX8_keepsApart 45 = .ok (.invokestatic 50, 3) := by decide +kernel
theorem dX8_keepsApart_48 : decode cX8_keepsApart 48 = .ok (.ifCond .eq 7, 3) := by decide +kernel
theorem dX8_keepsApart_51 : decode cX8_keepsApart 51 = .ok (.iconst 1, 1) := by decide +kernel
theorem dX8_keepsApart_52 : decode cX8_keepsApart 52 = .ok (.goto 4, 3) := by decide +kernel
theorem dX8_keepsApart_55 : decode cX8_keepsApart 55 = .ok (.iconst 0, 1) := by decide +kernel
theorem dX8_keepsApart_56 : decode cX8_keepsApart 56 = .ok (.ireturn, 1) := by decide +kernel
theorem dX8_keepsApart_57 : decode cX8_keepsApart 57 = .ok (.iload_n 1, 1) := by decide +kernel
theorem dX8_keepsApart_58 : decode cX8_keepsApart 58 = .ok (.aload_n 0, 1) := by decide +kernel
theorem dX8_keepsApart_59 : decode cX8_keepsApart 59 = .ok (.getfield 22, 3) := by decide +kernel
theorem dX8_keepsApart_62 : decode cX8_keepsApart 62 = .ok (.invokestatic 50, 3) := by decide +kernel
theorem dX8_keepsApart_65 : decode cX8_keepsApart 65 = .ok (.ifCond .ne 14, 3) := by decide +kernel
theorem dX8_keepsApart_68 : decode cX8_keepsApart 68 = .ok (.iload_n 2, 1) := by decide +kernel
theorem dX8_keepsApart_69 : decode cX8_keepsApart 69 = .ok (.aload_n 0, 1) := by decide +kernel
theorem dX8_keepsApart_70 : decode cX8_keepsApart 70 = .ok (.getfield 25, 3) := by decide +kernel
theorem dX8_keepsApart_73 : decode cX8_keepsApart 73 = .ok (.invokestatic 50, 3) := by decide +kernel
theorem dX8_keepsApart_76 : decode cX8_keepsApart 76 = .ok (.ifCond .eq 7, 3) := by decide +kernel
theorem dX8_keepsApart_79 : decode cX8_keepsApart 79 = .ok (.iconst 1, 1) := by decide +kernel
theorem dX8_keepsApart_80 : decode cX8_keepsApart 80 = .ok (.goto 4, 3) := by decide +kernel
theorem dX8_keepsApart_83 : decode cX8_keepsApart 83 = .ok (.iconst 0, 1) := by decide +kernel
theorem dX8_keepsApart_84 : decode cX8_keepsApart 84 = .ok (.ireturn, 1) := by decide +kernel
theorem dX8_keepsApart_85 : decode cX8_keepsApart 85 = .ok (.iload_n 1, 1) := by decide +kernel
theorem dX8_keepsApart_86 : decode cX8_keepsApart 86 = .ok (.iload_n 2, 1) := by decide +kernel
theorem dX8_keepsApart_87 : decode cX8_keepsApart 87 = .ok (.aload_n 0, 1) := by decide +kernel
theorem dX8_keepsApart_88 : decode cX8_keepsApart 88 = .ok (.getfield 28, 3) := by decide +kernel
theorem dX8_keepsApart_91 : decode cX8_keepsApart 91 = .ok (.imul, 1) := by decide +kernel
theorem dX8_keepsApart_92 : decode cX8_keepsApart 92 = .ok (.iadd, 1) := by decide +kernel
theorem dX8_keepsApart_93 : decode cX8_keepsApart 93 = .ok (.aload_n 0, 1) := by decide +kernel
theorem dX8_keepsApart_94 : decode cX8_keepsApart 94 = .ok (.getfield 18, 3) := by decide +kernel
theorem dX8_keepsApart_97 : decode cX8_keepsApart 97 = .ok (.invokestatic 50, 3) := by decide +kernel
theorem dX8_keepsApart_100 : decode cX8_keepsApart 100 = .ok (.ifCond .eq 7, 3) := by decide +kernel
theorem dX8_keepsApart_103 : decode cX8_keepsApart 103 = .ok (.iconst 1, 1) := by decide +kernel
theorem dX8_keepsApart_104 : decode cX8_keepsApart 104 = .ok (.goto 4, 3) := by decide +kernel
theorem dX8_keepsApart_107 : decode cX8_keepsApart 107 = .ok (.iconst 0, 1) := by decide +kernel
theorem dX8_keepsApart_108 : decode cX8_keepsApart 108 = .ok (.ireturn, 1) := by decide +kernel
theorem dX8_keepsApart_109 : decode cX8_keepsApart 109 = .ok (.iload_n 1, 1) := by decide +kernel
theorem dX8_keepsApart_110 : decode cX8_keepsApart 110 = .ok (.ifCond .ne 7, 3) := by decide +kernel
theorem dX8_keepsApart_113 : decode cX8_keepsApart 113 = .ok (.iload_n 2, 1) := by decide +kernel
theorem dX8_keepsApart_114 : decode cX8_keepsApart 114 = .ok (.ifCond .eq 7, 3) := by decide +kernel
theorem dX8_keepsApart_117 : decode cX8_keepsApart 117 = .ok (.iconst 1, 1) := by decide +kernel
theorem dX8_keepsApart_118 : decode cX8_keepsApart 118 = .ok (.goto 4, 3) := by decide +kernel
theorem dX8_keepsApart_121 : decode cX8_keepsApart 121 = .ok (.iconst 0, 1) := by decide +kernel
theorem dX8_keepsApart_122 : decode cX8_keepsApart 122 = .ok (.ireturn, 1) := by decide +kernel
theorem dX9_init_0 : decode cX9_init 0 = .ok (.aload_n 0, 1) := by decide +kernel
theorem dX9_init_1 : decode cX9_init 1 = .ok (.invokespecial 3, 3) := by decide +kernel
theorem dX9_init_4 : decode cX9_init 4 = .ok (.aload_n 0, 1) := by decide +kernel
theorem dX9_init_5 : decode cX9_init 5 = .ok (.sipush 256, 3) := by decide +kernel
theorem dX9_init_8 : decode cX9_init 8 = .ok (.newarray .int, 2) := by decide +kernel
theorem dX9_init_10 : decode cX9_init 10 = .ok (.putfield 9, 3) := by decide +kernel
theorem dX9_init_13 : decode cX9_init 13 = .ok (.aload_n 0, 1) := by decide +kernel
theorem dX9_init_14 : decode cX9_init 14 = .ok (.sipush 256, 3) := by decide +kernel
theorem dX9_init_17 : decode cX9_init 17 = .ok (.newarray .int, 2) := by decide +kernel
theorem dX9_init_19 : decode cX9_init 19 = .ok (.putfield 15, 3) := by decide +kernel
theorem dX9_init_22 : decode cX9_init 22 = .ok (.aload_n 0, 1) := by decide +kernel
theorem dX9_init_23 : decode cX9_init 23 = .ok (.sipush 256, 3) := by decide +kernel
theorem dX9_init_26 : decode cX9_init 26 = .ok (.newarray .int, 2) := by decide +kernel
theorem dX9_init_28 : decode cX9_init 28 = .ok (.putfield 18, 3) := by decide +kernel
theorem dX9_init_31 : decode cX9_init 31 = .ok (.aload_n 0, 1) := by decide +kernel
theorem dX9_init_32 : decode cX9_init 32 = .ok (.sipush 256, 3) := by decide +kernel
theorem dX9_init_35 : decode cX9_init 35 = .ok (.newarray .int, 2) := by decide +kernel
theorem dX9_init_37 : decode cX9_init 37 = .ok (.putfield 21, 3) := by decide +kernel
theorem dX9_init_40 : decode cX9_init 40 = .ok (.aload_n 0, 1) := by decide +kernel
theorem dX9_init_41 : decode cX9_init 41 = .ok (.sipush 256, 3) := by decide +kernel
theorem dX9_init_44 : decode cX9_init 44 = .ok (.newarray .int, 2) := by decide +kernel
theorem dX9_init_46 : decode cX9_init 46 = .ok (.putfield 24, 3) := by decide +kernel
theorem dX9_init_49 : decode cX9_init 49 = .ok (.aload_n 0, 1) := by decide +kernel
theorem dX9_init_50 : decode cX9_init 50 = .ok (.sipush 256, 3) := by decide +kernel
theorem dX9_init_53 : decode cX9_init 53 = .ok (.newarray .int, 2) := by decide +kernel
theorem dX9_init_55 : decode cX9_init 55 = .ok (.putfield 27, 3) := by decide +kernel
theorem dX9_init_58 : decode cX9_init 58 = .ok (.aload_n 0, 1) := by decide +kernel
theorem dX9_init_59 : decode cX9_init 59 = .ok (.sipush 256, 3) := by decide +kernel
theorem dX9_init_62 : decode cX9_init 62 = .ok (.newarray .int, 2) := by decide +kernel
theorem dX9_init_64 : decode cX9_init 64 = .ok (.putfield 30, 3) := by decide +kernel
theorem dX9_init_67 : decode cX9_init 67 = .ok (.aload_n 0, 1) := by decide +kernel
theorem dX9_init_68 : decode cX9_init 68 = .ok (.sipush 158, 3) := by decide +kernel
theorem dX9_init_71 : decode cX9_init 71 = .ok (.newarray .int, 2) := by decide +kernel
theorem dX9_init_73 : decode cX9_init 73 = .ok (.putfield 33, 3) := by decide +kernel
theorem dX9_init_76 : decode cX9_init 76 = .ok (.aload_n 0, 1) := by decide +kernel
theorem dX9_init_77 : decode cX9_init 77 = .ok (.sipush 258, 3) := by decide +kernel
theorem dX9_init_80 : decode cX9_init 80 = .ok (.newarray .int, 2) := by decide +kernel
theorem dX9_init_82 : decode cX9_init 82 = .ok (.putfield 36, 3) := by decide +kernel
theorem dX9_init_85 : decode cX9_init 85 = .ok (.aload_n 0, 1) := by decide +kernel
theorem dX9_init_86 : decode cX9_init 86 = .ok (.iconst 0, 1) := by decide +kernel
theorem dX9_init_87 : decode cX9_init 87 = .ok (.putfield 39, 3) := by decide +kernel
theorem dX9_init_90 : decode cX9_init 90 = .ok (.return_, 1) := by decide +kernel
theorem dX9_arrange_0 : decode cX9_arrange 0 = .ok (.aload_n 0, 1) := by decide +kernel
theorem dX9_arrange_1 : decode cX9_arrange 1 = .ok (.aload_n 1, 1) := by decide +kernel
theorem dX9_arrange_2 : decode cX9_arrange 2 = .ok (.invokevirtual 43, 3) := by decide +kernel
theorem dX9_arrange_5 : decode cX9_arrange 5 = .ok (.putfield 39, 3) := by decide +kernel
theorem dX9_arrange_8 : decode cX9_arrange 8 = .ok (.iconst 0, 1) := by decide +kernel
theorem dX9_arrange_9 : decode cX9_arrange 9 = .ok (.istore 4, 2) := by decide +kernel
theorem dX9_arrange_11 : decode cX9_arrange 11 = .ok (.iload 4, 2) := by decide +kernel
theorem dX9_arrange_13 : decode cX9_arrange 13 = .ok (.aload_n 1, 1) := by decide +kernel
theorem dX9_arrange_14 : decode cX9_arrange 14 = .ok (.getfield 48, 3) := by decide +kernel
theorem dX9_arrange_17 : decode cX9_arrange 17 = .ok (.invokevirtual 52, 3) := by decide +kernel
theorem dX9_arrange_20 : decode cX9_arrange 20 = .ok (.if_icmp .ge 18, 3) := by decide +kernel
theorem dX9_arrange_23 : decode cX9_arrange 23 = .ok (.aload_n 0, 1) := by decide +kernel
theorem dX9_arrange_24 : decode cX9_arrange 24 = .ok (.aload_n 1, 1) := by decide +kernel
theorem dX9_arrange_25 : decode cX9_arrange 25 = .ok (.iload 4, 2) := by decide +kernel
theorem dX9_arrange_27 : decode cX9_arrange 27 = .ok (.iload_n 2, 1) := by decide +kernel
theorem dX9_arrange_28 : decode cX9_arrange 28 = .ok (.iload_n 3, 1) := by decide +kernel
theorem dX9_arrange_29 : decode cX9_arrange 29 = .ok (.invokevirtual 57, 3) := by decide +kernel
theorem dX9_arrange_32 : decode cX9_arrange 32 = .ok (.iinc 4 1, 3) := by decide +kernel
theorem dX9_arrange_35 : decode cX9_arrange 35 = .ok (.goto (-24), 3) := by decide +kernel
theorem dX9_arrange_38 : decode cX9_arrange 38 = .ok (.aload_n 0, 1) := by decide +kernel
theorem dX9_arrange_39 : decode cX9_arrange 39 = .ok (.invokevirtual 61, 3) := by decide +kernel
theorem dX9_arrange_42 : decode cX9_arrange 42 = .ok (.aload_n 0, 1) := by decide +kernel
theorem dX9_arrange_43 : decode cX9_arrange 43 = .ok (.aload_n 1, 1) := by decide +kernel
theorem dX9_arrange_44 : decode cX9_arrange 44 = .ok (.invokevirtual 64, 3) := by decide +kernel
theorem dX9_arrange_47 : decode cX9_arrange 47 = .ok (.return_, 1) := by decide +kernel
theorem dX9_setTimes_0 : decode cX9_setTimes 0 = .ok (.aload_n 1, 1) := by decide +kernel
theorem dX9_setTimes_1 : decode cX9_setTimes 1 = .ok (.getfield 48, 3) := by decide +kernel
theorem dX9_setTimes_4 : decode cX9_setTimes 4 = .ok (.iload_n 2, 1) := by decide +kernel
theorem dX9_setTimes_5 : decode cX9_setTimes 5 = .ok (.invokevirtual 68, 3) := by decide +kernel
theorem dX9_setTimes_8 : decode cX9_setTimes 8 = .ok (.checkcast 72, 3) := by decide +kernel
theorem dX9_setTimes_11 : decode cX9_setTimes 11 = .ok (.getfield 74, 3) := by decide +kernel
theorem dX9_setTimes_14 : decode cX9_setTimes 14 = .ok (.istore 5, 2) := by decide +kernel
theorem dX9_setTimes_16 : decode cX9_setTimes 16 = .ok (.aload_n 1, 1) := by decide +kernel
theorem dX9_setTimes_17 : decode cX9_setTimes 17 = .ok (.iload_n 2, 1) := by decide +kernel
theorem dX9_setTimes_18 : decode cX9_setTimes 18 = .ok (.invokevirtual 77, 3) := by decide +kernel
theorem dX9_setTimes_21 : decode cX9_setTimes 21 = .ok (.istore 6, 2) := by decide +kernel
theorem dX9_setTimes_23 : decode cX9_setTimes 23 = .ok (.iconst 0, 1) := by decide +kernel
theorem dX9_setTimes_24 : decode cX9_setTimes 24 = .ok (.istore 7, 2) := by decide +kernel
theorem dX9_setTimes_26 : decode cX9_setTimes 26 = .ok (.iload 7, 2) := by decide +kernel
theorem dX9_setTimes_28 : decode cX9_setTimes 28 = .ok (.aload_n 1, 1) := by decide +kernel
theorem dX9_setTimes_29 : decode cX9_setTimes 29 = .ok (.getfield 81, 3) := by decide +kernel
theorem dX9_setTimes_32 : decode cX9_setTimes 32 = .ok (.if_icmp .ge 76, 3) := by decide +kernel
theorem dX9_setTimes_35 : decode cX9_setTimes 35 = .ok (.iconst 0, 1) := by decide +kernel
theorem dX9_setTimes_36 : decode cX9_setTimes 36 = .ok (.istore 8, 2) := by decide +kernel
theorem dX9_setTimes_38 : decode cX9_setTimes 38 = .ok (.iload 8, 2) := by decide +kernel
theorem dX9_setTimes_40 : decode cX9_setTimes 40 = .ok (.aload_n 1, 1) := by decide +kernel
theorem dX9_setTimes_41 : decode cX9_setTimes 41 = .ok (.getfield 84, 3) := by decide +kernel
theorem dX9_setTimes_44 : decode cX9_setTimes 44 = .ok (.if_icmp .ge 58, 3) := by decide +kernel
theorem dX9_setTimes_47 : decode cX9_setTimes 47 = .ok (.aload_n 0, 1) := by decide +kernel
theorem dX9_setTimes_48 : decode cX9_setTimes 48 = .ok (.getfield 9, 3) := by decide +kernel
theorem dX9_setTimes_51 : decode cX9_setTimes 51 = .ok (.iload 6, 2) := by decide +kernel
theorem dX9_setTimes_53 : decode cX9_setTimes 53 = .ok (.iload_n 2, 1) := by decide +kernel
theorem dX9_setTimes_54 : decode cX9_setTimes 54 = .ok (.iastore, 1) := by decide +kernel
theorem dX9_setTimes_55 : decode cX9_setTimes 55 = .ok (.aload_n 0, 1) := by decide +kernel
theorem dX9_setTimes_56 : decode cX9_setTimes 56 = .ok (.getfield 15, 3) := by decide +kernel
theorem dX9_setTimes_59 : decode cX9_setTimes 59 = .ok (.iload 6, 2) := by decide +kernel
theorem dX9_setTimes_61 : decode cX9_setTimes 61 = .ok (.iload 7, 2) := by decide +kernel
theorem dX9_setTimes_63 : decode cX9_setTimes 63 = .ok (.iastore, 1) := by decide +kernel
theorem dX9_setTimes_64 : decode cX9_setTimes 64 = .ok (.aload_n 0, 1) := by decide +kernel
theorem dX9_setTimes_65 : decode cX9_setTimes 65 = .ok (.getfield 18, 3) := by decide +kernel
theorem dX9_setTimes_68 : decode cX9_setTimes 68 = .ok (.iload 6, 2) := by decide +kernel
theorem dX9_setTimes_70 : decode cX9_setTimes 70 = .ok (.iload 8, 2) := by decide +kernel
theorem dX9_setTimes_72 : decode cX9_setTimes 72 = .ok (.iastore, 1) := by decide +kernel
theorem dX9_setTimes_73 : decode cX9_setTimes 73 = .ok (.aload_n 0, 1) := by decide +kernel
theorem dX9_setTimes_74 : decode cX9_setTimes 74 = .ok (.getfield 30, 3) := by decide +kernel
theorem dX9_setTimes_77 : decode cX9_setTimes 77 = .ok (.iload 6, 2) := by decide +kernel
theorem dX9_setTimes_79 : decode cX9_setTimes 79 = .ok (.iload 7, 2) := by decide +kernel
theorem dX9_setTimes_81 : decode cX9_setTimes 81 = .ok (.iload_n 3, 1) := by decide +kernel
theorem dX9_setTimes_82 : decode cX9_setTimes 82 = .ok (.imul, 1) := by decide +kernel
theorem dX9_setTimes_83 : decode cX9_setTimes 83 = .ok (.iload 8, 2) := by decide +kernel
theorem dX9_setTimes_85 : decode cX9_setTimes 85 = .ok (.iload 4, 2) := by decide +kernel
theorem dX9_setTimes_87 : decode cX9_setTimes 87 = .ok (.imul, 1) := by decide +kernel
theorem dX9_setTimes_88 : decode cX9_setTimes 88 = .ok (.iadd, 1) := by decide +kernel
theorem dX9_setTimes_89 : decode cX9_setTimes 89 = .ok (.iload 5, 2) := by decide +kernel
theorem dX9_setTimes_91 : decode cX9_setTimes 91 = .ok (.iadd, 1) := by decide +kernel
theorem dX9_setTimes_92 : decode cX9_setTimes 92 = .ok (.iastore, 1) := by decide +kernel
theorem dX9_setTimes_93 : decode cX9_setTimes 93 = .ok (.iinc 6 1, 3) := by decide +kernel
theorem dX9_setTimes_96 : decode cX9_setTimes 96 = .ok (.iinc 8 1, 3) := by decide +kernel
theorem dX9_setTimes_99 : decode cX9_setTimes 99 = .ok (.goto (-61), 3) := by decide +kernel
theorem dX9_setTimes_102 : decode cX9_setTimes 102 = .ok (.iinc 7 1, 3) := by decide +kernel
theorem dX9_setTimes_105 : decode cX9_setTimes 105 = .ok (.goto (-79), 3) := by decide +kernel
theorem dX9_setTimes_108 : decode cX9_setTimes 108 = .ok (.return_, 1) := by decide +kernel
theorem dX9_setSteps_0 : decode cX9_setSteps 0 = .ok (.aload_n 0, 1) := by decide +kernel
theorem dX9_setSteps_1 : decode cX9_setSteps 1 = .ok (.getfield 33, 3) := by decide +kernel
theorem dX9_setSteps_4 : decode cX9_setSteps 4 = .ok (.iconst 0, 1) := by decide +kernel
theorem dX9_setSteps_5 : decode cX9_setSteps 5 = .ok (.invokestatic 87, 3) := by decide +kernel
theorem dX9_setSteps_8 : decode cX9_setSteps 8 = .ok (.iconst 0, 1) := by decide +kernel
theorem dX9_setSteps_9 : decode cX9_setSteps 9 = .ok (.istore_n 1, 1) := by decide +kernel
theorem dX9_setSteps_10 : decode cX9_setSteps 10 = .ok (.iload_n 1, 1) := by decide +kernel
theorem dX9_setSteps_11 : decode cX9_setSteps 11 = .ok (.aload_n 0, 1) := by decide +kernel
theorem dX9_setSteps_12 : decode cX9_setSteps 12 = .ok (.getfield 39, 3) := by decide +kernel
theorem dX9_setSteps_15 : decode cX9_setSteps 15 = .ok (.if_icmp .ge 26, 3) := by decide +kernel
theorem dX9_setSteps_18 : decode cX9_setSteps 18 = .ok (.aload_n 0, 1) := by decide +kernel
theorem dX9_setSteps_19 : decode cX9_setSteps 19 = .ok (.getfield 33, 3) := by decide +kernel
theorem dX9_setSteps_22 : decode cX9_setSteps 22 = .ok (.aload_n 0, 1) := by decide +kernel
theorem dX9_setSteps_23 : decode cX9_setSteps 23 = .ok (.getfield 30, 3) := by decide +kernel
theorem dX9_setSteps_26 : decode cX9_setSteps 26 = .ok (.iload_n 1, 1) := by decide +kernel
theorem dX9_setSteps_27 : decode cX9_setSteps 27 = .ok (.iaload, 1) := by decide +kernel
theorem dX9_setSteps_28 : decode cX9_setSteps 28 = .ok (.iconst 1, 1) := by decide +kernel
theorem dX9_setSteps_29 : decode cX9_setSteps 29 = .ok (.iadd, 1) := by decide +kernel
theorem dX9_setSteps_30 : decode cX9_setSteps 30 = .ok (.dup2, 1) := by decide +kernel
theorem dX9_setSteps_31 : decode cX9_setSteps 31 = .ok (.iaload, 1) := by decide +kernel
theorem dX9_setSteps_32 : decode cX9_setSteps 32 = .ok (.iconst 1, 1) := by decide +kernel
theorem dX9_setSteps_33 : decode cX9_setSteps 33 = .ok (.iadd, 1) := by decide +kernel
theorem dX9_setSteps_34 : decode cX9_setSteps 34 = .ok (.iastore, 1) := by decide +kernel
theorem dX9_setSteps_35 : decode cX9_setSteps 35 = .ok (.iinc 1 1, 3) := by decide +kernel
theorem dX9_setSteps_38 : decode cX9_setSteps 38 = .ok (.goto (-28), 3) := by decide +kernel
theorem dX9_setSteps_41 : decode cX9_setSteps 41 = .ok (.iconst 1, 1) := by decide +kernel
theorem dX9_setSteps_42 : decode cX9_setSteps 42 = .ok (.istore_n 1, 1) := by decide +kernel
theorem dX9_setSteps_43 : decode cX9_setSteps 43 = .ok (.iload_n 1, 1) := by decide +kernel
theorem dX9_setSteps_44 : decode cX9_setSteps 44 = .ok (.aload_n 0, 1) := by decide +kernel
theorem dX9_setSteps_45 : decode cX9_setSteps 45 = .ok (.getfield 33, 3) := by decide +kernel
theorem dX9_setSteps_48 : decode cX9_setSteps 48 = .ok (.arraylength, 1) := by decide +kernel
theorem dX9_setSteps_49 : decode cX9_setSteps 49 = .ok (.if_icmp .ge 26, 3) := by decide +kernel
theorem dX9_setSteps_52 : decode cX9_setSteps 52 = .ok (.aload_n 0, 1) := by decide +kernel
theorem dX9_setSteps_53 : decode cX9_setSteps 53 = .ok (.getfield 33, 3) := by decide +kernel
theorem dX9_setSteps_56 : decode cX9_setSteps 56 = .ok (.iload_n 1, 1) := by decide +kernel
theorem dX9_setSteps_57 : decode cX9_setSteps 57 = .ok (.dup2, 1) := by decide +kernel
theorem dX9_setSteps_58 : decode cX9_setSteps 58 = .ok (.iaload, 1) := by decide +kernel
theorem dX9_setSteps_59 : decode cX9_setSteps 59 = .ok (.aload_n 0, 1) := by decide +kernel
theorem dX9_setSteps_60 : decode cX9_setSteps 60 = .ok (.getfield 33, 3) := by decide +kernel
theorem dX9_setSteps_63 : decode cX9_setSteps 63 = .ok (.iload_n 1, 1) := by decide +kernel
theorem dX9_setSteps_64 : decode cX9_setSteps 64 = .ok (.iconst 1, 1) := by decide +kernel
theorem dX9_setSteps_65 : decode cX9_setSteps 65 = .ok (.isub, 1) := by decide +kernel
theorem dX9_setSteps_66 : decode cX9_setSteps 66 = .ok (.iaload, 1) := by decide +kernel
theorem dX9_setSteps_67 : decode cX9_setSteps 67 = .ok (.iadd, 1) := by decide +kernel
theorem dX9_setSteps_68 : decode cX9_setSteps 68 = .ok (.iastore, 1) := by decide +kernel
theorem dX9_setSteps_69 : decode cX9_setSteps 69 = .ok (.iinc 1 1, 3) := by decide +kernel
theorem dX9_setSteps_72 : decode cX9_setSteps 72 = .ok (.goto (-29), 3) := by decide +kernel
theorem dX9_setSteps_75 : decode cX9_setSteps 75 = .ok (.iconst 0, 1) := by decide +kernel
theorem dX9_setSteps_76 : decode cX9_setSteps 76 = .ok (.istore_n 1, 1) := by decide +kernel
theorem dX9_setSteps_77 : decode cX9_setSteps 77 = .ok (.iload_n 1, 1) := by decide +kernel
theorem dX9_setSteps_78 : decode cX9_setSteps 78 = .ok (.aload_n 0, 1) := by decide +kernel
theorem dX9_setSteps_79 : decode cX9_setSteps 79 = .ok (.getfield 39, 3) := by decide +kernel
theorem dX9_setSteps_82 : decode cX9_setSteps 82 = .ok (.if_icmp .ge 49, 3) := by decide +kernel
theorem dX9_setSteps_85 : decode cX9_setSteps 85 = .ok (.aload_n 0, 1) := by decide +kernel
theorem dX9_setSteps_86 : decode cX9_setSteps 86 = .ok (.getfield 33, 3) := by decide +kernel
theorem dX9_setSteps_89 : decode cX9_setSteps 89 = .ok (.aload_n 0, 1) := by decide +kernel
theorem dX9_setSteps_90 : decode cX9_setSteps 90 = .ok (.getfield 30, 3) := by decide +kernel
theorem dX9_setSteps_93 : decode cX9_setSteps 93 = .ok (.iload_n 1, 1) := by decide +kernel
theorem dX9_setSteps_94 : decode cX9_setSteps 94 = .ok (.iaload, 1) := by decide +kernel
theorem dX9_setSteps_95 : decode cX9_setSteps 95 = .ok (.iaload, 1) := by decide +kernel
theorem dX9_setSteps_96 : decode cX9_setSteps 96 = .ok (.istore_n 2, 1) := by decide +kernel
theorem dX9_setSteps_97 : decode cX9_setSteps 97 = .ok (.aload_n 0, 1) := by decide +kernel
theorem dX9_setSteps_98 : decode cX9_setSteps 98 = .ok (.getfield 33, 3) := by decide +kernel
theorem dX9_setSteps_101 : decode cX9_setSteps 101 = .ok (.aload_n 0, 1) := by decide +kernel
theorem dX9_setSteps_102 : decode cX9_setSteps 102 = .ok (.getfield 30, 3) := by decide +kernel
theorem dX9_setSteps_105 : decode cX9_setSteps 105 = .ok (.iload_n 1, 1) := by decide +kernel
theorem dX9_setSteps_106 : decode cX9_setSteps 106 = .ok (.iaload, 1) := by decide +kernel
theorem dX9_setSteps_107 : decode cX9_setSteps 107 = .ok (.iload_n 2, 1) := by decide +kernel
theorem dX9_setSteps_108 : decode cX9_setSteps 108 = .ok (.iconst 1, 1) := by decide +kernel
theorem dX9_setSteps_109 : decode cX9_setSteps 109 = .ok (.iadd, 1) := by decide +kernel
theorem dX9_setSteps_110 : decode cX9_setSteps 110 = .ok (.iastore, 1) := by decide +kernel
theorem dX9_setSteps_111 : decode cX9_setSteps 111 = .ok (.aload_n 0, 1) := by decide +kernel
theorem dX9_setSteps_112 : decode cX9_setSteps 112 = .ok (.getfield 21, 3) := by decide +kernel
theorem dX9_setSteps_115 : decode cX9_setSteps 115 = .ok (.iload_n 1, 1) := by decide +kernel
theorem dX9_setSteps_116 : decode cX9_setSteps 116 = .ok (.iload_n 2, 1) := by decide +kernel
theorem dX9_setSteps_117 : decode cX9_setSteps 117 = .ok (.iastore, 1) := by decide +kernel
theorem dX9_setSteps_118 : decode cX9_setSteps 118 = .ok (.aload_n 0, 1) := by decide +kernel
theorem dX9_setSteps_119 : decode cX9_setSteps 119 = .ok (.getfield 27, 3) := by decide +kernel
theorem dX9_setSteps_122 : decode cX9_setSteps 122 = .ok (.iload_n 2, 1) := by decide +kernel
theorem dX9_setSteps_123 : decode cX9_setSteps 123 = .ok (.iload_n 1, 1) := by decide +kernel
theorem dX9_setSteps_124 : decode cX9_setSteps 124 = .ok (.iastore, 1) := by decide +kernel
theorem dX9_setSteps_125 : decode cX9_setSteps 125 = .ok (.iinc 1 1, 3) := by decide +kernel
theorem dX9_setSteps_128 : decode cX9_setSteps 128 = .ok (.goto (-51), 3) := by decide +kernel
theorem dX9_setSteps_131 : decode cX9_setSteps 131 = .ok (.return_, 1) := by decide +kernel
theorem dX9_setEnds_0 : decode cX9_setEnds 0 = .ok (.iconst 0, 1) := by decide +kernel
theorem dX9_setEnds_1 : decode cX9_setEnds 1 = .ok (.istore_n 2, 1) := by decide +kernel
theorem dX9_setEnds_2 : decode cX9_setEnds 2 = .ok (.iload_n 2, 1) := by decide +kernel
theorem dX9_setEnds_3 : decode cX9_setEnds 3 = .ok (.aload_n 0, 1) := by decide +kernel
theorem dX9_setEnds_4 : decode cX9_setEnds 4 = .ok (.getfield 39, 3) := by decide +kernel
theorem dX9_setEnds_7 : decode cX9_setEnds 7 = .ok (.if_icmp .ge 52, 3) := by decide +kernel
theorem dX9_setEnds_10 : decode cX9_setEnds 10 = .ok (.aload_n 1, 1) := by decide +kernel
theorem dX9_setEnds_11 : decode cX9_setEnds 11 = .ok (.getfield 48, 3) := by decide +kernel
theorem dX9_setEnds_14 : decode cX9_setEnds 14 = .ok (.aload_n 0, 1) := by decide +kernel
theorem dX9_setEnds_15 : decode cX9_setEnds 15 = .ok (.getfield 9, 3) := by decide +kernel
theorem dX9_setEnds_18 : decode cX9_setEnds 18 = .ok (.iload_n 2, 1) := by decide +kernel
theorem dX9_setEnds_19 : decode cX9_setEnds 19 = .ok (.iaload, 1) := by decide +kernel
theorem dX9_setEnds_20 : decode cX9_setEnds 20 = .ok (.invokevirtual 68, 3) := by decide +kernel
theorem dX9_setEnds_23 : decode cX9_setEnds 23 = .ok (.checkcast 72, 3) := by decide +kernel
theorem dX9_setEnds_26 : decode cX9_setEnds 26 = .ok (.getfield 93, 3) := by decide +kernel
theorem dX9_setEnds_29 : decode cX9_setEnds 29 = .ok (.istore_n 3, 1) := by decide +kernel
theorem dX9_setEnds_30 : decode cX9_setEnds 30 = .ok (.aload_n 0, 1) := by decide +kernel
theorem dX9_setEnds_31 : decode cX9_setEnds 31 = .ok (.getfield 24, 3) := by decide +kernel
theorem dX9_setEnds_34 : decode cX9_setEnds 34 = .ok (.iload_n 2, 1) := by decide +kernel
theorem dX9_setEnds_35 : decode cX9_setEnds 35 = .ok (.iload_n 3, 1) := by decide +kernel
theorem dX9_setEnds_36 : decode cX9_setEnds 36 = .ok (.ifCond .eq 10, 3) := by decide +kernel
theorem dX9_setEnds_39 : decode cX9_setEnds 39 = .ok (.aload_n 0, 1) := by decide +kernel
theorem dX9_setEnds_40 : decode cX9_setEnds 40 = .ok (.getfield 39, 3) := by decide +kernel
theorem dX9_setEnds_43 : decode cX9_setEnds 43 = .ok (.goto 9, 3) := by decide +kernel
theorem dX9_setEnds_46 : decode cX9_setEnds 46 = .ok (.aload_n 0, 1) := by decide +kernel
theorem dX9_setEnds_47 : decode cX9_setEnds 47 = .ok (.getfield 21, 3) := by decide +kernel
theorem dX9_setEnds_50 : decode cX9_setEnds 50 = .ok (.iload_n 2, 1) := by decide +kernel
theorem dX9_setEnds_51 : decode cX9_setEnds 51 = .ok (.iaload, 1) := by decide +kernel
theorem dX9_setEnds_52 : decode cX9_setEnds 52 = .ok (.iastore, 1) := by decide +kernel
theorem dX9_setEnds_53 : decode cX9_setEnds 53 = .ok (.iinc 2 1, 3) := by decide +kernel
theorem dX9_setEnds_56 : decode cX9_setEnds 56 = .ok (.goto (-54), 3) := by decide +kernel
theorem dX9_setEnds_59 : decode cX9_setEnds 59 = .ok (.iconst 0, 1) := by decide +kernel
theorem dX9_setEnds_60 : decode cX9_setEnds 60 = .ok (.istore_n 2, 1) := by decide +kernel
theorem dX9_setEnds_61 : decode cX9_setEnds 61 = .ok (.iload_n 2, 1) := by decide +kernel
theorem dX9_setEnds_62 : decode cX9_setEnds 62 = .ok (.aload_n 0, 1) := by decide +kernel
theorem dX9_setEnds_63 : decode cX9_setEnds 63 = .ok (.getfield 39, 3) := by decide +kernel
theorem dX9_setEnds_66 : decode cX9_setEnds 66 = .ok (.if_icmp .ge 62, 3) := by decide +kernel
theorem dX9_setEnds_69 : decode cX9_setEnds 69 = .ok (.aload_n 1, 1) := by decide +kernel
theorem dX9_setEnds_70 : decode cX9_setEnds 70 = .ok (.getfield 48, 3) := by decide +kernel
theorem dX9_setEnds_73 : decode cX9_setEnds 73 = .ok (.aload_n 0, 1) := by decide +kernel
theorem dX9_setEnds_74 : decode cX9_setEnds 74 = .ok (.getfield 9, 3) := by decide +kernel
theorem dX9_setEnds_77 : decode cX9_setEnds 77 = .ok (.iload_n 2, 1) := by decide +kernel
theorem dX9_setEnds_78 : decode cX9_setEnds 78 = .ok (.iaload, 1) := by decide +kernel
theorem dX9_setEnds_79 : decode cX9_setEnds 79 = .ok (.invokevirtual 68, 3) := by decide +kernel
theorem dX9_setEnds_82 : decode cX9_setEnds 82 = .ok (.checkcast 72, 3) := by decide +kernel
theorem dX9_setEnds_85 : decode cX9_setEnds 85 = .ok (.getfield 97, 3) := by decide +kernel
theorem dX9_setEnds_88 : decode cX9_setEnds 88 = .ok (.astore_n 3, 1) := by decide +kernel
theorem dX9_setEnds_89 : decode cX9_setEnds 89 = .ok (.iconst 0, 1) := by decide +kernel
theorem dX9_setEnds_90 : decode cX9_setEnds 90 = .ok (.istore 4, 2) := by decide +kernel
theorem dX9_setEnds_92 : decode cX9_setEnds 92 = .ok (.iload 4, 2) := by decide +kernel
theorem dX9_setEnds_94 : decode cX9_setEnds 94 = .ok (.aload_n 3, 1) := by decide +kernel
theorem dX9_setEnds_95 : decode cX9_setEnds 95 = .ok (.invokevirtual 52, 3) := by decide +kernel
theorem dX9_setEnds_98 : decode cX9_setEnds 98 = .ok (.if_icmp .ge 24, 3) := by decide +kernel
theorem dX9_setEnds_101 : decode cX9_setEnds 101 = .ok (.aload_n 0, 1) := by decide +kernel
theorem dX9_setEnds_102 : decode cX9_setEnds 102 = .ok (.aload_n 1, 1) := by decide +kernel
theorem dX9_setEnds_103 : decode cX9_setEnds 103 = .ok (.iload_n 2, 1) := by decide +kernel
theorem dX9_setEnds_104 : decode cX9_setEnds 104 = .ok (.aload_n 3, 1) := by decide +kernel
theorem dX9_setEnds_105 : decode cX9_setEnds 105 = .ok (.iload 4, 2) := by decide +kernel
theorem dX9_setEnds_107 : decode cX9_setEnds 107 = .ok (.invokevirtual 68, 3) := by decide +kernel
theorem dX9_setEnds_110 : decode cX9_setEnds 110 = .ok (.checkcast 100, 3) := by decide +kernel
theorem dX9_setEnds_113 : decode cX9_setEnds 113 = .ok (.invokevirtual 102, 3) := by decide +kernel
theorem dX9_setEnds_116 : decode cX9_setEnds 116 = .ok (.iinc 4 1, 3) := by decide +kernel
theorem dX9_setEnds_119 : decode cX9_setEnds 119 = .ok (.goto (-27), 3) := by decide +kernel
theorem dX9_setEnds_122 : decode cX9_setEnds 122 = .ok (.iinc 2 1, 3) := by decide +kernel
theorem dX9_setEnds_125 : decode cX9_setEnds 125 = .ok (.goto (-64), 3) := by decide +kernel
theorem dX9_setEnds_128 : decode cX9_setEnds 128 = .ok (.return_, 1) := by decide +kernel
theorem dX9_stretchCellRead_0 : decode cX9_stretchCellRead 0 = .ok (.aload_n 0, 1) := by decide +kernel
theorem dX9_stretchCellRead_1 : decode cX9_stretchCellRead 1 = .ok (.getfield 15, 3) := by decide +kernel
theorem dX9_stretchCellRead_4 : decode cX9_stretchCellRead 4 = .ok (.iload_n 2, 1) := by decide +kernel
theorem dX9_stretchCellRead_5 : decode cX9_stretchCellRead 5 = .ok (.iaload, 1) := by decide +kernel
theorem dX9_stretchCellRead_6 : decode cX9_stretchCellRead 6 = .ok (.aload_n 3, 1) := by decide +kernel
theorem dX9_stretchCellRead_7 : decode cX9_stretchCellRead 7 = .ok (.getfield 106, 3) := by decide +kernel
theorem dX9_stretchCellRead_10 : decode cX9_stretchCellRead 10 = .ok (.isub, 1) := by decide +kernel
theorem dX9_stretchCellRead_11 : decode cX9_stretchCellRead 11 = .ok (.istore 4, 2) := by decide +kernel
theorem dX9_stretchCellRead_13 : decode cX9_stretchCellRead 13 = .ok (.aload_n 0, 1) := by decide +kernel
theorem dX9_stretchCellRead_14 : decode cX9_stretchCellRead 14 = .ok (.getfield 18, 3) := by decide +kernel
theorem dX9_stretchCellRead_17 : decode cX9_stretchCellRead 17 = .ok (.iload_n 2, 1) := by decide +kernel
theorem dX9_stretchCellRead_18 : decode cX9_stretchCellRead 18 = .ok (.iaload, 1) := by decide +kernel
theorem dX9_stretchCellRead_19 : decode cX9_stretchCellRead 19 = .ok (.aload_n 3, 1) := by decide +kernel
theorem dX9_stretchCellRead_20 : decode cX9_stretchCellRead 20 = .ok (.getfield 109, 3) := by decide +kernel
theorem dX9_stretchCellRead_23 : decode cX9_stretchCellRead 23 = .ok (.isub, 1) := by decide +kernel
theorem dX9_stretchCellRead_24 : decode cX9_stretchCellRead 24 = .ok (.istore 5, 2) := by decide +kernel
theorem dX9_stretchCellRead_26 : decode cX9_stretchCellRead 26 = .ok (.aload_n 1, 1) := by decide +kernel
theorem dX9_stretchCellRead_27 : decode cX9_stretchCellRead 27 = .ok (.iload 4, 2) := by decide +kernel
theorem dX9_stretchCellRead_29 : decode cX9_stretchCellRead 29 = .ok (.iload 5, 2) := by decide +kernel
theorem dX9_stretchCellRead_31 : decode cX9_stretchCellRead 31 = .ok (.invokevirtual 112, 3) := by decide +kernel
theorem dX9_stretchCellRead_34 : decode cX9_stretchCellRead 34 = .ok (.ifCond .eq 40, 3) := by decide +kernel
theorem dX9_stretchCellRead_37 : decode cX9_stretchCellRead 37 = .ok (.aload_n 1, 1) := by decide +kernel
theorem dX9_stretchCellRead_38 : decode cX9_stretchCellRead 38 = .ok (.aload_n 3, 1) := by decide +kernel
theorem dX9_stretchCellRead_39 : decode cX9_stretchCellRead 39 = .ok (.getfield 116, 3) := by decide +kernel
theorem dX9_stretchCellRead_42 : decode cX9_stretchCellRead 42 = .ok (.iload 4, 2) := by decide +kernel
theorem dX9_stretchCellRead_44 : decode cX9_stretchCellRead 44 = .ok (.iload 5, 2) := by decide +kernel
theorem dX9_stretchCellRead_46 : decode cX9_stretchCellRead 46 = .ok (.invokevirtual 119, 3) := by decide +kernel
theorem dX9_stretchCellRead_49 : decode cX9_stretchCellRead 49 = .ok (.istore 6, 2) := by decide +kernel
theorem dX9_stretchCellRead_51 : decode cX9_stretchCellRead 51 = .ok (.aload_n 0, 1) := by decide +kernel
theorem dX9_stretchCellRead_52 : decode cX9_stretchCellRead 52 = .ok (.getfield 24, 3) := by decide +kernel
theorem dX9_stretchCellRead_55 : decode cX9_stretchCellRead 55 = .ok (.iload 6, 2) := by decide +kernel
theorem dX9_stretchCellRead_57 : decode cX9_stretchCellRead 57 = .ok (.aload_n 0, 1) := by decide +kernel
theorem dX9_stretchCellRead_58 : decode cX9_stretchCellRead 58 = .ok (.getfield 24, 3) := by decide +kernel
theorem dX9_stretchCellRead_61 : decode cX9_stretchCellRead 61 = .ok (.iload 6, 2) := by decide +kernel
theorem dX9_stretchCellRead_63 : decode cX9_stretchCellRead 63 = .ok (.iaload, 1) := by decide +kernel
theorem dX9_stretchCellRead_64 : decode cX9_stretchCellRead 64 = .ok (.aload_n 0, 1) := by decide +kernel
theorem dX9_stretchCellRead_65 : decode cX9_stretchCellRead 65 = .ok (.getfield 21, 3) := by decide +kernel
theorem dX9_stretchCellRead_68 : decode cX9_stretchCellRead 68 = .ok (.iload_n 2, 1) := by decide +kernel
theorem dX9_stretchCellRead_69 : decode cX9_stretchCellRead 69 = .ok (.iaload, 1) := by decide +kernel
theorem dX9_stretchCellRead_70 : decode cX9_stretchCellRead 70 = .ok (.invokestatic 123, 3) := by decide +kernel
theorem dX9_stretchCellRead_73 : decode cX9_stretchCellRead 73 = .ok (.iastore, 1) := by decide +kernel
theorem dX9_stretchCellRead_74 : decode cX9_stretchCellRead 74 = .ok (.return_, 1) := by decide +kernel
theorem dX9_countLive_0 : decode cX9_countLive 0 = .ok (.iconst 0, 1) := by decide +kernel
theorem dX9_countLive_1 : decode cX9_countLive 1 = .ok (.istore_n 2, 1) := by decide +kernel
theorem dX9_countLive_2 : decode cX9_countLive 2 = .ok (.iconst 0, 1) := by decide +kernel
theorem dX9_countLive_3 : decode cX9_countLive 3 = .ok (.istore_n 3, 1) := by decide +kernel
theorem dX9_countLive_4 : decode cX9_countLive 4 = .ok (.iload_n 3, 1) := by decide +kernel
theorem dX9_countLive_5 : decode cX9_countLive 5 = .ok (.aload_n 0, 1) := by decide +kernel
theorem dX9_countLive_6 : decode cX9_countLive 6 = .ok (.getfield 39, 3) := by decide +kernel
theorem dX9_countLive_9 : decode cX9_countLive 9 = .ok (.if_icmp .ge 32, 3) := by decide +kernel
theorem dX9_countLive_12 : decode cX9_countLive 12 = .ok (.aload_n 0, 1) := by decide +kernel
theorem dX9_countLive_13 : decode cX9_countLive 13 = .ok (.getfield 21, 3) := by decide +kernel
theorem dX9_countLive_16 : decode cX9_countLive 16 = .ok (.iload_n 3, 1) := by decide +kernel
theorem dX9_countLive_17 : decode cX9_countLive 17 = .ok (.iaload, 1) := by decide +kernel
theorem dX9_countLive_18 : decode cX9_countLive 18 = .ok (.iload_n 1, 1) := by decide +kernel
theorem dX9_countLive_19 : decode cX9_countLive 19 = .ok (.if_icmp .ge 16, 3) := by decide +kernel
theorem dX9_countLive_22 : decode cX9_countLive 22 = .ok (.iload_n 1, 1) := by decide +kernel
theorem dX9_countLive_23 : decode cX9_countLive 23 = .ok (.aload_n 0, 1) := by decide +kernel
theorem dX9_countLive_24 : decode cX9_countLive 24 = .ok (.getfield 24, 3) := by decide +kernel
theorem dX9_countLive_27 : decode cX9_countLive 27 = .ok (.iload_n 3, 1) := by decide +kernel
theorem dX9_countLive_28 : decode cX9_countLive 28 = .ok (.iaload, 1) := by decide +kernel
theorem dX9_countLive_29 : decode cX9_countLive 29 = .ok (.if_icmp .gt 6, 3) := by decide +kernel
theorem dX9_countLive_32 : decode cX9_countLive 32 = .ok (.iinc 2 1, 3) := by decide +kernel
theorem dX9_countLive_35 : decode cX9_countLive 35 = .ok (.iinc 3 1, 3) := by decide +kernel
theorem dX9_countLive_38 : decode cX9_countLive 38 = .ok (.goto (-34), 3) := by decide +kernel
theorem dX9_countLive_41 : decode cX9_countLive 41 = .ok (.iload_n 2, 1) := by decide +kernel
theorem dX9_countLive_42 : decode cX9_countLive 42 = .ok (.ireturn, 1) := by decide +kernel
theorem dX9_mostLiveAmong_0 : decode cX9_mostLiveAmong 0 = .ok (.aload_n 0, 1) := by decide +kernel
theorem dX9_mostLiveAmong_1 : decode cX9_mostLiveAmong 1 = .ok (.getfield 36, 3) := by decide +kernel
theorem dX9_mostLiveAmong_4 : decode cX9_mostLiveAmong 4 = .ok (.iconst 0, 1) := by decide +kernel
theorem dX9_mostLiveAmong_5 : decode cX9_mostLiveAmong 5 = .ok (.invokestatic 87, 3) := by decide +kernel
theorem dX9_mostLiveAmong_8 : decode cX9_mostLiveAmong 8 = .ok (.iload_n 1, 1) := by decide +kernel
theorem dX9_mostLiveAmong_9 : decode cX9_mostLiveAmong 9 = .ok (.istore_n 3, 1) := by decide +kernel
theorem dX9_mostLiveAmong_10 : decode cX9_mostLiveAmong 10 = .ok (.iload_n 3, 1) := by decide +kernel
theorem dX9_mostLiveAmong_11 : decode cX9_mostLiveAmong 11 = .ok (.iload_n 2, 1) := by decide +kernel
theorem dX9_mostLiveAmong_12 : decode cX9_mostLiveAmong 12 = .ok (.if_icmp .ge 43, 3) := by decide +kernel
theorem dX9_mostLiveAmong_15 : decode cX9_mostLiveAmong 15 = .ok (.aload_n 0, 1) := by decide +kernel
theorem dX9_mostLiveAmong_16 : decode cX9_mostLiveAmong 16 = .ok (.getfield 36, 3) := by decide +kernel
theorem dX9_mostLiveAmong_19 : decode cX9_mostLiveAmong 19 = .ok (.aload_n 0, 1) := by decide +kernel
theorem dX9_mostLiveAmong_20 : decode cX9_mostLiveAmong 20 = .ok (.getfield 21, 3) := by decide +kernel
theorem dX9_mostLiveAmong_23 : decode cX9_mostLiveAmong 23 = .ok (.iload_n 3, 1) := by decide +kernel
theorem dX9_mostLiveAmong_24 : decode cX9_mostLiveAmong 24 = .ok (.iaload, 1) := by decide +kernel
theorem dX9_mostLiveAmong_25 : decode cX9_mostLiveAmong 25 = .ok (.iconst 1, 1) := by decide +kernel
theorem dX9_mostLiveAmong_26 : decode cX9_mostLiveAmong 26 = .ok (.iadd, 1) := by decide +kernel
theorem dX9_mostLiveAmong_27 : decode cX9_mostLiveAmong 27 = .ok (.dup2, 1) := by decide +kernel
theorem dX9_mostLiveAmong_28 : decode cX9_mostLiveAmong 28 = .ok (.iaload, 1) := by decide +kernel
theorem dX9_mostLiveAmong_29 : decode cX9_mostLiveAmong 29 = .ok (.iconst 1, 1) := by decide +kernel
theorem dX9_mostLiveAmong_30 : decode cX9_mostLiveAmong 30 = .ok (.iadd, 1) := by decide +kernel
theorem dX9_mostLiveAmong_31 : decode cX9_mostLiveAmong 31 = .ok (.iastore, 1) := by decide +kernel
theorem dX9_mostLiveAmong_32 : decode cX9_mostLiveAmong 32 = .ok (.aload_n 0, 1) := by decide +kernel
theorem dX9_mostLiveAmong_33 : decode cX9_mostLiveAmong 33 = .ok (.getfield 36, 3) := by decide +kernel
theorem dX9_mostLiveAmong_36 : decode cX9_mostLiveAmong 36 = .ok (.aload_n 0, 1) := by decide +kernel
theorem dX9_mostLiveAmong_37 : decode cX9_mostLiveAmong 37 = .ok (.getfield 24, 3) := by decide +kernel
theorem dX9_mostLiveAmong_40 : decode cX9_mostLiveAmong 40 = .ok (.iload_n 3, 1) := by decide +kernel
theorem dX9_mostLiveAmong_41 : decode cX9_mostLiveAmong 41 = .ok (.iaload, 1) := by decide +kernel
theorem dX9_mostLiveAmong_42 : decode cX9_mostLiveAmong 42 = .ok (.iconst 1, 1) := by decide +kernel
theorem dX9_mostLiveAmong_43 : decode cX9_mostLiveAmong 43 = .ok (.iadd, 1) := by decide +kernel
theorem dX9_mostLiveAmong_44 : decode cX9_mostLiveAmong 44 = .ok (.dup2, 1) := by decide +kernel
theorem dX9_mostLiveAmong_45 : decode cX9_mostLiveAmong 45 = .ok (.iaload, 1) := by decide +kernel
theorem dX9_mostLiveAmong_46 : decode cX9_mostLiveAmong 46 = .ok (.iconst 1, 1) := by decide +kernel
theorem dX9_mostLiveAmong_47 : decode cX9_mostLiveAmong 47 = .ok (.isub, 1) := by decide +kernel
theorem dX9_mostLiveAmong_48 : decode cX9_mostLiveAmong 48 = .ok (.iastore, 1) := by decide +kernel
theorem dX9_mostLiveAmong_49 : decode cX9_mostLiveAmong 49 = .ok (.iinc 3 1, 3) := by decide +kernel
theorem dX9_mostLiveAmong_52 : decode cX9_mostLiveAmong 52 = .ok (.goto (-42), 3) := by decide +kernel
theorem dX9_mostLiveAmong_55 : decode cX9_mostLiveAmong 55 = .ok (.iconst 0, 1) := by decide +kernel
theorem dX9_mostLiveAmong_56 : decode cX9_mostLiveAmong 56 = .ok (.istore_n 3, 1) := by decide +kernel
theorem dX9_mostLiveAmong_57 : decode cX9_mostLiveAmong 57 = .ok (.iconst 0, 1) := by decide +kernel
theorem dX9_mostLiveAmong_58 : decode cX9_mostLiveAmong 58 = .ok (.istore 4, 2) := by decide +kernel
theorem dX9_mostLiveAmong_60 : decode cX9_mostLiveAmong 60 = .ok (.iconst 0, 1) := by decide +kernel
theorem dX9_mostLiveAmong_61 : decode cX9_mostLiveAmong 61 = .ok (.istore 5, 2) := by decide +kernel
theorem dX9_mostLiveAmong_63 : decode cX9_mostLiveAmong 63 = .ok (.iload 5, 2) := by decide +kernel
theorem dX9_mostLiveAmong_65 : decode cX9_mostLiveAmong 65 = .ok (.aload_n 0, 1) := by decide +kernel
theorem dX9_mostLiveAmong_66 : decode cX9_mostLiveAmong 66 = .ok (.getfield 39, 3) := by decide +kernel
theorem dX9_mostLiveAmong_69 : decode cX9_mostLiveAmong 69 = .ok (.if_icmp .ge 27, 3) := by decide +kernel
theorem dX9_mostLiveAmong_72 : decode cX9_mostLiveAmong 72 = .ok (.iload_n 3, 1) := by decide +kernel
theorem dX9_mostLiveAmong_73 : decode cX9_mostLiveAmong 73 = .ok (.aload_n 0, 1) := by decide +kernel
theorem dX9_mostLiveAmong_74 : decode cX9_mostLiveAmong 74 = .ok (.getfield 36, 3) := by decide +kernel
theorem dX9_mostLiveAmong_77 : decode cX9_mostLiveAmong 77 = .ok (.iload 5, 2) := by decide +kernel
theorem dX9_mostLiveAmong_79 : decode cX9_mostLiveAmong 79 = .ok (.iaload, 1) := by decide +kernel
theorem dX9_mostLiveAmong_80 : decode cX9_mostLiveAmong 80 = .ok (.iadd, 1) := by decide +kernel
theorem dX9_mostLiveAmong_81 : decode cX9_mostLiveAmong 81 = .ok (.istore_n 3, 1) := by decide +kernel
theorem dX9_mostLiveAmong_82 : decode cX9_mostLiveAmong 82 = .ok (.iload 4, 2) := by decide +kernel
theorem dX9_mostLiveAmong_84 : decode cX9_mostLiveAmong 84 = .ok (.iload_n 3, 1) := by decide +kernel
theorem dX9_mostLiveAmong_85 : decode cX9_mostLiveAmong 85 = .ok (.invokestatic 123, 3) := by decide +kernel
theorem dX9_mostLiveAmong_88 : decode cX9_mostLiveAmong 88 = .ok (.istore 4, 2) := by decide +kernel
theorem dX9_mostLiveAmong_90 : decode cX9_mostLiveAmong 90 = .ok (.iinc 5 1, 3) := by decide +kernel
theorem dX9_mostLiveAmong_93 : decode cX9_mostLiveAmong 93 = .ok (.goto (-30), 3) := by decide +kernel
theorem dX9_mostLiveAmong_96 : decode cX9_mostLiveAmong 96 = .ok (.iload 4, 2) := by decide +kernel
theorem dX9_mostLiveAmong_98 : decode cX9_mostLiveAmong 98 = .ok (.ireturn, 1) := by decide +kernel
theorem dX9_inConflict_0 : decode cX9_inConflict 0 = .ok (.aload_n 0, 1) := by decide +kernel
theorem dX9_inConflict_1 : decode cX9_inConflict 1 = .ok (.iload_n 1, 1) := by decide +kernel
theorem dX9_inConflict_2 : decode cX9_inConflict 2 = .ok (.iload_n 2, 1) := by decide +kernel
theorem dX9_inConflict_3 : decode cX9_inConflict 3 = .ok (.invokevirtual 129, 3) := by decide +kernel
theorem dX9_inConflict_6 : decode cX9_inConflict 6 = .ok (.ifCond .ne 12, 3) := by decide +kernel
theorem dX9_inConflict_9 : decode cX9_inConflict 9 = .ok (.aload_n 0, 1) := by decide +kernel
theorem dX9_inConflict_10 : decode cX9_inConflict 10 = .ok (.iload_n 2, 1) := by decide +kernel
theorem dX9_inConflict_11 : decode cX9_inConflict 11 = .ok (.iload_n 1, 1) := by decide +kernel
theorem dX9_inConflict_12 : decode cX9_inConflict 12 = .ok (.invokevirtual 129, 3) := by decide +kernel
theorem dX9_inConflict_15 : decode cX9_inConflict 15 = .ok (.ifCond .eq 7, 3) := by decide +kernel
theorem dX9_inConflict_18 : decode cX9_inConflict 18 = .ok (.iconst 1, 1) := by decide +kernel
theorem dX9_inConflict_19 : decode cX9_inConflict 19 = .ok (.goto 4, 3) := by decide +kernel
theorem dX9_inConflict_22 : decode cX9_inConflict 22 = .ok (.iconst 0, 1) := by decide +kernel
theorem dX9_inConflict_23 : decode cX9_inConflict 23 = .ok (.ireturn, 1) := by decide +kernel
theorem dX9_isBornWithin_0 : decode cX9_isBornWithin 0 = .ok (.aload_n 0, 1) := by decide +kernel
theorem dX9_isBornWithin_1 : decode cX9_isBornWithin 1 = .ok (.getfield 21, 3) := by decide +kernel
theorem dX9_isBornWithin_4 : decode cX9_isBornWithin 4 = .ok (.iload_n 1, 1) := by decide +kernel
theorem dX9_isBornWithin_5 : decode cX9_isBornWithin 5 = .ok (.iaload, 1) := by decide +kernel
theorem dX9_isBornWithin_6 : decode cX9_isBornWithin 6 = .ok (.aload_n 0, 1) := by decide +kernel
theorem dX9_isBornWithin_7 : decode cX9_isBornWithin 7 = .ok (.getfield 21, 3) := by decide +kernel
theorem dX9_isBornWithin_10 : decode cX9_isBornWithin 10 = .ok (.iload_n 2, 1) := by decide +kernel
theorem dX9_isBornWithin_11 : decode cX9_isBornWithin 11 = .ok (.iaload, 1) := by decide +kernel
theorem dX9_isBornWithin_12 : decode cX9_isBornWithin 12 = .ok (.if_icmp .le 22, 3) := by decide +kernel
theorem dX9_isBornWithin_15 : decode cX9_isBornWithin 15 = .ok (.aload_n 0, 1) := by decide +kernel
theorem dX9_isBornWithin_16 : decode cX9_isBornWithin 16 = .ok (.getfield 21, 3) := by decide +kernel
theorem dX9_isBornWithin_19 : decode cX9_isBornWithin 19 = .ok (.iload_n 1, 1) := by decide +kernel
theorem dX9_isBornWithin_20 : decode cX9_isBornWithin 20 = .ok (.iaload, 1) := by decide +kernel
theorem dX9_isBornWithin_21 : decode cX9_isBornWithin 21 = .ok (.aload_n 0, 1) := by decide +kernel
theorem dX9_isBornWithin_22 : decode cX9_isBornWithin 22 = .ok (.getfield 24, 3) := by decide +kernel
theorem dX9_isBornWithin_25 : decode cX9_isBornWithin 25 = .ok (.iload_n 2, 1) := by decide +kernel
theorem dX9_isBornWithin_26 : decode cX9_isBornWithin 26 = .ok (.iaload, 1) := by decide +kernel
theorem dX9_isBornWithin_27 : decode cX9_isBornWithin 27 = .ok (.if_icmp .ge 7, 3) := by decide +kernel
theorem dX9_isBornWithin_30 : decode cX9_isBornWithin 30 = .ok (.iconst 1, 1) := by decide +kernel
theorem dX9_isBornWithin_31 : decode cX9_isBornWithin 31 = .ok (.goto 4, 3) := by decide +kernel
theorem dX9_isBornWithin_34 : decode cX9_isBornWithin 34 = .ok (.iconst 0, 1) := by decide +kernel
theorem dX9_isBornWithin_35 : decode cX9_isBornWithin 35 = .ok (.ireturn, 1) := by decide +kernel
theorem dX9_countConflicts_0 : decode cX9_countConflicts 0 = .ok (.iconst 0, 1) := by decide +kernel
theorem dX9_countConflicts_1 : decode cX9_countConflicts 1 = .ok (.istore 4, 2) := by decide +kernel
theorem dX9_countConflicts_3 : decode cX9_countConflicts 3 = .ok (.iload_n 2, 1) := by decide +kernel
theorem dX9_countConflicts_4 : decode cX9_countConflicts 4 = .ok (.istore 5, 2) := by decide +kernel
theorem dX9_countConflicts_6 : decode cX9_countConflicts 6 = .ok (.iload 5, 2) := by decide +kernel
theorem dX9_countConflicts_8 : decode cX9_countConflicts 8 = .ok (.iload_n 3, 1) := by decide +kernel
theorem dX9_countConflicts_9 : decode cX9_countConflicts 9 = .ok (.if_icmp .ge 22, 3) := by decide +kernel
theorem dX9_countConflicts_12 : decode cX9_countConflicts 12 = .ok (.aload_n 0, 1) := by decide +kernel
theorem dX9_countConflicts_13 : decode cX9_countConflicts 13 = .ok (.iload_n 1, 1) := by decide +kernel
theorem dX9_countConflicts_14 : decode cX9_countConflicts 14 = .ok (.iload 5, 2) := by decide +kernel
theorem dX9_countConflicts_16 : decode cX9_countConflicts 16 = .ok (.invokevirtual 132, 3) := by decide +kernel
theorem dX9_countConflicts_19 : decode cX9_countConflicts 19 = .ok (.ifCond .eq 6, 3) := by decide +kernel
theorem dX9_countConflicts_22 : decode cX9_countConflicts 22 = .ok (.iinc 4 1, 3) := by decide +kernel
theorem dX9_countConflicts_25 : decode cX9_countConflicts 25 = .ok (.iinc 5 1, 3) := by decide +kernel
theorem dX9_countConflicts_28 : decode cX9_countConflicts 28 = .ok (.goto (-22), 3) := by decide +kernel
theorem dX9_countConflicts_31 : decode cX9_countConflicts 31 = .ok (.iload 4, 2) := by decide +kernel
theorem dX9_countConflicts_33 : decode cX9_countConflicts 33 = .ok (.ireturn, 1) := by decide +kernel
theorem dJx29ce0_ordinal_8abf5_0 : decode cJx29ce0_ordinal_8abf5 0 = .ok (.aload_n 0, 1) := by decide +kernel
theorem dJx29ce0_ordinal_8abf5_1 : decode cJx29ce0_ordinal_8abf5 1 = .ok (.getfield 7, 3) := by decide +kernel
theorem dJx29ce0_ordinal_8abf5_4 : decode cJx29ce0_ordinal_8abf5 4 = .ok (.ireturn, 1) := by decide +kernel
theorem dJ9_floorMod_7cf53_0 : decode cJ9_floorMod_7cf53 0 = .ok (.iload_n 0, 1) := by decide +kernel
theorem dJ9_floorMod_7cf53_1 : decode cJ9_floorMod_7cf53 1 = .ok (.iload_n 1, 1) := by decide +kernel
theorem dJ9_floorMod_7cf53_2 : decode cJ9_floorMod_7cf53 2 = .ok (.irem, 1) := by decide +kernel
theorem dJ9_floorMod_7cf53_3 : decode cJ9_floorMod_7cf53 3 = .ok (.istore_n 2, 1) := by decide +kernel
theorem dJ9_floorMod_7cf53_4 : decode cJ9_floorMod_7cf53 4 = .ok (.iload_n 0, 1) := by decide +kernel
theorem dJ9_floorMod_7cf53_5 : decode cJ9_floorMod_7cf53 5 = .ok (.iload_n 1, 1) := by decide +kernel
theorem dJ9_floorMod_7cf53_6 : decode cJ9_floorMod_7cf53 6 = .ok (.ixor, 1) := by decide +kernel
theorem dJ9_floorMod_7cf53_7 : decode cJ9_floorMod_7cf53 7 = .ok (.ifCond .ge 11, 3) := by decide +kernel
theorem dJ9_floorMod_7cf53_10 : decode cJ9_floorMod_7cf53 10 = .ok (.iload_n 2, 1) := by decide +kernel
theorem dJ9_floorMod_7cf53_11 : decode cJ9_floorMod_7cf53 11 = .ok (.ifCond .eq 7, 3) := by decide +kernel
theorem dJ9_floorMod_7cf53_14 : decode cJ9_floorMod_7cf53 14 = .ok (.iload_n 2, 1) := by decide +kernel
theorem dJ9_floorMod_7cf53_15 : decode cJ9_floorMod_7cf53 15 = .ok (.iload_n 1, 1) := by decide +kernel
theorem dJ9_floorMod_7cf53_16 : decode cJ9_floorMod_7cf53 16 = .ok (.iadd, 1) := by decide +kernel
theorem dJ9_floorMod_7cf53_17 : decode cJ9_floorMod_7cf53 17 = .ok (.ireturn, 1) := by decide +kernel
theorem dJ9_floorMod_7cf53_18 : decode cJ9_floorMod_7cf53 18 = .ok (.iload_n 2, 1) := by decide +kernel
theorem dJ9_floorMod_7cf53_19 : decode cJ9_floorMod_7cf53 19 = .ok (.ireturn, 1) := by decide +kernel
theorem dJ9_abs_0f7a4_0 : decode cJ9_abs_0f7a4 0 = .ok (.iload_n 0, 1) := by decide +kernel
theorem dJ9_abs_0f7a4_1 : decode cJ9_abs_0f7a4 1 = .ok (.ifCond .ge 8, 3) := by decide +kernel
theorem dJ9_abs_0f7a4_4 : decode cJ9_abs_0f7a4 4 = .ok (.iload_n 0, 1) := by decide +kernel
theorem dJ9_abs_0f7a4_5 : decode cJ9_abs_0f7a4 5 = .ok (.ineg, 1) := by decide +kernel
theorem dJ9_abs_0f7a4_6 : decode cJ9_abs_0f7a4 6 = .ok (.goto 4, 3) := by decide +kernel
theorem dJ9_abs_0f7a4_9 : decode cJ9_abs_0f7a4 9 = .ok (.iload_n 0, 1) := by decide +kernel
theorem dJ9_abs_0f7a4_10 : decode cJ9_abs_0f7a4 10 = .ok (.ireturn, 1) := by decide +kernel
theorem dJ9_max_7cf53_0 : decode cJ9_max_7cf53 0 = .ok (.iload_n 0, 1) := by decide +kernel
theorem dJ9_max_7cf53_1 : decode cJ9_max_7cf53 1 = .ok (.iload_n 1, 1) := by decide +kernel
theorem dJ9_max_7cf53_2 : decode cJ9_max_7cf53 2 = .ok (.if_icmp .lt 7, 3) := by decide +kernel
theorem dJ9_max_7cf53_5 : decode cJ9_max_7cf53 5 = .ok (.iload_n 0, 1) := by decide +kernel
theorem dJ9_max_7cf53_6 : decode cJ9_max_7cf53 6 = .ok (.goto 4, 3) := by decide +kernel
theorem dJ9_max_7cf53_9 : decode cJ9_max_7cf53 9 = .ok (.iload_n 1, 1) := by decide +kernel
theorem dJ9_max_7cf53_10 : decode cJ9_max_7cf53 10 = .ok (.ireturn, 1) := by decide +kernel
theorem dJ9_min_7cf53_0 : decode cJ9_min_7cf53 0 = .ok (.iload_n 0, 1) := by decide +kernel
theorem dJ9_min_7cf53_1 : decode cJ9_min_7cf53 1 = .ok (.iload_n 1, 1) := by decide +kernel
theorem dJ9_min_7cf53_2 : decode cJ9_min_7cf53 2 = .ok (.if_icmp .gt 7, 3) := by decide +kernel
theorem dJ9_min_7cf53_5 : decode cJ9_min_7cf53 5 = .ok (.iload_n 0, 1) := by decide +kernel
theorem dJ9_min_7cf53_6 : decode cJ9_min_7cf53 6 = .ok (.goto 4, 3) := by decide +kernel
theorem dJ9_min_7cf53_9 : decode cJ9_min_7cf53 9 = .ok (.iload_n 1, 1) := by decide +kernel
theorem dJ9_min_7cf53_10 : decode cJ9_min_7cf53 10 = .ok (.ireturn, 1) := by decide +kernel
theorem dJxa1e45_init_da8c8_0 : decode cJxa1e45_init_da8c8 0 = .ok (.aload_n 0, 1) := by decide +kernel
theorem dJxa1e45_init_da8c8_1 : decode cJxa1e45_init_da8c8 1 = .ok (.invokespecial 1, 3) := by decide +kernel
theorem dJxa1e45_init_da8c8_4 : decode cJxa1e45_init_da8c8 4 = .ok (.return_, 1) := by decide +kernel
theorem dJxc12de_init_da8c8_0 : decode cJxc12de_init_da8c8 0 = .ok (.aload_n 0, 1) := by decide +kernel
theorem dJxc12de_init_da8c8_1 : decode cJxc12de_init_da8c8 1 = .ok (.invokespecial 1, 3) := by decide +kernel
theorem dJxc12de_init_da8c8_4 : decode cJxc12de_init_da8c8 4 = .ok (.aload_n 0, 1) := by decide +kernel
theorem dJxc12de_init_da8c8_5 : decode cJxc12de_init_da8c8 5 = .ok (.iconst 0, 1) := by decide +kernel
theorem dJxc12de_init_da8c8_6 : decode cJxc12de_init_da8c8 6 = .ok (.putfield 7, 3) := by decide +kernel
theorem dJxc12de_init_da8c8_9 : decode cJxc12de_init_da8c8 9 = .ok (.return_, 1) := by decide +kernel
theorem dJx4a65c_init_da8c8_0 : decode cJx4a65c_init_da8c8 0 = .ok (.aload_n 0, 1) := by decide +kernel
theorem dJx4a65c_init_da8c8_1 : decode cJx4a65c_init_da8c8 1 = .ok (.invokespecial 1, 3) := by decide +kernel
theorem dJx4a65c_init_da8c8_4 : decode cJx4a65c_init_da8c8 4 = .ok (.aload_n 0, 1) := by decide +kernel
theorem dJx4a65c_init_da8c8_5 : decode cJx4a65c_init_da8c8 5 = .ok (.getstatic 39, 3) := by decide +kernel
theorem dJx4a65c_init_da8c8_8 : decode cJx4a65c_init_da8c8 8 = .ok (.putfield 9, 3) := by decide +kernel
theorem dJx4a65c_init_da8c8_11 : decode cJx4a65c_init_da8c8 11 = .ok (.return_, 1) := by decide +kernel
theorem dJx4a65c_grow_92f84_0 : decode cJx4a65c_grow_92f84 0 = .ok (.aload_n 0, 1) := by decide +kernel
theorem dJx4a65c_grow_92f84_1 : decode cJx4a65c_grow_92f84 1 = .ok (.getfield 9, 3) := by decide +kernel
theorem dJx4a65c_grow_92f84_4 : decode cJx4a65c_grow_92f84 4 = .ok (.arraylength, 1) := by decide +kernel
theorem dJx4a65c_grow_92f84_5 : decode cJx4a65c_grow_92f84 5 = .ok (.istore_n 2, 1) := by decide +kernel
theorem dJx4a65c_grow_92f84_6 : decode cJx4a65c_grow_92f84 6 = .ok (.iload_n 2, 1) := by decide +kernel
theorem dJx4a65c_grow_92f84_7 : decode cJx4a65c_grow_92f84 7 = .ok (.ifCond .gt 13, 3) := by decide +kernel
theorem dJx4a65c_grow_92f84_10 : decode cJx4a65c_grow_92f84 10 = .ok (.aload_n 0, 1) := by decide +kernel
theorem dJx4a65c_grow_92f84_11 : decode cJx4a65c_grow_92f84 11 = .ok (.getfield 9, 3) := by decide +kernel
theorem dJx4a65c_grow_92f84_14 : decode cJx4a65c_grow_92f84 14 = .ok (.getstatic 39, 3) := by decide +kernel
theorem dJx4a65c_grow_92f84_17 : decode cJx4a65c_grow_92f84 17 = .ok (.if_acmp .eq 28, 3) := by decide +kernel
theorem dJx4a65c_grow_92f84_20 : decode cJx4a65c_grow_92f84 20 = .ok (.iload_n 2, 1) := by decide +kernel
theorem dJx4a65c_grow_92f84_21 : decode cJx4a65c_grow_92f84 21 = .ok (.iload_n 1, 1) := by decide +kernel
theorem dJx4a65c_grow_92f84_22 : decode cJx4a65c_grow_92f84 22 = .ok (.iload_n 2, 1) := by decide +kernel
theorem dJx4a65c_grow_92f84_23 : decode cJx4a65c_grow_92f84 23 = .ok (.isub, 1) := by decide +kernel
theorem dJx4a65c_grow_92f84_24 : decode cJx4a65c_grow_92f84 24 = .ok (.iload_n 2, 1) := by decide +kernel
theorem dJx4a65c_grow_92f84_25 : decode cJx4a65c_grow_92f84 25 = .ok (.iconst 1, 1) := by decide +kernel
theorem dJx4a65c_grow_92f84_26 : decode cJx4a65c_grow_92f84 26 = .ok (.ishr, 1) := by decide +kernel
theorem dJx4a65c_grow_92f84_27 : decode cJx4a65c_grow_92f84 27 = .ok (.invokestatic 73, 3) := by decide +kernel
theorem dJx4a65c_grow_92f84_30 : decode cJx4a65c_grow_92f84 30 = .ok (.istore_n 3, 1) := by decide +kernel
theorem dJx4a65c_grow_92f84_31 : decode cJx4a65c_grow_92f84 31 = .ok (.aload_n 0, 1) := by decide +kernel
theorem dJx4a65c_grow_92f84_32 : decode cJx4a65c_grow_92f84 32 = .ok (.aload_n 0, 1) := by decide +kernel
theorem dJx4a65c_grow_92f84_33 : decode cJx4a65c_grow_92f84 33 = .ok (.getfield 9, 3) := by decide +kernel
theorem dJx4a65c_grow_92f84_36 : decode cJx4a65c_grow_92f84 36 = .ok (.iload_n 3, 1) := by decide +kernel
theorem dJx4a65c_grow_92f84_37 : decode cJx4a65c_grow_92f84 37 = .ok (.invokestatic 66, 3) := by decide +kernel
theorem dJx4a65c_grow_92f84_40 : decode cJx4a65c_grow_92f84 40 = .ok (.dup_x1, 1) := by decide +kernel
theorem dJx4a65c_grow_92f84_41 : decode cJx4a65c_grow_92f84 41 = .ok (.putfield 9, 3) := by decide +kernel
theorem dJx4a65c_grow_92f84_44 : decode cJx4a65c_grow_92f84 44 = .ok (.areturn, 1) := by decide +kernel
theorem dJx4a65c_grow_92f84_45 : decode cJx4a65c_grow_92f84 45 = .ok (.aload_n 0, 1) := by decide +kernel
theorem dJx4a65c_grow_92f84_46 : decode cJx4a65c_grow_92f84 46 = .ok (.bipush 10, 2) := by decide +kernel
theorem dJx4a65c_grow_92f84_48 : decode cJx4a65c_grow_92f84 48 = .ok (.iload_n 1, 1) := by decide +kernel
theorem dJx4a65c_grow_92f84_49 : decode cJx4a65c_grow_92f84 49 = .ok (.invokestatic 79, 3) := by decide +kernel
theorem dJx4a65c_grow_92f84_52 : decode cJx4a65c_grow_92f84 52 = .ok (.anewarray 7, 3) := by decide +kernel
theorem dJx4a65c_grow_92f84_55 : decode cJx4a65c_grow_92f84 55 = .ok (.dup_x1, 1) := by decide +kernel
theorem dJx4a65c_grow_92f84_56 : decode cJx4a65c_grow_92f84 56 = .ok (.putfield 9, 3) := by decide +kernel
theorem dJx4a65c_grow_92f84_59 : decode cJx4a65c_grow_92f84 59 = .ok (.areturn, 1) := by decide +kernel
theorem dJx4a65c_grow_d5877_0 : decode cJx4a65c_grow_d5877 0 = .ok (.aload_n 0, 1) := by decide +kernel
theorem dJx4a65c_grow_d5877_1 : decode cJx4a65c_grow_d5877 1 = .ok (.aload_n 0, 1) := by decide +kernel
theorem dJx4a65c_grow_d5877_2 : decode cJx4a65c_grow_d5877 2 = .ok (.getfield 48, 3) := by decide +kernel
theorem dJx4a65c_grow_d5877_5 : decode cJx4a65c_grow_d5877 5 = .ok (.iconst 1, 1) := by decide +kernel
theorem dJx4a65c_grow_d5877_6 : decode cJx4a65c_grow_d5877 6 = .ok (.iadd, 1) := by decide +kernel
theorem dJx4a65c_grow_d5877_7 : decode cJx4a65c_grow_d5877 7 = .ok (.invokevirtual 69, 3) := by decide +kernel
theorem dJx4a65c_grow_d5877_10 : decode cJx4a65c_grow_d5877 10 = .ok (.areturn, 1) := by decide +kernel
theorem dJx4a65c_size_8abf5_0 : decode cJx4a65c_size_8abf5 0 = .ok (.aload_n 0, 1) := by decide +kernel
theorem dJx4a65c_size_8abf5_1 : decode cJx4a65c_size_8abf5 1 = .ok (.getfield 48, 3) := by decide +kernel
theorem dJx4a65c_size_8abf5_4 : decode cJx4a65c_size_8abf5 4 = .ok (.ireturn, 1) := by decide +kernel
theorem dJx4a65c_elementData_915e3_0 : decode cJx4a65c_elementData_915e3 0 = .ok (.aload_n 0, 1) := by decide +kernel
theorem dJx4a65c_elementData_915e3_1 : decode cJx4a65c_elementData_915e3 1 = .ok (.getfield 9, 3) := by decide +kernel
theorem dJx4a65c_elementData_915e3_4 : decode cJx4a65c_elementData_915e3 4 = .ok (.iload_n 1, 1) := by decide +kernel
theorem dJx4a65c_elementData_915e3_5 : decode cJx4a65c_elementData_915e3 5 = .ok (.aaload, 1) := by decide +kernel
theorem dJx4a65c_elementData_915e3_6 : decode cJx4a65c_elementData_915e3 6 = .ok (.areturn, 1) := by decide +kernel
theorem dJx4a65c_get_915e3_0 : decode cJx4a65c_get_915e3 0 = .ok (.iload_n 1, 1) := by decide +kernel
theorem dJx4a65c_get_915e3_1 : decode cJx4a65c_get_915e3 1 = .ok (.aload_n 0, 1) := by decide +kernel
theorem dJx4a65c_get_915e3_2 : decode cJx4a65c_get_915e3 2 = .ok (.getfield 48, 3) := by decide +kernel
theorem dJx4a65c_get_915e3_5 : decode cJx4a65c_get_915e3 5 = .ok (.invokestatic 118, 3) := by decide +kernel
theorem dJx4a65c_get_915e3_8 : decode cJx4a65c_get_915e3 8 = .ok (.pop, 1) := by decide +kernel
theorem dJx4a65c_get_915e3_9 : decode cJx4a65c_get_915e3 9 = .ok (.aload_n 0, 1) := by decide +kernel
theorem dJx4a65c_get_915e3_10 : decode cJx4a65c_get_915e3 10 = .ok (.iload_n 1, 1) := by decide +kernel
theorem dJx4a65c_get_915e3_11 : decode cJx4a65c_get_915e3 11 = .ok (.invokevirtual 123, 3) := by decide +kernel
theorem dJx4a65c_get_915e3_14 : decode cJx4a65c_get_915e3 14 = .ok (.areturn, 1) := by decide +kernel
theorem dJx4a65c_add_72be8_0 : decode cJx4a65c_add_72be8 0 = .ok (.iload_n 3, 1) := by decide +kernel
theorem dJx4a65c_add_72be8_1 : decode cJx4a65c_add_72be8 1 = .ok (.aload_n 2, 1) := by decide +kernel
theorem dJx4a65c_add_72be8_2 : decode cJx4a65c_add_72be8 2 = .ok (.arraylength, 1) := by decide +kernel
theorem dJx4a65c_add_72be8_3 : decode cJx4a65c_add_72be8 3 = .ok (.if_icmp .ne 8, 3) := by decide +kernel
theorem dJx4a65c_add_72be8_6 : decode cJx4a65c_add_72be8 6 = .ok (.aload_n 0, 1) := by decide +kernel
theorem dJx4a65c_add_72be8_7 : decode cJx4a65c_add_72be8 7 = .ok (.invokevirtual 129, 3) := by decide +kernel
theorem dJx4a65c_add_72be8_10 : decode cJx4a65c_add_72be8 10 = .ok (.astore_n 2, 1) := by decide +kernel
theorem dJx4a65c_add_72be8_11 : decode cJx4a65c_add_72be8 11 = .ok (.aload_n 2, 1) := by decide +kernel
theorem dJx4a65c_add_72be8_12 : decode cJx4a65c_add_72be8 12 = .ok (.iload_n 3, 1) := by decide +kernel
theorem dJx4a65c_add_72be8_13 : decode cJx4a65c_add_72be8 13 = .ok (.aload_n 1, 1) := by decide +kernel
theorem dJx4a65c_add_72be8_14 : decode cJx4a65c_add_72be8 14 = .ok (.aastore, 1) := by decide +kernel
theorem dJx4a65c_add_72be8_15 : decode cJx4a65c_add_72be8 15 = .ok (.aload_n 0, 1) := by decide +kernel
theorem dJx4a65c_add_72be8_16 : decode cJx4a65c_add_72be8 16 = .ok (.iload_n 3, 1) := by decide +kernel
theorem dJx4a65c_add_72be8_17 : decode cJx4a65c_add_72be8 17 = .ok (.iconst 1, 1) := by decide +kernel
theorem dJx4a65c_add_72be8_18 : decode cJx4a65c_add_72be8 18 = .ok (.iadd, 1) := by decide +kernel
theorem dJx4a65c_add_72be8_19 : decode cJx4a65c_add_72be8 19 = .ok (.putfield 48, 3) := by decide +kernel
theorem dJx4a65c_add_72be8_22 : decode cJx4a65c_add_72be8 22 = .ok (.return_, 1) := by decide +kernel
theorem dJx4a65c_add_9ea2d_0 : decode cJx4a65c_add_9ea2d 0 = .ok (.aload_n 0, 1) := by decide +kernel
theorem dJx4a65c_add_9ea2d_1 : decode cJx4a65c_add_9ea2d 1 = .ok (.dup, 1) := by decide +kernel
theorem dJx4a65c_add_9ea2d_2 : decode cJx4a65c_add_9ea2d 2 = .ok (.getfield 63, 3) := by decide +kernel
theorem dJx4a65c_add_9ea2d_5 : decode cJx4a65c_add_9ea2d 5 = .ok (.iconst 1, 1) := by decide +kernel
theorem dJx4a65c_add_9ea2d_6 : decode cJx4a65c_add_9ea2d 6 = .ok (.iadd, 1) := by decide +kernel
theorem dJx4a65c_add_9ea2d_7 : decode cJx4a65c_add_9ea2d 7 = .ok (.putfield 63, 3) := by decide +kernel
theorem dJx4a65c_add_9ea2d_10 : decode cJx4a65c_add_9ea2d 10 = .ok (.aload_n 0, 1) := by decide +kernel
theorem dJx4a65c_add_9ea2d_11 : decode cJx4a65c_add_9ea2d 11 = .ok (.aload_n 1, 1) := by decide +kernel
theorem dJx4a65c_add_9ea2d_12 : decode cJx4a65c_add_9ea2d 12 = .ok (.aload_n 0, 1) := by decide +kernel
theorem dJx4a65c_add_9ea2d_13 : decode cJx4a65c_add_9ea2d 13 = .ok (.getfield 9, 3) := by decide +kernel
theorem dJx4a65c_add_9ea2d_16 : decode cJx4a65c_add_9ea2d 16 = .ok (.aload_n 0, 1) := by decide +kernel
theorem dJx4a65c_add_9ea2d_17 : decode cJx4a65c_add_9ea2d 17 = .ok (.getfield 48, 3) := by decide +kernel
theorem dJx4a65c_add_9ea2d_20 : decode cJx4a65c_add_9ea2d 20 = .ok (.invokevirtual 131, 3) := by decide +kernel
theorem dJx4a65c_add_9ea2d_23 : decode cJx4a65c_add_9ea2d 23 = .ok (.iconst 1, 1) := by decide +kernel
theorem dJx4a65c_add_9ea2d_24 : decode cJx4a65c_add_9ea2d 24 = .ok (.ireturn, 1) := by decide +kernel
theorem dJx4a65c_clear_da8c8_0 : decode cJx4a65c_clear_da8c8 0 = .ok (.aload_n 0, 1) := by decide +kernel
theorem dJx4a65c_clear_da8c8_1 : decode cJx4a65c_clear_da8c8 1 = .ok (.dup, 1) := by decide +kernel
theorem dJx4a65c_clear_da8c8_2 : decode cJx4a65c_clear_da8c8 2 = .ok (.getfield 63, 3) := by decide +kernel
theorem dJx4a65c_clear_da8c8_5 : decode cJx4a65c_clear_da8c8 5 = .ok (.iconst 1, 1) := by decide +kernel
theorem dJx4a65c_clear_da8c8_6 : decode cJx4a65c_clear_da8c8 6 = .ok (.iadd, 1) := by decide +kernel
theorem dJx4a65c_clear_da8c8_7 : decode cJx4a65c_clear_da8c8 7 = .ok (.putfield 63, 3) := by decide +kernel
theorem dJx4a65c_clear_da8c8_10 : decode cJx4a65c_clear_da8c8 10 = .ok (.aload_n 0, 1) := by decide +kernel
theorem dJx4a65c_clear_da8c8_11 : decode cJx4a65c_clear_da8c8 11 = .ok (.getfield 9, 3) := by decide +kernel
theorem dJx4a65c_clear_da8c8_14 : decode cJx4a65c_clear_da8c8 14 = .ok (.astore_n 1, 1) := by decide +kernel
theorem dJx4a65c_clear_da8c8_15 : decode cJx4a65c_clear_da8c8 15 = .ok (.aload_n 0, 1) := by decide +kernel
theorem dJx4a65c_clear_da8c8_16 : decode cJx4a65c_clear_da8c8 16 = .ok (.getfield 48, 3) := by decide +kernel
theorem dJx4a65c_clear_da8c8_19 : decode cJx4a65c_clear_da8c8 19 = .ok (.istore_n 2, 1) := by decide +kernel
theorem dJx4a65c_clear_da8c8_20 : decode cJx4a65c_clear_da8c8 20 = .ok (.aload_n 0, 1) := by decide +kernel
theorem dJx4a65c_clear_da8c8_21 : decode cJx4a65c_clear_da8c8 21 = .ok (.iconst 0, 1) := by decide +kernel
theorem dJx4a65c_clear_da8c8_22 : decode cJx4a65c_clear_da8c8 22 = .ok (.dup_x1, 1) := by decide +kernel
theorem dJx4a65c_clear_da8c8_23 : decode cJx4a65c_clear_da8c8 23 = .ok (.putfield 48, 3) := by decide +kernel
theorem dJx4a65c_clear_da8c8_26 : decode cJx4a65c_clear_da8c8 26 = .ok (.istore_n 3, 1) := by decide +kernel
theorem dJx4a65c_clear_da8c8_27 : decode cJx4a65c_clear_da8c8 27 = .ok (.iload_n 3, 1) := by decide +kernel
theorem dJx4a65c_clear_da8c8_28 : decode cJx4a65c_clear_da8c8 28 = .ok (.iload_n 2, 1) := by decide +kernel
theorem dJx4a65c_clear_da8c8_29 : decode cJx4a65c_clear_da8c8 29 = .ok (.if_icmp .ge 13, 3) := by decide +kernel
theorem dJx4a65c_clear_da8c8_32 : decode cJx4a65c_clear_da8c8 32 = .ok (.aload_n 1, 1) := by decide +kernel
theorem dJx4a65c_clear_da8c8_33 : decode cJx4a65c_clear_da8c8 33 = .ok (.iload_n 3, 1) := by decide +kernel
theorem dJx4a65c_clear_da8c8_34 : decode cJx4a65c_clear_da8c8 34 = .ok (.aconst_null, 1) := by decide +kernel
theorem dJx4a65c_clear_da8c8_35 : decode cJx4a65c_clear_da8c8 35 = .ok (.aastore, 1) := by decide +kernel
theorem dJx4a65c_clear_da8c8_36 : decode cJx4a65c_clear_da8c8 36 = .ok (.iinc 3 1, 3) := by decide +kernel
theorem dJx4a65c_clear_da8c8_39 : decode cJx4a65c_clear_da8c8 39 = .ok (.goto (-12), 3) := by decide +kernel
theorem dJx4a65c_clear_da8c8_42 : decode cJx4a65c_clear_da8c8 42 = .ok (.return_, 1) := by decide +kernel
theorem dJ7_fill_53178_0 : decode cJ7_fill_53178 0 = .ok (.iconst 0, 1) := by decide +kernel
theorem dJ7_fill_53178_1 : decode cJ7_fill_53178 1 = .ok (.istore_n 2, 1) := by decide +kernel
theorem dJ7_fill_53178_2 : decode cJ7_fill_53178 2 = .ok (.aload_n 0, 1) := by decide +kernel
theorem dJ7_fill_53178_3 : decode cJ7_fill_53178 3 = .ok (.arraylength, 1) := by decide +kernel
theorem dJ7_fill_53178_4 : decode cJ7_fill_53178 4 = .ok (.istore_n 3, 1) := by decide +kernel
theorem dJ7_fill_53178_5 : decode cJ7_fill_53178 5 = .ok (.iload_n 2, 1) := by decide +kernel
theorem dJ7_fill_53178_6 : decode cJ7_fill_53178 6 = .ok (.iload_n 3, 1) := by decide +kernel
theorem dJ7_fill_53178_7 : decode cJ7_fill_53178 7 = .ok (.if_icmp .ge 13, 3) := by decide +kernel
theorem dJ7_fill_53178_10 : decode cJ7_fill_53178 10 = .ok (.aload_n 0, 1) := by decide +kernel
theorem dJ7_fill_53178_11 : decode cJ7_fill_53178 11 = .ok (.iload_n 2, 1) := by decide +kernel
theorem dJ7_fill_53178_12 : decode cJ7_fill_53178 12 = .ok (.iload_n 1, 1) := by decide +kernel
theorem dJ7_fill_53178_13 : decode cJ7_fill_53178 13 = .ok (.iastore, 1) := by decide +kernel
theorem dJ7_fill_53178_14 : decode cJ7_fill_53178 14 = .ok (.iinc 2 1, 3) := by decide +kernel
theorem dJ7_fill_53178_17 : decode cJ7_fill_53178 17 = .ok (.goto (-12), 3) := by decide +kernel
theorem dJ7_fill_53178_20 : decode cJ7_fill_53178 20 = .ok (.return_, 1) := by decide +kernel
theorem dJ7_copyOf_1904c_0 : decode cJ7_copyOf_1904c 0 = .ok (.aload_n 0, 1) := by decide +kernel
theorem dJ7_copyOf_1904c_1 : decode cJ7_copyOf_1904c 1 = .ok (.iload_n 1, 1) := by decide +kernel
theorem dJ7_copyOf_1904c_2 : decode cJ7_copyOf_1904c 2 = .ok (.aload_n 0, 1) := by decide +kernel
theorem dJ7_copyOf_1904c_3 : decode cJ7_copyOf_1904c 3 = .ok (.invokevirtual 86, 3) := by decide +kernel
theorem dJ7_copyOf_1904c_6 : decode cJ7_copyOf_1904c 6 = .ok (.invokestatic 300, 3) := by decide +kernel
theorem dJ7_copyOf_1904c_9 : decode cJ7_copyOf_1904c 9 = .ok (.areturn, 1) := by decide +kernel
theorem dJ7_copyOf_6403c_0 : decode cJ7_copyOf_6403c 0 = .ok (.aload_n 2, 1) := by decide +kernel
theorem dJ7_copyOf_6403c_1 : decode cJ7_copyOf_6403c 1 = .ok (.ldc 110, 2) := by decide +kernel
theorem dJ7_copyOf_6403c_3 : decode cJ7_copyOf_6403c 3 = .ok (.if_acmp .ne 10, 3) := by decide +kernel
theorem dJ7_copyOf_6403c_6 : decode cJ7_copyOf_6403c 6 = .ok (.iload_n 1, 1) := by decide +kernel
theorem dJ7_copyOf_6403c_7 : decode cJ7_copyOf_6403c 7 = .ok (.anewarray 2, 3) := by decide +kernel
theorem dJ7_copyOf_6403c_10 : decode cJ7_copyOf_6403c 10 = .ok (.goto 14, 3) := by decide +kernel
theorem dJ7_copyOf_6403c_13 : decode cJ7_copyOf_6403c 13 = .ok (.aload_n 2, 1) := by decide +kernel
theorem dJ7_copyOf_6403c_14 : decode cJ7_copyOf_6403c 14 = .ok (.invokevirtual 90, 3) := by decide +kernel
theorem dJ7_copyOf_6403c_17 : decode cJ7_copyOf_6403c 17 = .ok (.iload_n 1, 1) := by decide +kernel
theorem dJ7_copyOf_6403c_18 : decode cJ7_copyOf_6403c 18 = .ok (.invokestatic 95, 3) := by decide +kernel
theorem dJ7_copyOf_6403c_21 : decode cJ7_copyOf_6403c 21 = .ok (.checkcast 110, 3) := by decide +kernel
theorem dJ7_copyOf_6403c_24 : decode cJ7_copyOf_6403c 24 = .ok (.astore_n 3, 1) := by decide +kernel
theorem dJ7_copyOf_6403c_25 : decode cJ7_copyOf_6403c 25 = .ok (.aload_n 0, 1) := by decide +kernel
theorem dJ7_copyOf_6403c_26 : decode cJ7_copyOf_6403c 26 = .ok (.iconst 0, 1) := by decide +kernel
theorem dJ7_copyOf_6403c_27 : decode cJ7_copyOf_6403c 27 = .ok (.aload_n 3, 1) := by decide +kernel
theorem dJ7_copyOf_6403c_28 : decode cJ7_copyOf_6403c 28 = .ok (.iconst 0, 1) := by decide +kernel
theorem dJ7_copyOf_6403c_29 : decode cJ7_copyOf_6403c 29 = .ok (.aload_n 0, 1) := by decide +kernel
theorem dJ7_copyOf_6403c_30 : decode cJ7_copyOf_6403c 30 = .ok (.arraylength, 1) := by decide +kernel
theorem dJ7_copyOf_6403c_31 : decode cJ7_copyOf_6403c 31 = .ok (.iload_n 1, 1) := by decide +kernel
theorem dJ7_copyOf_6403c_32 : decode cJ7_copyOf_6403c 32 = .ok (.invokestatic 304, 3) := by decide +kernel
theorem dJ7_copyOf_6403c_35 : decode cJ7_copyOf_6403c 35 = .ok (.invokestatic 150, 3) := by decide +kernel
theorem dJ7_copyOf_6403c_38 : decode cJ7_copyOf_6403c 38 = .ok (.aload_n 3, 1) := by decide +kernel
theorem dJ7_copyOf_6403c_39 : decode cJ7_copyOf_6403c 39 = .ok (.areturn, 1) := by decide +kernel
theorem dJ15_checkIndex_7cf53_0 : decode cJ15_checkIndex_7cf53 0 = .ok (.iload_n 0, 1) := by decide +kernel
theorem dJ15_checkIndex_7cf53_1 : decode cJ15_checkIndex_7cf53 1 = .ok (.iload_n 1, 1) := by decide +kernel
theorem dJ15_checkIndex_7cf53_2 : decode cJ15_checkIndex_7cf53 2 = .ok (.aconst_null, 1) := by decide +kernel
theorem dJ15_checkIndex_7cf53_3 : decode cJ15_checkIndex_7cf53 3 = .ok (.invokestatic 105, 3) := by decide +kernel
theorem dJ15_checkIndex_7cf53_6 : decode cJ15_checkIndex_7cf53 6 = .ok (.ireturn, 1) := by decide +kernel
theorem dJ8_newLength_cabcc_0 : decode cJ8_newLength_cabcc 0 = .ok (.iload_n 0, 1) := by decide +kernel
theorem dJ8_newLength_cabcc_1 : decode cJ8_newLength_cabcc 1 = .ok (.iload_n 1, 1) := by decide +kernel
theorem dJ8_newLength_cabcc_2 : decode cJ8_newLength_cabcc 2 = .ok (.iload_n 2, 1) := by decide +kernel
theorem dJ8_newLength_cabcc_3 : decode cJ8_newLength_cabcc 3 = .ok (.invokestatic 194, 3) := by decide +kernel
theorem dJ8_newLength_cabcc_6 : decode cJ8_newLength_cabcc 6 = .ok (.iadd, 1) := by decide +kernel
theorem dJ8_newLength_cabcc_7 : decode cJ8_newLength_cabcc 7 = .ok (.istore_n 3, 1) := by decide +kernel
theorem dJ8_newLength_cabcc_8 : decode cJ8_newLength_cabcc 8 = .ok (.iconst 0, 1) := by decide +kernel
theorem dJ8_newLength_cabcc_9 : decode cJ8_newLength_cabcc 9 = .ok (.iload_n 3, 1) := by decide +kernel
theorem dJ8_newLength_cabcc_10 : decode cJ8_newLength_cabcc 10 = .ok (.if_icmp .ge 11, 3) := by decide +kernel
theorem dJ8_newLength_cabcc_13 : decode cJ8_newLength_cabcc 13 = .ok (.iload_n 3, 1) := by decide +kernel
theorem dJ8_newLength_cabcc_14 : decode cJ8_newLength_cabcc 14 = .ok (.ldc 200, 2) := by decide +kernel
theorem dJ8_newLength_cabcc_16 : decode cJ8_newLength_cabcc 16 = .ok (.if_icmp .gt 5, 3) := by decide +kernel
theorem dJ8_newLength_cabcc_19 : decode cJ8_newLength_cabcc 19 = .ok (.iload_n 3, 1) := by decide +kernel
theorem dJ8_newLength_cabcc_20 : decode cJ8_newLength_cabcc 20 = .ok (.ireturn, 1) := by decide +kernel
theorem dJ8_newLength_cabcc_21 : decode cJ8_newLength_cabcc 21 = .ok (.iload_n 0, 1) := by decide +kernel
theorem dJ8_newLength_cabcc_22 : decode cJ8_newLength_cabcc 22 = .ok (.iload_n 1, 1) := by decide +kernel
theorem dJ8_newLength_cabcc_23 : decode cJ8_newLength_cabcc 23 = .ok (.invokestatic 201, 3) := by decide +kernel
theorem dJ8_newLength_cabcc_26 : decode cJ8_newLength_cabcc 26 = .ok (.ireturn, 1) := by decide +kernel
theorem dJ8_hugeLength_7cf53_0 : decode cJ8_hugeLength_7cf53 0 = .ok (.iload_n 0, 1) := by decide +kernel
theorem dJ8_hugeLength_7cf53_1 : decode cJ8_hugeLength_7cf53 1 = .ok (.iload_n 1, 1) := by decide +kernel
theorem dJ8_hugeLength_7cf53_2 : decode cJ8_hugeLength_7cf53 2 = .ok (.iadd, 1) := by decide +kernel
theorem dJ8_hugeLength_7cf53_3 : decode cJ8_hugeLength_7cf53 3 = .ok (.istore_n 2, 1) := by decide +kernel
theorem dJ8_hugeLength_7cf53_4 : decode cJ8_hugeLength_7cf53 4 = .ok (.iload_n 2, 1) := by decide +kernel
theorem dJ8_hugeLength_7cf53_5 : decode cJ8_hugeLength_7cf53 5 = .ok (.ifCond .ge 44, 3) := by decide +kernel
theorem dJ8_hugeLength_7cf53_8 : decode cJ8_hugeLength_7cf53 8 = .ok (.new 204, 3) := by decide +kernel
theorem dJ8_hugeLength_7cf53_11 : decode cJ8_hugeLength_7cf53 11 = .ok (.dup, 1) := by decide +kernel
theorem dJ8_hugeLength_7cf53_12 : decode cJ8_hugeLength_7cf53 12 = .ok (.new 89, 3) := by decide +kernel
theorem dJ8_hugeLength_7cf53_15 : decode cJ8_hugeLength_7cf53 15 = .ok (.dup, 1) := by decide +kernel
theorem dJ8_hugeLength_7cf53_16 : decode cJ8_hugeLength_7cf53 16 = .ok (.invokespecial 91, 3) := by decide +kernel
theorem dJ8_hugeLength_7cf53_19 : decode cJ8_hugeLength_7cf53 19 = .ok (.ldc 206, 2) := by decide +kernel
theorem dJ8_hugeLength_7cf53_21 : decode cJ8_hugeLength_7cf53 21 = .ok (.invokevirtual 94, 3) := by decide +kernel
theorem dJ8_hugeLength_7cf53_24 : decode cJ8_hugeLength_7cf53 24 = .ok (.iload_n 0, 1) := by decide +kernel
theorem dJ8_hugeLength_7cf53_25 : decode cJ8_hugeLength_7cf53 25 = .ok (.invokevirtual 98, 3) := by decide +kernel
theorem dJ8_hugeLength_7cf53_28 : decode cJ8_hugeLength_7cf53 28 = .ok (.ldc 208, 2) := by decide +kernel
theorem dJ8_hugeLength_7cf53_30 : decode cJ8_hugeLength_7cf53 30 = .ok (.invokevirtual 94, 3) := by decide +kernel
theorem dJ8_hugeLength_7cf53_33 : decode cJ8_hugeLength_7cf53 33 = .ok (.iload_n 1, 1) := by decide +kernel
theorem dJ8_hugeLength_7cf53_34 : decode cJ8_hugeLength_7cf53 34 = .ok (.invokevirtual 98, 3) := by decide +kernel
theorem dJ8_hugeLength_7cf53_37 : decode cJ8_hugeLength_7cf53 37 = .ok (.ldc 210, 2) := by decide +kernel
theorem dJ8_hugeLength_7cf53_39 : decode cJ8_hugeLength_7cf53 39 = .ok (.invokevirtual 94, 3) := by decide +kernel
theorem dJ8_hugeLength_7cf53_42 : decode cJ8_hugeLength_7cf53 42 = .ok (.invokevirtual 101, 3) := by decide +kernel
theorem dJ8_hugeLength_7cf53_45 : decode cJ8_hugeLength_7cf53 45 = .ok (.invokespecial 212, 3) := by decide +kernel
theorem dJ8_hugeLength_7cf53_48 : decode cJ8_hugeLength_7cf53 48 = .ok (.athrow, 1) := by decide +kernel
theorem dJ8_hugeLength_7cf53_49 : decode cJ8_hugeLength_7cf53 49 = .ok (.iload_n 2, 1) := by decide +kernel
theorem dJ8_hugeLength_7cf53_50 : decode cJ8_hugeLength_7cf53 50 = .ok (.ldc 200, 2) := by decide +kernel
theorem dJ8_hugeLength_7cf53_52 : decode cJ8_hugeLength_7cf53 52 = .ok (.if_icmp .gt 6, 3) := by decide +kernel
theorem dJ8_hugeLength_7cf53_55 : decode cJ8_hugeLength_7cf53 55 = .ok (.ldc 200, 2) := by decide +kernel
theorem dJ8_hugeLength_7cf53_57 : decode cJ8_hugeLength_7cf53 57 = .ok (.ireturn, 1) := by decide +kernel
theorem dJ8_hugeLength_7cf53_58 : decode cJ8_hugeLength_7cf53 58 = .ok (.iload_n 2, 1) := by decide +kernel
theorem dJ8_hugeLength_7cf53_59 : decode cJ8_hugeLength_7cf53 59 = .ok (.ireturn, 1) := by decide +kernel
theorem dJ3_checkIndex_8e157_0 : decode cJ3_checkIndex_8e157 0 = .ok (.iload_n 0, 1) := by decide +kernel
theorem dJ3_checkIndex_8e157_1 : decode cJ3_checkIndex_8e157 1 = .ok (.ifCond .lt 8, 3) := by decide +kernel
theorem dJ3_checkIndex_8e157_4 : decode cJ3_checkIndex_8e157 4 = .ok (.iload_n 0, 1) := by decide +kernel
theorem dJ3_checkIndex_8e157_5 : decode cJ3_checkIndex_8e157 5 = .ok (.iload_n 1, 1) := by decide +kernel
theorem dJ3_checkIndex_8e157_6 : decode cJ3_checkIndex_8e157 6 = .ok (.if_icmp .lt 10, 3) := by decide +kernel
theorem dJ3_checkIndex_8e157_9 : decode cJ3_checkIndex_8e157 9 = .ok (.aload_n 2, 1) := by decide +kernel
theorem dJ3_checkIndex_8e157_10 : decode cJ3_checkIndex_8e157 10 = .ok (.iload_n 0, 1) := by decide +kernel
theorem dJ3_checkIndex_8e157_11 : decode cJ3_checkIndex_8e157 11 = .ok (.iload_n 1, 1) := by decide +kernel
theorem dJ3_checkIndex_8e157_12 : decode cJ3_checkIndex_8e157 12 = .ok (.invokestatic 95, 3) := by decide +kernel
theorem dJ3_checkIndex_8e157_15 : decode cJ3_checkIndex_8e157 15 = .ok (.athrow, 1) := by decide +kernel
theorem dJ3_checkIndex_8e157_16 : decode cJ3_checkIndex_8e157 16 = .ok (.iload_n 0, 1) := by decide +kernel
theorem dJ3_checkIndex_8e157_17 : decode cJ3_checkIndex_8e157 17 = .ok (.ireturn, 1) := by decide +kernel
