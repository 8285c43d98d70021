theorem dX11_init_0 : decode cX11_init 0 = .ok (.aload_n 0, 1) := by decide +kernel
theorem dX11_init_1 : decode cX11_init 1 = .ok (.invokespecial 1, 3) := by decide +kernel
theorem dX11_init_4 : decode cX11_init 4 = .ok (.aload_n 0, 1) := by decide +kernel
theorem dX11_init_5 : decode cX11_init 5 = .ok (.iconst 4, 1) := by decide +kernel
theorem dX11_init_6 : decode cX11_init 6 = .ok (.putfield 7, 3) := by decide +kernel
theorem dX11_init_9 : decode cX11_init 9 = .ok (.aload_n 0, 1) := by decide +kernel
theorem dX11_init_10 : decode cX11_init 10 = .ok (.iconst 4, 1) := by decide +kernel
theorem dX11_init_11 : decode cX11_init 11 = .ok (.putfield 13, 3) := by decide +kernel
theorem dX11_init_14 : decode cX11_init 14 = .ok (.aload_n 0, 1) := by decide +kernel
theorem dX11_init_15 : decode cX11_init 15 = .ok (.iconst 4, 1) := by decide +kernel
theorem dX11_init_16 : decode cX11_init 16 = .ok (.newarray .int, 2) := by decide +kernel
theorem dX11_init_18 : decode cX11_init 18 = .ok (.putfield 16, 3) := by decide +kernel
theorem dX11_init_21 : decode cX11_init 21 = .ok (.aload_n 0, 1) := by decide +kernel
theorem dX11_init_22 : decode cX11_init 22 = .ok (.iconst 4, 1) := by decide +kernel
theorem dX11_init_23 : decode cX11_init 23 = .ok (.newarray .int, 2) := by decide +kernel
theorem dX11_init_25 : decode cX11_init 25 = .ok (.putfield 20, 3) := by decide +kernel
theorem dX11_init_28 : decode cX11_init 28 = .ok (.aload_n 0, 1) := by decide +kernel
theorem dX11_init_29 : decode cX11_init 29 = .ok (.bipush 16, 2) := by decide +kernel
theorem dX11_init_31 : decode cX11_init 31 = .ok (.newarray .int, 2) := by decide +kernel
theorem dX11_init_33 : decode cX11_init 33 = .ok (.putfield 23, 3) := by decide +kernel
theorem dX11_init_36 : decode cX11_init 36 = .ok (.aload_n 0, 1) := by decide +kernel
theorem dX11_init_37 : decode cX11_init 37 = .ok (.bipush 16, 2) := by decide +kernel
theorem dX11_init_39 : decode cX11_init 39 = .ok (.newarray .int, 2) := by decide +kernel
theorem dX11_init_41 : decode cX11_init 41 = .ok (.putfield 26, 3) := by decide +kernel
theorem dX11_init_44 : decode cX11_init 44 = .ok (.aload_n 0, 1) := by decide +kernel
theorem dX11_init_45 : decode cX11_init 45 = .ok (.bipush 16, 2) := by decide +kernel
theorem dX11_init_47 : decode cX11_init 47 = .ok (.newarray .int, 2) := by decide +kernel
theorem dX11_init_49 : decode cX11_init 49 = .ok (.putfield 29, 3) := by decide +kernel
theorem dX11_init_52 : decode cX11_init 52 = .ok (.aload_n 0, 1) := by decide +kernel
theorem dX11_init_53 : decode cX11_init 53 = .ok (.bipush 16, 2) := by decide +kernel
theorem dX11_init_55 : decode cX11_init 55 = .ok (.newarray .int, 2) := by decide +kernel
theorem dX11_init_57 : decode cX11_init 57 = .ok (.putfield 32, 3) := by decide +kernel
theorem dX11_init_60 : decode cX11_init 60 = .ok (.aload_n 0, 1) := by decide +kernel
theorem dX11_init_61 : decode cX11_init 61 = .ok (.iconst 4, 1) := by decide +kernel
theorem dX11_init_62 : decode cX11_init 62 = .ok (.newarray .boolean, 2) := by decide +kernel
theorem dX11_init_64 : decode cX11_init 64 = .ok (.putfield 35, 3) := by decide +kernel
theorem dX11_init_67 : decode cX11_init 67 = .ok (.aload_n 0, 1) := by decide +kernel
theorem dX11_init_68 : decode cX11_init 68 = .ok (.iconst 4, 1) := by decide +kernel
theorem dX11_init_69 : decode cX11_init 69 = .ok (.newarray .int, 2) := by decide +kernel
theorem dX11_init_71 : decode cX11_init 71 = .ok (.putfield 39, 3) := by decide +kernel
theorem dX11_init_74 : decode cX11_init 74 = .ok (.aload_n 0, 1) := by decide +kernel
theorem dX11_init_75 : decode cX11_init 75 = .ok (.iconst 1, 1) := by decide +kernel
theorem dX11_init_76 : decode cX11_init 76 = .ok (.putfield 42, 3) := by decide +kernel
theorem dX11_init_79 : decode cX11_init 79 = .ok (.aload_n 0, 1) := by decide +kernel
theorem dX11_init_80 : decode cX11_init 80 = .ok (.iconst 4, 1) := by decide +kernel
theorem dX11_init_81 : decode cX11_init 81 = .ok (.newarray .int, 2) := by decide +kernel
theorem dX11_init_83 : decode cX11_init 83 = .ok (.putfield 45, 3) := by decide +kernel
theorem dX11_init_86 : decode cX11_init 86 = .ok (.aload_n 0, 1) := by decide +kernel
theorem dX11_init_87 : decode cX11_init 87 = .ok (.iconst 4, 1) := by decide +kernel
theorem dX11_init_88 : decode cX11_init 88 = .ok (.newarray .int, 2) := by decide +kernel
theorem dX11_init_90 : decode cX11_init 90 = .ok (.putfield 48, 3) := by decide +kernel
theorem dX11_init_93 : decode cX11_init 93 = .ok (.aload_n 0, 1) := by decide +kernel
theorem dX11_init_94 : decode cX11_init 94 = .ok (.iconst 4, 1) := by decide +kernel
theorem dX11_init_95 : decode cX11_init 95 = .ok (.newarray .int, 2) := by decide +kernel
theorem dX11_init_97 : decode cX11_init 97 = .ok (.putfield 51, 3) := by decide +kernel
theorem dX11_init_100 : decode cX11_init 100 = .ok (.aload_n 0, 1) := by decide +kernel
theorem dX11_init_101 : decode cX11_init 101 = .ok (.sipush 161, 3) := by decide +kernel
theorem dX11_init_104 : decode cX11_init 104 = .ok (.newarray .int, 2) := by decide +kernel
theorem dX11_init_106 : decode cX11_init 106 = .ok (.putfield 54, 3) := by decide +kernel
theorem dX11_init_109 : decode cX11_init 109 = .ok (.aload_n 0, 1) := by decide +kernel
theorem dX11_init_110 : decode cX11_init 110 = .ok (.sipush 256, 3) := by decide +kernel
theorem dX11_init_113 : decode cX11_init 113 = .ok (.newarray .int, 2) := by decide +kernel
theorem dX11_init_115 : decode cX11_init 115 = .ok (.putfield 57, 3) := by decide +kernel
theorem dX11_init_118 : decode cX11_init 118 = .ok (.aload_n 0, 1) := by decide +kernel
theorem dX11_init_119 : decode cX11_init 119 = .ok (.sipush 256, 3) := by decide +kernel
theorem dX11_init_122 : decode cX11_init 122 = .ok (.newarray .int, 2) := by decide +kernel
theorem dX11_init_124 : decode cX11_init 124 = .ok (.putfield 60, 3) := by decide +kernel
theorem dX11_init_127 : decode cX11_init 127 = .ok (.aload_n 0, 1) := by decide +kernel
theorem dX11_init_128 : decode cX11_init 128 = .ok (.sipush 256, 3) := by decide +kernel
theorem dX11_init_131 : decode cX11_init 131 = .ok (.newarray .int, 2) := by decide +kernel
theorem dX11_init_133 : decode cX11_init 133 = .ok (.putfield 63, 3) := by decide +kernel
theorem dX11_init_136 : decode cX11_init 136 = .ok (.aload_n 0, 1) := by decide +kernel
theorem dX11_init_137 : decode cX11_init 137 = .ok (.sipush 256, 3) := by decide +kernel
theorem dX11_init_140 : decode cX11_init 140 = .ok (.newarray .int, 2) := by decide +kernel
theorem dX11_init_142 : decode cX11_init 142 = .ok (.putfield 66, 3) := by decide +kernel
theorem dX11_init_145 : decode cX11_init 145 = .ok (.aload_n 0, 1) := by decide +kernel
theorem dX11_init_146 : decode cX11_init 146 = .ok (.sipush 2816, 3) := by decide +kernel
theorem dX11_init_149 : decode cX11_init 149 = .ok (.newarray .int, 2) := by decide +kernel
theorem dX11_init_151 : decode cX11_init 151 = .ok (.putfield 69, 3) := by decide +kernel
theorem dX11_init_154 : decode cX11_init 154 = .ok (.aload_n 0, 1) := by decide +kernel
theorem dX11_init_155 : decode cX11_init 155 = .ok (.sipush 256, 3) := by decide +kernel
theorem dX11_init_158 : decode cX11_init 158 = .ok (.newarray .int, 2) := by decide +kernel
theorem dX11_init_160 : decode cX11_init 160 = .ok (.putfield 72, 3) := by decide +kernel
theorem dX11_init_163 : decode cX11_init 163 = .ok (.aload_n 0, 1) := by decide +kernel
theorem dX11_init_164 : decode cX11_init 164 = .ok (.sipush 258, 3) := by decide +kernel
theorem dX11_init_167 : decode cX11_init 167 = .ok (.newarray .int, 2) := by decide +kernel
theorem dX11_init_169 : decode cX11_init 169 = .ok (.putfield 75, 3) := by decide +kernel
theorem dX11_init_172 : decode cX11_init 172 = .ok (.aload_n 0, 1) := by decide +kernel
theorem dX11_init_173 : decode cX11_init 173 = .ok (.sipush 225, 3) := by decide +kernel
theorem dX11_init_176 : decode cX11_init 176 = .ok (.newarray .boolean, 2) := by decide +kernel
theorem dX11_init_178 : decode cX11_init 178 = .ok (.putfield 78, 3) := by decide +kernel
theorem dX11_init_181 : decode cX11_init 181 = .ok (.aload_n 0, 1) := by decide +kernel
theorem dX11_init_182 : decode cX11_init 182 = .ok (.bipush 64, 2) := by decide +kernel
theorem dX11_init_184 : decode cX11_init 184 = .ok (.newarray .boolean, 2) := by decide +kernel
theorem dX11_init_186 : decode cX11_init 186 = .ok (.putfield 81, 3) := by decide +kernel
theorem dX11_init_189 : decode cX11_init 189 = .ok (.return_, 1) := by decide +kernel
theorem dX11_thrown_0 : decode cX11_thrown 0 = .ok (.aload_n 0, 1) := by decide +kernel
theorem dX11_thrown_1 : decode cX11_thrown 1 = .ok (.getfield 84, 3) := by decide +kernel
theorem dX11_thrown_4 : decode cX11_thrown 4 = .ok (.ireturn, 1) := by decide +kernel
theorem dX11_fails_0 : decode cX11_fails 0 = .ok (.aload_n 0, 1) := by decide +kernel
theorem dX11_fails_1 : decode cX11_fails 1 = .ok (.iload_n 1, 1) := by decide +kernel
theorem dX11_fails_2 : decode cX11_fails 2 = .ok (.putfield 84, 3) := by decide +kernel
theorem dX11_fails_5 : decode cX11_fails 5 = .ok (.iload_n 1, 1) := by decide +kernel
theorem dX11_fails_6 : decode cX11_fails 6 = .ok (.ifCond .le 7, 3) := by decide +kernel
theorem dX11_fails_9 : decode cX11_fails 9 = .ok (.iconst 1, 1) := by decide +kernel
theorem dX11_fails_10 : decode cX11_fails 10 = .ok (.goto 4, 3) := by decide +kernel
theorem dX11_fails_13 : decode cX11_fails 13 = .ok (.iconst 0, 1) := by decide +kernel
theorem dX11_fails_14 : decode cX11_fails 14 = .ok (.ireturn, 1) := by decide +kernel
theorem dX11_isIn_0 : decode cX11_isIn 0 = .ok (.iload_n 0, 1) := by decide +kernel
theorem dX11_isIn_1 : decode cX11_isIn 1 = .ok (.iload_n 1, 1) := by decide +kernel
theorem dX11_isIn_2 : decode cX11_isIn 2 = .ok (.if_icmp .lt 12, 3) := by decide +kernel
theorem dX11_isIn_5 : decode cX11_isIn 5 = .ok (.iload_n 0, 1) := by decide +kernel
theorem dX11_isIn_6 : decode cX11_isIn 6 = .ok (.iload_n 2, 1) := by decide +kernel
theorem dX11_isIn_7 : decode cX11_isIn 7 = .ok (.if_icmp .gt 7, 3) := by decide +kernel
theorem dX11_isIn_10 : decode cX11_isIn 10 = .ok (.iconst 1, 1) := by decide +kernel
theorem dX11_isIn_11 : decode cX11_isIn 11 = .ok (.goto 4, 3) := by decide +kernel
theorem dX11_isIn_14 : decode cX11_isIn 14 = .ok (.iconst 0, 1) := by decide +kernel
theorem dX11_isIn_15 : decode cX11_isIn 15 = .ok (.ireturn, 1) := by decide +kernel
theorem dX11_is_0 : decode cX11_is 0 = .ok (.iload_n 1, 1) := by decide +kernel
theorem dX11_is_1 : decode cX11_is 1 = .ok (.iconst 0, 1) := by decide +kernel
theorem dX11_is_2 : decode cX11_is 2 = .ok (.aload_n 0, 1) := by decide +kernel
theorem dX11_is_3 : decode cX11_is 3 = .ok (.getfield 87, 3) := by decide +kernel
theorem dX11_is_6 : decode cX11_is 6 = .ok (.iconst 1, 1) := by decide +kernel
theorem dX11_is_7 : decode cX11_is 7 = .ok (.isub, 1) := by decide +kernel
theorem dX11_is_8 : decode cX11_is 8 = .ok (.invokestatic 90, 3) := by decide +kernel
theorem dX11_is_11 : decode cX11_is 11 = .ok (.ireturn, 1) := by decide +kernel
theorem dX11_isCell_0 : decode cX11_isCell 0 = .ok (.aload_n 0, 1) := by decide +kernel
theorem dX11_isCell_1 : decode cX11_isCell 1 = .ok (.iload_n 1, 1) := by decide +kernel
theorem dX11_isCell_2 : decode cX11_isCell 2 = .ok (.invokevirtual 94, 3) := by decide +kernel
theorem dX11_isCell_5 : decode cX11_isCell 5 = .ok (.ifCond .eq 16, 3) := by decide +kernel
theorem dX11_isCell_8 : decode cX11_isCell 8 = .ok (.aload_n 0, 1) := by decide +kernel
theorem dX11_isCell_9 : decode cX11_isCell 9 = .ok (.iload_n 2, 1) := by decide +kernel
theorem dX11_isCell_10 : decode cX11_isCell 10 = .ok (.iload_n 3, 1) := by decide +kernel
theorem dX11_isCell_11 : decode cX11_isCell 11 = .ok (.invokevirtual 98, 3) := by decide +kernel
theorem dX11_isCell_14 : decode cX11_isCell 14 = .ok (.ifCond .eq 7, 3) := by decide +kernel
theorem dX11_isCell_17 : decode cX11_isCell 17 = .ok (.iconst 1, 1) := by decide +kernel
theorem dX11_isCell_18 : decode cX11_isCell 18 = .ok (.goto 4, 3) := by decide +kernel
theorem dX11_isCell_21 : decode cX11_isCell 21 = .ok (.iconst 0, 1) := by decide +kernel
theorem dX11_isCell_22 : decode cX11_isCell 22 = .ok (.ireturn, 1) := by decide +kernel
theorem dX11_isPoint_0 : decode cX11_isPoint 0 = .ok (.iload_n 1, 1) := by decide +kernel
theorem dX11_isPoint_1 : decode cX11_isPoint 1 = .ok (.iconst 0, 1) := by decide +kernel
theorem dX11_isPoint_2 : decode cX11_isPoint 2 = .ok (.aload_n 0, 1) := by decide +kernel
theorem dX11_isPoint_3 : decode cX11_isPoint 3 = .ok (.getfield 7, 3) := by decide +kernel
theorem dX11_isPoint_6 : decode cX11_isPoint 6 = .ok (.iconst 1, 1) := by decide +kernel
theorem dX11_isPoint_7 : decode cX11_isPoint 7 = .ok (.isub, 1) := by decide +kernel
theorem dX11_isPoint_8 : decode cX11_isPoint 8 = .ok (.invokestatic 90, 3) := by decide +kernel
theorem dX11_isPoint_11 : decode cX11_isPoint 11 = .ok (.ifCond .eq 21, 3) := by decide +kernel
theorem dX11_isPoint_14 : decode cX11_isPoint 14 = .ok (.iload_n 2, 1) := by decide +kernel
theorem dX11_isPoint_15 : decode cX11_isPoint 15 = .ok (.iconst 0, 1) := by decide +kernel
theorem dX11_isPoint_16 : decode cX11_isPoint 16 = .ok (.aload_n 0, 1) := by decide +kernel
theorem dX11_isPoint_17 : decode cX11_isPoint 17 = .ok (.getfield 13, 3) := by decide +kernel
theorem dX11_isPoint_20 : decode cX11_isPoint 20 = .ok (.iconst 1, 1) := by decide +kernel
theorem dX11_isPoint_21 : decode cX11_isPoint 21 = .ok (.isub, 1) := by decide +kernel
theorem dX11_isPoint_22 : decode cX11_isPoint 22 = .ok (.invokestatic 90, 3) := by decide +kernel
theorem dX11_isPoint_25 : decode cX11_isPoint 25 = .ok (.ifCond .eq 7, 3) := by decide +kernel
theorem dX11_isPoint_28 : decode cX11_isPoint 28 = .ok (.iconst 1, 1) := by decide +kernel
theorem dX11_isPoint_29 : decode cX11_isPoint 29 = .ok (.goto 4, 3) := by decide +kernel
theorem dX11_isPoint_32 : decode cX11_isPoint 32 = .ok (.iconst 0, 1) := by decide +kernel
theorem dX11_isPoint_33 : decode cX11_isPoint 33 = .ok (.ireturn, 1) := by decide +kernel
theorem dX11_cell_0 : decode cX11_cell 0 = .ok (.bipush 64, 2) := by decide +kernel
theorem dX11_cell_2 : decode cX11_cell 2 = .ok (.iload_n 1, 1) := by decide +kernel
theorem dX11_cell_3 : decode cX11_cell 3 = .ok (.imul, 1) := by decide +kernel
theorem dX11_cell_4 : decode cX11_cell 4 = .ok (.iload_n 2, 1) := by decide +kernel
theorem dX11_cell_5 : decode cX11_cell 5 = .ok (.aload_n 0, 1) := by decide +kernel
theorem dX11_cell_6 : decode cX11_cell 6 = .ok (.getfield 13, 3) := by decide +kernel
theorem dX11_cell_9 : decode cX11_cell 9 = .ok (.imul, 1) := by decide +kernel
theorem dX11_cell_10 : decode cX11_cell 10 = .ok (.iadd, 1) := by decide +kernel
theorem dX11_cell_11 : decode cX11_cell 11 = .ok (.iload_n 3, 1) := by decide +kernel
theorem dX11_cell_12 : decode cX11_cell 12 = .ok (.iadd, 1) := by decide +kernel
theorem dX11_cell_13 : decode cX11_cell 13 = .ok (.ireturn, 1) := by decide +kernel
theorem dX11_row_0 : decode cX11_row 0 = .ok (.iload_n 1, 1) := by decide +kernel
theorem dX11_row_1 : decode cX11_row 1 = .ok (.bipush 64, 2) := by decide +kernel
theorem dX11_row_3 : decode cX11_row 3 = .ok (.irem, 1) := by decide +kernel
theorem dX11_row_4 : decode cX11_row 4 = .ok (.aload_n 0, 1) := by decide +kernel
theorem dX11_row_5 : decode cX11_row 5 = .ok (.getfield 13, 3) := by decide +kernel
theorem dX11_row_8 : decode cX11_row 8 = .ok (.idiv, 1) := by decide +kernel
theorem dX11_row_9 : decode cX11_row 9 = .ok (.ireturn, 1) := by decide +kernel
theorem dX11_column_0 : decode cX11_column 0 = .ok (.iload_n 1, 1) := by decide +kernel
theorem dX11_column_1 : decode cX11_column 1 = .ok (.bipush 64, 2) := by decide +kernel
theorem dX11_column_3 : decode cX11_column 3 = .ok (.irem, 1) := by decide +kernel
theorem dX11_column_4 : decode cX11_column 4 = .ok (.aload_n 0, 1) := by decide +kernel
theorem dX11_column_5 : decode cX11_column 5 = .ok (.getfield 13, 3) := by decide +kernel
theorem dX11_column_8 : decode cX11_column 8 = .ok (.irem, 1) := by decide +kernel
theorem dX11_column_9 : decode cX11_column 9 = .ok (.ireturn, 1) := by decide +kernel
theorem dX11_all_0 : decode cX11_all 0 = .ok (.aload_n 0, 1) := by decide +kernel
theorem dX11_all_1 : decode cX11_all 1 = .ok (.getfield 87, 3) := by decide +kernel
theorem dX11_all_4 : decode cX11_all 4 = .ok (.aload_n 0, 1) := by decide +kernel
theorem dX11_all_5 : decode cX11_all 5 = .ok (.getfield 7, 3) := by decide +kernel
theorem dX11_all_8 : decode cX11_all 8 = .ok (.imul, 1) := by decide +kernel
theorem dX11_all_9 : decode cX11_all 9 = .ok (.aload_n 0, 1) := by decide +kernel
theorem dX11_all_10 : decode cX11_all 10 = .ok (.getfield 13, 3) := by decide +kernel
theorem dX11_all_13 : decode cX11_all 13 = .ok (.imul, 1) := by decide +kernel
theorem dX11_all_14 : decode cX11_all 14 = .ok (.ireturn, 1) := by decide +kernel
theorem dX11_addStatement_0 : decode cX11_addStatement 0 = .ok (.aload_n 0, 1) := by decide +kernel
theorem dX11_addStatement_1 : decode cX11_addStatement 1 = .ok (.iload_n 1, 1) := by decide +kernel
theorem dX11_addStatement_2 : decode cX11_addStatement 2 = .ok (.iconst 0, 1) := by decide +kernel
theorem dX11_addStatement_3 : decode cX11_addStatement 3 = .ok (.bipush 99, 2) := by decide +kernel
theorem dX11_addStatement_5 : decode cX11_addStatement 5 = .ok (.invokestatic 90, 3) := by decide +kernel
theorem dX11_addStatement_8 : decode cX11_addStatement 8 = .ok (.ifCond .ne 7, 3) := by decide +kernel
theorem dX11_addStatement_11 : decode cX11_addStatement 11 = .ok (.iconst 1, 1) := by decide +kernel
theorem dX11_addStatement_12 : decode cX11_addStatement 12 = .ok (.goto 16, 3) := by decide +kernel
theorem dX11_addStatement_15 : decode cX11_addStatement 15 = .ok (.aload_n 0, 1) := by decide +kernel
theorem dX11_addStatement_16 : decode cX11_addStatement 16 = .ok (.getfield 87, 3) := by decide +kernel
theorem dX11_addStatement_19 : decode cX11_addStatement 19 = .ok (.iconst 4, 1) := by decide +kernel
theorem dX11_addStatement_20 : decode cX11_addStatement 20 = .ok (.if_icmp .ne 7, 3) := by decide +kernel
theorem dX11_addStatement_23 : decode cX11_addStatement 23 = .ok (.iconst 2, 1) := by decide +kernel
theorem dX11_addStatement_24 : decode cX11_addStatement 24 = .ok (.goto 4, 3) := by decide +kernel
theorem dX11_addStatement_27 : decode cX11_addStatement 27 = .ok (.iconst 0, 1) := by decide +kernel
theorem dX11_addStatement_28 : decode cX11_addStatement 28 = .ok (.invokevirtual 102, 3) := by decide +kernel
theorem dX11_addStatement_31 : decode cX11_addStatement 31 = .ok (.ifCond .eq 5, 3) := by decide +kernel
theorem dX11_addStatement_34 : decode cX11_addStatement 34 = .ok (.iconst 0, 1) := by decide +kernel
theorem dX11_addStatement_35 : decode cX11_addStatement 35 = .ok (.ireturn, 1) := by decide +kernel
theorem dX11_addStatement_36 : decode cX11_addStatement 36 = .ok (.aload_n 0, 1) := by decide +kernel
theorem dX11_addStatement_37 : decode cX11_addStatement 37 = .ok (.getfield 16, 3) := by decide +kernel
theorem dX11_addStatement_40 : decode cX11_addStatement 40 = .ok (.aload_n 0, 1) := by decide +kernel
theorem dX11_addStatement_41 : decode cX11_addStatement 41 = .ok (.getfield 87, 3) := by decide +kernel
theorem dX11_addStatement_44 : decode cX11_addStatement 44 = .ok (.iload_n 1, 1) := by decide +kernel
theorem dX11_addStatement_45 : decode cX11_addStatement 45 = .ok (.iastore, 1) := by decide +kernel
theorem dX11_addStatement_46 : decode cX11_addStatement 46 = .ok (.aload_n 0, 1) := by decide +kernel
theorem dX11_addStatement_47 : decode cX11_addStatement 47 = .ok (.getfield 45, 3) := by decide +kernel
theorem dX11_addStatement_50 : decode cX11_addStatement 50 = .ok (.aload_n 0, 1) := by decide +kernel
theorem dX11_addStatement_51 : decode cX11_addStatement 51 = .ok (.getfield 87, 3) := by decide +kernel
theorem dX11_addStatement_54 : decode cX11_addStatement 54 = .ok (.iconst 0, 1) := by decide +kernel
theorem dX11_addStatement_55 : decode cX11_addStatement 55 = .ok (.iastore, 1) := by decide +kernel
theorem dX11_addStatement_56 : decode cX11_addStatement 56 = .ok (.aload_n 0, 1) := by decide +kernel
theorem dX11_addStatement_57 : decode cX11_addStatement 57 = .ok (.dup, 1) := by decide +kernel
theorem dX11_addStatement_58 : decode cX11_addStatement 58 = .ok (.getfield 87, 3) := by decide +kernel
theorem dX11_addStatement_61 : decode cX11_addStatement 61 = .ok (.iconst 1, 1) := by decide +kernel
theorem dX11_addStatement_62 : decode cX11_addStatement 62 = .ok (.iadd, 1) := by decide +kernel
theorem dX11_addStatement_63 : decode cX11_addStatement 63 = .ok (.putfield 87, 3) := by decide +kernel
theorem dX11_addStatement_66 : decode cX11_addStatement 66 = .ok (.aload_n 0, 1) := by decide +kernel
theorem dX11_addStatement_67 : decode cX11_addStatement 67 = .ok (.getfield 87, 3) := by decide +kernel
theorem dX11_addStatement_70 : decode cX11_addStatement 70 = .ok (.iconst 1, 1) := by decide +kernel
theorem dX11_addStatement_71 : decode cX11_addStatement 71 = .ok (.isub, 1) := by decide +kernel
theorem dX11_addStatement_72 : decode cX11_addStatement 72 = .ok (.ireturn, 1) := by decide +kernel
theorem dX11_addRead_0 : decode cX11_addRead 0 = .ok (.iload_n 3, 1) := by decide +kernel
theorem dX11_addRead_1 : decode cX11_addRead 1 = .ok (.iconst 1, 1) := by decide +kernel
theorem dX11_addRead_2 : decode cX11_addRead 2 = .ok (.bipush 9, 2) := by decide +kernel
theorem dX11_addRead_4 : decode cX11_addRead 4 = .ok (.invokestatic 90, 3) := by decide +kernel
theorem dX11_addRead_7 : decode cX11_addRead 7 = .ok (.ifCond .eq 28, 3) := by decide +kernel
theorem dX11_addRead_10 : decode cX11_addRead 10 = .ok (.iload 4, 2) := by decide +kernel
theorem dX11_addRead_12 : decode cX11_addRead 12 = .ok (.iconst 0, 1) := by decide +kernel
theorem dX11_addRead_13 : decode cX11_addRead 13 = .ok (.iconst 3, 1) := by decide +kernel
theorem dX11_addRead_14 : decode cX11_addRead 14 = .ok (.invokestatic 90, 3) := by decide +kernel
theorem dX11_addRead_17 : decode cX11_addRead 17 = .ok (.ifCond .eq 18, 3) := by decide +kernel
theorem dX11_addRead_20 : decode cX11_addRead 20 = .ok (.iload 5, 2) := by decide +kernel
theorem dX11_addRead_22 : decode cX11_addRead 22 = .ok (.bipush (-3), 2) := by decide +kernel
theorem dX11_addRead_24 : decode cX11_addRead 24 = .ok (.iconst 3, 1) := by decide +kernel
theorem dX11_addRead_25 : decode cX11_addRead 25 = .ok (.invokestatic 90, 3) := by decide +kernel
theorem dX11_addRead_28 : decode cX11_addRead 28 = .ok (.ifCond .eq 7, 3) := by decide +kernel
theorem dX11_addRead_31 : decode cX11_addRead 31 = .ok (.iconst 1, 1) := by decide +kernel
theorem dX11_addRead_32 : decode cX11_addRead 32 = .ok (.goto 4, 3) := by decide +kernel
theorem dX11_addRead_35 : decode cX11_addRead 35 = .ok (.iconst 0, 1) := by decide +kernel
theorem dX11_addRead_36 : decode cX11_addRead 36 = .ok (.istore 6, 2) := by decide +kernel
theorem dX11_addRead_38 : decode cX11_addRead 38 = .ok (.aload_n 0, 1) := by decide +kernel
theorem dX11_addRead_39 : decode cX11_addRead 39 = .ok (.aload_n 0, 1) := by decide +kernel
theorem dX11_addRead_40 : decode cX11_addRead 40 = .ok (.iload_n 1, 1) := by decide +kernel
theorem dX11_addRead_41 : decode cX11_addRead 41 = .ok (.invokevirtual 94, 3) := by decide +kernel
theorem dX11_addRead_44 : decode cX11_addRead 44 = .ok (.ifCond .eq 11, 3) := by decide +kernel
theorem dX11_addRead_47 : decode cX11_addRead 47 = .ok (.aload_n 0, 1) := by decide +kernel
theorem dX11_addRead_48 : decode cX11_addRead 48 = .ok (.iload_n 2, 1) := by decide +kernel
theorem dX11_addRead_49 : decode cX11_addRead 49 = .ok (.invokevirtual 94, 3) := by decide +kernel
theorem dX11_addRead_52 : decode cX11_addRead 52 = .ok (.ifCond .ne 7, 3) := by decide +kernel
theorem dX11_addRead_55 : decode cX11_addRead 55 = .ok (.iconst 1, 1) := by decide +kernel
theorem dX11_addRead_56 : decode cX11_addRead 56 = .ok (.goto 27, 3) := by decide +kernel
theorem dX11_addRead_59 : decode cX11_addRead 59 = .ok (.iload 6, 2) := by decide +kernel
theorem dX11_addRead_61 : decode cX11_addRead 61 = .ok (.ifCond .ne 7, 3) := by decide +kernel
theorem dX11_addRead_64 : decode cX11_addRead 64 = .ok (.iconst 2, 1) := by decide +kernel
theorem dX11_addRead_65 : decode cX11_addRead 65 = .ok (.goto 18, 3) := by decide +kernel
theorem dX11_addRead_68 : decode cX11_addRead 68 = .ok (.aload_n 0, 1) := by decide +kernel
theorem dX11_addRead_69 : decode cX11_addRead 69 = .ok (.getfield 20, 3) := by decide +kernel
theorem dX11_addRead_72 : decode cX11_addRead 72 = .ok (.iload_n 1, 1) := by decide +kernel
theorem dX11_addRead_73 : decode cX11_addRead 73 = .ok (.iaload, 1) := by decide +kernel
theorem dX11_addRead_74 : decode cX11_addRead 74 = .ok (.iconst 4, 1) := by decide +kernel
theorem dX11_addRead_75 : decode cX11_addRead 75 = .ok (.if_icmp .ne 7, 3) := by decide +kernel
theorem dX11_addRead_78 : decode cX11_addRead 78 = .ok (.iconst 3, 1) := by decide +kernel
theorem dX11_addRead_79 : decode cX11_addRead 79 = .ok (.goto 4, 3) := by decide +kernel
theorem dX11_addRead_82 : decode cX11_addRead 82 = .ok (.iconst 0, 1) := by decide +kernel
theorem dX11_addRead_83 : decode cX11_addRead 83 = .ok (.invokevirtual 102, 3) := by decide +kernel
theorem dX11_addRead_86 : decode cX11_addRead 86 = .ok (.ifCond .eq 5, 3) := by decide +kernel
theorem dX11_addRead_89 : decode cX11_addRead 89 = .ok (.iconst 0, 1) := by decide +kernel
theorem dX11_addRead_90 : decode cX11_addRead 90 = .ok (.ireturn, 1) := by decide +kernel
theorem dX11_addRead_91 : decode cX11_addRead 91 = .ok (.iconst 4, 1) := by decide +kernel
theorem dX11_addRead_92 : decode cX11_addRead 92 = .ok (.iload_n 1, 1) := by decide +kernel
theorem dX11_addRead_93 : decode cX11_addRead 93 = .ok (.imul, 1) := by decide +kernel
theorem dX11_addRead_94 : decode cX11_addRead 94 = .ok (.aload_n 0, 1) := by decide +kernel
theorem dX11_addRead_95 : decode cX11_addRead 95 = .ok (.getfield 20, 3) := by decide +kernel
theorem dX11_addRead_98 : decode cX11_addRead 98 = .ok (.iload_n 1, 1) := by decide +kernel
theorem dX11_addRead_99 : decode cX11_addRead 99 = .ok (.iaload, 1) := by decide +kernel
theorem dX11_addRead_100 : decode cX11_addRead 100 = .ok (.iadd, 1) := by decide +kernel
theorem dX11_addRead_101 : decode cX11_addRead 101 = .ok (.istore 7, 2) := by decide +kernel
theorem dX11_addRead_103 : decode cX11_addRead 103 = .ok (.aload_n 0, 1) := by decide +kernel
theorem dX11_addRead_104 : decode cX11_addRead 104 = .ok (.getfield 23, 3) := by decide +kernel
theorem dX11_addRead_107 : decode cX11_addRead 107 = .ok (.iload 7, 2) := by decide +kernel
theorem dX11_addRead_109 : decode cX11_addRead 109 = .ok (.iload_n 2, 1) := by decide +kernel
theorem dX11_addRead_110 : decode cX11_addRead 110 = .ok (.iastore, 1) := by decide +kernel
theorem dX11_addRead_111 : decode cX11_addRead 111 = .ok (.aload_n 0, 1) := by decide +kernel
theorem dX11_addRead_112 : decode cX11_addRead 112 = .ok (.getfield 26, 3) := by decide +kernel
theorem dX11_addRead_115 : decode cX11_addRead 115 = .ok (.iload 7, 2) := by decide +kernel
theorem dX11_addRead_117 : decode cX11_addRead 117 = .ok (.iload_n 3, 1) := by decide +kernel
theorem dX11_addRead_118 : decode cX11_addRead 118 = .ok (.iastore, 1) := by decide +kernel
theorem dX11_addRead_119 : decode cX11_addRead 119 = .ok (.aload_n 0, 1) := by decide +kernel
theorem dX11_addRead_120 : decode cX11_addRead 120 = .ok (.getfield 29, 3) := by decide +kernel
theorem dX11_addRead_123 : decode cX11_addRead 123 = .ok (.iload 7, 2) := by decide +kernel
theorem dX11_addRead_125 : decode cX11_addRead 125 = .ok (.iload 4, 2) := by decide +kernel
theorem dX11_addRead_127 : decode cX11_addRead 127 = .ok (.iastore, 1) := by decide +kernel
theorem dX11_addRead_128 : decode cX11_addRead 128 = .ok (.aload_n 0, 1) := by decide +kernel
theorem dX11_addRead_129 : decode cX11_addRead 129 = .ok (.getfield 32, 3) := by decide +kernel
theorem dX11_addRead_132 : decode cX11_addRead 132 = .ok (.iload 7, 2) := by decide +kernel
theorem dX11_addRead_134 : decode cX11_addRead 134 = .ok (.iload 5, 2) := by decide +kernel
theorem dX11_addRead_136 : decode cX11_addRead 136 = .ok (.iastore, 1) := by decide +kernel
theorem dX11_addRead_137 : decode cX11_addRead 137 = .ok (.aload_n 0, 1) := by decide +kernel
theorem dX11_addRead_138 : decode cX11_addRead 138 = .ok (.getfield 20, 3) := by decide +kernel
theorem dX11_addRead_141 : decode cX11_addRead 141 = .ok (.iload_n 1, 1) := by decide +kernel
theorem dX11_addRead_142 : decode cX11_addRead 142 = .ok (.dup2, 1) := by decide +kernel
theorem dX11_addRead_143 : decode cX11_addRead 143 = .ok (.iaload, 1) := by decide +kernel
theorem dX11_addRead_144 : decode cX11_addRead 144 = .ok (.iconst 1, 1) := by decide +kernel
theorem dX11_addRead_145 : decode cX11_addRead 145 = .ok (.iadd, 1) := by decide +kernel
theorem dX11_addRead_146 : decode cX11_addRead 146 = .ok (.iastore, 1) := by decide +kernel
theorem dX11_addRead_147 : decode cX11_addRead 147 = .ok (.aload_n 0, 1) := by decide +kernel
theorem dX11_addRead_148 : decode cX11_addRead 148 = .ok (.getfield 20, 3) := by decide +kernel
theorem dX11_addRead_151 : decode cX11_addRead 151 = .ok (.iload_n 1, 1) := by decide +kernel
theorem dX11_addRead_152 : decode cX11_addRead 152 = .ok (.iaload, 1) := by decide +kernel
theorem dX11_addRead_153 : decode cX11_addRead 153 = .ok (.iconst 1, 1) := by decide +kernel
theorem dX11_addRead_154 : decode cX11_addRead 154 = .ok (.isub, 1) := by decide +kernel
theorem dX11_addRead_155 : decode cX11_addRead 155 = .ok (.ireturn, 1) := by decide +kernel
theorem dX11_dropReads_0 : decode cX11_dropReads 0 = .ok (.aload_n 0, 1) := by decide +kernel
theorem dX11_dropReads_1 : decode cX11_dropReads 1 = .ok (.aload_n 0, 1) := by decide +kernel
theorem dX11_dropReads_2 : decode cX11_dropReads 2 = .ok (.iload_n 1, 1) := by decide +kernel
theorem dX11_dropReads_3 : decode cX11_dropReads 3 = .ok (.invokevirtual 94, 3) := by decide +kernel
theorem dX11_dropReads_6 : decode cX11_dropReads 6 = .ok (.ifCond .eq 7, 3) := by decide +kernel
theorem dX11_dropReads_9 : decode cX11_dropReads 9 = .ok (.iconst 0, 1) := by decide +kernel
theorem dX11_dropReads_10 : decode cX11_dropReads 10 = .ok (.goto 4, 3) := by decide +kernel
theorem dX11_dropReads_13 : decode cX11_dropReads 13 = .ok (.iconst 1, 1) := by decide +kernel
theorem dX11_dropReads_14 : decode cX11_dropReads 14 = .ok (.invokevirtual 102, 3) := by decide +kernel
theorem dX11_dropReads_17 : decode cX11_dropReads 17 = .ok (.ifCond .eq 5, 3) := by decide +kernel
theorem dX11_dropReads_20 : decode cX11_dropReads 20 = .ok (.iconst 0, 1) := by decide +kernel
theorem dX11_dropReads_21 : decode cX11_dropReads 21 = .ok (.ireturn, 1) := by decide +kernel
theorem dX11_dropReads_22 : decode cX11_dropReads 22 = .ok (.aload_n 0, 1) := by decide +kernel
theorem dX11_dropReads_23 : decode cX11_dropReads 23 = .ok (.getfield 20, 3) := by decide +kernel
theorem dX11_dropReads_26 : decode cX11_dropReads 26 = .ok (.iload_n 1, 1) := by decide +kernel
theorem dX11_dropReads_27 : decode cX11_dropReads 27 = .ok (.iaload, 1) := by decide +kernel
theorem dX11_dropReads_28 : decode cX11_dropReads 28 = .ok (.istore_n 2, 1) := by decide +kernel
theorem dX11_dropReads_29 : decode cX11_dropReads 29 = .ok (.aload_n 0, 1) := by decide +kernel
theorem dX11_dropReads_30 : decode cX11_dropReads 30 = .ok (.getfield 20, 3) := by decide +kernel
theorem dX11_dropReads_33 : decode cX11_dropReads 33 = .ok (.iload_n 1, 1) := by decide +kernel
theorem dX11_dropReads_34 : decode cX11_dropReads 34 = .ok (.iconst 0, 1) := by decide +kernel
theorem dX11_dropReads_35 : decode cX11_dropReads 35 = .ok (.iastore, 1) := by decide +kernel
theorem dX11_dropReads_36 : decode cX11_dropReads 36 = .ok (.iload_n 2, 1) := by decide +kernel
theorem dX11_dropReads_37 : decode cX11_dropReads 37 = .ok (.ireturn, 1) := by decide +kernel
theorem dX11_setLasting_0 : decode cX11_setLasting 0 = .ok (.aload_n 0, 1) := by decide +kernel
theorem dX11_setLasting_1 : decode cX11_setLasting 1 = .ok (.aload_n 0, 1) := by decide +kernel
theorem dX11_setLasting_2 : decode cX11_setLasting 2 = .ok (.iload_n 1, 1) := by decide +kernel
theorem dX11_setLasting_3 : decode cX11_setLasting 3 = .ok (.invokevirtual 94, 3) := by decide +kernel
theorem dX11_setLasting_6 : decode cX11_setLasting 6 = .ok (.ifCond .eq 7, 3) := by decide +kernel
theorem dX11_setLasting_9 : decode cX11_setLasting 9 = .ok (.iconst 0, 1) := by decide +kernel
theorem dX11_setLasting_10 : decode cX11_setLasting 10 = .ok (.goto 4, 3) := by decide +kernel
theorem dX11_setLasting_13 : decode cX11_setLasting 13 = .ok (.iconst 1, 1) := by decide +kernel
theorem dX11_setLasting_14 : decode cX11_setLasting 14 = .ok (.invokevirtual 102, 3) := by decide +kernel
theorem dX11_setLasting_17 : decode cX11_setLasting 17 = .ok (.ifCond .eq 5, 3) := by decide +kernel
theorem dX11_setLasting_20 : decode cX11_setLasting 20 = .ok (.iconst 0, 1) := by decide +kernel
theorem dX11_setLasting_21 : decode cX11_setLasting 21 = .ok (.ireturn, 1) := by decide +kernel
theorem dX11_setLasting_22 : decode cX11_setLasting 22 = .ok (.aload_n 0, 1) := by decide +kernel
theorem dX11_setLasting_23 : decode cX11_setLasting 23 = .ok (.getfield 35, 3) := by decide +kernel
theorem dX11_setLasting_26 : decode cX11_setLasting 26 = .ok (.iload_n 1, 1) := by decide +kernel
theorem dX11_setLasting_27 : decode cX11_setLasting 27 = .ok (.baload, 1) := by decide +kernel
theorem dX11_setLasting_28 : decode cX11_setLasting 28 = .ok (.istore_n 3, 1) := by decide +kernel
theorem dX11_setLasting_29 : decode cX11_setLasting 29 = .ok (.aload_n 0, 1) := by decide +kernel
theorem dX11_setLasting_30 : decode cX11_setLasting 30 = .ok (.getfield 35, 3) := by decide +kernel
theorem dX11_setLasting_33 : decode cX11_setLasting 33 = .ok (.iload_n 1, 1) := by decide +kernel
theorem dX11_setLasting_34 : decode cX11_setLasting 34 = .ok (.iload_n 2, 1) := by decide +kernel
theorem dX11_setLasting_35 : decode cX11_setLasting 35 = .ok (.bastore, 1) := by decide +kernel
theorem dX11_setLasting_36 : decode cX11_setLasting 36 = .ok (.iload_n 3, 1) := by decide +kernel
theorem dX11_setLasting_37 : decode cX11_setLasting 37 = .ok (.ireturn, 1) := by decide +kernel
theorem dX11_setField_0 : decode cX11_setField 0 = .ok (.aload_n 0, 1) := by decide +kernel
theorem dX11_setField_1 : decode cX11_setField 1 = .ok (.iload_n 1, 1) := by decide +kernel
theorem dX11_setField_2 : decode cX11_setField 2 = .ok (.iconst 1, 1) := by decide +kernel
theorem dX11_setField_3 : decode cX11_setField 3 = .ok (.bipush 8, 2) := by decide +kernel
theorem dX11_setField_5 : decode cX11_setField 5 = .ok (.invokestatic 90, 3) := by decide +kernel
theorem dX11_setField_8 : decode cX11_setField 8 = .ok (.ifCond .eq 17, 3) := by decide +kernel
theorem dX11_setField_11 : decode cX11_setField 11 = .ok (.iload_n 2, 1) := by decide +kernel
theorem dX11_setField_12 : decode cX11_setField 12 = .ok (.iconst 1, 1) := by decide +kernel
theorem dX11_setField_13 : decode cX11_setField 13 = .ok (.bipush 8, 2) := by decide +kernel
theorem dX11_setField_15 : decode cX11_setField 15 = .ok (.invokestatic 90, 3) := by decide +kernel
theorem dX11_setField_18 : decode cX11_setField 18 = .ok (.ifCond .eq 7, 3) := by decide +kernel
theorem dX11_setField_21 : decode cX11_setField 21 = .ok (.iconst 0, 1) := by decide +kernel
theorem dX11_setField_22 : decode cX11_setField 22 = .ok (.goto 4, 3) := by decide +kernel
theorem dX11_setField_25 : decode cX11_setField 25 = .ok (.iconst 1, 1) := by decide +kernel
theorem dX11_setField_26 : decode cX11_setField 26 = .ok (.invokevirtual 102, 3) := by decide +kernel
theorem dX11_setField_29 : decode cX11_setField 29 = .ok (.ifCond .eq 5, 3) := by decide +kernel
theorem dX11_setField_32 : decode cX11_setField 32 = .ok (.iconst 0, 1) := by decide +kernel
theorem dX11_setField_33 : decode cX11_setField 33 = .ok (.ireturn, 1) := by decide +kernel
theorem dX11_setField_34 : decode cX11_setField 34 = .ok (.aload_n 0, 1) := by decide +kernel
theorem dX11_setField_35 : decode cX11_setField 35 = .ok (.iload_n 1, 1) := by decide +kernel
theorem dX11_setField_36 : decode cX11_setField 36 = .ok (.putfield 7, 3) := by decide +kernel
theorem dX11_setField_39 : decode cX11_setField 39 = .ok (.aload_n 0, 1) := by decide +kernel
theorem dX11_setField_40 : decode cX11_setField 40 = .ok (.iload_n 2, 1) := by decide +kernel
theorem dX11_setField_41 : decode cX11_setField 41 = .ok (.putfield 13, 3) := by decide +kernel
theorem dX11_setField_44 : decode cX11_setField 44 = .ok (.aload_n 0, 1) := by decide +kernel
theorem dX11_setField_45 : decode cX11_setField 45 = .ok (.getfield 7, 3) := by decide +kernel
theorem dX11_setField_48 : decode cX11_setField 48 = .ok (.aload_n 0, 1) := by decide +kernel
theorem dX11_setField_49 : decode cX11_setField 49 = .ok (.getfield 13, 3) := by decide +kernel
theorem dX11_setField_52 : decode cX11_setField 52 = .ok (.imul, 1) := by decide +kernel
theorem dX11_setField_53 : decode cX11_setField 53 = .ok (.ireturn, 1) := by decide +kernel
theorem dX11_time_0 : decode cX11_time 0 = .ok (.aload_n 0, 1) := by decide +kernel
theorem dX11_time_1 : decode cX11_time 1 = .ok (.iload_n 1, 1) := by decide +kernel
theorem dX11_time_2 : decode cX11_time 2 = .ok (.invokevirtual 105, 3) := by decide +kernel
theorem dX11_time_5 : decode cX11_time 5 = .ok (.iload_n 2, 1) := by decide +kernel
theorem dX11_time_6 : decode cX11_time 6 = .ok (.imul, 1) := by decide +kernel
theorem dX11_time_7 : decode cX11_time 7 = .ok (.aload_n 0, 1) := by decide +kernel
theorem dX11_time_8 : decode cX11_time 8 = .ok (.iload_n 1, 1) := by decide +kernel
theorem dX11_time_9 : decode cX11_time 9 = .ok (.invokevirtual 109, 3) := by decide +kernel
theorem dX11_time_12 : decode cX11_time 12 = .ok (.iload_n 3, 1) := by decide +kernel
theorem dX11_time_13 : decode cX11_time 13 = .ok (.imul, 1) := by decide +kernel
theorem dX11_time_14 : decode cX11_time 14 = .ok (.iadd, 1) := by decide +kernel
theorem dX11_time_15 : decode cX11_time 15 = .ok (.aload_n 0, 1) := by decide +kernel
theorem dX11_time_16 : decode cX11_time 16 = .ok (.getfield 39, 3) := by decide +kernel
theorem dX11_time_19 : decode cX11_time 19 = .ok (.iload_n 1, 1) := by decide +kernel
theorem dX11_time_20 : decode cX11_time 20 = .ok (.bipush 64, 2) := by decide +kernel
theorem dX11_time_22 : decode cX11_time 22 = .ok (.idiv, 1) := by decide +kernel
theorem dX11_time_23 : decode cX11_time 23 = .ok (.iaload, 1) := by decide +kernel
theorem dX11_time_24 : decode cX11_time 24 = .ok (.iadd, 1) := by decide +kernel
theorem dX11_time_25 : decode cX11_time 25 = .ok (.ireturn, 1) := by decide +kernel
theorem dX11_deals_0 : decode cX11_deals 0 = .ok (.iconst 0, 1) := by decide +kernel
theorem dX11_deals_1 : decode cX11_deals 1 = .ok (.istore_n 3, 1) := by decide +kernel
theorem dX11_deals_2 : decode cX11_deals 2 = .ok (.iload_n 3, 1) := by decide +kernel
theorem dX11_deals_3 : decode cX11_deals 3 = .ok (.sipush 160, 3) := by decide +kernel
theorem dX11_deals_6 : decode cX11_deals 6 = .ok (.if_icmp .gt 16, 3) := by decide +kernel
theorem dX11_deals_9 : decode cX11_deals 9 = .ok (.aload_n 0, 1) := by decide +kernel
theorem dX11_deals_10 : decode cX11_deals 10 = .ok (.getfield 54, 3) := by decide +kernel
theorem dX11_deals_13 : decode cX11_deals 13 = .ok (.iload_n 3, 1) := by decide +kernel
theorem dX11_deals_14 : decode cX11_deals 14 = .ok (.iconst 0, 1) := by decide +kernel
theorem dX11_deals_15 : decode cX11_deals 15 = .ok (.iastore, 1) := by decide +kernel
theorem dX11_deals_16 : decode cX11_deals 16 = .ok (.iinc 3 1, 3) := by decide +kernel
theorem dX11_deals_19 : decode cX11_deals 19 = .ok (.goto (-17), 3) := by decide +kernel
theorem dX11_deals_22 : decode cX11_deals 22 = .ok (.aload_n 0, 1) := by decide +kernel
theorem dX11_deals_23 : decode cX11_deals 23 = .ok (.getfield 7, 3) := by decide +kernel
theorem dX11_deals_26 : decode cX11_deals 26 = .ok (.aload_n 0, 1) := by decide +kernel
theorem dX11_deals_27 : decode cX11_deals 27 = .ok (.getfield 13, 3) := by decide +kernel
theorem dX11_deals_30 : decode cX11_deals 30 = .ok (.imul, 1) := by decide +kernel
theorem dX11_deals_31 : decode cX11_deals 31 = .ok (.istore_n 3, 1) := by decide +kernel
theorem dX11_deals_32 : decode cX11_deals 32 = .ok (.iconst 0, 1) := by decide +kernel
theorem dX11_deals_33 : decode cX11_deals 33 = .ok (.istore 4, 2) := by decide +kernel
theorem dX11_deals_35 : decode cX11_deals 35 = .ok (.iload 4, 2) := by decide +kernel
theorem dX11_deals_37 : decode cX11_deals 37 = .ok (.aload_n 0, 1) := by decide +kernel
theorem dX11_deals_38 : decode cX11_deals 38 = .ok (.invokevirtual 112, 3) := by decide +kernel
theorem dX11_deals_41 : decode cX11_deals 41 = .ok (.if_icmp .ge 38, 3) := by decide +kernel
theorem dX11_deals_44 : decode cX11_deals 44 = .ok (.aload_n 0, 1) := by decide +kernel
theorem dX11_deals_45 : decode cX11_deals 45 = .ok (.getfield 54, 3) := by decide +kernel
theorem dX11_deals_48 : decode cX11_deals 48 = .ok (.aload_n 0, 1) := by decide +kernel
theorem dX11_deals_49 : decode cX11_deals 49 = .ok (.bipush 64, 2) := by decide +kernel
theorem dX11_deals_51 : decode cX11_deals 51 = .ok (.iload 4, 2) := by decide +kernel
theorem dX11_deals_53 : decode cX11_deals 53 = .ok (.iload_n 3, 1) := by decide +kernel
theorem dX11_deals_54 : decode cX11_deals 54 = .ok (.idiv, 1) := by decide +kernel
theorem dX11_deals_55 : decode cX11_deals 55 = .ok (.imul, 1) := by decide +kernel
theorem dX11_deals_56 : decode cX11_deals 56 = .ok (.iload 4, 2) := by decide +kernel
theorem dX11_deals_58 : decode cX11_deals 58 = .ok (.iload_n 3, 1) := by decide +kernel
theorem dX11_deals_59 : decode cX11_deals 59 = .ok (.irem, 1) := by decide +kernel
theorem dX11_deals_60 : decode cX11_deals 60 = .ok (.iadd, 1) := by decide +kernel
theorem dX11_deals_61 : decode cX11_deals 61 = .ok (.iload_n 1, 1) := by decide +kernel
theorem dX11_deals_62 : decode cX11_deals 62 = .ok (.iload_n 2, 1) := by decide +kernel
theorem dX11_deals_63 : decode cX11_deals 63 = .ok (.invokevirtual 116, 3) := by decide +kernel
theorem dX11_deals_66 : decode cX11_deals 66 = .ok (.iconst 1, 1) := by decide +kernel
theorem dX11_deals_67 : decode cX11_deals 67 = .ok (.iadd, 1) := by decide +kernel
theorem dX11_deals_68 : decode cX11_deals 68 = .ok (.dup2, 1) := by decide +kernel
theorem dX11_deals_69 : decode cX11_deals 69 = .ok (.iaload, 1) := by decide +kernel
theorem dX11_deals_70 : decode cX11_deals 70 = .ok (.iconst 1, 1) := by decide +kernel
theorem dX11_deals_71 : decode cX11_deals 71 = .ok (.iadd, 1) := by decide +kernel
theorem dX11_deals_72 : decode cX11_deals 72 = .ok (.iastore, 1) := by decide +kernel
theorem dX11_deals_73 : decode cX11_deals 73 = .ok (.iinc 4 1, 3) := by decide +kernel
theorem dX11_deals_76 : decode cX11_deals 76 = .ok (.goto (-41), 3) := by decide +kernel
theorem dX11_deals_79 : decode cX11_deals 79 = .ok (.iconst 1, 1) := by decide +kernel
theorem dX11_deals_80 : decode cX11_deals 80 = .ok (.istore 4, 2) := by decide +kernel
theorem dX11_deals_82 : decode cX11_deals 82 = .ok (.iload 4, 2) := by decide +kernel
theorem dX11_deals_84 : decode cX11_deals 84 = .ok (.sipush 160, 3) := by decide +kernel
theorem dX11_deals_87 : decode cX11_deals 87 = .ok (.if_icmp .gt 28, 3) := by decide +kernel
theorem dX11_deals_90 : decode cX11_deals 90 = .ok (.aload_n 0, 1) := by decide +kernel
theorem dX11_deals_91 : decode cX11_deals 91 = .ok (.getfield 54, 3) := by decide +kernel
theorem dX11_deals_94 : decode cX11_deals 94 = .ok (.iload 4, 2) := by decide +kernel
theorem dX11_deals_96 : decode cX11_deals 96 = .ok (.dup2, 1) := by decide +kernel
theorem dX11_deals_97 : decode cX11_deals 97 = .ok (.iaload, 1) := by decide +kernel
theorem dX11_deals_98 : decode cX11_deals 98 = .ok (.aload_n 0, 1) := by decide +kernel
theorem dX11_deals_99 : decode cX11_deals 99 = .ok (.getfield 54, 3) := by decide +kernel
theorem dX11_deals_102 : decode cX11_deals 102 = .ok (.iload 4, 2) := by decide +kernel
theorem dX11_deals_104 : decode cX11_deals 104 = .ok (.iconst 1, 1) := by decide +kernel
theorem dX11_deals_105 : decode cX11_deals 105 = .ok (.isub, 1) := by decide +kernel
theorem dX11_deals_106 : decode cX11_deals 106 = .ok (.iaload, 1) := by decide +kernel
theorem dX11_deals_107 : decode cX11_deals 107 = .ok (.iadd, 1) := by decide +kernel
theorem dX11_deals_108 : decode cX11_deals 108 = .ok (.iastore, 1) := by decide +kernel
theorem dX11_deals_109 : decode cX11_deals 109 = .ok (.iinc 4 1, 3) := by decide +kernel
theorem dX11_deals_112 : decode cX11_deals 112 = .ok (.goto (-30), 3) := by decide +kernel
theorem dX11_deals_115 : decode cX11_deals 115 = .ok (.iconst 0, 1) := by decide +kernel
theorem dX11_deals_116 : decode cX11_deals 116 = .ok (.istore 4, 2) := by decide +kernel
theorem dX11_deals_118 : decode cX11_deals 118 = .ok (.iload 4, 2) := by decide +kernel
theorem dX11_deals_120 : decode cX11_deals 120 = .ok (.aload_n 0, 1) := by decide +kernel
theorem dX11_deals_121 : decode cX11_deals 121 = .ok (.invokevirtual 112, 3) := by decide +kernel
theorem dX11_deals_124 : decode cX11_deals 124 = .ok (.if_icmp .ge 72, 3) := by decide +kernel
theorem dX11_deals_127 : decode cX11_deals 127 = .ok (.bipush 64, 2) := by decide +kernel
theorem dX11_deals_129 : decode cX11_deals 129 = .ok (.iload 4, 2) := by decide +kernel
theorem dX11_deals_131 : decode cX11_deals 131 = .ok (.iload_n 3, 1) := by decide +kernel
theorem dX11_deals_132 : decode cX11_deals 132 = .ok (.idiv, 1) := by decide +kernel
theorem dX11_deals_133 : decode cX11_deals 133 = .ok (.imul, 1) := by decide +kernel
theorem dX11_deals_134 : decode cX11_deals 134 = .ok (.iload 4, 2) := by decide +kernel
theorem dX11_deals_136 : decode cX11_deals 136 = .ok (.iload_n 3, 1) := by decide +kernel
theorem dX11_deals_137 : decode cX11_deals 137 = .ok (.irem, 1) := by decide +kernel
theorem dX11_deals_138 : decode cX11_deals 138 = .ok (.iadd, 1) := by decide +kernel
theorem dX11_deals_139 : decode cX11_deals 139 = .ok (.istore 5, 2) := by decide +kernel
theorem dX11_deals_141 : decode cX11_deals 141 = .ok (.aload_n 0, 1) := by decide +kernel
theorem dX11_deals_142 : decode cX11_deals 142 = .ok (.iload 5, 2) := by decide +kernel
theorem dX11_deals_144 : decode cX11_deals 144 = .ok (.iload_n 1, 1) := by decide +kernel
theorem dX11_deals_145 : decode cX11_deals 145 = .ok (.iload_n 2, 1) := by decide +kernel
theorem dX11_deals_146 : decode cX11_deals 146 = .ok (.invokevirtual 116, 3) := by decide +kernel
theorem dX11_deals_149 : decode cX11_deals 149 = .ok (.istore 6, 2) := by decide +kernel
theorem dX11_deals_151 : decode cX11_deals 151 = .ok (.aload_n 0, 1) := by decide +kernel
theorem dX11_deals_152 : decode cX11_deals 152 = .ok (.getfield 57, 3) := by decide +kernel
theorem dX11_deals_155 : decode cX11_deals 155 = .ok (.iload 5, 2) := by decide +kernel
theorem dX11_deals_157 : decode cX11_deals 157 = .ok (.aload_n 0, 1) := by decide +kernel
theorem dX11_deals_158 : decode cX11_deals 158 = .ok (.getfield 54, 3) := by decide +kernel
theorem dX11_deals_161 : decode cX11_deals 161 = .ok (.iload 6, 2) := by decide +kernel
theorem dX11_deals_163 : decode cX11_deals 163 = .ok (.iaload, 1) := by decide +kernel
theorem dX11_deals_164 : decode cX11_deals 164 = .ok (.iastore, 1) := by decide +kernel
theorem dX11_deals_165 : decode cX11_deals 165 = .ok (.aload_n 0, 1) := by decide +kernel
theorem dX11_deals_166 : decode cX11_deals 166 = .ok (.getfield 60, 3) := by decide +kernel
theorem dX11_deals_169 : decode cX11_deals 169 = .ok (.aload_n 0, 1) := by decide +kernel
theorem dX11_deals_170 : decode cX11_deals 170 = .ok (.getfield 54, 3) := by decide +kernel
theorem dX11_deals_173 : decode cX11_deals 173 = .ok (.iload 6, 2) := by decide +kernel
theorem dX11_deals_175 : decode cX11_deals 175 = .ok (.iaload, 1) := by decide +kernel
theorem dX11_deals_176 : decode cX11_deals 176 = .ok (.iload 5, 2) := by decide +kernel
theorem dX11_deals_178 : decode cX11_deals 178 = .ok (.iastore, 1) := by decide +kernel
theorem dX11_deals_179 : decode cX11_deals 179 = .ok (.aload_n 0, 1) := by decide +kernel
theorem dX11_deals_180 : decode cX11_deals 180 = .ok (.getfield 54, 3) := by decide +kernel
theorem dX11_deals_183 : decode cX11_deals 183 = .ok (.iload 6, 2) := by decide +kernel
theorem dX11_deals_185 : decode cX11_deals 185 = .ok (.dup2, 1) := by decide +kernel
theorem dX11_deals_186 : decode cX11_deals 186 = .ok (.iaload, 1) := by decide +kernel
theorem dX11_deals_187 : decode cX11_deals 187 = .ok (.iconst 1, 1) := by decide +kernel
theorem dX11_deals_188 : decode cX11_deals 188 = .ok (.iadd, 1) := by decide +kernel
theorem dX11_deals_189 : decode cX11_deals 189 = .ok (.iastore, 1) := by decide +kernel
theorem dX11_deals_190 : decode cX11_deals 190 = .ok (.iinc 4 1, 3) := by decide +kernel
theorem dX11_deals_193 : decode cX11_deals 193 = .ok (.goto (-75), 3) := by decide +kernel
theorem dX11_deals_196 : decode cX11_deals 196 = .ok (.return_, 1) := by decide +kernel
theorem dX11_orders_0 : decode cX11_orders 0 = .ok (.aload_n 0, 1) := by decide +kernel
theorem dX11_orders_1 : decode cX11_orders 1 = .ok (.aload_n 0, 1) := by decide +kernel
theorem dX11_orders_2 : decode cX11_orders 2 = .ok (.getfield 42, 3) := by decide +kernel
theorem dX11_orders_5 : decode cX11_orders 5 = .ok (.aload_n 0, 1) := by decide +kernel
theorem dX11_orders_6 : decode cX11_orders 6 = .ok (.getfield 120, 3) := by decide +kernel
theorem dX11_orders_9 : decode cX11_orders 9 = .ok (.invokevirtual 123, 3) := by decide +kernel
theorem dX11_orders_12 : decode cX11_orders 12 = .ok (.return_, 1) := by decide +kernel
theorem dX11_wanted_0 : decode cX11_wanted 0 = .ok (.aload_n 0, 1) := by decide +kernel
theorem dX11_wanted_1 : decode cX11_wanted 1 = .ok (.iload_n 1, 1) := by decide +kernel
theorem dX11_wanted_2 : decode cX11_wanted 2 = .ok (.invokevirtual 105, 3) := by decide +kernel
theorem dX11_wanted_5 : decode cX11_wanted 5 = .ok (.aload_n 0, 1) := by decide +kernel
theorem dX11_wanted_6 : decode cX11_wanted 6 = .ok (.getfield 29, 3) := by decide +kernel
theorem dX11_wanted_9 : decode cX11_wanted 9 = .ok (.iload_n 2, 1) := by decide +kernel
theorem dX11_wanted_10 : decode cX11_wanted 10 = .ok (.iaload, 1) := by decide +kernel
theorem dX11_wanted_11 : decode cX11_wanted 11 = .ok (.isub, 1) := by decide +kernel
theorem dX11_wanted_12 : decode cX11_wanted 12 = .ok (.istore_n 3, 1) := by decide +kernel
theorem dX11_wanted_13 : decode cX11_wanted 13 = .ok (.aload_n 0, 1) := by decide +kernel
theorem dX11_wanted_14 : decode cX11_wanted 14 = .ok (.iload_n 1, 1) := by decide +kernel
theorem dX11_wanted_15 : decode cX11_wanted 15 = .ok (.invokevirtual 109, 3) := by decide +kernel
theorem dX11_wanted_18 : decode cX11_wanted 18 = .ok (.aload_n 0, 1) := by decide +kernel
theorem dX11_wanted_19 : decode cX11_wanted 19 = .ok (.getfield 32, 3) := by decide +kernel
theorem dX11_wanted_22 : decode cX11_wanted 22 = .ok (.iload_n 2, 1) := by decide +kernel
theorem dX11_wanted_23 : decode cX11_wanted 23 = .ok (.iaload, 1) := by decide +kernel
theorem dX11_wanted_24 : decode cX11_wanted 24 = .ok (.isub, 1) := by decide +kernel
theorem dX11_wanted_25 : decode cX11_wanted 25 = .ok (.istore 4, 2) := by decide +kernel
theorem dX11_wanted_27 : decode cX11_wanted 27 = .ok (.aload_n 0, 1) := by decide +kernel
theorem dX11_wanted_28 : decode cX11_wanted 28 = .ok (.iload_n 3, 1) := by decide +kernel
theorem dX11_wanted_29 : decode cX11_wanted 29 = .ok (.iload 4, 2) := by decide +kernel
theorem dX11_wanted_31 : decode cX11_wanted 31 = .ok (.invokevirtual 98, 3) := by decide +kernel
theorem dX11_wanted_34 : decode cX11_wanted 34 = .ok (.ifCond .eq 19, 3) := by decide +kernel
theorem dX11_wanted_37 : decode cX11_wanted 37 = .ok (.aload_n 0, 1) := by decide +kernel
theorem dX11_wanted_38 : decode cX11_wanted 38 = .ok (.aload_n 0, 1) := by decide +kernel
theorem dX11_wanted_39 : decode cX11_wanted 39 = .ok (.getfield 23, 3) := by decide +kernel
theorem dX11_wanted_42 : decode cX11_wanted 42 = .ok (.iload_n 2, 1) := by decide +kernel
theorem dX11_wanted_43 : decode cX11_wanted 43 = .ok (.iaload, 1) := by decide +kernel
theorem dX11_wanted_44 : decode cX11_wanted 44 = .ok (.iload_n 3, 1) := by decide +kernel
theorem dX11_wanted_45 : decode cX11_wanted 45 = .ok (.iload 4, 2) := by decide +kernel
theorem dX11_wanted_47 : decode cX11_wanted 47 = .ok (.invokevirtual 127, 3) := by decide +kernel
theorem dX11_wanted_50 : decode cX11_wanted 50 = .ok (.goto 4, 3) := by decide +kernel
theorem dX11_wanted_53 : decode cX11_wanted 53 = .ok (.iconst (-1), 1) := by decide +kernel
theorem dX11_wanted_54 : decode cX11_wanted 54 = .ok (.ireturn, 1) := by decide +kernel
theorem dX11_isInOrder_0 : decode cX11_isInOrder 0 = .ok (.iconst 1, 1) := by decide +kernel
theorem dX11_isInOrder_1 : decode cX11_isInOrder 1 = .ok (.istore_n 3, 1) := by decide +kernel
theorem dX11_isInOrder_2 : decode cX11_isInOrder 2 = .ok (.iconst 0, 1) := by decide +kernel
theorem dX11_isInOrder_3 : decode cX11_isInOrder 3 = .ok (.istore 4, 2) := by decide +kernel
theorem dX11_isInOrder_5 : decode cX11_isInOrder 5 = .ok (.iload 4, 2) := by decide +kernel
theorem dX11_isInOrder_7 : decode cX11_isInOrder 7 = .ok (.aload_n 0, 1) := by decide +kernel
theorem dX11_isInOrder_8 : decode cX11_isInOrder 8 = .ok (.getfield 7, 3) := by decide +kernel
theorem dX11_isInOrder_11 : decode cX11_isInOrder 11 = .ok (.aload_n 0, 1) := by decide +kernel
theorem dX11_isInOrder_12 : decode cX11_isInOrder 12 = .ok (.getfield 13, 3) := by decide +kernel
theorem dX11_isInOrder_15 : decode cX11_isInOrder 15 = .ok (.imul, 1) := by decide +kernel
theorem dX11_isInOrder_16 : decode cX11_isInOrder 16 = .ok (.if_icmp .ge 63, 3) := by decide +kernel
theorem dX11_isInOrder_19 : decode cX11_isInOrder 19 = .ok (.bipush 64, 2) := by decide +kernel
theorem dX11_isInOrder_21 : decode cX11_isInOrder 21 = .ok (.iload_n 1, 1) := by decide +kernel
theorem dX11_isInOrder_22 : decode cX11_isInOrder 22 = .ok (.imul, 1) := by decide +kernel
theorem dX11_isInOrder_23 : decode cX11_isInOrder 23 = .ok (.iload 4, 2) := by decide +kernel
theorem dX11_isInOrder_25 : decode cX11_isInOrder 25 = .ok (.iadd, 1) := by decide +kernel
theorem dX11_isInOrder_26 : decode cX11_isInOrder 26 = .ok (.istore 5, 2) := by decide +kernel
theorem dX11_isInOrder_28 : decode cX11_isInOrder 28 = .ok (.aload_n 0, 1) := by decide +kernel
theorem dX11_isInOrder_29 : decode cX11_isInOrder 29 = .ok (.iload 5, 2) := by decide +kernel
theorem dX11_isInOrder_31 : decode cX11_isInOrder 31 = .ok (.iconst 4, 1) := by decide +kernel
theorem dX11_isInOrder_32 : decode cX11_isInOrder 32 = .ok (.iload_n 1, 1) := by decide +kernel
theorem dX11_isInOrder_33 : decode cX11_isInOrder 33 = .ok (.imul, 1) := by decide +kernel
theorem dX11_isInOrder_34 : decode cX11_isInOrder 34 = .ok (.iload_n 2, 1) := by decide +kernel
theorem dX11_isInOrder_35 : decode cX11_isInOrder 35 = .ok (.iadd, 1) := by decide +kernel
theorem dX11_isInOrder_36 : decode cX11_isInOrder 36 = .ok (.invokevirtual 130, 3) := by decide +kernel
theorem dX11_isInOrder_39 : decode cX11_isInOrder 39 = .ok (.istore 6, 2) := by decide +kernel
theorem dX11_isInOrder_41 : decode cX11_isInOrder 41 = .ok (.iload_n 3, 1) := by decide +kernel
theorem dX11_isInOrder_42 : decode cX11_isInOrder 42 = .ok (.ifCond .eq 29, 3) := by decide +kernel
theorem dX11_isInOrder_45 : decode cX11_isInOrder 45 = .ok (.iload 6, 2) := by decide +kernel
theorem dX11_isInOrder_47 : decode cX11_isInOrder 47 = .ok (.ifCond .lt 20, 3) := by decide +kernel
theorem dX11_isInOrder_50 : decode cX11_isInOrder 50 = .ok (.aload_n 0, 1) := by decide +kernel
theorem dX11_isInOrder_51 : decode cX11_isInOrder 51 = .ok (.getfield 57, 3) := by decide +kernel
theorem dX11_isInOrder_54 : decode cX11_isInOrder 54 = .ok (.iload 6, 2) := by decide +kernel
theorem dX11_isInOrder_56 : decode cX11_isInOrder 56 = .ok (.iaload, 1) := by decide +kernel
theorem dX11_isInOrder_57 : decode cX11_isInOrder 57 = .ok (.aload_n 0, 1) := by decide +kernel
theorem dX11_isInOrder_58 : decode cX11_isInOrder 58 = .ok (.getfield 57, 3) := by decide +kernel
theorem dX11_isInOrder_61 : decode cX11_isInOrder 61 = .ok (.iload 5, 2) := by decide +kernel
theorem dX11_isInOrder_63 : decode cX11_isInOrder 63 = .ok (.iaload, 1) := by decide +kernel
theorem dX11_isInOrder_64 : decode cX11_isInOrder 64 = .ok (.if_icmp .ge 7, 3) := by decide +kernel
theorem dX11_isInOrder_67 : decode cX11_isInOrder 67 = .ok (.iconst 1, 1) := by decide +kernel
theorem dX11_isInOrder_68 : decode cX11_isInOrder 68 = .ok (.goto 4, 3) := by decide +kernel
theorem dX11_isInOrder_71 : decode cX11_isInOrder 71 = .ok (.iconst 0, 1) := by decide +kernel
theorem dX11_isInOrder_72 : decode cX11_isInOrder 72 = .ok (.istore_n 3, 1) := by decide +kernel
theorem dX11_isInOrder_73 : decode cX11_isInOrder 73 = .ok (.iinc 4 1, 3) := by decide +kernel
theorem dX11_isInOrder_76 : decode cX11_isInOrder 76 = .ok (.goto (-71), 3) := by decide +kernel
theorem dX11_isInOrder_79 : decode cX11_isInOrder 79 = .ok (.iload_n 3, 1) := by decide +kernel
theorem dX11_isInOrder_80 : decode cX11_isInOrder 80 = .ok (.ireturn, 1) := by decide +kernel
theorem dX11_areInOrder_0 : decode cX11_areInOrder 0 = .ok (.iconst 1, 1) := by decide +kernel
theorem dX11_areInOrder_1 : decode cX11_areInOrder 1 = .ok (.istore_n 1, 1) := by decide +kernel
theorem dX11_areInOrder_2 : decode cX11_areInOrder 2 = .ok (.iconst 0, 1) := by decide +kernel
theorem dX11_areInOrder_3 : decode cX11_areInOrder 3 = .ok (.istore_n 2, 1) := by decide +kernel
theorem dX11_areInOrder_4 : decode cX11_areInOrder 4 = .ok (.iload_n 2, 1) := by decide +kernel
theorem dX11_areInOrder_5 : decode cX11_areInOrder 5 = .ok (.aload_n 0, 1) := by decide +kernel
theorem dX11_areInOrder_6 : decode cX11_areInOrder 6 = .ok (.getfield 87, 3) := by decide +kernel
theorem dX11_areInOrder_9 : decode cX11_areInOrder 9 = .ok (.if_icmp .ge 46, 3) := by decide +kernel
theorem dX11_areInOrder_12 : decode cX11_areInOrder 12 = .ok (.iconst 0, 1) := by decide +kernel
theorem dX11_areInOrder_13 : decode cX11_areInOrder 13 = .ok (.istore_n 3, 1) := by decide +kernel
theorem dX11_areInOrder_14 : decode cX11_areInOrder 14 = .ok (.iload_n 3, 1) := by decide +kernel
theorem dX11_areInOrder_15 : decode cX11_areInOrder 15 = .ok (.aload_n 0, 1) := by decide +kernel
theorem dX11_areInOrder_16 : decode cX11_areInOrder 16 = .ok (.getfield 20, 3) := by decide +kernel
theorem dX11_areInOrder_19 : decode cX11_areInOrder 19 = .ok (.iload_n 2, 1) := by decide +kernel
theorem dX11_areInOrder_20 : decode cX11_areInOrder 20 = .ok (.iaload, 1) := by decide +kernel
theorem dX11_areInOrder_21 : decode cX11_areInOrder 21 = .ok (.if_icmp .ge 28, 3) := by decide +kernel
theorem dX11_areInOrder_24 : decode cX11_areInOrder 24 = .ok (.iload_n 1, 1) := by decide +kernel
theorem dX11_areInOrder_25 : decode cX11_areInOrder 25 = .ok (.ifCond .eq 16, 3) := by decide +kernel
theorem dX11_areInOrder_28 : decode cX11_areInOrder 28 = .ok (.aload_n 0, 1) := by decide +kernel
theorem dX11_areInOrder_29 : decode cX11_areInOrder 29 = .ok (.iload_n 2, 1) := by decide +kernel
theorem dX11_areInOrder_30 : decode cX11_areInOrder 30 = .ok (.iload_n 3, 1) := by decide +kernel
theorem dX11_areInOrder_31 : decode cX11_areInOrder 31 = .ok (.invokevirtual 134, 3) := by decide +kernel
theorem dX11_areInOrder_34 : decode cX11_areInOrder 34 = .ok (.ifCond .eq 7, 3) := by decide +kernel
theorem dX11_areInOrder_37 : decode cX11_areInOrder 37 = .ok (.iconst 1, 1) := by decide +kernel
theorem dX11_areInOrder_38 : decode cX11_areInOrder 38 = .ok (.goto 4, 3) := by decide +kernel
theorem dX11_areInOrder_41 : decode cX11_areInOrder 41 = .ok (.iconst 0, 1) := by decide +kernel
theorem dX11_areInOrder_42 : decode cX11_areInOrder 42 = .ok (.istore_n 1, 1) := by decide +kernel
theorem dX11_areInOrder_43 : decode cX11_areInOrder 43 = .ok (.iinc 3 1, 3) := by decide +kernel
theorem dX11_areInOrder_46 : decode cX11_areInOrder 46 = .ok (.goto (-32), 3) := by decide +kernel
theorem dX11_areInOrder_49 : decode cX11_areInOrder 49 = .ok (.iinc 2 1, 3) := by decide +kernel
theorem dX11_areInOrder_52 : decode cX11_areInOrder 52 = .ok (.goto (-48), 3) := by decide +kernel
theorem dX11_areInOrder_55 : decode cX11_areInOrder 55 = .ok (.iload_n 1, 1) := by decide +kernel
theorem dX11_areInOrder_56 : decode cX11_areInOrder 56 = .ok (.ireturn, 1) := by decide +kernel
theorem dX11_allows_0 : decode cX11_allows 0 = .ok (.aload_n 0, 1) := by decide +kernel
theorem dX11_allows_1 : decode cX11_allows 1 = .ok (.iload_n 1, 1) := by decide +kernel
theorem dX11_allows_2 : decode cX11_allows 2 = .ok (.iload_n 2, 1) := by decide +kernel
theorem dX11_allows_3 : decode cX11_allows 3 = .ok (.invokevirtual 123, 3) := by decide +kernel
theorem dX11_allows_6 : decode cX11_allows 6 = .ok (.aload_n 0, 1) := by decide +kernel
theorem dX11_allows_7 : decode cX11_allows 7 = .ok (.invokevirtual 137, 3) := by decide +kernel
theorem dX11_allows_10 : decode cX11_allows 10 = .ok (.ireturn, 1) := by decide +kernel
theorem dX11_areWeights_0 : decode cX11_areWeights 0 = .ok (.iload_n 0, 1) := by decide +kernel
theorem dX11_areWeights_1 : decode cX11_areWeights 1 = .ok (.iconst 0, 1) := by decide +kernel
theorem dX11_areWeights_2 : decode cX11_areWeights 2 = .ok (.bipush 9, 2) := by decide +kernel
theorem dX11_areWeights_4 : decode cX11_areWeights 4 = .ok (.invokestatic 90, 3) := by decide +kernel
theorem dX11_areWeights_7 : decode cX11_areWeights 7 = .ok (.ifCond .eq 17, 3) := by decide +kernel
theorem dX11_areWeights_10 : decode cX11_areWeights 10 = .ok (.iload_n 1, 1) := by decide +kernel
theorem dX11_areWeights_11 : decode cX11_areWeights 11 = .ok (.iconst 0, 1) := by decide +kernel
theorem dX11_areWeights_12 : decode cX11_areWeights 12 = .ok (.bipush 9, 2) := by decide +kernel
theorem dX11_areWeights_14 : decode cX11_areWeights 14 = .ok (.invokestatic 90, 3) := by decide +kernel
theorem dX11_areWeights_17 : decode cX11_areWeights 17 = .ok (.ifCond .eq 7, 3) := by decide +kernel
theorem dX11_areWeights_20 : decode cX11_areWeights 20 = .ok (.iconst 1, 1) := by decide +kernel
theorem dX11_areWeights_21 : decode cX11_areWeights 21 = .ok (.goto 4, 3) := by decide +kernel
theorem dX11_areWeights_24 : decode cX11_areWeights 24 = .ok (.iconst 0, 1) := by decide +kernel
theorem dX11_areWeights_25 : decode cX11_areWeights 25 = .ok (.ireturn, 1) := by decide +kernel
theorem dX11_setSchedule_0 : decode cX11_setSchedule 0 = .ok (.aload_n 0, 1) := by decide +kernel
theorem dX11_setSchedule_1 : decode cX11_setSchedule 1 = .ok (.iload_n 1, 1) := by decide +kernel
theorem dX11_setSchedule_2 : decode cX11_setSchedule 2 = .ok (.iload_n 2, 1) := by decide +kernel
theorem dX11_setSchedule_3 : decode cX11_setSchedule 3 = .ok (.invokestatic 141, 3) := by decide +kernel
theorem dX11_setSchedule_6 : decode cX11_setSchedule 6 = .ok (.ifCond .eq 7, 3) := by decide +kernel
theorem dX11_setSchedule_9 : decode cX11_setSchedule 9 = .ok (.iconst 0, 1) := by decide +kernel
theorem dX11_setSchedule_10 : decode cX11_setSchedule 10 = .ok (.goto 4, 3) := by decide +kernel
theorem dX11_setSchedule_13 : decode cX11_setSchedule 13 = .ok (.iconst 1, 1) := by decide +kernel
theorem dX11_setSchedule_14 : decode cX11_setSchedule 14 = .ok (.invokevirtual 102, 3) := by decide +kernel
theorem dX11_setSchedule_17 : decode cX11_setSchedule 17 = .ok (.ifCond .eq 5, 3) := by decide +kernel
theorem dX11_setSchedule_20 : decode cX11_setSchedule 20 = .ok (.iconst 0, 1) := by decide +kernel
theorem dX11_setSchedule_21 : decode cX11_setSchedule 21 = .ok (.ireturn, 1) := by decide +kernel
theorem dX11_setSchedule_22 : decode cX11_setSchedule 22 = .ok (.aload_n 0, 1) := by decide +kernel
theorem dX11_setSchedule_23 : decode cX11_setSchedule 23 = .ok (.iload_n 1, 1) := by decide +kernel
theorem dX11_setSchedule_24 : decode cX11_setSchedule 24 = .ok (.putfield 42, 3) := by decide +kernel
theorem dX11_setSchedule_27 : decode cX11_setSchedule 27 = .ok (.aload_n 0, 1) := by decide +kernel
theorem dX11_setSchedule_28 : decode cX11_setSchedule 28 = .ok (.iload_n 2, 1) := by decide +kernel
theorem dX11_setSchedule_29 : decode cX11_setSchedule 29 = .ok (.putfield 120, 3) := by decide +kernel
theorem dX11_setSchedule_32 : decode cX11_setSchedule 32 = .ok (.aload_n 0, 1) := by decide +kernel
theorem dX11_setSchedule_33 : decode cX11_setSchedule 33 = .ok (.aload_n 0, 1) := by decide +kernel
theorem dX11_setSchedule_34 : decode cX11_setSchedule 34 = .ok (.getfield 42, 3) := by decide +kernel
theorem dX11_setSchedule_37 : decode cX11_setSchedule 37 = .ok (.aload_n 0, 1) := by decide +kernel
theorem dX11_setSchedule_38 : decode cX11_setSchedule 38 = .ok (.getfield 120, 3) := by decide +kernel
theorem dX11_setSchedule_41 : decode cX11_setSchedule 41 = .ok (.invokevirtual 144, 3) := by decide +kernel
theorem dX11_setSchedule_44 : decode cX11_setSchedule 44 = .ok (.ireturn, 1) := by decide +kernel
theorem dX11_setOffset_0 : decode cX11_setOffset 0 = .ok (.aload_n 0, 1) := by decide +kernel
theorem dX11_setOffset_1 : decode cX11_setOffset 1 = .ok (.aload_n 0, 1) := by decide +kernel
theorem dX11_setOffset_2 : decode cX11_setOffset 2 = .ok (.iload_n 1, 1) := by decide +kernel
theorem dX11_setOffset_3 : decode cX11_setOffset 3 = .ok (.invokevirtual 94, 3) := by decide +kernel
theorem dX11_setOffset_6 : decode cX11_setOffset 6 = .ok (.ifCond .ne 7, 3) := by decide +kernel
theorem dX11_setOffset_9 : decode cX11_setOffset 9 = .ok (.iconst 1, 1) := by decide +kernel
theorem dX11_setOffset_10 : decode cX11_setOffset 10 = .ok (.goto 18, 3) := by decide +kernel
theorem dX11_setOffset_13 : decode cX11_setOffset 13 = .ok (.iload_n 2, 1) := by decide +kernel
theorem dX11_setOffset_14 : decode cX11_setOffset 14 = .ok (.iconst 0, 1) := by decide +kernel
theorem dX11_setOffset_15 : decode cX11_setOffset 15 = .ok (.bipush 30, 2) := by decide +kernel
theorem dX11_setOffset_17 : decode cX11_setOffset 17 = .ok (.invokestatic 90, 3) := by decide +kernel
theorem dX11_setOffset_20 : decode cX11_setOffset 20 = .ok (.ifCond .eq 7, 3) := by decide +kernel
theorem dX11_setOffset_23 : decode cX11_setOffset 23 = .ok (.iconst 0, 1) := by decide +kernel
theorem dX11_setOffset_24 : decode cX11_setOffset 24 = .ok (.goto 4, 3) := by decide +kernel
theorem dX11_setOffset_27 : decode cX11_setOffset 27 = .ok (.iconst 2, 1) := by decide +kernel
theorem dX11_setOffset_28 : decode cX11_setOffset 28 = .ok (.invokevirtual 102, 3) := by decide +kernel
theorem dX11_setOffset_31 : decode cX11_setOffset 31 = .ok (.ifCond .eq 5, 3) := by decide +kernel
theorem dX11_setOffset_34 : decode cX11_setOffset 34 = .ok (.iconst 0, 1) := by decide +kernel
theorem dX11_setOffset_35 : decode cX11_setOffset 35 = .ok (.ireturn, 1) := by decide +kernel
theorem dX11_setOffset_36 : decode cX11_setOffset 36 = .ok (.aload_n 0, 1) := by decide +kernel
theorem dX11_setOffset_37 : decode cX11_setOffset 37 = .ok (.getfield 39, 3) := by decide +kernel
theorem dX11_setOffset_40 : decode cX11_setOffset 40 = .ok (.iload_n 1, 1) := by decide +kernel
theorem dX11_setOffset_41 : decode cX11_setOffset 41 = .ok (.iload_n 2, 1) := by decide +kernel
theorem dX11_setOffset_42 : decode cX11_setOffset 42 = .ok (.iastore, 1) := by decide +kernel
theorem dX11_setOffset_43 : decode cX11_setOffset 43 = .ok (.aload_n 0, 1) := by decide +kernel
theorem dX11_setOffset_44 : decode cX11_setOffset 44 = .ok (.aload_n 0, 1) := by decide +kernel
theorem dX11_setOffset_45 : decode cX11_setOffset 45 = .ok (.getfield 42, 3) := by decide +kernel
theorem dX11_setOffset_48 : decode cX11_setOffset 48 = .ok (.aload_n 0, 1) := by decide +kernel
theorem dX11_setOffset_49 : decode cX11_setOffset 49 = .ok (.getfield 120, 3) := by decide +kernel
theorem dX11_setOffset_52 : decode cX11_setOffset 52 = .ok (.invokevirtual 144, 3) := by decide +kernel
theorem dX11_setOffset_55 : decode cX11_setOffset 55 = .ok (.ireturn, 1) := by decide +kernel
theorem dX11_isAllowed_0 : decode cX11_isAllowed 0 = .ok (.aload_n 0, 1) := by decide +kernel
theorem dX11_isAllowed_1 : decode cX11_isAllowed 1 = .ok (.iconst 0, 1) := by decide +kernel
theorem dX11_isAllowed_2 : decode cX11_isAllowed 2 = .ok (.putfield 84, 3) := by decide +kernel
theorem dX11_isAllowed_5 : decode cX11_isAllowed 5 = .ok (.aload_n 0, 1) := by decide +kernel
theorem dX11_isAllowed_6 : decode cX11_isAllowed 6 = .ok (.aload_n 0, 1) := by decide +kernel
theorem dX11_isAllowed_7 : decode cX11_isAllowed 7 = .ok (.getfield 42, 3) := by decide +kernel
theorem dX11_isAllowed_10 : decode cX11_isAllowed 10 = .ok (.aload_n 0, 1) := by decide +kernel
theorem dX11_isAllowed_11 : decode cX11_isAllowed 11 = .ok (.getfield 120, 3) := by decide +kernel
theorem dX11_isAllowed_14 : decode cX11_isAllowed 14 = .ok (.invokevirtual 144, 3) := by decide +kernel
theorem dX11_isAllowed_17 : decode cX11_isAllowed 17 = .ok (.ireturn, 1) := by decide +kernel
theorem dX11_isAllowedWith_0 : decode cX11_isAllowedWith 0 = .ok (.aload_n 0, 1) := by decide +kernel
theorem dX11_isAllowedWith_1 : decode cX11_isAllowedWith 1 = .ok (.iload_n 1, 1) := by decide +kernel
theorem dX11_isAllowedWith_2 : decode cX11_isAllowedWith 2 = .ok (.iload_n 2, 1) := by decide +kernel
theorem dX11_isAllowedWith_3 : decode cX11_isAllowedWith 3 = .ok (.invokestatic 141, 3) := by decide +kernel
theorem dX11_isAllowedWith_6 : decode cX11_isAllowedWith 6 = .ok (.ifCond .eq 7, 3) := by decide +kernel
theorem dX11_isAllowedWith_9 : decode cX11_isAllowedWith 9 = .ok (.iconst 0, 1) := by decide +kernel
theorem dX11_isAllowedWith_10 : decode cX11_isAllowedWith 10 = .ok (.goto 4, 3) := by decide +kernel
theorem dX11_isAllowedWith_13 : decode cX11_isAllowedWith 13 = .ok (.iconst 1, 1) := by decide +kernel
theorem dX11_isAllowedWith_14 : decode cX11_isAllowedWith 14 = .ok (.invokevirtual 102, 3) := by decide +kernel
theorem dX11_isAllowedWith_17 : decode cX11_isAllowedWith 17 = .ok (.ifCond .ne 16, 3) := by decide +kernel
theorem dX11_isAllowedWith_20 : decode cX11_isAllowedWith 20 = .ok (.aload_n 0, 1) := by decide +kernel
theorem dX11_isAllowedWith_21 : decode cX11_isAllowedWith 21 = .ok (.iload_n 1, 1) := by decide +kernel
theorem dX11_isAllowedWith_22 : decode cX11_isAllowedWith 22 = .ok (.iload_n 2, 1) := by decide +kernel
theorem dX11_isAllowedWith_23 : decode cX11_isAllowedWith 23 = .ok (.invokevirtual 144, 3) := by decide +kernel
theorem dX11_isAllowedWith_26 : decode cX11_isAllowedWith 26 = .ok (.ifCond .eq 7, 3) := by decide +kernel
theorem dX11_isAllowedWith_29 : decode cX11_isAllowedWith 29 = .ok (.iconst 1, 1) := by decide +kernel
theorem dX11_isAllowedWith_30 : decode cX11_isAllowedWith 30 = .ok (.goto 4, 3) := by decide +kernel
theorem dX11_isAllowedWith_33 : decode cX11_isAllowedWith 33 = .ok (.iconst 0, 1) := by decide +kernel
theorem dX11_isAllowedWith_34 : decode cX11_isAllowedWith 34 = .ok (.ireturn, 1) := by decide +kernel
theorem dX11_isReadInOrder_0 : decode cX11_isReadInOrder 0 = .ok (.aload_n 0, 1) := by decide +kernel
theorem dX11_isReadInOrder_1 : decode cX11_isReadInOrder 1 = .ok (.aload_n 0, 1) := by decide +kernel
theorem dX11_isReadInOrder_2 : decode cX11_isReadInOrder 2 = .ok (.iload_n 1, 1) := by decide +kernel
theorem dX11_isReadInOrder_3 : decode cX11_isReadInOrder 3 = .ok (.invokevirtual 94, 3) := by decide +kernel
theorem dX11_isReadInOrder_6 : decode cX11_isReadInOrder 6 = .ok (.ifCond .eq 23, 3) := by decide +kernel
theorem dX11_isReadInOrder_9 : decode cX11_isReadInOrder 9 = .ok (.iload_n 2, 1) := by decide +kernel
theorem dX11_isReadInOrder_10 : decode cX11_isReadInOrder 10 = .ok (.iconst 0, 1) := by decide +kernel
theorem dX11_isReadInOrder_11 : decode cX11_isReadInOrder 11 = .ok (.aload_n 0, 1) := by decide +kernel
theorem dX11_isReadInOrder_12 : decode cX11_isReadInOrder 12 = .ok (.getfield 20, 3) := by decide +kernel
theorem dX11_isReadInOrder_15 : decode cX11_isReadInOrder 15 = .ok (.iload_n 1, 1) := by decide +kernel
theorem dX11_isReadInOrder_16 : decode cX11_isReadInOrder 16 = .ok (.iaload, 1) := by decide +kernel
theorem dX11_isReadInOrder_17 : decode cX11_isReadInOrder 17 = .ok (.iconst 1, 1) := by decide +kernel
theorem dX11_isReadInOrder_18 : decode cX11_isReadInOrder 18 = .ok (.isub, 1) := by decide +kernel
theorem dX11_isReadInOrder_19 : decode cX11_isReadInOrder 19 = .ok (.invokestatic 90, 3) := by decide +kernel
theorem dX11_isReadInOrder_22 : decode cX11_isReadInOrder 22 = .ok (.ifCond .eq 7, 3) := by decide +kernel
theorem dX11_isReadInOrder_25 : decode cX11_isReadInOrder 25 = .ok (.iconst 0, 1) := by decide +kernel
theorem dX11_isReadInOrder_26 : decode cX11_isReadInOrder 26 = .ok (.goto 4, 3) := by decide +kernel
theorem dX11_isReadInOrder_29 : decode cX11_isReadInOrder 29 = .ok (.iconst 1, 1) := by decide +kernel
theorem dX11_isReadInOrder_30 : decode cX11_isReadInOrder 30 = .ok (.invokevirtual 102, 3) := by decide +kernel
theorem dX11_isReadInOrder_33 : decode cX11_isReadInOrder 33 = .ok (.ifCond .eq 5, 3) := by decide +kernel
theorem dX11_isReadInOrder_36 : decode cX11_isReadInOrder 36 = .ok (.iconst 0, 1) := by decide +kernel
theorem dX11_isReadInOrder_37 : decode cX11_isReadInOrder 37 = .ok (.ireturn, 1) := by decide +kernel
theorem dX11_isReadInOrder_38 : decode cX11_isReadInOrder 38 = .ok (.aload_n 0, 1) := by decide +kernel
theorem dX11_isReadInOrder_39 : decode cX11_isReadInOrder 39 = .ok (.invokevirtual 147, 3) := by decide +kernel
theorem dX11_isReadInOrder_42 : decode cX11_isReadInOrder 42 = .ok (.aload_n 0, 1) := by decide +kernel
theorem dX11_isReadInOrder_43 : decode cX11_isReadInOrder 43 = .ok (.iload_n 1, 1) := by decide +kernel
theorem dX11_isReadInOrder_44 : decode cX11_isReadInOrder 44 = .ok (.iload_n 2, 1) := by decide +kernel
theorem dX11_isReadInOrder_45 : decode cX11_isReadInOrder 45 = .ok (.invokevirtual 134, 3) := by decide +kernel
theorem dX11_isReadInOrder_48 : decode cX11_isReadInOrder 48 = .ok (.ireturn, 1) := by decide +kernel
theorem dX11_steps_0 : decode cX11_steps 0 = .ok (.aload_n 0, 1) := by decide +kernel
theorem dX11_steps_1 : decode cX11_steps 1 = .ok (.iconst 0, 1) := by decide +kernel
theorem dX11_steps_2 : decode cX11_steps 2 = .ok (.putfield 84, 3) := by decide +kernel
theorem dX11_steps_5 : decode cX11_steps 5 = .ok (.aload_n 0, 1) := by decide +kernel
theorem dX11_steps_6 : decode cX11_steps 6 = .ok (.invokevirtual 112, 3) := by decide +kernel
theorem dX11_steps_9 : decode cX11_steps 9 = .ok (.ireturn, 1) := by decide +kernel
theorem dX11_stepOf_0 : decode cX11_stepOf 0 = .ok (.aload_n 0, 1) := by decide +kernel
theorem dX11_stepOf_1 : decode cX11_stepOf 1 = .ok (.aload_n 0, 1) := by decide +kernel
theorem dX11_stepOf_2 : decode cX11_stepOf 2 = .ok (.iload_n 1, 1) := by decide +kernel
theorem dX11_stepOf_3 : decode cX11_stepOf 3 = .ok (.iload_n 2, 1) := by decide +kernel
theorem dX11_stepOf_4 : decode cX11_stepOf 4 = .ok (.iload_n 3, 1) := by decide +kernel
theorem dX11_stepOf_5 : decode cX11_stepOf 5 = .ok (.invokevirtual 150, 3) := by decide +kernel
theorem dX11_stepOf_8 : decode cX11_stepOf 8 = .ok (.ifCond .eq 7, 3) := by decide +kernel
theorem dX11_stepOf_11 : decode cX11_stepOf 11 = .ok (.iconst 0, 1) := by decide +kernel
theorem dX11_stepOf_12 : decode cX11_stepOf 12 = .ok (.goto 4, 3) := by decide +kernel
theorem dX11_stepOf_15 : decode cX11_stepOf 15 = .ok (.iconst 1, 1) := by decide +kernel
theorem dX11_stepOf_16 : decode cX11_stepOf 16 = .ok (.invokevirtual 102, 3) := by decide +kernel
theorem dX11_stepOf_19 : decode cX11_stepOf 19 = .ok (.ifCond .eq 5, 3) := by decide +kernel
theorem dX11_stepOf_22 : decode cX11_stepOf 22 = .ok (.iconst 0, 1) := by decide +kernel
theorem dX11_stepOf_23 : decode cX11_stepOf 23 = .ok (.ireturn, 1) := by decide +kernel
theorem dX11_stepOf_24 : decode cX11_stepOf 24 = .ok (.aload_n 0, 1) := by decide +kernel
theorem dX11_stepOf_25 : decode cX11_stepOf 25 = .ok (.invokevirtual 147, 3) := by decide +kernel
theorem dX11_stepOf_28 : decode cX11_stepOf 28 = .ok (.aload_n 0, 1) := by decide +kernel
theorem dX11_stepOf_29 : decode cX11_stepOf 29 = .ok (.getfield 57, 3) := by decide +kernel
theorem dX11_stepOf_32 : decode cX11_stepOf 32 = .ok (.aload_n 0, 1) := by decide +kernel
theorem dX11_stepOf_33 : decode cX11_stepOf 33 = .ok (.iload_n 1, 1) := by decide +kernel
theorem dX11_stepOf_34 : decode cX11_stepOf 34 = .ok (.iload_n 2, 1) := by decide +kernel
theorem dX11_stepOf_35 : decode cX11_stepOf 35 = .ok (.iload_n 3, 1) := by decide +kernel
theorem dX11_stepOf_36 : decode cX11_stepOf 36 = .ok (.invokevirtual 127, 3) := by decide +kernel
theorem dX11_stepOf_39 : decode cX11_stepOf 39 = .ok (.iaload, 1) := by decide +kernel
theorem dX11_stepOf_40 : decode cX11_stepOf 40 = .ok (.ireturn, 1) := by decide +kernel
theorem dX11_isStep_0 : decode cX11_isStep 0 = .ok (.iload_n 1, 1) := by decide +kernel
theorem dX11_isStep_1 : decode cX11_isStep 1 = .ok (.iconst 0, 1) := by decide +kernel
theorem dX11_isStep_2 : decode cX11_isStep 2 = .ok (.aload_n 0, 1) := by decide +kernel
theorem dX11_isStep_3 : decode cX11_isStep 3 = .ok (.invokevirtual 112, 3) := by decide +kernel
theorem dX11_isStep_6 : decode cX11_isStep 6 = .ok (.iconst 1, 1) := by decide +kernel
theorem dX11_isStep_7 : decode cX11_isStep 7 = .ok (.isub, 1) := by decide +kernel
theorem dX11_isStep_8 : decode cX11_isStep 8 = .ok (.invokestatic 90, 3) := by decide +kernel
theorem dX11_isStep_11 : decode cX11_isStep 11 = .ok (.ireturn, 1) := by decide +kernel
theorem dX11_statementAt_0 : decode cX11_statementAt 0 = .ok (.aload_n 0, 1) := by decide +kernel
theorem dX11_statementAt_1 : decode cX11_statementAt 1 = .ok (.aload_n 0, 1) := by decide +kernel
theorem dX11_statementAt_2 : decode cX11_statementAt 2 = .ok (.iload_n 1, 1) := by decide +kernel
theorem dX11_statementAt_3 : decode cX11_statementAt 3 = .ok (.invokevirtual 153, 3) := by decide +kernel
theorem dX11_statementAt_6 : decode cX11_statementAt 6 = .ok (.ifCond .eq 7, 3) := by decide +kernel
theorem dX11_statementAt_9 : decode cX11_statementAt 9 = .ok (.iconst 0, 1) := by decide +kernel
theorem dX11_statementAt_10 : decode cX11_statementAt 10 = .ok (.goto 4, 3) := by decide +kernel
theorem dX11_statementAt_13 : decode cX11_statementAt 13 = .ok (.iconst 1, 1) := by decide +kernel
theorem dX11_statementAt_14 : decode cX11_statementAt 14 = .ok (.invokevirtual 102, 3) := by decide +kernel
theorem dX11_statementAt_17 : decode cX11_statementAt 17 = .ok (.ifCond .eq 5, 3) := by decide +kernel
theorem dX11_statementAt_20 : decode cX11_statementAt 20 = .ok (.iconst 0, 1) := by decide +kernel
theorem dX11_statementAt_21 : decode cX11_statementAt 21 = .ok (.ireturn, 1) := by decide +kernel
theorem dX11_statementAt_22 : decode cX11_statementAt 22 = .ok (.aload_n 0, 1) := by decide +kernel
theorem dX11_statementAt_23 : decode cX11_statementAt 23 = .ok (.invokevirtual 147, 3) := by decide +kernel
theorem dX11_statementAt_26 : decode cX11_statementAt 26 = .ok (.aload_n 0, 1) := by decide +kernel
theorem dX11_statementAt_27 : decode cX11_statementAt 27 = .ok (.getfield 60, 3) := by decide +kernel
theorem dX11_statementAt_30 : decode cX11_statementAt 30 = .ok (.iload_n 1, 1) := by decide +kernel
theorem dX11_statementAt_31 : decode cX11_statementAt 31 = .ok (.iaload, 1) := by decide +kernel
theorem dX11_statementAt_32 : decode cX11_statementAt 32 = .ok (.bipush 64, 2) := by decide +kernel
theorem dX11_statementAt_34 : decode cX11_statementAt 34 = .ok (.idiv, 1) := by decide +kernel
theorem dX11_statementAt_35 : decode cX11_statementAt 35 = .ok (.ireturn, 1) := by decide +kernel
theorem dX11_pointAt_0 : decode cX11_pointAt 0 = .ok (.aload_n 0, 1) := by decide +kernel
theorem dX11_pointAt_1 : decode cX11_pointAt 1 = .ok (.aload_n 0, 1) := by decide +kernel
theorem dX11_pointAt_2 : decode cX11_pointAt 2 = .ok (.iload_n 1, 1) := by decide +kernel
theorem dX11_pointAt_3 : decode cX11_pointAt 3 = .ok (.invokevirtual 153, 3) := by decide +kernel
theorem dX11_pointAt_6 : decode cX11_pointAt 6 = .ok (.ifCond .eq 7, 3) := by decide +kernel
theorem dX11_pointAt_9 : decode cX11_pointAt 9 = .ok (.iconst 0, 1) := by decide +kernel
theorem dX11_pointAt_10 : decode cX11_pointAt 10 = .ok (.goto 4, 3) := by decide +kernel
theorem dX11_pointAt_13 : decode cX11_pointAt 13 = .ok (.iconst 1, 1) := by decide +kernel
theorem dX11_pointAt_14 : decode cX11_pointAt 14 = .ok (.invokevirtual 102, 3) := by decide +kernel
theorem dX11_pointAt_17 : decode cX11_pointAt 17 = .ok (.ifCond .eq 5, 3) := by decide +kernel
theorem dX11_pointAt_20 : decode cX11_pointAt 20 = .ok (.iconst 0, 1) := by decide +kernel
theorem dX11_pointAt_21 : decode cX11_pointAt 21 = .ok (.ireturn, 1) := by decide +kernel
theorem dX11_pointAt_22 : decode cX11_pointAt 22 = .ok (.aload_n 0, 1) := by decide +kernel
theorem dX11_pointAt_23 : decode cX11_pointAt 23 = .ok (.invokevirtual 147, 3) := by decide +kernel
theorem dX11_pointAt_26 : decode cX11_pointAt 26 = .ok (.aload_n 0, 1) := by decide +kernel
theorem dX11_pointAt_27 : decode cX11_pointAt 27 = .ok (.getfield 60, 3) := by decide +kernel
theorem dX11_pointAt_30 : decode cX11_pointAt 30 = .ok (.iload_n 1, 1) := by decide +kernel
theorem dX11_pointAt_31 : decode cX11_pointAt 31 = .ok (.iaload, 1) := by decide +kernel
theorem dX11_pointAt_32 : decode cX11_pointAt 32 = .ok (.bipush 64, 2) := by decide +kernel
theorem dX11_pointAt_34 : decode cX11_pointAt 34 = .ok (.irem, 1) := by decide +kernel
theorem dX11_pointAt_35 : decode cX11_pointAt 35 = .ok (.ireturn, 1) := by decide +kernel
theorem dX11_lives_0 : decode cX11_lives 0 = .ok (.iconst 0, 1) := by decide +kernel
theorem dX11_lives_1 : decode cX11_lives 1 = .ok (.istore_n 1, 1) := by decide +kernel
theorem dX11_lives_2 : decode cX11_lives 2 = .ok (.iload_n 1, 1) := by decide +kernel
theorem dX11_lives_3 : decode cX11_lives 3 = .ok (.aload_n 0, 1) := by decide +kernel
theorem dX11_lives_4 : decode cX11_lives 4 = .ok (.invokevirtual 112, 3) := by decide +kernel
theorem dX11_lives_7 : decode cX11_lives 7 = .ok (.if_icmp .ge 42, 3) := by decide +kernel
theorem dX11_lives_10 : decode cX11_lives 10 = .ok (.aload_n 0, 1) := by decide +kernel
theorem dX11_lives_11 : decode cX11_lives 11 = .ok (.getfield 60, 3) := by decide +kernel
theorem dX11_lives_14 : decode cX11_lives 14 = .ok (.iload_n 1, 1) := by decide +kernel
theorem dX11_lives_15 : decode cX11_lives 15 = .ok (.iaload, 1) := by decide +kernel
theorem dX11_lives_16 : decode cX11_lives 16 = .ok (.istore_n 2, 1) := by decide +kernel
theorem dX11_lives_17 : decode cX11_lives 17 = .ok (.aload_n 0, 1) := by decide +kernel
theorem dX11_lives_18 : decode cX11_lives 18 = .ok (.getfield 63, 3) := by decide +kernel
theorem dX11_lives_21 : decode cX11_lives 21 = .ok (.iload_n 2, 1) := by decide +kernel
theorem dX11_lives_22 : decode cX11_lives 22 = .ok (.aload_n 0, 1) := by decide +kernel
theorem dX11_lives_23 : decode cX11_lives 23 = .ok (.getfield 35, 3) := by decide +kernel
theorem dX11_lives_26 : decode cX11_lives 26 = .ok (.iload_n 2, 1) := by decide +kernel
theorem dX11_lives_27 : decode cX11_lives 27 = .ok (.bipush 64, 2) := by decide +kernel
theorem dX11_lives_29 : decode cX11_lives 29 = .ok (.idiv, 1) := by decide +kernel
theorem dX11_lives_30 : decode cX11_lives 30 = .ok (.baload, 1) := by decide +kernel
theorem dX11_lives_31 : decode cX11_lives 31 = .ok (.ifCond .eq 10, 3) := by decide +kernel
theorem dX11_lives_34 : decode cX11_lives 34 = .ok (.aload_n 0, 1) := by decide +kernel
theorem dX11_lives_35 : decode cX11_lives 35 = .ok (.invokevirtual 112, 3) := by decide +kernel
theorem dX11_lives_38 : decode cX11_lives 38 = .ok (.goto 4, 3) := by decide +kernel
theorem dX11_lives_41 : decode cX11_lives 41 = .ok (.iload_n 1, 1) := by decide +kernel
theorem dX11_lives_42 : decode cX11_lives 42 = .ok (.iastore, 1) := by decide +kernel
theorem dX11_lives_43 : decode cX11_lives 43 = .ok (.iinc 1 1, 3) := by decide +kernel
theorem dX11_lives_46 : decode cX11_lives 46 = .ok (.goto (-44), 3) := by decide +kernel
theorem dX11_lives_49 : decode cX11_lives 49 = .ok (.iconst 0, 1) := by decide +kernel
theorem dX11_lives_50 : decode cX11_lives 50 = .ok (.istore_n 1, 1) := by decide +kernel
theorem dX11_lives_51 : decode cX11_lives 51 = .ok (.iload_n 1, 1) := by decide +kernel
theorem dX11_lives_52 : decode cX11_lives 52 = .ok (.aload_n 0, 1) := by decide +kernel
theorem dX11_lives_53 : decode cX11_lives 53 = .ok (.invokevirtual 112, 3) := by decide +kernel
theorem dX11_lives_56 : decode cX11_lives 56 = .ok (.if_icmp .ge 80, 3) := by decide +kernel
theorem dX11_lives_59 : decode cX11_lives 59 = .ok (.aload_n 0, 1) := by decide +kernel
theorem dX11_lives_60 : decode cX11_lives 60 = .ok (.getfield 60, 3) := by decide +kernel
theorem dX11_lives_63 : decode cX11_lives 63 = .ok (.iload_n 1, 1) := by decide +kernel
theorem dX11_lives_64 : decode cX11_lives 64 = .ok (.iaload, 1) := by decide +kernel
theorem dX11_lives_65 : decode cX11_lives 65 = .ok (.bipush 64, 2) := by decide +kernel
theorem dX11_lives_67 : decode cX11_lives 67 = .ok (.idiv, 1) := by decide +kernel
theorem dX11_lives_68 : decode cX11_lives 68 = .ok (.istore_n 2, 1) := by decide +kernel
theorem dX11_lives_69 : decode cX11_lives 69 = .ok (.iconst 4, 1) := by decide +kernel
theorem dX11_lives_70 : decode cX11_lives 70 = .ok (.iload_n 2, 1) := by decide +kernel
theorem dX11_lives_71 : decode cX11_lives 71 = .ok (.imul, 1) := by decide +kernel
theorem dX11_lives_72 : decode cX11_lives 72 = .ok (.istore_n 3, 1) := by decide +kernel
theorem dX11_lives_73 : decode cX11_lives 73 = .ok (.iload_n 3, 1) := by decide +kernel
theorem dX11_lives_74 : decode cX11_lives 74 = .ok (.iconst 4, 1) := by decide +kernel
theorem dX11_lives_75 : decode cX11_lives 75 = .ok (.iload_n 2, 1) := by decide +kernel
theorem dX11_lives_76 : decode cX11_lives 76 = .ok (.imul, 1) := by decide +kernel
theorem dX11_lives_77 : decode cX11_lives 77 = .ok (.aload_n 0, 1) := by decide +kernel
theorem dX11_lives_78 : decode cX11_lives 78 = .ok (.getfield 20, 3) := by decide +kernel
theorem dX11_lives_81 : decode cX11_lives 81 = .ok (.iload_n 2, 1) := by decide +kernel
theorem dX11_lives_82 : decode cX11_lives 82 = .ok (.iaload, 1) := by decide +kernel
theorem dX11_lives_83 : decode cX11_lives 83 = .ok (.iadd, 1) := by decide +kernel
theorem dX11_lives_84 : decode cX11_lives 84 = .ok (.if_icmp .ge 46, 3) := by decide +kernel
theorem dX11_lives_87 : decode cX11_lives 87 = .ok (.aload_n 0, 1) := by decide +kernel
theorem dX11_lives_88 : decode cX11_lives 88 = .ok (.aload_n 0, 1) := by decide +kernel
theorem dX11_lives_89 : decode cX11_lives 89 = .ok (.getfield 60, 3) := by decide +kernel
theorem dX11_lives_92 : decode cX11_lives 92 = .ok (.iload_n 1, 1) := by decide +kernel
theorem dX11_lives_93 : decode cX11_lives 93 = .ok (.iaload, 1) := by decide +kernel
theorem dX11_lives_94 : decode cX11_lives 94 = .ok (.iload_n 3, 1) := by decide +kernel
theorem dX11_lives_95 : decode cX11_lives 95 = .ok (.invokevirtual 130, 3) := by decide +kernel
theorem dX11_lives_98 : decode cX11_lives 98 = .ok (.istore 4, 2) := by decide +kernel
theorem dX11_lives_100 : decode cX11_lives 100 = .ok (.iload 4, 2) := by decide +kernel
theorem dX11_lives_102 : decode cX11_lives 102 = .ok (.ifCond .lt 22, 3) := by decide +kernel
theorem dX11_lives_105 : decode cX11_lives 105 = .ok (.aload_n 0, 1) := by decide +kernel
theorem dX11_lives_106 : decode cX11_lives 106 = .ok (.getfield 63, 3) := by decide +kernel
theorem dX11_lives_109 : decode cX11_lives 109 = .ok (.iload 4, 2) := by decide +kernel
theorem dX11_lives_111 : decode cX11_lives 111 = .ok (.iaload, 1) := by decide +kernel
theorem dX11_lives_112 : decode cX11_lives 112 = .ok (.iload_n 1, 1) := by decide +kernel
theorem dX11_lives_113 : decode cX11_lives 113 = .ok (.if_icmp .ge 11, 3) := by decide +kernel
theorem dX11_lives_116 : decode cX11_lives 116 = .ok (.aload_n 0, 1) := by decide +kernel
theorem dX11_lives_117 : decode cX11_lives 117 = .ok (.getfield 63, 3) := by decide +kernel
theorem dX11_lives_120 : decode cX11_lives 120 = .ok (.iload 4, 2) := by decide +kernel
theorem dX11_lives_122 : decode cX11_lives 122 = .ok (.iload_n 1, 1) := by decide +kernel
theorem dX11_lives_123 : decode cX11_lives 123 = .ok (.iastore, 1) := by decide +kernel
theorem dX11_lives_124 : decode cX11_lives 124 = .ok (.iinc 3 1, 3) := by decide +kernel
theorem dX11_lives_127 : decode cX11_lives 127 = .ok (.goto (-54), 3) := by decide +kernel
theorem dX11_lives_130 : decode cX11_lives 130 = .ok (.iinc 1 1, 3) := by decide +kernel
theorem dX11_lives_133 : decode cX11_lives 133 = .ok (.goto (-82), 3) := by decide +kernel
theorem dX11_lives_136 : decode cX11_lives 136 = .ok (.return_, 1) := by decide +kernel
theorem dX11_finds_0 : decode cX11_finds 0 = .ok (.aload_n 0, 1) := by decide +kernel
theorem dX11_finds_1 : decode cX11_finds 1 = .ok (.invokevirtual 147, 3) := by decide +kernel
theorem dX11_finds_4 : decode cX11_finds 4 = .ok (.aload_n 0, 1) := by decide +kernel
theorem dX11_finds_5 : decode cX11_finds 5 = .ok (.invokevirtual 156, 3) := by decide +kernel
theorem dX11_finds_8 : decode cX11_finds 8 = .ok (.return_, 1) := by decide +kernel
theorem dX11_endOf_0 : decode cX11_endOf 0 = .ok (.aload_n 0, 1) := by decide +kernel
theorem dX11_endOf_1 : decode cX11_endOf 1 = .ok (.aload_n 0, 1) := by decide +kernel
theorem dX11_endOf_2 : decode cX11_endOf 2 = .ok (.iload_n 1, 1) := by decide +kernel
theorem dX11_endOf_3 : decode cX11_endOf 3 = .ok (.iload_n 2, 1) := by decide +kernel
theorem dX11_endOf_4 : decode cX11_endOf 4 = .ok (.iload_n 3, 1) := by decide +kernel
theorem dX11_endOf_5 : decode cX11_endOf 5 = .ok (.invokevirtual 150, 3) := by decide +kernel
theorem dX11_endOf_8 : decode cX11_endOf 8 = .ok (.ifCond .eq 7, 3) := by decide +kernel
theorem dX11_endOf_11 : decode cX11_endOf 11 = .ok (.iconst 0, 1) := by decide +kernel
theorem dX11_endOf_12 : decode cX11_endOf 12 = .ok (.goto 4, 3) := by decide +kernel
theorem dX11_endOf_15 : decode cX11_endOf 15 = .ok (.iconst 1, 1) := by decide +kernel
theorem dX11_endOf_16 : decode cX11_endOf 16 = .ok (.invokevirtual 102, 3) := by decide +kernel
theorem dX11_endOf_19 : decode cX11_endOf 19 = .ok (.ifCond .eq 5, 3) := by decide +kernel
theorem dX11_endOf_22 : decode cX11_endOf 22 = .ok (.iconst 0, 1) := by decide +kernel
theorem dX11_endOf_23 : decode cX11_endOf 23 = .ok (.ireturn, 1) := by decide +kernel
theorem dX11_endOf_24 : decode cX11_endOf 24 = .ok (.aload_n 0, 1) := by decide +kernel
theorem dX11_endOf_25 : decode cX11_endOf 25 = .ok (.invokevirtual 159, 3) := by decide +kernel
theorem dX11_endOf_28 : decode cX11_endOf 28 = .ok (.aload_n 0, 1) := by decide +kernel
theorem dX11_endOf_29 : decode cX11_endOf 29 = .ok (.getfield 63, 3) := by decide +kernel
theorem dX11_endOf_32 : decode cX11_endOf 32 = .ok (.aload_n 0, 1) := by decide +kernel
theorem dX11_endOf_33 : decode cX11_endOf 33 = .ok (.iload_n 1, 1) := by decide +kernel
theorem dX11_endOf_34 : decode cX11_endOf 34 = .ok (.iload_n 2, 1) := by decide +kernel
theorem dX11_endOf_35 : decode cX11_endOf 35 = .ok (.iload_n 3, 1) := by decide +kernel
theorem dX11_endOf_36 : decode cX11_endOf 36 = .ok (.invokevirtual 127, 3) := by decide +kernel
theorem dX11_endOf_39 : decode cX11_endOf 39 = .ok (.iaload, 1) := by decide +kernel
theorem dX11_endOf_40 : decode cX11_endOf 40 = .ok (.ireturn, 1) := by decide +kernel
theorem dX11_most_0 : decode cX11_most 0 = .ok (.aload_n 0, 1) := by decide +kernel
theorem dX11_most_1 : decode cX11_most 1 = .ok (.invokevirtual 159, 3) := by decide +kernel
theorem dX11_most_4 : decode cX11_most 4 = .ok (.iconst 0, 1) := by decide +kernel
theorem dX11_most_5 : decode cX11_most 5 = .ok (.istore_n 3, 1) := by decide +kernel
theorem dX11_most_6 : decode cX11_most 6 = .ok (.iload_n 3, 1) := by decide +kernel
theorem dX11_most_7 : decode cX11_most 7 = .ok (.sipush 258, 3) := by decide +kernel
theorem dX11_most_10 : decode cX11_most 10 = .ok (.if_icmp .ge 16, 3) := by decide +kernel
theorem dX11_most_13 : decode cX11_most 13 = .ok (.aload_n 0, 1) := by decide +kernel
theorem dX11_most_14 : decode cX11_most 14 = .ok (.getfield 75, 3) := by decide +kernel
theorem dX11_most_17 : decode cX11_most 17 = .ok (.iload_n 3, 1) := by decide +kernel
theorem dX11_most_18 : decode cX11_most 18 = .ok (.iconst 0, 1) := by decide +kernel
theorem dX11_most_19 : decode cX11_most 19 = .ok (.iastore, 1) := by decide +kernel
theorem dX11_most_20 : decode cX11_most 20 = .ok (.iinc 3 1, 3) := by decide +kernel
theorem dX11_most_23 : decode cX11_most 23 = .ok (.goto (-17), 3) := by decide +kernel
theorem dX11_most_26 : decode cX11_most 26 = .ok (.iconst 0, 1) := by decide +kernel
theorem dX11_most_27 : decode cX11_most 27 = .ok (.istore_n 3, 1) := by decide +kernel
theorem dX11_most_28 : decode cX11_most 28 = .ok (.iload_n 3, 1) := by decide +kernel
theorem dX11_most_29 : decode cX11_most 29 = .ok (.aload_n 0, 1) := by decide +kernel
theorem dX11_most_30 : decode cX11_most 30 = .ok (.invokevirtual 112, 3) := by decide +kernel
theorem dX11_most_33 : decode cX11_most 33 = .ok (.if_icmp .ge 60, 3) := by decide +kernel
theorem dX11_most_36 : decode cX11_most 36 = .ok (.aload_n 0, 1) := by decide +kernel
theorem dX11_most_37 : decode cX11_most 37 = .ok (.getfield 60, 3) := by decide +kernel
theorem dX11_most_40 : decode cX11_most 40 = .ok (.iload_n 3, 1) := by decide +kernel
theorem dX11_most_41 : decode cX11_most 41 = .ok (.iaload, 1) := by decide +kernel
theorem dX11_most_42 : decode cX11_most 42 = .ok (.istore 4, 2) := by decide +kernel
theorem dX11_most_44 : decode cX11_most 44 = .ok (.iload_n 1, 1) := by decide +kernel
theorem dX11_most_45 : decode cX11_most 45 = .ok (.ifCond .lt 12, 3) := by decide +kernel
theorem dX11_most_48 : decode cX11_most 48 = .ok (.iload 4, 2) := by decide +kernel
theorem dX11_most_50 : decode cX11_most 50 = .ok (.bipush 64, 2) := by decide +kernel
theorem dX11_most_52 : decode cX11_most 52 = .ok (.idiv, 1) := by decide +kernel
theorem dX11_most_53 : decode cX11_most 53 = .ok (.iload_n 1, 1) := by decide +kernel
theorem dX11_most_54 : decode cX11_most 54 = .ok (.if_icmp .ne 33, 3) := by decide +kernel
theorem dX11_most_57 : decode cX11_most 57 = .ok (.aload_n 0, 1) := by decide +kernel
theorem dX11_most_58 : decode cX11_most 58 = .ok (.getfield 75, 3) := by decide +kernel
theorem dX11_most_61 : decode cX11_most 61 = .ok (.iload_n 3, 1) := by decide +kernel
theorem dX11_most_62 : decode cX11_most 62 = .ok (.iconst 1, 1) := by decide +kernel
theorem dX11_most_63 : decode cX11_most 63 = .ok (.iadd, 1) := by decide +kernel
theorem dX11_most_64 : decode cX11_most 64 = .ok (.dup2, 1) := by decide +kernel
theorem dX11_most_65 : decode cX11_most 65 = .ok (.iaload, 1) := by decide +kernel
theorem dX11_most_66 : decode cX11_most 66 = .ok (.iconst 1, 1) := by decide +kernel
theorem dX11_most_67 : decode cX11_most 67 = .ok (.iadd, 1) := by decide +kernel
theorem dX11_most_68 : decode cX11_most 68 = .ok (.iastore, 1) := by decide +kernel
theorem dX11_most_69 : decode cX11_most 69 = .ok (.aload_n 0, 1) := by decide +kernel
theorem dX11_most_70 : decode cX11_most 70 = .ok (.getfield 75, 3) := by decide +kernel
theorem dX11_most_73 : decode cX11_most 73 = .ok (.aload_n 0, 1) := by decide +kernel
theorem dX11_most_74 : decode cX11_most 74 = .ok (.getfield 63, 3) := by decide +kernel
theorem dX11_most_77 : decode cX11_most 77 = .ok (.iload 4, 2) := by decide +kernel
theorem dX11_most_79 : decode cX11_most 79 = .ok (.iaload, 1) := by decide +kernel
theorem dX11_most_80 : decode cX11_most 80 = .ok (.iconst 1, 1) := by decide +kernel
theorem dX11_most_81 : decode cX11_most 81 = .ok (.iadd, 1) := by decide +kernel
theorem dX11_most_82 : decode cX11_most 82 = .ok (.dup2, 1) := by decide +kernel
theorem dX11_most_83 : decode cX11_most 83 = .ok (.iaload, 1) := by decide +kernel
theorem dX11_most_84 : decode cX11_most 84 = .ok (.iconst 1, 1) := by decide +kernel
theorem dX11_most_85 : decode cX11_most 85 = .ok (.isub, 1) := by decide +kernel
theorem dX11_most_86 : decode cX11_most 86 = .ok (.iastore, 1) := by decide +kernel
theorem dX11_most_87 : decode cX11_most 87 = .ok (.iinc 3 1, 3) := by decide +kernel
theorem dX11_most_90 : decode cX11_most 90 = .ok (.goto (-62), 3) := by decide +kernel
theorem dX11_most_93 : decode cX11_most 93 = .ok (.iconst 0, 1) := by decide +kernel
theorem dX11_most_94 : decode cX11_most 94 = .ok (.istore_n 3, 1) := by decide +kernel
theorem dX11_most_95 : decode cX11_most 95 = .ok (.iconst 0, 1) := by decide +kernel
theorem dX11_most_96 : decode cX11_most 96 = .ok (.istore 4, 2) := by decide +kernel
theorem dX11_most_98 : decode cX11_most 98 = .ok (.iconst 0, 1) := by decide +kernel
theorem dX11_most_99 : decode cX11_most 99 = .ok (.istore 5, 2) := by decide +kernel
theorem dX11_most_101 : decode cX11_most 101 = .ok (.iload 5, 2) := by decide +kernel
theorem dX11_most_103 : decode cX11_most 103 = .ok (.aload_n 0, 1) := by decide +kernel
theorem dX11_most_104 : decode cX11_most 104 = .ok (.invokevirtual 112, 3) := by decide +kernel
theorem dX11_most_107 : decode cX11_most 107 = .ok (.if_icmp .ge 43, 3) := by decide +kernel
theorem dX11_most_110 : decode cX11_most 110 = .ok (.iload_n 3, 1) := by decide +kernel
theorem dX11_most_111 : decode cX11_most 111 = .ok (.aload_n 0, 1) := by decide +kernel
theorem dX11_most_112 : decode cX11_most 112 = .ok (.getfield 75, 3) := by decide +kernel
theorem dX11_most_115 : decode cX11_most 115 = .ok (.iload 5, 2) := by decide +kernel
theorem dX11_most_117 : decode cX11_most 117 = .ok (.iaload, 1) := by decide +kernel
theorem dX11_most_118 : decode cX11_most 118 = .ok (.iadd, 1) := by decide +kernel
theorem dX11_most_119 : decode cX11_most 119 = .ok (.istore_n 3, 1) := by decide +kernel
theorem dX11_most_120 : decode cX11_most 120 = .ok (.iload_n 2, 1) := by decide +kernel
theorem dX11_most_121 : decode cX11_most 121 = .ok (.ifCond .ge 9, 3) := by decide +kernel
theorem dX11_most_124 : decode cX11_most 124 = .ok (.iload_n 3, 1) := by decide +kernel
theorem dX11_most_125 : decode cX11_most 125 = .ok (.iload 4, 2) := by decide +kernel
theorem dX11_most_127 : decode cX11_most 127 = .ok (.if_icmp .gt 9, 3) := by decide +kernel
theorem dX11_most_130 : decode cX11_most 130 = .ok (.iload_n 2, 1) := by decide +kernel
theorem dX11_most_131 : decode cX11_most 131 = .ok (.iload 5, 2) := by decide +kernel
theorem dX11_most_133 : decode cX11_most 133 = .ok (.if_icmp .ne 7, 3) := by decide +kernel
theorem dX11_most_136 : decode cX11_most 136 = .ok (.iload_n 3, 1) := by decide +kernel
theorem dX11_most_137 : decode cX11_most 137 = .ok (.goto 5, 3) := by decide +kernel
theorem dX11_most_140 : decode cX11_most 140 = .ok (.iload 4, 2) := by decide +kernel
theorem dX11_most_142 : decode cX11_most 142 = .ok (.istore 4, 2) := by decide +kernel
theorem dX11_most_144 : decode cX11_most 144 = .ok (.iinc 5 1, 3) := by decide +kernel
theorem dX11_most_147 : decode cX11_most 147 = .ok (.goto (-46), 3) := by decide +kernel
theorem dX11_most_150 : decode cX11_most 150 = .ok (.iload 4, 2) := by decide +kernel
theorem dX11_most_152 : decode cX11_most 152 = .ok (.ireturn, 1) := by decide +kernel
theorem dX11_liveAt_0 : decode cX11_liveAt 0 = .ok (.aload_n 0, 1) := by decide +kernel
theorem dX11_liveAt_1 : decode cX11_liveAt 1 = .ok (.aload_n 0, 1) := by decide +kernel
theorem dX11_liveAt_2 : decode cX11_liveAt 2 = .ok (.iload_n 1, 1) := by decide +kernel
theorem dX11_liveAt_3 : decode cX11_liveAt 3 = .ok (.invokevirtual 153, 3) := by decide +kernel
theorem dX11_liveAt_6 : decode cX11_liveAt 6 = .ok (.ifCond .eq 7, 3) := by decide +kernel
theorem dX11_liveAt_9 : decode cX11_liveAt 9 = .ok (.iconst 0, 1) := by decide +kernel
theorem dX11_liveAt_10 : decode cX11_liveAt 10 = .ok (.goto 4, 3) := by decide +kernel
theorem dX11_liveAt_13 : decode cX11_liveAt 13 = .ok (.iconst 1, 1) := by decide +kernel
theorem dX11_liveAt_14 : decode cX11_liveAt 14 = .ok (.invokevirtual 102, 3) := by decide +kernel
theorem dX11_liveAt_17 : decode cX11_liveAt 17 = .ok (.ifCond .eq 7, 3) := by decide +kernel
theorem dX11_liveAt_20 : decode cX11_liveAt 20 = .ok (.iconst 0, 1) := by decide +kernel
theorem dX11_liveAt_21 : decode cX11_liveAt 21 = .ok (.goto 9, 3) := by decide +kernel
theorem dX11_liveAt_24 : decode cX11_liveAt 24 = .ok (.aload_n 0, 1) := by decide +kernel
theorem dX11_liveAt_25 : decode cX11_liveAt 25 = .ok (.iconst (-1), 1) := by decide +kernel
theorem dX11_liveAt_26 : decode cX11_liveAt 26 = .ok (.iload_n 1, 1) := by decide +kernel
theorem dX11_liveAt_27 : decode cX11_liveAt 27 = .ok (.invokevirtual 162, 3) := by decide +kernel
theorem dX11_liveAt_30 : decode cX11_liveAt 30 = .ok (.ireturn, 1) := by decide +kernel
theorem dX11_mostLive_0 : decode cX11_mostLive 0 = .ok (.aload_n 0, 1) := by decide +kernel
theorem dX11_mostLive_1 : decode cX11_mostLive 1 = .ok (.iconst 0, 1) := by decide +kernel
theorem dX11_mostLive_2 : decode cX11_mostLive 2 = .ok (.putfield 84, 3) := by decide +kernel
theorem dX11_mostLive_5 : decode cX11_mostLive 5 = .ok (.aload_n 0, 1) := by decide +kernel
theorem dX11_mostLive_6 : decode cX11_mostLive 6 = .ok (.iconst (-1), 1) := by decide +kernel
theorem dX11_mostLive_7 : decode cX11_mostLive 7 = .ok (.iconst (-1), 1) := by decide +kernel
theorem dX11_mostLive_8 : decode cX11_mostLive 8 = .ok (.invokevirtual 162, 3) := by decide +kernel
theorem dX11_mostLive_11 : decode cX11_mostLive 11 = .ok (.ireturn, 1) := by decide +kernel
theorem dX11_mostLiveOf_0 : decode cX11_mostLiveOf 0 = .ok (.aload_n 0, 1) := by decide +kernel
theorem dX11_mostLiveOf_1 : decode cX11_mostLiveOf 1 = .ok (.aload_n 0, 1) := by decide +kernel
theorem dX11_mostLiveOf_2 : decode cX11_mostLiveOf 2 = .ok (.iload_n 1, 1) := by decide +kernel
theorem dX11_mostLiveOf_3 : decode cX11_mostLiveOf 3 = .ok (.invokevirtual 94, 3) := by decide +kernel
theorem dX11_mostLiveOf_6 : decode cX11_mostLiveOf 6 = .ok (.ifCond .eq 7, 3) := by decide +kernel
theorem dX11_mostLiveOf_9 : decode cX11_mostLiveOf 9 = .ok (.iconst 0, 1) := by decide +kernel
theorem dX11_mostLiveOf_10 : decode cX11_mostLiveOf 10 = .ok (.goto 4, 3) := by decide +kernel
theorem dX11_mostLiveOf_13 : decode cX11_mostLiveOf 13 = .ok (.iconst 1, 1) := by decide +kernel
theorem dX11_mostLiveOf_14 : decode cX11_mostLiveOf 14 = .ok (.invokevirtual 102, 3) := by decide +kernel
theorem dX11_mostLiveOf_17 : decode cX11_mostLiveOf 17 = .ok (.ifCond .eq 7, 3) := by decide +kernel
theorem dX11_mostLiveOf_20 : decode cX11_mostLiveOf 20 = .ok (.iconst 0, 1) := by decide +kernel
theorem dX11_mostLiveOf_21 : decode cX11_mostLiveOf 21 = .ok (.goto 9, 3) := by decide +kernel
theorem dX11_mostLiveOf_24 : decode cX11_mostLiveOf 24 = .ok (.aload_n 0, 1) := by decide +kernel
theorem dX11_mostLiveOf_25 : decode cX11_mostLiveOf 25 = .ok (.iload_n 1, 1) := by decide +kernel
theorem dX11_mostLiveOf_26 : decode cX11_mostLiveOf 26 = .ok (.iconst (-1), 1) := by decide +kernel
theorem dX11_mostLiveOf_27 : decode cX11_mostLiveOf 27 = .ok (.invokevirtual 162, 3) := by decide +kernel
theorem dX11_mostLiveOf_30 : decode cX11_mostLiveOf 30 = .ok (.ireturn, 1) := by decide +kernel
theorem dX11_areInConflict_0 : decode cX11_areInConflict 0 = .ok (.aload_n 0, 1) := by decide +kernel
theorem dX11_areInConflict_1 : decode cX11_areInConflict 1 = .ok (.getfield 57, 3) := by decide +kernel
theorem dX11_areInConflict_4 : decode cX11_areInConflict 4 = .ok (.iload_n 1, 1) := by decide +kernel
theorem dX11_areInConflict_5 : decode cX11_areInConflict 5 = .ok (.iaload, 1) := by decide +kernel
theorem dX11_areInConflict_6 : decode cX11_areInConflict 6 = .ok (.aload_n 0, 1) := by decide +kernel
theorem dX11_areInConflict_7 : decode cX11_areInConflict 7 = .ok (.getfield 57, 3) := by decide +kernel
theorem dX11_areInConflict_10 : decode cX11_areInConflict 10 = .ok (.iload_n 2, 1) := by decide +kernel
theorem dX11_areInConflict_11 : decode cX11_areInConflict 11 = .ok (.iaload, 1) := by decide +kernel
theorem dX11_areInConflict_12 : decode cX11_areInConflict 12 = .ok (.if_icmp .ge 18, 3) := by decide +kernel
theorem dX11_areInConflict_15 : decode cX11_areInConflict 15 = .ok (.aload_n 0, 1) := by decide +kernel
theorem dX11_areInConflict_16 : decode cX11_areInConflict 16 = .ok (.getfield 57, 3) := by decide +kernel
theorem dX11_areInConflict_19 : decode cX11_areInConflict 19 = .ok (.iload_n 2, 1) := by decide +kernel
theorem dX11_areInConflict_20 : decode cX11_areInConflict 20 = .ok (.iaload, 1) := by decide +kernel
theorem dX11_areInConflict_21 : decode cX11_areInConflict 21 = .ok (.aload_n 0, 1) := by decide +kernel
theorem dX11_areInConflict_22 : decode cX11_areInConflict 22 = .ok (.getfield 63, 3) := by decide +kernel
theorem dX11_areInConflict_25 : decode cX11_areInConflict 25 = .ok (.iload_n 1, 1) := by decide +kernel
theorem dX11_areInConflict_26 : decode cX11_areInConflict 26 = .ok (.iaload, 1) := by decide +kernel
theorem dX11_areInConflict_27 : decode cX11_areInConflict 27 = .ok (.if_icmp .lt 33, 3) := by decide +kernel
theorem dX11_areInConflict_30 : decode cX11_areInConflict 30 = .ok (.aload_n 0, 1) := by decide +kernel
theorem dX11_areInConflict_31 : decode cX11_areInConflict 31 = .ok (.getfield 57, 3) := by decide +kernel
theorem dX11_areInConflict_34 : decode cX11_areInConflict 34 = .ok (.iload_n 2, 1) := by decide +kernel
theorem dX11_areInConflict_35 : decode cX11_areInConflict 35 = .ok (.iaload, 1) := by decide +kernel
theorem dX11_areInConflict_36 : decode cX11_areInConflict 36 = .ok (.aload_n 0, 1) := by decide +kernel
theorem dX11_areInConflict_37 : decode cX11_areInConflict 37 = .ok (.getfield 57, 3) := by decide +kernel
theorem dX11_areInConflict_40 : decode cX11_areInConflict 40 = .ok (.iload_n 1, 1) := by decide +kernel
theorem dX11_areInConflict_41 : decode cX11_areInConflict 41 = .ok (.iaload, 1) := by decide +kernel
theorem dX11_areInConflict_42 : decode cX11_areInConflict 42 = .ok (.if_icmp .ge 22, 3) := by decide +kernel
theorem dX11_areInConflict_45 : decode cX11_areInConflict 45 = .ok (.aload_n 0, 1) := by decide +kernel
theorem dX11_areInConflict_46 : decode cX11_areInConflict 46 = .ok (.getfield 57, 3) := by decide +kernel
theorem dX11_areInConflict_49 : decode cX11_areInConflict 49 = .ok (.iload_n 1, 1) := by decide +kernel
theorem dX11_areInConflict_50 : decode cX11_areInConflict 50 = .ok (.iaload, 1) := by decide +kernel
theorem dX11_areInConflict_51 : decode cX11_areInConflict 51 = .ok (.aload_n 0, 1) := by decide +kernel
theorem dX11_areInConflict_52 : decode cX11_areInConflict 52 = .ok (.getfield 63, 3) := by decide +kernel
theorem dX11_areInConflict_55 : decode cX11_areInConflict 55 = .ok (.iload_n 2, 1) := by decide +kernel
theorem dX11_areInConflict_56 : decode cX11_areInConflict 56 = .ok (.iaload, 1) := by decide +kernel
theorem dX11_areInConflict_57 : decode cX11_areInConflict 57 = .ok (.if_icmp .ge 7, 3) := by decide +kernel
theorem dX11_areInConflict_60 : decode cX11_areInConflict 60 = .ok (.iconst 1, 1) := by decide +kernel
theorem dX11_areInConflict_61 : decode cX11_areInConflict 61 = .ok (.goto 4, 3) := by decide +kernel
theorem dX11_areInConflict_64 : decode cX11_areInConflict 64 = .ok (.iconst 0, 1) := by decide +kernel
theorem dX11_areInConflict_65 : decode cX11_areInConflict 65 = .ok (.ireturn, 1) := by decide +kernel
theorem dX11_conflicts_0 : decode cX11_conflicts 0 = .ok (.iconst 0, 1) := by decide +kernel
theorem dX11_conflicts_1 : decode cX11_conflicts 1 = .ok (.istore_n 3, 1) := by decide +kernel
theorem dX11_conflicts_2 : decode cX11_conflicts 2 = .ok (.bipush 64, 2) := by decide +kernel
theorem dX11_conflicts_4 : decode cX11_conflicts 4 = .ok (.iload_n 2, 1) := by decide +kernel
theorem dX11_conflicts_5 : decode cX11_conflicts 5 = .ok (.imul, 1) := by decide +kernel
theorem dX11_conflicts_6 : decode cX11_conflicts 6 = .ok (.istore 4, 2) := by decide +kernel
theorem dX11_conflicts_8 : decode cX11_conflicts 8 = .ok (.iload 4, 2) := by decide +kernel
theorem dX11_conflicts_10 : decode cX11_conflicts 10 = .ok (.bipush 64, 2) := by decide +kernel
theorem dX11_conflicts_12 : decode cX11_conflicts 12 = .ok (.iload_n 2, 1) := by decide +kernel
theorem dX11_conflicts_13 : decode cX11_conflicts 13 = .ok (.imul, 1) := by decide +kernel
theorem dX11_conflicts_14 : decode cX11_conflicts 14 = .ok (.aload_n 0, 1) := by decide +kernel
theorem dX11_conflicts_15 : decode cX11_conflicts 15 = .ok (.getfield 7, 3) := by decide +kernel
theorem dX11_conflicts_18 : decode cX11_conflicts 18 = .ok (.aload_n 0, 1) := by decide +kernel
theorem dX11_conflicts_19 : decode cX11_conflicts 19 = .ok (.getfield 13, 3) := by decide +kernel
theorem dX11_conflicts_22 : decode cX11_conflicts 22 = .ok (.imul, 1) := by decide +kernel
theorem dX11_conflicts_23 : decode cX11_conflicts 23 = .ok (.iadd, 1) := by decide +kernel
theorem dX11_conflicts_24 : decode cX11_conflicts 24 = .ok (.if_icmp .ge 33, 3) := by decide +kernel
theorem dX11_conflicts_27 : decode cX11_conflicts 27 = .ok (.iload_n 3, 1) := by decide +kernel
theorem dX11_conflicts_28 : decode cX11_conflicts 28 = .ok (.iload 4, 2) := by decide +kernel
theorem dX11_conflicts_30 : decode cX11_conflicts 30 = .ok (.iload_n 1, 1) := by decide +kernel
theorem dX11_conflicts_31 : decode cX11_conflicts 31 = .ok (.if_icmp .eq 17, 3) := by decide +kernel
theorem dX11_conflicts_34 : decode cX11_conflicts 34 = .ok (.aload_n 0, 1) := by decide +kernel
theorem dX11_conflicts_35 : decode cX11_conflicts 35 = .ok (.iload_n 1, 1) := by decide +kernel
theorem dX11_conflicts_36 : decode cX11_conflicts 36 = .ok (.iload 4, 2) := by decide +kernel
theorem dX11_conflicts_38 : decode cX11_conflicts 38 = .ok (.invokevirtual 165, 3) := by decide +kernel
theorem dX11_conflicts_41 : decode cX11_conflicts 41 = .ok (.ifCond .eq 7, 3) := by decide +kernel
theorem dX11_conflicts_44 : decode cX11_conflicts 44 = .ok (.iconst 1, 1) := by decide +kernel
theorem dX11_conflicts_45 : decode cX11_conflicts 45 = .ok (.goto 4, 3) := by decide +kernel
theorem dX11_conflicts_48 : decode cX11_conflicts 48 = .ok (.iconst 0, 1) := by decide +kernel
theorem dX11_conflicts_49 : decode cX11_conflicts 49 = .ok (.iadd, 1) := by decide +kernel
theorem dX11_conflicts_50 : decode cX11_conflicts 50 = .ok (.istore_n 3, 1) := by decide +kernel
theorem dX11_conflicts_51 : decode cX11_conflicts 51 = .ok (.iinc 4 1, 3) := by decide +kernel
theorem dX11_conflicts_54 : decode cX11_conflicts 54 = .ok (.goto (-46), 3) := by decide +kernel
theorem dX11_conflicts_57 : decode cX11_conflicts 57 = .ok (.iload_n 3, 1) := by decide +kernel
theorem dX11_conflicts_58 : decode cX11_conflicts 58 = .ok (.ireturn, 1) := by decide +kernel
theorem dX11_conflictsOf_0 : decode cX11_conflictsOf 0 = .ok (.aload_n 0, 1) := by decide +kernel
theorem dX11_conflictsOf_1 : decode cX11_conflictsOf 1 = .ok (.aload_n 0, 1) := by decide +kernel
theorem dX11_conflictsOf_2 : decode cX11_conflictsOf 2 = .ok (.iload_n 1, 1) := by decide +kernel
theorem dX11_conflictsOf_3 : decode cX11_conflictsOf 3 = .ok (.iload_n 2, 1) := by decide +kernel
theorem dX11_conflictsOf_4 : decode cX11_conflictsOf 4 = .ok (.iload_n 3, 1) := by decide +kernel
theorem dX11_conflictsOf_5 : decode cX11_conflictsOf 5 = .ok (.invokevirtual 150, 3) := by decide +kernel
theorem dX11_conflictsOf_8 : decode cX11_conflictsOf 8 = .ok (.ifCond .eq 16, 3) := by decide +kernel
theorem dX11_conflictsOf_11 : decode cX11_conflictsOf 11 = .ok (.aload_n 0, 1) := by decide +kernel
theorem dX11_conflictsOf_12 : decode cX11_conflictsOf 12 = .ok (.iload 4, 2) := by decide +kernel
theorem dX11_conflictsOf_14 : decode cX11_conflictsOf 14 = .ok (.invokevirtual 94, 3) := by decide +kernel
theorem dX11_conflictsOf_17 : decode cX11_conflictsOf 17 = .ok (.ifCond .eq 7, 3) := by decide +kernel
theorem dX11_conflictsOf_20 : decode cX11_conflictsOf 20 = .ok (.iconst 0, 1) := by decide +kernel
theorem dX11_conflictsOf_21 : decode cX11_conflictsOf 21 = .ok (.goto 4, 3) := by decide +kernel
theorem dX11_conflictsOf_24 : decode cX11_conflictsOf 24 = .ok (.iconst 1, 1) := by decide +kernel
theorem dX11_conflictsOf_25 : decode cX11_conflictsOf 25 = .ok (.invokevirtual 102, 3) := by decide +kernel
theorem dX11_conflictsOf_28 : decode cX11_conflictsOf 28 = .ok (.ifCond .eq 5, 3) := by decide +kernel
theorem dX11_conflictsOf_31 : decode cX11_conflictsOf 31 = .ok (.iconst 0, 1) := by decide +kernel
theorem dX11_conflictsOf_32 : decode cX11_conflictsOf 32 = .ok (.ireturn, 1) := by decide +kernel
theorem dX11_conflictsOf_33 : decode cX11_conflictsOf 33 = .ok (.aload_n 0, 1) := by decide +kernel
theorem dX11_conflictsOf_34 : decode cX11_conflictsOf 34 = .ok (.invokevirtual 159, 3) := by decide +kernel
theorem dX11_conflictsOf_37 : decode cX11_conflictsOf 37 = .ok (.aload_n 0, 1) := by decide +kernel
theorem dX11_conflictsOf_38 : decode cX11_conflictsOf 38 = .ok (.aload_n 0, 1) := by decide +kernel
theorem dX11_conflictsOf_39 : decode cX11_conflictsOf 39 = .ok (.iload_n 1, 1) := by decide +kernel
theorem dX11_conflictsOf_40 : decode cX11_conflictsOf 40 = .ok (.iload_n 2, 1) := by decide +kernel
theorem dX11_conflictsOf_41 : decode cX11_conflictsOf 41 = .ok (.iload_n 3, 1) := by decide +kernel
theorem dX11_conflictsOf_42 : decode cX11_conflictsOf 42 = .ok (.invokevirtual 127, 3) := by decide +kernel
theorem dX11_conflictsOf_45 : decode cX11_conflictsOf 45 = .ok (.iload 4, 2) := by decide +kernel
theorem dX11_conflictsOf_47 : decode cX11_conflictsOf 47 = .ok (.invokevirtual 168, 3) := by decide +kernel
theorem dX11_conflictsOf_50 : decode cX11_conflictsOf 50 = .ok (.ireturn, 1) := by decide +kernel
theorem dX11_conflictPairs_0 : decode cX11_conflictPairs 0 = .ok (.aload_n 0, 1) := by decide +kernel
theorem dX11_conflictPairs_1 : decode cX11_conflictPairs 1 = .ok (.aload_n 0, 1) := by decide +kernel
theorem dX11_conflictPairs_2 : decode cX11_conflictPairs 2 = .ok (.iload_n 1, 1) := by decide +kernel
theorem dX11_conflictPairs_3 : decode cX11_conflictPairs 3 = .ok (.invokevirtual 94, 3) := by decide +kernel
theorem dX11_conflictPairs_6 : decode cX11_conflictPairs 6 = .ok (.ifCond .eq 7, 3) := by decide +kernel
theorem dX11_conflictPairs_9 : decode cX11_conflictPairs 9 = .ok (.iconst 0, 1) := by decide +kernel
theorem dX11_conflictPairs_10 : decode cX11_conflictPairs 10 = .ok (.goto 4, 3) := by decide +kernel
theorem dX11_conflictPairs_13 : decode cX11_conflictPairs 13 = .ok (.iconst 1, 1) := by decide +kernel
theorem dX11_conflictPairs_14 : decode cX11_conflictPairs 14 = .ok (.invokevirtual 102, 3) := by decide +kernel
theorem dX11_conflictPairs_17 : decode cX11_conflictPairs 17 = .ok (.ifCond .eq 5, 3) := by decide +kernel
theorem dX11_conflictPairs_20 : decode cX11_conflictPairs 20 = .ok (.iconst 0, 1) := by decide +kernel
theorem dX11_conflictPairs_21 : decode cX11_conflictPairs 21 = .ok (.ireturn, 1) := by decide +kernel
theorem dX11_conflictPairs_22 : decode cX11_conflictPairs 22 = .ok (.aload_n 0, 1) := by decide +kernel
theorem dX11_conflictPairs_23 : decode cX11_conflictPairs 23 = .ok (.invokevirtual 159, 3) := by decide +kernel
theorem dX11_conflictPairs_26 : decode cX11_conflictPairs 26 = .ok (.iconst 0, 1) := by decide +kernel
theorem dX11_conflictPairs_27 : decode cX11_conflictPairs 27 = .ok (.istore_n 2, 1) := by decide +kernel
theorem dX11_conflictPairs_28 : decode cX11_conflictPairs 28 = .ok (.iconst 0, 1) := by decide +kernel
theorem dX11_conflictPairs_29 : decode cX11_conflictPairs 29 = .ok (.istore_n 3, 1) := by decide +kernel
theorem dX11_conflictPairs_30 : decode cX11_conflictPairs 30 = .ok (.iload_n 3, 1) := by decide +kernel
theorem dX11_conflictPairs_31 : decode cX11_conflictPairs 31 = .ok (.aload_n 0, 1) := by decide +kernel
theorem dX11_conflictPairs_32 : decode cX11_conflictPairs 32 = .ok (.getfield 7, 3) := by decide +kernel
theorem dX11_conflictPairs_35 : decode cX11_conflictPairs 35 = .ok (.aload_n 0, 1) := by decide +kernel
theorem dX11_conflictPairs_36 : decode cX11_conflictPairs 36 = .ok (.getfield 13, 3) := by decide +kernel
theorem dX11_conflictPairs_39 : decode cX11_conflictPairs 39 = .ok (.imul, 1) := by decide +kernel
theorem dX11_conflictPairs_40 : decode cX11_conflictPairs 40 = .ok (.if_icmp .ge 23, 3) := by decide +kernel
theorem dX11_conflictPairs_43 : decode cX11_conflictPairs 43 = .ok (.iload_n 2, 1) := by decide +kernel
theorem dX11_conflictPairs_44 : decode cX11_conflictPairs 44 = .ok (.aload_n 0, 1) := by decide +kernel
theorem dX11_conflictPairs_45 : decode cX11_conflictPairs 45 = .ok (.bipush 64, 2) := by decide +kernel
theorem dX11_conflictPairs_47 : decode cX11_conflictPairs 47 = .ok (.iload_n 1, 1) := by decide +kernel
theorem dX11_conflictPairs_48 : decode cX11_conflictPairs 48 = .ok (.imul, 1) := by decide +kernel
theorem dX11_conflictPairs_49 : decode cX11_conflictPairs 49 = .ok (.iload_n 3, 1) := by decide +kernel
theorem dX11_conflictPairs_50 : decode cX11_conflictPairs 50 = .ok (.iadd, 1) := by decide +kernel
theorem dX11_conflictPairs_51 : decode cX11_conflictPairs 51 = .ok (.iload_n 1, 1) := by decide +kernel
theorem dX11_conflictPairs_52 : decode cX11_conflictPairs 52 = .ok (.invokevirtual 168, 3) := by decide +kernel
theorem dX11_conflictPairs_55 : decode cX11_conflictPairs 55 = .ok (.iadd, 1) := by decide +kernel
theorem dX11_conflictPairs_56 : decode cX11_conflictPairs 56 = .ok (.istore_n 2, 1) := by decide +kernel
theorem dX11_conflictPairs_57 : decode cX11_conflictPairs 57 = .ok (.iinc 3 1, 3) := by decide +kernel
theorem dX11_conflictPairs_60 : decode cX11_conflictPairs 60 = .ok (.goto (-30), 3) := by decide +kernel
theorem dX11_conflictPairs_63 : decode cX11_conflictPairs 63 = .ok (.iload_n 2, 1) := by decide +kernel
theorem dX11_conflictPairs_64 : decode cX11_conflictPairs 64 = .ok (.iconst 2, 1) := by decide +kernel
theorem dX11_conflictPairs_65 : decode cX11_conflictPairs 65 = .ok (.idiv, 1) := by decide +kernel
theorem dX11_conflictPairs_66 : decode cX11_conflictPairs 66 = .ok (.ireturn, 1) := by decide +kernel
theorem dX11_differs_0 : decode cX11_differs 0 = .ok (.iconst 0, 1) := by decide +kernel
theorem dX11_differs_1 : decode cX11_differs 1 = .ok (.istore_n 2, 1) := by decide +kernel
theorem dX11_differs_2 : decode cX11_differs 2 = .ok (.iload_n 2, 1) := by decide +kernel
theorem dX11_differs_3 : decode cX11_differs 3 = .ok (.sipush 225, 3) := by decide +kernel
theorem dX11_differs_6 : decode cX11_differs 6 = .ok (.if_icmp .ge 16, 3) := by decide +kernel
theorem dX11_differs_9 : decode cX11_differs 9 = .ok (.aload_n 0, 1) := by decide +kernel
theorem dX11_differs_10 : decode cX11_differs 10 = .ok (.getfield 78, 3) := by decide +kernel
theorem dX11_differs_13 : decode cX11_differs 13 = .ok (.iload_n 2, 1) := by decide +kernel
theorem dX11_differs_14 : decode cX11_differs 14 = .ok (.iconst 0, 1) := by decide +kernel
theorem dX11_differs_15 : decode cX11_differs 15 = .ok (.bastore, 1) := by decide +kernel
theorem dX11_differs_16 : decode cX11_differs 16 = .ok (.iinc 2 1, 3) := by decide +kernel
theorem dX11_differs_19 : decode cX11_differs 19 = .ok (.goto (-17), 3) := by decide +kernel
theorem dX11_differs_22 : decode cX11_differs 22 = .ok (.bipush 64, 2) := by decide +kernel
theorem dX11_differs_24 : decode cX11_differs 24 = .ok (.iload_n 1, 1) := by decide +kernel
theorem dX11_differs_25 : decode cX11_differs 25 = .ok (.imul, 1) := by decide +kernel
theorem dX11_differs_26 : decode cX11_differs 26 = .ok (.istore_n 2, 1) := by decide +kernel
theorem dX11_differs_27 : decode cX11_differs 27 = .ok (.iload_n 2, 1) := by decide +kernel
theorem dX11_differs_28 : decode cX11_differs 28 = .ok (.bipush 64, 2) := by decide +kernel
theorem dX11_differs_30 : decode cX11_differs 30 = .ok (.iload_n 1, 1) := by decide +kernel
theorem dX11_differs_31 : decode cX11_differs 31 = .ok (.imul, 1) := by decide +kernel
theorem dX11_differs_32 : decode cX11_differs 32 = .ok (.aload_n 0, 1) := by decide +kernel
theorem dX11_differs_33 : decode cX11_differs 33 = .ok (.getfield 7, 3) := by decide +kernel
theorem dX11_differs_36 : decode cX11_differs 36 = .ok (.aload_n 0, 1) := by decide +kernel
theorem dX11_differs_37 : decode cX11_differs 37 = .ok (.getfield 13, 3) := by decide +kernel
theorem dX11_differs_40 : decode cX11_differs 40 = .ok (.imul, 1) := by decide +kernel
theorem dX11_differs_41 : decode cX11_differs 41 = .ok (.iadd, 1) := by decide +kernel
theorem dX11_differs_42 : decode cX11_differs 42 = .ok (.if_icmp .ge 81, 3) := by decide +kernel
theorem dX11_differs_45 : decode cX11_differs 45 = .ok (.iload_n 2, 1) := by decide +kernel
theorem dX11_differs_46 : decode cX11_differs 46 = .ok (.iconst 1, 1) := by decide +kernel
theorem dX11_differs_47 : decode cX11_differs 47 = .ok (.iadd, 1) := by decide +kernel
theorem dX11_differs_48 : decode cX11_differs 48 = .ok (.istore_n 3, 1) := by decide +kernel
theorem dX11_differs_49 : decode cX11_differs 49 = .ok (.iload_n 3, 1) := by decide +kernel
theorem dX11_differs_50 : decode cX11_differs 50 = .ok (.bipush 64, 2) := by decide +kernel
theorem dX11_differs_52 : decode cX11_differs 52 = .ok (.iload_n 1, 1) := by decide +kernel
theorem dX11_differs_53 : decode cX11_differs 53 = .ok (.imul, 1) := by decide +kernel
theorem dX11_differs_54 : decode cX11_differs 54 = .ok (.aload_n 0, 1) := by decide +kernel
theorem dX11_differs_55 : decode cX11_differs 55 = .ok (.getfield 7, 3) := by decide +kernel
theorem dX11_differs_58 : decode cX11_differs 58 = .ok (.aload_n 0, 1) := by decide +kernel
theorem dX11_differs_59 : decode cX11_differs 59 = .ok (.getfield 13, 3) := by decide +kernel
theorem dX11_differs_62 : decode cX11_differs 62 = .ok (.imul, 1) := by decide +kernel
theorem dX11_differs_63 : decode cX11_differs 63 = .ok (.iadd, 1) := by decide +kernel
theorem dX11_differs_64 : decode cX11_differs 64 = .ok (.if_icmp .ge 53, 3) := by decide +kernel
theorem dX11_differs_67 : decode cX11_differs 67 = .ok (.aload_n 0, 1) := by decide +kernel
theorem dX11_differs_68 : decode cX11_differs 68 = .ok (.iload_n 2, 1) := by decide +kernel
theorem dX11_differs_69 : decode cX11_differs 69 = .ok (.iload_n 3, 1) := by decide +kernel
theorem dX11_differs_70 : decode cX11_differs 70 = .ok (.invokevirtual 165, 3) := by decide +kernel
theorem dX11_differs_73 : decode cX11_differs 73 = .ok (.ifCond .eq 38, 3) := by decide +kernel
theorem dX11_differs_76 : decode cX11_differs 76 = .ok (.aload_n 0, 1) := by decide +kernel
theorem dX11_differs_77 : decode cX11_differs 77 = .ok (.getfield 78, 3) := by decide +kernel
theorem dX11_differs_80 : decode cX11_differs 80 = .ok (.bipush 15, 2) := by decide +kernel
theorem dX11_differs_82 : decode cX11_differs 82 = .ok (.aload_n 0, 1) := by decide +kernel
theorem dX11_differs_83 : decode cX11_differs 83 = .ok (.iload_n 3, 1) := by decide +kernel
theorem dX11_differs_84 : decode cX11_differs 84 = .ok (.invokevirtual 105, 3) := by decide +kernel
theorem dX11_differs_87 : decode cX11_differs 87 = .ok (.aload_n 0, 1) := by decide +kernel
theorem dX11_differs_88 : decode cX11_differs 88 = .ok (.iload_n 2, 1) := by decide +kernel
theorem dX11_differs_89 : decode cX11_differs 89 = .ok (.invokevirtual 105, 3) := by decide +kernel
theorem dX11_differs_92 : decode cX11_differs 92 = .ok (.isub, 1) := by decide +kernel
theorem dX11_differs_93 : decode cX11_differs 93 = .ok (.imul, 1) := by decide +kernel
theorem dX11_differs_94 : decode cX11_differs 94 = .ok (.aload_n 0, 1) := by decide +kernel
theorem dX11_differs_95 : decode cX11_differs 95 = .ok (.iload_n 3, 1) := by decide +kernel
theorem dX11_differs_96 : decode cX11_differs 96 = .ok (.invokevirtual 109, 3) := by decide +kernel
theorem dX11_differs_99 : decode cX11_differs 99 = .ok (.iadd, 1) := by decide +kernel
theorem dX11_differs_100 : decode cX11_differs 100 = .ok (.aload_n 0, 1) := by decide +kernel
theorem dX11_differs_101 : decode cX11_differs 101 = .ok (.iload_n 2, 1) := by decide +kernel
theorem dX11_differs_102 : decode cX11_differs 102 = .ok (.invokevirtual 109, 3) := by decide +kernel
theorem dX11_differs_105 : decode cX11_differs 105 = .ok (.isub, 1) := by decide +kernel
theorem dX11_differs_106 : decode cX11_differs 106 = .ok (.bipush 7, 2) := by decide +kernel
theorem dX11_differs_108 : decode cX11_differs 108 = .ok (.iadd, 1) := by decide +kernel
theorem dX11_differs_109 : decode cX11_differs 109 = .ok (.iconst 1, 1) := by decide +kernel
theorem dX11_differs_110 : decode cX11_differs 110 = .ok (.bastore, 1) := by decide +kernel
theorem dX11_differs_111 : decode cX11_differs 111 = .ok (.iinc 3 1, 3) := by decide +kernel
theorem dX11_differs_114 : decode cX11_differs 114 = .ok (.goto (-65), 3) := by decide +kernel
theorem dX11_differs_117 : decode cX11_differs 117 = .ok (.iinc 2 1, 3) := by decide +kernel
theorem dX11_differs_120 : decode cX11_differs 120 = .ok (.goto (-93), 3) := by decide +kernel
theorem dX11_differs_123 : decode cX11_differs 123 = .ok (.return_, 1) := by decide +kernel
theorem dX11_gives_0 : decode cX11_gives 0 = .ok (.aload_n 0, 1) := by decide +kernel
theorem dX11_gives_1 : decode cX11_gives 1 = .ok (.getfield 45, 3) := by decide +kernel
theorem dX11_gives_4 : decode cX11_gives 4 = .ok (.iload_n 1, 1) := by decide +kernel
theorem dX11_gives_5 : decode cX11_gives 5 = .ok (.iload_n 2, 1) := by decide +kernel
theorem dX11_gives_6 : decode cX11_gives 6 = .ok (.iastore, 1) := by decide +kernel
theorem dX11_gives_7 : decode cX11_gives 7 = .ok (.aload_n 0, 1) := by decide +kernel
theorem dX11_gives_8 : decode cX11_gives 8 = .ok (.getfield 48, 3) := by decide +kernel
theorem dX11_gives_11 : decode cX11_gives 11 = .ok (.iload_n 1, 1) := by decide +kernel
theorem dX11_gives_12 : decode cX11_gives 12 = .ok (.iload_n 3, 1) := by decide +kernel
theorem dX11_gives_13 : decode cX11_gives 13 = .ok (.iastore, 1) := by decide +kernel
theorem dX11_gives_14 : decode cX11_gives 14 = .ok (.aload_n 0, 1) := by decide +kernel
theorem dX11_gives_15 : decode cX11_gives 15 = .ok (.getfield 51, 3) := by decide +kernel
theorem dX11_gives_18 : decode cX11_gives 18 = .ok (.iload_n 1, 1) := by decide +kernel
theorem dX11_gives_19 : decode cX11_gives 19 = .ok (.iload 4, 2) := by decide +kernel
theorem dX11_gives_21 : decode cX11_gives 21 = .ok (.iastore, 1) := by decide +kernel
theorem dX11_gives_22 : decode cX11_gives 22 = .ok (.aload_n 0, 1) := by decide +kernel
theorem dX11_gives_23 : decode cX11_gives 23 = .ok (.iload_n 1, 1) := by decide +kernel
theorem dX11_gives_24 : decode cX11_gives 24 = .ok (.invokevirtual 171, 3) := by decide +kernel
theorem dX11_gives_27 : decode cX11_gives 27 = .ok (.ireturn, 1) := by decide +kernel
theorem dX11_size_0 : decode cX11_size 0 = .ok (.aload_n 0, 1) := by decide +kernel
theorem dX11_size_1 : decode cX11_size 1 = .ok (.getfield 45, 3) := by decide +kernel
theorem dX11_size_4 : decode cX11_size 4 = .ok (.iload_n 1, 1) := by decide +kernel
theorem dX11_size_5 : decode cX11_size 5 = .ok (.iaload, 1) := by decide +kernel
theorem dX11_size_6 : decode cX11_size 6 = .ok (.ifCond .ne 15, 3) := by decide +kernel
theorem dX11_size_9 : decode cX11_size 9 = .ok (.aload_n 0, 1) := by decide +kernel
theorem dX11_size_10 : decode cX11_size 10 = .ok (.getfield 7, 3) := by decide +kernel
theorem dX11_size_13 : decode cX11_size 13 = .ok (.aload_n 0, 1) := by decide +kernel
theorem dX11_size_14 : decode cX11_size 14 = .ok (.getfield 13, 3) := by decide +kernel
theorem dX11_size_17 : decode cX11_size 17 = .ok (.imul, 1) := by decide +kernel
theorem dX11_size_18 : decode cX11_size 18 = .ok (.goto 54, 3) := by decide +kernel
theorem dX11_size_21 : decode cX11_size 21 = .ok (.aload_n 0, 1) := by decide +kernel
theorem dX11_size_22 : decode cX11_size 22 = .ok (.getfield 45, 3) := by decide +kernel
theorem dX11_size_25 : decode cX11_size 25 = .ok (.iload_n 1, 1) := by decide +kernel
theorem dX11_size_26 : decode cX11_size 26 = .ok (.iaload, 1) := by decide +kernel
theorem dX11_size_27 : decode cX11_size 27 = .ok (.iconst 2, 1) := by decide +kernel
theorem dX11_size_28 : decode cX11_size 28 = .ok (.if_icmp .ne 19, 3) := by decide +kernel
theorem dX11_size_31 : decode cX11_size 31 = .ok (.aload_n 0, 1) := by decide +kernel
theorem dX11_size_32 : decode cX11_size 32 = .ok (.getfield 48, 3) := by decide +kernel
theorem dX11_size_35 : decode cX11_size 35 = .ok (.iload_n 1, 1) := by decide +kernel
theorem dX11_size_36 : decode cX11_size 36 = .ok (.iaload, 1) := by decide +kernel
theorem dX11_size_37 : decode cX11_size 37 = .ok (.aload_n 0, 1) := by decide +kernel
theorem dX11_size_38 : decode cX11_size 38 = .ok (.getfield 51, 3) := by decide +kernel
theorem dX11_size_41 : decode cX11_size 41 = .ok (.iload_n 1, 1) := by decide +kernel
theorem dX11_size_42 : decode cX11_size 42 = .ok (.iaload, 1) := by decide +kernel
theorem dX11_size_43 : decode cX11_size 43 = .ok (.imul, 1) := by decide +kernel
theorem dX11_size_44 : decode cX11_size 44 = .ok (.goto 28, 3) := by decide +kernel
theorem dX11_size_47 : decode cX11_size 47 = .ok (.aload_n 0, 1) := by decide +kernel
theorem dX11_size_48 : decode cX11_size 48 = .ok (.getfield 45, 3) := by decide +kernel
theorem dX11_size_51 : decode cX11_size 51 = .ok (.iload_n 1, 1) := by decide +kernel
theorem dX11_size_52 : decode cX11_size 52 = .ok (.iaload, 1) := by decide +kernel
theorem dX11_size_53 : decode cX11_size 53 = .ok (.iconst 1, 1) := by decide +kernel
theorem dX11_size_54 : decode cX11_size 54 = .ok (.if_icmp .ne 12, 3) := by decide +kernel
theorem dX11_size_57 : decode cX11_size 57 = .ok (.aload_n 0, 1) := by decide +kernel
theorem dX11_size_58 : decode cX11_size 58 = .ok (.getfield 48, 3) := by decide +kernel
theorem dX11_size_61 : decode cX11_size 61 = .ok (.iload_n 1, 1) := by decide +kernel
theorem dX11_size_62 : decode cX11_size 62 = .ok (.iaload, 1) := by decide +kernel
theorem dX11_size_63 : decode cX11_size 63 = .ok (.goto 9, 3) := by decide +kernel
theorem dX11_size_66 : decode cX11_size 66 = .ok (.aload_n 0, 1) := by decide +kernel
theorem dX11_size_67 : decode cX11_size 67 = .ok (.getfield 51, 3) := by decide +kernel
theorem dX11_size_70 : decode cX11_size 70 = .ok (.iload_n 1, 1) := by decide +kernel
theorem dX11_size_71 : decode cX11_size 71 = .ok (.iaload, 1) := by decide +kernel
theorem dX11_size_72 : decode cX11_size 72 = .ok (.ireturn, 1) := by decide +kernel
theorem dX11_isModulus_0 : decode cX11_isModulus 0 = .ok (.iload_n 0, 1) := by decide +kernel
theorem dX11_isModulus_1 : decode cX11_isModulus 1 = .ok (.iconst 1, 1) := by decide +kernel
theorem dX11_isModulus_2 : decode cX11_isModulus 2 = .ok (.bipush 99, 2) := by decide +kernel
theorem dX11_isModulus_4 : decode cX11_isModulus 4 = .ok (.invokestatic 90, 3) := by decide +kernel
theorem dX11_isModulus_7 : decode cX11_isModulus 7 = .ok (.ireturn, 1) := by decide +kernel
theorem dX11_keepWhole_0 : decode cX11_keepWhole 0 = .ok (.aload_n 0, 1) := by decide +kernel
theorem dX11_keepWhole_1 : decode cX11_keepWhole 1 = .ok (.aload_n 0, 1) := by decide +kernel
theorem dX11_keepWhole_2 : decode cX11_keepWhole 2 = .ok (.iload_n 1, 1) := by decide +kernel
theorem dX11_keepWhole_3 : decode cX11_keepWhole 3 = .ok (.invokevirtual 94, 3) := by decide +kernel
theorem dX11_keepWhole_6 : decode cX11_keepWhole 6 = .ok (.ifCond .eq 7, 3) := by decide +kernel
theorem dX11_keepWhole_9 : decode cX11_keepWhole 9 = .ok (.iconst 0, 1) := by decide +kernel
theorem dX11_keepWhole_10 : decode cX11_keepWhole 10 = .ok (.goto 4, 3) := by decide +kernel
theorem dX11_keepWhole_13 : decode cX11_keepWhole 13 = .ok (.iconst 1, 1) := by decide +kernel
theorem dX11_keepWhole_14 : decode cX11_keepWhole 14 = .ok (.invokevirtual 102, 3) := by decide +kernel
theorem dX11_keepWhole_17 : decode cX11_keepWhole 17 = .ok (.ifCond .eq 7, 3) := by decide +kernel
theorem dX11_keepWhole_20 : decode cX11_keepWhole 20 = .ok (.iconst 0, 1) := by decide +kernel
theorem dX11_keepWhole_21 : decode cX11_keepWhole 21 = .ok (.goto 11, 3) := by decide +kernel
theorem dX11_keepWhole_24 : decode cX11_keepWhole 24 = .ok (.aload_n 0, 1) := by decide +kernel
theorem dX11_keepWhole_25 : decode cX11_keepWhole 25 = .ok (.iload_n 1, 1) := by decide +kernel
theorem dX11_keepWhole_26 : decode cX11_keepWhole 26 = .ok (.iconst 0, 1) := by decide +kernel
theorem dX11_keepWhole_27 : decode cX11_keepWhole 27 = .ok (.iconst 0, 1) := by decide +kernel
theorem dX11_keepWhole_28 : decode cX11_keepWhole 28 = .ok (.iconst 0, 1) := by decide +kernel
theorem dX11_keepWhole_29 : decode cX11_keepWhole 29 = .ok (.invokevirtual 174, 3) := by decide +kernel
theorem dX11_keepWhole_32 : decode cX11_keepWhole 32 = .ok (.ireturn, 1) := by decide +kernel
theorem dX11_keepRest_0 : decode cX11_keepRest 0 = .ok (.aload_n 0, 1) := by decide +kernel
theorem dX11_keepRest_1 : decode cX11_keepRest 1 = .ok (.aload_n 0, 1) := by decide +kernel
theorem dX11_keepRest_2 : decode cX11_keepRest 2 = .ok (.iload_n 1, 1) := by decide +kernel
theorem dX11_keepRest_3 : decode cX11_keepRest 3 = .ok (.invokevirtual 94, 3) := by decide +kernel
theorem dX11_keepRest_6 : decode cX11_keepRest 6 = .ok (.ifCond .ne 7, 3) := by decide +kernel
theorem dX11_keepRest_9 : decode cX11_keepRest 9 = .ok (.iconst 1, 1) := by decide +kernel
theorem dX11_keepRest_10 : decode cX11_keepRest 10 = .ok (.goto 15, 3) := by decide +kernel
theorem dX11_keepRest_13 : decode cX11_keepRest 13 = .ok (.iload_n 2, 1) := by decide +kernel
theorem dX11_keepRest_14 : decode cX11_keepRest 14 = .ok (.invokestatic 178, 3) := by decide +kernel
theorem dX11_keepRest_17 : decode cX11_keepRest 17 = .ok (.ifCond .eq 7, 3) := by decide +kernel
theorem dX11_keepRest_20 : decode cX11_keepRest 20 = .ok (.iconst 0, 1) := by decide +kernel
theorem dX11_keepRest_21 : decode cX11_keepRest 21 = .ok (.goto 4, 3) := by decide +kernel
theorem dX11_keepRest_24 : decode cX11_keepRest 24 = .ok (.iconst 2, 1) := by decide +kernel
theorem dX11_keepRest_25 : decode cX11_keepRest 25 = .ok (.invokevirtual 102, 3) := by decide +kernel
theorem dX11_keepRest_28 : decode cX11_keepRest 28 = .ok (.ifCond .eq 7, 3) := by decide +kernel
theorem dX11_keepRest_31 : decode cX11_keepRest 31 = .ok (.iconst 0, 1) := by decide +kernel
theorem dX11_keepRest_32 : decode cX11_keepRest 32 = .ok (.goto 11, 3) := by decide +kernel
theorem dX11_keepRest_35 : decode cX11_keepRest 35 = .ok (.aload_n 0, 1) := by decide +kernel
theorem dX11_keepRest_36 : decode cX11_keepRest 36 = .ok (.iload_n 1, 1) := by decide +kernel
theorem dX11_keepRest_37 : decode cX11_keepRest 37 = .ok (.iconst 1, 1) := by decide +kernel
theorem dX11_keepRest_38 : decode cX11_keepRest 38 = .ok (.iload_n 2, 1) := by decide +kernel
theorem dX11_keepRest_39 : decode cX11_keepRest 39 = .ok (.iconst 0, 1) := by decide +kernel
theorem dX11_keepRest_40 : decode cX11_keepRest 40 = .ok (.invokevirtual 174, 3) := by decide +kernel
theorem dX11_keepRest_43 : decode cX11_keepRest 43 = .ok (.ireturn, 1) := by decide +kernel
theorem dX11_keepTwoRests_0 : decode cX11_keepTwoRests 0 = .ok (.aload_n 0, 1) := by decide +kernel
theorem dX11_keepTwoRests_1 : decode cX11_keepTwoRests 1 = .ok (.aload_n 0, 1) := by decide +kernel
theorem dX11_keepTwoRests_2 : decode cX11_keepTwoRests 2 = .ok (.iload_n 1, 1) := by decide +kernel
theorem dX11_keepTwoRests_3 : decode cX11_keepTwoRests 3 = .ok (.invokevirtual 94, 3) := by decide +kernel
theorem dX11_keepTwoRests_6 : decode cX11_keepTwoRests 6 = .ok (.ifCond .ne 7, 3) := by decide +kernel
theorem dX11_keepTwoRests_9 : decode cX11_keepTwoRests 9 = .ok (.iconst 1, 1) := by decide +kernel
theorem dX11_keepTwoRests_10 : decode cX11_keepTwoRests 10 = .ok (.goto 22, 3) := by decide +kernel
theorem dX11_keepTwoRests_13 : decode cX11_keepTwoRests 13 = .ok (.iload_n 2, 1) := by decide +kernel
theorem dX11_keepTwoRests_14 : decode cX11_keepTwoRests 14 = .ok (.invokestatic 178, 3) := by decide +kernel
theorem dX11_keepTwoRests_17 : decode cX11_keepTwoRests 17 = .ok (.ifCond .eq 14, 3) := by decide +kernel
theorem dX11_keepTwoRests_20 : decode cX11_keepTwoRests 20 = .ok (.iload_n 3, 1) := by decide +kernel
theorem dX11_keepTwoRests_21 : decode cX11_keepTwoRests 21 = .ok (.invokestatic 178, 3) := by decide +kernel
theorem dX11_keepTwoRests_24 : decode cX11_keepTwoRests 24 = .ok (.ifCond .eq 7, 3) := by decide +kernel
theorem dX11_keepTwoRests_27 : decode cX11_keepTwoRests 27 = .ok (.iconst 0, 1) := by decide +kernel
theorem dX11_keepTwoRests_28 : decode cX11_keepTwoRests 28 = .ok (.goto 4, 3) := by decide +kernel
theorem dX11_keepTwoRests_31 : decode cX11_keepTwoRests 31 = .ok (.iconst 2, 1) := by decide +kernel
theorem dX11_keepTwoRests_32 : decode cX11_keepTwoRests 32 = .ok (.invokevirtual 102, 3) := by decide +kernel
theorem dX11_keepTwoRests_35 : decode cX11_keepTwoRests 35 = .ok (.ifCond .eq 7, 3) := by decide +kernel
theorem dX11_keepTwoRests_38 : decode cX11_keepTwoRests 38 = .ok (.iconst 0, 1) := by decide +kernel
theorem dX11_keepTwoRests_39 : decode cX11_keepTwoRests 39 = .ok (.goto 11, 3) := by decide +kernel
theorem dX11_keepTwoRests_42 : decode cX11_keepTwoRests 42 = .ok (.aload_n 0, 1) := by decide +kernel
theorem dX11_keepTwoRests_43 : decode cX11_keepTwoRests 43 = .ok (.iload_n 1, 1) := by decide +kernel
theorem dX11_keepTwoRests_44 : decode cX11_keepTwoRests 44 = .ok (.iconst 2, 1) := by decide +kernel
theorem dX11_keepTwoRests_45 : decode cX11_keepTwoRests 45 = .ok (.iload_n 2, 1) := by decide +kernel
theorem dX11_keepTwoRests_46 : decode cX11_keepTwoRests 46 = .ok (.iload_n 3, 1) := by decide +kernel
theorem dX11_keepTwoRests_47 : decode cX11_keepTwoRests 47 = .ok (.invokevirtual 174, 3) := by decide +kernel
theorem dX11_keepTwoRests_50 : decode cX11_keepTwoRests 50 = .ok (.ireturn, 1) := by decide +kernel
theorem dX11_keepSlant_0 : decode cX11_keepSlant 0 = .ok (.aload_n 0, 1) := by decide +kernel
theorem dX11_keepSlant_1 : decode cX11_keepSlant 1 = .ok (.aload_n 0, 1) := by decide +kernel
theorem dX11_keepSlant_2 : decode cX11_keepSlant 2 = .ok (.iload_n 1, 1) := by decide +kernel
theorem dX11_keepSlant_3 : decode cX11_keepSlant 3 = .ok (.invokevirtual 94, 3) := by decide +kernel
theorem dX11_keepSlant_6 : decode cX11_keepSlant 6 = .ok (.ifCond .ne 7, 3) := by decide +kernel
theorem dX11_keepSlant_9 : decode cX11_keepSlant 9 = .ok (.iconst 1, 1) := by decide +kernel
theorem dX11_keepSlant_10 : decode cX11_keepSlant 10 = .ok (.goto 25, 3) := by decide +kernel
theorem dX11_keepSlant_13 : decode cX11_keepSlant 13 = .ok (.iload_n 2, 1) := by decide +kernel
theorem dX11_keepSlant_14 : decode cX11_keepSlant 14 = .ok (.iconst 0, 1) := by decide +kernel
theorem dX11_keepSlant_15 : decode cX11_keepSlant 15 = .ok (.bipush 9, 2) := by decide +kernel
theorem dX11_keepSlant_17 : decode cX11_keepSlant 17 = .ok (.invokestatic 90, 3) := by decide +kernel
theorem dX11_keepSlant_20 : decode cX11_keepSlant 20 = .ok (.ifCond .eq 14, 3) := by decide +kernel
theorem dX11_keepSlant_23 : decode cX11_keepSlant 23 = .ok (.iload_n 3, 1) := by decide +kernel
theorem dX11_keepSlant_24 : decode cX11_keepSlant 24 = .ok (.invokestatic 178, 3) := by decide +kernel
theorem dX11_keepSlant_27 : decode cX11_keepSlant 27 = .ok (.ifCond .eq 7, 3) := by decide +kernel
theorem dX11_keepSlant_30 : decode cX11_keepSlant 30 = .ok (.iconst 0, 1) := by decide +kernel
theorem dX11_keepSlant_31 : decode cX11_keepSlant 31 = .ok (.goto 4, 3) := by decide +kernel
theorem dX11_keepSlant_34 : decode cX11_keepSlant 34 = .ok (.iconst 2, 1) := by decide +kernel
theorem dX11_keepSlant_35 : decode cX11_keepSlant 35 = .ok (.invokevirtual 102, 3) := by decide +kernel
theorem dX11_keepSlant_38 : decode cX11_keepSlant 38 = .ok (.ifCond .eq 7, 3) := by decide +kernel
theorem dX11_keepSlant_41 : decode cX11_keepSlant 41 = .ok (.iconst 0, 1) := by decide +kernel
theorem dX11_keepSlant_42 : decode cX11_keepSlant 42 = .ok (.goto 11, 3) := by decide +kernel
theorem dX11_keepSlant_45 : decode cX11_keepSlant 45 = .ok (.aload_n 0, 1) := by decide +kernel
theorem dX11_keepSlant_46 : decode cX11_keepSlant 46 = .ok (.iload_n 1, 1) := by decide +kernel
theorem dX11_keepSlant_47 : decode cX11_keepSlant 47 = .ok (.iconst 3, 1) := by decide +kernel
theorem dX11_keepSlant_48 : decode cX11_keepSlant 48 = .ok (.iload_n 2, 1) := by decide +kernel
theorem dX11_keepSlant_49 : decode cX11_keepSlant 49 = .ok (.iload_n 3, 1) := by decide +kernel
theorem dX11_keepSlant_50 : decode cX11_keepSlant 50 = .ok (.invokevirtual 174, 3) := by decide +kernel
theorem dX11_keepSlant_53 : decode cX11_keepSlant 53 = .ok (.ireturn, 1) := by decide +kernel
theorem dX11_rooms_0 : decode cX11_rooms 0 = .ok (.iconst 0, 1) := by decide +kernel
theorem dX11_rooms_1 : decode cX11_rooms 1 = .ok (.istore_n 1, 1) := by decide +kernel
theorem dX11_rooms_2 : decode cX11_rooms 2 = .ok (.iconst 0, 1) := by decide +kernel
theorem dX11_rooms_3 : decode cX11_rooms 3 = .ok (.istore_n 2, 1) := by decide +kernel
theorem dX11_rooms_4 : decode cX11_rooms 4 = .ok (.iload_n 2, 1) := by decide +kernel
theorem dX11_rooms_5 : decode cX11_rooms 5 = .ok (.aload_n 0, 1) := by decide +kernel
theorem dX11_rooms_6 : decode cX11_rooms 6 = .ok (.getfield 87, 3) := by decide +kernel
theorem dX11_rooms_9 : decode cX11_rooms 9 = .ok (.if_icmp .ge 17, 3) := by decide +kernel
theorem dX11_rooms_12 : decode cX11_rooms 12 = .ok (.iload_n 1, 1) := by decide +kernel
theorem dX11_rooms_13 : decode cX11_rooms 13 = .ok (.aload_n 0, 1) := by decide +kernel
theorem dX11_rooms_14 : decode cX11_rooms 14 = .ok (.iload_n 2, 1) := by decide +kernel
theorem dX11_rooms_15 : decode cX11_rooms 15 = .ok (.invokevirtual 171, 3) := by decide +kernel
theorem dX11_rooms_18 : decode cX11_rooms 18 = .ok (.iadd, 1) := by decide +kernel
theorem dX11_rooms_19 : decode cX11_rooms 19 = .ok (.istore_n 1, 1) := by decide +kernel
theorem dX11_rooms_20 : decode cX11_rooms 20 = .ok (.iinc 2 1, 3) := by decide +kernel
theorem dX11_rooms_23 : decode cX11_rooms 23 = .ok (.goto (-19), 3) := by decide +kernel
theorem dX11_rooms_26 : decode cX11_rooms 26 = .ok (.iload_n 1, 1) := by decide +kernel
theorem dX11_rooms_27 : decode cX11_rooms 27 = .ok (.ireturn, 1) := by decide +kernel
theorem dX11_contract_0 : decode cX11_contract 0 = .ok (.aload_n 0, 1) := by decide +kernel
theorem dX11_contract_1 : decode cX11_contract 1 = .ok (.iconst 0, 1) := by decide +kernel
theorem dX11_contract_2 : decode cX11_contract 2 = .ok (.putfield 84, 3) := by decide +kernel
theorem dX11_contract_5 : decode cX11_contract 5 = .ok (.aload_n 0, 1) := by decide +kernel
theorem dX11_contract_6 : decode cX11_contract 6 = .ok (.invokevirtual 159, 3) := by decide +kernel
theorem dX11_contract_9 : decode cX11_contract 9 = .ok (.iconst 0, 1) := by decide +kernel
theorem dX11_contract_10 : decode cX11_contract 10 = .ok (.istore_n 1, 1) := by decide +kernel
theorem dX11_contract_11 : decode cX11_contract 11 = .ok (.iload_n 1, 1) := by decide +kernel
theorem dX11_contract_12 : decode cX11_contract 12 = .ok (.aload_n 0, 1) := by decide +kernel
theorem dX11_contract_13 : decode cX11_contract 13 = .ok (.getfield 87, 3) := by decide +kernel
theorem dX11_contract_16 : decode cX11_contract 16 = .ok (.if_icmp .ge 119, 3) := by decide +kernel
theorem dX11_contract_19 : decode cX11_contract 19 = .ok (.aload_n 0, 1) := by decide +kernel
theorem dX11_contract_20 : decode cX11_contract 20 = .ok (.iload_n 1, 1) := by decide +kernel
theorem dX11_contract_21 : decode cX11_contract 21 = .ok (.invokevirtual 181, 3) := by decide +kernel
theorem dX11_contract_24 : decode cX11_contract 24 = .ok (.aload_n 0, 1) := by decide +kernel
theorem dX11_contract_25 : decode cX11_contract 25 = .ok (.iload_n 1, 1) := by decide +kernel
theorem dX11_contract_26 : decode cX11_contract 26 = .ok (.iconst 0, 1) := by decide +kernel
theorem dX11_contract_27 : decode cX11_contract 27 = .ok (.iconst 0, 1) := by decide +kernel
theorem dX11_contract_28 : decode cX11_contract 28 = .ok (.iconst 0, 1) := by decide +kernel
theorem dX11_contract_29 : decode cX11_contract 29 = .ok (.invokevirtual 174, 3) := by decide +kernel
theorem dX11_contract_32 : decode cX11_contract 32 = .ok (.pop, 1) := by decide +kernel
theorem dX11_contract_33 : decode cX11_contract 33 = .ok (.aload_n 0, 1) := by decide +kernel
theorem dX11_contract_34 : decode cX11_contract 34 = .ok (.invokevirtual 185, 3) := by decide +kernel
theorem dX11_contract_37 : decode cX11_contract 37 = .ok (.istore_n 2, 1) := by decide +kernel
theorem dX11_contract_38 : decode cX11_contract 38 = .ok (.iload_n 2, 1) := by decide +kernel
theorem dX11_contract_39 : decode cX11_contract 39 = .ok (.aload_n 0, 1) := by decide +kernel
theorem dX11_contract_40 : decode cX11_contract 40 = .ok (.iload_n 1, 1) := by decide +kernel
theorem dX11_contract_41 : decode cX11_contract 41 = .ok (.invokevirtual 171, 3) := by decide +kernel
theorem dX11_contract_44 : decode cX11_contract 44 = .ok (.if_icmp .ge 12, 3) := by decide +kernel
theorem dX11_contract_47 : decode cX11_contract 47 = .ok (.aload_n 0, 1) := by decide +kernel
theorem dX11_contract_48 : decode cX11_contract 48 = .ok (.iload_n 1, 1) := by decide +kernel
theorem dX11_contract_49 : decode cX11_contract 49 = .ok (.iconst 1, 1) := by decide +kernel
theorem dX11_contract_50 : decode cX11_contract 50 = .ok (.iload_n 2, 1) := by decide +kernel
theorem dX11_contract_51 : decode cX11_contract 51 = .ok (.iconst 0, 1) := by decide +kernel
theorem dX11_contract_52 : decode cX11_contract 52 = .ok (.invokevirtual 174, 3) := by decide +kernel
theorem dX11_contract_55 : decode cX11_contract 55 = .ok (.pop, 1) := by decide +kernel
theorem dX11_contract_56 : decode cX11_contract 56 = .ok (.aload_n 0, 1) := by decide +kernel
theorem dX11_contract_57 : decode cX11_contract 57 = .ok (.invokevirtual 188, 3) := by decide +kernel
theorem dX11_contract_60 : decode cX11_contract 60 = .ok (.istore_n 3, 1) := by decide +kernel
theorem dX11_contract_61 : decode cX11_contract 61 = .ok (.iload_n 3, 1) := by decide +kernel
theorem dX11_contract_62 : decode cX11_contract 62 = .ok (.bipush 100, 2) := by decide +kernel
theorem dX11_contract_64 : decode cX11_contract 64 = .ok (.idiv, 1) := by decide +kernel
theorem dX11_contract_65 : decode cX11_contract 65 = .ok (.iload_n 3, 1) := by decide +kernel
theorem dX11_contract_66 : decode cX11_contract 66 = .ok (.bipush 100, 2) := by decide +kernel
theorem dX11_contract_68 : decode cX11_contract 68 = .ok (.irem, 1) := by decide +kernel
theorem dX11_contract_69 : decode cX11_contract 69 = .ok (.imul, 1) := by decide +kernel
theorem dX11_contract_70 : decode cX11_contract 70 = .ok (.aload_n 0, 1) := by decide +kernel
theorem dX11_contract_71 : decode cX11_contract 71 = .ok (.iload_n 1, 1) := by decide +kernel
theorem dX11_contract_72 : decode cX11_contract 72 = .ok (.invokevirtual 171, 3) := by decide +kernel
theorem dX11_contract_75 : decode cX11_contract 75 = .ok (.if_icmp .ge 18, 3) := by decide +kernel
theorem dX11_contract_78 : decode cX11_contract 78 = .ok (.aload_n 0, 1) := by decide +kernel
theorem dX11_contract_79 : decode cX11_contract 79 = .ok (.iload_n 1, 1) := by decide +kernel
theorem dX11_contract_80 : decode cX11_contract 80 = .ok (.iconst 2, 1) := by decide +kernel
theorem dX11_contract_81 : decode cX11_contract 81 = .ok (.iload_n 3, 1) := by decide +kernel
theorem dX11_contract_82 : decode cX11_contract 82 = .ok (.bipush 100, 2) := by decide +kernel
theorem dX11_contract_84 : decode cX11_contract 84 = .ok (.idiv, 1) := by decide +kernel
theorem dX11_contract_85 : decode cX11_contract 85 = .ok (.iload_n 3, 1) := by decide +kernel
theorem dX11_contract_86 : decode cX11_contract 86 = .ok (.bipush 100, 2) := by decide +kernel
theorem dX11_contract_88 : decode cX11_contract 88 = .ok (.irem, 1) := by decide +kernel
theorem dX11_contract_89 : decode cX11_contract 89 = .ok (.invokevirtual 174, 3) := by decide +kernel
theorem dX11_contract_92 : decode cX11_contract 92 = .ok (.pop, 1) := by decide +kernel
theorem dX11_contract_93 : decode cX11_contract 93 = .ok (.aload_n 0, 1) := by decide +kernel
theorem dX11_contract_94 : decode cX11_contract 94 = .ok (.invokevirtual 191, 3) := by decide +kernel
theorem dX11_contract_97 : decode cX11_contract 97 = .ok (.istore 4, 2) := by decide +kernel
theorem dX11_contract_99 : decode cX11_contract 99 = .ok (.iload 4, 2) := by decide +kernel
theorem dX11_contract_101 : decode cX11_contract 101 = .ok (.bipush 10, 2) := by decide +kernel
theorem dX11_contract_103 : decode cX11_contract 103 = .ok (.idiv, 1) := by decide +kernel
theorem dX11_contract_104 : decode cX11_contract 104 = .ok (.aload_n 0, 1) := by decide +kernel
theorem dX11_contract_105 : decode cX11_contract 105 = .ok (.iload_n 1, 1) := by decide +kernel
theorem dX11_contract_106 : decode cX11_contract 106 = .ok (.invokevirtual 171, 3) := by decide +kernel
theorem dX11_contract_109 : decode cX11_contract 109 = .ok (.if_icmp .ge 20, 3) := by decide +kernel
theorem dX11_contract_112 : decode cX11_contract 112 = .ok (.aload_n 0, 1) := by decide +kernel
theorem dX11_contract_113 : decode cX11_contract 113 = .ok (.iload_n 1, 1) := by decide +kernel
theorem dX11_contract_114 : decode cX11_contract 114 = .ok (.iconst 3, 1) := by decide +kernel
theorem dX11_contract_115 : decode cX11_contract 115 = .ok (.iload 4, 2) := by decide +kernel
theorem dX11_contract_117 : decode cX11_contract 117 = .ok (.bipush 10, 2) := by decide +kernel
theorem dX11_contract_119 : decode cX11_contract 119 = .ok (.irem, 1) := by decide +kernel
theorem dX11_contract_120 : decode cX11_contract 120 = .ok (.iload 4, 2) := by decide +kernel
theorem dX11_contract_122 : decode cX11_contract 122 = .ok (.bipush 10, 2) := by decide +kernel
theorem dX11_contract_124 : decode cX11_contract 124 = .ok (.idiv, 1) := by decide +kernel
theorem dX11_contract_125 : decode cX11_contract 125 = .ok (.invokevirtual 174, 3) := by decide +kernel
theorem dX11_contract_128 : decode cX11_contract 128 = .ok (.pop, 1) := by decide +kernel
theorem dX11_contract_129 : decode cX11_contract 129 = .ok (.iinc 1 1, 3) := by decide +kernel
theorem dX11_contract_132 : decode cX11_contract 132 = .ok (.goto (-121), 3) := by decide +kernel
theorem dX11_contract_135 : decode cX11_contract 135 = .ok (.aload_n 0, 1) := by decide +kernel
theorem dX11_contract_136 : decode cX11_contract 136 = .ok (.invokevirtual 194, 3) := by decide +kernel
theorem dX11_contract_139 : decode cX11_contract 139 = .ok (.ireturn, 1) := by decide +kernel
theorem dX11_windowSize_0 : decode cX11_windowSize 0 = .ok (.aload_n 0, 1) := by decide +kernel
theorem dX11_windowSize_1 : decode cX11_windowSize 1 = .ok (.aload_n 0, 1) := by decide +kernel
theorem dX11_windowSize_2 : decode cX11_windowSize 2 = .ok (.iload_n 1, 1) := by decide +kernel
theorem dX11_windowSize_3 : decode cX11_windowSize 3 = .ok (.invokevirtual 94, 3) := by decide +kernel
theorem dX11_windowSize_6 : decode cX11_windowSize 6 = .ok (.ifCond .eq 7, 3) := by decide +kernel
theorem dX11_windowSize_9 : decode cX11_windowSize 9 = .ok (.iconst 0, 1) := by decide +kernel
theorem dX11_windowSize_10 : decode cX11_windowSize 10 = .ok (.goto 4, 3) := by decide +kernel
theorem dX11_windowSize_13 : decode cX11_windowSize 13 = .ok (.iconst 1, 1) := by decide +kernel
theorem dX11_windowSize_14 : decode cX11_windowSize 14 = .ok (.invokevirtual 102, 3) := by decide +kernel
theorem dX11_windowSize_17 : decode cX11_windowSize 17 = .ok (.ifCond .eq 7, 3) := by decide +kernel
theorem dX11_windowSize_20 : decode cX11_windowSize 20 = .ok (.iconst 0, 1) := by decide +kernel
theorem dX11_windowSize_21 : decode cX11_windowSize 21 = .ok (.goto 8, 3) := by decide +kernel
theorem dX11_windowSize_24 : decode cX11_windowSize 24 = .ok (.aload_n 0, 1) := by decide +kernel
theorem dX11_windowSize_25 : decode cX11_windowSize 25 = .ok (.iload_n 1, 1) := by decide +kernel
theorem dX11_windowSize_26 : decode cX11_windowSize 26 = .ok (.invokevirtual 171, 3) := by decide +kernel
theorem dX11_windowSize_29 : decode cX11_windowSize 29 = .ok (.ireturn, 1) := by decide +kernel
theorem dX11_room_0 : decode cX11_room 0 = .ok (.aload_n 0, 1) := by decide +kernel
theorem dX11_room_1 : decode cX11_room 1 = .ok (.iconst 0, 1) := by decide +kernel
theorem dX11_room_2 : decode cX11_room 2 = .ok (.putfield 84, 3) := by decide +kernel
theorem dX11_room_5 : decode cX11_room 5 = .ok (.aload_n 0, 1) := by decide +kernel
theorem dX11_room_6 : decode cX11_room 6 = .ok (.invokevirtual 194, 3) := by decide +kernel
theorem dX11_room_9 : decode cX11_room 9 = .ok (.ireturn, 1) := by decide +kernel
theorem dX11_place_0 : decode cX11_place 0 = .ok (.iload_n 1, 1) := by decide +kernel
theorem dX11_place_1 : decode cX11_place 1 = .ok (.bipush 64, 2) := by decide +kernel
theorem dX11_place_3 : decode cX11_place 3 = .ok (.idiv, 1) := by decide +kernel
theorem dX11_place_4 : decode cX11_place 4 = .ok (.istore_n 2, 1) := by decide +kernel
theorem dX11_place_5 : decode cX11_place 5 = .ok (.aload_n 0, 1) := by decide +kernel
theorem dX11_place_6 : decode cX11_place 6 = .ok (.iload_n 1, 1) := by decide +kernel
theorem dX11_place_7 : decode cX11_place 7 = .ok (.invokevirtual 105, 3) := by decide +kernel
theorem dX11_place_10 : decode cX11_place 10 = .ok (.istore_n 3, 1) := by decide +kernel
theorem dX11_place_11 : decode cX11_place 11 = .ok (.aload_n 0, 1) := by decide +kernel
theorem dX11_place_12 : decode cX11_place 12 = .ok (.iload_n 1, 1) := by decide +kernel
theorem dX11_place_13 : decode cX11_place 13 = .ok (.invokevirtual 109, 3) := by decide +kernel
theorem dX11_place_16 : decode cX11_place 16 = .ok (.istore 4, 2) := by decide +kernel
theorem dX11_place_18 : decode cX11_place 18 = .ok (.aload_n 0, 1) := by decide +kernel
theorem dX11_place_19 : decode cX11_place 19 = .ok (.getfield 45, 3) := by decide +kernel
theorem dX11_place_22 : decode cX11_place 22 = .ok (.iload_n 2, 1) := by decide +kernel
theorem dX11_place_23 : decode cX11_place 23 = .ok (.iaload, 1) := by decide +kernel
theorem dX11_place_24 : decode cX11_place 24 = .ok (.tableswitch 71 0 2 #[28, 33, 45], 28) := by decide +kernel
theorem dX11_place_52 : decode cX11_place 52 = .ok (.iload_n 1, 1) := by decide +kernel
theorem dX11_place_53 : decode cX11_place 53 = .ok (.bipush 64, 2) := by decide +kernel
theorem dX11_place_55 : decode cX11_place 55 = .ok (.irem, 1) := by decide +kernel
theorem dX11_place_56 : decode cX11_place 56 = .ok (.ireturn, 1) := by decide +kernel
theorem dX11_place_57 : decode cX11_place 57 = .ok (.iload_n 1, 1) := by decide +kernel
theorem dX11_place_58 : decode cX11_place 58 = .ok (.bipush 64, 2) := by decide +kernel
theorem dX11_place_60 : decode cX11_place 60 = .ok (.irem, 1) := by decide +kernel
theorem dX11_place_61 : decode cX11_place 61 = .ok (.aload_n 0, 1) := by decide +kernel
theorem dX11_place_62 : decode cX11_place 62 = .ok (.getfield 48, 3) := by decide +kernel
theorem dX11_place_65 : decode cX11_place 65 = .ok (.iload_n 2, 1) := by decide +kernel
theorem dX11_place_66 : decode cX11_place 66 = .ok (.iaload, 1) := by decide +kernel
theorem dX11_place_67 : decode cX11_place 67 = .ok (.irem, 1) := by decide +kernel
theorem dX11_place_68 : decode cX11_place 68 = .ok (.ireturn, 1) := by decide +kernel
theorem dX11_place_69 : decode cX11_place 69 = .ok (.iload_n 3, 1) := by decide +kernel
theorem dX11_place_70 : decode cX11_place 70 = .ok (.aload_n 0, 1) := by decide +kernel
theorem dX11_place_71 : decode cX11_place 71 = .ok (.getfield 48, 3) := by decide +kernel
theorem dX11_place_74 : decode cX11_place 74 = .ok (.iload_n 2, 1) := by decide +kernel
theorem dX11_place_75 : decode cX11_place 75 = .ok (.iaload, 1) := by decide +kernel
theorem dX11_place_76 : decode cX11_place 76 = .ok (.irem, 1) := by decide +kernel
theorem dX11_place_77 : decode cX11_place 77 = .ok (.aload_n 0, 1) := by decide +kernel
theorem dX11_place_78 : decode cX11_place 78 = .ok (.getfield 51, 3) := by decide +kernel
theorem dX11_place_81 : decode cX11_place 81 = .ok (.iload_n 2, 1) := by decide +kernel
theorem dX11_place_82 : decode cX11_place 82 = .ok (.iaload, 1) := by decide +kernel
theorem dX11_place_83 : decode cX11_place 83 = .ok (.imul, 1) := by decide +kernel
theorem dX11_place_84 : decode cX11_place 84 = .ok (.iload 4, 2) := by decide +kernel
theorem dX11_place_86 : decode cX11_place 86 = .ok (.aload_n 0, 1) := by decide +kernel
theorem dX11_place_87 : decode cX11_place 87 = .ok (.getfield 51, 3) := by decide +kernel
theorem dX11_place_90 : decode cX11_place 90 = .ok (.iload_n 2, 1) := by decide +kernel
theorem dX11_place_91 : decode cX11_place 91 = .ok (.iaload, 1) := by decide +kernel
theorem dX11_place_92 : decode cX11_place 92 = .ok (.irem, 1) := by decide +kernel
theorem dX11_place_93 : decode cX11_place 93 = .ok (.iadd, 1) := by decide +kernel
theorem dX11_place_94 : decode cX11_place 94 = .ok (.ireturn, 1) := by decide +kernel
theorem dX11_place_95 : decode cX11_place 95 = .ok (.iload_n 3, 1) := by decide +kernel
theorem dX11_place_96 : decode cX11_place 96 = .ok (.iload 4, 2) := by decide +kernel
theorem dX11_place_98 : decode cX11_place 98 = .ok (.aload_n 0, 1) := by decide +kernel
theorem dX11_place_99 : decode cX11_place 99 = .ok (.getfield 48, 3) := by decide +kernel
theorem dX11_place_102 : decode cX11_place 102 = .ok (.iload_n 2, 1) := by decide +kernel
theorem dX11_place_103 : decode cX11_place 103 = .ok (.iaload, 1) := by decide +kernel
theorem dX11_place_104 : decode cX11_place 104 = .ok (.imul, 1) := by decide +kernel
theorem dX11_place_105 : decode cX11_place 105 = .ok (.iadd, 1) := by decide +kernel
theorem dX11_place_106 : decode cX11_place 106 = .ok (.aload_n 0, 1) := by decide +kernel
theorem dX11_place_107 : decode cX11_place 107 = .ok (.getfield 51, 3) := by decide +kernel
theorem dX11_place_110 : decode cX11_place 110 = .ok (.iload_n 2, 1) := by decide +kernel
theorem dX11_place_111 : decode cX11_place 111 = .ok (.iaload, 1) := by decide +kernel
theorem dX11_place_112 : decode cX11_place 112 = .ok (.irem, 1) := by decide +kernel
theorem dX11_place_113 : decode cX11_place 113 = .ok (.ireturn, 1) := by decide +kernel
theorem dX11_placeOf_0 : decode cX11_placeOf 0 = .ok (.aload_n 0, 1) := by decide +kernel
theorem dX11_placeOf_1 : decode cX11_placeOf 1 = .ok (.aload_n 0, 1) := by decide +kernel
theorem dX11_placeOf_2 : decode cX11_placeOf 2 = .ok (.iload_n 1, 1) := by decide +kernel
theorem dX11_placeOf_3 : decode cX11_placeOf 3 = .ok (.iload_n 2, 1) := by decide +kernel
theorem dX11_placeOf_4 : decode cX11_placeOf 4 = .ok (.iload_n 3, 1) := by decide +kernel
theorem dX11_placeOf_5 : decode cX11_placeOf 5 = .ok (.invokevirtual 150, 3) := by decide +kernel
theorem dX11_placeOf_8 : decode cX11_placeOf 8 = .ok (.ifCond .eq 7, 3) := by decide +kernel
theorem dX11_placeOf_11 : decode cX11_placeOf 11 = .ok (.iconst 0, 1) := by decide +kernel
theorem dX11_placeOf_12 : decode cX11_placeOf 12 = .ok (.goto 4, 3) := by decide +kernel
theorem dX11_placeOf_15 : decode cX11_placeOf 15 = .ok (.iconst 1, 1) := by decide +kernel
theorem dX11_placeOf_16 : decode cX11_placeOf 16 = .ok (.invokevirtual 102, 3) := by decide +kernel
theorem dX11_placeOf_19 : decode cX11_placeOf 19 = .ok (.ifCond .eq 7, 3) := by decide +kernel
theorem dX11_placeOf_22 : decode cX11_placeOf 22 = .ok (.iconst 0, 1) := by decide +kernel
theorem dX11_placeOf_23 : decode cX11_placeOf 23 = .ok (.goto 14, 3) := by decide +kernel
theorem dX11_placeOf_26 : decode cX11_placeOf 26 = .ok (.aload_n 0, 1) := by decide +kernel
theorem dX11_placeOf_27 : decode cX11_placeOf 27 = .ok (.aload_n 0, 1) := by decide +kernel
theorem dX11_placeOf_28 : decode cX11_placeOf 28 = .ok (.iload_n 1, 1) := by decide +kernel
theorem dX11_placeOf_29 : decode cX11_placeOf 29 = .ok (.iload_n 2, 1) := by decide +kernel
theorem dX11_placeOf_30 : decode cX11_placeOf 30 = .ok (.iload_n 3, 1) := by decide +kernel
theorem dX11_placeOf_31 : decode cX11_placeOf 31 = .ok (.invokevirtual 127, 3) := by decide +kernel
theorem dX11_placeOf_34 : decode cX11_placeOf 34 = .ok (.invokevirtual 197, 3) := by decide +kernel
theorem dX11_placeOf_37 : decode cX11_placeOf 37 = .ok (.ireturn, 1) := by decide +kernel
theorem dX11_isRight_0 : decode cX11_isRight 0 = .ok (.aload_n 0, 1) := by decide +kernel
theorem dX11_isRight_1 : decode cX11_isRight 1 = .ok (.aload_n 0, 1) := by decide +kernel
theorem dX11_isRight_2 : decode cX11_isRight 2 = .ok (.iload_n 1, 1) := by decide +kernel
theorem dX11_isRight_3 : decode cX11_isRight 3 = .ok (.invokevirtual 94, 3) := by decide +kernel
theorem dX11_isRight_6 : decode cX11_isRight 6 = .ok (.ifCond .eq 7, 3) := by decide +kernel
theorem dX11_isRight_9 : decode cX11_isRight 9 = .ok (.iconst 0, 1) := by decide +kernel
theorem dX11_isRight_10 : decode cX11_isRight 10 = .ok (.goto 4, 3) := by decide +kernel
theorem dX11_isRight_13 : decode cX11_isRight 13 = .ok (.iconst 1, 1) := by decide +kernel
theorem dX11_isRight_14 : decode cX11_isRight 14 = .ok (.invokevirtual 102, 3) := by decide +kernel
theorem dX11_isRight_17 : decode cX11_isRight 17 = .ok (.ifCond .eq 5, 3) := by decide +kernel
theorem dX11_isRight_20 : decode cX11_isRight 20 = .ok (.iconst 0, 1) := by decide +kernel
theorem dX11_isRight_21 : decode cX11_isRight 21 = .ok (.ireturn, 1) := by decide +kernel
theorem dX11_isRight_22 : decode cX11_isRight 22 = .ok (.aload_n 0, 1) := by decide +kernel
theorem dX11_isRight_23 : decode cX11_isRight 23 = .ok (.invokevirtual 159, 3) := by decide +kernel
theorem dX11_isRight_26 : decode cX11_isRight 26 = .ok (.iconst 1, 1) := by decide +kernel
theorem dX11_isRight_27 : decode cX11_isRight 27 = .ok (.istore_n 2, 1) := by decide +kernel
theorem dX11_isRight_28 : decode cX11_isRight 28 = .ok (.bipush 64, 2) := by decide +kernel
theorem dX11_isRight_30 : decode cX11_isRight 30 = .ok (.iload_n 1, 1) := by decide +kernel
theorem dX11_isRight_31 : decode cX11_isRight 31 = .ok (.imul, 1) := by decide +kernel
theorem dX11_isRight_32 : decode cX11_isRight 32 = .ok (.istore_n 3, 1) := by decide +kernel
theorem dX11_isRight_33 : decode cX11_isRight 33 = .ok (.iload_n 3, 1) := by decide +kernel
theorem dX11_isRight_34 : decode cX11_isRight 34 = .ok (.bipush 64, 2) := by decide +kernel
theorem dX11_isRight_36 : decode cX11_isRight 36 = .ok (.iload_n 1, 1) := by decide +kernel
theorem dX11_isRight_37 : decode cX11_isRight 37 = .ok (.imul, 1) := by decide +kernel
theorem dX11_isRight_38 : decode cX11_isRight 38 = .ok (.aload_n 0, 1) := by decide +kernel
theorem dX11_isRight_39 : decode cX11_isRight 39 = .ok (.getfield 7, 3) := by decide +kernel
theorem dX11_isRight_42 : decode cX11_isRight 42 = .ok (.aload_n 0, 1) := by decide +kernel
theorem dX11_isRight_43 : decode cX11_isRight 43 = .ok (.getfield 13, 3) := by decide +kernel
theorem dX11_isRight_46 : decode cX11_isRight 46 = .ok (.imul, 1) := by decide +kernel
theorem dX11_isRight_47 : decode cX11_isRight 47 = .ok (.iadd, 1) := by decide +kernel
theorem dX11_isRight_48 : decode cX11_isRight 48 = .ok (.if_icmp .ge 61, 3) := by decide +kernel
theorem dX11_isRight_51 : decode cX11_isRight 51 = .ok (.bipush 64, 2) := by decide +kernel
theorem dX11_isRight_53 : decode cX11_isRight 53 = .ok (.iload_n 1, 1) := by decide +kernel
theorem dX11_isRight_54 : decode cX11_isRight 54 = .ok (.imul, 1) := by decide +kernel
theorem dX11_isRight_55 : decode cX11_isRight 55 = .ok (.istore 4, 2) := by decide +kernel
theorem dX11_isRight_57 : decode cX11_isRight 57 = .ok (.iload 4, 2) := by decide +kernel
theorem dX11_isRight_59 : decode cX11_isRight 59 = .ok (.iload_n 3, 1) := by decide +kernel
theorem dX11_isRight_60 : decode cX11_isRight 60 = .ok (.if_icmp .ge 43, 3) := by decide +kernel
theorem dX11_isRight_63 : decode cX11_isRight 63 = .ok (.iload_n 2, 1) := by decide +kernel
theorem dX11_isRight_64 : decode cX11_isRight 64 = .ok (.ifCond .eq 31, 3) := by decide +kernel
theorem dX11_isRight_67 : decode cX11_isRight 67 = .ok (.aload_n 0, 1) := by decide +kernel
theorem dX11_isRight_68 : decode cX11_isRight 68 = .ok (.iload_n 3, 1) := by decide +kernel
theorem dX11_isRight_69 : decode cX11_isRight 69 = .ok (.invokevirtual 197, 3) := by decide +kernel
theorem dX11_isRight_72 : decode cX11_isRight 72 = .ok (.aload_n 0, 1) := by decide +kernel
theorem dX11_isRight_73 : decode cX11_isRight 73 = .ok (.iload 4, 2) := by decide +kernel
theorem dX11_isRight_75 : decode cX11_isRight 75 = .ok (.invokevirtual 197, 3) := by decide +kernel
theorem dX11_isRight_78 : decode cX11_isRight 78 = .ok (.if_icmp .ne 13, 3) := by decide +kernel
theorem dX11_isRight_81 : decode cX11_isRight 81 = .ok (.aload_n 0, 1) := by decide +kernel
theorem dX11_isRight_82 : decode cX11_isRight 82 = .ok (.iload_n 3, 1) := by decide +kernel
theorem dX11_isRight_83 : decode cX11_isRight 83 = .ok (.iload 4, 2) := by decide +kernel
theorem dX11_isRight_85 : decode cX11_isRight 85 = .ok (.invokevirtual 165, 3) := by decide +kernel
theorem dX11_isRight_88 : decode cX11_isRight 88 = .ok (.ifCond .ne 7, 3) := by decide +kernel
theorem dX11_isRight_91 : decode cX11_isRight 91 = .ok (.iconst 1, 1) := by decide +kernel
theorem dX11_isRight_92 : decode cX11_isRight 92 = .ok (.goto 4, 3) := by decide +kernel
theorem dX11_isRight_95 : decode cX11_isRight 95 = .ok (.iconst 0, 1) := by decide +kernel
theorem dX11_isRight_96 : decode cX11_isRight 96 = .ok (.istore_n 2, 1) := by decide +kernel
theorem dX11_isRight_97 : decode cX11_isRight 97 = .ok (.iinc 4 1, 3) := by decide +kernel
theorem dX11_isRight_100 : decode cX11_isRight 100 = .ok (.goto (-43), 3) := by decide +kernel
theorem dX11_isRight_103 : decode cX11_isRight 103 = .ok (.iinc 3 1, 3) := by decide +kernel
theorem dX11_isRight_106 : decode cX11_isRight 106 = .ok (.goto (-73), 3) := by decide +kernel
theorem dX11_isRight_109 : decode cX11_isRight 109 = .ok (.iload_n 2, 1) := by decide +kernel
theorem dX11_isRight_110 : decode cX11_isRight 110 = .ok (.ireturn, 1) := by decide +kernel
theorem dX11_isRest_0 : decode cX11_isRest 0 = .ok (.iconst 1, 1) := by decide +kernel
theorem dX11_isRest_1 : decode cX11_isRest 1 = .ok (.istore_n 2, 1) := by decide +kernel
theorem dX11_isRest_2 : decode cX11_isRest 2 = .ok (.iconst 0, 1) := by decide +kernel
theorem dX11_isRest_3 : decode cX11_isRest 3 = .ok (.istore_n 3, 1) := by decide +kernel
theorem dX11_isRest_4 : decode cX11_isRest 4 = .ok (.iload_n 3, 1) := by decide +kernel
theorem dX11_isRest_5 : decode cX11_isRest 5 = .ok (.sipush 225, 3) := by decide +kernel
theorem dX11_isRest_8 : decode cX11_isRest 8 = .ok (.if_icmp .ge 54, 3) := by decide +kernel
theorem dX11_isRest_11 : decode cX11_isRest 11 = .ok (.iload_n 3, 1) := by decide +kernel
theorem dX11_isRest_12 : decode cX11_isRest 12 = .ok (.bipush 15, 2) := by decide +kernel
theorem dX11_isRest_14 : decode cX11_isRest 14 = .ok (.idiv, 1) := by decide +kernel
theorem dX11_isRest_15 : decode cX11_isRest 15 = .ok (.aload_n 0, 1) := by decide +kernel
theorem dX11_isRest_16 : decode cX11_isRest 16 = .ok (.getfield 13, 3) := by decide +kernel
theorem dX11_isRest_19 : decode cX11_isRest 19 = .ok (.imul, 1) := by decide +kernel
theorem dX11_isRest_20 : decode cX11_isRest 20 = .ok (.iload_n 3, 1) := by decide +kernel
theorem dX11_isRest_21 : decode cX11_isRest 21 = .ok (.bipush 15, 2) := by decide +kernel
theorem dX11_isRest_23 : decode cX11_isRest 23 = .ok (.irem, 1) := by decide +kernel
theorem dX11_isRest_24 : decode cX11_isRest 24 = .ok (.iadd, 1) := by decide +kernel
theorem dX11_isRest_25 : decode cX11_isRest 25 = .ok (.bipush 7, 2) := by decide +kernel
theorem dX11_isRest_27 : decode cX11_isRest 27 = .ok (.isub, 1) := by decide +kernel
theorem dX11_isRest_28 : decode cX11_isRest 28 = .ok (.istore 4, 2) := by decide +kernel
theorem dX11_isRest_30 : decode cX11_isRest 30 = .ok (.iload_n 2, 1) := by decide +kernel
theorem dX11_isRest_31 : decode cX11_isRest 31 = .ok (.ifCond .eq 23, 3) := by decide +kernel
theorem dX11_isRest_34 : decode cX11_isRest 34 = .ok (.aload_n 0, 1) := by decide +kernel
theorem dX11_isRest_35 : decode cX11_isRest 35 = .ok (.getfield 78, 3) := by decide +kernel
theorem dX11_isRest_38 : decode cX11_isRest 38 = .ok (.iload_n 3, 1) := by decide +kernel
theorem dX11_isRest_39 : decode cX11_isRest 39 = .ok (.baload, 1) := by decide +kernel
theorem dX11_isRest_40 : decode cX11_isRest 40 = .ok (.ifCond .eq 10, 3) := by decide +kernel
theorem dX11_isRest_43 : decode cX11_isRest 43 = .ok (.iload 4, 2) := by decide +kernel
theorem dX11_isRest_45 : decode cX11_isRest 45 = .ok (.iload_n 1, 1) := by decide +kernel
theorem dX11_isRest_46 : decode cX11_isRest 46 = .ok (.irem, 1) := by decide +kernel
theorem dX11_isRest_47 : decode cX11_isRest 47 = .ok (.ifCond .eq 7, 3) := by decide +kernel
theorem dX11_isRest_50 : decode cX11_isRest 50 = .ok (.iconst 1, 1) := by decide +kernel
theorem dX11_isRest_51 : decode cX11_isRest 51 = .ok (.goto 4, 3) := by decide +kernel
theorem dX11_isRest_54 : decode cX11_isRest 54 = .ok (.iconst 0, 1) := by decide +kernel
theorem dX11_isRest_55 : decode cX11_isRest 55 = .ok (.istore_n 2, 1) := by decide +kernel
theorem dX11_isRest_56 : decode cX11_isRest 56 = .ok (.iinc 3 1, 3) := by decide +kernel
theorem dX11_isRest_59 : decode cX11_isRest 59 = .ok (.goto (-55), 3) := by decide +kernel
theorem dX11_isRest_62 : decode cX11_isRest 62 = .ok (.iload_n 2, 1) := by decide +kernel
theorem dX11_isRest_63 : decode cX11_isRest 63 = .ok (.ireturn, 1) := by decide +kernel
theorem dX11_rest_0 : decode cX11_rest 0 = .ok (.iconst 1, 1) := by decide +kernel
theorem dX11_rest_1 : decode cX11_rest 1 = .ok (.istore_n 1, 1) := by decide +kernel
theorem dX11_rest_2 : decode cX11_rest 2 = .ok (.aload_n 0, 1) := by decide +kernel
theorem dX11_rest_3 : decode cX11_rest 3 = .ok (.iload_n 1, 1) := by decide +kernel
theorem dX11_rest_4 : decode cX11_rest 4 = .ok (.invokevirtual 200, 3) := by decide +kernel
theorem dX11_rest_7 : decode cX11_rest 7 = .ok (.ifCond .ne 9, 3) := by decide +kernel
theorem dX11_rest_10 : decode cX11_rest 10 = .ok (.iinc 1 1, 3) := by decide +kernel
theorem dX11_rest_13 : decode cX11_rest 13 = .ok (.goto (-11), 3) := by decide +kernel
theorem dX11_rest_16 : decode cX11_rest 16 = .ok (.iload_n 1, 1) := by decide +kernel
theorem dX11_rest_17 : decode cX11_rest 17 = .ok (.ireturn, 1) := by decide +kernel
theorem dX11_isTwo_0 : decode cX11_isTwo 0 = .ok (.iconst 1, 1) := by decide +kernel
theorem dX11_isTwo_1 : decode cX11_isTwo 1 = .ok (.istore_n 3, 1) := by decide +kernel
theorem dX11_isTwo_2 : decode cX11_isTwo 2 = .ok (.iconst 0, 1) := by decide +kernel
theorem dX11_isTwo_3 : decode cX11_isTwo 3 = .ok (.istore 4, 2) := by decide +kernel
theorem dX11_isTwo_5 : decode cX11_isTwo 5 = .ok (.iload 4, 2) := by decide +kernel
theorem dX11_isTwo_7 : decode cX11_isTwo 7 = .ok (.sipush 225, 3) := by decide +kernel
theorem dX11_isTwo_10 : decode cX11_isTwo 10 = .ok (.if_icmp .ge 52, 3) := by decide +kernel
theorem dX11_isTwo_13 : decode cX11_isTwo 13 = .ok (.iload_n 3, 1) := by decide +kernel
theorem dX11_isTwo_14 : decode cX11_isTwo 14 = .ok (.ifCond .eq 40, 3) := by decide +kernel
theorem dX11_isTwo_17 : decode cX11_isTwo 17 = .ok (.aload_n 0, 1) := by decide +kernel
theorem dX11_isTwo_18 : decode cX11_isTwo 18 = .ok (.getfield 78, 3) := by decide +kernel
theorem dX11_isTwo_21 : decode cX11_isTwo 21 = .ok (.iload 4, 2) := by decide +kernel
theorem dX11_isTwo_23 : decode cX11_isTwo 23 = .ok (.baload, 1) := by decide +kernel
theorem dX11_isTwo_24 : decode cX11_isTwo 24 = .ok (.ifCond .eq 26, 3) := by decide +kernel
theorem dX11_isTwo_27 : decode cX11_isTwo 27 = .ok (.iload 4, 2) := by decide +kernel
theorem dX11_isTwo_29 : decode cX11_isTwo 29 = .ok (.bipush 15, 2) := by decide +kernel
theorem dX11_isTwo_31 : decode cX11_isTwo 31 = .ok (.idiv, 1) := by decide +kernel
theorem dX11_isTwo_32 : decode cX11_isTwo 32 = .ok (.iload_n 1, 1) := by decide +kernel
theorem dX11_isTwo_33 : decode cX11_isTwo 33 = .ok (.irem, 1) := by decide +kernel
theorem dX11_isTwo_34 : decode cX11_isTwo 34 = .ok (.ifCond .ne 16, 3) := by decide +kernel
theorem dX11_isTwo_37 : decode cX11_isTwo 37 = .ok (.iload 4, 2) := by decide +kernel
theorem dX11_isTwo_39 : decode cX11_isTwo 39 = .ok (.bipush 15, 2) := by decide +kernel
theorem dX11_isTwo_41 : decode cX11_isTwo 41 = .ok (.irem, 1) := by decide +kernel
theorem dX11_isTwo_42 : decode cX11_isTwo 42 = .ok (.bipush 7, 2) := by decide +kernel
theorem dX11_isTwo_44 : decode cX11_isTwo 44 = .ok (.isub, 1) := by decide +kernel
theorem dX11_isTwo_45 : decode cX11_isTwo 45 = .ok (.iload_n 2, 1) := by decide +kernel
theorem dX11_isTwo_46 : decode cX11_isTwo 46 = .ok (.irem, 1) := by decide +kernel
theorem dX11_isTwo_47 : decode cX11_isTwo 47 = .ok (.ifCond .eq 7, 3) := by decide +kernel
theorem dX11_isTwo_50 : decode cX11_isTwo 50 = .ok (.iconst 1, 1) := by decide +kernel
theorem dX11_isTwo_51 : decode cX11_isTwo 51 = .ok (.goto 4, 3) := by decide +kernel
theorem dX11_isTwo_54 : decode cX11_isTwo 54 = .ok (.iconst 0, 1) := by decide +kernel
theorem dX11_isTwo_55 : decode cX11_isTwo 55 = .ok (.istore_n 3, 1) := by decide +kernel
theorem dX11_isTwo_56 : decode cX11_isTwo 56 = .ok (.iinc 4 1, 3) := by decide +kernel
theorem dX11_isTwo_59 : decode cX11_isTwo 59 = .ok (.goto (-54), 3) := by decide +kernel
theorem dX11_isTwo_62 : decode cX11_isTwo 62 = .ok (.iload_n 3, 1) := by decide +kernel
theorem dX11_isTwo_63 : decode cX11_isTwo 63 = .ok (.ireturn, 1) := by decide +kernel
theorem dX11_two_0 : decode cX11_two 0 = .ok (.bipush 100, 2) := by decide +kernel
theorem dX11_two_2 : decode cX11_two 2 = .ok (.aload_n 0, 1) := by decide +kernel
theorem dX11_two_3 : decode cX11_two 3 = .ok (.getfield 7, 3) := by decide +kernel
theorem dX11_two_6 : decode cX11_two 6 = .ok (.imul, 1) := by decide +kernel
theorem dX11_two_7 : decode cX11_two 7 = .ok (.aload_n 0, 1) := by decide +kernel
theorem dX11_two_8 : decode cX11_two 8 = .ok (.getfield 13, 3) := by decide +kernel
theorem dX11_two_11 : decode cX11_two 11 = .ok (.iadd, 1) := by decide +kernel
theorem dX11_two_12 : decode cX11_two 12 = .ok (.istore_n 1, 1) := by decide +kernel
theorem dX11_two_13 : decode cX11_two 13 = .ok (.aload_n 0, 1) := by decide +kernel
theorem dX11_two_14 : decode cX11_two 14 = .ok (.getfield 7, 3) := by decide +kernel
theorem dX11_two_17 : decode cX11_two 17 = .ok (.aload_n 0, 1) := by decide +kernel
theorem dX11_two_18 : decode cX11_two 18 = .ok (.getfield 13, 3) := by decide +kernel
theorem dX11_two_21 : decode cX11_two 21 = .ok (.imul, 1) := by decide +kernel
theorem dX11_two_22 : decode cX11_two 22 = .ok (.istore_n 2, 1) := by decide +kernel
theorem dX11_two_23 : decode cX11_two 23 = .ok (.aload_n 0, 1) := by decide +kernel
theorem dX11_two_24 : decode cX11_two 24 = .ok (.getfield 7, 3) := by decide +kernel
theorem dX11_two_27 : decode cX11_two 27 = .ok (.istore_n 3, 1) := by decide +kernel
theorem dX11_two_28 : decode cX11_two 28 = .ok (.iload_n 3, 1) := by decide +kernel
theorem dX11_two_29 : decode cX11_two 29 = .ok (.ifCond .le 57, 3) := by decide +kernel
theorem dX11_two_32 : decode cX11_two 32 = .ok (.aload_n 0, 1) := by decide +kernel
theorem dX11_two_33 : decode cX11_two 33 = .ok (.getfield 13, 3) := by decide +kernel
theorem dX11_two_36 : decode cX11_two 36 = .ok (.istore 4, 2) := by decide +kernel
theorem dX11_two_38 : decode cX11_two 38 = .ok (.iload 4, 2) := by decide +kernel
theorem dX11_two_40 : decode cX11_two 40 = .ok (.ifCond .le 40, 3) := by decide +kernel
theorem dX11_two_43 : decode cX11_two 43 = .ok (.iload_n 3, 1) := by decide +kernel
theorem dX11_two_44 : decode cX11_two 44 = .ok (.iload 4, 2) := by decide +kernel
theorem dX11_two_46 : decode cX11_two 46 = .ok (.imul, 1) := by decide +kernel
theorem dX11_two_47 : decode cX11_two 47 = .ok (.iload_n 2, 1) := by decide +kernel
theorem dX11_two_48 : decode cX11_two 48 = .ok (.if_icmp .gt 26, 3) := by decide +kernel
theorem dX11_two_51 : decode cX11_two 51 = .ok (.aload_n 0, 1) := by decide +kernel
theorem dX11_two_52 : decode cX11_two 52 = .ok (.iload_n 3, 1) := by decide +kernel
theorem dX11_two_53 : decode cX11_two 53 = .ok (.iload 4, 2) := by decide +kernel
theorem dX11_two_55 : decode cX11_two 55 = .ok (.invokevirtual 203, 3) := by decide +kernel
theorem dX11_two_58 : decode cX11_two 58 = .ok (.ifCond .eq 16, 3) := by decide +kernel
theorem dX11_two_61 : decode cX11_two 61 = .ok (.bipush 100, 2) := by decide +kernel
theorem dX11_two_63 : decode cX11_two 63 = .ok (.iload_n 3, 1) := by decide +kernel
theorem dX11_two_64 : decode cX11_two 64 = .ok (.imul, 1) := by decide +kernel
theorem dX11_two_65 : decode cX11_two 65 = .ok (.iload 4, 2) := by decide +kernel
theorem dX11_two_67 : decode cX11_two 67 = .ok (.iadd, 1) := by decide +kernel
theorem dX11_two_68 : decode cX11_two 68 = .ok (.istore_n 1, 1) := by decide +kernel
theorem dX11_two_69 : decode cX11_two 69 = .ok (.iload_n 3, 1) := by decide +kernel
theorem dX11_two_70 : decode cX11_two 70 = .ok (.iload 4, 2) := by decide +kernel
theorem dX11_two_72 : decode cX11_two 72 = .ok (.imul, 1) := by decide +kernel
theorem dX11_two_73 : decode cX11_two 73 = .ok (.istore_n 2, 1) := by decide +kernel
theorem dX11_two_74 : decode cX11_two 74 = .ok (.iinc 4 (-1), 3) := by decide +kernel
theorem dX11_two_77 : decode cX11_two 77 = .ok (.goto (-39), 3) := by decide +kernel
theorem dX11_two_80 : decode cX11_two 80 = .ok (.iinc 3 (-1), 3) := by decide +kernel
theorem dX11_two_83 : decode cX11_two 83 = .ok (.goto (-55), 3) := by decide +kernel
theorem dX11_two_86 : decode cX11_two 86 = .ok (.iload_n 1, 1) := by decide +kernel
theorem dX11_two_87 : decode cX11_two 87 = .ok (.ireturn, 1) := by decide +kernel
theorem dX11_isSlant_0 : decode cX11_isSlant 0 = .ok (.iconst 1, 1) := by decide +kernel
theorem dX11_isSlant_1 : decode cX11_isSlant 1 = .ok (.istore_n 3, 1) := by decide +kernel
theorem dX11_isSlant_2 : decode cX11_isSlant 2 = .ok (.iconst 0, 1) := by decide +kernel
theorem dX11_isSlant_3 : decode cX11_isSlant 3 = .ok (.istore 4, 2) := by decide +kernel
theorem dX11_isSlant_5 : decode cX11_isSlant 5 = .ok (.iload 4, 2) := by decide +kernel
theorem dX11_isSlant_7 : decode cX11_isSlant 7 = .ok (.sipush 225, 3) := by decide +kernel
theorem dX11_isSlant_10 : decode cX11_isSlant 10 = .ok (.if_icmp .ge 54, 3) := by decide +kernel
theorem dX11_isSlant_13 : decode cX11_isSlant 13 = .ok (.iload 4, 2) := by decide +kernel
theorem dX11_isSlant_15 : decode cX11_isSlant 15 = .ok (.bipush 15, 2) := by decide +kernel
theorem dX11_isSlant_17 : decode cX11_isSlant 17 = .ok (.idiv, 1) := by decide +kernel
theorem dX11_isSlant_18 : decode cX11_isSlant 18 = .ok (.iload 4, 2) := by decide +kernel
theorem dX11_isSlant_20 : decode cX11_isSlant 20 = .ok (.bipush 15, 2) := by decide +kernel
theorem dX11_isSlant_22 : decode cX11_isSlant 22 = .ok (.irem, 1) := by decide +kernel
theorem dX11_isSlant_23 : decode cX11_isSlant 23 = .ok (.bipush 7, 2) := by decide +kernel
theorem dX11_isSlant_25 : decode cX11_isSlant 25 = .ok (.isub, 1) := by decide +kernel
theorem dX11_isSlant_26 : decode cX11_isSlant 26 = .ok (.iload_n 1, 1) := by decide +kernel
theorem dX11_isSlant_27 : decode cX11_isSlant 27 = .ok (.imul, 1) := by decide +kernel
theorem dX11_isSlant_28 : decode cX11_isSlant 28 = .ok (.iadd, 1) := by decide +kernel
theorem dX11_isSlant_29 : decode cX11_isSlant 29 = .ok (.istore 5, 2) := by decide +kernel
theorem dX11_isSlant_31 : decode cX11_isSlant 31 = .ok (.iload_n 3, 1) := by decide +kernel
theorem dX11_isSlant_32 : decode cX11_isSlant 32 = .ok (.ifCond .eq 24, 3) := by decide +kernel
theorem dX11_isSlant_35 : decode cX11_isSlant 35 = .ok (.aload_n 0, 1) := by decide +kernel
theorem dX11_isSlant_36 : decode cX11_isSlant 36 = .ok (.getfield 78, 3) := by decide +kernel
theorem dX11_isSlant_39 : decode cX11_isSlant 39 = .ok (.iload 4, 2) := by decide +kernel
theorem dX11_isSlant_41 : decode cX11_isSlant 41 = .ok (.baload, 1) := by decide +kernel
theorem dX11_isSlant_42 : decode cX11_isSlant 42 = .ok (.ifCond .eq 10, 3) := by decide +kernel
theorem dX11_isSlant_45 : decode cX11_isSlant 45 = .ok (.iload 5, 2) := by decide +kernel
theorem dX11_isSlant_47 : decode cX11_isSlant 47 = .ok (.iload_n 2, 1) := by decide +kernel
theorem dX11_isSlant_48 : decode cX11_isSlant 48 = .ok (.irem, 1) := by decide +kernel
theorem dX11_isSlant_49 : decode cX11_isSlant 49 = .ok (.ifCond .eq 7, 3) := by decide +kernel
theorem dX11_isSlant_52 : decode cX11_isSlant 52 = .ok (.iconst 1, 1) := by decide +kernel
theorem dX11_isSlant_53 : decode cX11_isSlant 53 = .ok (.goto 4, 3) := by decide +kernel
theorem dX11_isSlant_56 : decode cX11_isSlant 56 = .ok (.iconst 0, 1) := by decide +kernel
theorem dX11_isSlant_57 : decode cX11_isSlant 57 = .ok (.istore_n 3, 1) := by decide +kernel
theorem dX11_isSlant_58 : decode cX11_isSlant 58 = .ok (.iinc 4 1, 3) := by decide +kernel
theorem dX11_isSlant_61 : decode cX11_isSlant 61 = .ok (.goto (-56), 3) := by decide +kernel
theorem dX11_isSlant_64 : decode cX11_isSlant 64 = .ok (.iload_n 3, 1) := by decide +kernel
theorem dX11_isSlant_65 : decode cX11_isSlant 65 = .ok (.ireturn, 1) := by decide +kernel
theorem dX11_slant_0 : decode cX11_slant 0 = .ok (.bipush 10, 2) := by decide +kernel
theorem dX11_slant_2 : decode cX11_slant 2 = .ok (.istore_n 1, 1) := by decide +kernel
theorem dX11_slant_3 : decode cX11_slant 3 = .ok (.aload_n 0, 1) := by decide +kernel
theorem dX11_slant_4 : decode cX11_slant 4 = .ok (.iload_n 1, 1) := by decide +kernel
theorem dX11_slant_5 : decode cX11_slant 5 = .ok (.bipush 10, 2) := by decide +kernel
theorem dX11_slant_7 : decode cX11_slant 7 = .ok (.irem, 1) := by decide +kernel
theorem dX11_slant_8 : decode cX11_slant 8 = .ok (.iload_n 1, 1) := by decide +kernel
theorem dX11_slant_9 : decode cX11_slant 9 = .ok (.bipush 10, 2) := by decide +kernel
theorem dX11_slant_11 : decode cX11_slant 11 = .ok (.idiv, 1) := by decide +kernel
theorem dX11_slant_12 : decode cX11_slant 12 = .ok (.invokevirtual 206, 3) := by decide +kernel
theorem dX11_slant_15 : decode cX11_slant 15 = .ok (.ifCond .ne 9, 3) := by decide +kernel
theorem dX11_slant_18 : decode cX11_slant 18 = .ok (.iinc 1 1, 3) := by decide +kernel
theorem dX11_slant_21 : decode cX11_slant 21 = .ok (.goto (-18), 3) := by decide +kernel
theorem dX11_slant_24 : decode cX11_slant 24 = .ok (.iload_n 1, 1) := by decide +kernel
theorem dX11_slant_25 : decode cX11_slant 25 = .ok (.ireturn, 1) := by decide +kernel
theorem dX11_seeks_0 : decode cX11_seeks 0 = .ok (.aload_n 0, 1) := by decide +kernel
theorem dX11_seeks_1 : decode cX11_seeks 1 = .ok (.invokevirtual 159, 3) := by decide +kernel
theorem dX11_seeks_4 : decode cX11_seeks 4 = .ok (.aload_n 0, 1) := by decide +kernel
theorem dX11_seeks_5 : decode cX11_seeks 5 = .ok (.iload_n 1, 1) := by decide +kernel
theorem dX11_seeks_6 : decode cX11_seeks 6 = .ok (.invokevirtual 181, 3) := by decide +kernel
theorem dX11_seeks_9 : decode cX11_seeks 9 = .ok (.return_, 1) := by decide +kernel
theorem dX11_leastRest_0 : decode cX11_leastRest 0 = .ok (.aload_n 0, 1) := by decide +kernel
theorem dX11_leastRest_1 : decode cX11_leastRest 1 = .ok (.aload_n 0, 1) := by decide +kernel
theorem dX11_leastRest_2 : decode cX11_leastRest 2 = .ok (.iload_n 1, 1) := by decide +kernel
theorem dX11_leastRest_3 : decode cX11_leastRest 3 = .ok (.invokevirtual 94, 3) := by decide +kernel
theorem dX11_leastRest_6 : decode cX11_leastRest 6 = .ok (.ifCond .eq 7, 3) := by decide +kernel
theorem dX11_leastRest_9 : decode cX11_leastRest 9 = .ok (.iconst 0, 1) := by decide +kernel
theorem dX11_leastRest_10 : decode cX11_leastRest 10 = .ok (.goto 4, 3) := by decide +kernel
theorem dX11_leastRest_13 : decode cX11_leastRest 13 = .ok (.iconst 1, 1) := by decide +kernel
theorem dX11_leastRest_14 : decode cX11_leastRest 14 = .ok (.invokevirtual 102, 3) := by decide +kernel
theorem dX11_leastRest_17 : decode cX11_leastRest 17 = .ok (.ifCond .eq 5, 3) := by decide +kernel
theorem dX11_leastRest_20 : decode cX11_leastRest 20 = .ok (.iconst 0, 1) := by decide +kernel
theorem dX11_leastRest_21 : decode cX11_leastRest 21 = .ok (.ireturn, 1) := by decide +kernel
theorem dX11_leastRest_22 : decode cX11_leastRest 22 = .ok (.aload_n 0, 1) := by decide +kernel
theorem dX11_leastRest_23 : decode cX11_leastRest 23 = .ok (.iload_n 1, 1) := by decide +kernel
theorem dX11_leastRest_24 : decode cX11_leastRest 24 = .ok (.invokevirtual 209, 3) := by decide +kernel
theorem dX11_leastRest_27 : decode cX11_leastRest 27 = .ok (.aload_n 0, 1) := by decide +kernel
theorem dX11_leastRest_28 : decode cX11_leastRest 28 = .ok (.invokevirtual 185, 3) := by decide +kernel
theorem dX11_leastRest_31 : decode cX11_leastRest 31 = .ok (.ireturn, 1) := by decide +kernel
theorem dX11_leastRestByDifferences_0 : decode cX11_leastRestByDifferences 0 = .ok (.aload_n 0, 1) := by decide +kernel
theorem dX11_leastRestByDifferences_1 : decode cX11_leastRestByDifferences 1 = .ok (.iload_n 1, 1) := by decide +kernel
theorem dX11_leastRestByDifferences_2 : decode cX11_leastRestByDifferences 2 = .ok (.invokevirtual 212, 3) := by decide +kernel
theorem dX11_leastRestByDifferences_5 : decode cX11_leastRestByDifferences 5 = .ok (.ireturn, 1) := by decide +kernel
theorem dX11_leastRowRest_0 : decode cX11_leastRowRest 0 = .ok (.aload_n 0, 1) := by decide +kernel
theorem dX11_leastRowRest_1 : decode cX11_leastRowRest 1 = .ok (.aload_n 0, 1) := by decide +kernel
theorem dX11_leastRowRest_2 : decode cX11_leastRowRest 2 = .ok (.iload_n 1, 1) := by decide +kernel
theorem dX11_leastRowRest_3 : decode cX11_leastRowRest 3 = .ok (.invokevirtual 94, 3) := by decide +kernel
theorem dX11_leastRowRest_6 : decode cX11_leastRowRest 6 = .ok (.ifCond .eq 7, 3) := by decide +kernel
theorem dX11_leastRowRest_9 : decode cX11_leastRowRest 9 = .ok (.iconst 0, 1) := by decide +kernel
theorem dX11_leastRowRest_10 : decode cX11_leastRowRest 10 = .ok (.goto 4, 3) := by decide +kernel
theorem dX11_leastRowRest_13 : decode cX11_leastRowRest 13 = .ok (.iconst 1, 1) := by decide +kernel
theorem dX11_leastRowRest_14 : decode cX11_leastRowRest 14 = .ok (.invokevirtual 102, 3) := by decide +kernel
theorem dX11_leastRowRest_17 : decode cX11_leastRowRest 17 = .ok (.ifCond .eq 5, 3) := by decide +kernel
theorem dX11_leastRowRest_20 : decode cX11_leastRowRest 20 = .ok (.iconst 0, 1) := by decide +kernel
theorem dX11_leastRowRest_21 : decode cX11_leastRowRest 21 = .ok (.ireturn, 1) := by decide +kernel
theorem dX11_leastRowRest_22 : decode cX11_leastRowRest 22 = .ok (.aload_n 0, 1) := by decide +kernel
theorem dX11_leastRowRest_23 : decode cX11_leastRowRest 23 = .ok (.iload_n 1, 1) := by decide +kernel
theorem dX11_leastRowRest_24 : decode cX11_leastRowRest 24 = .ok (.invokevirtual 209, 3) := by decide +kernel
theorem dX11_leastRowRest_27 : decode cX11_leastRowRest 27 = .ok (.aload_n 0, 1) := by decide +kernel
theorem dX11_leastRowRest_28 : decode cX11_leastRowRest 28 = .ok (.invokevirtual 188, 3) := by decide +kernel
theorem dX11_leastRowRest_31 : decode cX11_leastRowRest 31 = .ok (.bipush 100, 2) := by decide +kernel
theorem dX11_leastRowRest_33 : decode cX11_leastRowRest 33 = .ok (.idiv, 1) := by decide +kernel
theorem dX11_leastRowRest_34 : decode cX11_leastRowRest 34 = .ok (.ireturn, 1) := by decide +kernel
theorem dX11_leastColumnRest_0 : decode cX11_leastColumnRest 0 = .ok (.aload_n 0, 1) := by decide +kernel
theorem dX11_leastColumnRest_1 : decode cX11_leastColumnRest 1 = .ok (.aload_n 0, 1) := by decide +kernel
theorem dX11_leastColumnRest_2 : decode cX11_leastColumnRest 2 = .ok (.iload_n 1, 1) := by decide +kernel
theorem dX11_leastColumnRest_3 : decode cX11_leastColumnRest 3 = .ok (.invokevirtual 94, 3) := by decide +kernel
theorem dX11_leastColumnRest_6 : decode cX11_leastColumnRest 6 = .ok (.ifCond .eq 7, 3) := by decide +kernel
theorem dX11_leastColumnRest_9 : decode cX11_leastColumnRest 9 = .ok (.iconst 0, 1) := by decide +kernel
theorem dX11_leastColumnRest_10 : decode cX11_leastColumnRest 10 = .ok (.goto 4, 3) := by decide +kernel
theorem dX11_leastColumnRest_13 : decode cX11_leastColumnRest 13 = .ok (.iconst 1, 1) := by decide +kernel
theorem dX11_leastColumnRest_14 : decode cX11_leastColumnRest 14 = .ok (.invokevirtual 102, 3) := by decide +kernel
theorem dX11_leastColumnRest_17 : decode cX11_leastColumnRest 17 = .ok (.ifCond .eq 5, 3) := by decide +kernel
theorem dX11_leastColumnRest_20 : decode cX11_leastColumnRest 20 = .ok (.iconst 0, 1) := by decide +kernel
theorem dX11_leastColumnRest_21 : decode cX11_leastColumnRest 21 = .ok (.ireturn, 1) := by decide +kernel
theorem dX11_leastColumnRest_22 : decode cX11_leastColumnRest 22 = .ok (.aload_n 0, 1) := by decide +kernel
theorem dX11_leastColumnRest_23 : decode cX11_leastColumnRest 23 = .ok (.iload_n 1, 1) := by decide +kernel
theorem dX11_leastColumnRest_24 : decode cX11_leastColumnRest 24 = .ok (.invokevirtual 209, 3) := by decide +kernel
theorem dX11_leastColumnRest_27 : decode cX11_leastColumnRest 27 = .ok (.aload_n 0, 1) := by decide +kernel
theorem dX11_leastColumnRest_28 : decode cX11_leastColumnRest 28 = .ok (.invokevirtual 188, 3) := by decide +kernel
theorem dX11_leastColumnRest_31 : decode cX11_leastColumnRest 31 = .ok (.bipush 100, 2) := by decide +kernel
theorem dX11_leastColumnRest_33 : decode cX11_leastColumnRest 33 = .ok (.irem, 1) := by decide +kernel
theorem dX11_leastColumnRest_34 : decode cX11_leastColumnRest 34 = .ok (.ireturn, 1) := by decide +kernel
theorem dX11_leastSlantModulus_0 : decode cX11_leastSlantModulus 0 = .ok (.aload_n 0, 1) := by decide +kernel
theorem dX11_leastSlantModulus_1 : decode cX11_leastSlantModulus 1 = .ok (.aload_n 0, 1) := by decide +kernel
theorem dX11_leastSlantModulus_2 : decode cX11_leastSlantModulus 2 = .ok (.iload_n 1, 1) := by decide +kernel
theorem dX11_leastSlantModulus_3 : decode cX11_leastSlantModulus 3 = .ok (.invokevirtual 94, 3) := by decide +kernel
theorem dX11_leastSlantModulus_6 : decode cX11_leastSlantModulus 6 = .ok (.ifCond .eq 7, 3) := by decide +kernel
theorem dX11_leastSlantModulus_9 : decode cX11_leastSlantModulus 9 = .ok (.iconst 0, 1) := by decide +kernel
theorem dX11_leastSlantModulus_10 : decode cX11_leastSlantModulus 10 = .ok (.goto 4, 3) := by decide +kernel
theorem dX11_leastSlantModulus_13 : decode cX11_leastSlantModulus 13 = .ok (.iconst 1, 1) := by decide +kernel
theorem dX11_leastSlantModulus_14 : decode cX11_leastSlantModulus 14 = .ok (.invokevirtual 102, 3) := by decide +kernel
theorem dX11_leastSlantModulus_17 : decode cX11_leastSlantModulus 17 = .ok (.ifCond .eq 5, 3) := by decide +kernel
theorem dX11_leastSlantModulus_20 : decode cX11_leastSlantModulus 20 = .ok (.iconst 0, 1) := by decide +kernel
theorem dX11_leastSlantModulus_21 : decode cX11_leastSlantModulus 21 = .ok (.ireturn, 1) := by decide +kernel
theorem dX11_leastSlantModulus_22 : decode cX11_leastSlantModulus 22 = .ok (.aload_n 0, 1) := by decide +kernel
theorem dX11_leastSlantModulus_23 : decode cX11_leastSlantModulus 23 = .ok (.iload_n 1, 1) := by decide +kernel
theorem dX11_leastSlantModulus_24 : decode cX11_leastSlantModulus 24 = .ok (.invokevirtual 209, 3) := by decide +kernel
theorem dX11_leastSlantModulus_27 : decode cX11_leastSlantModulus 27 = .ok (.aload_n 0, 1) := by decide +kernel
theorem dX11_leastSlantModulus_28 : decode cX11_leastSlantModulus 28 = .ok (.invokevirtual 191, 3) := by decide +kernel
theorem dX11_leastSlantModulus_31 : decode cX11_leastSlantModulus 31 = .ok (.bipush 10, 2) := by decide +kernel
theorem dX11_leastSlantModulus_33 : decode cX11_leastSlantModulus 33 = .ok (.idiv, 1) := by decide +kernel
theorem dX11_leastSlantModulus_34 : decode cX11_leastSlantModulus 34 = .ok (.ireturn, 1) := by decide +kernel
theorem dX11_leastSlant_0 : decode cX11_leastSlant 0 = .ok (.aload_n 0, 1) := by decide +kernel
theorem dX11_leastSlant_1 : decode cX11_leastSlant 1 = .ok (.aload_n 0, 1) := by decide +kernel
theorem dX11_leastSlant_2 : decode cX11_leastSlant 2 = .ok (.iload_n 1, 1) := by decide +kernel
theorem dX11_leastSlant_3 : decode cX11_leastSlant 3 = .ok (.invokevirtual 94, 3) := by decide +kernel
theorem dX11_leastSlant_6 : decode cX11_leastSlant 6 = .ok (.ifCond .eq 7, 3) := by decide +kernel
theorem dX11_leastSlant_9 : decode cX11_leastSlant 9 = .ok (.iconst 0, 1) := by decide +kernel
theorem dX11_leastSlant_10 : decode cX11_leastSlant 10 = .ok (.goto 4, 3) := by decide +kernel
theorem dX11_leastSlant_13 : decode cX11_leastSlant 13 = .ok (.iconst 1, 1) := by decide +kernel
theorem dX11_leastSlant_14 : decode cX11_leastSlant 14 = .ok (.invokevirtual 102, 3) := by decide +kernel
theorem dX11_leastSlant_17 : decode cX11_leastSlant 17 = .ok (.ifCond .eq 5, 3) := by decide +kernel
theorem dX11_leastSlant_20 : decode cX11_leastSlant 20 = .ok (.iconst 0, 1) := by decide +kernel
theorem dX11_leastSlant_21 : decode cX11_leastSlant 21 = .ok (.ireturn, 1) := by decide +kernel
theorem dX11_leastSlant_22 : decode cX11_leastSlant 22 = .ok (.aload_n 0, 1) := by decide +kernel
theorem dX11_leastSlant_23 : decode cX11_leastSlant 23 = .ok (.iload_n 1, 1) := by decide +kernel
theorem dX11_leastSlant_24 : decode cX11_leastSlant 24 = .ok (.invokevirtual 209, 3) := by decide +kernel
theorem dX11_leastSlant_27 : decode cX11_leastSlant 27 = .ok (.aload_n 0, 1) := by decide +kernel
theorem dX11_leastSlant_28 : decode cX11_leastSlant 28 = .ok (.invokevirtual 191, 3) := by decide +kernel
theorem dX11_leastSlant_31 : decode cX11_leastSlant 31 = .ok (.bipush 10, 2) := by decide +kernel
theorem dX11_leastSlant_33 : decode cX11_leastSlant 33 = .ok (.irem, 1) := by decide +kernel
theorem dX11_leastSlant_34 : decode cX11_leastSlant 34 = .ok (.ireturn, 1) := by decide +kernel
theorem dX11_distances_0 : decode cX11_distances 0 = .ok (.iconst 0, 1) := by decide +kernel
theorem dX11_distances_1 : decode cX11_distances 1 = .ok (.istore_n 3, 1) := by decide +kernel
theorem dX11_distances_2 : decode cX11_distances 2 = .ok (.iload_n 3, 1) := by decide +kernel
theorem dX11_distances_3 : decode cX11_distances 3 = .ok (.aload_n 0, 1) := by decide +kernel
theorem dX11_distances_4 : decode cX11_distances 4 = .ok (.getfield 7, 3) := by decide +kernel
theorem dX11_distances_7 : decode cX11_distances 7 = .ok (.aload_n 0, 1) := by decide +kernel
theorem dX11_distances_8 : decode cX11_distances 8 = .ok (.getfield 13, 3) := by decide +kernel
theorem dX11_distances_11 : decode cX11_distances 11 = .ok (.imul, 1) := by decide +kernel
theorem dX11_distances_12 : decode cX11_distances 12 = .ok (.if_icmp .ge 78, 3) := by decide +kernel
theorem dX11_distances_15 : decode cX11_distances 15 = .ok (.iconst 0, 1) := by decide +kernel
theorem dX11_distances_16 : decode cX11_distances 16 = .ok (.istore 4, 2) := by decide +kernel
theorem dX11_distances_18 : decode cX11_distances 18 = .ok (.iload 4, 2) := by decide +kernel
theorem dX11_distances_20 : decode cX11_distances 20 = .ok (.aload_n 0, 1) := by decide +kernel
theorem dX11_distances_21 : decode cX11_distances 21 = .ok (.getfield 7, 3) := by decide +kernel
theorem dX11_distances_24 : decode cX11_distances 24 = .ok (.aload_n 0, 1) := by decide +kernel
theorem dX11_distances_25 : decode cX11_distances 25 = .ok (.getfield 13, 3) := by decide +kernel
theorem dX11_distances_28 : decode cX11_distances 28 = .ok (.imul, 1) := by decide +kernel
theorem dX11_distances_29 : decode cX11_distances 29 = .ok (.if_icmp .ge 55, 3) := by decide +kernel
theorem dX11_distances_32 : decode cX11_distances 32 = .ok (.aload_n 0, 1) := by decide +kernel
theorem dX11_distances_33 : decode cX11_distances 33 = .ok (.bipush 64, 2) := by decide +kernel
theorem dX11_distances_35 : decode cX11_distances 35 = .ok (.iload_n 1, 1) := by decide +kernel
theorem dX11_distances_36 : decode cX11_distances 36 = .ok (.imul, 1) := by decide +kernel
theorem dX11_distances_37 : decode cX11_distances 37 = .ok (.iload_n 3, 1) := by decide +kernel
theorem dX11_distances_38 : decode cX11_distances 38 = .ok (.iadd, 1) := by decide +kernel
theorem dX11_distances_39 : decode cX11_distances 39 = .ok (.bipush 64, 2) := by decide +kernel
theorem dX11_distances_41 : decode cX11_distances 41 = .ok (.iload_n 2, 1) := by decide +kernel
theorem dX11_distances_42 : decode cX11_distances 42 = .ok (.imul, 1) := by decide +kernel
theorem dX11_distances_43 : decode cX11_distances 43 = .ok (.iload 4, 2) := by decide +kernel
theorem dX11_distances_45 : decode cX11_distances 45 = .ok (.iadd, 1) := by decide +kernel
theorem dX11_distances_46 : decode cX11_distances 46 = .ok (.invokevirtual 165, 3) := by decide +kernel
theorem dX11_distances_49 : decode cX11_distances 49 = .ok (.istore 5, 2) := by decide +kernel
theorem dX11_distances_51 : decode cX11_distances 51 = .ok (.aload_n 0, 1) := by decide +kernel
theorem dX11_distances_52 : decode cX11_distances 52 = .ok (.getfield 81, 3) := by decide +kernel
theorem dX11_distances_55 : decode cX11_distances 55 = .ok (.iload_n 3, 1) := by decide +kernel
theorem dX11_distances_56 : decode cX11_distances 56 = .ok (.iload 4, 2) := by decide +kernel
theorem dX11_distances_58 : decode cX11_distances 58 = .ok (.if_icmp .ge 10, 3) := by decide +kernel
theorem dX11_distances_61 : decode cX11_distances 61 = .ok (.iload 4, 2) := by decide +kernel
theorem dX11_distances_63 : decode cX11_distances 63 = .ok (.iload_n 3, 1) := by decide +kernel
theorem dX11_distances_64 : decode cX11_distances 64 = .ok (.isub, 1) := by decide +kernel
theorem dX11_distances_65 : decode cX11_distances 65 = .ok (.goto 7, 3) := by decide +kernel
theorem dX11_distances_68 : decode cX11_distances 68 = .ok (.iload_n 3, 1) := by decide +kernel
theorem dX11_distances_69 : decode cX11_distances 69 = .ok (.iload 4, 2) := by decide +kernel
theorem dX11_distances_71 : decode cX11_distances 71 = .ok (.isub, 1) := by decide +kernel
theorem dX11_distances_72 : decode cX11_distances 72 = .ok (.dup2, 1) := by decide +kernel
theorem dX11_distances_73 : decode cX11_distances 73 = .ok (.baload, 1) := by decide +kernel
theorem dX11_distances_74 : decode cX11_distances 74 = .ok (.iload 5, 2) := by decide +kernel
theorem dX11_distances_76 : decode cX11_distances 76 = .ok (.ior, 1) := by decide +kernel
theorem dX11_distances_77 : decode cX11_distances 77 = .ok (.bastore, 1) := by decide +kernel
theorem dX11_distances_78 : decode cX11_distances 78 = .ok (.iinc 4 1, 3) := by decide +kernel
theorem dX11_distances_81 : decode cX11_distances 81 = .ok (.goto (-63), 3) := by decide +kernel
theorem dX11_distances_84 : decode cX11_distances 84 = .ok (.iinc 3 1, 3) := by decide +kernel
theorem dX11_distances_87 : decode cX11_distances 87 = .ok (.goto (-85), 3) := by decide +kernel
theorem dX11_distances_90 : decode cX11_distances 90 = .ok (.return_, 1) := by decide +kernel
theorem dX11_leastJointRest_0 : decode cX11_leastJointRest 0 = .ok (.aload_n 0, 1) := by decide +kernel
theorem dX11_leastJointRest_1 : decode cX11_leastJointRest 1 = .ok (.aload_n 0, 1) := by decide +kernel
theorem dX11_leastJointRest_2 : decode cX11_leastJointRest 2 = .ok (.iload_n 1, 1) := by decide +kernel
theorem dX11_leastJointRest_3 : decode cX11_leastJointRest 3 = .ok (.invokevirtual 94, 3) := by decide +kernel
theorem dX11_leastJointRest_6 : decode cX11_leastJointRest 6 = .ok (.ifCond .eq 15, 3) := by decide +kernel
theorem dX11_leastJointRest_9 : decode cX11_leastJointRest 9 = .ok (.aload_n 0, 1) := by decide +kernel
theorem dX11_leastJointRest_10 : decode cX11_leastJointRest 10 = .ok (.iload_n 2, 1) := by decide +kernel
theorem dX11_leastJointRest_11 : decode cX11_leastJointRest 11 = .ok (.invokevirtual 94, 3) := by decide +kernel
theorem dX11_leastJointRest_14 : decode cX11_leastJointRest 14 = .ok (.ifCond .eq 7, 3) := by decide +kernel
theorem dX11_leastJointRest_17 : decode cX11_leastJointRest 17 = .ok (.iconst 0, 1) := by decide +kernel
theorem dX11_leastJointRest_18 : decode cX11_leastJointRest 18 = .ok (.goto 4, 3) := by decide +kernel
theorem dX11_leastJointRest_21 : decode cX11_leastJointRest 21 = .ok (.iconst 1, 1) := by decide +kernel
theorem dX11_leastJointRest_22 : decode cX11_leastJointRest 22 = .ok (.invokevirtual 102, 3) := by decide +kernel
theorem dX11_leastJointRest_25 : decode cX11_leastJointRest 25 = .ok (.ifCond .eq 5, 3) := by decide +kernel
theorem dX11_leastJointRest_28 : decode cX11_leastJointRest 28 = .ok (.iconst 0, 1) := by decide +kernel
theorem dX11_leastJointRest_29 : decode cX11_leastJointRest 29 = .ok (.ireturn, 1) := by decide +kernel
theorem dX11_leastJointRest_30 : decode cX11_leastJointRest 30 = .ok (.aload_n 0, 1) := by decide +kernel
theorem dX11_leastJointRest_31 : decode cX11_leastJointRest 31 = .ok (.invokevirtual 159, 3) := by decide +kernel
theorem dX11_leastJointRest_34 : decode cX11_leastJointRest 34 = .ok (.iconst 0, 1) := by decide +kernel
theorem dX11_leastJointRest_35 : decode cX11_leastJointRest 35 = .ok (.istore_n 3, 1) := by decide +kernel
theorem dX11_leastJointRest_36 : decode cX11_leastJointRest 36 = .ok (.iload_n 3, 1) := by decide +kernel
theorem dX11_leastJointRest_37 : decode cX11_leastJointRest 37 = .ok (.bipush 64, 2) := by decide +kernel
theorem dX11_leastJointRest_39 : decode cX11_leastJointRest 39 = .ok (.if_icmp .ge 16, 3) := by decide +kernel
theorem dX11_leastJointRest_42 : decode cX11_leastJointRest 42 = .ok (.aload_n 0, 1) := by decide +kernel
theorem dX11_leastJointRest_43 : decode cX11_leastJointRest 43 = .ok (.getfield 81, 3) := by decide +kernel
theorem dX11_leastJointRest_46 : decode cX11_leastJointRest 46 = .ok (.iload_n 3, 1) := by decide +kernel
theorem dX11_leastJointRest_47 : decode cX11_leastJointRest 47 = .ok (.iconst 0, 1) := by decide +kernel
theorem dX11_leastJointRest_48 : decode cX11_leastJointRest 48 = .ok (.bastore, 1) := by decide +kernel
theorem dX11_leastJointRest_49 : decode cX11_leastJointRest 49 = .ok (.iinc 3 1, 3) := by decide +kernel
theorem dX11_leastJointRest_52 : decode cX11_leastJointRest 52 = .ok (.goto (-16), 3) := by decide +kernel
theorem dX11_leastJointRest_55 : decode cX11_leastJointRest 55 = .ok (.aload_n 0, 1) := by decide +kernel
theorem dX11_leastJointRest_56 : decode cX11_leastJointRest 56 = .ok (.iload_n 1, 1) := by decide +kernel
theorem dX11_leastJointRest_57 : decode cX11_leastJointRest 57 = .ok (.iload_n 1, 1) := by decide +kernel
theorem dX11_leastJointRest_58 : decode cX11_leastJointRest 58 = .ok (.invokevirtual 215, 3) := by decide +kernel
theorem dX11_leastJointRest_61 : decode cX11_leastJointRest 61 = .ok (.aload_n 0, 1) := by decide +kernel
theorem dX11_leastJointRest_62 : decode cX11_leastJointRest 62 = .ok (.iload_n 2, 1) := by decide +kernel
theorem dX11_leastJointRest_63 : decode cX11_leastJointRest 63 = .ok (.iload_n 2, 1) := by decide +kernel
theorem dX11_leastJointRest_64 : decode cX11_leastJointRest 64 = .ok (.invokevirtual 215, 3) := by decide +kernel
theorem dX11_leastJointRest_67 : decode cX11_leastJointRest 67 = .ok (.aload_n 0, 1) := by decide +kernel
theorem dX11_leastJointRest_68 : decode cX11_leastJointRest 68 = .ok (.iload_n 1, 1) := by decide +kernel
theorem dX11_leastJointRest_69 : decode cX11_leastJointRest 69 = .ok (.iload_n 2, 1) := by decide +kernel
theorem dX11_leastJointRest_70 : decode cX11_leastJointRest 70 = .ok (.invokevirtual 215, 3) := by decide +kernel
theorem dX11_leastJointRest_73 : decode cX11_leastJointRest 73 = .ok (.iconst 1, 1) := by decide +kernel
theorem dX11_leastJointRest_74 : decode cX11_leastJointRest 74 = .ok (.istore_n 3, 1) := by decide +kernel
theorem dX11_leastJointRest_75 : decode cX11_leastJointRest 75 = .ok (.iload_n 3, 1) := by decide +kernel
theorem dX11_leastJointRest_76 : decode cX11_leastJointRest 76 = .ok (.bipush 99, 2) := by decide +kernel
theorem dX11_leastJointRest_78 : decode cX11_leastJointRest 78 = .ok (.if_icmp .gt 17, 3) := by decide +kernel
theorem dX11_leastJointRest_81 : decode cX11_leastJointRest 81 = .ok (.aload_n 0, 1) := by decide +kernel
theorem dX11_leastJointRest_82 : decode cX11_leastJointRest 82 = .ok (.iload_n 3, 1) := by decide +kernel
theorem dX11_leastJointRest_83 : decode cX11_leastJointRest 83 = .ok (.invokevirtual 218, 3) := by decide +kernel
theorem dX11_leastJointRest_86 : decode cX11_leastJointRest 86 = .ok (.ifCond .eq 9, 3) := by decide +kernel
theorem dX11_leastJointRest_89 : decode cX11_leastJointRest 89 = .ok (.iinc 3 1, 3) := by decide +kernel
theorem dX11_leastJointRest_92 : decode cX11_leastJointRest 92 = .ok (.goto (-17), 3) := by decide +kernel
theorem dX11_leastJointRest_95 : decode cX11_leastJointRest 95 = .ok (.iload_n 3, 1) := by decide +kernel
theorem dX11_leastJointRest_96 : decode cX11_leastJointRest 96 = .ok (.bipush 99, 2) := by decide +kernel
theorem dX11_leastJointRest_98 : decode cX11_leastJointRest 98 = .ok (.if_icmp .le 7, 3) := by decide +kernel
theorem dX11_leastJointRest_101 : decode cX11_leastJointRest 101 = .ok (.iconst (-1), 1) := by decide +kernel
theorem dX11_leastJointRest_102 : decode cX11_leastJointRest 102 = .ok (.goto 4, 3) := by decide +kernel
theorem dX11_leastJointRest_105 : decode cX11_leastJointRest 105 = .ok (.iload_n 3, 1) := by decide +kernel
theorem dX11_leastJointRest_106 : decode cX11_leastJointRest 106 = .ok (.ireturn, 1) := by decide +kernel
theorem dX11_divides_0 : decode cX11_divides 0 = .ok (.iconst 0, 1) := by decide +kernel
theorem dX11_divides_1 : decode cX11_divides 1 = .ok (.istore_n 2, 1) := by decide +kernel
theorem dX11_divides_2 : decode cX11_divides 2 = .ok (.iconst 0, 1) := by decide +kernel
theorem dX11_divides_3 : decode cX11_divides 3 = .ok (.istore_n 3, 1) := by decide +kernel
theorem dX11_divides_4 : decode cX11_divides 4 = .ok (.iload_n 3, 1) := by decide +kernel
theorem dX11_divides_5 : decode cX11_divides 5 = .ok (.bipush 64, 2) := by decide +kernel
theorem dX11_divides_7 : decode cX11_divides 7 = .ok (.if_icmp .ge 34, 3) := by decide +kernel
theorem dX11_divides_10 : decode cX11_divides 10 = .ok (.iload_n 2, 1) := by decide +kernel
theorem dX11_divides_11 : decode cX11_divides 11 = .ok (.ifCond .ne 18, 3) := by decide +kernel
theorem dX11_divides_14 : decode cX11_divides 14 = .ok (.aload_n 0, 1) := by decide +kernel
theorem dX11_divides_15 : decode cX11_divides 15 = .ok (.getfield 81, 3) := by decide +kernel
theorem dX11_divides_18 : decode cX11_divides 18 = .ok (.iload_n 3, 1) := by decide +kernel
theorem dX11_divides_19 : decode cX11_divides 19 = .ok (.baload, 1) := by decide +kernel
theorem dX11_divides_20 : decode cX11_divides 20 = .ok (.ifCond .eq 13, 3) := by decide +kernel
theorem dX11_divides_23 : decode cX11_divides 23 = .ok (.iload_n 3, 1) := by decide +kernel
theorem dX11_divides_24 : decode cX11_divides 24 = .ok (.iload_n 1, 1) := by decide +kernel
theorem dX11_divides_25 : decode cX11_divides 25 = .ok (.irem, 1) := by decide +kernel
theorem dX11_divides_26 : decode cX11_divides 26 = .ok (.ifCond .ne 7, 3) := by decide +kernel
theorem dX11_divides_29 : decode cX11_divides 29 = .ok (.iconst 1, 1) := by decide +kernel
theorem dX11_divides_30 : decode cX11_divides 30 = .ok (.goto 4, 3) := by decide +kernel
theorem dX11_divides_33 : decode cX11_divides 33 = .ok (.iconst 0, 1) := by decide +kernel
theorem dX11_divides_34 : decode cX11_divides 34 = .ok (.istore_n 2, 1) := by decide +kernel
theorem dX11_divides_35 : decode cX11_divides 35 = .ok (.iinc 3 1, 3) := by decide +kernel
theorem dX11_divides_38 : decode cX11_divides 38 = .ok (.goto (-34), 3) := by decide +kernel
theorem dX11_divides_41 : decode cX11_divides 41 = .ok (.iload_n 2, 1) := by decide +kernel
theorem dX11_divides_42 : decode cX11_divides 42 = .ok (.ireturn, 1) := by decide +kernel
theorem dX11_border_0 : decode cX11_border 0 = .ok (.iconst 5, 1) := by decide +kernel
theorem dX11_border_1 : decode cX11_border 1 = .ok (.iload_n 0, 1) := by decide +kernel
theorem dX11_border_2 : decode cX11_border 2 = .ok (.imul, 1) := by decide +kernel
theorem dX11_border_3 : decode cX11_border 3 = .ok (.bipush 7, 2) := by decide +kernel
theorem dX11_border_5 : decode cX11_border 5 = .ok (.iload_n 1, 1) := by decide +kernel
theorem dX11_border_6 : decode cX11_border 6 = .ok (.imul, 1) := by decide +kernel
theorem dX11_border_7 : decode cX11_border 7 = .ok (.iadd, 1) := by decide +kernel
theorem dX11_border_8 : decode cX11_border 8 = .ok (.iload_n 2, 1) := by decide +kernel
theorem dX11_border_9 : decode cX11_border 9 = .ok (.iadd, 1) := by decide +kernel
theorem dX11_border_10 : decode cX11_border 10 = .ok (.bipush 100, 2) := by decide +kernel
theorem dX11_border_12 : decode cX11_border 12 = .ok (.irem, 1) := by decide +kernel
theorem dX11_border_13 : decode cX11_border 13 = .ok (.istore_n 3, 1) := by decide +kernel
theorem dX11_border_14 : decode cX11_border 14 = .ok (.iload_n 3, 1) := by decide +kernel
theorem dX11_border_15 : decode cX11_border 15 = .ok (.ifCond .ge 10, 3) := by decide +kernel
theorem dX11_border_18 : decode cX11_border 18 = .ok (.iload_n 3, 1) := by decide +kernel
theorem dX11_border_19 : decode cX11_border 19 = .ok (.bipush 100, 2) := by decide +kernel
theorem dX11_border_21 : decode cX11_border 21 = .ok (.iadd, 1) := by decide +kernel
theorem dX11_border_22 : decode cX11_border 22 = .ok (.goto 4, 3) := by decide +kernel
theorem dX11_border_25 : decode cX11_border 25 = .ok (.iload_n 3, 1) := by decide +kernel
theorem dX11_border_26 : decode cX11_border 26 = .ok (.ireturn, 1) := by decide +kernel
theorem dX11_works_0 : decode cX11_works 0 = .ok (.aload_n 0, 1) := by decide +kernel
theorem dX11_works_1 : decode cX11_works 1 = .ok (.invokevirtual 147, 3) := by decide +kernel
theorem dX11_works_4 : decode cX11_works 4 = .ok (.iconst 0, 1) := by decide +kernel
theorem dX11_works_5 : decode cX11_works 5 = .ok (.istore_n 1, 1) := by decide +kernel
theorem dX11_works_6 : decode cX11_works 6 = .ok (.iload_n 1, 1) := by decide +kernel
theorem dX11_works_7 : decode cX11_works 7 = .ok (.sipush 256, 3) := by decide +kernel
theorem dX11_works_10 : decode cX11_works 10 = .ok (.if_icmp .ge 16, 3) := by decide +kernel
theorem dX11_works_13 : decode cX11_works 13 = .ok (.aload_n 0, 1) := by decide +kernel
theorem dX11_works_14 : decode cX11_works 14 = .ok (.getfield 66, 3) := by decide +kernel
theorem dX11_works_17 : decode cX11_works 17 = .ok (.iload_n 1, 1) := by decide +kernel
theorem dX11_works_18 : decode cX11_works 18 = .ok (.iconst 0, 1) := by decide +kernel
theorem dX11_works_19 : decode cX11_works 19 = .ok (.iastore, 1) := by decide +kernel
theorem dX11_works_20 : decode cX11_works 20 = .ok (.iinc 1 1, 3) := by decide +kernel
theorem dX11_works_23 : decode cX11_works 23 = .ok (.goto (-17), 3) := by decide +kernel
theorem dX11_works_26 : decode cX11_works 26 = .ok (.iconst 0, 1) := by decide +kernel
theorem dX11_works_27 : decode cX11_works 27 = .ok (.istore_n 1, 1) := by decide +kernel
theorem dX11_works_28 : decode cX11_works 28 = .ok (.iload_n 1, 1) := by decide +kernel
theorem dX11_works_29 : decode cX11_works 29 = .ok (.sipush 2816, 3) := by decide +kernel
theorem dX11_works_32 : decode cX11_works 32 = .ok (.if_icmp .ge 16, 3) := by decide +kernel
theorem dX11_works_35 : decode cX11_works 35 = .ok (.aload_n 0, 1) := by decide +kernel
theorem dX11_works_36 : decode cX11_works 36 = .ok (.getfield 69, 3) := by decide +kernel
theorem dX11_works_39 : decode cX11_works 39 = .ok (.iload_n 1, 1) := by decide +kernel
theorem dX11_works_40 : decode cX11_works 40 = .ok (.iconst 0, 1) := by decide +kernel
theorem dX11_works_41 : decode cX11_works 41 = .ok (.iastore, 1) := by decide +kernel
theorem dX11_works_42 : decode cX11_works 42 = .ok (.iinc 1 1, 3) := by decide +kernel
theorem dX11_works_45 : decode cX11_works 45 = .ok (.goto (-17), 3) := by decide +kernel
theorem dX11_works_48 : decode cX11_works 48 = .ok (.iconst (-1), 1) := by decide +kernel
theorem dX11_works_49 : decode cX11_works 49 = .ok (.istore_n 1, 1) := by decide +kernel
theorem dX11_works_50 : decode cX11_works 50 = .ok (.iconst 0, 1) := by decide +kernel
theorem dX11_works_51 : decode cX11_works 51 = .ok (.istore_n 2, 1) := by decide +kernel
theorem dX11_works_52 : decode cX11_works 52 = .ok (.iload_n 2, 1) := by decide +kernel
theorem dX11_works_53 : decode cX11_works 53 = .ok (.aload_n 0, 1) := by decide +kernel
theorem dX11_works_54 : decode cX11_works 54 = .ok (.invokevirtual 112, 3) := by decide +kernel
theorem dX11_works_57 : decode cX11_works 57 = .ok (.if_icmp .ge 271, 3) := by decide +kernel
theorem dX11_works_60 : decode cX11_works 60 = .ok (.aload_n 0, 1) := by decide +kernel
theorem dX11_works_61 : decode cX11_works 61 = .ok (.getfield 60, 3) := by decide +kernel
theorem dX11_works_64 : decode cX11_works 64 = .ok (.iload_n 2, 1) := by decide +kernel
theorem dX11_works_65 : decode cX11_works 65 = .ok (.iaload, 1) := by decide +kernel
theorem dX11_works_66 : decode cX11_works 66 = .ok (.istore_n 3, 1) := by decide +kernel
theorem dX11_works_67 : decode cX11_works 67 = .ok (.iload_n 3, 1) := by decide +kernel
theorem dX11_works_68 : decode cX11_works 68 = .ok (.bipush 64, 2) := by decide +kernel
theorem dX11_works_70 : decode cX11_works 70 = .ok (.idiv, 1) := by decide +kernel
theorem dX11_works_71 : decode cX11_works 71 = .ok (.istore 4, 2) := by decide +kernel
theorem dX11_works_73 : decode cX11_works 73 = .ok (.aload_n 0, 1) := by decide +kernel
theorem dX11_works_74 : decode cX11_works 74 = .ok (.getfield 16, 3) := by decide +kernel
theorem dX11_works_77 : decode cX11_works 77 = .ok (.iload 4, 2) := by decide +kernel
theorem dX11_works_79 : decode cX11_works 79 = .ok (.iaload, 1) := by decide +kernel
theorem dX11_works_80 : decode cX11_works 80 = .ok (.istore 5, 2) := by decide +kernel
theorem dX11_works_82 : decode cX11_works 82 = .ok (.aload_n 0, 1) := by decide +kernel
theorem dX11_works_83 : decode cX11_works 83 = .ok (.getfield 16, 3) := by decide +kernel
theorem dX11_works_86 : decode cX11_works 86 = .ok (.iload 4, 2) := by decide +kernel
theorem dX11_works_88 : decode cX11_works 88 = .ok (.iaload, 1) := by decide +kernel
theorem dX11_works_89 : decode cX11_works 89 = .ok (.istore 6, 2) := by decide +kernel
theorem dX11_works_91 : decode cX11_works 91 = .ok (.iconst 4, 1) := by decide +kernel
theorem dX11_works_92 : decode cX11_works 92 = .ok (.iload 4, 2) := by decide +kernel
theorem dX11_works_94 : decode cX11_works 94 = .ok (.imul, 1) := by decide +kernel
theorem dX11_works_95 : decode cX11_works 95 = .ok (.istore 7, 2) := by decide +kernel
theorem dX11_works_97 : decode cX11_works 97 = .ok (.iload 7, 2) := by decide +kernel
theorem dX11_works_99 : decode cX11_works 99 = .ok (.iconst 4, 1) := by decide +kernel
theorem dX11_works_100 : decode cX11_works 100 = .ok (.iload 4, 2) := by decide +kernel
theorem dX11_works_102 : decode cX11_works 102 = .ok (.imul, 1) := by decide +kernel
theorem dX11_works_103 : decode cX11_works 103 = .ok (.aload_n 0, 1) := by decide +kernel
theorem dX11_works_104 : decode cX11_works 104 = .ok (.getfield 20, 3) := by decide +kernel
theorem dX11_works_107 : decode cX11_works 107 = .ok (.iload 4, 2) := by decide +kernel
theorem dX11_works_109 : decode cX11_works 109 = .ok (.iaload, 1) := by decide +kernel
theorem dX11_works_110 : decode cX11_works 110 = .ok (.iadd, 1) := by decide +kernel
theorem dX11_works_111 : decode cX11_works 111 = .ok (.if_icmp .ge 139, 3) := by decide +kernel
theorem dX11_works_114 : decode cX11_works 114 = .ok (.aload_n 0, 1) := by decide +kernel
theorem dX11_works_115 : decode cX11_works 115 = .ok (.iload_n 3, 1) := by decide +kernel
theorem dX11_works_116 : decode cX11_works 116 = .ok (.iload 7, 2) := by decide +kernel
theorem dX11_works_118 : decode cX11_works 118 = .ok (.invokevirtual 130, 3) := by decide +kernel
theorem dX11_works_121 : decode cX11_works 121 = .ok (.istore 8, 2) := by decide +kernel
theorem dX11_works_123 : decode cX11_works 123 = .ok (.iload 8, 2) := by decide +kernel
theorem dX11_works_125 : decode cX11_works 125 = .ok (.ifCond .ge 42, 3) := by decide +kernel
theorem dX11_works_128 : decode cX11_works 128 = .ok (.aload_n 0, 1) := by decide +kernel
theorem dX11_works_129 : decode cX11_works 129 = .ok (.iload_n 3, 1) := by decide +kernel
theorem dX11_works_130 : decode cX11_works 130 = .ok (.invokevirtual 105, 3) := by decide +kernel
theorem dX11_works_133 : decode cX11_works 133 = .ok (.aload_n 0, 1) := by decide +kernel
theorem dX11_works_134 : decode cX11_works 134 = .ok (.getfield 29, 3) := by decide +kernel
theorem dX11_works_137 : decode cX11_works 137 = .ok (.iload 7, 2) := by decide +kernel
theorem dX11_works_139 : decode cX11_works 139 = .ok (.iaload, 1) := by decide +kernel
theorem dX11_works_140 : decode cX11_works 140 = .ok (.isub, 1) := by decide +kernel
theorem dX11_works_141 : decode cX11_works 141 = .ok (.aload_n 0, 1) := by decide +kernel
theorem dX11_works_142 : decode cX11_works 142 = .ok (.iload_n 3, 1) := by decide +kernel
theorem dX11_works_143 : decode cX11_works 143 = .ok (.invokevirtual 109, 3) := by decide +kernel
theorem dX11_works_146 : decode cX11_works 146 = .ok (.aload_n 0, 1) := by decide +kernel
theorem dX11_works_147 : decode cX11_works 147 = .ok (.getfield 32, 3) := by decide +kernel
theorem dX11_works_150 : decode cX11_works 150 = .ok (.iload 7, 2) := by decide +kernel
theorem dX11_works_152 : decode cX11_works 152 = .ok (.iaload, 1) := by decide +kernel
theorem dX11_works_153 : decode cX11_works 153 = .ok (.isub, 1) := by decide +kernel
theorem dX11_works_154 : decode cX11_works 154 = .ok (.aload_n 0, 1) := by decide +kernel
theorem dX11_works_155 : decode cX11_works 155 = .ok (.getfield 23, 3) := by decide +kernel
theorem dX11_works_158 : decode cX11_works 158 = .ok (.iload 7, 2) := by decide +kernel
theorem dX11_works_160 : decode cX11_works 160 = .ok (.iaload, 1) := by decide +kernel
theorem dX11_works_161 : decode cX11_works 161 = .ok (.invokestatic 221, 3) := by decide +kernel
theorem dX11_works_164 : decode cX11_works 164 = .ok (.goto 4, 3) := by decide +kernel
theorem dX11_works_167 : decode cX11_works 167 = .ok (.iconst 0, 1) := by decide +kernel
theorem dX11_works_168 : decode cX11_works 168 = .ok (.istore 9, 2) := by decide +kernel
theorem dX11_works_170 : decode cX11_works 170 = .ok (.iload 5, 2) := by decide +kernel
theorem dX11_works_172 : decode cX11_works 172 = .ok (.aload_n 0, 1) := by decide +kernel
theorem dX11_works_173 : decode cX11_works 173 = .ok (.getfield 26, 3) := by decide +kernel
theorem dX11_works_176 : decode cX11_works 176 = .ok (.iload 7, 2) := by decide +kernel
theorem dX11_works_178 : decode cX11_works 178 = .ok (.iaload, 1) := by decide +kernel
theorem dX11_works_179 : decode cX11_works 179 = .ok (.iload 8, 2) := by decide +kernel
theorem dX11_works_181 : decode cX11_works 181 = .ok (.ifCond .ge 8, 3) := by decide +kernel
theorem dX11_works_184 : decode cX11_works 184 = .ok (.iload 9, 2) := by decide +kernel
theorem dX11_works_186 : decode cX11_works 186 = .ok (.goto 10, 3) := by decide +kernel
theorem dX11_works_189 : decode cX11_works 189 = .ok (.aload_n 0, 1) := by decide +kernel
theorem dX11_works_190 : decode cX11_works 190 = .ok (.getfield 66, 3) := by decide +kernel
theorem dX11_works_193 : decode cX11_works 193 = .ok (.iload 8, 2) := by decide +kernel
theorem dX11_works_195 : decode cX11_works 195 = .ok (.iaload, 1) := by decide +kernel
theorem dX11_works_196 : decode cX11_works 196 = .ok (.imul, 1) := by decide +kernel
theorem dX11_works_197 : decode cX11_works 197 = .ok (.iadd, 1) := by decide +kernel
theorem dX11_works_198 : decode cX11_works 198 = .ok (.istore 5, 2) := by decide +kernel
theorem dX11_works_200 : decode cX11_works 200 = .ok (.iload 6, 2) := by decide +kernel
theorem dX11_works_202 : decode cX11_works 202 = .ok (.aload_n 0, 1) := by decide +kernel
theorem dX11_works_203 : decode cX11_works 203 = .ok (.getfield 26, 3) := by decide +kernel
theorem dX11_works_206 : decode cX11_works 206 = .ok (.iload 7, 2) := by decide +kernel
theorem dX11_works_208 : decode cX11_works 208 = .ok (.iaload, 1) := by decide +kernel
theorem dX11_works_209 : decode cX11_works 209 = .ok (.iload 8, 2) := by decide +kernel
theorem dX11_works_211 : decode cX11_works 211 = .ok (.ifCond .ge 8, 3) := by decide +kernel
theorem dX11_works_214 : decode cX11_works 214 = .ok (.iload 9, 2) := by decide +kernel
theorem dX11_works_216 : decode cX11_works 216 = .ok (.goto 24, 3) := by decide +kernel
theorem dX11_works_219 : decode cX11_works 219 = .ok (.aload_n 0, 1) := by decide +kernel
theorem dX11_works_220 : decode cX11_works 220 = .ok (.getfield 69, 3) := by decide +kernel
theorem dX11_works_223 : decode cX11_works 223 = .ok (.sipush 704, 3) := by decide +kernel
theorem dX11_works_226 : decode cX11_works 226 = .ok (.iload 8, 2) := by decide +kernel
theorem dX11_works_228 : decode cX11_works 228 = .ok (.bipush 64, 2) := by decide +kernel
theorem dX11_works_230 : decode cX11_works 230 = .ok (.idiv, 1) := by decide +kernel
theorem dX11_works_231 : decode cX11_works 231 = .ok (.imul, 1) := by decide +kernel
theorem dX11_works_232 : decode cX11_works 232 = .ok (.aload_n 0, 1) := by decide +kernel
theorem dX11_works_233 : decode cX11_works 233 = .ok (.iload 8, 2) := by decide +kernel
theorem dX11_works_235 : decode cX11_works 235 = .ok (.invokevirtual 197, 3) := by decide +kernel
theorem dX11_works_238 : decode cX11_works 238 = .ok (.iadd, 1) := by decide +kernel
theorem dX11_works_239 : decode cX11_works 239 = .ok (.iaload, 1) := by decide +kernel
theorem dX11_works_240 : decode cX11_works 240 = .ok (.imul, 1) := by decide +kernel
theorem dX11_works_241 : decode cX11_works 241 = .ok (.iadd, 1) := by decide +kernel
theorem dX11_works_242 : decode cX11_works 242 = .ok (.istore 6, 2) := by decide +kernel
theorem dX11_works_244 : decode cX11_works 244 = .ok (.iinc 7 1, 3) := by decide +kernel
theorem dX11_works_247 : decode cX11_works 247 = .ok (.goto (-150), 3) := by decide +kernel
theorem dX11_works_250 : decode cX11_works 250 = .ok (.aload_n 0, 1) := by decide +kernel
theorem dX11_works_251 : decode cX11_works 251 = .ok (.getfield 66, 3) := by decide +kernel
theorem dX11_works_254 : decode cX11_works 254 = .ok (.iload_n 3, 1) := by decide +kernel
theorem dX11_works_255 : decode cX11_works 255 = .ok (.iload 5, 2) := by decide +kernel
theorem dX11_works_257 : decode cX11_works 257 = .ok (.sipush 9973, 3) := by decide +kernel
theorem dX11_works_260 : decode cX11_works 260 = .ok (.irem, 1) := by decide +kernel
theorem dX11_works_261 : decode cX11_works 261 = .ok (.iastore, 1) := by decide +kernel
theorem dX11_works_262 : decode cX11_works 262 = .ok (.aload_n 0, 1) := by decide +kernel
theorem dX11_works_263 : decode cX11_works 263 = .ok (.getfield 72, 3) := by decide +kernel
theorem dX11_works_266 : decode cX11_works 266 = .ok (.iload_n 3, 1) := by decide +kernel
theorem dX11_works_267 : decode cX11_works 267 = .ok (.iload 6, 2) := by decide +kernel
theorem dX11_works_269 : decode cX11_works 269 = .ok (.sipush 9973, 3) := by decide +kernel
theorem dX11_works_272 : decode cX11_works 272 = .ok (.irem, 1) := by decide +kernel
theorem dX11_works_273 : decode cX11_works 273 = .ok (.iastore, 1) := by decide +kernel
theorem dX11_works_274 : decode cX11_works 274 = .ok (.aload_n 0, 1) := by decide +kernel
theorem dX11_works_275 : decode cX11_works 275 = .ok (.getfield 69, 3) := by decide +kernel
theorem dX11_works_278 : decode cX11_works 278 = .ok (.sipush 704, 3) := by decide +kernel
theorem dX11_works_281 : decode cX11_works 281 = .ok (.iload 4, 2) := by decide +kernel
theorem dX11_works_283 : decode cX11_works 283 = .ok (.imul, 1) := by decide +kernel
theorem dX11_works_284 : decode cX11_works 284 = .ok (.aload_n 0, 1) := by decide +kernel
theorem dX11_works_285 : decode cX11_works 285 = .ok (.iload_n 3, 1) := by decide +kernel
theorem dX11_works_286 : decode cX11_works 286 = .ok (.invokevirtual 197, 3) := by decide +kernel
theorem dX11_works_289 : decode cX11_works 289 = .ok (.iadd, 1) := by decide +kernel
theorem dX11_works_290 : decode cX11_works 290 = .ok (.aload_n 0, 1) := by decide +kernel
theorem dX11_works_291 : decode cX11_works 291 = .ok (.getfield 72, 3) := by decide +kernel
theorem dX11_works_294 : decode cX11_works 294 = .ok (.iload_n 3, 1) := by decide +kernel
theorem dX11_works_295 : decode cX11_works 295 = .ok (.iaload, 1) := by decide +kernel
theorem dX11_works_296 : decode cX11_works 296 = .ok (.iastore, 1) := by decide +kernel
theorem dX11_works_297 : decode cX11_works 297 = .ok (.iload_n 1, 1) := by decide +kernel
theorem dX11_works_298 : decode cX11_works 298 = .ok (.ifCond .ge 22, 3) := by decide +kernel
theorem dX11_works_301 : decode cX11_works 301 = .ok (.aload_n 0, 1) := by decide +kernel
theorem dX11_works_302 : decode cX11_works 302 = .ok (.getfield 66, 3) := by decide +kernel
theorem dX11_works_305 : decode cX11_works 305 = .ok (.iload_n 3, 1) := by decide +kernel
theorem dX11_works_306 : decode cX11_works 306 = .ok (.iaload, 1) := by decide +kernel
theorem dX11_works_307 : decode cX11_works 307 = .ok (.aload_n 0, 1) := by decide +kernel
theorem dX11_works_308 : decode cX11_works 308 = .ok (.getfield 72, 3) := by decide +kernel
theorem dX11_works_311 : decode cX11_works 311 = .ok (.iload_n 3, 1) := by decide +kernel
theorem dX11_works_312 : decode cX11_works 312 = .ok (.iaload, 1) := by decide +kernel
theorem dX11_works_313 : decode cX11_works 313 = .ok (.if_icmp .eq 7, 3) := by decide +kernel
theorem dX11_works_316 : decode cX11_works 316 = .ok (.iload_n 2, 1) := by decide +kernel
theorem dX11_works_317 : decode cX11_works 317 = .ok (.goto 4, 3) := by decide +kernel
theorem dX11_works_320 : decode cX11_works 320 = .ok (.iload_n 1, 1) := by decide +kernel
theorem dX11_works_321 : decode cX11_works 321 = .ok (.istore_n 1, 1) := by decide +kernel
theorem dX11_works_322 : decode cX11_works 322 = .ok (.iinc 2 1, 3) := by decide +kernel
theorem dX11_works_325 : decode cX11_works 325 = .ok (.goto (-273), 3) := by decide +kernel
theorem dX11_works_328 : decode cX11_works 328 = .ok (.iload_n 1, 1) := by decide +kernel
theorem dX11_works_329 : decode cX11_works 329 = .ok (.ireturn, 1) := by decide +kernel
theorem dX11_valueOf_0 : decode cX11_valueOf 0 = .ok (.aload_n 0, 1) := by decide +kernel
theorem dX11_valueOf_1 : decode cX11_valueOf 1 = .ok (.aload_n 0, 1) := by decide +kernel
theorem dX11_valueOf_2 : decode cX11_valueOf 2 = .ok (.iload_n 1, 1) := by decide +kernel
theorem dX11_valueOf_3 : decode cX11_valueOf 3 = .ok (.iload_n 2, 1) := by decide +kernel
theorem dX11_valueOf_4 : decode cX11_valueOf 4 = .ok (.iload_n 3, 1) := by decide +kernel
theorem dX11_valueOf_5 : decode cX11_valueOf 5 = .ok (.invokevirtual 150, 3) := by decide +kernel
theorem dX11_valueOf_8 : decode cX11_valueOf 8 = .ok (.ifCond .eq 7, 3) := by decide +kernel
theorem dX11_valueOf_11 : decode cX11_valueOf 11 = .ok (.iconst 0, 1) := by decide +kernel
theorem dX11_valueOf_12 : decode cX11_valueOf 12 = .ok (.goto 4, 3) := by decide +kernel
theorem dX11_valueOf_15 : decode cX11_valueOf 15 = .ok (.iconst 1, 1) := by decide +kernel
theorem dX11_valueOf_16 : decode cX11_valueOf 16 = .ok (.invokevirtual 102, 3) := by decide +kernel
theorem dX11_valueOf_19 : decode cX11_valueOf 19 = .ok (.ifCond .eq 5, 3) := by decide +kernel
theorem dX11_valueOf_22 : decode cX11_valueOf 22 = .ok (.iconst 0, 1) := by decide +kernel
theorem dX11_valueOf_23 : decode cX11_valueOf 23 = .ok (.ireturn, 1) := by decide +kernel
theorem dX11_valueOf_24 : decode cX11_valueOf 24 = .ok (.aload_n 0, 1) := by decide +kernel
theorem dX11_valueOf_25 : decode cX11_valueOf 25 = .ok (.invokevirtual 224, 3) := by decide +kernel
theorem dX11_valueOf_28 : decode cX11_valueOf 28 = .ok (.pop, 1) := by decide +kernel
theorem dX11_valueOf_29 : decode cX11_valueOf 29 = .ok (.aload_n 0, 1) := by decide +kernel
theorem dX11_valueOf_30 : decode cX11_valueOf 30 = .ok (.getfield 66, 3) := by decide +kernel
theorem dX11_valueOf_33 : decode cX11_valueOf 33 = .ok (.aload_n 0, 1) := by decide +kernel
theorem dX11_valueOf_34 : decode cX11_valueOf 34 = .ok (.iload_n 1, 1) := by decide +kernel
theorem dX11_valueOf_35 : decode cX11_valueOf 35 = .ok (.iload_n 2, 1) := by decide +kernel
theorem dX11_valueOf_36 : decode cX11_valueOf 36 = .ok (.iload_n 3, 1) := by decide +kernel
theorem dX11_valueOf_37 : decode cX11_valueOf 37 = .ok (.invokevirtual 127, 3) := by decide +kernel
theorem dX11_valueOf_40 : decode cX11_valueOf 40 = .ok (.iaload, 1) := by decide +kernel
theorem dX11_valueOf_41 : decode cX11_valueOf 41 = .ok (.ireturn, 1) := by decide +kernel
theorem dX11_contractedValueOf_0 : decode cX11_contractedValueOf 0 = .ok (.aload_n 0, 1) := by decide +kernel
theorem dX11_contractedValueOf_1 : decode cX11_contractedValueOf 1 = .ok (.aload_n 0, 1) := by decide +kernel
theorem dX11_contractedValueOf_2 : decode cX11_contractedValueOf 2 = .ok (.iload_n 1, 1) := by decide +kernel
theorem dX11_contractedValueOf_3 : decode cX11_contractedValueOf 3 = .ok (.iload_n 2, 1) := by decide +kernel
theorem dX11_contractedValueOf_4 : decode cX11_contractedValueOf 4 = .ok (.iload_n 3, 1) := by decide +kernel
theorem dX11_contractedValueOf_5 : decode cX11_contractedValueOf 5 = .ok (.invokevirtual 150, 3) := by decide +kernel
theorem dX11_contractedValueOf_8 : decode cX11_contractedValueOf 8 = .ok (.ifCond .eq 7, 3) := by decide +kernel
theorem dX11_contractedValueOf_11 : decode cX11_contractedValueOf 11 = .ok (.iconst 0, 1) := by decide +kernel
theorem dX11_contractedValueOf_12 : decode cX11_contractedValueOf 12 = .ok (.goto 4, 3) := by decide +kernel
theorem dX11_contractedValueOf_15 : decode cX11_contractedValueOf 15 = .ok (.iconst 1, 1) := by decide +kernel
theorem dX11_contractedValueOf_16 : decode cX11_contractedValueOf 16 = .ok (.invokevirtual 102, 3) := by decide +kernel
theorem dX11_contractedValueOf_19 : decode cX11_contractedValueOf 19 = .ok (.ifCond .eq 5, 3) := by decide +kernel
theorem dX11_contractedValueOf_22 : decode cX11_contractedValueOf 22 = .ok (.iconst 0, 1) := by decide +kernel
theorem dX11_contractedValueOf_23 : decode cX11_contractedValueOf 23 = .ok (.ireturn, 1) := by decide +kernel
theorem dX11_contractedValueOf_24 : decode cX11_contractedValueOf 24 = .ok (.aload_n 0, 1) := by decide +kernel
theorem dX11_contractedValueOf_25 : decode cX11_contractedValueOf 25 = .ok (.invokevirtual 224, 3) := by decide +kernel
theorem dX11_contractedValueOf_28 : decode cX11_contractedValueOf 28 = .ok (.pop, 1) := by decide +kernel
theorem dX11_contractedValueOf_29 : decode cX11_contractedValueOf 29 = .ok (.aload_n 0, 1) := by decide +kernel
theorem dX11_contractedValueOf_30 : decode cX11_contractedValueOf 30 = .ok (.getfield 72, 3) := by decide +kernel
theorem dX11_contractedValueOf_33 : decode cX11_contractedValueOf 33 = .ok (.aload_n 0, 1) := by decide +kernel
theorem dX11_contractedValueOf_34 : decode cX11_contractedValueOf 34 = .ok (.iload_n 1, 1) := by decide +kernel
theorem dX11_contractedValueOf_35 : decode cX11_contractedValueOf 35 = .ok (.iload_n 2, 1) := by decide +kernel
theorem dX11_contractedValueOf_36 : decode cX11_contractedValueOf 36 = .ok (.iload_n 3, 1) := by decide +kernel
theorem dX11_contractedValueOf_37 : decode cX11_contractedValueOf 37 = .ok (.invokevirtual 127, 3) := by decide +kernel
theorem dX11_contractedValueOf_40 : decode cX11_contractedValueOf 40 = .ok (.iaload, 1) := by decide +kernel
theorem dX11_contractedValueOf_41 : decode cX11_contractedValueOf 41 = .ok (.ireturn, 1) := by decide +kernel
theorem dX11_firstWrongStep_0 : decode cX11_firstWrongStep 0 = .ok (.aload_n 0, 1) := by decide +kernel
theorem dX11_firstWrongStep_1 : decode cX11_firstWrongStep 1 = .ok (.iconst 0, 1) := by decide +kernel
theorem dX11_firstWrongStep_2 : decode cX11_firstWrongStep 2 = .ok (.putfield 84, 3) := by decide +kernel
theorem dX11_firstWrongStep_5 : decode cX11_firstWrongStep 5 = .ok (.aload_n 0, 1) := by decide +kernel
theorem dX11_firstWrongStep_6 : decode cX11_firstWrongStep 6 = .ok (.invokevirtual 224, 3) := by decide +kernel
theorem dX11_firstWrongStep_9 : decode cX11_firstWrongStep 9 = .ok (.ireturn, 1) := by decide +kernel
theorem dX11_hasBest_0 : decode cX11_hasBest 0 = .ok (.aload_n 0, 1) := by decide +kernel
theorem dX11_hasBest_1 : decode cX11_hasBest 1 = .ok (.iconst (-1), 1) := by decide +kernel
theorem dX11_hasBest_2 : decode cX11_hasBest 2 = .ok (.putfield 227, 3) := by decide +kernel
theorem dX11_hasBest_5 : decode cX11_hasBest 5 = .ok (.iconst 0, 1) := by decide +kernel
theorem dX11_hasBest_6 : decode cX11_hasBest 6 = .ok (.istore_n 1, 1) := by decide +kernel
theorem dX11_hasBest_7 : decode cX11_hasBest 7 = .ok (.iload_n 1, 1) := by decide +kernel
theorem dX11_hasBest_8 : decode cX11_hasBest 8 = .ok (.bipush 16, 2) := by decide +kernel
theorem dX11_hasBest_10 : decode cX11_hasBest 10 = .ok (.if_icmp .ge 90, 3) := by decide +kernel
theorem dX11_hasBest_13 : decode cX11_hasBest 13 = .ok (.aload_n 0, 1) := by decide +kernel
theorem dX11_hasBest_14 : decode cX11_hasBest 14 = .ok (.iload_n 1, 1) := by decide +kernel
theorem dX11_hasBest_15 : decode cX11_hasBest 15 = .ok (.iconst 4, 1) := by decide +kernel
theorem dX11_hasBest_16 : decode cX11_hasBest 16 = .ok (.idiv, 1) := by decide +kernel
theorem dX11_hasBest_17 : decode cX11_hasBest 17 = .ok (.iload_n 1, 1) := by decide +kernel
theorem dX11_hasBest_18 : decode cX11_hasBest 18 = .ok (.iconst 4, 1) := by decide +kernel
theorem dX11_hasBest_19 : decode cX11_hasBest 19 = .ok (.irem, 1) := by decide +kernel
theorem dX11_hasBest_20 : decode cX11_hasBest 20 = .ok (.invokevirtual 144, 3) := by decide +kernel
theorem dX11_hasBest_23 : decode cX11_hasBest 23 = .ok (.ifCond .eq 71, 3) := by decide +kernel
theorem dX11_hasBest_26 : decode cX11_hasBest 26 = .ok (.aload_n 0, 1) := by decide +kernel
theorem dX11_hasBest_27 : decode cX11_hasBest 27 = .ok (.invokevirtual 156, 3) := by decide +kernel
theorem dX11_hasBest_30 : decode cX11_hasBest 30 = .ok (.iconst 0, 1) := by decide +kernel
theorem dX11_hasBest_31 : decode cX11_hasBest 31 = .ok (.istore_n 2, 1) := by decide +kernel
theorem dX11_hasBest_32 : decode cX11_hasBest 32 = .ok (.iconst 0, 1) := by decide +kernel
theorem dX11_hasBest_33 : decode cX11_hasBest 33 = .ok (.istore_n 3, 1) := by decide +kernel
theorem dX11_hasBest_34 : decode cX11_hasBest 34 = .ok (.iload_n 3, 1) := by decide +kernel
theorem dX11_hasBest_35 : decode cX11_hasBest 35 = .ok (.aload_n 0, 1) := by decide +kernel
theorem dX11_hasBest_36 : decode cX11_hasBest 36 = .ok (.getfield 87, 3) := by decide +kernel
theorem dX11_hasBest_39 : decode cX11_hasBest 39 = .ok (.if_icmp .ge 21, 3) := by decide +kernel
theorem dX11_hasBest_42 : decode cX11_hasBest 42 = .ok (.aload_n 0, 1) := by decide +kernel
theorem dX11_hasBest_43 : decode cX11_hasBest 43 = .ok (.iload_n 3, 1) := by decide +kernel
theorem dX11_hasBest_44 : decode cX11_hasBest 44 = .ok (.invokevirtual 181, 3) := by decide +kernel
theorem dX11_hasBest_47 : decode cX11_hasBest 47 = .ok (.iload_n 2, 1) := by decide +kernel
theorem dX11_hasBest_48 : decode cX11_hasBest 48 = .ok (.aload_n 0, 1) := by decide +kernel
theorem dX11_hasBest_49 : decode cX11_hasBest 49 = .ok (.invokevirtual 185, 3) := by decide +kernel
theorem dX11_hasBest_52 : decode cX11_hasBest 52 = .ok (.iadd, 1) := by decide +kernel
theorem dX11_hasBest_53 : decode cX11_hasBest 53 = .ok (.istore_n 2, 1) := by decide +kernel
theorem dX11_hasBest_54 : decode cX11_hasBest 54 = .ok (.iinc 3 1, 3) := by decide +kernel
theorem dX11_hasBest_57 : decode cX11_hasBest 57 = .ok (.goto (-23), 3) := by decide +kernel
theorem dX11_hasBest_60 : decode cX11_hasBest 60 = .ok (.aload_n 0, 1) := by decide +kernel
theorem dX11_hasBest_61 : decode cX11_hasBest 61 = .ok (.getfield 227, 3) := by decide +kernel
theorem dX11_hasBest_64 : decode cX11_hasBest 64 = .ok (.ifCond .lt 11, 3) := by decide +kernel
theorem dX11_hasBest_67 : decode cX11_hasBest 67 = .ok (.iload_n 2, 1) := by decide +kernel
theorem dX11_hasBest_68 : decode cX11_hasBest 68 = .ok (.aload_n 0, 1) := by decide +kernel
theorem dX11_hasBest_69 : decode cX11_hasBest 69 = .ok (.getfield 227, 3) := by decide +kernel
theorem dX11_hasBest_72 : decode cX11_hasBest 72 = .ok (.if_icmp .ge 22, 3) := by decide +kernel
theorem dX11_hasBest_75 : decode cX11_hasBest 75 = .ok (.aload_n 0, 1) := by decide +kernel
theorem dX11_hasBest_76 : decode cX11_hasBest 76 = .ok (.iload_n 2, 1) := by decide +kernel
theorem dX11_hasBest_77 : decode cX11_hasBest 77 = .ok (.putfield 227, 3) := by decide +kernel
theorem dX11_hasBest_80 : decode cX11_hasBest 80 = .ok (.aload_n 0, 1) := by decide +kernel
theorem dX11_hasBest_81 : decode cX11_hasBest 81 = .ok (.iload_n 1, 1) := by decide +kernel
theorem dX11_hasBest_82 : decode cX11_hasBest 82 = .ok (.iconst 4, 1) := by decide +kernel
theorem dX11_hasBest_83 : decode cX11_hasBest 83 = .ok (.idiv, 1) := by decide +kernel
theorem dX11_hasBest_84 : decode cX11_hasBest 84 = .ok (.putfield 230, 3) := by decide +kernel
theorem dX11_hasBest_87 : decode cX11_hasBest 87 = .ok (.aload_n 0, 1) := by decide +kernel
theorem dX11_hasBest_88 : decode cX11_hasBest 88 = .ok (.iload_n 1, 1) := by decide +kernel
theorem dX11_hasBest_89 : decode cX11_hasBest 89 = .ok (.iconst 4, 1) := by decide +kernel
theorem dX11_hasBest_90 : decode cX11_hasBest 90 = .ok (.irem, 1) := by decide +kernel
theorem dX11_hasBest_91 : decode cX11_hasBest 91 = .ok (.putfield 233, 3) := by decide +kernel
theorem dX11_hasBest_94 : decode cX11_hasBest 94 = .ok (.iinc 1 1, 3) := by decide +kernel
theorem dX11_hasBest_97 : decode cX11_hasBest 97 = .ok (.goto (-90), 3) := by decide +kernel
theorem dX11_hasBest_100 : decode cX11_hasBest 100 = .ok (.aload_n 0, 1) := by decide +kernel
theorem dX11_hasBest_101 : decode cX11_hasBest 101 = .ok (.getfield 227, 3) := by decide +kernel
theorem dX11_hasBest_104 : decode cX11_hasBest 104 = .ok (.ifCond .lt 7, 3) := by decide +kernel
theorem dX11_hasBest_107 : decode cX11_hasBest 107 = .ok (.iconst 1, 1) := by decide +kernel
theorem dX11_hasBest_108 : decode cX11_hasBest 108 = .ok (.goto 4, 3) := by decide +kernel
theorem dX11_hasBest_111 : decode cX11_hasBest 111 = .ok (.iconst 0, 1) := by decide +kernel
theorem dX11_hasBest_112 : decode cX11_hasBest 112 = .ok (.ireturn, 1) := by decide +kernel
theorem dX11_bestRowWeight_0 : decode cX11_bestRowWeight 0 = .ok (.aload_n 0, 1) := by decide +kernel
theorem dX11_bestRowWeight_1 : decode cX11_bestRowWeight 1 = .ok (.aload_n 0, 1) := by decide +kernel
theorem dX11_bestRowWeight_2 : decode cX11_bestRowWeight 2 = .ok (.invokevirtual 236, 3) := by decide +kernel
theorem dX11_bestRowWeight_5 : decode cX11_bestRowWeight 5 = .ok (.ifCond .eq 7, 3) := by decide +kernel
theorem dX11_bestRowWeight_8 : decode cX11_bestRowWeight 8 = .ok (.iconst 0, 1) := by decide +kernel
theorem dX11_bestRowWeight_9 : decode cX11_bestRowWeight 9 = .ok (.goto 4, 3) := by decide +kernel
theorem dX11_bestRowWeight_12 : decode cX11_bestRowWeight 12 = .ok (.iconst 1, 1) := by decide +kernel
theorem dX11_bestRowWeight_13 : decode cX11_bestRowWeight 13 = .ok (.invokevirtual 102, 3) := by decide +kernel
theorem dX11_bestRowWeight_16 : decode cX11_bestRowWeight 16 = .ok (.ifCond .eq 7, 3) := by decide +kernel
theorem dX11_bestRowWeight_19 : decode cX11_bestRowWeight 19 = .ok (.iconst 0, 1) := by decide +kernel
theorem dX11_bestRowWeight_20 : decode cX11_bestRowWeight 20 = .ok (.goto 7, 3) := by decide +kernel
theorem dX11_bestRowWeight_23 : decode cX11_bestRowWeight 23 = .ok (.aload_n 0, 1) := by decide +kernel
theorem dX11_bestRowWeight_24 : decode cX11_bestRowWeight 24 = .ok (.getfield 230, 3) := by decide +kernel
theorem dX11_bestRowWeight_27 : decode cX11_bestRowWeight 27 = .ok (.ireturn, 1) := by decide +kernel
theorem dX11_bestColumnWeight_0 : decode cX11_bestColumnWeight 0 = .ok (.aload_n 0, 1) := by decide +kernel
theorem dX11_bestColumnWeight_1 : decode cX11_bestColumnWeight 1 = .ok (.aload_n 0, 1) := by decide +kernel
theorem dX11_bestColumnWeight_2 : decode cX11_bestColumnWeight 2 = .ok (.invokevirtual 236, 3) := by decide +kernel
theorem dX11_bestColumnWeight_5 : decode cX11_bestColumnWeight 5 = .ok (.ifCond .eq 7, 3) := by decide +kernel
theorem dX11_bestColumnWeight_8 : decode cX11_bestColumnWeight 8 = .ok (.iconst 0, 1) := by decide +kernel
theorem dX11_bestColumnWeight_9 : decode cX11_bestColumnWeight 9 = .ok (.goto 4, 3) := by decide +kernel
theorem dX11_bestColumnWeight_12 : decode cX11_bestColumnWeight 12 = .ok (.iconst 1, 1) := by decide +kernel
theorem dX11_bestColumnWeight_13 : decode cX11_bestColumnWeight 13 = .ok (.invokevirtual 102, 3) := by decide +kernel
theorem dX11_bestColumnWeight_16 : decode cX11_bestColumnWeight 16 = .ok (.ifCond .eq 7, 3) := by decide +kernel
theorem dX11_bestColumnWeight_19 : decode cX11_bestColumnWeight 19 = .ok (.iconst 0, 1) := by decide +kernel
theorem dX11_bestColumnWeight_20 : decode cX11_bestColumnWeight 20 = .ok (.goto 7, 3) := by decide +kernel
theorem dX11_bestColumnWeight_23 : decode cX11_bestColumnWeight 23 = .ok (.aload_n 0, 1) := by decide +kernel
theorem dX11_bestColumnWeight_24 : decode cX11_bestColumnWeight 24 = .ok (.getfield 233, 3) := by decide +kernel
theorem dX11_bestColumnWeight_27 : decode cX11_bestColumnWeight 27 = .ok (.ireturn, 1) := by decide +kernel
theorem dX11_bestRoom_0 : decode cX11_bestRoom 0 = .ok (.aload_n 0, 1) := by decide +kernel
theorem dX11_bestRoom_1 : decode cX11_bestRoom 1 = .ok (.aload_n 0, 1) := by decide +kernel
theorem dX11_bestRoom_2 : decode cX11_bestRoom 2 = .ok (.invokevirtual 236, 3) := by decide +kernel
theorem dX11_bestRoom_5 : decode cX11_bestRoom 5 = .ok (.ifCond .eq 7, 3) := by decide +kernel
theorem dX11_bestRoom_8 : decode cX11_bestRoom 8 = .ok (.iconst 0, 1) := by decide +kernel
theorem dX11_bestRoom_9 : decode cX11_bestRoom 9 = .ok (.goto 4, 3) := by decide +kernel
theorem dX11_bestRoom_12 : decode cX11_bestRoom 12 = .ok (.iconst 1, 1) := by decide +kernel
theorem dX11_bestRoom_13 : decode cX11_bestRoom 13 = .ok (.invokevirtual 102, 3) := by decide +kernel
theorem dX11_bestRoom_16 : decode cX11_bestRoom 16 = .ok (.ifCond .eq 7, 3) := by decide +kernel
theorem dX11_bestRoom_19 : decode cX11_bestRoom 19 = .ok (.iconst 0, 1) := by decide +kernel
theorem dX11_bestRoom_20 : decode cX11_bestRoom 20 = .ok (.goto 7, 3) := by decide +kernel
theorem dX11_bestRoom_23 : decode cX11_bestRoom 23 = .ok (.aload_n 0, 1) := by decide +kernel
theorem dX11_bestRoom_24 : decode cX11_bestRoom 24 = .ok (.getfield 227, 3) := by decide +kernel
theorem dX11_bestRoom_27 : decode cX11_bestRoom 27 = .ok (.ireturn, 1) := by decide +kernel
