theorem dX8_init_0 : decode cX8_init 0 = .ok (.aload_n 0, 1) := by decide +kernel
theorem dX8_init_1 : decode cX8_init 1 = .ok (.invokespecial 1, 3) := by decide +kernel
theorem dX8_init_4 : decode cX8_init 4 = .ok (.aload_n 0, 1) := by decide +kernel
theorem dX8_init_5 : decode cX8_init 5 = .ok (.iconst 2, 1) := by decide +kernel
theorem dX8_init_6 : decode cX8_init 6 = .ok (.putfield 7, 3) := by decide +kernel
theorem dX8_init_9 : decode cX8_init 9 = .ok (.aload_n 0, 1) := by decide +kernel
theorem dX8_init_10 : decode cX8_init 10 = .ok (.bipush 120, 2) := by decide +kernel
theorem dX8_init_12 : decode cX8_init 12 = .ok (.newarray .int, 2) := by decide +kernel
theorem dX8_init_14 : decode cX8_init 14 = .ok (.putfield 13, 3) := by decide +kernel
theorem dX8_init_17 : decode cX8_init 17 = .ok (.aload_n 0, 1) := by decide +kernel
theorem dX8_init_18 : decode cX8_init 18 = .ok (.iconst 2, 1) := by decide +kernel
theorem dX8_init_19 : decode cX8_init 19 = .ok (.newarray .boolean, 2) := by decide +kernel
theorem dX8_init_21 : decode cX8_init 21 = .ok (.putfield 17, 3) := by decide +kernel
theorem dX8_init_24 : decode cX8_init 24 = .ok (.aload_n 0, 1) := by decide +kernel
theorem dX8_init_25 : decode cX8_init 25 = .ok (.iconst 2, 1) := by decide +kernel
theorem dX8_init_26 : decode cX8_init 26 = .ok (.newarray .int, 2) := by decide +kernel
theorem dX8_init_28 : decode cX8_init 28 = .ok (.putfield 21, 3) := by decide +kernel
theorem dX8_init_31 : decode cX8_init 31 = .ok (.aload_n 0, 1) := by decide +kernel
theorem dX8_init_32 : decode cX8_init 32 = .ok (.bipush 60, 2) := by decide +kernel
theorem dX8_init_34 : decode cX8_init 34 = .ok (.newarray .int, 2) := by decide +kernel
theorem dX8_init_36 : decode cX8_init 36 = .ok (.putfield 24, 3) := by decide +kernel
theorem dX8_init_39 : decode cX8_init 39 = .ok (.aload_n 0, 1) := by decide +kernel
theorem dX8_init_40 : decode cX8_init 40 = .ok (.iconst 3, 1) := by decide +kernel
theorem dX8_init_41 : decode cX8_init 41 = .ok (.newarray .int, 2) := by decide +kernel
theorem dX8_init_43 : decode cX8_init 43 = .ok (.putfield 27, 3) := by decide +kernel
theorem dX8_init_46 : decode cX8_init 46 = .ok (.aload_n 0, 1) := by decide +kernel
theorem dX8_init_47 : decode cX8_init 47 = .ok (.bipush 29, 2) := by decide +kernel
theorem dX8_init_49 : decode cX8_init 49 = .ok (.newarray .int, 2) := by decide +kernel
theorem dX8_init_51 : decode cX8_init 51 = .ok (.putfield 30, 3) := by decide +kernel
theorem dX8_init_54 : decode cX8_init 54 = .ok (.aload_n 0, 1) := by decide +kernel
theorem dX8_init_55 : decode cX8_init 55 = .ok (.bipush 29, 2) := by decide +kernel
theorem dX8_init_57 : decode cX8_init 57 = .ok (.newarray .int, 2) := by decide +kernel
theorem dX8_init_59 : decode cX8_init 59 = .ok (.putfield 33, 3) := by decide +kernel
theorem dX8_init_62 : decode cX8_init 62 = .ok (.aload_n 0, 1) := by decide +kernel
theorem dX8_init_63 : decode cX8_init 63 = .ok (.bipush 29, 2) := by decide +kernel
theorem dX8_init_65 : decode cX8_init 65 = .ok (.newarray .int, 2) := by decide +kernel
theorem dX8_init_67 : decode cX8_init 67 = .ok (.putfield 36, 3) := by decide +kernel
theorem dX8_init_70 : decode cX8_init 70 = .ok (.aload_n 0, 1) := by decide +kernel
theorem dX8_init_71 : decode cX8_init 71 = .ok (.bipush 29, 2) := by decide +kernel
theorem dX8_init_73 : decode cX8_init 73 = .ok (.newarray .long, 2) := by decide +kernel
theorem dX8_init_75 : decode cX8_init 75 = .ok (.putfield 39, 3) := by decide +kernel
theorem dX8_init_78 : decode cX8_init 78 = .ok (.aload_n 0, 1) := by decide +kernel
theorem dX8_init_79 : decode cX8_init 79 = .ok (.bipush 29, 2) := by decide +kernel
theorem dX8_init_81 : decode cX8_init 81 = .ok (.newarray .long, 2) := by decide +kernel
theorem dX8_init_83 : decode cX8_init 83 = .ok (.putfield 43, 3) := by decide +kernel
theorem dX8_init_86 : decode cX8_init 86 = .ok (.aload_n 0, 1) := by decide +kernel
theorem dX8_init_87 : decode cX8_init 87 = .ok (.sipush 900, 3) := by decide +kernel
theorem dX8_init_90 : decode cX8_init 90 = .ok (.newarray .int, 2) := by decide +kernel
theorem dX8_init_92 : decode cX8_init 92 = .ok (.putfield 46, 3) := by decide +kernel
theorem dX8_init_95 : decode cX8_init 95 = .ok (.aload_n 0, 1) := by decide +kernel
theorem dX8_init_96 : decode cX8_init 96 = .ok (.bipush 24, 2) := by decide +kernel
theorem dX8_init_98 : decode cX8_init 98 = .ok (.newarray .long, 2) := by decide +kernel
theorem dX8_init_100 : decode cX8_init 100 = .ok (.putfield 49, 3) := by decide +kernel
theorem dX8_init_103 : decode cX8_init 103 = .ok (.aload_n 0, 1) := by decide +kernel
theorem dX8_init_104 : decode cX8_init 104 = .ok (.bipush 6, 2) := by decide +kernel
theorem dX8_init_106 : decode cX8_init 106 = .ok (.newarray .int, 2) := by decide +kernel
theorem dX8_init_108 : decode cX8_init 108 = .ok (.putfield 52, 3) := by decide +kernel
theorem dX8_init_111 : decode cX8_init 111 = .ok (.aload_n 0, 1) := by decide +kernel
theorem dX8_init_112 : decode cX8_init 112 = .ok (.bipush 30, 2) := by decide +kernel
theorem dX8_init_114 : decode cX8_init 114 = .ok (.newarray .int, 2) := by decide +kernel
theorem dX8_init_116 : decode cX8_init 116 = .ok (.putfield 55, 3) := by decide +kernel
theorem dX8_init_119 : decode cX8_init 119 = .ok (.aload_n 0, 1) := by decide +kernel
theorem dX8_init_120 : decode cX8_init 120 = .ok (.bipush 30, 2) := by decide +kernel
theorem dX8_init_122 : decode cX8_init 122 = .ok (.newarray .boolean, 2) := by decide +kernel
theorem dX8_init_124 : decode cX8_init 124 = .ok (.putfield 58, 3) := by decide +kernel
theorem dX8_init_127 : decode cX8_init 127 = .ok (.aload_n 0, 1) := by decide +kernel
theorem dX8_init_128 : decode cX8_init 128 = .ok (.bipush 30, 2) := by decide +kernel
theorem dX8_init_130 : decode cX8_init 130 = .ok (.newarray .boolean, 2) := by decide +kernel
theorem dX8_init_132 : decode cX8_init 132 = .ok (.putfield 61, 3) := by decide +kernel
theorem dX8_init_135 : decode cX8_init 135 = .ok (.aload_n 0, 1) := by decide +kernel
theorem dX8_init_136 : decode cX8_init 136 = .ok (.bipush 30, 2) := by decide +kernel
theorem dX8_init_138 : decode cX8_init 138 = .ok (.newarray .int, 2) := by decide +kernel
theorem dX8_init_140 : decode cX8_init 140 = .ok (.putfield 64, 3) := by decide +kernel
theorem dX8_init_143 : decode cX8_init 143 = .ok (.aload_n 0, 1) := by decide +kernel
theorem dX8_init_144 : decode cX8_init 144 = .ok (.bipush 30, 2) := by decide +kernel
theorem dX8_init_146 : decode cX8_init 146 = .ok (.newarray .long, 2) := by decide +kernel
theorem dX8_init_148 : decode cX8_init 148 = .ok (.putfield 67, 3) := by decide +kernel
theorem dX8_init_151 : decode cX8_init 151 = .ok (.aload_n 0, 1) := by decide +kernel
theorem dX8_init_152 : decode cX8_init 152 = .ok (.bipush 120, 2) := by decide +kernel
theorem dX8_init_154 : decode cX8_init 154 = .ok (.newarray .long, 2) := by decide +kernel
theorem dX8_init_156 : decode cX8_init 156 = .ok (.putfield 70, 3) := by decide +kernel
theorem dX8_init_159 : decode cX8_init 159 = .ok (.aload_n 0, 1) := by decide +kernel
theorem dX8_init_160 : decode cX8_init 160 = .ok (.sipush 900, 3) := by decide +kernel
theorem dX8_init_163 : decode cX8_init 163 = .ok (.newarray .long, 2) := by decide +kernel
theorem dX8_init_165 : decode cX8_init 165 = .ok (.putfield 73, 3) := by decide +kernel
theorem dX8_init_168 : decode cX8_init 168 = .ok (.aload_n 0, 1) := by decide +kernel
theorem dX8_init_169 : decode cX8_init 169 = .ok (.sipush 900, 3) := by decide +kernel
theorem dX8_init_172 : decode cX8_init 172 = .ok (.newarray .long, 2) := by decide +kernel
theorem dX8_init_174 : decode cX8_init 174 = .ok (.putfield 76, 3) := by decide +kernel
theorem dX8_init_177 : decode cX8_init 177 = .ok (.aload_n 0, 1) := by decide +kernel
theorem dX8_init_178 : decode cX8_init 178 = .ok (.sipush 900, 3) := by decide +kernel
theorem dX8_init_181 : decode cX8_init 181 = .ok (.newarray .long, 2) := by decide +kernel
theorem dX8_init_183 : decode cX8_init 183 = .ok (.putfield 79, 3) := by decide +kernel
theorem dX8_init_186 : decode cX8_init 186 = .ok (.return_, 1) := by decide +kernel
theorem dX8_within_0 : decode cX8_within 0 = .ok (.iload_n 0, 1) := by decide +kernel
theorem dX8_within_1 : decode cX8_within 1 = .ok (.iload_n 1, 1) := by decide +kernel
theorem dX8_within_2 : decode cX8_within 2 = .ok (.if_icmp .lt 12, 3) := by decide +kernel
theorem dX8_within_5 : decode cX8_within 5 = .ok (.iload_n 0, 1) := by decide +kernel
theorem dX8_within_6 : decode cX8_within 6 = .ok (.iload_n 2, 1) := by decide +kernel
theorem dX8_within_7 : decode cX8_within 7 = .ok (.if_icmp .gt 7, 3) := by decide +kernel
theorem dX8_within_10 : decode cX8_within 10 = .ok (.iconst 1, 1) := by decide +kernel
theorem dX8_within_11 : decode cX8_within 11 = .ok (.goto 4, 3) := by decide +kernel
theorem dX8_within_14 : decode cX8_within 14 = .ok (.iconst 0, 1) := by decide +kernel
theorem dX8_within_15 : decode cX8_within 15 = .ok (.ireturn, 1) := by decide +kernel
theorem dX8_isRow_0 : decode cX8_isRow 0 = .ok (.iload_n 1, 1) := by decide +kernel
theorem dX8_isRow_1 : decode cX8_isRow 1 = .ok (.iconst 0, 1) := by decide +kernel
theorem dX8_isRow_2 : decode cX8_isRow 2 = .ok (.aload_n 0, 1) := by decide +kernel
theorem dX8_isRow_3 : decode cX8_isRow 3 = .ok (.getfield 82, 3) := by decide +kernel
theorem dX8_isRow_6 : decode cX8_isRow 6 = .ok (.iconst 1, 1) := by decide +kernel
theorem dX8_isRow_7 : decode cX8_isRow 7 = .ok (.isub, 1) := by decide +kernel
theorem dX8_isRow_8 : decode cX8_isRow 8 = .ok (.invokestatic 85, 3) := by decide +kernel
theorem dX8_isRow_11 : decode cX8_isRow 11 = .ok (.ireturn, 1) := by decide +kernel
theorem dX8_common_0 : decode cX8_common 0 = .ok (.lload_n 0, 1) := by decide +kernel
theorem dX8_common_1 : decode cX8_common 1 = .ok (.lconst 0, 1) := by decide +kernel
theorem dX8_common_2 : decode cX8_common 2 = .ok (.lcmp, 1) := by decide +kernel
theorem dX8_common_3 : decode cX8_common 3 = .ok (.ifCond .ge 9, 3) := by decide +kernel
theorem dX8_common_6 : decode cX8_common 6 = .ok (.lconst 0, 1) := by decide +kernel
theorem dX8_common_7 : decode cX8_common 7 = .ok (.lload_n 0, 1) := by decide +kernel
theorem dX8_common_8 : decode cX8_common 8 = .ok (.lsub, 1) := by decide +kernel
theorem dX8_common_9 : decode cX8_common 9 = .ok (.goto 4, 3) := by decide +kernel
theorem dX8_common_12 : decode cX8_common 12 = .ok (.lload_n 0, 1) := by decide +kernel
theorem dX8_common_13 : decode cX8_common 13 = .ok (.lstore 4, 2) := by decide +kernel
theorem dX8_common_15 : decode cX8_common 15 = .ok (.lload_n 2, 1) := by decide +kernel
theorem dX8_common_16 : decode cX8_common 16 = .ok (.lconst 0, 1) := by decide +kernel
theorem dX8_common_17 : decode cX8_common 17 = .ok (.lcmp, 1) := by decide +kernel
theorem dX8_common_18 : decode cX8_common 18 = .ok (.ifCond .ge 9, 3) := by decide +kernel
theorem dX8_common_21 : decode cX8_common 21 = .ok (.lconst 0, 1) := by decide +kernel
theorem dX8_common_22 : decode cX8_common 22 = .ok (.lload_n 2, 1) := by decide +kernel
theorem dX8_common_23 : decode cX8_common 23 = .ok (.lsub, 1) := by decide +kernel
theorem dX8_common_24 : decode cX8_common 24 = .ok (.goto 4, 3) := by decide +kernel
theorem dX8_common_27 : decode cX8_common 27 = .ok (.lload_n 2, 1) := by decide +kernel
theorem dX8_common_28 : decode cX8_common 28 = .ok (.lstore 6, 2) := by decide +kernel
theorem dX8_common_30 : decode cX8_common 30 = .ok (.lload 6, 2) := by decide +kernel
theorem dX8_common_32 : decode cX8_common 32 = .ok (.lconst 0, 1) := by decide +kernel
theorem dX8_common_33 : decode cX8_common 33 = .ok (.lcmp, 1) := by decide +kernel
theorem dX8_common_34 : decode cX8_common 34 = .ok (.ifCond .eq 21, 3) := by decide +kernel
theorem dX8_common_37 : decode cX8_common 37 = .ok (.lload 4, 2) := by decide +kernel
theorem dX8_common_39 : decode cX8_common 39 = .ok (.lload 6, 2) := by decide +kernel
theorem dX8_common_41 : decode cX8_common 41 = .ok (.lrem, 1) := by decide +kernel
theorem dX8_common_42 : decode cX8_common 42 = .ok (.lstore 8, 2) := by decide +kernel
theorem dX8_common_44 : decode cX8_common 44 = .ok (.lload 6, 2) := by decide +kernel
theorem dX8_common_46 : decode cX8_common 46 = .ok (.lstore 4, 2) := by decide +kernel
theorem dX8_common_48 : decode cX8_common 48 = .ok (.lload 8, 2) := by decide +kernel
theorem dX8_common_50 : decode cX8_common 50 = .ok (.lstore 6, 2) := by decide +kernel
theorem dX8_common_52 : decode cX8_common 52 = .ok (.goto (-22), 3) := by decide +kernel
theorem dX8_common_55 : decode cX8_common 55 = .ok (.lload 4, 2) := by decide +kernel
theorem dX8_common_57 : decode cX8_common 57 = .ok (.lreturn, 1) := by decide +kernel
theorem dX8_forget_0 : decode cX8_forget 0 = .ok (.aload_n 0, 1) := by decide +kernel
theorem dX8_forget_1 : decode cX8_forget 1 = .ok (.getfield 17, 3) := by decide +kernel
theorem dX8_forget_4 : decode cX8_forget 4 = .ok (.iconst 0, 1) := by decide +kernel
theorem dX8_forget_5 : decode cX8_forget 5 = .ok (.iconst 0, 1) := by decide +kernel
theorem dX8_forget_6 : decode cX8_forget 6 = .ok (.bastore, 1) := by decide +kernel
theorem dX8_forget_7 : decode cX8_forget 7 = .ok (.aload_n 0, 1) := by decide +kernel
theorem dX8_forget_8 : decode cX8_forget 8 = .ok (.getfield 17, 3) := by decide +kernel
theorem dX8_forget_11 : decode cX8_forget 11 = .ok (.iconst 1, 1) := by decide +kernel
theorem dX8_forget_12 : decode cX8_forget 12 = .ok (.iconst 0, 1) := by decide +kernel
theorem dX8_forget_13 : decode cX8_forget 13 = .ok (.bastore, 1) := by decide +kernel
theorem dX8_forget_14 : decode cX8_forget 14 = .ok (.aload_n 0, 1) := by decide +kernel
theorem dX8_forget_15 : decode cX8_forget 15 = .ok (.iconst 0, 1) := by decide +kernel
theorem dX8_forget_16 : decode cX8_forget 16 = .ok (.putfield 89, 3) := by decide +kernel
theorem dX8_forget_19 : decode cX8_forget 19 = .ok (.aload_n 0, 1) := by decide +kernel
theorem dX8_forget_20 : decode cX8_forget 20 = .ok (.iconst 0, 1) := by decide +kernel
theorem dX8_forget_21 : decode cX8_forget 21 = .ok (.putfield 92, 3) := by decide +kernel
theorem dX8_forget_24 : decode cX8_forget 24 = .ok (.return_, 1) := by decide +kernel
theorem dX8_columns_0 : decode cX8_columns 0 = .ok (.iload_n 1, 1) := by decide +kernel
theorem dX8_columns_1 : decode cX8_columns 1 = .ok (.iconst 1, 1) := by decide +kernel
theorem dX8_columns_2 : decode cX8_columns 2 = .ok (.iconst 4, 1) := by decide +kernel
theorem dX8_columns_3 : decode cX8_columns 3 = .ok (.invokestatic 85, 3) := by decide +kernel
theorem dX8_columns_6 : decode cX8_columns 6 = .ok (.ifCond .ne 6, 3) := by decide +kernel
theorem dX8_columns_9 : decode cX8_columns 9 = .ok (.ldc 96, 2) := by decide +kernel
theorem dX8_columns_11 : decode cX8_columns 11 = .ok (.ireturn, 1) := by decide +kernel
theorem dX8_columns_12 : decode cX8_columns 12 = .ok (.aload_n 0, 1) := by decide +kernel
theorem dX8_columns_13 : decode cX8_columns 13 = .ok (.getfield 82, 3) := by decide +kernel
theorem dX8_columns_16 : decode cX8_columns 16 = .ok (.ifCond .le 6, 3) := by decide +kernel
theorem dX8_columns_19 : decode cX8_columns 19 = .ok (.ldc 97, 2) := by decide +kernel
theorem dX8_columns_21 : decode cX8_columns 21 = .ok (.ireturn, 1) := by decide +kernel
theorem dX8_columns_22 : decode cX8_columns 22 = .ok (.aload_n 0, 1) := by decide +kernel
theorem dX8_columns_23 : decode cX8_columns 23 = .ok (.iload_n 1, 1) := by decide +kernel
theorem dX8_columns_24 : decode cX8_columns 24 = .ok (.putfield 7, 3) := by decide +kernel
theorem dX8_columns_27 : decode cX8_columns 27 = .ok (.iconst 1, 1) := by decide +kernel
theorem dX8_columns_28 : decode cX8_columns 28 = .ok (.ireturn, 1) := by decide +kernel
theorem dX8_row_0 : decode cX8_row 0 = .ok (.iload_n 1, 1) := by decide +kernel
theorem dX8_row_1 : decode cX8_row 1 = .ok (.sipush (-1000), 3) := by decide +kernel
theorem dX8_row_4 : decode cX8_row 4 = .ok (.sipush 1000, 3) := by decide +kernel
theorem dX8_row_7 : decode cX8_row 7 = .ok (.invokestatic 85, 3) := by decide +kernel
theorem dX8_row_10 : decode cX8_row 10 = .ok (.ifCond .eq 71, 3) := by decide +kernel
theorem dX8_row_13 : decode cX8_row 13 = .ok (.aload_n 0, 1) := by decide +kernel
theorem dX8_row_14 : decode cX8_row 14 = .ok (.getfield 7, 3) := by decide +kernel
theorem dX8_row_17 : decode cX8_row 17 = .ok (.iconst 2, 1) := by decide +kernel
theorem dX8_row_18 : decode cX8_row 18 = .ok (.if_icmp .lt 16, 3) := by decide +kernel
theorem dX8_row_21 : decode cX8_row 21 = .ok (.iload_n 2, 1) := by decide +kernel
theorem dX8_row_22 : decode cX8_row 22 = .ok (.sipush (-1000), 3) := by decide +kernel
theorem dX8_row_25 : decode cX8_row 25 = .ok (.sipush 1000, 3) := by decide +kernel
theorem dX8_row_28 : decode cX8_row 28 = .ok (.invokestatic 85, 3) := by decide +kernel
theorem dX8_row_31 : decode cX8_row 31 = .ok (.ifCond .eq 50, 3) := by decide +kernel
theorem dX8_row_34 : decode cX8_row 34 = .ok (.aload_n 0, 1) := by decide +kernel
theorem dX8_row_35 : decode cX8_row 35 = .ok (.getfield 7, 3) := by decide +kernel
theorem dX8_row_38 : decode cX8_row 38 = .ok (.iconst 3, 1) := by decide +kernel
theorem dX8_row_39 : decode cX8_row 39 = .ok (.if_icmp .lt 16, 3) := by decide +kernel
theorem dX8_row_42 : decode cX8_row 42 = .ok (.iload_n 3, 1) := by decide +kernel
theorem dX8_row_43 : decode cX8_row 43 = .ok (.sipush (-1000), 3) := by decide +kernel
theorem dX8_row_46 : decode cX8_row 46 = .ok (.sipush 1000, 3) := by decide +kernel
theorem dX8_row_49 : decode cX8_row 49 = .ok (.invokestatic 85, 3) := by decide +kernel
theorem dX8_row_52 : decode cX8_row 52 = .ok (.ifCond .eq 29, 3) := by decide +kernel
theorem dX8_row_55 : decode cX8_row 55 = .ok (.aload_n 0, 1) := by decide +kernel
theorem dX8_row_56 : decode cX8_row 56 = .ok (.getfield 7, 3) := by decide +kernel
theorem dX8_row_59 : decode cX8_row 59 = .ok (.iconst 4, 1) := by decide +kernel
theorem dX8_row_60 : decode cX8_row 60 = .ok (.if_icmp .lt 17, 3) := by decide +kernel
theorem dX8_row_63 : decode cX8_row 63 = .ok (.iload 4, 2) := by decide +kernel
theorem dX8_row_65 : decode cX8_row 65 = .ok (.sipush (-1000), 3) := by decide +kernel
theorem dX8_row_68 : decode cX8_row 68 = .ok (.sipush 1000, 3) := by decide +kernel
theorem dX8_row_71 : decode cX8_row 71 = .ok (.invokestatic 85, 3) := by decide +kernel
theorem dX8_row_74 : decode cX8_row 74 = .ok (.ifCond .eq 7, 3) := by decide +kernel
theorem dX8_row_77 : decode cX8_row 77 = .ok (.iconst 1, 1) := by decide +kernel
theorem dX8_row_78 : decode cX8_row 78 = .ok (.goto 4, 3) := by decide +kernel
theorem dX8_row_81 : decode cX8_row 81 = .ok (.iconst 0, 1) := by decide +kernel
theorem dX8_row_82 : decode cX8_row 82 = .ok (.istore 5, 2) := by decide +kernel
theorem dX8_row_84 : decode cX8_row 84 = .ok (.iload 5, 2) := by decide +kernel
theorem dX8_row_86 : decode cX8_row 86 = .ok (.ifCond .ne 6, 3) := by decide +kernel
theorem dX8_row_89 : decode cX8_row 89 = .ok (.ldc 96, 2) := by decide +kernel
theorem dX8_row_91 : decode cX8_row 91 = .ok (.ireturn, 1) := by decide +kernel
theorem dX8_row_92 : decode cX8_row 92 = .ok (.aload_n 0, 1) := by decide +kernel
theorem dX8_row_93 : decode cX8_row 93 = .ok (.getfield 82, 3) := by decide +kernel
theorem dX8_row_96 : decode cX8_row 96 = .ok (.bipush 30, 2) := by decide +kernel
theorem dX8_row_98 : decode cX8_row 98 = .ok (.if_icmp .ne 6, 3) := by decide +kernel
theorem dX8_row_101 : decode cX8_row 101 = .ok (.ldc 98, 2) := by decide +kernel
theorem dX8_row_103 : decode cX8_row 103 = .ok (.ireturn, 1) := by decide +kernel
theorem dX8_row_104 : decode cX8_row 104 = .ok (.aload_n 0, 1) := by decide +kernel
theorem dX8_row_105 : decode cX8_row 105 = .ok (.getfield 13, 3) := by decide +kernel
theorem dX8_row_108 : decode cX8_row 108 = .ok (.iconst 4, 1) := by decide +kernel
theorem dX8_row_109 : decode cX8_row 109 = .ok (.aload_n 0, 1) := by decide +kernel
theorem dX8_row_110 : decode cX8_row 110 = .ok (.getfield 82, 3) := by decide +kernel
theorem dX8_row_113 : decode cX8_row 113 = .ok (.imul, 1) := by decide +kernel
theorem dX8_row_114 : decode cX8_row 114 = .ok (.iload_n 1, 1) := by decide +kernel
theorem dX8_row_115 : decode cX8_row 115 = .ok (.iastore, 1) := by decide +kernel
theorem dX8_row_116 : decode cX8_row 116 = .ok (.aload_n 0, 1) := by decide +kernel
theorem dX8_row_117 : decode cX8_row 117 = .ok (.getfield 13, 3) := by decide +kernel
theorem dX8_row_120 : decode cX8_row 120 = .ok (.iconst 4, 1) := by decide +kernel
theorem dX8_row_121 : decode cX8_row 121 = .ok (.aload_n 0, 1) := by decide +kernel
theorem dX8_row_122 : decode cX8_row 122 = .ok (.getfield 82, 3) := by decide +kernel
theorem dX8_row_125 : decode cX8_row 125 = .ok (.imul, 1) := by decide +kernel
theorem dX8_row_126 : decode cX8_row 126 = .ok (.iconst 1, 1) := by decide +kernel
theorem dX8_row_127 : decode cX8_row 127 = .ok (.iadd, 1) := by decide +kernel
theorem dX8_row_128 : decode cX8_row 128 = .ok (.iload_n 2, 1) := by decide +kernel
theorem dX8_row_129 : decode cX8_row 129 = .ok (.iastore, 1) := by decide +kernel
theorem dX8_row_130 : decode cX8_row 130 = .ok (.aload_n 0, 1) := by decide +kernel
theorem dX8_row_131 : decode cX8_row 131 = .ok (.getfield 13, 3) := by decide +kernel
theorem dX8_row_134 : decode cX8_row 134 = .ok (.iconst 4, 1) := by decide +kernel
theorem dX8_row_135 : decode cX8_row 135 = .ok (.aload_n 0, 1) := by decide +kernel
theorem dX8_row_136 : decode cX8_row 136 = .ok (.getfield 82, 3) := by decide +kernel
theorem dX8_row_139 : decode cX8_row 139 = .ok (.imul, 1) := by decide +kernel
theorem dX8_row_140 : decode cX8_row 140 = .ok (.iconst 2, 1) := by decide +kernel
theorem dX8_row_141 : decode cX8_row 141 = .ok (.iadd, 1) := by decide +kernel
theorem dX8_row_142 : decode cX8_row 142 = .ok (.iload_n 3, 1) := by decide +kernel
theorem dX8_row_143 : decode cX8_row 143 = .ok (.iastore, 1) := by decide +kernel
theorem dX8_row_144 : decode cX8_row 144 = .ok (.aload_n 0, 1) := by decide +kernel
theorem dX8_row_145 : decode cX8_row 145 = .ok (.getfield 13, 3) := by decide +kernel
theorem dX8_row_148 : decode cX8_row 148 = .ok (.iconst 4, 1) := by decide +kernel
theorem dX8_row_149 : decode cX8_row 149 = .ok (.aload_n 0, 1) := by decide +kernel
theorem dX8_row_150 : decode cX8_row 150 = .ok (.getfield 82, 3) := by decide +kernel
theorem dX8_row_153 : decode cX8_row 153 = .ok (.imul, 1) := by decide +kernel
theorem dX8_row_154 : decode cX8_row 154 = .ok (.iconst 3, 1) := by decide +kernel
theorem dX8_row_155 : decode cX8_row 155 = .ok (.iadd, 1) := by decide +kernel
theorem dX8_row_156 : decode cX8_row 156 = .ok (.iload 4, 2) := by decide +kernel
theorem dX8_row_158 : decode cX8_row 158 = .ok (.iastore, 1) := by decide +kernel
theorem dX8_row_159 : decode cX8_row 159 = .ok (.aload_n 0, 1) := by decide +kernel
theorem dX8_row_160 : decode cX8_row 160 = .ok (.dup, 1) := by decide +kernel
theorem dX8_row_161 : decode cX8_row 161 = .ok (.getfield 82, 3) := by decide +kernel
theorem dX8_row_164 : decode cX8_row 164 = .ok (.iconst 1, 1) := by decide +kernel
theorem dX8_row_165 : decode cX8_row 165 = .ok (.iadd, 1) := by decide +kernel
theorem dX8_row_166 : decode cX8_row 166 = .ok (.putfield 82, 3) := by decide +kernel
theorem dX8_row_169 : decode cX8_row 169 = .ok (.aload_n 0, 1) := by decide +kernel
theorem dX8_row_170 : decode cX8_row 170 = .ok (.invokevirtual 99, 3) := by decide +kernel
theorem dX8_row_173 : decode cX8_row 173 = .ok (.aload_n 0, 1) := by decide +kernel
theorem dX8_row_174 : decode cX8_row 174 = .ok (.getfield 82, 3) := by decide +kernel
theorem dX8_row_177 : decode cX8_row 177 = .ok (.iconst 1, 1) := by decide +kernel
theorem dX8_row_178 : decode cX8_row 178 = .ok (.isub, 1) := by decide +kernel
theorem dX8_row_179 : decode cX8_row 179 = .ok (.ireturn, 1) := by decide +kernel
theorem dX8_clear_0 : decode cX8_clear 0 = .ok (.aload_n 0, 1) := by decide +kernel
theorem dX8_clear_1 : decode cX8_clear 1 = .ok (.getfield 82, 3) := by decide +kernel
theorem dX8_clear_4 : decode cX8_clear 4 = .ok (.istore_n 1, 1) := by decide +kernel
theorem dX8_clear_5 : decode cX8_clear 5 = .ok (.aload_n 0, 1) := by decide +kernel
theorem dX8_clear_6 : decode cX8_clear 6 = .ok (.iconst 0, 1) := by decide +kernel
theorem dX8_clear_7 : decode cX8_clear 7 = .ok (.putfield 82, 3) := by decide +kernel
theorem dX8_clear_10 : decode cX8_clear 10 = .ok (.aload_n 0, 1) := by decide +kernel
theorem dX8_clear_11 : decode cX8_clear 11 = .ok (.invokevirtual 99, 3) := by decide +kernel
theorem dX8_clear_14 : decode cX8_clear 14 = .ok (.iload_n 1, 1) := by decide +kernel
theorem dX8_clear_15 : decode cX8_clear 15 = .ok (.ireturn, 1) := by decide +kernel
theorem dX8_count_0 : decode cX8_count 0 = .ok (.iload_n 1, 1) := by decide +kernel
theorem dX8_count_1 : decode cX8_count 1 = .ok (.tableswitch 65 0 3 #[31, 36, 41, 41], 31) := by decide +kernel
theorem dX8_count_32 : decode cX8_count 32 = .ok (.aload_n 0, 1) := by decide +kernel
theorem dX8_count_33 : decode cX8_count 33 = .ok (.getfield 82, 3) := by decide +kernel
theorem dX8_count_36 : decode cX8_count 36 = .ok (.ireturn, 1) := by decide +kernel
theorem dX8_count_37 : decode cX8_count 37 = .ok (.aload_n 0, 1) := by decide +kernel
theorem dX8_count_38 : decode cX8_count 38 = .ok (.getfield 7, 3) := by decide +kernel
theorem dX8_count_41 : decode cX8_count 41 = .ok (.ireturn, 1) := by decide +kernel
theorem dX8_count_42 : decode cX8_count 42 = .ok (.aload_n 0, 1) := by decide +kernel
theorem dX8_count_43 : decode cX8_count 43 = .ok (.getfield 17, 3) := by decide +kernel
theorem dX8_count_46 : decode cX8_count 46 = .ok (.iload_n 1, 1) := by decide +kernel
theorem dX8_count_47 : decode cX8_count 47 = .ok (.iconst 2, 1) := by decide +kernel
theorem dX8_count_48 : decode cX8_count 48 = .ok (.isub, 1) := by decide +kernel
theorem dX8_count_49 : decode cX8_count 49 = .ok (.baload, 1) := by decide +kernel
theorem dX8_count_50 : decode cX8_count 50 = .ok (.ifCond .eq 14, 3) := by decide +kernel
theorem dX8_count_53 : decode cX8_count 53 = .ok (.aload_n 0, 1) := by decide +kernel
theorem dX8_count_54 : decode cX8_count 54 = .ok (.getfield 21, 3) := by decide +kernel
theorem dX8_count_57 : decode cX8_count 57 = .ok (.iload_n 1, 1) := by decide +kernel
theorem dX8_count_58 : decode cX8_count 58 = .ok (.iconst 2, 1) := by decide +kernel
theorem dX8_count_59 : decode cX8_count 59 = .ok (.isub, 1) := by decide +kernel
theorem dX8_count_60 : decode cX8_count 60 = .ok (.iaload, 1) := by decide +kernel
theorem dX8_count_61 : decode cX8_count 61 = .ok (.goto 4, 3) := by decide +kernel
theorem dX8_count_64 : decode cX8_count 64 = .ok (.iconst (-1), 1) := by decide +kernel
theorem dX8_count_65 : decode cX8_count 65 = .ok (.ireturn, 1) := by decide +kernel
theorem dX8_count_66 : decode cX8_count 66 = .ok (.iload_n 1, 1) := by decide +kernel
theorem dX8_count_67 : decode cX8_count 67 = .ok (.iconst 4, 1) := by decide +kernel
theorem dX8_count_68 : decode cX8_count 68 = .ok (.if_icmp .eq 8, 3) := by decide +kernel
theorem dX8_count_71 : decode cX8_count 71 = .ok (.ldc 96, 2) := by decide +kernel
theorem dX8_count_73 : decode cX8_count 73 = .ok (.goto 18, 3) := by decide +kernel
theorem dX8_count_76 : decode cX8_count 76 = .ok (.aload_n 0, 1) := by decide +kernel
theorem dX8_count_77 : decode cX8_count 77 = .ok (.getfield 92, 3) := by decide +kernel
theorem dX8_count_80 : decode cX8_count 80 = .ok (.ifCond .eq 10, 3) := by decide +kernel
theorem dX8_count_83 : decode cX8_count 83 = .ok (.aload_n 0, 1) := by decide +kernel
theorem dX8_count_84 : decode cX8_count 84 = .ok (.getfield 102, 3) := by decide +kernel
theorem dX8_count_87 : decode cX8_count 87 = .ok (.goto 4, 3) := by decide +kernel
theorem dX8_count_90 : decode cX8_count 90 = .ok (.iconst (-1), 1) := by decide +kernel
theorem dX8_count_91 : decode cX8_count 91 = .ok (.ireturn, 1) := by decide +kernel
theorem dX8_apart_0 : decode cX8_apart 0 = .ok (.iconst 0, 1) := by decide +kernel
theorem dX8_apart_1 : decode cX8_apart 1 = .ok (.istore 4, 2) := by decide +kernel
theorem dX8_apart_3 : decode cX8_apart 3 = .ok (.iconst 0, 1) := by decide +kernel
theorem dX8_apart_4 : decode cX8_apart 4 = .ok (.istore 5, 2) := by decide +kernel
theorem dX8_apart_6 : decode cX8_apart 6 = .ok (.iload 5, 2) := by decide +kernel
theorem dX8_apart_8 : decode cX8_apart 8 = .ok (.aload_n 0, 1) := by decide +kernel
theorem dX8_apart_9 : decode cX8_apart 9 = .ok (.getfield 7, 3) := by decide +kernel
theorem dX8_apart_12 : decode cX8_apart 12 = .ok (.if_icmp .ge 94, 3) := by decide +kernel
theorem dX8_apart_15 : decode cX8_apart 15 = .ok (.aload_n 0, 1) := by decide +kernel
theorem dX8_apart_16 : decode cX8_apart 16 = .ok (.getfield 13, 3) := by decide +kernel
theorem dX8_apart_19 : decode cX8_apart 19 = .ok (.iconst 4, 1) := by decide +kernel
theorem dX8_apart_20 : decode cX8_apart 20 = .ok (.iload_n 2, 1) := by decide +kernel
theorem dX8_apart_21 : decode cX8_apart 21 = .ok (.imul, 1) := by decide +kernel
theorem dX8_apart_22 : decode cX8_apart 22 = .ok (.iload 5, 2) := by decide +kernel
theorem dX8_apart_24 : decode cX8_apart 24 = .ok (.iadd, 1) := by decide +kernel
theorem dX8_apart_25 : decode cX8_apart 25 = .ok (.iaload, 1) := by decide +kernel
theorem dX8_apart_26 : decode cX8_apart 26 = .ok (.aload_n 0, 1) := by decide +kernel
theorem dX8_apart_27 : decode cX8_apart 27 = .ok (.getfield 13, 3) := by decide +kernel
theorem dX8_apart_30 : decode cX8_apart 30 = .ok (.iconst 4, 1) := by decide +kernel
theorem dX8_apart_31 : decode cX8_apart 31 = .ok (.iload_n 3, 1) := by decide +kernel
theorem dX8_apart_32 : decode cX8_apart 32 = .ok (.imul, 1) := by decide +kernel
theorem dX8_apart_33 : decode cX8_apart 33 = .ok (.iload 5, 2) := by decide +kernel
theorem dX8_apart_35 : decode cX8_apart 35 = .ok (.iadd, 1) := by decide +kernel
theorem dX8_apart_36 : decode cX8_apart 36 = .ok (.iaload, 1) := by decide +kernel
theorem dX8_apart_37 : decode cX8_apart 37 = .ok (.isub, 1) := by decide +kernel
theorem dX8_apart_38 : decode cX8_apart 38 = .ok (.istore 6, 2) := by decide +kernel
theorem dX8_apart_40 : decode cX8_apart 40 = .ok (.iload 6, 2) := by decide +kernel
theorem dX8_apart_42 : decode cX8_apart 42 = .ok (.ifCond .ge 10, 3) := by decide +kernel
theorem dX8_apart_45 : decode cX8_apart 45 = .ok (.iconst 0, 1) := by decide +kernel
theorem dX8_apart_46 : decode cX8_apart 46 = .ok (.iload 6, 2) := by decide +kernel
theorem dX8_apart_48 : decode cX8_apart 48 = .ok (.isub, 1) := by decide +kernel
theorem dX8_apart_49 : decode cX8_apart 49 = .ok (.goto 5, 3) := by decide +kernel
theorem dX8_apart_52 : decode cX8_apart 52 = .ok (.iload 6, 2) := by decide +kernel
theorem dX8_apart_54 : decode cX8_apart 54 = .ok (.istore 6, 2) := by decide +kernel
theorem dX8_apart_56 : decode cX8_apart 56 = .ok (.iload_n 1, 1) := by decide +kernel
theorem dX8_apart_57 : decode cX8_apart 57 = .ok (.ifCond .ne 14, 3) := by decide +kernel
theorem dX8_apart_60 : decode cX8_apart 60 = .ok (.iload 4, 2) := by decide +kernel
theorem dX8_apart_62 : decode cX8_apart 62 = .ok (.iload 6, 2) := by decide +kernel
theorem dX8_apart_64 : decode cX8_apart 64 = .ok (.iload 6, 2) := by decide +kernel
theorem dX8_apart_66 : decode cX8_apart 66 = .ok (.imul, 1) := by decide +kernel
theorem dX8_apart_67 : decode cX8_apart 67 = .ok (.iadd, 1) := by decide +kernel
theorem dX8_apart_68 : decode cX8_apart 68 = .ok (.goto 30, 3) := by decide +kernel
theorem dX8_apart_71 : decode cX8_apart 71 = .ok (.iload_n 1, 1) := by decide +kernel
theorem dX8_apart_72 : decode cX8_apart 72 = .ok (.iconst 1, 1) := by decide +kernel
theorem dX8_apart_73 : decode cX8_apart 73 = .ok (.if_icmp .ne 11, 3) := by decide +kernel
theorem dX8_apart_76 : decode cX8_apart 76 = .ok (.iload 4, 2) := by decide +kernel
theorem dX8_apart_78 : decode cX8_apart 78 = .ok (.iload 6, 2) := by decide +kernel
theorem dX8_apart_80 : decode cX8_apart 80 = .ok (.iadd, 1) := by decide +kernel
theorem dX8_apart_81 : decode cX8_apart 81 = .ok (.goto 17, 3) := by decide +kernel
theorem dX8_apart_84 : decode cX8_apart 84 = .ok (.iload 6, 2) := by decide +kernel
theorem dX8_apart_86 : decode cX8_apart 86 = .ok (.iload 4, 2) := by decide +kernel
theorem dX8_apart_88 : decode cX8_apart 88 = .ok (.if_icmp .le 8, 3) := by decide +kernel
theorem dX8_apart_91 : decode cX8_apart 91 = .ok (.iload 6, 2) := by decide +kernel
theorem dX8_apart_93 : decode cX8_apart 93 = .ok (.goto 5, 3) := by decide +kernel
theorem dX8_apart_96 : decode cX8_apart 96 = .ok (.iload 4, 2) := by decide +kernel
theorem dX8_apart_98 : decode cX8_apart 98 = .ok (.istore 4, 2) := by decide +kernel
theorem dX8_apart_100 : decode cX8_apart 100 = .ok (.iinc 5 1, 3) := by decide +kernel
theorem dX8_apart_103 : decode cX8_apart 103 = .ok (.goto (-97), 3) := by decide +kernel
theorem dX8_apart_106 : decode cX8_apart 106 = .ok (.iload 4, 2) := by decide +kernel
theorem dX8_apart_108 : decode cX8_apart 108 = .ok (.ireturn, 1) := by decide +kernel
theorem dX8_lay_0 : decode cX8_lay 0 = .ok (.iconst 0, 1) := by decide +kernel
theorem dX8_lay_1 : decode cX8_lay 1 = .ok (.istore_n 2, 1) := by decide +kernel
theorem dX8_lay_2 : decode cX8_lay 2 = .ok (.iload_n 2, 1) := by decide +kernel
theorem dX8_lay_3 : decode cX8_lay 3 = .ok (.aload_n 0, 1) := by decide +kernel
theorem dX8_lay_4 : decode cX8_lay 4 = .ok (.getfield 82, 3) := by decide +kernel
theorem dX8_lay_7 : decode cX8_lay 7 = .ok (.if_icmp .ge 43, 3) := by decide +kernel
theorem dX8_lay_10 : decode cX8_lay 10 = .ok (.iconst 0, 1) := by decide +kernel
theorem dX8_lay_11 : decode cX8_lay 11 = .ok (.istore_n 3, 1) := by decide +kernel
theorem dX8_lay_12 : decode cX8_lay 12 = .ok (.iload_n 3, 1) := by decide +kernel
theorem dX8_lay_13 : decode cX8_lay 13 = .ok (.aload_n 0, 1) := by decide +kernel
theorem dX8_lay_14 : decode cX8_lay 14 = .ok (.getfield 82, 3) := by decide +kernel
theorem dX8_lay_17 : decode cX8_lay 17 = .ok (.if_icmp .ge 27, 3) := by decide +kernel
theorem dX8_lay_20 : decode cX8_lay 20 = .ok (.aload_n 0, 1) := by decide +kernel
theorem dX8_lay_21 : decode cX8_lay 21 = .ok (.getfield 46, 3) := by decide +kernel
theorem dX8_lay_24 : decode cX8_lay 24 = .ok (.bipush 30, 2) := by decide +kernel
theorem dX8_lay_26 : decode cX8_lay 26 = .ok (.iload_n 2, 1) := by decide +kernel
theorem dX8_lay_27 : decode cX8_lay 27 = .ok (.imul, 1) := by decide +kernel
theorem dX8_lay_28 : decode cX8_lay 28 = .ok (.iload_n 3, 1) := by decide +kernel
theorem dX8_lay_29 : decode cX8_lay 29 = .ok (.iadd, 1) := by decide +kernel
theorem dX8_lay_30 : decode cX8_lay 30 = .ok (.aload_n 0, 1) := by decide +kernel
theorem dX8_lay_31 : decode cX8_lay 31 = .ok (.iload_n 1, 1) := by decide +kernel
theorem dX8_lay_32 : decode cX8_lay 32 = .ok (.iload_n 2, 1) := by decide +kernel
theorem dX8_lay_33 : decode cX8_lay 33 = .ok (.iload_n 3, 1) := by decide +kernel
theorem dX8_lay_34 : decode cX8_lay 34 = .ok (.invokevirtual 105, 3) := by decide +kernel
theorem dX8_lay_37 : decode cX8_lay 37 = .ok (.iastore, 1) := by decide +kernel
theorem dX8_lay_38 : decode cX8_lay 38 = .ok (.iinc 3 1, 3) := by decide +kernel
theorem dX8_lay_41 : decode cX8_lay 41 = .ok (.goto (-29), 3) := by decide +kernel
theorem dX8_lay_44 : decode cX8_lay 44 = .ok (.iinc 2 1, 3) := by decide +kernel
theorem dX8_lay_47 : decode cX8_lay 47 = .ok (.goto (-45), 3) := by decide +kernel
theorem dX8_lay_50 : decode cX8_lay 50 = .ok (.return_, 1) := by decide +kernel
theorem dX8_distance_0 : decode cX8_distance 0 = .ok (.aload_n 0, 1) := by decide +kernel
theorem dX8_distance_1 : decode cX8_distance 1 = .ok (.iload_n 2, 1) := by decide +kernel
theorem dX8_distance_2 : decode cX8_distance 2 = .ok (.invokevirtual 109, 3) := by decide +kernel
theorem dX8_distance_5 : decode cX8_distance 5 = .ok (.ifCond .eq 11, 3) := by decide +kernel
theorem dX8_distance_8 : decode cX8_distance 8 = .ok (.aload_n 0, 1) := by decide +kernel
theorem dX8_distance_9 : decode cX8_distance 9 = .ok (.iload_n 3, 1) := by decide +kernel
theorem dX8_distance_10 : decode cX8_distance 10 = .ok (.invokevirtual 109, 3) := by decide +kernel
theorem dX8_distance_13 : decode cX8_distance 13 = .ok (.ifCond .ne 6, 3) := by decide +kernel
theorem dX8_distance_16 : decode cX8_distance 16 = .ok (.ldc 113, 2) := by decide +kernel
theorem dX8_distance_18 : decode cX8_distance 18 = .ok (.ireturn, 1) := by decide +kernel
theorem dX8_distance_19 : decode cX8_distance 19 = .ok (.iload_n 1, 1) := by decide +kernel
theorem dX8_distance_20 : decode cX8_distance 20 = .ok (.iconst 0, 1) := by decide +kernel
theorem dX8_distance_21 : decode cX8_distance 21 = .ok (.iconst 2, 1) := by decide +kernel
theorem dX8_distance_22 : decode cX8_distance 22 = .ok (.invokestatic 85, 3) := by decide +kernel
theorem dX8_distance_25 : decode cX8_distance 25 = .ok (.ifCond .eq 13, 3) := by decide +kernel
theorem dX8_distance_28 : decode cX8_distance 28 = .ok (.aload_n 0, 1) := by decide +kernel
theorem dX8_distance_29 : decode cX8_distance 29 = .ok (.iload_n 1, 1) := by decide +kernel
theorem dX8_distance_30 : decode cX8_distance 30 = .ok (.iload_n 2, 1) := by decide +kernel
theorem dX8_distance_31 : decode cX8_distance 31 = .ok (.iload_n 3, 1) := by decide +kernel
theorem dX8_distance_32 : decode cX8_distance 32 = .ok (.invokevirtual 105, 3) := by decide +kernel
theorem dX8_distance_35 : decode cX8_distance 35 = .ok (.goto 5, 3) := by decide +kernel
theorem dX8_distance_38 : decode cX8_distance 38 = .ok (.ldc 96, 2) := by decide +kernel
theorem dX8_distance_40 : decode cX8_distance 40 = .ok (.ireturn, 1) := by decide +kernel
theorem dX8_near_0 : decode cX8_near 0 = .ok (.aload_n 0, 1) := by decide +kernel
theorem dX8_near_1 : decode cX8_near 1 = .ok (.iload_n 2, 1) := by decide +kernel
theorem dX8_near_2 : decode cX8_near 2 = .ok (.invokevirtual 109, 3) := by decide +kernel
theorem dX8_near_5 : decode cX8_near 5 = .ok (.ifCond .ne 6, 3) := by decide +kernel
theorem dX8_near_8 : decode cX8_near 8 = .ok (.ldc 113, 2) := by decide +kernel
theorem dX8_near_10 : decode cX8_near 10 = .ok (.ireturn, 1) := by decide +kernel
theorem dX8_near_11 : decode cX8_near 11 = .ok (.iload_n 1, 1) := by decide +kernel
theorem dX8_near_12 : decode cX8_near 12 = .ok (.iconst 0, 1) := by decide +kernel
theorem dX8_near_13 : decode cX8_near 13 = .ok (.iconst 2, 1) := by decide +kernel
theorem dX8_near_14 : decode cX8_near 14 = .ok (.invokestatic 85, 3) := by decide +kernel
theorem dX8_near_17 : decode cX8_near 17 = .ok (.ifCond .ne 6, 3) := by decide +kernel
theorem dX8_near_20 : decode cX8_near 20 = .ok (.ldc 96, 2) := by decide +kernel
theorem dX8_near_22 : decode cX8_near 22 = .ok (.ireturn, 1) := by decide +kernel
theorem dX8_near_23 : decode cX8_near 23 = .ok (.aload_n 0, 1) := by decide +kernel
theorem dX8_near_24 : decode cX8_near 24 = .ok (.iload_n 1, 1) := by decide +kernel
theorem dX8_near_25 : decode cX8_near 25 = .ok (.invokevirtual 114, 3) := by decide +kernel
theorem dX8_near_28 : decode cX8_near 28 = .ok (.iconst 0, 1) := by decide +kernel
theorem dX8_near_29 : decode cX8_near 29 = .ok (.istore 4, 2) := by decide +kernel
theorem dX8_near_31 : decode cX8_near 31 = .ok (.iload 4, 2) := by decide +kernel
theorem dX8_near_33 : decode cX8_near 33 = .ok (.aload_n 0, 1) := by decide +kernel
theorem dX8_near_34 : decode cX8_near 34 = .ok (.getfield 82, 3) := by decide +kernel
theorem dX8_near_37 : decode cX8_near 37 = .ok (.if_icmp .ge 105, 3) := by decide +kernel
theorem dX8_near_40 : decode cX8_near 40 = .ok (.iconst 0, 1) := by decide +kernel
theorem dX8_near_41 : decode cX8_near 41 = .ok (.istore 5, 2) := by decide +kernel
theorem dX8_near_43 : decode cX8_near 43 = .ok (.iconst 0, 1) := by decide +kernel
theorem dX8_near_44 : decode cX8_near 44 = .ok (.istore 6, 2) := by decide +kernel
theorem dX8_near_46 : decode cX8_near 46 = .ok (.iload 6, 2) := by decide +kernel
theorem dX8_near_48 : decode cX8_near 48 = .ok (.aload_n 0, 1) := by decide +kernel
theorem dX8_near_49 : decode cX8_near 49 = .ok (.getfield 82, 3) := by decide +kernel
theorem dX8_near_52 : decode cX8_near 52 = .ok (.if_icmp .ge 69, 3) := by decide +kernel
theorem dX8_near_55 : decode cX8_near 55 = .ok (.aload_n 0, 1) := by decide +kernel
theorem dX8_near_56 : decode cX8_near 56 = .ok (.getfield 46, 3) := by decide +kernel
theorem dX8_near_59 : decode cX8_near 59 = .ok (.bipush 30, 2) := by decide +kernel
theorem dX8_near_61 : decode cX8_near 61 = .ok (.iload_n 2, 1) := by decide +kernel
theorem dX8_near_62 : decode cX8_near 62 = .ok (.imul, 1) := by decide +kernel
theorem dX8_near_63 : decode cX8_near 63 = .ok (.iload 6, 2) := by decide +kernel
theorem dX8_near_65 : decode cX8_near 65 = .ok (.iadd, 1) := by decide +kernel
theorem dX8_near_66 : decode cX8_near 66 = .ok (.iaload, 1) := by decide +kernel
theorem dX8_near_67 : decode cX8_near 67 = .ok (.aload_n 0, 1) := by decide +kernel
theorem dX8_near_68 : decode cX8_near 68 = .ok (.getfield 46, 3) := by decide +kernel
theorem dX8_near_71 : decode cX8_near 71 = .ok (.bipush 30, 2) := by decide +kernel
theorem dX8_near_73 : decode cX8_near 73 = .ok (.iload_n 2, 1) := by decide +kernel
theorem dX8_near_74 : decode cX8_near 74 = .ok (.imul, 1) := by decide +kernel
theorem dX8_near_75 : decode cX8_near 75 = .ok (.iload 4, 2) := by decide +kernel
theorem dX8_near_77 : decode cX8_near 77 = .ok (.iadd, 1) := by decide +kernel
theorem dX8_near_78 : decode cX8_near 78 = .ok (.iaload, 1) := by decide +kernel
theorem dX8_near_79 : decode cX8_near 79 = .ok (.isub, 1) := by decide +kernel
theorem dX8_near_80 : decode cX8_near 80 = .ok (.istore 7, 2) := by decide +kernel
theorem dX8_near_82 : decode cX8_near 82 = .ok (.iload 5, 2) := by decide +kernel
theorem dX8_near_84 : decode cX8_near 84 = .ok (.iload 6, 2) := by decide +kernel
theorem dX8_near_86 : decode cX8_near 86 = .ok (.iload_n 2, 1) := by decide +kernel
theorem dX8_near_87 : decode cX8_near 87 = .ok (.if_icmp .eq 24, 3) := by decide +kernel
theorem dX8_near_90 : decode cX8_near 90 = .ok (.iload 7, 2) := by decide +kernel
theorem dX8_near_92 : decode cX8_near 92 = .ok (.ifCond .lt 15, 3) := by decide +kernel
theorem dX8_near_95 : decode cX8_near 95 = .ok (.iload 7, 2) := by decide +kernel
theorem dX8_near_97 : decode cX8_near 97 = .ok (.ifCond .ne 14, 3) := by decide +kernel
theorem dX8_near_100 : decode cX8_near 100 = .ok (.iload 6, 2) := by decide +kernel
theorem dX8_near_102 : decode cX8_near 102 = .ok (.iload 4, 2) := by decide +kernel
theorem dX8_near_104 : decode cX8_near 104 = .ok (.if_icmp .ge 7, 3) := by decide +kernel
theorem dX8_near_107 : decode cX8_near 107 = .ok (.iconst 1, 1) := by decide +kernel
theorem dX8_near_108 : decode cX8_near 108 = .ok (.goto 4, 3) := by decide +kernel
theorem dX8_near_111 : decode cX8_near 111 = .ok (.iconst 0, 1) := by decide +kernel
theorem dX8_near_112 : decode cX8_near 112 = .ok (.iadd, 1) := by decide +kernel
theorem dX8_near_113 : decode cX8_near 113 = .ok (.istore 5, 2) := by decide +kernel
theorem dX8_near_115 : decode cX8_near 115 = .ok (.iinc 6 1, 3) := by decide +kernel
theorem dX8_near_118 : decode cX8_near 118 = .ok (.goto (-72), 3) := by decide +kernel
theorem dX8_near_121 : decode cX8_near 121 = .ok (.iload 4, 2) := by decide +kernel
theorem dX8_near_123 : decode cX8_near 123 = .ok (.iload_n 2, 1) := by decide +kernel
theorem dX8_near_124 : decode cX8_near 124 = .ok (.if_icmp .eq 12, 3) := by decide +kernel
theorem dX8_near_127 : decode cX8_near 127 = .ok (.iload 5, 2) := by decide +kernel
theorem dX8_near_129 : decode cX8_near 129 = .ok (.iload_n 3, 1) := by decide +kernel
theorem dX8_near_130 : decode cX8_near 130 = .ok (.if_icmp .ne 6, 3) := by decide +kernel
theorem dX8_near_133 : decode cX8_near 133 = .ok (.iload 4, 2) := by decide +kernel
theorem dX8_near_135 : decode cX8_near 135 = .ok (.ireturn, 1) := by decide +kernel
theorem dX8_near_136 : decode cX8_near 136 = .ok (.iinc 4 1, 3) := by decide +kernel
theorem dX8_near_139 : decode cX8_near 139 = .ok (.goto (-108), 3) := by decide +kernel
theorem dX8_near_142 : decode cX8_near 142 = .ok (.iconst (-1), 1) := by decide +kernel
theorem dX8_near_143 : decode cX8_near 143 = .ok (.ireturn, 1) := by decide +kernel
theorem dX8_chooseFirst_0 : decode cX8_chooseFirst 0 = .ok (.iconst 0, 1) := by decide +kernel
theorem dX8_chooseFirst_1 : decode cX8_chooseFirst 1 = .ok (.istore_n 2, 1) := by decide +kernel
theorem dX8_chooseFirst_2 : decode cX8_chooseFirst 2 = .ok (.iload_n 2, 1) := by decide +kernel
theorem dX8_chooseFirst_3 : decode cX8_chooseFirst 3 = .ok (.aload_n 0, 1) := by decide +kernel
theorem dX8_chooseFirst_4 : decode cX8_chooseFirst 4 = .ok (.getfield 82, 3) := by decide +kernel
theorem dX8_chooseFirst_7 : decode cX8_chooseFirst 7 = .ok (.if_icmp .ge 16, 3) := by decide +kernel
theorem dX8_chooseFirst_10 : decode cX8_chooseFirst 10 = .ok (.aload_n 0, 1) := by decide +kernel
theorem dX8_chooseFirst_11 : decode cX8_chooseFirst 11 = .ok (.getfield 58, 3) := by decide +kernel
theorem dX8_chooseFirst_14 : decode cX8_chooseFirst 14 = .ok (.iload_n 2, 1) := by decide +kernel
theorem dX8_chooseFirst_15 : decode cX8_chooseFirst 15 = .ok (.iconst 0, 1) := by decide +kernel
theorem dX8_chooseFirst_16 : decode cX8_chooseFirst 16 = .ok (.bastore, 1) := by decide +kernel
theorem dX8_chooseFirst_17 : decode cX8_chooseFirst 17 = .ok (.iinc 2 1, 3) := by decide +kernel
theorem dX8_chooseFirst_20 : decode cX8_chooseFirst 20 = .ok (.goto (-18), 3) := by decide +kernel
theorem dX8_chooseFirst_23 : decode cX8_chooseFirst 23 = .ok (.iconst 0, 1) := by decide +kernel
theorem dX8_chooseFirst_24 : decode cX8_chooseFirst 24 = .ok (.istore_n 2, 1) := by decide +kernel
theorem dX8_chooseFirst_25 : decode cX8_chooseFirst 25 = .ok (.iconst 0, 1) := by decide +kernel
theorem dX8_chooseFirst_26 : decode cX8_chooseFirst 26 = .ok (.istore_n 3, 1) := by decide +kernel
theorem dX8_chooseFirst_27 : decode cX8_chooseFirst 27 = .ok (.iload_n 3, 1) := by decide +kernel
theorem dX8_chooseFirst_28 : decode cX8_chooseFirst 28 = .ok (.iload_n 1, 1) := by decide +kernel
theorem dX8_chooseFirst_29 : decode cX8_chooseFirst 29 = .ok (.if_icmp .ge 69, 3) := by decide +kernel
theorem dX8_chooseFirst_32 : decode cX8_chooseFirst 32 = .ok (.aload_n 0, 1) := by decide +kernel
theorem dX8_chooseFirst_33 : decode cX8_chooseFirst 33 = .ok (.getfield 58, 3) := by decide +kernel
theorem dX8_chooseFirst_36 : decode cX8_chooseFirst 36 = .ok (.iload_n 2, 1) := by decide +kernel
theorem dX8_chooseFirst_37 : decode cX8_chooseFirst 37 = .ok (.iconst 1, 1) := by decide +kernel
theorem dX8_chooseFirst_38 : decode cX8_chooseFirst 38 = .ok (.bastore, 1) := by decide +kernel
theorem dX8_chooseFirst_39 : decode cX8_chooseFirst 39 = .ok (.aload_n 0, 1) := by decide +kernel
theorem dX8_chooseFirst_40 : decode cX8_chooseFirst 40 = .ok (.getfield 52, 3) := by decide +kernel
theorem dX8_chooseFirst_43 : decode cX8_chooseFirst 43 = .ok (.iload_n 3, 1) := by decide +kernel
theorem dX8_chooseFirst_44 : decode cX8_chooseFirst 44 = .ok (.iconst 1, 1) := by decide +kernel
theorem dX8_chooseFirst_45 : decode cX8_chooseFirst 45 = .ok (.iastore, 1) := by decide +kernel
theorem dX8_chooseFirst_46 : decode cX8_chooseFirst 46 = .ok (.iconst 0, 1) := by decide +kernel
theorem dX8_chooseFirst_47 : decode cX8_chooseFirst 47 = .ok (.istore 4, 2) := by decide +kernel
theorem dX8_chooseFirst_49 : decode cX8_chooseFirst 49 = .ok (.iload 4, 2) := by decide +kernel
theorem dX8_chooseFirst_51 : decode cX8_chooseFirst 51 = .ok (.aload_n 0, 1) := by decide +kernel
theorem dX8_chooseFirst_52 : decode cX8_chooseFirst 52 = .ok (.getfield 7, 3) := by decide +kernel
theorem dX8_chooseFirst_55 : decode cX8_chooseFirst 55 = .ok (.if_icmp .ge 32, 3) := by decide +kernel
theorem dX8_chooseFirst_58 : decode cX8_chooseFirst 58 = .ok (.aload_n 0, 1) := by decide +kernel
theorem dX8_chooseFirst_59 : decode cX8_chooseFirst 59 = .ok (.getfield 49, 3) := by decide +kernel
theorem dX8_chooseFirst_62 : decode cX8_chooseFirst 62 = .ok (.iconst 4, 1) := by decide +kernel
theorem dX8_chooseFirst_63 : decode cX8_chooseFirst 63 = .ok (.iload_n 3, 1) := by decide +kernel
theorem dX8_chooseFirst_64 : decode cX8_chooseFirst 64 = .ok (.imul, 1) := by decide +kernel
theorem dX8_chooseFirst_65 : decode cX8_chooseFirst 65 = .ok (.iload 4, 2) := by decide +kernel
theorem dX8_chooseFirst_67 : decode cX8_chooseFirst 67 = .ok (.iadd, 1) := by decide +kernel
theorem dX8_chooseFirst_68 : decode cX8_chooseFirst 68 = .ok (.aload_n 0, 1) := by decide +kernel
theorem dX8_chooseFirst_69 : decode cX8_chooseFirst 69 = .ok (.getfield 13, 3) := by decide +kernel
theorem dX8_chooseFirst_72 : decode cX8_chooseFirst 72 = .ok (.iconst 4, 1) := by decide +kernel
theorem dX8_chooseFirst_73 : decode cX8_chooseFirst 73 = .ok (.iload_n 2, 1) := by decide +kernel
theorem dX8_chooseFirst_74 : decode cX8_chooseFirst 74 = .ok (.imul, 1) := by decide +kernel
theorem dX8_chooseFirst_75 : decode cX8_chooseFirst 75 = .ok (.iload 4, 2) := by decide +kernel
theorem dX8_chooseFirst_77 : decode cX8_chooseFirst 77 = .ok (.iadd, 1) := by decide +kernel
theorem dX8_chooseFirst_78 : decode cX8_chooseFirst 78 = .ok (.iaload, 1) := by decide +kernel
theorem dX8_chooseFirst_79 : decode cX8_chooseFirst 79 = .ok (.i2l, 1) := by decide +kernel
theorem dX8_chooseFirst_80 : decode cX8_chooseFirst 80 = .ok (.lastore, 1) := by decide +kernel
theorem dX8_chooseFirst_81 : decode cX8_chooseFirst 81 = .ok (.iinc 4 1, 3) := by decide +kernel
theorem dX8_chooseFirst_84 : decode cX8_chooseFirst 84 = .ok (.goto (-35), 3) := by decide +kernel
theorem dX8_chooseFirst_87 : decode cX8_chooseFirst 87 = .ok (.aload_n 0, 1) := by decide +kernel
theorem dX8_chooseFirst_88 : decode cX8_chooseFirst 88 = .ok (.invokevirtual 118, 3) := by decide +kernel
theorem dX8_chooseFirst_91 : decode cX8_chooseFirst 91 = .ok (.istore_n 2, 1) := by decide +kernel
theorem dX8_chooseFirst_92 : decode cX8_chooseFirst 92 = .ok (.iinc 3 1, 3) := by decide +kernel
theorem dX8_chooseFirst_95 : decode cX8_chooseFirst 95 = .ok (.goto (-68), 3) := by decide +kernel
theorem dX8_chooseFirst_98 : decode cX8_chooseFirst 98 = .ok (.return_, 1) := by decide +kernel
theorem dX8_farthest_0 : decode cX8_farthest 0 = .ok (.iconst (-1), 1) := by decide +kernel
theorem dX8_farthest_1 : decode cX8_farthest 1 = .ok (.istore_n 1, 1) := by decide +kernel
theorem dX8_farthest_2 : decode cX8_farthest 2 = .ok (.iconst (-1), 1) := by decide +kernel
theorem dX8_farthest_3 : decode cX8_farthest 3 = .ok (.istore_n 2, 1) := by decide +kernel
theorem dX8_farthest_4 : decode cX8_farthest 4 = .ok (.iconst 0, 1) := by decide +kernel
theorem dX8_farthest_5 : decode cX8_farthest 5 = .ok (.istore_n 3, 1) := by decide +kernel
theorem dX8_farthest_6 : decode cX8_farthest 6 = .ok (.iload_n 3, 1) := by decide +kernel
theorem dX8_farthest_7 : decode cX8_farthest 7 = .ok (.aload_n 0, 1) := by decide +kernel
theorem dX8_farthest_8 : decode cX8_farthest 8 = .ok (.getfield 82, 3) := by decide +kernel
theorem dX8_farthest_11 : decode cX8_farthest 11 = .ok (.if_icmp .ge 92, 3) := by decide +kernel
theorem dX8_farthest_14 : decode cX8_farthest 14 = .ok (.iconst (-1), 1) := by decide +kernel
theorem dX8_farthest_15 : decode cX8_farthest 15 = .ok (.istore 4, 2) := by decide +kernel
theorem dX8_farthest_17 : decode cX8_farthest 17 = .ok (.iconst 0, 1) := by decide +kernel
theorem dX8_farthest_18 : decode cX8_farthest 18 = .ok (.istore 5, 2) := by decide +kernel
theorem dX8_farthest_20 : decode cX8_farthest 20 = .ok (.iload 5, 2) := by decide +kernel
theorem dX8_farthest_22 : decode cX8_farthest 22 = .ok (.aload_n 0, 1) := by decide +kernel
theorem dX8_farthest_23 : decode cX8_farthest 23 = .ok (.getfield 82, 3) := by decide +kernel
theorem dX8_farthest_26 : decode cX8_farthest 26 = .ok (.if_icmp .ge 51, 3) := by decide +kernel
theorem dX8_farthest_29 : decode cX8_farthest 29 = .ok (.aload_n 0, 1) := by decide +kernel
theorem dX8_farthest_30 : decode cX8_farthest 30 = .ok (.iconst 0, 1) := by decide +kernel
theorem dX8_farthest_31 : decode cX8_farthest 31 = .ok (.iload_n 3, 1) := by decide +kernel
theorem dX8_farthest_32 : decode cX8_farthest 32 = .ok (.iload 5, 2) := by decide +kernel
theorem dX8_farthest_34 : decode cX8_farthest 34 = .ok (.invokevirtual 105, 3) := by decide +kernel
theorem dX8_farthest_37 : decode cX8_farthest 37 = .ok (.istore 6, 2) := by decide +kernel
theorem dX8_farthest_39 : decode cX8_farthest 39 = .ok (.aload_n 0, 1) := by decide +kernel
theorem dX8_farthest_40 : decode cX8_farthest 40 = .ok (.getfield 58, 3) := by decide +kernel
theorem dX8_farthest_43 : decode cX8_farthest 43 = .ok (.iload 5, 2) := by decide +kernel
theorem dX8_farthest_45 : decode cX8_farthest 45 = .ok (.baload, 1) := by decide +kernel
theorem dX8_farthest_46 : decode cX8_farthest 46 = .ok (.ifCond .eq 21, 3) := by decide +kernel
theorem dX8_farthest_49 : decode cX8_farthest 49 = .ok (.iload 4, 2) := by decide +kernel
theorem dX8_farthest_51 : decode cX8_farthest 51 = .ok (.iconst (-1), 1) := by decide +kernel
theorem dX8_farthest_52 : decode cX8_farthest 52 = .ok (.if_icmp .eq 10, 3) := by decide +kernel
theorem dX8_farthest_55 : decode cX8_farthest 55 = .ok (.iload 6, 2) := by decide +kernel
theorem dX8_farthest_57 : decode cX8_farthest 57 = .ok (.iload 4, 2) := by decide +kernel
theorem dX8_farthest_59 : decode cX8_farthest 59 = .ok (.if_icmp .ge 8, 3) := by decide +kernel
theorem dX8_farthest_62 : decode cX8_farthest 62 = .ok (.iload 6, 2) := by decide +kernel
theorem dX8_farthest_64 : decode cX8_farthest 64 = .ok (.goto 5, 3) := by decide +kernel
theorem dX8_farthest_67 : decode cX8_farthest 67 = .ok (.iload 4, 2) := by decide +kernel
theorem dX8_farthest_69 : decode cX8_farthest 69 = .ok (.istore 4, 2) := by decide +kernel
theorem dX8_farthest_71 : decode cX8_farthest 71 = .ok (.iinc 5 1, 3) := by decide +kernel
theorem dX8_farthest_74 : decode cX8_farthest 74 = .ok (.goto (-54), 3) := by decide +kernel
theorem dX8_farthest_77 : decode cX8_farthest 77 = .ok (.aload_n 0, 1) := by decide +kernel
theorem dX8_farthest_78 : decode cX8_farthest 78 = .ok (.getfield 58, 3) := by decide +kernel
theorem dX8_farthest_81 : decode cX8_farthest 81 = .ok (.iload_n 3, 1) := by decide +kernel
theorem dX8_farthest_82 : decode cX8_farthest 82 = .ok (.baload, 1) := by decide +kernel
theorem dX8_farthest_83 : decode cX8_farthest 83 = .ok (.ifCond .ne 14, 3) := by decide +kernel
theorem dX8_farthest_86 : decode cX8_farthest 86 = .ok (.iload 4, 2) := by decide +kernel
theorem dX8_farthest_88 : decode cX8_farthest 88 = .ok (.iload_n 2, 1) := by decide +kernel
theorem dX8_farthest_89 : decode cX8_farthest 89 = .ok (.if_icmp .le 8, 3) := by decide +kernel
theorem dX8_farthest_92 : decode cX8_farthest 92 = .ok (.iload 4, 2) := by decide +kernel
theorem dX8_farthest_94 : decode cX8_farthest 94 = .ok (.istore_n 2, 1) := by decide +kernel
theorem dX8_farthest_95 : decode cX8_farthest 95 = .ok (.iload_n 3, 1) := by decide +kernel
theorem dX8_farthest_96 : decode cX8_farthest 96 = .ok (.istore_n 1, 1) := by decide +kernel
theorem dX8_farthest_97 : decode cX8_farthest 97 = .ok (.iinc 3 1, 3) := by decide +kernel
theorem dX8_farthest_100 : decode cX8_farthest 100 = .ok (.goto (-94), 3) := by decide +kernel
theorem dX8_farthest_103 : decode cX8_farthest 103 = .ok (.iload_n 1, 1) := by decide +kernel
theorem dX8_farthest_104 : decode cX8_farthest 104 = .ok (.ireturn, 1) := by decide +kernel
theorem dX8_square_0 : decode cX8_square 0 = .ok (.lconst 0, 1) := by decide +kernel
theorem dX8_square_1 : decode cX8_square 1 = .ok (.lstore_n 3, 1) := by decide +kernel
theorem dX8_square_2 : decode cX8_square 2 = .ok (.iconst 0, 1) := by decide +kernel
theorem dX8_square_3 : decode cX8_square 3 = .ok (.istore 5, 2) := by decide +kernel
theorem dX8_square_5 : decode cX8_square 5 = .ok (.iload 5, 2) := by decide +kernel
theorem dX8_square_7 : decode cX8_square 7 = .ok (.aload_n 0, 1) := by decide +kernel
theorem dX8_square_8 : decode cX8_square 8 = .ok (.getfield 7, 3) := by decide +kernel
theorem dX8_square_11 : decode cX8_square 11 = .ok (.if_icmp .ge 51, 3) := by decide +kernel
theorem dX8_square_14 : decode cX8_square 14 = .ok (.aload_n 0, 1) := by decide +kernel
theorem dX8_square_15 : decode cX8_square 15 = .ok (.getfield 52, 3) := by decide +kernel
theorem dX8_square_18 : decode cX8_square 18 = .ok (.iload_n 2, 1) := by decide +kernel
theorem dX8_square_19 : decode cX8_square 19 = .ok (.iaload, 1) := by decide +kernel
theorem dX8_square_20 : decode cX8_square 20 = .ok (.i2l, 1) := by decide +kernel
theorem dX8_square_21 : decode cX8_square 21 = .ok (.aload_n 0, 1) := by decide +kernel
theorem dX8_square_22 : decode cX8_square 22 = .ok (.getfield 13, 3) := by decide +kernel
theorem dX8_square_25 : decode cX8_square 25 = .ok (.iconst 4, 1) := by decide +kernel
theorem dX8_square_26 : decode cX8_square 26 = .ok (.iload_n 1, 1) := by decide +kernel
theorem dX8_square_27 : decode cX8_square 27 = .ok (.imul, 1) := by decide +kernel
theorem dX8_square_28 : decode cX8_square 28 = .ok (.iload 5, 2) := by decide +kernel
theorem dX8_square_30 : decode cX8_square 30 = .ok (.iadd, 1) := by decide +kernel
theorem dX8_square_31 : decode cX8_square 31 = .ok (.iaload, 1) := by decide +kernel
theorem dX8_square_32 : decode cX8_square 32 = .ok (.i2l, 1) := by decide +kernel
theorem dX8_square_33 : decode cX8_square 33 = .ok (.lmul, 1) := by decide +kernel
theorem dX8_square_34 : decode cX8_square 34 = .ok (.aload_n 0, 1) := by decide +kernel
theorem dX8_square_35 : decode cX8_square 35 = .ok (.getfield 49, 3) := by decide +kernel
theorem dX8_square_38 : decode cX8_square 38 = .ok (.iconst 4, 1) := by decide +kernel
theorem dX8_square_39 : decode cX8_square 39 = .ok (.iload_n 2, 1) := by decide +kernel
theorem dX8_square_40 : decode cX8_square 40 = .ok (.imul, 1) := by decide +kernel
theorem dX8_square_41 : decode cX8_square 41 = .ok (.iload 5, 2) := by decide +kernel
theorem dX8_square_43 : decode cX8_square 43 = .ok (.iadd, 1) := by decide +kernel
theorem dX8_square_44 : decode cX8_square 44 = .ok (.laload, 1) := by decide +kernel
theorem dX8_square_45 : decode cX8_square 45 = .ok (.lsub, 1) := by decide +kernel
theorem dX8_square_46 : decode cX8_square 46 = .ok (.lstore 6, 2) := by decide +kernel
theorem dX8_square_48 : decode cX8_square 48 = .ok (.lload_n 3, 1) := by decide +kernel
theorem dX8_square_49 : decode cX8_square 49 = .ok (.lload 6, 2) := by decide +kernel
theorem dX8_square_51 : decode cX8_square 51 = .ok (.lload 6, 2) := by decide +kernel
theorem dX8_square_53 : decode cX8_square 53 = .ok (.lmul, 1) := by decide +kernel
theorem dX8_square_54 : decode cX8_square 54 = .ok (.ladd, 1) := by decide +kernel
theorem dX8_square_55 : decode cX8_square 55 = .ok (.lstore_n 3, 1) := by decide +kernel
theorem dX8_square_56 : decode cX8_square 56 = .ok (.iinc 5 1, 3) := by decide +kernel
theorem dX8_square_59 : decode cX8_square 59 = .ok (.goto (-54), 3) := by decide +kernel
theorem dX8_square_62 : decode cX8_square 62 = .ok (.lload_n 3, 1) := by decide +kernel
theorem dX8_square_63 : decode cX8_square 63 = .ok (.lreturn, 1) := by decide +kernel
theorem dX8_isNearer_0 : decode cX8_isNearer 0 = .ok (.aload_n 0, 1) := by decide +kernel
theorem dX8_isNearer_1 : decode cX8_isNearer 1 = .ok (.iload_n 1, 1) := by decide +kernel
theorem dX8_isNearer_2 : decode cX8_isNearer 2 = .ok (.iload_n 2, 1) := by decide +kernel
theorem dX8_isNearer_3 : decode cX8_isNearer 3 = .ok (.invokevirtual 122, 3) := by decide +kernel
theorem dX8_isNearer_6 : decode cX8_isNearer 6 = .ok (.aload_n 0, 1) := by decide +kernel
theorem dX8_isNearer_7 : decode cX8_isNearer 7 = .ok (.getfield 52, 3) := by decide +kernel
theorem dX8_isNearer_10 : decode cX8_isNearer 10 = .ok (.iload 4, 2) := by decide +kernel
theorem dX8_isNearer_12 : decode cX8_isNearer 12 = .ok (.iaload, 1) := by decide +kernel
theorem dX8_isNearer_13 : decode cX8_isNearer 13 = .ok (.i2l, 1) := by decide +kernel
theorem dX8_isNearer_14 : decode cX8_isNearer 14 = .ok (.lmul, 1) := by decide +kernel
theorem dX8_isNearer_15 : decode cX8_isNearer 15 = .ok (.aload_n 0, 1) := by decide +kernel
theorem dX8_isNearer_16 : decode cX8_isNearer 16 = .ok (.getfield 52, 3) := by decide +kernel
theorem dX8_isNearer_19 : decode cX8_isNearer 19 = .ok (.iload 4, 2) := by decide +kernel
theorem dX8_isNearer_21 : decode cX8_isNearer 21 = .ok (.iaload, 1) := by decide +kernel
theorem dX8_isNearer_22 : decode cX8_isNearer 22 = .ok (.i2l, 1) := by decide +kernel
theorem dX8_isNearer_23 : decode cX8_isNearer 23 = .ok (.lmul, 1) := by decide +kernel
theorem dX8_isNearer_24 : decode cX8_isNearer 24 = .ok (.lstore 5, 2) := by decide +kernel
theorem dX8_isNearer_26 : decode cX8_isNearer 26 = .ok (.aload_n 0, 1) := by decide +kernel
theorem dX8_isNearer_27 : decode cX8_isNearer 27 = .ok (.iload_n 3, 1) := by decide +kernel
theorem dX8_isNearer_28 : decode cX8_isNearer 28 = .ok (.iload 4, 2) := by decide +kernel
theorem dX8_isNearer_30 : decode cX8_isNearer 30 = .ok (.invokevirtual 122, 3) := by decide +kernel
theorem dX8_isNearer_33 : decode cX8_isNearer 33 = .ok (.aload_n 0, 1) := by decide +kernel
theorem dX8_isNearer_34 : decode cX8_isNearer 34 = .ok (.getfield 52, 3) := by decide +kernel
theorem dX8_isNearer_37 : decode cX8_isNearer 37 = .ok (.iload_n 2, 1) := by decide +kernel
theorem dX8_isNearer_38 : decode cX8_isNearer 38 = .ok (.iaload, 1) := by decide +kernel
theorem dX8_isNearer_39 : decode cX8_isNearer 39 = .ok (.i2l, 1) := by decide +kernel
theorem dX8_isNearer_40 : decode cX8_isNearer 40 = .ok (.lmul, 1) := by decide +kernel
theorem dX8_isNearer_41 : decode cX8_isNearer 41 = .ok (.aload_n 0, 1) := by decide +kernel
theorem dX8_isNearer_42 : decode cX8_isNearer 42 = .ok (.getfield 52, 3) := by decide +kernel
theorem dX8_isNearer_45 : decode cX8_isNearer 45 = .ok (.iload_n 2, 1) := by decide +kernel
theorem dX8_isNearer_46 : decode cX8_isNearer 46 = .ok (.iaload, 1) := by decide +kernel
theorem dX8_isNearer_47 : decode cX8_isNearer 47 = .ok (.i2l, 1) := by decide +kernel
theorem dX8_isNearer_48 : decode cX8_isNearer 48 = .ok (.lmul, 1) := by decide +kernel
theorem dX8_isNearer_49 : decode cX8_isNearer 49 = .ok (.lstore 7, 2) := by decide +kernel
theorem dX8_isNearer_51 : decode cX8_isNearer 51 = .ok (.lload 5, 2) := by decide +kernel
theorem dX8_isNearer_53 : decode cX8_isNearer 53 = .ok (.lload 7, 2) := by decide +kernel
theorem dX8_isNearer_55 : decode cX8_isNearer 55 = .ok (.lcmp, 1) := by decide +kernel
theorem dX8_isNearer_56 : decode cX8_isNearer 56 = .ok (.ifCond .ge 7, 3) := by decide +kernel
theorem dX8_isNearer_59 : decode cX8_isNearer 59 = .ok (.iconst 1, 1) := by decide +kernel
theorem dX8_isNearer_60 : decode cX8_isNearer 60 = .ok (.goto 4, 3) := by decide +kernel
theorem dX8_isNearer_63 : decode cX8_isNearer 63 = .ok (.iconst 0, 1) := by decide +kernel
theorem dX8_isNearer_64 : decode cX8_isNearer 64 = .ok (.ireturn, 1) := by decide +kernel
theorem dX8_sizeNow_0 : decode cX8_sizeNow 0 = .ok (.iconst 0, 1) := by decide +kernel
theorem dX8_sizeNow_1 : decode cX8_sizeNow 1 = .ok (.istore_n 2, 1) := by decide +kernel
theorem dX8_sizeNow_2 : decode cX8_sizeNow 2 = .ok (.iconst 0, 1) := by decide +kernel
theorem dX8_sizeNow_3 : decode cX8_sizeNow 3 = .ok (.istore_n 3, 1) := by decide +kernel
theorem dX8_sizeNow_4 : decode cX8_sizeNow 4 = .ok (.iload_n 3, 1) := by decide +kernel
theorem dX8_sizeNow_5 : decode cX8_sizeNow 5 = .ok (.aload_n 0, 1) := by decide +kernel
theorem dX8_sizeNow_6 : decode cX8_sizeNow 6 = .ok (.getfield 82, 3) := by decide +kernel
theorem dX8_sizeNow_9 : decode cX8_sizeNow 9 = .ok (.if_icmp .ge 27, 3) := by decide +kernel
theorem dX8_sizeNow_12 : decode cX8_sizeNow 12 = .ok (.iload_n 2, 1) := by decide +kernel
theorem dX8_sizeNow_13 : decode cX8_sizeNow 13 = .ok (.aload_n 0, 1) := by decide +kernel
theorem dX8_sizeNow_14 : decode cX8_sizeNow 14 = .ok (.getfield 55, 3) := by decide +kernel
theorem dX8_sizeNow_17 : decode cX8_sizeNow 17 = .ok (.iload_n 3, 1) := by decide +kernel
theorem dX8_sizeNow_18 : decode cX8_sizeNow 18 = .ok (.iaload, 1) := by decide +kernel
theorem dX8_sizeNow_19 : decode cX8_sizeNow 19 = .ok (.iload_n 1, 1) := by decide +kernel
theorem dX8_sizeNow_20 : decode cX8_sizeNow 20 = .ok (.if_icmp .ne 7, 3) := by decide +kernel
theorem dX8_sizeNow_23 : decode cX8_sizeNow 23 = .ok (.iconst 1, 1) := by decide +kernel
theorem dX8_sizeNow_24 : decode cX8_sizeNow 24 = .ok (.goto 4, 3) := by decide +kernel
theorem dX8_sizeNow_27 : decode cX8_sizeNow 27 = .ok (.iconst 0, 1) := by decide +kernel
theorem dX8_sizeNow_28 : decode cX8_sizeNow 28 = .ok (.iadd, 1) := by decide +kernel
theorem dX8_sizeNow_29 : decode cX8_sizeNow 29 = .ok (.istore_n 2, 1) := by decide +kernel
theorem dX8_sizeNow_30 : decode cX8_sizeNow 30 = .ok (.iinc 3 1, 3) := by decide +kernel
theorem dX8_sizeNow_33 : decode cX8_sizeNow 33 = .ok (.goto (-29), 3) := by decide +kernel
theorem dX8_sizeNow_36 : decode cX8_sizeNow 36 = .ok (.iload_n 2, 1) := by decide +kernel
theorem dX8_sizeNow_37 : decode cX8_sizeNow 37 = .ok (.ireturn, 1) := by decide +kernel
theorem dX8_fill_0 : decode cX8_fill 0 = .ok (.aload_n 0, 1) := by decide +kernel
theorem dX8_fill_1 : decode cX8_fill 1 = .ok (.iload_n 1, 1) := by decide +kernel
theorem dX8_fill_2 : decode cX8_fill 2 = .ok (.invokevirtual 126, 3) := by decide +kernel
theorem dX8_fill_5 : decode cX8_fill 5 = .ok (.ifCond .le 4, 3) := by decide +kernel
theorem dX8_fill_8 : decode cX8_fill 8 = .ok (.return_, 1) := by decide +kernel
theorem dX8_fill_9 : decode cX8_fill 9 = .ok (.iconst (-1), 1) := by decide +kernel
theorem dX8_fill_10 : decode cX8_fill 10 = .ok (.istore_n 2, 1) := by decide +kernel
theorem dX8_fill_11 : decode cX8_fill 11 = .ok (.iconst 0, 1) := by decide +kernel
theorem dX8_fill_12 : decode cX8_fill 12 = .ok (.istore_n 3, 1) := by decide +kernel
theorem dX8_fill_13 : decode cX8_fill 13 = .ok (.iload_n 3, 1) := by decide +kernel
theorem dX8_fill_14 : decode cX8_fill 14 = .ok (.aload_n 0, 1) := by decide +kernel
theorem dX8_fill_15 : decode cX8_fill 15 = .ok (.getfield 82, 3) := by decide +kernel
theorem dX8_fill_18 : decode cX8_fill 18 = .ok (.if_icmp .ge 51, 3) := by decide +kernel
theorem dX8_fill_21 : decode cX8_fill 21 = .ok (.aload_n 0, 1) := by decide +kernel
theorem dX8_fill_22 : decode cX8_fill 22 = .ok (.aload_n 0, 1) := by decide +kernel
theorem dX8_fill_23 : decode cX8_fill 23 = .ok (.getfield 55, 3) := by decide +kernel
theorem dX8_fill_26 : decode cX8_fill 26 = .ok (.iload_n 3, 1) := by decide +kernel
theorem dX8_fill_27 : decode cX8_fill 27 = .ok (.iaload, 1) := by decide +kernel
theorem dX8_fill_28 : decode cX8_fill 28 = .ok (.invokevirtual 126, 3) := by decide +kernel
theorem dX8_fill_31 : decode cX8_fill 31 = .ok (.iconst 1, 1) := by decide +kernel
theorem dX8_fill_32 : decode cX8_fill 32 = .ok (.if_icmp .le 31, 3) := by decide +kernel
theorem dX8_fill_35 : decode cX8_fill 35 = .ok (.iload_n 2, 1) := by decide +kernel
theorem dX8_fill_36 : decode cX8_fill 36 = .ok (.iconst (-1), 1) := by decide +kernel
theorem dX8_fill_37 : decode cX8_fill 37 = .ok (.if_icmp .eq 24, 3) := by decide +kernel
theorem dX8_fill_40 : decode cX8_fill 40 = .ok (.aload_n 0, 1) := by decide +kernel
theorem dX8_fill_41 : decode cX8_fill 41 = .ok (.iload_n 2, 1) := by decide +kernel
theorem dX8_fill_42 : decode cX8_fill 42 = .ok (.aload_n 0, 1) := by decide +kernel
theorem dX8_fill_43 : decode cX8_fill 43 = .ok (.getfield 55, 3) := by decide +kernel
theorem dX8_fill_46 : decode cX8_fill 46 = .ok (.iload_n 2, 1) := by decide +kernel
theorem dX8_fill_47 : decode cX8_fill 47 = .ok (.iaload, 1) := by decide +kernel
theorem dX8_fill_48 : decode cX8_fill 48 = .ok (.iload_n 3, 1) := by decide +kernel
theorem dX8_fill_49 : decode cX8_fill 49 = .ok (.aload_n 0, 1) := by decide +kernel
theorem dX8_fill_50 : decode cX8_fill 50 = .ok (.getfield 55, 3) := by decide +kernel
theorem dX8_fill_53 : decode cX8_fill 53 = .ok (.iload_n 3, 1) := by decide +kernel
theorem dX8_fill_54 : decode cX8_fill 54 = .ok (.iaload, 1) := by decide +kernel
theorem dX8_fill_55 : decode cX8_fill 55 = .ok (.invokevirtual 130, 3) := by decide +kernel
theorem dX8_fill_58 : decode cX8_fill 58 = .ok (.ifCond .eq 5, 3) := by decide +kernel
theorem dX8_fill_61 : decode cX8_fill 61 = .ok (.iload_n 3, 1) := by decide +kernel
theorem dX8_fill_62 : decode cX8_fill 62 = .ok (.istore_n 2, 1) := by decide +kernel
theorem dX8_fill_63 : decode cX8_fill 63 = .ok (.iinc 3 1, 3) := by decide +kernel
theorem dX8_fill_66 : decode cX8_fill 66 = .ok (.goto (-53), 3) := by decide +kernel
theorem dX8_fill_69 : decode cX8_fill 69 = .ok (.aload_n 0, 1) := by decide +kernel
theorem dX8_fill_70 : decode cX8_fill 70 = .ok (.getfield 55, 3) := by decide +kernel
theorem dX8_fill_73 : decode cX8_fill 73 = .ok (.iload_n 2, 1) := by decide +kernel
theorem dX8_fill_74 : decode cX8_fill 74 = .ok (.iload_n 1, 1) := by decide +kernel
theorem dX8_fill_75 : decode cX8_fill 75 = .ok (.iastore, 1) := by decide +kernel
theorem dX8_fill_76 : decode cX8_fill 76 = .ok (.return_, 1) := by decide +kernel
theorem dX8_takeMeans_0 : decode cX8_takeMeans 0 = .ok (.iconst 0, 1) := by decide +kernel
theorem dX8_takeMeans_1 : decode cX8_takeMeans 1 = .ok (.istore_n 2, 1) := by decide +kernel
theorem dX8_takeMeans_2 : decode cX8_takeMeans 2 = .ok (.iload_n 2, 1) := by decide +kernel
theorem dX8_takeMeans_3 : decode cX8_takeMeans 3 = .ok (.iload_n 1, 1) := by decide +kernel
theorem dX8_takeMeans_4 : decode cX8_takeMeans 4 = .ok (.if_icmp .ge 105, 3) := by decide +kernel
theorem dX8_takeMeans_7 : decode cX8_takeMeans 7 = .ok (.aload_n 0, 1) := by decide +kernel
theorem dX8_takeMeans_8 : decode cX8_takeMeans 8 = .ok (.getfield 52, 3) := by decide +kernel
theorem dX8_takeMeans_11 : decode cX8_takeMeans 11 = .ok (.iload_n 2, 1) := by decide +kernel
theorem dX8_takeMeans_12 : decode cX8_takeMeans 12 = .ok (.aload_n 0, 1) := by decide +kernel
theorem dX8_takeMeans_13 : decode cX8_takeMeans 13 = .ok (.iload_n 2, 1) := by decide +kernel
theorem dX8_takeMeans_14 : decode cX8_takeMeans 14 = .ok (.invokevirtual 126, 3) := by decide +kernel
theorem dX8_takeMeans_17 : decode cX8_takeMeans 17 = .ok (.iastore, 1) := by decide +kernel
theorem dX8_takeMeans_18 : decode cX8_takeMeans 18 = .ok (.iconst 0, 1) := by decide +kernel
theorem dX8_takeMeans_19 : decode cX8_takeMeans 19 = .ok (.istore_n 3, 1) := by decide +kernel
theorem dX8_takeMeans_20 : decode cX8_takeMeans 20 = .ok (.iload_n 3, 1) := by decide +kernel
theorem dX8_takeMeans_21 : decode cX8_takeMeans 21 = .ok (.aload_n 0, 1) := by decide +kernel
theorem dX8_takeMeans_22 : decode cX8_takeMeans 22 = .ok (.getfield 7, 3) := by decide +kernel
theorem dX8_takeMeans_25 : decode cX8_takeMeans 25 = .ok (.if_icmp .ge 78, 3) := by decide +kernel
theorem dX8_takeMeans_28 : decode cX8_takeMeans 28 = .ok (.aload_n 0, 1) := by decide +kernel
theorem dX8_takeMeans_29 : decode cX8_takeMeans 29 = .ok (.getfield 49, 3) := by decide +kernel
theorem dX8_takeMeans_32 : decode cX8_takeMeans 32 = .ok (.iconst 4, 1) := by decide +kernel
theorem dX8_takeMeans_33 : decode cX8_takeMeans 33 = .ok (.iload_n 2, 1) := by decide +kernel
theorem dX8_takeMeans_34 : decode cX8_takeMeans 34 = .ok (.imul, 1) := by decide +kernel
theorem dX8_takeMeans_35 : decode cX8_takeMeans 35 = .ok (.iload_n 3, 1) := by decide +kernel
theorem dX8_takeMeans_36 : decode cX8_takeMeans 36 = .ok (.iadd, 1) := by decide +kernel
theorem dX8_takeMeans_37 : decode cX8_takeMeans 37 = .ok (.lconst 0, 1) := by decide +kernel
theorem dX8_takeMeans_38 : decode cX8_takeMeans 38 = .ok (.lastore, 1) := by decide +kernel
theorem dX8_takeMeans_39 : decode cX8_takeMeans 39 = .ok (.iconst 0, 1) := by decide +kernel
theorem dX8_takeMeans_40 : decode cX8_takeMeans 40 = .ok (.istore 4, 2) := by decide +kernel
theorem dX8_takeMeans_42 : decode cX8_takeMeans 42 = .ok (.iload 4, 2) := by decide +kernel
theorem dX8_takeMeans_44 : decode cX8_takeMeans 44 = .ok (.aload_n 0, 1) := by decide +kernel
theorem dX8_takeMeans_45 : decode cX8_takeMeans 45 = .ok (.getfield 82, 3) := by decide +kernel
theorem dX8_takeMeans_48 : decode cX8_takeMeans 48 = .ok (.if_icmp .ge 49, 3) := by decide +kernel
theorem dX8_takeMeans_51 : decode cX8_takeMeans 51 = .ok (.aload_n 0, 1) := by decide +kernel
theorem dX8_takeMeans_52 : decode cX8_takeMeans 52 = .ok (.getfield 49, 3) := by decide +kernel
theorem dX8_takeMeans_55 : decode cX8_takeMeans 55 = .ok (.iconst 4, 1) := by decide +kernel
theorem dX8_takeMeans_56 : decode cX8_takeMeans 56 = .ok (.iload_n 2, 1) := by decide +kernel
theorem dX8_takeMeans_57 : decode cX8_takeMeans 57 = .ok (.imul, 1) := by decide +kernel
theorem dX8_takeMeans_58 : decode cX8_takeMeans 58 = .ok (.iload_n 3, 1) := by decide +kernel
theorem dX8_takeMeans_59 : decode cX8_takeMeans 59 = .ok (.iadd, 1) := by decide +kernel
theorem dX8_takeMeans_60 : decode cX8_takeMeans 60 = .ok (.dup2, 1) := by decide +kernel
theorem dX8_takeMeans_61 : decode cX8_takeMeans 61 = .ok (.laload, 1) := by decide +kernel
theorem dX8_takeMeans_62 : decode cX8_takeMeans 62 = .ok (.aload_n 0, 1) := by decide +kernel
theorem dX8_takeMeans_63 : decode cX8_takeMeans 63 = .ok (.getfield 55, 3) := by decide +kernel
theorem dX8_takeMeans_66 : decode cX8_takeMeans 66 = .ok (.iload 4, 2) := by decide +kernel
theorem dX8_takeMeans_68 : decode cX8_takeMeans 68 = .ok (.iaload, 1) := by decide +kernel
theorem dX8_takeMeans_69 : decode cX8_takeMeans 69 = .ok (.iload_n 2, 1) := by decide +kernel
theorem dX8_takeMeans_70 : decode cX8_takeMeans 70 = .ok (.if_icmp .ne 18, 3) := by decide +kernel
theorem dX8_takeMeans_73 : decode cX8_takeMeans 73 = .ok (.aload_n 0, 1) := by decide +kernel
theorem dX8_takeMeans_74 : decode cX8_takeMeans 74 = .ok (.getfield 13, 3) := by decide +kernel
theorem dX8_takeMeans_77 : decode cX8_takeMeans 77 = .ok (.iconst 4, 1) := by decide +kernel
theorem dX8_takeMeans_78 : decode cX8_takeMeans 78 = .ok (.iload 4, 2) := by decide +kernel
theorem dX8_takeMeans_80 : decode cX8_takeMeans 80 = .ok (.imul, 1) := by decide +kernel
theorem dX8_takeMeans_81 : decode cX8_takeMeans 81 = .ok (.iload_n 3, 1) := by decide +kernel
theorem dX8_takeMeans_82 : decode cX8_takeMeans 82 = .ok (.iadd, 1) := by decide +kernel
theorem dX8_takeMeans_83 : decode cX8_takeMeans 83 = .ok (.iaload, 1) := by decide +kernel
theorem dX8_takeMeans_84 : decode cX8_takeMeans 84 = .ok (.i2l, 1) := by decide +kernel
theorem dX8_takeMeans_85 : decode cX8_takeMeans 85 = .ok (.goto 4, 3) := by decide +kernel
theorem dX8_takeMeans_88 : decode cX8_takeMeans 88 = .ok (.lconst 0, 1) := by decide +kernel
theorem dX8_takeMeans_89 : decode cX8_takeMeans 89 = .ok (.ladd, 1) := by decide +kernel
theorem dX8_takeMeans_90 : decode cX8_takeMeans 90 = .ok (.lastore, 1) := by decide +kernel
theorem dX8_takeMeans_91 : decode cX8_takeMeans 91 = .ok (.iinc 4 1, 3) := by decide +kernel
theorem dX8_takeMeans_94 : decode cX8_takeMeans 94 = .ok (.goto (-52), 3) := by decide +kernel
theorem dX8_takeMeans_97 : decode cX8_takeMeans 97 = .ok (.iinc 3 1, 3) := by decide +kernel
theorem dX8_takeMeans_100 : decode cX8_takeMeans 100 = .ok (.goto (-80), 3) := by decide +kernel
theorem dX8_takeMeans_103 : decode cX8_takeMeans 103 = .ok (.iinc 2 1, 3) := by decide +kernel
theorem dX8_takeMeans_106 : decode cX8_takeMeans 106 = .ok (.goto (-104), 3) := by decide +kernel
theorem dX8_takeMeans_109 : decode cX8_takeMeans 109 = .ok (.return_, 1) := by decide +kernel
theorem dX8_means_0 : decode cX8_means 0 = .ok (.iload_n 1, 1) := by decide +kernel
theorem dX8_means_1 : decode cX8_means 1 = .ok (.iconst 0, 1) := by decide +kernel
theorem dX8_means_2 : decode cX8_means 2 = .ok (.iconst 1, 1) := by decide +kernel
theorem dX8_means_3 : decode cX8_means 3 = .ok (.invokestatic 85, 3) := by decide +kernel
theorem dX8_means_6 : decode cX8_means 6 = .ok (.ifCond .eq 13, 3) := by decide +kernel
theorem dX8_means_9 : decode cX8_means 9 = .ok (.iload_n 2, 1) := by decide +kernel
theorem dX8_means_10 : decode cX8_means 10 = .ok (.iconst 1, 1) := by decide +kernel
theorem dX8_means_11 : decode cX8_means 11 = .ok (.bipush 6, 2) := by decide +kernel
theorem dX8_means_13 : decode cX8_means 13 = .ok (.invokestatic 85, 3) := by decide +kernel
theorem dX8_means_16 : decode cX8_means 16 = .ok (.ifCond .ne 6, 3) := by decide +kernel
theorem dX8_means_19 : decode cX8_means 19 = .ok (.ldc 96, 2) := by decide +kernel
theorem dX8_means_21 : decode cX8_means 21 = .ok (.ireturn, 1) := by decide +kernel
theorem dX8_means_22 : decode cX8_means 22 = .ok (.aload_n 0, 1) := by decide +kernel
theorem dX8_means_23 : decode cX8_means 23 = .ok (.getfield 82, 3) := by decide +kernel
theorem dX8_means_26 : decode cX8_means 26 = .ok (.iload_n 2, 1) := by decide +kernel
theorem dX8_means_27 : decode cX8_means 27 = .ok (.if_icmp .ge 6, 3) := by decide +kernel
theorem dX8_means_30 : decode cX8_means 30 = .ok (.ldc 97, 2) := by decide +kernel
theorem dX8_means_32 : decode cX8_means 32 = .ok (.ireturn, 1) := by decide +kernel
theorem dX8_means_33 : decode cX8_means 33 = .ok (.aload_n 0, 1) := by decide +kernel
theorem dX8_means_34 : decode cX8_means 34 = .ok (.iload_n 2, 1) := by decide +kernel
theorem dX8_means_35 : decode cX8_means 35 = .ok (.invokevirtual 134, 3) := by decide +kernel
theorem dX8_means_38 : decode cX8_means 38 = .ok (.iconst 0, 1) := by decide +kernel
theorem dX8_means_39 : decode cX8_means 39 = .ok (.istore_n 3, 1) := by decide +kernel
theorem dX8_means_40 : decode cX8_means 40 = .ok (.iload_n 3, 1) := by decide +kernel
theorem dX8_means_41 : decode cX8_means 41 = .ok (.aload_n 0, 1) := by decide +kernel
theorem dX8_means_42 : decode cX8_means 42 = .ok (.getfield 82, 3) := by decide +kernel
theorem dX8_means_45 : decode cX8_means 45 = .ok (.if_icmp .ge 21, 3) := by decide +kernel
theorem dX8_means_48 : decode cX8_means 48 = .ok (.aload_n 0, 1) := by decide +kernel
theorem dX8_means_49 : decode cX8_means 49 = .ok (.getfield 24, 3) := by decide +kernel
theorem dX8_means_52 : decode cX8_means 52 = .ok (.bipush 30, 2) := by decide +kernel
theorem dX8_means_54 : decode cX8_means 54 = .ok (.iload_n 1, 1) := by decide +kernel
theorem dX8_means_55 : decode cX8_means 55 = .ok (.imul, 1) := by decide +kernel
theorem dX8_means_56 : decode cX8_means 56 = .ok (.iload_n 3, 1) := by decide +kernel
theorem dX8_means_57 : decode cX8_means 57 = .ok (.iadd, 1) := by decide +kernel
theorem dX8_means_58 : decode cX8_means 58 = .ok (.iconst (-1), 1) := by decide +kernel
theorem dX8_means_59 : decode cX8_means 59 = .ok (.iastore, 1) := by decide +kernel
theorem dX8_means_60 : decode cX8_means 60 = .ok (.iinc 3 1, 3) := by decide +kernel
theorem dX8_means_63 : decode cX8_means 63 = .ok (.goto (-23), 3) := by decide +kernel
theorem dX8_means_66 : decode cX8_means 66 = .ok (.iconst 0, 1) := by decide +kernel
theorem dX8_means_67 : decode cX8_means 67 = .ok (.istore_n 3, 1) := by decide +kernel
theorem dX8_means_68 : decode cX8_means 68 = .ok (.iconst 1, 1) := by decide +kernel
theorem dX8_means_69 : decode cX8_means 69 = .ok (.istore 4, 2) := by decide +kernel
theorem dX8_means_71 : decode cX8_means 71 = .ok (.iload 4, 2) := by decide +kernel
theorem dX8_means_73 : decode cX8_means 73 = .ok (.ifCond .eq 195, 3) := by decide +kernel
theorem dX8_means_76 : decode cX8_means 76 = .ok (.iload_n 3, 1) := by decide +kernel
theorem dX8_means_77 : decode cX8_means 77 = .ok (.bipush 60, 2) := by decide +kernel
theorem dX8_means_79 : decode cX8_means 79 = .ok (.if_icmp .ge 189, 3) := by decide +kernel
theorem dX8_means_82 : decode cX8_means 82 = .ok (.iinc 3 1, 3) := by decide +kernel
theorem dX8_means_85 : decode cX8_means 85 = .ok (.iconst 0, 1) := by decide +kernel
theorem dX8_means_86 : decode cX8_means 86 = .ok (.istore 5, 2) := by decide +kernel
theorem dX8_means_88 : decode cX8_means 88 = .ok (.iload 5, 2) := by decide +kernel
theorem dX8_means_90 : decode cX8_means 90 = .ok (.aload_n 0, 1) := by decide +kernel
theorem dX8_means_91 : decode cX8_means 91 = .ok (.getfield 82, 3) := by decide +kernel
theorem dX8_means_94 : decode cX8_means 94 = .ok (.if_icmp .ge 71, 3) := by decide +kernel
theorem dX8_means_97 : decode cX8_means 97 = .ok (.aload_n 0, 1) := by decide +kernel
theorem dX8_means_98 : decode cX8_means 98 = .ok (.getfield 55, 3) := by decide +kernel
theorem dX8_means_101 : decode cX8_means 101 = .ok (.iload 5, 2) := by decide +kernel
theorem dX8_means_103 : decode cX8_means 103 = .ok (.iconst 0, 1) := by decide +kernel
theorem dX8_means_104 : decode cX8_means 104 = .ok (.iastore, 1) := by decide +kernel
theorem dX8_means_105 : decode cX8_means 105 = .ok (.iconst 1, 1) := by decide +kernel
theorem dX8_means_106 : decode cX8_means 106 = .ok (.istore 6, 2) := by decide +kernel
theorem dX8_means_108 : decode cX8_means 108 = .ok (.iload 6, 2) := by decide +kernel
theorem dX8_means_110 : decode cX8_means 110 = .ok (.iload_n 2, 1) := by decide +kernel
theorem dX8_means_111 : decode cX8_means 111 = .ok (.if_icmp .ge 48, 3) := by decide +kernel
theorem dX8_means_114 : decode cX8_means 114 = .ok (.aload_n 0, 1) := by decide +kernel
theorem dX8_means_115 : decode cX8_means 115 = .ok (.getfield 55, 3) := by decide +kernel
theorem dX8_means_118 : decode cX8_means 118 = .ok (.iload 5, 2) := by decide +kernel
theorem dX8_means_120 : decode cX8_means 120 = .ok (.aload_n 0, 1) := by decide +kernel
theorem dX8_means_121 : decode cX8_means 121 = .ok (.iload 5, 2) := by decide +kernel
theorem dX8_means_123 : decode cX8_means 123 = .ok (.iload 6, 2) := by decide +kernel
theorem dX8_means_125 : decode cX8_means 125 = .ok (.iload 5, 2) := by decide +kernel
theorem dX8_means_127 : decode cX8_means 127 = .ok (.aload_n 0, 1) := by decide +kernel
theorem dX8_means_128 : decode cX8_means 128 = .ok (.getfield 55, 3) := by decide +kernel
theorem dX8_means_131 : decode cX8_means 131 = .ok (.iload 5, 2) := by decide +kernel
theorem dX8_means_133 : decode cX8_means 133 = .ok (.iaload, 1) := by decide +kernel
theorem dX8_means_134 : decode cX8_means 134 = .ok (.invokevirtual 130, 3) := by decide +kernel
theorem dX8_means_137 : decode cX8_means 137 = .ok (.ifCond .eq 8, 3) := by decide +kernel
theorem dX8_means_140 : decode cX8_means 140 = .ok (.iload 6, 2) := by decide +kernel
theorem dX8_means_142 : decode cX8_means 142 = .ok (.goto 10, 3) := by decide +kernel
theorem dX8_means_145 : decode cX8_means 145 = .ok (.aload_n 0, 1) := by decide +kernel
theorem dX8_means_146 : decode cX8_means 146 = .ok (.getfield 55, 3) := by decide +kernel
theorem dX8_means_149 : decode cX8_means 149 = .ok (.iload 5, 2) := by decide +kernel
theorem dX8_means_151 : decode cX8_means 151 = .ok (.iaload, 1) := by decide +kernel
theorem dX8_means_152 : decode cX8_means 152 = .ok (.iastore, 1) := by decide +kernel
theorem dX8_means_153 : decode cX8_means 153 = .ok (.iinc 6 1, 3) := by decide +kernel
theorem dX8_means_156 : decode cX8_means 156 = .ok (.goto (-48), 3) := by decide +kernel
theorem dX8_means_159 : decode cX8_means 159 = .ok (.iinc 5 1, 3) := by decide +kernel
theorem dX8_means_162 : decode cX8_means 162 = .ok (.goto (-74), 3) := by decide +kernel
theorem dX8_means_165 : decode cX8_means 165 = .ok (.iconst 0, 1) := by decide +kernel
theorem dX8_means_166 : decode cX8_means 166 = .ok (.istore 5, 2) := by decide +kernel
theorem dX8_means_168 : decode cX8_means 168 = .ok (.iload 5, 2) := by decide +kernel
theorem dX8_means_170 : decode cX8_means 170 = .ok (.iload_n 2, 1) := by decide +kernel
theorem dX8_means_171 : decode cX8_means 171 = .ok (.if_icmp .ge 15, 3) := by decide +kernel
theorem dX8_means_174 : decode cX8_means 174 = .ok (.aload_n 0, 1) := by decide +kernel
theorem dX8_means_175 : decode cX8_means 175 = .ok (.iload 5, 2) := by decide +kernel
theorem dX8_means_177 : decode cX8_means 177 = .ok (.invokevirtual 137, 3) := by decide +kernel
theorem dX8_means_180 : decode cX8_means 180 = .ok (.iinc 5 1, 3) := by decide +kernel
theorem dX8_means_183 : decode cX8_means 183 = .ok (.goto (-15), 3) := by decide +kernel
theorem dX8_means_186 : decode cX8_means 186 = .ok (.iconst 0, 1) := by decide +kernel
theorem dX8_means_187 : decode cX8_means 187 = .ok (.istore 4, 2) := by decide +kernel
theorem dX8_means_189 : decode cX8_means 189 = .ok (.iconst 0, 1) := by decide +kernel
theorem dX8_means_190 : decode cX8_means 190 = .ok (.istore 5, 2) := by decide +kernel
theorem dX8_means_192 : decode cX8_means 192 = .ok (.iload 5, 2) := by decide +kernel
theorem dX8_means_194 : decode cX8_means 194 = .ok (.aload_n 0, 1) := by decide +kernel
theorem dX8_means_195 : decode cX8_means 195 = .ok (.getfield 82, 3) := by decide +kernel
theorem dX8_means_198 : decode cX8_means 198 = .ok (.if_icmp .ge 62, 3) := by decide +kernel
theorem dX8_means_201 : decode cX8_means 201 = .ok (.iload 4, 2) := by decide +kernel
theorem dX8_means_203 : decode cX8_means 203 = .ok (.ifCond .ne 25, 3) := by decide +kernel
theorem dX8_means_206 : decode cX8_means 206 = .ok (.aload_n 0, 1) := by decide +kernel
theorem dX8_means_207 : decode cX8_means 207 = .ok (.getfield 24, 3) := by decide +kernel
theorem dX8_means_210 : decode cX8_means 210 = .ok (.bipush 30, 2) := by decide +kernel
theorem dX8_means_212 : decode cX8_means 212 = .ok (.iload_n 1, 1) := by decide +kernel
theorem dX8_means_213 : decode cX8_means 213 = .ok (.imul, 1) := by decide +kernel
theorem dX8_means_214 : decode cX8_means 214 = .ok (.iload 5, 2) := by decide +kernel
theorem dX8_means_216 : decode cX8_means 216 = .ok (.iadd, 1) := by decide +kernel
theorem dX8_means_217 : decode cX8_means 217 = .ok (.iaload, 1) := by decide +kernel
theorem dX8_means_218 : decode cX8_means 218 = .ok (.aload_n 0, 1) := by decide +kernel
theorem dX8_means_219 : decode cX8_means 219 = .ok (.getfield 55, 3) := by decide +kernel
theorem dX8_means_222 : decode cX8_means 222 = .ok (.iload 5, 2) := by decide +kernel
theorem dX8_means_224 : decode cX8_means 224 = .ok (.iaload, 1) := by decide +kernel
theorem dX8_means_225 : decode cX8_means 225 = .ok (.if_icmp .eq 7, 3) := by decide +kernel
theorem dX8_means_228 : decode cX8_means 228 = .ok (.iconst 1, 1) := by decide +kernel
theorem dX8_means_229 : decode cX8_means 229 = .ok (.goto 4, 3) := by decide +kernel
theorem dX8_means_232 : decode cX8_means 232 = .ok (.iconst 0, 1) := by decide +kernel
theorem dX8_means_233 : decode cX8_means 233 = .ok (.istore 4, 2) := by decide +kernel
theorem dX8_means_235 : decode cX8_means 235 = .ok (.aload_n 0, 1) := by decide +kernel
theorem dX8_means_236 : decode cX8_means 236 = .ok (.getfield 24, 3) := by decide +kernel
theorem dX8_means_239 : decode cX8_means 239 = .ok (.bipush 30, 2) := by decide +kernel
theorem dX8_means_241 : decode cX8_means 241 = .ok (.iload_n 1, 1) := by decide +kernel
theorem dX8_means_242 : decode cX8_means 242 = .ok (.imul, 1) := by decide +kernel
theorem dX8_means_243 : decode cX8_means 243 = .ok (.iload 5, 2) := by decide +kernel
theorem dX8_means_245 : decode cX8_means 245 = .ok (.iadd, 1) := by decide +kernel
theorem dX8_means_246 : decode cX8_means 246 = .ok (.aload_n 0, 1) := by decide +kernel
theorem dX8_means_247 : decode cX8_means 247 = .ok (.getfield 55, 3) := by decide +kernel
theorem dX8_means_250 : decode cX8_means 250 = .ok (.iload 5, 2) := by decide +kernel
theorem dX8_means_252 : decode cX8_means 252 = .ok (.iaload, 1) := by decide +kernel
theorem dX8_means_253 : decode cX8_means 253 = .ok (.iastore, 1) := by decide +kernel
theorem dX8_means_254 : decode cX8_means 254 = .ok (.iinc 5 1, 3) := by decide +kernel
theorem dX8_means_257 : decode cX8_means 257 = .ok (.goto (-65), 3) := by decide +kernel
theorem dX8_means_260 : decode cX8_means 260 = .ok (.aload_n 0, 1) := by decide +kernel
theorem dX8_means_261 : decode cX8_means 261 = .ok (.iload_n 2, 1) := by decide +kernel
theorem dX8_means_262 : decode cX8_means 262 = .ok (.invokevirtual 140, 3) := by decide +kernel
theorem dX8_means_265 : decode cX8_means 265 = .ok (.goto (-194), 3) := by decide +kernel
theorem dX8_means_268 : decode cX8_means 268 = .ok (.aload_n 0, 1) := by decide +kernel
theorem dX8_means_269 : decode cX8_means 269 = .ok (.getfield 21, 3) := by decide +kernel
theorem dX8_means_272 : decode cX8_means 272 = .ok (.iload_n 1, 1) := by decide +kernel
theorem dX8_means_273 : decode cX8_means 273 = .ok (.iload_n 2, 1) := by decide +kernel
theorem dX8_means_274 : decode cX8_means 274 = .ok (.iastore, 1) := by decide +kernel
theorem dX8_means_275 : decode cX8_means 275 = .ok (.aload_n 0, 1) := by decide +kernel
theorem dX8_means_276 : decode cX8_means 276 = .ok (.getfield 17, 3) := by decide +kernel
theorem dX8_means_279 : decode cX8_means 279 = .ok (.iload_n 1, 1) := by decide +kernel
theorem dX8_means_280 : decode cX8_means 280 = .ok (.iconst 1, 1) := by decide +kernel
theorem dX8_means_281 : decode cX8_means 281 = .ok (.bastore, 1) := by decide +kernel
theorem dX8_means_282 : decode cX8_means 282 = .ok (.iload_n 3, 1) := by decide +kernel
theorem dX8_means_283 : decode cX8_means 283 = .ok (.ireturn, 1) := by decide +kernel
theorem dX8_nearestOf_0 : decode cX8_nearestOf 0 = .ok (.aload_n 0, 1) := by decide +kernel
theorem dX8_nearestOf_1 : decode cX8_nearestOf 1 = .ok (.getfield 46, 3) := by decide +kernel
theorem dX8_nearestOf_4 : decode cX8_nearestOf 4 = .ok (.bipush 30, 2) := by decide +kernel
theorem dX8_nearestOf_6 : decode cX8_nearestOf 6 = .ok (.iload_n 1, 1) := by decide +kernel
theorem dX8_nearestOf_7 : decode cX8_nearestOf 7 = .ok (.imul, 1) := by decide +kernel
theorem dX8_nearestOf_8 : decode cX8_nearestOf 8 = .ok (.iload_n 3, 1) := by decide +kernel
theorem dX8_nearestOf_9 : decode cX8_nearestOf 9 = .ok (.iadd, 1) := by decide +kernel
theorem dX8_nearestOf_10 : decode cX8_nearestOf 10 = .ok (.iaload, 1) := by decide +kernel
theorem dX8_nearestOf_11 : decode cX8_nearestOf 11 = .ok (.istore 6, 2) := by decide +kernel
theorem dX8_nearestOf_13 : decode cX8_nearestOf 13 = .ok (.iload_n 2, 1) := by decide +kernel
theorem dX8_nearestOf_14 : decode cX8_nearestOf 14 = .ok (.iconst 1, 1) := by decide +kernel
theorem dX8_nearestOf_15 : decode cX8_nearestOf 15 = .ok (.if_icmp .le 18, 3) := by decide +kernel
theorem dX8_nearestOf_18 : decode cX8_nearestOf 18 = .ok (.aload_n 0, 1) := by decide +kernel
theorem dX8_nearestOf_19 : decode cX8_nearestOf 19 = .ok (.getfield 46, 3) := by decide +kernel
theorem dX8_nearestOf_22 : decode cX8_nearestOf 22 = .ok (.bipush 30, 2) := by decide +kernel
theorem dX8_nearestOf_24 : decode cX8_nearestOf 24 = .ok (.iload_n 1, 1) := by decide +kernel
theorem dX8_nearestOf_25 : decode cX8_nearestOf 25 = .ok (.imul, 1) := by decide +kernel
theorem dX8_nearestOf_26 : decode cX8_nearestOf 26 = .ok (.iload 4, 2) := by decide +kernel
theorem dX8_nearestOf_28 : decode cX8_nearestOf 28 = .ok (.iadd, 1) := by decide +kernel
theorem dX8_nearestOf_29 : decode cX8_nearestOf 29 = .ok (.iaload, 1) := by decide +kernel
theorem dX8_nearestOf_30 : decode cX8_nearestOf 30 = .ok (.goto 5, 3) := by decide +kernel
theorem dX8_nearestOf_33 : decode cX8_nearestOf 33 = .ok (.iload 6, 2) := by decide +kernel
theorem dX8_nearestOf_35 : decode cX8_nearestOf 35 = .ok (.istore 7, 2) := by decide +kernel
theorem dX8_nearestOf_37 : decode cX8_nearestOf 37 = .ok (.iload 7, 2) := by decide +kernel
theorem dX8_nearestOf_39 : decode cX8_nearestOf 39 = .ok (.iload 6, 2) := by decide +kernel
theorem dX8_nearestOf_41 : decode cX8_nearestOf 41 = .ok (.if_icmp .ge 8, 3) := by decide +kernel
theorem dX8_nearestOf_44 : decode cX8_nearestOf 44 = .ok (.iload 7, 2) := by decide +kernel
theorem dX8_nearestOf_46 : decode cX8_nearestOf 46 = .ok (.goto 5, 3) := by decide +kernel
theorem dX8_nearestOf_49 : decode cX8_nearestOf 49 = .ok (.iload 6, 2) := by decide +kernel
theorem dX8_nearestOf_51 : decode cX8_nearestOf 51 = .ok (.istore 6, 2) := by decide +kernel
theorem dX8_nearestOf_53 : decode cX8_nearestOf 53 = .ok (.iload_n 2, 1) := by decide +kernel
theorem dX8_nearestOf_54 : decode cX8_nearestOf 54 = .ok (.iconst 2, 1) := by decide +kernel
theorem dX8_nearestOf_55 : decode cX8_nearestOf 55 = .ok (.if_icmp .le 18, 3) := by decide +kernel
theorem dX8_nearestOf_58 : decode cX8_nearestOf 58 = .ok (.aload_n 0, 1) := by decide +kernel
theorem dX8_nearestOf_59 : decode cX8_nearestOf 59 = .ok (.getfield 46, 3) := by decide +kernel
theorem dX8_nearestOf_62 : decode cX8_nearestOf 62 = .ok (.bipush 30, 2) := by decide +kernel
theorem dX8_nearestOf_64 : decode cX8_nearestOf 64 = .ok (.iload_n 1, 1) := by decide +kernel
theorem dX8_nearestOf_65 : decode cX8_nearestOf 65 = .ok (.imul, 1) := by decide +kernel
theorem dX8_nearestOf_66 : decode cX8_nearestOf 66 = .ok (.iload 5, 2) := by decide +kernel
theorem dX8_nearestOf_68 : decode cX8_nearestOf 68 = .ok (.iadd, 1) := by decide +kernel
theorem dX8_nearestOf_69 : decode cX8_nearestOf 69 = .ok (.iaload, 1) := by decide +kernel
theorem dX8_nearestOf_70 : decode cX8_nearestOf 70 = .ok (.goto 5, 3) := by decide +kernel
theorem dX8_nearestOf_73 : decode cX8_nearestOf 73 = .ok (.iload 6, 2) := by decide +kernel
theorem dX8_nearestOf_75 : decode cX8_nearestOf 75 = .ok (.istore 7, 2) := by decide +kernel
theorem dX8_nearestOf_77 : decode cX8_nearestOf 77 = .ok (.iload 7, 2) := by decide +kernel
theorem dX8_nearestOf_79 : decode cX8_nearestOf 79 = .ok (.iload 6, 2) := by decide +kernel
theorem dX8_nearestOf_81 : decode cX8_nearestOf 81 = .ok (.if_icmp .ge 8, 3) := by decide +kernel
theorem dX8_nearestOf_84 : decode cX8_nearestOf 84 = .ok (.iload 7, 2) := by decide +kernel
theorem dX8_nearestOf_86 : decode cX8_nearestOf 86 = .ok (.goto 5, 3) := by decide +kernel
theorem dX8_nearestOf_89 : decode cX8_nearestOf 89 = .ok (.iload 6, 2) := by decide +kernel
theorem dX8_nearestOf_91 : decode cX8_nearestOf 91 = .ok (.ireturn, 1) := by decide +kernel
theorem dX8_sumOf_0 : decode cX8_sumOf 0 = .ok (.iconst 0, 1) := by decide +kernel
theorem dX8_sumOf_1 : decode cX8_sumOf 1 = .ok (.istore 5, 2) := by decide +kernel
theorem dX8_sumOf_3 : decode cX8_sumOf 3 = .ok (.iconst 0, 1) := by decide +kernel
theorem dX8_sumOf_4 : decode cX8_sumOf 4 = .ok (.istore 6, 2) := by decide +kernel
theorem dX8_sumOf_6 : decode cX8_sumOf 6 = .ok (.iload 6, 2) := by decide +kernel
theorem dX8_sumOf_8 : decode cX8_sumOf 8 = .ok (.aload_n 0, 1) := by decide +kernel
theorem dX8_sumOf_9 : decode cX8_sumOf 9 = .ok (.getfield 82, 3) := by decide +kernel
theorem dX8_sumOf_12 : decode cX8_sumOf 12 = .ok (.if_icmp .ge 25, 3) := by decide +kernel
theorem dX8_sumOf_15 : decode cX8_sumOf 15 = .ok (.iload 5, 2) := by decide +kernel
theorem dX8_sumOf_17 : decode cX8_sumOf 17 = .ok (.aload_n 0, 1) := by decide +kernel
theorem dX8_sumOf_18 : decode cX8_sumOf 18 = .ok (.iload 6, 2) := by decide +kernel
theorem dX8_sumOf_20 : decode cX8_sumOf 20 = .ok (.iload_n 1, 1) := by decide +kernel
theorem dX8_sumOf_21 : decode cX8_sumOf 21 = .ok (.iload_n 2, 1) := by decide +kernel
theorem dX8_sumOf_22 : decode cX8_sumOf 22 = .ok (.iload_n 3, 1) := by decide +kernel
theorem dX8_sumOf_23 : decode cX8_sumOf 23 = .ok (.iload 4, 2) := by decide +kernel
theorem dX8_sumOf_25 : decode cX8_sumOf 25 = .ok (.invokevirtual 143, 3) := by decide +kernel
theorem dX8_sumOf_28 : decode cX8_sumOf 28 = .ok (.iadd, 1) := by decide +kernel
theorem dX8_sumOf_29 : decode cX8_sumOf 29 = .ok (.istore 5, 2) := by decide +kernel
theorem dX8_sumOf_31 : decode cX8_sumOf 31 = .ok (.iinc 6 1, 3) := by decide +kernel
theorem dX8_sumOf_34 : decode cX8_sumOf 34 = .ok (.goto (-28), 3) := by decide +kernel
theorem dX8_sumOf_37 : decode cX8_sumOf 37 = .ok (.iload 5, 2) := by decide +kernel
theorem dX8_sumOf_39 : decode cX8_sumOf 39 = .ok (.ireturn, 1) := by decide +kernel
theorem dX8_medoids_0 : decode cX8_medoids 0 = .ok (.iload_n 1, 1) := by decide +kernel
theorem dX8_medoids_1 : decode cX8_medoids 1 = .ok (.iconst 0, 1) := by decide +kernel
theorem dX8_medoids_2 : decode cX8_medoids 2 = .ok (.iconst 1, 1) := by decide +kernel
theorem dX8_medoids_3 : decode cX8_medoids 3 = .ok (.invokestatic 85, 3) := by decide +kernel
theorem dX8_medoids_6 : decode cX8_medoids 6 = .ok (.ifCond .eq 21, 3) := by decide +kernel
theorem dX8_medoids_9 : decode cX8_medoids 9 = .ok (.iload_n 2, 1) := by decide +kernel
theorem dX8_medoids_10 : decode cX8_medoids 10 = .ok (.iconst 0, 1) := by decide +kernel
theorem dX8_medoids_11 : decode cX8_medoids 11 = .ok (.iconst 2, 1) := by decide +kernel
theorem dX8_medoids_12 : decode cX8_medoids 12 = .ok (.invokestatic 85, 3) := by decide +kernel
theorem dX8_medoids_15 : decode cX8_medoids 15 = .ok (.ifCond .eq 12, 3) := by decide +kernel
theorem dX8_medoids_18 : decode cX8_medoids 18 = .ok (.iload_n 3, 1) := by decide +kernel
theorem dX8_medoids_19 : decode cX8_medoids 19 = .ok (.iconst 1, 1) := by decide +kernel
theorem dX8_medoids_20 : decode cX8_medoids 20 = .ok (.iconst 3, 1) := by decide +kernel
theorem dX8_medoids_21 : decode cX8_medoids 21 = .ok (.invokestatic 85, 3) := by decide +kernel
theorem dX8_medoids_24 : decode cX8_medoids 24 = .ok (.ifCond .ne 6, 3) := by decide +kernel
theorem dX8_medoids_27 : decode cX8_medoids 27 = .ok (.ldc 96, 2) := by decide +kernel
theorem dX8_medoids_29 : decode cX8_medoids 29 = .ok (.ireturn, 1) := by decide +kernel
theorem dX8_medoids_30 : decode cX8_medoids 30 = .ok (.aload_n 0, 1) := by decide +kernel
theorem dX8_medoids_31 : decode cX8_medoids 31 = .ok (.getfield 82, 3) := by decide +kernel
theorem dX8_medoids_34 : decode cX8_medoids 34 = .ok (.iload_n 3, 1) := by decide +kernel
theorem dX8_medoids_35 : decode cX8_medoids 35 = .ok (.if_icmp .ge 6, 3) := by decide +kernel
theorem dX8_medoids_38 : decode cX8_medoids 38 = .ok (.ldc 97, 2) := by decide +kernel
theorem dX8_medoids_40 : decode cX8_medoids 40 = .ok (.ireturn, 1) := by decide +kernel
theorem dX8_medoids_41 : decode cX8_medoids 41 = .ok (.aload_n 0, 1) := by decide +kernel
theorem dX8_medoids_42 : decode cX8_medoids 42 = .ok (.iload_n 2, 1) := by decide +kernel
theorem dX8_medoids_43 : decode cX8_medoids 43 = .ok (.invokevirtual 114, 3) := by decide +kernel
theorem dX8_medoids_46 : decode cX8_medoids 46 = .ok (.iconst (-1), 1) := by decide +kernel
theorem dX8_medoids_47 : decode cX8_medoids 47 = .ok (.istore 4, 2) := by decide +kernel
theorem dX8_medoids_49 : decode cX8_medoids 49 = .ok (.iconst 0, 1) := by decide +kernel
theorem dX8_medoids_50 : decode cX8_medoids 50 = .ok (.istore 5, 2) := by decide +kernel
theorem dX8_medoids_52 : decode cX8_medoids 52 = .ok (.iload 5, 2) := by decide +kernel
theorem dX8_medoids_54 : decode cX8_medoids 54 = .ok (.aload_n 0, 1) := by decide +kernel
theorem dX8_medoids_55 : decode cX8_medoids 55 = .ok (.getfield 82, 3) := by decide +kernel
theorem dX8_medoids_58 : decode cX8_medoids 58 = .ok (.if_icmp .ge 133, 3) := by decide +kernel
theorem dX8_medoids_61 : decode cX8_medoids 61 = .ok (.iload_n 3, 1) := by decide +kernel
theorem dX8_medoids_62 : decode cX8_medoids 62 = .ok (.iconst 1, 1) := by decide +kernel
theorem dX8_medoids_63 : decode cX8_medoids 63 = .ok (.if_icmp .le 10, 3) := by decide +kernel
theorem dX8_medoids_66 : decode cX8_medoids 66 = .ok (.iload 5, 2) := by decide +kernel
theorem dX8_medoids_68 : decode cX8_medoids 68 = .ok (.iconst 1, 1) := by decide +kernel
theorem dX8_medoids_69 : decode cX8_medoids 69 = .ok (.iadd, 1) := by decide +kernel
theorem dX8_medoids_70 : decode cX8_medoids 70 = .ok (.goto 9, 3) := by decide +kernel
theorem dX8_medoids_73 : decode cX8_medoids 73 = .ok (.aload_n 0, 1) := by decide +kernel
theorem dX8_medoids_74 : decode cX8_medoids 74 = .ok (.getfield 82, 3) := by decide +kernel
theorem dX8_medoids_77 : decode cX8_medoids 77 = .ok (.iconst 1, 1) := by decide +kernel
theorem dX8_medoids_78 : decode cX8_medoids 78 = .ok (.isub, 1) := by decide +kernel
theorem dX8_medoids_79 : decode cX8_medoids 79 = .ok (.istore 6, 2) := by decide +kernel
theorem dX8_medoids_81 : decode cX8_medoids 81 = .ok (.iload 6, 2) := by decide +kernel
theorem dX8_medoids_83 : decode cX8_medoids 83 = .ok (.aload_n 0, 1) := by decide +kernel
theorem dX8_medoids_84 : decode cX8_medoids 84 = .ok (.getfield 82, 3) := by decide +kernel
theorem dX8_medoids_87 : decode cX8_medoids 87 = .ok (.if_icmp .ge 98, 3) := by decide +kernel
theorem dX8_medoids_90 : decode cX8_medoids 90 = .ok (.iload_n 3, 1) := by decide +kernel
theorem dX8_medoids_91 : decode cX8_medoids 91 = .ok (.iconst 2, 1) := by decide +kernel
theorem dX8_medoids_92 : decode cX8_medoids 92 = .ok (.if_icmp .le 10, 3) := by decide +kernel
theorem dX8_medoids_95 : decode cX8_medoids 95 = .ok (.iload 6, 2) := by decide +kernel
theorem dX8_medoids_97 : decode cX8_medoids 97 = .ok (.iconst 1, 1) := by decide +kernel
theorem dX8_medoids_98 : decode cX8_medoids 98 = .ok (.iadd, 1) := by decide +kernel
theorem dX8_medoids_99 : decode cX8_medoids 99 = .ok (.goto 9, 3) := by decide +kernel
theorem dX8_medoids_102 : decode cX8_medoids 102 = .ok (.aload_n 0, 1) := by decide +kernel
theorem dX8_medoids_103 : decode cX8_medoids 103 = .ok (.getfield 82, 3) := by decide +kernel
theorem dX8_medoids_106 : decode cX8_medoids 106 = .ok (.iconst 1, 1) := by decide +kernel
theorem dX8_medoids_107 : decode cX8_medoids 107 = .ok (.isub, 1) := by decide +kernel
theorem dX8_medoids_108 : decode cX8_medoids 108 = .ok (.istore 7, 2) := by decide +kernel
theorem dX8_medoids_110 : decode cX8_medoids 110 = .ok (.iload 7, 2) := by decide +kernel
theorem dX8_medoids_112 : decode cX8_medoids 112 = .ok (.aload_n 0, 1) := by decide +kernel
theorem dX8_medoids_113 : decode cX8_medoids 113 = .ok (.getfield 82, 3) := by decide +kernel
theorem dX8_medoids_116 : decode cX8_medoids 116 = .ok (.if_icmp .ge 63, 3) := by decide +kernel
theorem dX8_medoids_119 : decode cX8_medoids 119 = .ok (.aload_n 0, 1) := by decide +kernel
theorem dX8_medoids_120 : decode cX8_medoids 120 = .ok (.iload_n 3, 1) := by decide +kernel
theorem dX8_medoids_121 : decode cX8_medoids 121 = .ok (.iload 5, 2) := by decide +kernel
theorem dX8_medoids_123 : decode cX8_medoids 123 = .ok (.iload 6, 2) := by decide +kernel
theorem dX8_medoids_125 : decode cX8_medoids 125 = .ok (.iload 7, 2) := by decide +kernel
theorem dX8_medoids_127 : decode cX8_medoids 127 = .ok (.invokevirtual 147, 3) := by decide +kernel
theorem dX8_medoids_130 : decode cX8_medoids 130 = .ok (.istore 8, 2) := by decide +kernel
theorem dX8_medoids_132 : decode cX8_medoids 132 = .ok (.iload 4, 2) := by decide +kernel
theorem dX8_medoids_134 : decode cX8_medoids 134 = .ok (.iconst (-1), 1) := by decide +kernel
theorem dX8_medoids_135 : decode cX8_medoids 135 = .ok (.if_icmp .eq 10, 3) := by decide +kernel
theorem dX8_medoids_138 : decode cX8_medoids 138 = .ok (.iload 8, 2) := by decide +kernel
theorem dX8_medoids_140 : decode cX8_medoids 140 = .ok (.iload 4, 2) := by decide +kernel
theorem dX8_medoids_142 : decode cX8_medoids 142 = .ok (.if_icmp .ge 31, 3) := by decide +kernel
theorem dX8_medoids_145 : decode cX8_medoids 145 = .ok (.iload 8, 2) := by decide +kernel
theorem dX8_medoids_147 : decode cX8_medoids 147 = .ok (.istore 4, 2) := by decide +kernel
theorem dX8_medoids_149 : decode cX8_medoids 149 = .ok (.aload_n 0, 1) := by decide +kernel
theorem dX8_medoids_150 : decode cX8_medoids 150 = .ok (.getfield 27, 3) := by decide +kernel
theorem dX8_medoids_153 : decode cX8_medoids 153 = .ok (.iconst 0, 1) := by decide +kernel
theorem dX8_medoids_154 : decode cX8_medoids 154 = .ok (.iload 5, 2) := by decide +kernel
theorem dX8_medoids_156 : decode cX8_medoids 156 = .ok (.iastore, 1) := by decide +kernel
theorem dX8_medoids_157 : decode cX8_medoids 157 = .ok (.aload_n 0, 1) := by decide +kernel
theorem dX8_medoids_158 : decode cX8_medoids 158 = .ok (.getfield 27, 3) := by decide +kernel
theorem dX8_medoids_161 : decode cX8_medoids 161 = .ok (.iconst 1, 1) := by decide +kernel
theorem dX8_medoids_162 : decode cX8_medoids 162 = .ok (.iload 6, 2) := by decide +kernel
theorem dX8_medoids_164 : decode cX8_medoids 164 = .ok (.iastore, 1) := by decide +kernel
theorem dX8_medoids_165 : decode cX8_medoids 165 = .ok (.aload_n 0, 1) := by decide +kernel
theorem dX8_medoids_166 : decode cX8_medoids 166 = .ok (.getfield 27, 3) := by decide +kernel
theorem dX8_medoids_169 : decode cX8_medoids 169 = .ok (.iconst 2, 1) := by decide +kernel
theorem dX8_medoids_170 : decode cX8_medoids 170 = .ok (.iload 7, 2) := by decide +kernel
theorem dX8_medoids_172 : decode cX8_medoids 172 = .ok (.iastore, 1) := by decide +kernel
theorem dX8_medoids_173 : decode cX8_medoids 173 = .ok (.iinc 7 1, 3) := by decide +kernel
theorem dX8_medoids_176 : decode cX8_medoids 176 = .ok (.goto (-66), 3) := by decide +kernel
theorem dX8_medoids_179 : decode cX8_medoids 179 = .ok (.iinc 6 1, 3) := by decide +kernel
theorem dX8_medoids_182 : decode cX8_medoids 182 = .ok (.goto (-101), 3) := by decide +kernel
theorem dX8_medoids_185 : decode cX8_medoids 185 = .ok (.iinc 5 1, 3) := by decide +kernel
theorem dX8_medoids_188 : decode cX8_medoids 188 = .ok (.goto (-136), 3) := by decide +kernel
theorem dX8_medoids_191 : decode cX8_medoids 191 = .ok (.aload_n 0, 1) := by decide +kernel
theorem dX8_medoids_192 : decode cX8_medoids 192 = .ok (.iload_n 3, 1) := by decide +kernel
theorem dX8_medoids_193 : decode cX8_medoids 193 = .ok (.putfield 89, 3) := by decide +kernel
theorem dX8_medoids_196 : decode cX8_medoids 196 = .ok (.iconst 0, 1) := by decide +kernel
theorem dX8_medoids_197 : decode cX8_medoids 197 = .ok (.istore 5, 2) := by decide +kernel
theorem dX8_medoids_199 : decode cX8_medoids 199 = .ok (.iload 5, 2) := by decide +kernel
theorem dX8_medoids_201 : decode cX8_medoids 201 = .ok (.aload_n 0, 1) := by decide +kernel
theorem dX8_medoids_202 : decode cX8_medoids 202 = .ok (.getfield 82, 3) := by decide +kernel
theorem dX8_medoids_205 : decode cX8_medoids 205 = .ok (.if_icmp .ge 81, 3) := by decide +kernel
theorem dX8_medoids_208 : decode cX8_medoids 208 = .ok (.iconst 0, 1) := by decide +kernel
theorem dX8_medoids_209 : decode cX8_medoids 209 = .ok (.istore 6, 2) := by decide +kernel
theorem dX8_medoids_211 : decode cX8_medoids 211 = .ok (.iconst 1, 1) := by decide +kernel
theorem dX8_medoids_212 : decode cX8_medoids 212 = .ok (.istore 7, 2) := by decide +kernel
theorem dX8_medoids_214 : decode cX8_medoids 214 = .ok (.iload 7, 2) := by decide +kernel
theorem dX8_medoids_216 : decode cX8_medoids 216 = .ok (.iload_n 3, 1) := by decide +kernel
theorem dX8_medoids_217 : decode cX8_medoids 217 = .ok (.if_icmp .ge 49, 3) := by decide +kernel
theorem dX8_medoids_220 : decode cX8_medoids 220 = .ok (.aload_n 0, 1) := by decide +kernel
theorem dX8_medoids_221 : decode cX8_medoids 221 = .ok (.iload_n 2, 1) := by decide +kernel
theorem dX8_medoids_222 : decode cX8_medoids 222 = .ok (.iload 5, 2) := by decide +kernel
theorem dX8_medoids_224 : decode cX8_medoids 224 = .ok (.aload_n 0, 1) := by decide +kernel
theorem dX8_medoids_225 : decode cX8_medoids 225 = .ok (.getfield 27, 3) := by decide +kernel
theorem dX8_medoids_228 : decode cX8_medoids 228 = .ok (.iload 7, 2) := by decide +kernel
theorem dX8_medoids_230 : decode cX8_medoids 230 = .ok (.iaload, 1) := by decide +kernel
theorem dX8_medoids_231 : decode cX8_medoids 231 = .ok (.invokevirtual 105, 3) := by decide +kernel
theorem dX8_medoids_234 : decode cX8_medoids 234 = .ok (.aload_n 0, 1) := by decide +kernel
theorem dX8_medoids_235 : decode cX8_medoids 235 = .ok (.iload_n 2, 1) := by decide +kernel
theorem dX8_medoids_236 : decode cX8_medoids 236 = .ok (.iload 5, 2) := by decide +kernel
theorem dX8_medoids_238 : decode cX8_medoids 238 = .ok (.aload_n 0, 1) := by decide +kernel
theorem dX8_medoids_239 : decode cX8_medoids 239 = .ok (.getfield 27, 3) := by decide +kernel
theorem dX8_medoids_242 : decode cX8_medoids 242 = .ok (.iload 6, 2) := by decide +kernel
theorem dX8_medoids_244 : decode cX8_medoids 244 = .ok (.iaload, 1) := by decide +kernel
theorem dX8_medoids_245 : decode cX8_medoids 245 = .ok (.invokevirtual 105, 3) := by decide +kernel
theorem dX8_medoids_248 : decode cX8_medoids 248 = .ok (.if_icmp .ge 8, 3) := by decide +kernel
theorem dX8_medoids_251 : decode cX8_medoids 251 = .ok (.iload 7, 2) := by decide +kernel
theorem dX8_medoids_253 : decode cX8_medoids 253 = .ok (.goto 5, 3) := by decide +kernel
theorem dX8_medoids_256 : decode cX8_medoids 256 = .ok (.iload 6, 2) := by decide +kernel
theorem dX8_medoids_258 : decode cX8_medoids 258 = .ok (.istore 6, 2) := by decide +kernel
theorem dX8_medoids_260 : decode cX8_medoids 260 = .ok (.iinc 7 1, 3) := by decide +kernel
theorem dX8_medoids_263 : decode cX8_medoids 263 = .ok (.goto (-49), 3) := by decide +kernel
theorem dX8_medoids_266 : decode cX8_medoids 266 = .ok (.aload_n 0, 1) := by decide +kernel
theorem dX8_medoids_267 : decode cX8_medoids 267 = .ok (.getfield 24, 3) := by decide +kernel
theorem dX8_medoids_270 : decode cX8_medoids 270 = .ok (.bipush 30, 2) := by decide +kernel
theorem dX8_medoids_272 : decode cX8_medoids 272 = .ok (.iload_n 1, 1) := by decide +kernel
theorem dX8_medoids_273 : decode cX8_medoids 273 = .ok (.imul, 1) := by decide +kernel
theorem dX8_medoids_274 : decode cX8_medoids 274 = .ok (.iload 5, 2) := by decide +kernel
theorem dX8_medoids_276 : decode cX8_medoids 276 = .ok (.iadd, 1) := by decide +kernel
theorem dX8_medoids_277 : decode cX8_medoids 277 = .ok (.iload 6, 2) := by decide +kernel
theorem dX8_medoids_279 : decode cX8_medoids 279 = .ok (.iastore, 1) := by decide +kernel
theorem dX8_medoids_280 : decode cX8_medoids 280 = .ok (.iinc 5 1, 3) := by decide +kernel
theorem dX8_medoids_283 : decode cX8_medoids 283 = .ok (.goto (-84), 3) := by decide +kernel
theorem dX8_medoids_286 : decode cX8_medoids 286 = .ok (.aload_n 0, 1) := by decide +kernel
theorem dX8_medoids_287 : decode cX8_medoids 287 = .ok (.getfield 21, 3) := by decide +kernel
theorem dX8_medoids_290 : decode cX8_medoids 290 = .ok (.iload_n 1, 1) := by decide +kernel
theorem dX8_medoids_291 : decode cX8_medoids 291 = .ok (.iload_n 3, 1) := by decide +kernel
theorem dX8_medoids_292 : decode cX8_medoids 292 = .ok (.iastore, 1) := by decide +kernel
theorem dX8_medoids_293 : decode cX8_medoids 293 = .ok (.aload_n 0, 1) := by decide +kernel
theorem dX8_medoids_294 : decode cX8_medoids 294 = .ok (.getfield 17, 3) := by decide +kernel
theorem dX8_medoids_297 : decode cX8_medoids 297 = .ok (.iload_n 1, 1) := by decide +kernel
theorem dX8_medoids_298 : decode cX8_medoids 298 = .ok (.iconst 1, 1) := by decide +kernel
theorem dX8_medoids_299 : decode cX8_medoids 299 = .ok (.bastore, 1) := by decide +kernel
theorem dX8_medoids_300 : decode cX8_medoids 300 = .ok (.iload 4, 2) := by decide +kernel
theorem dX8_medoids_302 : decode cX8_medoids 302 = .ok (.ireturn, 1) := by decide +kernel
theorem dX8_medoid_0 : decode cX8_medoid 0 = .ok (.iload_n 1, 1) := by decide +kernel
theorem dX8_medoid_1 : decode cX8_medoid 1 = .ok (.iconst 0, 1) := by decide +kernel
theorem dX8_medoid_2 : decode cX8_medoid 2 = .ok (.aload_n 0, 1) := by decide +kernel
theorem dX8_medoid_3 : decode cX8_medoid 3 = .ok (.getfield 89, 3) := by decide +kernel
theorem dX8_medoid_6 : decode cX8_medoid 6 = .ok (.iconst 1, 1) := by decide +kernel
theorem dX8_medoid_7 : decode cX8_medoid 7 = .ok (.isub, 1) := by decide +kernel
theorem dX8_medoid_8 : decode cX8_medoid 8 = .ok (.invokestatic 85, 3) := by decide +kernel
theorem dX8_medoid_11 : decode cX8_medoid 11 = .ok (.ifCond .eq 12, 3) := by decide +kernel
theorem dX8_medoid_14 : decode cX8_medoid 14 = .ok (.aload_n 0, 1) := by decide +kernel
theorem dX8_medoid_15 : decode cX8_medoid 15 = .ok (.getfield 27, 3) := by decide +kernel
theorem dX8_medoid_18 : decode cX8_medoid 18 = .ok (.iload_n 1, 1) := by decide +kernel
theorem dX8_medoid_19 : decode cX8_medoid 19 = .ok (.iaload, 1) := by decide +kernel
theorem dX8_medoid_20 : decode cX8_medoid 20 = .ok (.goto 4, 3) := by decide +kernel
theorem dX8_medoid_23 : decode cX8_medoid 23 = .ok (.iconst (-1), 1) := by decide +kernel
theorem dX8_medoid_24 : decode cX8_medoid 24 = .ok (.ireturn, 1) := by decide +kernel
theorem dX8_density_0 : decode cX8_density 0 = .ok (.iload_n 1, 1) := by decide +kernel
theorem dX8_density_1 : decode cX8_density 1 = .ok (.iconst 0, 1) := by decide +kernel
theorem dX8_density_2 : decode cX8_density 2 = .ok (.iconst 1, 1) := by decide +kernel
theorem dX8_density_3 : decode cX8_density 3 = .ok (.invokestatic 85, 3) := by decide +kernel
theorem dX8_density_6 : decode cX8_density 6 = .ok (.ifCond .eq 33, 3) := by decide +kernel
theorem dX8_density_9 : decode cX8_density 9 = .ok (.iload_n 2, 1) := by decide +kernel
theorem dX8_density_10 : decode cX8_density 10 = .ok (.iconst 0, 1) := by decide +kernel
theorem dX8_density_11 : decode cX8_density 11 = .ok (.iconst 2, 1) := by decide +kernel
theorem dX8_density_12 : decode cX8_density 12 = .ok (.invokestatic 85, 3) := by decide +kernel
theorem dX8_density_15 : decode cX8_density 15 = .ok (.ifCond .eq 24, 3) := by decide +kernel
theorem dX8_density_18 : decode cX8_density 18 = .ok (.iload_n 3, 1) := by decide +kernel
theorem dX8_density_19 : decode cX8_density 19 = .ok (.iconst 0, 1) := by decide +kernel
theorem dX8_density_20 : decode cX8_density 20 = .ok (.ldc 151, 2) := by decide +kernel
theorem dX8_density_22 : decode cX8_density 22 = .ok (.invokestatic 85, 3) := by decide +kernel
theorem dX8_density_25 : decode cX8_density 25 = .ok (.ifCond .eq 14, 3) := by decide +kernel
theorem dX8_density_28 : decode cX8_density 28 = .ok (.iload 4, 2) := by decide +kernel
theorem dX8_density_30 : decode cX8_density 30 = .ok (.iconst 1, 1) := by decide +kernel
theorem dX8_density_31 : decode cX8_density 31 = .ok (.bipush 30, 2) := by decide +kernel
theorem dX8_density_33 : decode cX8_density 33 = .ok (.invokestatic 85, 3) := by decide +kernel
theorem dX8_density_36 : decode cX8_density 36 = .ok (.ifCond .ne 6, 3) := by decide +kernel
theorem dX8_density_39 : decode cX8_density 39 = .ok (.ldc 96, 2) := by decide +kernel
theorem dX8_density_41 : decode cX8_density 41 = .ok (.ireturn, 1) := by decide +kernel
theorem dX8_density_42 : decode cX8_density 42 = .ok (.aload_n 0, 1) := by decide +kernel
theorem dX8_density_43 : decode cX8_density 43 = .ok (.getfield 82, 3) := by decide +kernel
theorem dX8_density_46 : decode cX8_density 46 = .ok (.ifCond .ne 6, 3) := by decide +kernel
theorem dX8_density_49 : decode cX8_density 49 = .ok (.ldc 97, 2) := by decide +kernel
theorem dX8_density_51 : decode cX8_density 51 = .ok (.ireturn, 1) := by decide +kernel
theorem dX8_density_52 : decode cX8_density 52 = .ok (.iconst 0, 1) := by decide +kernel
theorem dX8_density_53 : decode cX8_density 53 = .ok (.istore 5, 2) := by decide +kernel
theorem dX8_density_55 : decode cX8_density 55 = .ok (.iload 5, 2) := by decide +kernel
theorem dX8_density_57 : decode cX8_density 57 = .ok (.aload_n 0, 1) := by decide +kernel
theorem dX8_density_58 : decode cX8_density 58 = .ok (.getfield 82, 3) := by decide +kernel
theorem dX8_density_61 : decode cX8_density 61 = .ok (.if_icmp .ge 80, 3) := by decide +kernel
theorem dX8_density_64 : decode cX8_density 64 = .ok (.iconst 0, 1) := by decide +kernel
theorem dX8_density_65 : decode cX8_density 65 = .ok (.istore 6, 2) := by decide +kernel
theorem dX8_density_67 : decode cX8_density 67 = .ok (.iconst 0, 1) := by decide +kernel
theorem dX8_density_68 : decode cX8_density 68 = .ok (.istore 7, 2) := by decide +kernel
theorem dX8_density_70 : decode cX8_density 70 = .ok (.iload 7, 2) := by decide +kernel
theorem dX8_density_72 : decode cX8_density 72 = .ok (.aload_n 0, 1) := by decide +kernel
theorem dX8_density_73 : decode cX8_density 73 = .ok (.getfield 82, 3) := by decide +kernel
theorem dX8_density_76 : decode cX8_density 76 = .ok (.if_icmp .ge 32, 3) := by decide +kernel
theorem dX8_density_79 : decode cX8_density 79 = .ok (.iload 6, 2) := by decide +kernel
theorem dX8_density_81 : decode cX8_density 81 = .ok (.aload_n 0, 1) := by decide +kernel
theorem dX8_density_82 : decode cX8_density 82 = .ok (.iload_n 2, 1) := by decide +kernel
theorem dX8_density_83 : decode cX8_density 83 = .ok (.iload 5, 2) := by decide +kernel
theorem dX8_density_85 : decode cX8_density 85 = .ok (.iload 7, 2) := by decide +kernel
theorem dX8_density_87 : decode cX8_density 87 = .ok (.invokevirtual 105, 3) := by decide +kernel
theorem dX8_density_90 : decode cX8_density 90 = .ok (.iload_n 3, 1) := by decide +kernel
theorem dX8_density_91 : decode cX8_density 91 = .ok (.if_icmp .gt 7, 3) := by decide +kernel
theorem dX8_density_94 : decode cX8_density 94 = .ok (.iconst 1, 1) := by decide +kernel
theorem dX8_density_95 : decode cX8_density 95 = .ok (.goto 4, 3) := by decide +kernel
theorem dX8_density_98 : decode cX8_density 98 = .ok (.iconst 0, 1) := by decide +kernel
theorem dX8_density_99 : decode cX8_density 99 = .ok (.iadd, 1) := by decide +kernel
theorem dX8_density_100 : decode cX8_density 100 = .ok (.istore 6, 2) := by decide +kernel
theorem dX8_density_102 : decode cX8_density 102 = .ok (.iinc 7 1, 3) := by decide +kernel
theorem dX8_density_105 : decode cX8_density 105 = .ok (.goto (-35), 3) := by decide +kernel
theorem dX8_density_108 : decode cX8_density 108 = .ok (.aload_n 0, 1) := by decide +kernel
theorem dX8_density_109 : decode cX8_density 109 = .ok (.getfield 61, 3) := by decide +kernel
theorem dX8_density_112 : decode cX8_density 112 = .ok (.iload 5, 2) := by decide +kernel
theorem dX8_density_114 : decode cX8_density 114 = .ok (.iload 6, 2) := by decide +kernel
theorem dX8_density_116 : decode cX8_density 116 = .ok (.iload 4, 2) := by decide +kernel
theorem dX8_density_118 : decode cX8_density 118 = .ok (.if_icmp .lt 7, 3) := by decide +kernel
theorem dX8_density_121 : decode cX8_density 121 = .ok (.iconst 1, 1) := by decide +kernel
theorem dX8_density_122 : decode cX8_density 122 = .ok (.goto 4, 3) := by decide +kernel
theorem dX8_density_125 : decode cX8_density 125 = .ok (.iconst 0, 1) := by decide +kernel
theorem dX8_density_126 : decode cX8_density 126 = .ok (.bastore, 1) := by decide +kernel
theorem dX8_density_127 : decode cX8_density 127 = .ok (.aload_n 0, 1) := by decide +kernel
theorem dX8_density_128 : decode cX8_density 128 = .ok (.getfield 55, 3) := by decide +kernel
theorem dX8_density_131 : decode cX8_density 131 = .ok (.iload 5, 2) := by decide +kernel
theorem dX8_density_133 : decode cX8_density 133 = .ok (.iconst (-1), 1) := by decide +kernel
theorem dX8_density_134 : decode cX8_density 134 = .ok (.iastore, 1) := by decide +kernel
theorem dX8_density_135 : decode cX8_density 135 = .ok (.iinc 5 1, 3) := by decide +kernel
theorem dX8_density_138 : decode cX8_density 138 = .ok (.goto (-83), 3) := by decide +kernel
theorem dX8_density_141 : decode cX8_density 141 = .ok (.iconst 0, 1) := by decide +kernel
theorem dX8_density_142 : decode cX8_density 142 = .ok (.istore 5, 2) := by decide +kernel
theorem dX8_density_144 : decode cX8_density 144 = .ok (.iconst 0, 1) := by decide +kernel
theorem dX8_density_145 : decode cX8_density 145 = .ok (.istore 6, 2) := by decide +kernel
theorem dX8_density_147 : decode cX8_density 147 = .ok (.iload 6, 2) := by decide +kernel
theorem dX8_density_149 : decode cX8_density 149 = .ok (.aload_n 0, 1) := by decide +kernel
theorem dX8_density_150 : decode cX8_density 150 = .ok (.getfield 82, 3) := by decide +kernel
theorem dX8_density_153 : decode cX8_density 153 = .ok (.if_icmp .ge 50, 3) := by decide +kernel
theorem dX8_density_156 : decode cX8_density 156 = .ok (.aload_n 0, 1) := by decide +kernel
theorem dX8_density_157 : decode cX8_density 157 = .ok (.getfield 61, 3) := by decide +kernel
theorem dX8_density_160 : decode cX8_density 160 = .ok (.iload 6, 2) := by decide +kernel
theorem dX8_density_162 : decode cX8_density 162 = .ok (.baload, 1) := by decide +kernel
theorem dX8_density_163 : decode cX8_density 163 = .ok (.ifCond .eq 34, 3) := by decide +kernel
theorem dX8_density_166 : decode cX8_density 166 = .ok (.aload_n 0, 1) := by decide +kernel
theorem dX8_density_167 : decode cX8_density 167 = .ok (.getfield 55, 3) := by decide +kernel
theorem dX8_density_170 : decode cX8_density 170 = .ok (.iload 6, 2) := by decide +kernel
theorem dX8_density_172 : decode cX8_density 172 = .ok (.iaload, 1) := by decide +kernel
theorem dX8_density_173 : decode cX8_density 173 = .ok (.iconst (-1), 1) := by decide +kernel
theorem dX8_density_174 : decode cX8_density 174 = .ok (.if_icmp .ne 23, 3) := by decide +kernel
theorem dX8_density_177 : decode cX8_density 177 = .ok (.aload_n 0, 1) := by decide +kernel
theorem dX8_density_178 : decode cX8_density 178 = .ok (.getfield 55, 3) := by decide +kernel
theorem dX8_density_181 : decode cX8_density 181 = .ok (.iload 6, 2) := by decide +kernel
theorem dX8_density_183 : decode cX8_density 183 = .ok (.iload 5, 2) := by decide +kernel
theorem dX8_density_185 : decode cX8_density 185 = .ok (.iastore, 1) := by decide +kernel
theorem dX8_density_186 : decode cX8_density 186 = .ok (.aload_n 0, 1) := by decide +kernel
theorem dX8_density_187 : decode cX8_density 187 = .ok (.iload_n 2, 1) := by decide +kernel
theorem dX8_density_188 : decode cX8_density 188 = .ok (.iload_n 3, 1) := by decide +kernel
theorem dX8_density_189 : decode cX8_density 189 = .ok (.iload 5, 2) := by decide +kernel
theorem dX8_density_191 : decode cX8_density 191 = .ok (.invokevirtual 152, 3) := by decide +kernel
theorem dX8_density_194 : decode cX8_density 194 = .ok (.iinc 5 1, 3) := by decide +kernel
theorem dX8_density_197 : decode cX8_density 197 = .ok (.iinc 6 1, 3) := by decide +kernel
theorem dX8_density_200 : decode cX8_density 200 = .ok (.goto (-53), 3) := by decide +kernel
theorem dX8_density_203 : decode cX8_density 203 = .ok (.iconst 0, 1) := by decide +kernel
theorem dX8_density_204 : decode cX8_density 204 = .ok (.istore 6, 2) := by decide +kernel
theorem dX8_density_206 : decode cX8_density 206 = .ok (.iload 6, 2) := by decide +kernel
theorem dX8_density_208 : decode cX8_density 208 = .ok (.aload_n 0, 1) := by decide +kernel
theorem dX8_density_209 : decode cX8_density 209 = .ok (.getfield 82, 3) := by decide +kernel
theorem dX8_density_212 : decode cX8_density 212 = .ok (.if_icmp .ge 127, 3) := by decide +kernel
theorem dX8_density_215 : decode cX8_density 215 = .ok (.aload_n 0, 1) := by decide +kernel
theorem dX8_density_216 : decode cX8_density 216 = .ok (.getfield 55, 3) := by decide +kernel
theorem dX8_density_219 : decode cX8_density 219 = .ok (.iload 6, 2) := by decide +kernel
theorem dX8_density_221 : decode cX8_density 221 = .ok (.iaload, 1) := by decide +kernel
theorem dX8_density_222 : decode cX8_density 222 = .ok (.istore 7, 2) := by decide +kernel
theorem dX8_density_224 : decode cX8_density 224 = .ok (.iconst 0, 1) := by decide +kernel
theorem dX8_density_225 : decode cX8_density 225 = .ok (.istore 8, 2) := by decide +kernel
theorem dX8_density_227 : decode cX8_density 227 = .ok (.iload 8, 2) := by decide +kernel
theorem dX8_density_229 : decode cX8_density 229 = .ok (.aload_n 0, 1) := by decide +kernel
theorem dX8_density_230 : decode cX8_density 230 = .ok (.getfield 82, 3) := by decide +kernel
theorem dX8_density_233 : decode cX8_density 233 = .ok (.if_icmp .ge 86, 3) := by decide +kernel
theorem dX8_density_236 : decode cX8_density 236 = .ok (.aload_n 0, 1) := by decide +kernel
theorem dX8_density_237 : decode cX8_density 237 = .ok (.getfield 61, 3) := by decide +kernel
theorem dX8_density_240 : decode cX8_density 240 = .ok (.iload 6, 2) := by decide +kernel
theorem dX8_density_242 : decode cX8_density 242 = .ok (.baload, 1) := by decide +kernel
theorem dX8_density_243 : decode cX8_density 243 = .ok (.ifCond .ne 76, 3) := by decide +kernel
theorem dX8_density_246 : decode cX8_density 246 = .ok (.aload_n 0, 1) := by decide +kernel
theorem dX8_density_247 : decode cX8_density 247 = .ok (.getfield 61, 3) := by decide +kernel
theorem dX8_density_250 : decode cX8_density 250 = .ok (.iload 8, 2) := by decide +kernel
theorem dX8_density_252 : decode cX8_density 252 = .ok (.baload, 1) := by decide +kernel
theorem dX8_density_253 : decode cX8_density 253 = .ok (.ifCond .eq 20, 3) := by decide +kernel
theorem dX8_density_256 : decode cX8_density 256 = .ok (.aload_n 0, 1) := by decide +kernel
theorem dX8_density_257 : decode cX8_density 257 = .ok (.iload_n 2, 1) := by decide +kernel
theorem dX8_density_258 : decode cX8_density 258 = .ok (.iload 6, 2) := by decide +kernel
theorem dX8_density_260 : decode cX8_density 260 = .ok (.iload 8, 2) := by decide +kernel
theorem dX8_density_262 : decode cX8_density 262 = .ok (.invokevirtual 105, 3) := by decide +kernel
theorem dX8_density_265 : decode cX8_density 265 = .ok (.iload_n 3, 1) := by decide +kernel
theorem dX8_density_266 : decode cX8_density 266 = .ok (.if_icmp .gt 7, 3) := by decide +kernel
theorem dX8_density_269 : decode cX8_density 269 = .ok (.iconst 1, 1) := by decide +kernel
theorem dX8_density_270 : decode cX8_density 270 = .ok (.goto 4, 3) := by decide +kernel
theorem dX8_density_273 : decode cX8_density 273 = .ok (.iconst 0, 1) := by decide +kernel
theorem dX8_density_274 : decode cX8_density 274 = .ok (.istore 9, 2) := by decide +kernel
theorem dX8_density_276 : decode cX8_density 276 = .ok (.iload 9, 2) := by decide +kernel
theorem dX8_density_278 : decode cX8_density 278 = .ok (.ifCond .eq 31, 3) := by decide +kernel
theorem dX8_density_281 : decode cX8_density 281 = .ok (.iload 7, 2) := by decide +kernel
theorem dX8_density_283 : decode cX8_density 283 = .ok (.iconst (-1), 1) := by decide +kernel
theorem dX8_density_284 : decode cX8_density 284 = .ok (.if_icmp .eq 15, 3) := by decide +kernel
theorem dX8_density_287 : decode cX8_density 287 = .ok (.aload_n 0, 1) := by decide +kernel
theorem dX8_density_288 : decode cX8_density 288 = .ok (.getfield 55, 3) := by decide +kernel
theorem dX8_density_291 : decode cX8_density 291 = .ok (.iload 8, 2) := by decide +kernel
theorem dX8_density_293 : decode cX8_density 293 = .ok (.iaload, 1) := by decide +kernel
theorem dX8_density_294 : decode cX8_density 294 = .ok (.iload 7, 2) := by decide +kernel
theorem dX8_density_296 : decode cX8_density 296 = .ok (.if_icmp .ge 13, 3) := by decide +kernel
theorem dX8_density_299 : decode cX8_density 299 = .ok (.aload_n 0, 1) := by decide +kernel
theorem dX8_density_300 : decode cX8_density 300 = .ok (.getfield 55, 3) := by decide +kernel
theorem dX8_density_303 : decode cX8_density 303 = .ok (.iload 8, 2) := by decide +kernel
theorem dX8_density_305 : decode cX8_density 305 = .ok (.iaload, 1) := by decide +kernel
theorem dX8_density_306 : decode cX8_density 306 = .ok (.goto 5, 3) := by decide +kernel
theorem dX8_density_309 : decode cX8_density 309 = .ok (.iload 7, 2) := by decide +kernel
theorem dX8_density_311 : decode cX8_density 311 = .ok (.istore 7, 2) := by decide +kernel
theorem dX8_density_313 : decode cX8_density 313 = .ok (.iinc 8 1, 3) := by decide +kernel
theorem dX8_density_316 : decode cX8_density 316 = .ok (.goto (-89), 3) := by decide +kernel
theorem dX8_density_319 : decode cX8_density 319 = .ok (.aload_n 0, 1) := by decide +kernel
theorem dX8_density_320 : decode cX8_density 320 = .ok (.getfield 24, 3) := by decide +kernel
theorem dX8_density_323 : decode cX8_density 323 = .ok (.bipush 30, 2) := by decide +kernel
theorem dX8_density_325 : decode cX8_density 325 = .ok (.iload_n 1, 1) := by decide +kernel
theorem dX8_density_326 : decode cX8_density 326 = .ok (.imul, 1) := by decide +kernel
theorem dX8_density_327 : decode cX8_density 327 = .ok (.iload 6, 2) := by decide +kernel
theorem dX8_density_329 : decode cX8_density 329 = .ok (.iadd, 1) := by decide +kernel
theorem dX8_density_330 : decode cX8_density 330 = .ok (.iload 7, 2) := by decide +kernel
theorem dX8_density_332 : decode cX8_density 332 = .ok (.iastore, 1) := by decide +kernel
theorem dX8_density_333 : decode cX8_density 333 = .ok (.iinc 6 1, 3) := by decide +kernel
theorem dX8_density_336 : decode cX8_density 336 = .ok (.goto (-130), 3) := by decide +kernel
theorem dX8_density_339 : decode cX8_density 339 = .ok (.aload_n 0, 1) := by decide +kernel
theorem dX8_density_340 : decode cX8_density 340 = .ok (.getfield 21, 3) := by decide +kernel
theorem dX8_density_343 : decode cX8_density 343 = .ok (.iload_n 1, 1) := by decide +kernel
theorem dX8_density_344 : decode cX8_density 344 = .ok (.iload 5, 2) := by decide +kernel
theorem dX8_density_346 : decode cX8_density 346 = .ok (.iastore, 1) := by decide +kernel
theorem dX8_density_347 : decode cX8_density 347 = .ok (.aload_n 0, 1) := by decide +kernel
theorem dX8_density_348 : decode cX8_density 348 = .ok (.getfield 17, 3) := by decide +kernel
theorem dX8_density_351 : decode cX8_density 351 = .ok (.iload_n 1, 1) := by decide +kernel
theorem dX8_density_352 : decode cX8_density 352 = .ok (.iconst 1, 1) := by decide +kernel
theorem dX8_density_353 : decode cX8_density 353 = .ok (.bastore, 1) := by decide +kernel
theorem dX8_density_354 : decode cX8_density 354 = .ok (.iload 5, 2) := by decide +kernel
theorem dX8_density_356 : decode cX8_density 356 = .ok (.ireturn, 1) := by decide +kernel
theorem dX8_spread_0 : decode cX8_spread 0 = .ok (.iconst 1, 1) := by decide +kernel
theorem dX8_spread_1 : decode cX8_spread 1 = .ok (.istore 4, 2) := by decide +kernel
theorem dX8_spread_3 : decode cX8_spread 3 = .ok (.iload 4, 2) := by decide +kernel
theorem dX8_spread_5 : decode cX8_spread 5 = .ok (.ifCond .eq 101, 3) := by decide +kernel
theorem dX8_spread_8 : decode cX8_spread 8 = .ok (.iconst 0, 1) := by decide +kernel
theorem dX8_spread_9 : decode cX8_spread 9 = .ok (.istore 4, 2) := by decide +kernel
theorem dX8_spread_11 : decode cX8_spread 11 = .ok (.iconst 0, 1) := by decide +kernel
theorem dX8_spread_12 : decode cX8_spread 12 = .ok (.istore 5, 2) := by decide +kernel
theorem dX8_spread_14 : decode cX8_spread 14 = .ok (.iload 5, 2) := by decide +kernel
theorem dX8_spread_16 : decode cX8_spread 16 = .ok (.aload_n 0, 1) := by decide +kernel
theorem dX8_spread_17 : decode cX8_spread 17 = .ok (.getfield 82, 3) := by decide +kernel
theorem dX8_spread_20 : decode cX8_spread 20 = .ok (.if_icmp .ge 83, 3) := by decide +kernel
theorem dX8_spread_23 : decode cX8_spread 23 = .ok (.iconst 0, 1) := by decide +kernel
theorem dX8_spread_24 : decode cX8_spread 24 = .ok (.istore 6, 2) := by decide +kernel
theorem dX8_spread_26 : decode cX8_spread 26 = .ok (.iload 6, 2) := by decide +kernel
theorem dX8_spread_28 : decode cX8_spread 28 = .ok (.aload_n 0, 1) := by decide +kernel
theorem dX8_spread_29 : decode cX8_spread 29 = .ok (.getfield 82, 3) := by decide +kernel
theorem dX8_spread_32 : decode cX8_spread 32 = .ok (.if_icmp .ge 65, 3) := by decide +kernel
theorem dX8_spread_35 : decode cX8_spread 35 = .ok (.aload_n 0, 1) := by decide +kernel
theorem dX8_spread_36 : decode cX8_spread 36 = .ok (.getfield 55, 3) := by decide +kernel
theorem dX8_spread_39 : decode cX8_spread 39 = .ok (.iload 5, 2) := by decide +kernel
theorem dX8_spread_41 : decode cX8_spread 41 = .ok (.iaload, 1) := by decide +kernel
theorem dX8_spread_42 : decode cX8_spread 42 = .ok (.iload_n 3, 1) := by decide +kernel
theorem dX8_spread_43 : decode cX8_spread 43 = .ok (.if_icmp .ne 54, 3) := by decide +kernel
theorem dX8_spread_46 : decode cX8_spread 46 = .ok (.aload_n 0, 1) := by decide +kernel
theorem dX8_spread_47 : decode cX8_spread 47 = .ok (.getfield 61, 3) := by decide +kernel
theorem dX8_spread_50 : decode cX8_spread 50 = .ok (.iload 6, 2) := by decide +kernel
theorem dX8_spread_52 : decode cX8_spread 52 = .ok (.baload, 1) := by decide +kernel
theorem dX8_spread_53 : decode cX8_spread 53 = .ok (.ifCond .eq 38, 3) := by decide +kernel
theorem dX8_spread_56 : decode cX8_spread 56 = .ok (.aload_n 0, 1) := by decide +kernel
theorem dX8_spread_57 : decode cX8_spread 57 = .ok (.getfield 55, 3) := by decide +kernel
theorem dX8_spread_60 : decode cX8_spread 60 = .ok (.iload 6, 2) := by decide +kernel
theorem dX8_spread_62 : decode cX8_spread 62 = .ok (.iaload, 1) := by decide +kernel
theorem dX8_spread_63 : decode cX8_spread 63 = .ok (.iconst (-1), 1) := by decide +kernel
theorem dX8_spread_64 : decode cX8_spread 64 = .ok (.if_icmp .ne 27, 3) := by decide +kernel
theorem dX8_spread_67 : decode cX8_spread 67 = .ok (.aload_n 0, 1) := by decide +kernel
theorem dX8_spread_68 : decode cX8_spread 68 = .ok (.iload_n 1, 1) := by decide +kernel
theorem dX8_spread_69 : decode cX8_spread 69 = .ok (.iload 5, 2) := by decide +kernel
theorem dX8_spread_71 : decode cX8_spread 71 = .ok (.iload 6, 2) := by decide +kernel
theorem dX8_spread_73 : decode cX8_spread 73 = .ok (.invokevirtual 105, 3) := by decide +kernel
theorem dX8_spread_76 : decode cX8_spread 76 = .ok (.iload_n 2, 1) := by decide +kernel
theorem dX8_spread_77 : decode cX8_spread 77 = .ok (.if_icmp .gt 14, 3) := by decide +kernel
theorem dX8_spread_80 : decode cX8_spread 80 = .ok (.aload_n 0, 1) := by decide +kernel
theorem dX8_spread_81 : decode cX8_spread 81 = .ok (.getfield 55, 3) := by decide +kernel
theorem dX8_spread_84 : decode cX8_spread 84 = .ok (.iload 6, 2) := by decide +kernel
theorem dX8_spread_86 : decode cX8_spread 86 = .ok (.iload_n 3, 1) := by decide +kernel
theorem dX8_spread_87 : decode cX8_spread 87 = .ok (.iastore, 1) := by decide +kernel
theorem dX8_spread_88 : decode cX8_spread 88 = .ok (.iconst 1, 1) := by decide +kernel
theorem dX8_spread_89 : decode cX8_spread 89 = .ok (.istore 4, 2) := by decide +kernel
theorem dX8_spread_91 : decode cX8_spread 91 = .ok (.iinc 6 1, 3) := by decide +kernel
theorem dX8_spread_94 : decode cX8_spread 94 = .ok (.goto (-68), 3) := by decide +kernel
theorem dX8_spread_97 : decode cX8_spread 97 = .ok (.iinc 5 1, 3) := by decide +kernel
theorem dX8_spread_100 : decode cX8_spread 100 = .ok (.goto (-86), 3) := by decide +kernel
theorem dX8_spread_103 : decode cX8_spread 103 = .ok (.goto (-100), 3) := by decide +kernel
theorem dX8_spread_106 : decode cX8_spread 106 = .ok (.return_, 1) := by decide +kernel
theorem dX8_gather_0 : decode cX8_gather 0 = .ok (.iconst 0, 1) := by decide +kernel
theorem dX8_gather_1 : decode cX8_gather 1 = .ok (.istore_n 1, 1) := by decide +kernel
theorem dX8_gather_2 : decode cX8_gather 2 = .ok (.iload_n 1, 1) := by decide +kernel
theorem dX8_gather_3 : decode cX8_gather 3 = .ok (.sipush 900, 3) := by decide +kernel
theorem dX8_gather_6 : decode cX8_gather 6 = .ok (.if_icmp .ge 34, 3) := by decide +kernel
theorem dX8_gather_9 : decode cX8_gather 9 = .ok (.aload_n 0, 1) := by decide +kernel
theorem dX8_gather_10 : decode cX8_gather 10 = .ok (.getfield 73, 3) := by decide +kernel
theorem dX8_gather_13 : decode cX8_gather 13 = .ok (.iload_n 1, 1) := by decide +kernel
theorem dX8_gather_14 : decode cX8_gather 14 = .ok (.ldc2_w 156, 3) := by decide +kernel
theorem dX8_gather_17 : decode cX8_gather 17 = .ok (.lastore, 1) := by decide +kernel
theorem dX8_gather_18 : decode cX8_gather 18 = .ok (.aload_n 0, 1) := by decide +kernel
theorem dX8_gather_19 : decode cX8_gather 19 = .ok (.getfield 76, 3) := by decide +kernel
theorem dX8_gather_22 : decode cX8_gather 22 = .ok (.iload_n 1, 1) := by decide +kernel
theorem dX8_gather_23 : decode cX8_gather 23 = .ok (.ldc2_w 156, 3) := by decide +kernel
theorem dX8_gather_26 : decode cX8_gather 26 = .ok (.lastore, 1) := by decide +kernel
theorem dX8_gather_27 : decode cX8_gather 27 = .ok (.aload_n 0, 1) := by decide +kernel
theorem dX8_gather_28 : decode cX8_gather 28 = .ok (.getfield 79, 3) := by decide +kernel
theorem dX8_gather_31 : decode cX8_gather 31 = .ok (.iload_n 1, 1) := by decide +kernel
theorem dX8_gather_32 : decode cX8_gather 32 = .ok (.lconst 0, 1) := by decide +kernel
theorem dX8_gather_33 : decode cX8_gather 33 = .ok (.lastore, 1) := by decide +kernel
theorem dX8_gather_34 : decode cX8_gather 34 = .ok (.iinc 1 1, 3) := by decide +kernel
theorem dX8_gather_37 : decode cX8_gather 37 = .ok (.goto (-35), 3) := by decide +kernel
theorem dX8_gather_40 : decode cX8_gather 40 = .ok (.iconst 0, 1) := by decide +kernel
theorem dX8_gather_41 : decode cX8_gather 41 = .ok (.istore_n 1, 1) := by decide +kernel
theorem dX8_gather_42 : decode cX8_gather 42 = .ok (.iload_n 1, 1) := by decide +kernel
theorem dX8_gather_43 : decode cX8_gather 43 = .ok (.aload_n 0, 1) := by decide +kernel
theorem dX8_gather_44 : decode cX8_gather 44 = .ok (.getfield 82, 3) := by decide +kernel
theorem dX8_gather_47 : decode cX8_gather 47 = .ok (.if_icmp .ge 43, 3) := by decide +kernel
theorem dX8_gather_50 : decode cX8_gather 50 = .ok (.aload_n 0, 1) := by decide +kernel
theorem dX8_gather_51 : decode cX8_gather 51 = .ok (.getfield 67, 3) := by decide +kernel
theorem dX8_gather_54 : decode cX8_gather 54 = .ok (.iload_n 1, 1) := by decide +kernel
theorem dX8_gather_55 : decode cX8_gather 55 = .ok (.lconst 0, 1) := by decide +kernel
theorem dX8_gather_56 : decode cX8_gather 56 = .ok (.lastore, 1) := by decide +kernel
theorem dX8_gather_57 : decode cX8_gather 57 = .ok (.iconst 0, 1) := by decide +kernel
theorem dX8_gather_58 : decode cX8_gather 58 = .ok (.istore_n 2, 1) := by decide +kernel
theorem dX8_gather_59 : decode cX8_gather 59 = .ok (.iload_n 2, 1) := by decide +kernel
theorem dX8_gather_60 : decode cX8_gather 60 = .ok (.aload_n 0, 1) := by decide +kernel
theorem dX8_gather_61 : decode cX8_gather 61 = .ok (.getfield 7, 3) := by decide +kernel
theorem dX8_gather_64 : decode cX8_gather 64 = .ok (.if_icmp .ge 20, 3) := by decide +kernel
theorem dX8_gather_67 : decode cX8_gather 67 = .ok (.aload_n 0, 1) := by decide +kernel
theorem dX8_gather_68 : decode cX8_gather 68 = .ok (.getfield 70, 3) := by decide +kernel
theorem dX8_gather_71 : decode cX8_gather 71 = .ok (.iconst 4, 1) := by decide +kernel
theorem dX8_gather_72 : decode cX8_gather 72 = .ok (.iload_n 1, 1) := by decide +kernel
theorem dX8_gather_73 : decode cX8_gather 73 = .ok (.imul, 1) := by decide +kernel
theorem dX8_gather_74 : decode cX8_gather 74 = .ok (.iload_n 2, 1) := by decide +kernel
theorem dX8_gather_75 : decode cX8_gather 75 = .ok (.iadd, 1) := by decide +kernel
theorem dX8_gather_76 : decode cX8_gather 76 = .ok (.lconst 0, 1) := by decide +kernel
theorem dX8_gather_77 : decode cX8_gather 77 = .ok (.lastore, 1) := by decide +kernel
theorem dX8_gather_78 : decode cX8_gather 78 = .ok (.iinc 2 1, 3) := by decide +kernel
theorem dX8_gather_81 : decode cX8_gather 81 = .ok (.goto (-22), 3) := by decide +kernel
theorem dX8_gather_84 : decode cX8_gather 84 = .ok (.iinc 1 1, 3) := by decide +kernel
theorem dX8_gather_87 : decode cX8_gather 87 = .ok (.goto (-45), 3) := by decide +kernel
theorem dX8_gather_90 : decode cX8_gather 90 = .ok (.iconst 0, 1) := by decide +kernel
theorem dX8_gather_91 : decode cX8_gather 91 = .ok (.istore_n 1, 1) := by decide +kernel
theorem dX8_gather_92 : decode cX8_gather 92 = .ok (.iload_n 1, 1) := by decide +kernel
theorem dX8_gather_93 : decode cX8_gather 93 = .ok (.aload_n 0, 1) := by decide +kernel
theorem dX8_gather_94 : decode cX8_gather 94 = .ok (.getfield 82, 3) := by decide +kernel
theorem dX8_gather_97 : decode cX8_gather 97 = .ok (.if_icmp .ge 199, 3) := by decide +kernel
theorem dX8_gather_100 : decode cX8_gather 100 = .ok (.aload_n 0, 1) := by decide +kernel
theorem dX8_gather_101 : decode cX8_gather 101 = .ok (.getfield 64, 3) := by decide +kernel
theorem dX8_gather_104 : decode cX8_gather 104 = .ok (.iload_n 1, 1) := by decide +kernel
theorem dX8_gather_105 : decode cX8_gather 105 = .ok (.iaload, 1) := by decide +kernel
theorem dX8_gather_106 : decode cX8_gather 106 = .ok (.istore_n 2, 1) := by decide +kernel
theorem dX8_gather_107 : decode cX8_gather 107 = .ok (.aload_n 0, 1) := by decide +kernel
theorem dX8_gather_108 : decode cX8_gather 108 = .ok (.getfield 67, 3) := by decide +kernel
theorem dX8_gather_111 : decode cX8_gather 111 = .ok (.iload_n 2, 1) := by decide +kernel
theorem dX8_gather_112 : decode cX8_gather 112 = .ok (.dup2, 1) := by decide +kernel
theorem dX8_gather_113 : decode cX8_gather 113 = .ok (.laload, 1) := by decide +kernel
theorem dX8_gather_114 : decode cX8_gather 114 = .ok (.lconst 1, 1) := by decide +kernel
theorem dX8_gather_115 : decode cX8_gather 115 = .ok (.ladd, 1) := by decide +kernel
theorem dX8_gather_116 : decode cX8_gather 116 = .ok (.lastore, 1) := by decide +kernel
theorem dX8_gather_117 : decode cX8_gather 117 = .ok (.iconst 0, 1) := by decide +kernel
theorem dX8_gather_118 : decode cX8_gather 118 = .ok (.istore_n 3, 1) := by decide +kernel
theorem dX8_gather_119 : decode cX8_gather 119 = .ok (.iload_n 3, 1) := by decide +kernel
theorem dX8_gather_120 : decode cX8_gather 120 = .ok (.aload_n 0, 1) := by decide +kernel
theorem dX8_gather_121 : decode cX8_gather 121 = .ok (.getfield 7, 3) := by decide +kernel
theorem dX8_gather_124 : decode cX8_gather 124 = .ok (.if_icmp .ge 33, 3) := by decide +kernel
theorem dX8_gather_127 : decode cX8_gather 127 = .ok (.aload_n 0, 1) := by decide +kernel
theorem dX8_gather_128 : decode cX8_gather 128 = .ok (.getfield 70, 3) := by decide +kernel
theorem dX8_gather_131 : decode cX8_gather 131 = .ok (.iconst 4, 1) := by decide +kernel
theorem dX8_gather_132 : decode cX8_gather 132 = .ok (.iload_n 2, 1) := by decide +kernel
theorem dX8_gather_133 : decode cX8_gather 133 = .ok (.imul, 1) := by decide +kernel
theorem dX8_gather_134 : decode cX8_gather 134 = .ok (.iload_n 3, 1) := by decide +kernel
theorem dX8_gather_135 : decode cX8_gather 135 = .ok (.iadd, 1) := by decide +kernel
theorem dX8_gather_136 : decode cX8_gather 136 = .ok (.dup2, 1) := by decide +kernel
theorem dX8_gather_137 : decode cX8_gather 137 = .ok (.laload, 1) := by decide +kernel
theorem dX8_gather_138 : decode cX8_gather 138 = .ok (.aload_n 0, 1) := by decide +kernel
theorem dX8_gather_139 : decode cX8_gather 139 = .ok (.getfield 13, 3) := by decide +kernel
theorem dX8_gather_142 : decode cX8_gather 142 = .ok (.iconst 4, 1) := by decide +kernel
theorem dX8_gather_143 : decode cX8_gather 143 = .ok (.iload_n 1, 1) := by decide +kernel
theorem dX8_gather_144 : decode cX8_gather 144 = .ok (.imul, 1) := by decide +kernel
theorem dX8_gather_145 : decode cX8_gather 145 = .ok (.iload_n 3, 1) := by decide +kernel
theorem dX8_gather_146 : decode cX8_gather 146 = .ok (.iadd, 1) := by decide +kernel
theorem dX8_gather_147 : decode cX8_gather 147 = .ok (.iaload, 1) := by decide +kernel
theorem dX8_gather_148 : decode cX8_gather 148 = .ok (.i2l, 1) := by decide +kernel
theorem dX8_gather_149 : decode cX8_gather 149 = .ok (.ladd, 1) := by decide +kernel
theorem dX8_gather_150 : decode cX8_gather 150 = .ok (.lastore, 1) := by decide +kernel
theorem dX8_gather_151 : decode cX8_gather 151 = .ok (.iinc 3 1, 3) := by decide +kernel
theorem dX8_gather_154 : decode cX8_gather 154 = .ok (.goto (-35), 3) := by decide +kernel
theorem dX8_gather_157 : decode cX8_gather 157 = .ok (.iconst 0, 1) := by decide +kernel
theorem dX8_gather_158 : decode cX8_gather 158 = .ok (.istore_n 3, 1) := by decide +kernel
theorem dX8_gather_159 : decode cX8_gather 159 = .ok (.iload_n 3, 1) := by decide +kernel
theorem dX8_gather_160 : decode cX8_gather 160 = .ok (.aload_n 0, 1) := by decide +kernel
theorem dX8_gather_161 : decode cX8_gather 161 = .ok (.getfield 82, 3) := by decide +kernel
theorem dX8_gather_164 : decode cX8_gather 164 = .ok (.if_icmp .ge 126, 3) := by decide +kernel
theorem dX8_gather_167 : decode cX8_gather 167 = .ok (.bipush 30, 2) := by decide +kernel
theorem dX8_gather_169 : decode cX8_gather 169 = .ok (.iload_n 2, 1) := by decide +kernel
theorem dX8_gather_170 : decode cX8_gather 170 = .ok (.imul, 1) := by decide +kernel
theorem dX8_gather_171 : decode cX8_gather 171 = .ok (.aload_n 0, 1) := by decide +kernel
theorem dX8_gather_172 : decode cX8_gather 172 = .ok (.getfield 64, 3) := by decide +kernel
theorem dX8_gather_175 : decode cX8_gather 175 = .ok (.iload_n 3, 1) := by decide +kernel
theorem dX8_gather_176 : decode cX8_gather 176 = .ok (.iaload, 1) := by decide +kernel
theorem dX8_gather_177 : decode cX8_gather 177 = .ok (.iadd, 1) := by decide +kernel
theorem dX8_gather_178 : decode cX8_gather 178 = .ok (.istore 4, 2) := by decide +kernel
theorem dX8_gather_180 : decode cX8_gather 180 = .ok (.aload_n 0, 1) := by decide +kernel
theorem dX8_gather_181 : decode cX8_gather 181 = .ok (.getfield 46, 3) := by decide +kernel
theorem dX8_gather_184 : decode cX8_gather 184 = .ok (.bipush 30, 2) := by decide +kernel
theorem dX8_gather_186 : decode cX8_gather 186 = .ok (.iload_n 1, 1) := by decide +kernel
theorem dX8_gather_187 : decode cX8_gather 187 = .ok (.imul, 1) := by decide +kernel
theorem dX8_gather_188 : decode cX8_gather 188 = .ok (.iload_n 3, 1) := by decide +kernel
theorem dX8_gather_189 : decode cX8_gather 189 = .ok (.iadd, 1) := by decide +kernel
theorem dX8_gather_190 : decode cX8_gather 190 = .ok (.iaload, 1) := by decide +kernel
theorem dX8_gather_191 : decode cX8_gather 191 = .ok (.i2l, 1) := by decide +kernel
theorem dX8_gather_192 : decode cX8_gather 192 = .ok (.lstore 5, 2) := by decide +kernel
theorem dX8_gather_194 : decode cX8_gather 194 = .ok (.aload_n 0, 1) := by decide +kernel
theorem dX8_gather_195 : decode cX8_gather 195 = .ok (.getfield 73, 3) := by decide +kernel
theorem dX8_gather_198 : decode cX8_gather 198 = .ok (.iload 4, 2) := by decide +kernel
theorem dX8_gather_200 : decode cX8_gather 200 = .ok (.aload_n 0, 1) := by decide +kernel
theorem dX8_gather_201 : decode cX8_gather 201 = .ok (.getfield 73, 3) := by decide +kernel
theorem dX8_gather_204 : decode cX8_gather 204 = .ok (.iload 4, 2) := by decide +kernel
theorem dX8_gather_206 : decode cX8_gather 206 = .ok (.laload, 1) := by decide +kernel
theorem dX8_gather_207 : decode cX8_gather 207 = .ok (.ldc2_w 156, 3) := by decide +kernel
theorem dX8_gather_210 : decode cX8_gather 210 = .ok (.lcmp, 1) := by decide +kernel
theorem dX8_gather_211 : decode cX8_gather 211 = .ok (.ifCond .eq 16, 3) := by decide +kernel
theorem dX8_gather_214 : decode cX8_gather 214 = .ok (.lload 5, 2) := by decide +kernel
theorem dX8_gather_216 : decode cX8_gather 216 = .ok (.aload_n 0, 1) := by decide +kernel
theorem dX8_gather_217 : decode cX8_gather 217 = .ok (.getfield 73, 3) := by decide +kernel
theorem dX8_gather_220 : decode cX8_gather 220 = .ok (.iload 4, 2) := by decide +kernel
theorem dX8_gather_222 : decode cX8_gather 222 = .ok (.laload, 1) := by decide +kernel
theorem dX8_gather_223 : decode cX8_gather 223 = .ok (.lcmp, 1) := by decide +kernel
theorem dX8_gather_224 : decode cX8_gather 224 = .ok (.ifCond .ge 8, 3) := by decide +kernel
theorem dX8_gather_227 : decode cX8_gather 227 = .ok (.lload 5, 2) := by decide +kernel
theorem dX8_gather_229 : decode cX8_gather 229 = .ok (.goto 10, 3) := by decide +kernel
theorem dX8_gather_232 : decode cX8_gather 232 = .ok (.aload_n 0, 1) := by decide +kernel
theorem dX8_gather_233 : decode cX8_gather 233 = .ok (.getfield 73, 3) := by decide +kernel
theorem dX8_gather_236 : decode cX8_gather 236 = .ok (.iload 4, 2) := by decide +kernel
theorem dX8_gather_238 : decode cX8_gather 238 = .ok (.laload, 1) := by decide +kernel
theorem dX8_gather_239 : decode cX8_gather 239 = .ok (.lastore, 1) := by decide +kernel
theorem dX8_gather_240 : decode cX8_gather 240 = .ok (.aload_n 0, 1) := by decide +kernel
theorem dX8_gather_241 : decode cX8_gather 241 = .ok (.getfield 76, 3) := by decide +kernel
theorem dX8_gather_244 : decode cX8_gather 244 = .ok (.iload 4, 2) := by decide +kernel
theorem dX8_gather_246 : decode cX8_gather 246 = .ok (.lload 5, 2) := by decide +kernel
theorem dX8_gather_248 : decode cX8_gather 248 = .ok (.aload_n 0, 1) := by decide +kernel
theorem dX8_gather_249 : decode cX8_gather 249 = .ok (.getfield 76, 3) := by decide +kernel
theorem dX8_gather_252 : decode cX8_gather 252 = .ok (.iload 4, 2) := by decide +kernel
theorem dX8_gather_254 : decode cX8_gather 254 = .ok (.laload, 1) := by decide +kernel
theorem dX8_gather_255 : decode cX8_gather 255 = .ok (.lcmp, 1) := by decide +kernel
theorem dX8_gather_256 : decode cX8_gather 256 = .ok (.ifCond .le 8, 3) := by decide +kernel
theorem dX8_gather_259 : decode cX8_gather 259 = .ok (.lload 5, 2) := by decide +kernel
theorem dX8_gather_261 : decode cX8_gather 261 = .ok (.goto 10, 3) := by decide +kernel
theorem dX8_gather_264 : decode cX8_gather 264 = .ok (.aload_n 0, 1) := by decide +kernel
theorem dX8_gather_265 : decode cX8_gather 265 = .ok (.getfield 76, 3) := by decide +kernel
theorem dX8_gather_268 : decode cX8_gather 268 = .ok (.iload 4, 2) := by decide +kernel
theorem dX8_gather_270 : decode cX8_gather 270 = .ok (.laload, 1) := by decide +kernel
theorem dX8_gather_271 : decode cX8_gather 271 = .ok (.lastore, 1) := by decide +kernel
theorem dX8_gather_272 : decode cX8_gather 272 = .ok (.aload_n 0, 1) := by decide +kernel
theorem dX8_gather_273 : decode cX8_gather 273 = .ok (.getfield 79, 3) := by decide +kernel
theorem dX8_gather_276 : decode cX8_gather 276 = .ok (.iload 4, 2) := by decide +kernel
theorem dX8_gather_278 : decode cX8_gather 278 = .ok (.dup2, 1) := by decide +kernel
theorem dX8_gather_279 : decode cX8_gather 279 = .ok (.laload, 1) := by decide +kernel
theorem dX8_gather_280 : decode cX8_gather 280 = .ok (.lload 5, 2) := by decide +kernel
theorem dX8_gather_282 : decode cX8_gather 282 = .ok (.ladd, 1) := by decide +kernel
theorem dX8_gather_283 : decode cX8_gather 283 = .ok (.lastore, 1) := by decide +kernel
theorem dX8_gather_284 : decode cX8_gather 284 = .ok (.iinc 3 1, 3) := by decide +kernel
theorem dX8_gather_287 : decode cX8_gather 287 = .ok (.goto (-128), 3) := by decide +kernel
theorem dX8_gather_290 : decode cX8_gather 290 = .ok (.iinc 1 1, 3) := by decide +kernel
theorem dX8_gather_293 : decode cX8_gather 293 = .ok (.goto (-201), 3) := by decide +kernel
theorem dX8_gather_296 : decode cX8_gather 296 = .ok (.return_, 1) := by decide +kernel
theorem dX8_apartOf_0 : decode cX8_apartOf 0 = .ok (.bipush 30, 2) := by decide +kernel
theorem dX8_apartOf_2 : decode cX8_apartOf 2 = .ok (.iload_n 2, 1) := by decide +kernel
theorem dX8_apartOf_3 : decode cX8_apartOf 3 = .ok (.imul, 1) := by decide +kernel
theorem dX8_apartOf_4 : decode cX8_apartOf 4 = .ok (.iload_n 3, 1) := by decide +kernel
theorem dX8_apartOf_5 : decode cX8_apartOf 5 = .ok (.iadd, 1) := by decide +kernel
theorem dX8_apartOf_6 : decode cX8_apartOf 6 = .ok (.istore 4, 2) := by decide +kernel
theorem dX8_apartOf_8 : decode cX8_apartOf 8 = .ok (.aload_n 0, 1) := by decide +kernel
theorem dX8_apartOf_9 : decode cX8_apartOf 9 = .ok (.iload_n 1, 1) := by decide +kernel
theorem dX8_apartOf_10 : decode cX8_apartOf 10 = .ok (.ifCond .ne 13, 3) := by decide +kernel
theorem dX8_apartOf_13 : decode cX8_apartOf 13 = .ok (.aload_n 0, 1) := by decide +kernel
theorem dX8_apartOf_14 : decode cX8_apartOf 14 = .ok (.getfield 73, 3) := by decide +kernel
theorem dX8_apartOf_17 : decode cX8_apartOf 17 = .ok (.iload 4, 2) := by decide +kernel
theorem dX8_apartOf_19 : decode cX8_apartOf 19 = .ok (.laload, 1) := by decide +kernel
theorem dX8_apartOf_20 : decode cX8_apartOf 20 = .ok (.goto 25, 3) := by decide +kernel
theorem dX8_apartOf_23 : decode cX8_apartOf 23 = .ok (.iload_n 1, 1) := by decide +kernel
theorem dX8_apartOf_24 : decode cX8_apartOf 24 = .ok (.iconst 1, 1) := by decide +kernel
theorem dX8_apartOf_25 : decode cX8_apartOf 25 = .ok (.if_icmp .ne 13, 3) := by decide +kernel
theorem dX8_apartOf_28 : decode cX8_apartOf 28 = .ok (.aload_n 0, 1) := by decide +kernel
theorem dX8_apartOf_29 : decode cX8_apartOf 29 = .ok (.getfield 76, 3) := by decide +kernel
theorem dX8_apartOf_32 : decode cX8_apartOf 32 = .ok (.iload 4, 2) := by decide +kernel
theorem dX8_apartOf_34 : decode cX8_apartOf 34 = .ok (.laload, 1) := by decide +kernel
theorem dX8_apartOf_35 : decode cX8_apartOf 35 = .ok (.goto 10, 3) := by decide +kernel
theorem dX8_apartOf_38 : decode cX8_apartOf 38 = .ok (.aload_n 0, 1) := by decide +kernel
theorem dX8_apartOf_39 : decode cX8_apartOf 39 = .ok (.getfield 79, 3) := by decide +kernel
theorem dX8_apartOf_42 : decode cX8_apartOf 42 = .ok (.iload 4, 2) := by decide +kernel
theorem dX8_apartOf_44 : decode cX8_apartOf 44 = .ok (.laload, 1) := by decide +kernel
theorem dX8_apartOf_45 : decode cX8_apartOf 45 = .ok (.putfield 158, 3) := by decide +kernel
theorem dX8_apartOf_48 : decode cX8_apartOf 48 = .ok (.aload_n 0, 1) := by decide +kernel
theorem dX8_apartOf_49 : decode cX8_apartOf 49 = .ok (.iload_n 1, 1) := by decide +kernel
theorem dX8_apartOf_50 : decode cX8_apartOf 50 = .ok (.iconst 2, 1) := by decide +kernel
theorem dX8_apartOf_51 : decode cX8_apartOf 51 = .ok (.if_icmp .ne 19, 3) := by decide +kernel
theorem dX8_apartOf_54 : decode cX8_apartOf 54 = .ok (.aload_n 0, 1) := by decide +kernel
theorem dX8_apartOf_55 : decode cX8_apartOf 55 = .ok (.getfield 67, 3) := by decide +kernel
theorem dX8_apartOf_58 : decode cX8_apartOf 58 = .ok (.iload_n 2, 1) := by decide +kernel
theorem dX8_apartOf_59 : decode cX8_apartOf 59 = .ok (.laload, 1) := by decide +kernel
theorem dX8_apartOf_60 : decode cX8_apartOf 60 = .ok (.aload_n 0, 1) := by decide +kernel
theorem dX8_apartOf_61 : decode cX8_apartOf 61 = .ok (.getfield 67, 3) := by decide +kernel
theorem dX8_apartOf_64 : decode cX8_apartOf 64 = .ok (.iload_n 3, 1) := by decide +kernel
theorem dX8_apartOf_65 : decode cX8_apartOf 65 = .ok (.laload, 1) := by decide +kernel
theorem dX8_apartOf_66 : decode cX8_apartOf 66 = .ok (.lmul, 1) := by decide +kernel
theorem dX8_apartOf_67 : decode cX8_apartOf 67 = .ok (.goto 4, 3) := by decide +kernel
theorem dX8_apartOf_70 : decode cX8_apartOf 70 = .ok (.lconst 1, 1) := by decide +kernel
theorem dX8_apartOf_71 : decode cX8_apartOf 71 = .ok (.putfield 162, 3) := by decide +kernel
theorem dX8_apartOf_74 : decode cX8_apartOf 74 = .ok (.iload_n 1, 1) := by decide +kernel
theorem dX8_apartOf_75 : decode cX8_apartOf 75 = .ok (.iconst 3, 1) := by decide +kernel
theorem dX8_apartOf_76 : decode cX8_apartOf 76 = .ok (.if_icmp .ge 4, 3) := by decide +kernel
theorem dX8_apartOf_79 : decode cX8_apartOf 79 = .ok (.return_, 1) := by decide +kernel
theorem dX8_apartOf_80 : decode cX8_apartOf 80 = .ok (.aload_n 0, 1) := by decide +kernel
theorem dX8_apartOf_81 : decode cX8_apartOf 81 = .ok (.lconst 0, 1) := by decide +kernel
theorem dX8_apartOf_82 : decode cX8_apartOf 82 = .ok (.putfield 158, 3) := by decide +kernel
theorem dX8_apartOf_85 : decode cX8_apartOf 85 = .ok (.iconst 0, 1) := by decide +kernel
theorem dX8_apartOf_86 : decode cX8_apartOf 86 = .ok (.istore 5, 2) := by decide +kernel
theorem dX8_apartOf_88 : decode cX8_apartOf 88 = .ok (.iload 5, 2) := by decide +kernel
theorem dX8_apartOf_90 : decode cX8_apartOf 90 = .ok (.aload_n 0, 1) := by decide +kernel
theorem dX8_apartOf_91 : decode cX8_apartOf 91 = .ok (.getfield 7, 3) := by decide +kernel
theorem dX8_apartOf_94 : decode cX8_apartOf 94 = .ok (.if_icmp .ge 62, 3) := by decide +kernel
theorem dX8_apartOf_97 : decode cX8_apartOf 97 = .ok (.aload_n 0, 1) := by decide +kernel
theorem dX8_apartOf_98 : decode cX8_apartOf 98 = .ok (.getfield 67, 3) := by decide +kernel
theorem dX8_apartOf_101 : decode cX8_apartOf 101 = .ok (.iload_n 3, 1) := by decide +kernel
theorem dX8_apartOf_102 : decode cX8_apartOf 102 = .ok (.laload, 1) := by decide +kernel
theorem dX8_apartOf_103 : decode cX8_apartOf 103 = .ok (.aload_n 0, 1) := by decide +kernel
theorem dX8_apartOf_104 : decode cX8_apartOf 104 = .ok (.getfield 70, 3) := by decide +kernel
theorem dX8_apartOf_107 : decode cX8_apartOf 107 = .ok (.iconst 4, 1) := by decide +kernel
theorem dX8_apartOf_108 : decode cX8_apartOf 108 = .ok (.iload_n 2, 1) := by decide +kernel
theorem dX8_apartOf_109 : decode cX8_apartOf 109 = .ok (.imul, 1) := by decide +kernel
theorem dX8_apartOf_110 : decode cX8_apartOf 110 = .ok (.iload 5, 2) := by decide +kernel
theorem dX8_apartOf_112 : decode cX8_apartOf 112 = .ok (.iadd, 1) := by decide +kernel
theorem dX8_apartOf_113 : decode cX8_apartOf 113 = .ok (.laload, 1) := by decide +kernel
theorem dX8_apartOf_114 : decode cX8_apartOf 114 = .ok (.lmul, 1) := by decide +kernel
theorem dX8_apartOf_115 : decode cX8_apartOf 115 = .ok (.aload_n 0, 1) := by decide +kernel
theorem dX8_apartOf_116 : decode cX8_apartOf 116 = .ok (.getfield 67, 3) := by decide +kernel
theorem dX8_apartOf_119 : decode cX8_apartOf 119 = .ok (.iload_n 2, 1) := by decide +kernel
theorem dX8_apartOf_120 : decode cX8_apartOf 120 = .ok (.laload, 1) := by decide +kernel
theorem dX8_apartOf_121 : decode cX8_apartOf 121 = .ok (.aload_n 0, 1) := by decide +kernel
theorem dX8_apartOf_122 : decode cX8_apartOf 122 = .ok (.getfield 70, 3) := by decide +kernel
theorem dX8_apartOf_125 : decode cX8_apartOf 125 = .ok (.iconst 4, 1) := by decide +kernel
theorem dX8_apartOf_126 : decode cX8_apartOf 126 = .ok (.iload_n 3, 1) := by decide +kernel
theorem dX8_apartOf_127 : decode cX8_apartOf 127 = .ok (.imul, 1) := by decide +kernel
theorem dX8_apartOf_128 : decode cX8_apartOf 128 = .ok (.iload 5, 2) := by decide +kernel
theorem dX8_apartOf_130 : decode cX8_apartOf 130 = .ok (.iadd, 1) := by decide +kernel
theorem dX8_apartOf_131 : decode cX8_apartOf 131 = .ok (.laload, 1) := by decide +kernel
theorem dX8_apartOf_132 : decode cX8_apartOf 132 = .ok (.lmul, 1) := by decide +kernel
theorem dX8_apartOf_133 : decode cX8_apartOf 133 = .ok (.lsub, 1) := by decide +kernel
theorem dX8_apartOf_134 : decode cX8_apartOf 134 = .ok (.lstore 6, 2) := by decide +kernel
theorem dX8_apartOf_136 : decode cX8_apartOf 136 = .ok (.aload_n 0, 1) := by decide +kernel
theorem dX8_apartOf_137 : decode cX8_apartOf 137 = .ok (.dup, 1) := by decide +kernel
theorem dX8_apartOf_138 : decode cX8_apartOf 138 = .ok (.getfield 158, 3) := by decide +kernel
theorem dX8_apartOf_141 : decode cX8_apartOf 141 = .ok (.lload 6, 2) := by decide +kernel
theorem dX8_apartOf_143 : decode cX8_apartOf 143 = .ok (.lload 6, 2) := by decide +kernel
theorem dX8_apartOf_145 : decode cX8_apartOf 145 = .ok (.lmul, 1) := by decide +kernel
theorem dX8_apartOf_146 : decode cX8_apartOf 146 = .ok (.ladd, 1) := by decide +kernel
theorem dX8_apartOf_147 : decode cX8_apartOf 147 = .ok (.putfield 158, 3) := by decide +kernel
theorem dX8_apartOf_150 : decode cX8_apartOf 150 = .ok (.iinc 5 1, 3) := by decide +kernel
theorem dX8_apartOf_153 : decode cX8_apartOf 153 = .ok (.goto (-65), 3) := by decide +kernel
theorem dX8_apartOf_156 : decode cX8_apartOf 156 = .ok (.aload_n 0, 1) := by decide +kernel
theorem dX8_apartOf_157 : decode cX8_apartOf 157 = .ok (.aload_n 0, 1) := by decide +kernel
theorem dX8_apartOf_158 : decode cX8_apartOf 158 = .ok (.getfield 67, 3) := by decide +kernel
theorem dX8_apartOf_161 : decode cX8_apartOf 161 = .ok (.iload_n 2, 1) := by decide +kernel
theorem dX8_apartOf_162 : decode cX8_apartOf 162 = .ok (.laload, 1) := by decide +kernel
theorem dX8_apartOf_163 : decode cX8_apartOf 163 = .ok (.aload_n 0, 1) := by decide +kernel
theorem dX8_apartOf_164 : decode cX8_apartOf 164 = .ok (.getfield 67, 3) := by decide +kernel
theorem dX8_apartOf_167 : decode cX8_apartOf 167 = .ok (.iload_n 3, 1) := by decide +kernel
theorem dX8_apartOf_168 : decode cX8_apartOf 168 = .ok (.laload, 1) := by decide +kernel
theorem dX8_apartOf_169 : decode cX8_apartOf 169 = .ok (.lmul, 1) := by decide +kernel
theorem dX8_apartOf_170 : decode cX8_apartOf 170 = .ok (.aload_n 0, 1) := by decide +kernel
theorem dX8_apartOf_171 : decode cX8_apartOf 171 = .ok (.getfield 67, 3) := by decide +kernel
theorem dX8_apartOf_174 : decode cX8_apartOf 174 = .ok (.iload_n 2, 1) := by decide +kernel
theorem dX8_apartOf_175 : decode cX8_apartOf 175 = .ok (.laload, 1) := by decide +kernel
theorem dX8_apartOf_176 : decode cX8_apartOf 176 = .ok (.aload_n 0, 1) := by decide +kernel
theorem dX8_apartOf_177 : decode cX8_apartOf 177 = .ok (.getfield 67, 3) := by decide +kernel
theorem dX8_apartOf_180 : decode cX8_apartOf 180 = .ok (.iload_n 3, 1) := by decide +kernel
theorem dX8_apartOf_181 : decode cX8_apartOf 181 = .ok (.laload, 1) := by decide +kernel
theorem dX8_apartOf_182 : decode cX8_apartOf 182 = .ok (.ladd, 1) := by decide +kernel
theorem dX8_apartOf_183 : decode cX8_apartOf 183 = .ok (.lmul, 1) := by decide +kernel
theorem dX8_apartOf_184 : decode cX8_apartOf 184 = .ok (.putfield 162, 3) := by decide +kernel
theorem dX8_apartOf_187 : decode cX8_apartOf 187 = .ok (.return_, 1) := by decide +kernel
theorem dX8_tree_0 : decode cX8_tree 0 = .ok (.iload_n 1, 1) := by decide +kernel
theorem dX8_tree_1 : decode cX8_tree 1 = .ok (.iconst 0, 1) := by decide +kernel
theorem dX8_tree_2 : decode cX8_tree 2 = .ok (.iconst 3, 1) := by decide +kernel
theorem dX8_tree_3 : decode cX8_tree 3 = .ok (.invokestatic 85, 3) := by decide +kernel
theorem dX8_tree_6 : decode cX8_tree 6 = .ok (.ifCond .eq 12, 3) := by decide +kernel
theorem dX8_tree_9 : decode cX8_tree 9 = .ok (.iload_n 2, 1) := by decide +kernel
theorem dX8_tree_10 : decode cX8_tree 10 = .ok (.iconst 0, 1) := by decide +kernel
theorem dX8_tree_11 : decode cX8_tree 11 = .ok (.iconst 2, 1) := by decide +kernel
theorem dX8_tree_12 : decode cX8_tree 12 = .ok (.invokestatic 85, 3) := by decide +kernel
theorem dX8_tree_15 : decode cX8_tree 15 = .ok (.ifCond .ne 6, 3) := by decide +kernel
theorem dX8_tree_18 : decode cX8_tree 18 = .ok (.ldc 96, 2) := by decide +kernel
theorem dX8_tree_20 : decode cX8_tree 20 = .ok (.ireturn, 1) := by decide +kernel
theorem dX8_tree_21 : decode cX8_tree 21 = .ok (.aload_n 0, 1) := by decide +kernel
theorem dX8_tree_22 : decode cX8_tree 22 = .ok (.getfield 82, 3) := by decide +kernel
theorem dX8_tree_25 : decode cX8_tree 25 = .ok (.ifCond .ne 6, 3) := by decide +kernel
theorem dX8_tree_28 : decode cX8_tree 28 = .ok (.ldc 97, 2) := by decide +kernel
theorem dX8_tree_30 : decode cX8_tree 30 = .ok (.ireturn, 1) := by decide +kernel
theorem dX8_tree_31 : decode cX8_tree 31 = .ok (.iconst 0, 1) := by decide +kernel
theorem dX8_tree_32 : decode cX8_tree 32 = .ok (.istore_n 3, 1) := by decide +kernel
theorem dX8_tree_33 : decode cX8_tree 33 = .ok (.iload_n 3, 1) := by decide +kernel
theorem dX8_tree_34 : decode cX8_tree 34 = .ok (.aload_n 0, 1) := by decide +kernel
theorem dX8_tree_35 : decode cX8_tree 35 = .ok (.getfield 82, 3) := by decide +kernel
theorem dX8_tree_38 : decode cX8_tree 38 = .ok (.if_icmp .ge 16, 3) := by decide +kernel
theorem dX8_tree_41 : decode cX8_tree 41 = .ok (.aload_n 0, 1) := by decide +kernel
theorem dX8_tree_42 : decode cX8_tree 42 = .ok (.getfield 64, 3) := by decide +kernel
theorem dX8_tree_45 : decode cX8_tree 45 = .ok (.iload_n 3, 1) := by decide +kernel
theorem dX8_tree_46 : decode cX8_tree 46 = .ok (.iload_n 3, 1) := by decide +kernel
theorem dX8_tree_47 : decode cX8_tree 47 = .ok (.iastore, 1) := by decide +kernel
theorem dX8_tree_48 : decode cX8_tree 48 = .ok (.iinc 3 1, 3) := by decide +kernel
theorem dX8_tree_51 : decode cX8_tree 51 = .ok (.goto (-18), 3) := by decide +kernel
theorem dX8_tree_54 : decode cX8_tree 54 = .ok (.aload_n 0, 1) := by decide +kernel
theorem dX8_tree_55 : decode cX8_tree 55 = .ok (.iload_n 2, 1) := by decide +kernel
theorem dX8_tree_56 : decode cX8_tree 56 = .ok (.invokevirtual 114, 3) := by decide +kernel
theorem dX8_tree_59 : decode cX8_tree 59 = .ok (.aload_n 0, 1) := by decide +kernel
theorem dX8_tree_60 : decode cX8_tree 60 = .ok (.iconst 0, 1) := by decide +kernel
theorem dX8_tree_61 : decode cX8_tree 61 = .ok (.putfield 102, 3) := by decide +kernel
theorem dX8_tree_64 : decode cX8_tree 64 = .ok (.aload_n 0, 1) := by decide +kernel
theorem dX8_tree_65 : decode cX8_tree 65 = .ok (.getfield 102, 3) := by decide +kernel
theorem dX8_tree_68 : decode cX8_tree 68 = .ok (.aload_n 0, 1) := by decide +kernel
theorem dX8_tree_69 : decode cX8_tree 69 = .ok (.getfield 82, 3) := by decide +kernel
theorem dX8_tree_72 : decode cX8_tree 72 = .ok (.iconst 1, 1) := by decide +kernel
theorem dX8_tree_73 : decode cX8_tree 73 = .ok (.isub, 1) := by decide +kernel
theorem dX8_tree_74 : decode cX8_tree 74 = .ok (.if_icmp .ge 11, 3) := by decide +kernel
theorem dX8_tree_77 : decode cX8_tree 77 = .ok (.aload_n 0, 1) := by decide +kernel
theorem dX8_tree_78 : decode cX8_tree 78 = .ok (.iload_n 1, 1) := by decide +kernel
theorem dX8_tree_79 : decode cX8_tree 79 = .ok (.invokevirtual 165, 3) := by decide +kernel
theorem dX8_tree_82 : decode cX8_tree 82 = .ok (.goto (-18), 3) := by decide +kernel
theorem dX8_tree_85 : decode cX8_tree 85 = .ok (.aload_n 0, 1) := by decide +kernel
theorem dX8_tree_86 : decode cX8_tree 86 = .ok (.iconst 1, 1) := by decide +kernel
theorem dX8_tree_87 : decode cX8_tree 87 = .ok (.putfield 92, 3) := by decide +kernel
theorem dX8_tree_90 : decode cX8_tree 90 = .ok (.aload_n 0, 1) := by decide +kernel
theorem dX8_tree_91 : decode cX8_tree 91 = .ok (.getfield 102, 3) := by decide +kernel
theorem dX8_tree_94 : decode cX8_tree 94 = .ok (.ireturn, 1) := by decide +kernel
theorem dX8_joinNext_0 : decode cX8_joinNext 0 = .ok (.iconst (-1), 1) := by decide +kernel
theorem dX8_joinNext_1 : decode cX8_joinNext 1 = .ok (.istore_n 2, 1) := by decide +kernel
theorem dX8_joinNext_2 : decode cX8_joinNext 2 = .ok (.iconst (-1), 1) := by decide +kernel
theorem dX8_joinNext_3 : decode cX8_joinNext 3 = .ok (.istore_n 3, 1) := by decide +kernel
theorem dX8_joinNext_4 : decode cX8_joinNext 4 = .ok (.lconst 0, 1) := by decide +kernel
theorem dX8_joinNext_5 : decode cX8_joinNext 5 = .ok (.lstore 4, 2) := by decide +kernel
theorem dX8_joinNext_7 : decode cX8_joinNext 7 = .ok (.lconst 1, 1) := by decide +kernel
theorem dX8_joinNext_8 : decode cX8_joinNext 8 = .ok (.lstore 6, 2) := by decide +kernel
theorem dX8_joinNext_10 : decode cX8_joinNext 10 = .ok (.aload_n 0, 1) := by decide +kernel
theorem dX8_joinNext_11 : decode cX8_joinNext 11 = .ok (.invokevirtual 168, 3) := by decide +kernel
theorem dX8_joinNext_14 : decode cX8_joinNext 14 = .ok (.iconst 0, 1) := by decide +kernel
theorem dX8_joinNext_15 : decode cX8_joinNext 15 = .ok (.istore 8, 2) := by decide +kernel
theorem dX8_joinNext_17 : decode cX8_joinNext 17 = .ok (.iload 8, 2) := by decide +kernel
theorem dX8_joinNext_19 : decode cX8_joinNext 19 = .ok (.aload_n 0, 1) := by decide +kernel
theorem dX8_joinNext_20 : decode cX8_joinNext 20 = .ok (.getfield 82, 3) := by decide +kernel
theorem dX8_joinNext_23 : decode cX8_joinNext 23 = .ok (.if_icmp .ge 104, 3) := by decide +kernel
theorem dX8_joinNext_26 : decode cX8_joinNext 26 = .ok (.iload 8, 2) := by decide +kernel
theorem dX8_joinNext_28 : decode cX8_joinNext 28 = .ok (.iconst 1, 1) := by decide +kernel
theorem dX8_joinNext_29 : decode cX8_joinNext 29 = .ok (.iadd, 1) := by decide +kernel
theorem dX8_joinNext_30 : decode cX8_joinNext 30 = .ok (.istore 9, 2) := by decide +kernel
theorem dX8_joinNext_32 : decode cX8_joinNext 32 = .ok (.iload 9, 2) := by decide +kernel
theorem dX8_joinNext_34 : decode cX8_joinNext 34 = .ok (.aload_n 0, 1) := by decide +kernel
theorem dX8_joinNext_35 : decode cX8_joinNext 35 = .ok (.getfield 82, 3) := by decide +kernel
theorem dX8_joinNext_38 : decode cX8_joinNext 38 = .ok (.if_icmp .ge 83, 3) := by decide +kernel
theorem dX8_joinNext_41 : decode cX8_joinNext 41 = .ok (.aload_n 0, 1) := by decide +kernel
theorem dX8_joinNext_42 : decode cX8_joinNext 42 = .ok (.getfield 64, 3) := by decide +kernel
theorem dX8_joinNext_45 : decode cX8_joinNext 45 = .ok (.iload 8, 2) := by decide +kernel
theorem dX8_joinNext_47 : decode cX8_joinNext 47 = .ok (.iaload, 1) := by decide +kernel
theorem dX8_joinNext_48 : decode cX8_joinNext 48 = .ok (.iload 8, 2) := by decide +kernel
theorem dX8_joinNext_50 : decode cX8_joinNext 50 = .ok (.if_icmp .ne 71, 3) := by decide +kernel
theorem dX8_joinNext_53 : decode cX8_joinNext 53 = .ok (.aload_n 0, 1) := by decide +kernel
theorem dX8_joinNext_54 : decode cX8_joinNext 54 = .ok (.getfield 64, 3) := by decide +kernel
theorem dX8_joinNext_57 : decode cX8_joinNext 57 = .ok (.iload 9, 2) := by decide +kernel
theorem dX8_joinNext_59 : decode cX8_joinNext 59 = .ok (.iaload, 1) := by decide +kernel
theorem dX8_joinNext_60 : decode cX8_joinNext 60 = .ok (.iload 9, 2) := by decide +kernel
theorem dX8_joinNext_62 : decode cX8_joinNext 62 = .ok (.if_icmp .ne 53, 3) := by decide +kernel
theorem dX8_joinNext_65 : decode cX8_joinNext 65 = .ok (.aload_n 0, 1) := by decide +kernel
theorem dX8_joinNext_66 : decode cX8_joinNext 66 = .ok (.iload_n 1, 1) := by decide +kernel
theorem dX8_joinNext_67 : decode cX8_joinNext 67 = .ok (.iload 8, 2) := by decide +kernel
theorem dX8_joinNext_69 : decode cX8_joinNext 69 = .ok (.iload 9, 2) := by decide +kernel
theorem dX8_joinNext_71 : decode cX8_joinNext 71 = .ok (.invokevirtual 171, 3) := by decide +kernel
theorem dX8_joinNext_74 : decode cX8_joinNext 74 = .ok (.iload_n 2, 1) := by decide +kernel
theorem dX8_joinNext_75 : decode cX8_joinNext 75 = .ok (.iconst (-1), 1) := by decide +kernel
theorem dX8_joinNext_76 : decode cX8_joinNext 76 = .ok (.if_icmp .eq 21, 3) := by decide +kernel
theorem dX8_joinNext_79 : decode cX8_joinNext 79 = .ok (.aload_n 0, 1) := by decide +kernel
theorem dX8_joinNext_80 : decode cX8_joinNext 80 = .ok (.getfield 158, 3) := by decide +kernel
theorem dX8_joinNext_83 : decode cX8_joinNext 83 = .ok (.lload 6, 2) := by decide +kernel
theorem dX8_joinNext_85 : decode cX8_joinNext 85 = .ok (.lmul, 1) := by decide +kernel
theorem dX8_joinNext_86 : decode cX8_joinNext 86 = .ok (.lload 4, 2) := by decide +kernel
theorem dX8_joinNext_88 : decode cX8_joinNext 88 = .ok (.aload_n 0, 1) := by decide +kernel
theorem dX8_joinNext_89 : decode cX8_joinNext 89 = .ok (.getfield 162, 3) := by decide +kernel
theorem dX8_joinNext_92 : decode cX8_joinNext 92 = .ok (.lmul, 1) := by decide +kernel
theorem dX8_joinNext_93 : decode cX8_joinNext 93 = .ok (.lcmp, 1) := by decide +kernel
theorem dX8_joinNext_94 : decode cX8_joinNext 94 = .ok (.ifCond .ge 21, 3) := by decide +kernel
theorem dX8_joinNext_97 : decode cX8_joinNext 97 = .ok (.iload 8, 2) := by decide +kernel
theorem dX8_joinNext_99 : decode cX8_joinNext 99 = .ok (.istore_n 2, 1) := by decide +kernel
theorem dX8_joinNext_100 : decode cX8_joinNext 100 = .ok (.iload 9, 2) := by decide +kernel
theorem dX8_joinNext_102 : decode cX8_joinNext 102 = .ok (.istore_n 3, 1) := by decide +kernel
theorem dX8_joinNext_103 : decode cX8_joinNext 103 = .ok (.aload_n 0, 1) := by decide +kernel
theorem dX8_joinNext_104 : decode cX8_joinNext 104 = .ok (.getfield 158, 3) := by decide +kernel
theorem dX8_joinNext_107 : decode cX8_joinNext 107 = .ok (.lstore 4, 2) := by decide +kernel
theorem dX8_joinNext_109 : decode cX8_joinNext 109 = .ok (.aload_n 0, 1) := by decide +kernel
theorem dX8_joinNext_110 : decode cX8_joinNext 110 = .ok (.getfield 162, 3) := by decide +kernel
theorem dX8_joinNext_113 : decode cX8_joinNext 113 = .ok (.lstore 6, 2) := by decide +kernel
theorem dX8_joinNext_115 : decode cX8_joinNext 115 = .ok (.iinc 9 1, 3) := by decide +kernel
theorem dX8_joinNext_118 : decode cX8_joinNext 118 = .ok (.goto (-86), 3) := by decide +kernel
theorem dX8_joinNext_121 : decode cX8_joinNext 121 = .ok (.iinc 8 1, 3) := by decide +kernel
theorem dX8_joinNext_124 : decode cX8_joinNext 124 = .ok (.goto (-107), 3) := by decide +kernel
theorem dX8_joinNext_127 : decode cX8_joinNext 127 = .ok (.lload 4, 2) := by decide +kernel
theorem dX8_joinNext_129 : decode cX8_joinNext 129 = .ok (.lload 6, 2) := by decide +kernel
theorem dX8_joinNext_131 : decode cX8_joinNext 131 = .ok (.invokestatic 174, 3) := by decide +kernel
theorem dX8_joinNext_134 : decode cX8_joinNext 134 = .ok (.lstore 8, 2) := by decide +kernel
theorem dX8_joinNext_136 : decode cX8_joinNext 136 = .ok (.aload_n 0, 1) := by decide +kernel
theorem dX8_joinNext_137 : decode cX8_joinNext 137 = .ok (.getfield 30, 3) := by decide +kernel
theorem dX8_joinNext_140 : decode cX8_joinNext 140 = .ok (.aload_n 0, 1) := by decide +kernel
theorem dX8_joinNext_141 : decode cX8_joinNext 141 = .ok (.getfield 102, 3) := by decide +kernel
theorem dX8_joinNext_144 : decode cX8_joinNext 144 = .ok (.iload_n 2, 1) := by decide +kernel
theorem dX8_joinNext_145 : decode cX8_joinNext 145 = .ok (.iastore, 1) := by decide +kernel
theorem dX8_joinNext_146 : decode cX8_joinNext 146 = .ok (.aload_n 0, 1) := by decide +kernel
theorem dX8_joinNext_147 : decode cX8_joinNext 147 = .ok (.getfield 33, 3) := by decide +kernel
theorem dX8_joinNext_150 : decode cX8_joinNext 150 = .ok (.aload_n 0, 1) := by decide +kernel
theorem dX8_joinNext_151 : decode cX8_joinNext 151 = .ok (.getfield 102, 3) := by decide +kernel
theorem dX8_joinNext_154 : decode cX8_joinNext 154 = .ok (.iload_n 3, 1) := by decide +kernel
theorem dX8_joinNext_155 : decode cX8_joinNext 155 = .ok (.iastore, 1) := by decide +kernel
theorem dX8_joinNext_156 : decode cX8_joinNext 156 = .ok (.aload_n 0, 1) := by decide +kernel
theorem dX8_joinNext_157 : decode cX8_joinNext 157 = .ok (.getfield 39, 3) := by decide +kernel
theorem dX8_joinNext_160 : decode cX8_joinNext 160 = .ok (.aload_n 0, 1) := by decide +kernel
theorem dX8_joinNext_161 : decode cX8_joinNext 161 = .ok (.getfield 102, 3) := by decide +kernel
theorem dX8_joinNext_164 : decode cX8_joinNext 164 = .ok (.lload 4, 2) := by decide +kernel
theorem dX8_joinNext_166 : decode cX8_joinNext 166 = .ok (.lload 8, 2) := by decide +kernel
theorem dX8_joinNext_168 : decode cX8_joinNext 168 = .ok (.ldiv, 1) := by decide +kernel
theorem dX8_joinNext_169 : decode cX8_joinNext 169 = .ok (.lastore, 1) := by decide +kernel
theorem dX8_joinNext_170 : decode cX8_joinNext 170 = .ok (.aload_n 0, 1) := by decide +kernel
theorem dX8_joinNext_171 : decode cX8_joinNext 171 = .ok (.getfield 43, 3) := by decide +kernel
theorem dX8_joinNext_174 : decode cX8_joinNext 174 = .ok (.aload_n 0, 1) := by decide +kernel
theorem dX8_joinNext_175 : decode cX8_joinNext 175 = .ok (.getfield 102, 3) := by decide +kernel
theorem dX8_joinNext_178 : decode cX8_joinNext 178 = .ok (.lload 6, 2) := by decide +kernel
theorem dX8_joinNext_180 : decode cX8_joinNext 180 = .ok (.lload 8, 2) := by decide +kernel
theorem dX8_joinNext_182 : decode cX8_joinNext 182 = .ok (.ldiv, 1) := by decide +kernel
theorem dX8_joinNext_183 : decode cX8_joinNext 183 = .ok (.lastore, 1) := by decide +kernel
theorem dX8_joinNext_184 : decode cX8_joinNext 184 = .ok (.iconst 0, 1) := by decide +kernel
theorem dX8_joinNext_185 : decode cX8_joinNext 185 = .ok (.istore 10, 2) := by decide +kernel
theorem dX8_joinNext_187 : decode cX8_joinNext 187 = .ok (.iload 10, 2) := by decide +kernel
theorem dX8_joinNext_189 : decode cX8_joinNext 189 = .ok (.aload_n 0, 1) := by decide +kernel
theorem dX8_joinNext_190 : decode cX8_joinNext 190 = .ok (.getfield 82, 3) := by decide +kernel
theorem dX8_joinNext_193 : decode cX8_joinNext 193 = .ok (.if_icmp .ge 38, 3) := by decide +kernel
theorem dX8_joinNext_196 : decode cX8_joinNext 196 = .ok (.aload_n 0, 1) := by decide +kernel
theorem dX8_joinNext_197 : decode cX8_joinNext 197 = .ok (.getfield 64, 3) := by decide +kernel
theorem dX8_joinNext_200 : decode cX8_joinNext 200 = .ok (.iload 10, 2) := by decide +kernel
theorem dX8_joinNext_202 : decode cX8_joinNext 202 = .ok (.aload_n 0, 1) := by decide +kernel
theorem dX8_joinNext_203 : decode cX8_joinNext 203 = .ok (.getfield 64, 3) := by decide +kernel
theorem dX8_joinNext_206 : decode cX8_joinNext 206 = .ok (.iload 10, 2) := by decide +kernel
theorem dX8_joinNext_208 : decode cX8_joinNext 208 = .ok (.iaload, 1) := by decide +kernel
theorem dX8_joinNext_209 : decode cX8_joinNext 209 = .ok (.iload_n 3, 1) := by decide +kernel
theorem dX8_joinNext_210 : decode cX8_joinNext 210 = .ok (.if_icmp .ne 7, 3) := by decide +kernel
theorem dX8_joinNext_213 : decode cX8_joinNext 213 = .ok (.iload_n 2, 1) := by decide +kernel
theorem dX8_joinNext_214 : decode cX8_joinNext 214 = .ok (.goto 10, 3) := by decide +kernel
theorem dX8_joinNext_217 : decode cX8_joinNext 217 = .ok (.aload_n 0, 1) := by decide +kernel
theorem dX8_joinNext_218 : decode cX8_joinNext 218 = .ok (.getfield 64, 3) := by decide +kernel
theorem dX8_joinNext_221 : decode cX8_joinNext 221 = .ok (.iload 10, 2) := by decide +kernel
theorem dX8_joinNext_223 : decode cX8_joinNext 223 = .ok (.iaload, 1) := by decide +kernel
theorem dX8_joinNext_224 : decode cX8_joinNext 224 = .ok (.iastore, 1) := by decide +kernel
theorem dX8_joinNext_225 : decode cX8_joinNext 225 = .ok (.iinc 10 1, 3) := by decide +kernel
theorem dX8_joinNext_228 : decode cX8_joinNext 228 = .ok (.goto (-41), 3) := by decide +kernel
theorem dX8_joinNext_231 : decode cX8_joinNext 231 = .ok (.aload_n 0, 1) := by decide +kernel
theorem dX8_joinNext_232 : decode cX8_joinNext 232 = .ok (.getfield 36, 3) := by decide +kernel
theorem dX8_joinNext_235 : decode cX8_joinNext 235 = .ok (.aload_n 0, 1) := by decide +kernel
theorem dX8_joinNext_236 : decode cX8_joinNext 236 = .ok (.getfield 102, 3) := by decide +kernel
theorem dX8_joinNext_239 : decode cX8_joinNext 239 = .ok (.aload_n 0, 1) := by decide +kernel
theorem dX8_joinNext_240 : decode cX8_joinNext 240 = .ok (.getfield 67, 3) := by decide +kernel
theorem dX8_joinNext_243 : decode cX8_joinNext 243 = .ok (.iload_n 2, 1) := by decide +kernel
theorem dX8_joinNext_244 : decode cX8_joinNext 244 = .ok (.laload, 1) := by decide +kernel
theorem dX8_joinNext_245 : decode cX8_joinNext 245 = .ok (.aload_n 0, 1) := by decide +kernel
theorem dX8_joinNext_246 : decode cX8_joinNext 246 = .ok (.getfield 67, 3) := by decide +kernel
theorem dX8_joinNext_249 : decode cX8_joinNext 249 = .ok (.iload_n 3, 1) := by decide +kernel
theorem dX8_joinNext_250 : decode cX8_joinNext 250 = .ok (.laload, 1) := by decide +kernel
theorem dX8_joinNext_251 : decode cX8_joinNext 251 = .ok (.ladd, 1) := by decide +kernel
theorem dX8_joinNext_252 : decode cX8_joinNext 252 = .ok (.l2i, 1) := by decide +kernel
theorem dX8_joinNext_253 : decode cX8_joinNext 253 = .ok (.iastore, 1) := by decide +kernel
theorem dX8_joinNext_254 : decode cX8_joinNext 254 = .ok (.aload_n 0, 1) := by decide +kernel
theorem dX8_joinNext_255 : decode cX8_joinNext 255 = .ok (.dup, 1) := by decide +kernel
theorem dX8_joinNext_256 : decode cX8_joinNext 256 = .ok (.getfield 102, 3) := by decide +kernel
theorem dX8_joinNext_259 : decode cX8_joinNext 259 = .ok (.iconst 1, 1) := by decide +kernel
theorem dX8_joinNext_260 : decode cX8_joinNext 260 = .ok (.iadd, 1) := by decide +kernel
theorem dX8_joinNext_261 : decode cX8_joinNext 261 = .ok (.putfield 102, 3) := by decide +kernel
theorem dX8_joinNext_264 : decode cX8_joinNext 264 = .ok (.return_, 1) := by decide +kernel
theorem dX8_join_0 : decode cX8_join 0 = .ok (.iload_n 2, 1) := by decide +kernel
theorem dX8_join_1 : decode cX8_join 1 = .ok (.iconst 0, 1) := by decide +kernel
theorem dX8_join_2 : decode cX8_join 2 = .ok (.iconst 4, 1) := by decide +kernel
theorem dX8_join_3 : decode cX8_join 3 = .ok (.invokestatic 85, 3) := by decide +kernel
theorem dX8_join_6 : decode cX8_join 6 = .ok (.ifCond .ne 7, 3) := by decide +kernel
theorem dX8_join_9 : decode cX8_join 9 = .ok (.ldc2_w 178, 3) := by decide +kernel
theorem dX8_join_12 : decode cX8_join 12 = .ok (.lreturn, 1) := by decide +kernel
theorem dX8_join_13 : decode cX8_join 13 = .ok (.aload_n 0, 1) := by decide +kernel
theorem dX8_join_14 : decode cX8_join 14 = .ok (.getfield 92, 3) := by decide +kernel
theorem dX8_join_17 : decode cX8_join 17 = .ok (.ifCond .ne 7, 3) := by decide +kernel
theorem dX8_join_20 : decode cX8_join 20 = .ok (.ldc2_w 180, 3) := by decide +kernel
theorem dX8_join_23 : decode cX8_join 23 = .ok (.lreturn, 1) := by decide +kernel
theorem dX8_join_24 : decode cX8_join 24 = .ok (.iload_n 1, 1) := by decide +kernel
theorem dX8_join_25 : decode cX8_join 25 = .ok (.iconst 0, 1) := by decide +kernel
theorem dX8_join_26 : decode cX8_join 26 = .ok (.aload_n 0, 1) := by decide +kernel
theorem dX8_join_27 : decode cX8_join 27 = .ok (.getfield 102, 3) := by decide +kernel
theorem dX8_join_30 : decode cX8_join 30 = .ok (.iconst 1, 1) := by decide +kernel
theorem dX8_join_31 : decode cX8_join 31 = .ok (.isub, 1) := by decide +kernel
theorem dX8_join_32 : decode cX8_join 32 = .ok (.invokestatic 85, 3) := by decide +kernel
theorem dX8_join_35 : decode cX8_join 35 = .ok (.ifCond .ne 7, 3) := by decide +kernel
theorem dX8_join_38 : decode cX8_join 38 = .ok (.ldc2_w 156, 3) := by decide +kernel
theorem dX8_join_41 : decode cX8_join 41 = .ok (.lreturn, 1) := by decide +kernel
theorem dX8_join_42 : decode cX8_join 42 = .ok (.iload_n 2, 1) := by decide +kernel
theorem dX8_join_43 : decode cX8_join 43 = .ok (.tableswitch 60 0 3 #[29, 37, 45, 53], 29) := by decide +kernel
theorem dX8_join_72 : decode cX8_join 72 = .ok (.aload_n 0, 1) := by decide +kernel
theorem dX8_join_73 : decode cX8_join 73 = .ok (.getfield 30, 3) := by decide +kernel
theorem dX8_join_76 : decode cX8_join 76 = .ok (.iload_n 1, 1) := by decide +kernel
theorem dX8_join_77 : decode cX8_join 77 = .ok (.iaload, 1) := by decide +kernel
theorem dX8_join_78 : decode cX8_join 78 = .ok (.i2l, 1) := by decide +kernel
theorem dX8_join_79 : decode cX8_join 79 = .ok (.lreturn, 1) := by decide +kernel
theorem dX8_join_80 : decode cX8_join 80 = .ok (.aload_n 0, 1) := by decide +kernel
theorem dX8_join_81 : decode cX8_join 81 = .ok (.getfield 33, 3) := by decide +kernel
theorem dX8_join_84 : decode cX8_join 84 = .ok (.iload_n 1, 1) := by decide +kernel
theorem dX8_join_85 : decode cX8_join 85 = .ok (.iaload, 1) := by decide +kernel
theorem dX8_join_86 : decode cX8_join 86 = .ok (.i2l, 1) := by decide +kernel
theorem dX8_join_87 : decode cX8_join 87 = .ok (.lreturn, 1) := by decide +kernel
theorem dX8_join_88 : decode cX8_join 88 = .ok (.aload_n 0, 1) := by decide +kernel
theorem dX8_join_89 : decode cX8_join 89 = .ok (.getfield 36, 3) := by decide +kernel
theorem dX8_join_92 : decode cX8_join 92 = .ok (.iload_n 1, 1) := by decide +kernel
theorem dX8_join_93 : decode cX8_join 93 = .ok (.iaload, 1) := by decide +kernel
theorem dX8_join_94 : decode cX8_join 94 = .ok (.i2l, 1) := by decide +kernel
theorem dX8_join_95 : decode cX8_join 95 = .ok (.lreturn, 1) := by decide +kernel
theorem dX8_join_96 : decode cX8_join 96 = .ok (.aload_n 0, 1) := by decide +kernel
theorem dX8_join_97 : decode cX8_join 97 = .ok (.getfield 39, 3) := by decide +kernel
theorem dX8_join_100 : decode cX8_join 100 = .ok (.iload_n 1, 1) := by decide +kernel
theorem dX8_join_101 : decode cX8_join 101 = .ok (.laload, 1) := by decide +kernel
theorem dX8_join_102 : decode cX8_join 102 = .ok (.lreturn, 1) := by decide +kernel
theorem dX8_join_103 : decode cX8_join 103 = .ok (.aload_n 0, 1) := by decide +kernel
theorem dX8_join_104 : decode cX8_join 104 = .ok (.getfield 43, 3) := by decide +kernel
theorem dX8_join_107 : decode cX8_join 107 = .ok (.iload_n 1, 1) := by decide +kernel
theorem dX8_join_108 : decode cX8_join 108 = .ok (.laload, 1) := by decide +kernel
theorem dX8_join_109 : decode cX8_join 109 = .ok (.lreturn, 1) := by decide +kernel
theorem dX8_cut_0 : decode cX8_cut 0 = .ok (.iload_n 1, 1) := by decide +kernel
theorem dX8_cut_1 : decode cX8_cut 1 = .ok (.iconst 0, 1) := by decide +kernel
theorem dX8_cut_2 : decode cX8_cut 2 = .ok (.iconst 1, 1) := by decide +kernel
theorem dX8_cut_3 : decode cX8_cut 3 = .ok (.invokestatic 85, 3) := by decide +kernel
theorem dX8_cut_6 : decode cX8_cut 6 = .ok (.ifCond .eq 13, 3) := by decide +kernel
theorem dX8_cut_9 : decode cX8_cut 9 = .ok (.iload_n 2, 1) := by decide +kernel
theorem dX8_cut_10 : decode cX8_cut 10 = .ok (.iconst 1, 1) := by decide +kernel
theorem dX8_cut_11 : decode cX8_cut 11 = .ok (.bipush 30, 2) := by decide +kernel
theorem dX8_cut_13 : decode cX8_cut 13 = .ok (.invokestatic 85, 3) := by decide +kernel
theorem dX8_cut_16 : decode cX8_cut 16 = .ok (.ifCond .ne 6, 3) := by decide +kernel
theorem dX8_cut_19 : decode cX8_cut 19 = .ok (.ldc 96, 2) := by decide +kernel
theorem dX8_cut_21 : decode cX8_cut 21 = .ok (.ireturn, 1) := by decide +kernel
theorem dX8_cut_22 : decode cX8_cut 22 = .ok (.aload_n 0, 1) := by decide +kernel
theorem dX8_cut_23 : decode cX8_cut 23 = .ok (.getfield 92, 3) := by decide +kernel
theorem dX8_cut_26 : decode cX8_cut 26 = .ok (.ifCond .eq 11, 3) := by decide +kernel
theorem dX8_cut_29 : decode cX8_cut 29 = .ok (.aload_n 0, 1) := by decide +kernel
theorem dX8_cut_30 : decode cX8_cut 30 = .ok (.getfield 82, 3) := by decide +kernel
theorem dX8_cut_33 : decode cX8_cut 33 = .ok (.iload_n 2, 1) := by decide +kernel
theorem dX8_cut_34 : decode cX8_cut 34 = .ok (.if_icmp .ge 6, 3) := by decide +kernel
theorem dX8_cut_37 : decode cX8_cut 37 = .ok (.ldc 97, 2) := by decide +kernel
theorem dX8_cut_39 : decode cX8_cut 39 = .ok (.ireturn, 1) := by decide +kernel
theorem dX8_cut_40 : decode cX8_cut 40 = .ok (.iconst 0, 1) := by decide +kernel
theorem dX8_cut_41 : decode cX8_cut 41 = .ok (.istore_n 3, 1) := by decide +kernel
theorem dX8_cut_42 : decode cX8_cut 42 = .ok (.iload_n 3, 1) := by decide +kernel
theorem dX8_cut_43 : decode cX8_cut 43 = .ok (.aload_n 0, 1) := by decide +kernel
theorem dX8_cut_44 : decode cX8_cut 44 = .ok (.getfield 82, 3) := by decide +kernel
theorem dX8_cut_47 : decode cX8_cut 47 = .ok (.if_icmp .ge 16, 3) := by decide +kernel
theorem dX8_cut_50 : decode cX8_cut 50 = .ok (.aload_n 0, 1) := by decide +kernel
theorem dX8_cut_51 : decode cX8_cut 51 = .ok (.getfield 64, 3) := by decide +kernel
theorem dX8_cut_54 : decode cX8_cut 54 = .ok (.iload_n 3, 1) := by decide +kernel
theorem dX8_cut_55 : decode cX8_cut 55 = .ok (.iload_n 3, 1) := by decide +kernel
theorem dX8_cut_56 : decode cX8_cut 56 = .ok (.iastore, 1) := by decide +kernel
theorem dX8_cut_57 : decode cX8_cut 57 = .ok (.iinc 3 1, 3) := by decide +kernel
theorem dX8_cut_60 : decode cX8_cut 60 = .ok (.goto (-18), 3) := by decide +kernel
theorem dX8_cut_63 : decode cX8_cut 63 = .ok (.iconst 0, 1) := by decide +kernel
theorem dX8_cut_64 : decode cX8_cut 64 = .ok (.istore_n 3, 1) := by decide +kernel
theorem dX8_cut_65 : decode cX8_cut 65 = .ok (.iload_n 3, 1) := by decide +kernel
theorem dX8_cut_66 : decode cX8_cut 66 = .ok (.aload_n 0, 1) := by decide +kernel
theorem dX8_cut_67 : decode cX8_cut 67 = .ok (.getfield 82, 3) := by decide +kernel
theorem dX8_cut_70 : decode cX8_cut 70 = .ok (.iload_n 2, 1) := by decide +kernel
theorem dX8_cut_71 : decode cX8_cut 71 = .ok (.isub, 1) := by decide +kernel
theorem dX8_cut_72 : decode cX8_cut 72 = .ok (.if_icmp .ge 66, 3) := by decide +kernel
theorem dX8_cut_75 : decode cX8_cut 75 = .ok (.iconst 0, 1) := by decide +kernel
theorem dX8_cut_76 : decode cX8_cut 76 = .ok (.istore 4, 2) := by decide +kernel
theorem dX8_cut_78 : decode cX8_cut 78 = .ok (.iload 4, 2) := by decide +kernel
theorem dX8_cut_80 : decode cX8_cut 80 = .ok (.aload_n 0, 1) := by decide +kernel
theorem dX8_cut_81 : decode cX8_cut 81 = .ok (.getfield 82, 3) := by decide +kernel
theorem dX8_cut_84 : decode cX8_cut 84 = .ok (.if_icmp .ge 48, 3) := by decide +kernel
theorem dX8_cut_87 : decode cX8_cut 87 = .ok (.aload_n 0, 1) := by decide +kernel
theorem dX8_cut_88 : decode cX8_cut 88 = .ok (.getfield 64, 3) := by decide +kernel
theorem dX8_cut_91 : decode cX8_cut 91 = .ok (.iload 4, 2) := by decide +kernel
theorem dX8_cut_93 : decode cX8_cut 93 = .ok (.aload_n 0, 1) := by decide +kernel
theorem dX8_cut_94 : decode cX8_cut 94 = .ok (.getfield 64, 3) := by decide +kernel
theorem dX8_cut_97 : decode cX8_cut 97 = .ok (.iload 4, 2) := by decide +kernel
theorem dX8_cut_99 : decode cX8_cut 99 = .ok (.iaload, 1) := by decide +kernel
theorem dX8_cut_100 : decode cX8_cut 100 = .ok (.aload_n 0, 1) := by decide +kernel
theorem dX8_cut_101 : decode cX8_cut 101 = .ok (.getfield 33, 3) := by decide +kernel
theorem dX8_cut_104 : decode cX8_cut 104 = .ok (.iload_n 3, 1) := by decide +kernel
theorem dX8_cut_105 : decode cX8_cut 105 = .ok (.iaload, 1) := by decide +kernel
theorem dX8_cut_106 : decode cX8_cut 106 = .ok (.if_icmp .ne 12, 3) := by decide +kernel
theorem dX8_cut_109 : decode cX8_cut 109 = .ok (.aload_n 0, 1) := by decide +kernel
theorem dX8_cut_110 : decode cX8_cut 110 = .ok (.getfield 30, 3) := by decide +kernel
theorem dX8_cut_113 : decode cX8_cut 113 = .ok (.iload_n 3, 1) := by decide +kernel
theorem dX8_cut_114 : decode cX8_cut 114 = .ok (.iaload, 1) := by decide +kernel
theorem dX8_cut_115 : decode cX8_cut 115 = .ok (.goto 10, 3) := by decide +kernel
theorem dX8_cut_118 : decode cX8_cut 118 = .ok (.aload_n 0, 1) := by decide +kernel
theorem dX8_cut_119 : decode cX8_cut 119 = .ok (.getfield 64, 3) := by decide +kernel
theorem dX8_cut_122 : decode cX8_cut 122 = .ok (.iload 4, 2) := by decide +kernel
theorem dX8_cut_124 : decode cX8_cut 124 = .ok (.iaload, 1) := by decide +kernel
theorem dX8_cut_125 : decode cX8_cut 125 = .ok (.iastore, 1) := by decide +kernel
theorem dX8_cut_126 : decode cX8_cut 126 = .ok (.iinc 4 1, 3) := by decide +kernel
theorem dX8_cut_129 : decode cX8_cut 129 = .ok (.goto (-51), 3) := by decide +kernel
theorem dX8_cut_132 : decode cX8_cut 132 = .ok (.iinc 3 1, 3) := by decide +kernel
theorem dX8_cut_135 : decode cX8_cut 135 = .ok (.goto (-70), 3) := by decide +kernel
theorem dX8_cut_138 : decode cX8_cut 138 = .ok (.iconst 0, 1) := by decide +kernel
theorem dX8_cut_139 : decode cX8_cut 139 = .ok (.istore_n 3, 1) := by decide +kernel
theorem dX8_cut_140 : decode cX8_cut 140 = .ok (.iconst 0, 1) := by decide +kernel
theorem dX8_cut_141 : decode cX8_cut 141 = .ok (.istore 4, 2) := by decide +kernel
theorem dX8_cut_143 : decode cX8_cut 143 = .ok (.iload 4, 2) := by decide +kernel
theorem dX8_cut_145 : decode cX8_cut 145 = .ok (.aload_n 0, 1) := by decide +kernel
theorem dX8_cut_146 : decode cX8_cut 146 = .ok (.getfield 82, 3) := by decide +kernel
theorem dX8_cut_149 : decode cX8_cut 149 = .ok (.if_icmp .ge 56, 3) := by decide +kernel
theorem dX8_cut_152 : decode cX8_cut 152 = .ok (.aload_n 0, 1) := by decide +kernel
theorem dX8_cut_153 : decode cX8_cut 153 = .ok (.getfield 64, 3) := by decide +kernel
theorem dX8_cut_156 : decode cX8_cut 156 = .ok (.iload 4, 2) := by decide +kernel
theorem dX8_cut_158 : decode cX8_cut 158 = .ok (.iaload, 1) := by decide +kernel
theorem dX8_cut_159 : decode cX8_cut 159 = .ok (.iload 4, 2) := by decide +kernel
theorem dX8_cut_161 : decode cX8_cut 161 = .ok (.if_icmp .ne 14, 3) := by decide +kernel
theorem dX8_cut_164 : decode cX8_cut 164 = .ok (.aload_n 0, 1) := by decide +kernel
theorem dX8_cut_165 : decode cX8_cut 165 = .ok (.getfield 55, 3) := by decide +kernel
theorem dX8_cut_168 : decode cX8_cut 168 = .ok (.iload 4, 2) := by decide +kernel
theorem dX8_cut_170 : decode cX8_cut 170 = .ok (.iload_n 3, 1) := by decide +kernel
theorem dX8_cut_171 : decode cX8_cut 171 = .ok (.iastore, 1) := by decide +kernel
theorem dX8_cut_172 : decode cX8_cut 172 = .ok (.iinc 3 1, 3) := by decide +kernel
theorem dX8_cut_175 : decode cX8_cut 175 = .ok (.aload_n 0, 1) := by decide +kernel
theorem dX8_cut_176 : decode cX8_cut 176 = .ok (.getfield 24, 3) := by decide +kernel
theorem dX8_cut_179 : decode cX8_cut 179 = .ok (.bipush 30, 2) := by decide +kernel
theorem dX8_cut_181 : decode cX8_cut 181 = .ok (.iload_n 1, 1) := by decide +kernel
theorem dX8_cut_182 : decode cX8_cut 182 = .ok (.imul, 1) := by decide +kernel
theorem dX8_cut_183 : decode cX8_cut 183 = .ok (.iload 4, 2) := by decide +kernel
theorem dX8_cut_185 : decode cX8_cut 185 = .ok (.iadd, 1) := by decide +kernel
theorem dX8_cut_186 : decode cX8_cut 186 = .ok (.aload_n 0, 1) := by decide +kernel
theorem dX8_cut_187 : decode cX8_cut 187 = .ok (.getfield 55, 3) := by decide +kernel
theorem dX8_cut_190 : decode cX8_cut 190 = .ok (.aload_n 0, 1) := by decide +kernel
theorem dX8_cut_191 : decode cX8_cut 191 = .ok (.getfield 64, 3) := by decide +kernel
theorem dX8_cut_194 : decode cX8_cut 194 = .ok (.iload 4, 2) := by decide +kernel
theorem dX8_cut_196 : decode cX8_cut 196 = .ok (.iaload, 1) := by decide +kernel
theorem dX8_cut_197 : decode cX8_cut 197 = .ok (.iaload, 1) := by decide +kernel
theorem dX8_cut_198 : decode cX8_cut 198 = .ok (.iastore, 1) := by decide +kernel
theorem dX8_cut_199 : decode cX8_cut 199 = .ok (.iinc 4 1, 3) := by decide +kernel
theorem dX8_cut_202 : decode cX8_cut 202 = .ok (.goto (-59), 3) := by decide +kernel
theorem dX8_cut_205 : decode cX8_cut 205 = .ok (.aload_n 0, 1) := by decide +kernel
theorem dX8_cut_206 : decode cX8_cut 206 = .ok (.getfield 21, 3) := by decide +kernel
theorem dX8_cut_209 : decode cX8_cut 209 = .ok (.iload_n 1, 1) := by decide +kernel
theorem dX8_cut_210 : decode cX8_cut 210 = .ok (.iload_n 2, 1) := by decide +kernel
theorem dX8_cut_211 : decode cX8_cut 211 = .ok (.iastore, 1) := by decide +kernel
theorem dX8_cut_212 : decode cX8_cut 212 = .ok (.aload_n 0, 1) := by decide +kernel
theorem dX8_cut_213 : decode cX8_cut 213 = .ok (.getfield 17, 3) := by decide +kernel
theorem dX8_cut_216 : decode cX8_cut 216 = .ok (.iload_n 1, 1) := by decide +kernel
theorem dX8_cut_217 : decode cX8_cut 217 = .ok (.iconst 1, 1) := by decide +kernel
theorem dX8_cut_218 : decode cX8_cut 218 = .ok (.bastore, 1) := by decide +kernel
theorem dX8_cut_219 : decode cX8_cut 219 = .ok (.iconst 1, 1) := by decide +kernel
theorem dX8_cut_220 : decode cX8_cut 220 = .ok (.ireturn, 1) := by decide +kernel
theorem dX8_of0_0 : decode cX8_of0 0 = .ok (.aload_n 0, 1) := by decide +kernel
theorem dX8_of0_1 : decode cX8_of0 1 = .ok (.getfield 24, 3) := by decide +kernel
theorem dX8_of0_4 : decode cX8_of0 4 = .ok (.bipush 30, 2) := by decide +kernel
theorem dX8_of0_6 : decode cX8_of0 6 = .ok (.iload_n 1, 1) := by decide +kernel
theorem dX8_of0_7 : decode cX8_of0 7 = .ok (.imul, 1) := by decide +kernel
theorem dX8_of0_8 : decode cX8_of0 8 = .ok (.iload_n 2, 1) := by decide +kernel
theorem dX8_of0_9 : decode cX8_of0 9 = .ok (.iadd, 1) := by decide +kernel
theorem dX8_of0_10 : decode cX8_of0 10 = .ok (.iaload, 1) := by decide +kernel
theorem dX8_of0_11 : decode cX8_of0 11 = .ok (.ireturn, 1) := by decide +kernel
theorem dX8_of_0 : decode cX8_of 0 = .ok (.aload_n 0, 1) := by decide +kernel
theorem dX8_of_1 : decode cX8_of 1 = .ok (.iload_n 2, 1) := by decide +kernel
theorem dX8_of_2 : decode cX8_of 2 = .ok (.invokevirtual 109, 3) := by decide +kernel
theorem dX8_of_5 : decode cX8_of 5 = .ok (.ifCond .ne 6, 3) := by decide +kernel
theorem dX8_of_8 : decode cX8_of 8 = .ok (.ldc 113, 2) := by decide +kernel
theorem dX8_of_10 : decode cX8_of 10 = .ok (.ireturn, 1) := by decide +kernel
theorem dX8_of_11 : decode cX8_of 11 = .ok (.iload_n 1, 1) := by decide +kernel
theorem dX8_of_12 : decode cX8_of 12 = .ok (.iconst 0, 1) := by decide +kernel
theorem dX8_of_13 : decode cX8_of 13 = .ok (.iconst 1, 1) := by decide +kernel
theorem dX8_of_14 : decode cX8_of 14 = .ok (.invokestatic 85, 3) := by decide +kernel
theorem dX8_of_17 : decode cX8_of 17 = .ok (.ifCond .ne 6, 3) := by decide +kernel
theorem dX8_of_20 : decode cX8_of 20 = .ok (.ldc 96, 2) := by decide +kernel
theorem dX8_of_22 : decode cX8_of 22 = .ok (.ireturn, 1) := by decide +kernel
theorem dX8_of_23 : decode cX8_of 23 = .ok (.aload_n 0, 1) := by decide +kernel
theorem dX8_of_24 : decode cX8_of 24 = .ok (.getfield 17, 3) := by decide +kernel
theorem dX8_of_27 : decode cX8_of 27 = .ok (.iload_n 1, 1) := by decide +kernel
theorem dX8_of_28 : decode cX8_of 28 = .ok (.baload, 1) := by decide +kernel
theorem dX8_of_29 : decode cX8_of 29 = .ok (.ifCond .eq 12, 3) := by decide +kernel
theorem dX8_of_32 : decode cX8_of 32 = .ok (.aload_n 0, 1) := by decide +kernel
theorem dX8_of_33 : decode cX8_of 33 = .ok (.iload_n 1, 1) := by decide +kernel
theorem dX8_of_34 : decode cX8_of 34 = .ok (.iload_n 2, 1) := by decide +kernel
theorem dX8_of_35 : decode cX8_of 35 = .ok (.invokevirtual 182, 3) := by decide +kernel
theorem dX8_of_38 : decode cX8_of 38 = .ok (.goto 5, 3) := by decide +kernel
theorem dX8_of_41 : decode cX8_of 41 = .ok (.ldc 97, 2) := by decide +kernel
theorem dX8_of_43 : decode cX8_of 43 = .ok (.ireturn, 1) := by decide +kernel
theorem dX8_sizeIn_0 : decode cX8_sizeIn 0 = .ok (.iconst 0, 1) := by decide +kernel
theorem dX8_sizeIn_1 : decode cX8_sizeIn 1 = .ok (.istore_n 3, 1) := by decide +kernel
theorem dX8_sizeIn_2 : decode cX8_sizeIn 2 = .ok (.iconst 0, 1) := by decide +kernel
theorem dX8_sizeIn_3 : decode cX8_sizeIn 3 = .ok (.istore 4, 2) := by decide +kernel
theorem dX8_sizeIn_5 : decode cX8_sizeIn 5 = .ok (.iload 4, 2) := by decide +kernel
theorem dX8_sizeIn_7 : decode cX8_sizeIn 7 = .ok (.aload_n 0, 1) := by decide +kernel
theorem dX8_sizeIn_8 : decode cX8_sizeIn 8 = .ok (.getfield 82, 3) := by decide +kernel
theorem dX8_sizeIn_11 : decode cX8_sizeIn 11 = .ok (.if_icmp .ge 28, 3) := by decide +kernel
theorem dX8_sizeIn_14 : decode cX8_sizeIn 14 = .ok (.iload_n 3, 1) := by decide +kernel
theorem dX8_sizeIn_15 : decode cX8_sizeIn 15 = .ok (.aload_n 0, 1) := by decide +kernel
theorem dX8_sizeIn_16 : decode cX8_sizeIn 16 = .ok (.iload_n 1, 1) := by decide +kernel
theorem dX8_sizeIn_17 : decode cX8_sizeIn 17 = .ok (.iload 4, 2) := by decide +kernel
theorem dX8_sizeIn_19 : decode cX8_sizeIn 19 = .ok (.invokevirtual 182, 3) := by decide +kernel
theorem dX8_sizeIn_22 : decode cX8_sizeIn 22 = .ok (.iload_n 2, 1) := by decide +kernel
theorem dX8_sizeIn_23 : decode cX8_sizeIn 23 = .ok (.if_icmp .ne 7, 3) := by decide +kernel
theorem dX8_sizeIn_26 : decode cX8_sizeIn 26 = .ok (.iconst 1, 1) := by decide +kernel
theorem dX8_sizeIn_27 : decode cX8_sizeIn 27 = .ok (.goto 4, 3) := by decide +kernel
theorem dX8_sizeIn_30 : decode cX8_sizeIn 30 = .ok (.iconst 0, 1) := by decide +kernel
theorem dX8_sizeIn_31 : decode cX8_sizeIn 31 = .ok (.iadd, 1) := by decide +kernel
theorem dX8_sizeIn_32 : decode cX8_sizeIn 32 = .ok (.istore_n 3, 1) := by decide +kernel
theorem dX8_sizeIn_33 : decode cX8_sizeIn 33 = .ok (.iinc 4 1, 3) := by decide +kernel
theorem dX8_sizeIn_36 : decode cX8_sizeIn 36 = .ok (.goto (-31), 3) := by decide +kernel
theorem dX8_sizeIn_39 : decode cX8_sizeIn 39 = .ok (.iload_n 3, 1) := by decide +kernel
theorem dX8_sizeIn_40 : decode cX8_sizeIn 40 = .ok (.ireturn, 1) := by decide +kernel
theorem dX8_refused_0 : decode cX8_refused 0 = .ok (.iload_n 1, 1) := by decide +kernel
theorem dX8_refused_1 : decode cX8_refused 1 = .ok (.iconst 0, 1) := by decide +kernel
theorem dX8_refused_2 : decode cX8_refused 2 = .ok (.iconst 1, 1) := by decide +kernel
theorem dX8_refused_3 : decode cX8_refused 3 = .ok (.invokestatic 85, 3) := by decide +kernel
theorem dX8_refused_6 : decode cX8_refused 6 = .ok (.ifCond .ne 6, 3) := by decide +kernel
theorem dX8_refused_9 : decode cX8_refused 9 = .ok (.ldc 96, 2) := by decide +kernel
theorem dX8_refused_11 : decode cX8_refused 11 = .ok (.ireturn, 1) := by decide +kernel
theorem dX8_refused_12 : decode cX8_refused 12 = .ok (.aload_n 0, 1) := by decide +kernel
theorem dX8_refused_13 : decode cX8_refused 13 = .ok (.getfield 17, 3) := by decide +kernel
theorem dX8_refused_16 : decode cX8_refused 16 = .ok (.iload_n 1, 1) := by decide +kernel
theorem dX8_refused_17 : decode cX8_refused 17 = .ok (.baload, 1) := by decide +kernel
theorem dX8_refused_18 : decode cX8_refused 18 = .ok (.ifCond .ne 6, 3) := by decide +kernel
theorem dX8_refused_21 : decode cX8_refused 21 = .ok (.ldc 97, 2) := by decide +kernel
theorem dX8_refused_23 : decode cX8_refused 23 = .ok (.ireturn, 1) := by decide +kernel
theorem dX8_refused_24 : decode cX8_refused 24 = .ok (.iload_n 2, 1) := by decide +kernel
theorem dX8_refused_25 : decode cX8_refused 25 = .ok (.iconst 0, 1) := by decide +kernel
theorem dX8_refused_26 : decode cX8_refused 26 = .ok (.aload_n 0, 1) := by decide +kernel
theorem dX8_refused_27 : decode cX8_refused 27 = .ok (.getfield 21, 3) := by decide +kernel
theorem dX8_refused_30 : decode cX8_refused 30 = .ok (.iload_n 1, 1) := by decide +kernel
theorem dX8_refused_31 : decode cX8_refused 31 = .ok (.iaload, 1) := by decide +kernel
theorem dX8_refused_32 : decode cX8_refused 32 = .ok (.iconst 1, 1) := by decide +kernel
theorem dX8_refused_33 : decode cX8_refused 33 = .ok (.isub, 1) := by decide +kernel
theorem dX8_refused_34 : decode cX8_refused 34 = .ok (.invokestatic 85, 3) := by decide +kernel
theorem dX8_refused_37 : decode cX8_refused 37 = .ok (.ifCond .eq 7, 3) := by decide +kernel
theorem dX8_refused_40 : decode cX8_refused 40 = .ok (.iconst 0, 1) := by decide +kernel
theorem dX8_refused_41 : decode cX8_refused 41 = .ok (.goto 5, 3) := by decide +kernel
theorem dX8_refused_44 : decode cX8_refused 44 = .ok (.ldc 113, 2) := by decide +kernel
theorem dX8_refused_46 : decode cX8_refused 46 = .ok (.ireturn, 1) := by decide +kernel
theorem dX8_size_0 : decode cX8_size 0 = .ok (.aload_n 0, 1) := by decide +kernel
theorem dX8_size_1 : decode cX8_size 1 = .ok (.iload_n 1, 1) := by decide +kernel
theorem dX8_size_2 : decode cX8_size 2 = .ok (.iload_n 2, 1) := by decide +kernel
theorem dX8_size_3 : decode cX8_size 3 = .ok (.invokevirtual 186, 3) := by decide +kernel
theorem dX8_size_6 : decode cX8_size 6 = .ok (.istore_n 3, 1) := by decide +kernel
theorem dX8_size_7 : decode cX8_size 7 = .ok (.iload_n 3, 1) := by decide +kernel
theorem dX8_size_8 : decode cX8_size 8 = .ok (.ifCond .eq 7, 3) := by decide +kernel
theorem dX8_size_11 : decode cX8_size 11 = .ok (.iload_n 3, 1) := by decide +kernel
theorem dX8_size_12 : decode cX8_size 12 = .ok (.goto 9, 3) := by decide +kernel
theorem dX8_size_15 : decode cX8_size 15 = .ok (.aload_n 0, 1) := by decide +kernel
theorem dX8_size_16 : decode cX8_size 16 = .ok (.iload_n 1, 1) := by decide +kernel
theorem dX8_size_17 : decode cX8_size 17 = .ok (.iload_n 2, 1) := by decide +kernel
theorem dX8_size_18 : decode cX8_size 18 = .ok (.invokevirtual 189, 3) := by decide +kernel
theorem dX8_size_21 : decode cX8_size 21 = .ok (.ireturn, 1) := by decide +kernel
theorem dX8_sumIn_0 : decode cX8_sumIn 0 = .ok (.lconst 0, 1) := by decide +kernel
theorem dX8_sumIn_1 : decode cX8_sumIn 1 = .ok (.lstore 4, 2) := by decide +kernel
theorem dX8_sumIn_3 : decode cX8_sumIn 3 = .ok (.iconst 0, 1) := by decide +kernel
theorem dX8_sumIn_4 : decode cX8_sumIn 4 = .ok (.istore 6, 2) := by decide +kernel
theorem dX8_sumIn_6 : decode cX8_sumIn 6 = .ok (.iload 6, 2) := by decide +kernel
theorem dX8_sumIn_8 : decode cX8_sumIn 8 = .ok (.aload_n 0, 1) := by decide +kernel
theorem dX8_sumIn_9 : decode cX8_sumIn 9 = .ok (.getfield 82, 3) := by decide +kernel
theorem dX8_sumIn_12 : decode cX8_sumIn 12 = .ok (.if_icmp .ge 41, 3) := by decide +kernel
theorem dX8_sumIn_15 : decode cX8_sumIn 15 = .ok (.lload 4, 2) := by decide +kernel
theorem dX8_sumIn_17 : decode cX8_sumIn 17 = .ok (.aload_n 0, 1) := by decide +kernel
theorem dX8_sumIn_18 : decode cX8_sumIn 18 = .ok (.iload_n 1, 1) := by decide +kernel
theorem dX8_sumIn_19 : decode cX8_sumIn 19 = .ok (.iload 6, 2) := by decide +kernel
theorem dX8_sumIn_21 : decode cX8_sumIn 21 = .ok (.invokevirtual 182, 3) := by decide +kernel
theorem dX8_sumIn_24 : decode cX8_sumIn 24 = .ok (.iload_n 2, 1) := by decide +kernel
theorem dX8_sumIn_25 : decode cX8_sumIn 25 = .ok (.if_icmp .ne 18, 3) := by decide +kernel
theorem dX8_sumIn_28 : decode cX8_sumIn 28 = .ok (.aload_n 0, 1) := by decide +kernel
theorem dX8_sumIn_29 : decode cX8_sumIn 29 = .ok (.getfield 13, 3) := by decide +kernel
theorem dX8_sumIn_32 : decode cX8_sumIn 32 = .ok (.iconst 4, 1) := by decide +kernel
theorem dX8_sumIn_33 : decode cX8_sumIn 33 = .ok (.iload 6, 2) := by decide +kernel
theorem dX8_sumIn_35 : decode cX8_sumIn 35 = .ok (.imul, 1) := by decide +kernel
theorem dX8_sumIn_36 : decode cX8_sumIn 36 = .ok (.iload_n 3, 1) := by decide +kernel
theorem dX8_sumIn_37 : decode cX8_sumIn 37 = .ok (.iadd, 1) := by decide +kernel
theorem dX8_sumIn_38 : decode cX8_sumIn 38 = .ok (.iaload, 1) := by decide +kernel
theorem dX8_sumIn_39 : decode cX8_sumIn 39 = .ok (.i2l, 1) := by decide +kernel
theorem dX8_sumIn_40 : decode cX8_sumIn 40 = .ok (.goto 4, 3) := by decide +kernel
theorem dX8_sumIn_43 : decode cX8_sumIn 43 = .ok (.lconst 0, 1) := by decide +kernel
theorem dX8_sumIn_44 : decode cX8_sumIn 44 = .ok (.ladd, 1) := by decide +kernel
theorem dX8_sumIn_45 : decode cX8_sumIn 45 = .ok (.lstore 4, 2) := by decide +kernel
theorem dX8_sumIn_47 : decode cX8_sumIn 47 = .ok (.iinc 6 1, 3) := by decide +kernel
theorem dX8_sumIn_50 : decode cX8_sumIn 50 = .ok (.goto (-44), 3) := by decide +kernel
theorem dX8_sumIn_53 : decode cX8_sumIn 53 = .ok (.lload 4, 2) := by decide +kernel
theorem dX8_sumIn_55 : decode cX8_sumIn 55 = .ok (.lreturn, 1) := by decide +kernel
theorem dX8_mean_0 : decode cX8_mean 0 = .ok (.aload_n 0, 1) := by decide +kernel
theorem dX8_mean_1 : decode cX8_mean 1 = .ok (.iload_n 1, 1) := by decide +kernel
theorem dX8_mean_2 : decode cX8_mean 2 = .ok (.iload_n 2, 1) := by decide +kernel
theorem dX8_mean_3 : decode cX8_mean 3 = .ok (.invokevirtual 186, 3) := by decide +kernel
theorem dX8_mean_6 : decode cX8_mean 6 = .ok (.istore 5, 2) := by decide +kernel
theorem dX8_mean_8 : decode cX8_mean 8 = .ok (.iload 5, 2) := by decide +kernel
theorem dX8_mean_10 : decode cX8_mean 10 = .ok (.ifCond .eq 6, 3) := by decide +kernel
theorem dX8_mean_13 : decode cX8_mean 13 = .ok (.iload 5, 2) := by decide +kernel
theorem dX8_mean_15 : decode cX8_mean 15 = .ok (.ireturn, 1) := by decide +kernel
theorem dX8_mean_16 : decode cX8_mean 16 = .ok (.iload_n 3, 1) := by decide +kernel
theorem dX8_mean_17 : decode cX8_mean 17 = .ok (.iconst 0, 1) := by decide +kernel
theorem dX8_mean_18 : decode cX8_mean 18 = .ok (.aload_n 0, 1) := by decide +kernel
theorem dX8_mean_19 : decode cX8_mean 19 = .ok (.getfield 7, 3) := by decide +kernel
theorem dX8_mean_22 : decode cX8_mean 22 = .ok (.iconst 1, 1) := by decide +kernel
theorem dX8_mean_23 : decode cX8_mean 23 = .ok (.isub, 1) := by decide +kernel
theorem dX8_mean_24 : decode cX8_mean 24 = .ok (.invokestatic 85, 3) := by decide +kernel
theorem dX8_mean_27 : decode cX8_mean 27 = .ok (.ifCond .eq 13, 3) := by decide +kernel
theorem dX8_mean_30 : decode cX8_mean 30 = .ok (.iload 4, 2) := by decide +kernel
theorem dX8_mean_32 : decode cX8_mean 32 = .ok (.iconst 0, 1) := by decide +kernel
theorem dX8_mean_33 : decode cX8_mean 33 = .ok (.iconst 1, 1) := by decide +kernel
theorem dX8_mean_34 : decode cX8_mean 34 = .ok (.invokestatic 85, 3) := by decide +kernel
theorem dX8_mean_37 : decode cX8_mean 37 = .ok (.ifCond .ne 6, 3) := by decide +kernel
theorem dX8_mean_40 : decode cX8_mean 40 = .ok (.ldc 96, 2) := by decide +kernel
theorem dX8_mean_42 : decode cX8_mean 42 = .ok (.ireturn, 1) := by decide +kernel
theorem dX8_mean_43 : decode cX8_mean 43 = .ok (.aload_n 0, 1) := by decide +kernel
theorem dX8_mean_44 : decode cX8_mean 44 = .ok (.iload_n 1, 1) := by decide +kernel
theorem dX8_mean_45 : decode cX8_mean 45 = .ok (.iload_n 2, 1) := by decide +kernel
theorem dX8_mean_46 : decode cX8_mean 46 = .ok (.invokevirtual 189, 3) := by decide +kernel
theorem dX8_mean_49 : decode cX8_mean 49 = .ok (.i2l, 1) := by decide +kernel
theorem dX8_mean_50 : decode cX8_mean 50 = .ok (.lstore 6, 2) := by decide +kernel
theorem dX8_mean_52 : decode cX8_mean 52 = .ok (.lload 6, 2) := by decide +kernel
theorem dX8_mean_54 : decode cX8_mean 54 = .ok (.lconst 0, 1) := by decide +kernel
theorem dX8_mean_55 : decode cX8_mean 55 = .ok (.lcmp, 1) := by decide +kernel
theorem dX8_mean_56 : decode cX8_mean 56 = .ok (.ifCond .ne 6, 3) := by decide +kernel
theorem dX8_mean_59 : decode cX8_mean 59 = .ok (.iload 4, 2) := by decide +kernel
theorem dX8_mean_61 : decode cX8_mean 61 = .ok (.ireturn, 1) := by decide +kernel
theorem dX8_mean_62 : decode cX8_mean 62 = .ok (.aload_n 0, 1) := by decide +kernel
theorem dX8_mean_63 : decode cX8_mean 63 = .ok (.iload_n 1, 1) := by decide +kernel
theorem dX8_mean_64 : decode cX8_mean 64 = .ok (.iload_n 2, 1) := by decide +kernel
theorem dX8_mean_65 : decode cX8_mean 65 = .ok (.iload_n 3, 1) := by decide +kernel
theorem dX8_mean_66 : decode cX8_mean 66 = .ok (.invokevirtual 192, 3) := by decide +kernel
theorem dX8_mean_69 : decode cX8_mean 69 = .ok (.lstore 8, 2) := by decide +kernel
theorem dX8_mean_71 : decode cX8_mean 71 = .ok (.lload 8, 2) := by decide +kernel
theorem dX8_mean_73 : decode cX8_mean 73 = .ok (.lload 6, 2) := by decide +kernel
theorem dX8_mean_75 : decode cX8_mean 75 = .ok (.invokestatic 174, 3) := by decide +kernel
theorem dX8_mean_78 : decode cX8_mean 78 = .ok (.lstore 10, 2) := by decide +kernel
theorem dX8_mean_80 : decode cX8_mean 80 = .ok (.iload 4, 2) := by decide +kernel
theorem dX8_mean_82 : decode cX8_mean 82 = .ok (.ifCond .ne 11, 3) := by decide +kernel
theorem dX8_mean_85 : decode cX8_mean 85 = .ok (.lload 8, 2) := by decide +kernel
theorem dX8_mean_87 : decode cX8_mean 87 = .ok (.lload 10, 2) := by decide +kernel
theorem dX8_mean_89 : decode cX8_mean 89 = .ok (.ldiv, 1) := by decide +kernel
theorem dX8_mean_90 : decode cX8_mean 90 = .ok (.goto 8, 3) := by decide +kernel
theorem dX8_mean_93 : decode cX8_mean 93 = .ok (.lload 6, 2) := by decide +kernel
theorem dX8_mean_95 : decode cX8_mean 95 = .ok (.lload 10, 2) := by decide +kernel
theorem dX8_mean_97 : decode cX8_mean 97 = .ok (.ldiv, 1) := by decide +kernel
theorem dX8_mean_98 : decode cX8_mean 98 = .ok (.l2i, 1) := by decide +kernel
theorem dX8_mean_99 : decode cX8_mean 99 = .ok (.ireturn, 1) := by decide +kernel
theorem dX8_sum_0 : decode cX8_sum 0 = .ok (.iload_n 1, 1) := by decide +kernel
theorem dX8_sum_1 : decode cX8_sum 1 = .ok (.iconst 0, 1) := by decide +kernel
theorem dX8_sum_2 : decode cX8_sum 2 = .ok (.iconst 1, 1) := by decide +kernel
theorem dX8_sum_3 : decode cX8_sum 3 = .ok (.invokestatic 85, 3) := by decide +kernel
theorem dX8_sum_6 : decode cX8_sum 6 = .ok (.ifCond .eq 12, 3) := by decide +kernel
theorem dX8_sum_9 : decode cX8_sum 9 = .ok (.iload_n 2, 1) := by decide +kernel
theorem dX8_sum_10 : decode cX8_sum 10 = .ok (.iconst 0, 1) := by decide +kernel
theorem dX8_sum_11 : decode cX8_sum 11 = .ok (.iconst 1, 1) := by decide +kernel
theorem dX8_sum_12 : decode cX8_sum 12 = .ok (.invokestatic 85, 3) := by decide +kernel
theorem dX8_sum_15 : decode cX8_sum 15 = .ok (.ifCond .ne 7, 3) := by decide +kernel
theorem dX8_sum_18 : decode cX8_sum 18 = .ok (.ldc2_w 178, 3) := by decide +kernel
theorem dX8_sum_21 : decode cX8_sum 21 = .ok (.lreturn, 1) := by decide +kernel
theorem dX8_sum_22 : decode cX8_sum 22 = .ok (.aload_n 0, 1) := by decide +kernel
theorem dX8_sum_23 : decode cX8_sum 23 = .ok (.getfield 17, 3) := by decide +kernel
theorem dX8_sum_26 : decode cX8_sum 26 = .ok (.iload_n 1, 1) := by decide +kernel
theorem dX8_sum_27 : decode cX8_sum 27 = .ok (.baload, 1) := by decide +kernel
theorem dX8_sum_28 : decode cX8_sum 28 = .ok (.ifCond .ne 7, 3) := by decide +kernel
theorem dX8_sum_31 : decode cX8_sum 31 = .ok (.ldc2_w 180, 3) := by decide +kernel
theorem dX8_sum_34 : decode cX8_sum 34 = .ok (.lreturn, 1) := by decide +kernel
theorem dX8_sum_35 : decode cX8_sum 35 = .ok (.lconst 0, 1) := by decide +kernel
theorem dX8_sum_36 : decode cX8_sum 36 = .ok (.lstore_n 3, 1) := by decide +kernel
theorem dX8_sum_37 : decode cX8_sum 37 = .ok (.lconst 1, 1) := by decide +kernel
theorem dX8_sum_38 : decode cX8_sum 38 = .ok (.lstore 5, 2) := by decide +kernel
theorem dX8_sum_40 : decode cX8_sum 40 = .ok (.iconst 0, 1) := by decide +kernel
theorem dX8_sum_41 : decode cX8_sum 41 = .ok (.istore 7, 2) := by decide +kernel
theorem dX8_sum_43 : decode cX8_sum 43 = .ok (.iload 7, 2) := by decide +kernel
theorem dX8_sum_45 : decode cX8_sum 45 = .ok (.aload_n 0, 1) := by decide +kernel
theorem dX8_sum_46 : decode cX8_sum 46 = .ok (.getfield 21, 3) := by decide +kernel
theorem dX8_sum_49 : decode cX8_sum 49 = .ok (.iload_n 1, 1) := by decide +kernel
theorem dX8_sum_50 : decode cX8_sum 50 = .ok (.iaload, 1) := by decide +kernel
theorem dX8_sum_51 : decode cX8_sum 51 = .ok (.if_icmp .ge 174, 3) := by decide +kernel
theorem dX8_sum_54 : decode cX8_sum 54 = .ok (.aload_n 0, 1) := by decide +kernel
theorem dX8_sum_55 : decode cX8_sum 55 = .ok (.iload_n 1, 1) := by decide +kernel
theorem dX8_sum_56 : decode cX8_sum 56 = .ok (.iload 7, 2) := by decide +kernel
theorem dX8_sum_58 : decode cX8_sum 58 = .ok (.invokevirtual 189, 3) := by decide +kernel
theorem dX8_sum_61 : decode cX8_sum 61 = .ok (.i2l, 1) := by decide +kernel
theorem dX8_sum_62 : decode cX8_sum 62 = .ok (.lstore 8, 2) := by decide +kernel
theorem dX8_sum_64 : decode cX8_sum 64 = .ok (.lconst 0, 1) := by decide +kernel
theorem dX8_sum_65 : decode cX8_sum 65 = .ok (.lstore 10, 2) := by decide +kernel
theorem dX8_sum_67 : decode cX8_sum 67 = .ok (.iconst 0, 1) := by decide +kernel
theorem dX8_sum_68 : decode cX8_sum 68 = .ok (.istore 12, 2) := by decide +kernel
theorem dX8_sum_70 : decode cX8_sum 70 = .ok (.iload 12, 2) := by decide +kernel
theorem dX8_sum_72 : decode cX8_sum 72 = .ok (.aload_n 0, 1) := by decide +kernel
theorem dX8_sum_73 : decode cX8_sum 73 = .ok (.getfield 7, 3) := by decide +kernel
theorem dX8_sum_76 : decode cX8_sum 76 = .ok (.if_icmp .ge 98, 3) := by decide +kernel
theorem dX8_sum_79 : decode cX8_sum 79 = .ok (.aload_n 0, 1) := by decide +kernel
theorem dX8_sum_80 : decode cX8_sum 80 = .ok (.iload_n 1, 1) := by decide +kernel
theorem dX8_sum_81 : decode cX8_sum 81 = .ok (.iload 7, 2) := by decide +kernel
theorem dX8_sum_83 : decode cX8_sum 83 = .ok (.iload 12, 2) := by decide +kernel
theorem dX8_sum_85 : decode cX8_sum 85 = .ok (.invokevirtual 192, 3) := by decide +kernel
theorem dX8_sum_88 : decode cX8_sum 88 = .ok (.lstore 13, 2) := by decide +kernel
theorem dX8_sum_90 : decode cX8_sum 90 = .ok (.lconst 0, 1) := by decide +kernel
theorem dX8_sum_91 : decode cX8_sum 91 = .ok (.lstore 15, 2) := by decide +kernel
theorem dX8_sum_93 : decode cX8_sum 93 = .ok (.iconst 0, 1) := by decide +kernel
theorem dX8_sum_94 : decode cX8_sum 94 = .ok (.istore 17, 2) := by decide +kernel
theorem dX8_sum_96 : decode cX8_sum 96 = .ok (.iload 17, 2) := by decide +kernel
theorem dX8_sum_98 : decode cX8_sum 98 = .ok (.aload_n 0, 1) := by decide +kernel
theorem dX8_sum_99 : decode cX8_sum 99 = .ok (.getfield 82, 3) := by decide +kernel
theorem dX8_sum_102 : decode cX8_sum 102 = .ok (.if_icmp .ge 50, 3) := by decide +kernel
theorem dX8_sum_105 : decode cX8_sum 105 = .ok (.aload_n 0, 1) := by decide +kernel
theorem dX8_sum_106 : decode cX8_sum 106 = .ok (.iload_n 1, 1) := by decide +kernel
theorem dX8_sum_107 : decode cX8_sum 107 = .ok (.iload 17, 2) := by decide +kernel
theorem dX8_sum_109 : decode cX8_sum 109 = .ok (.invokevirtual 182, 3) := by decide +kernel
theorem dX8_sum_112 : decode cX8_sum 112 = .ok (.iload 7, 2) := by decide +kernel
theorem dX8_sum_114 : decode cX8_sum 114 = .ok (.if_icmp .ne 19, 3) := by decide +kernel
theorem dX8_sum_117 : decode cX8_sum 117 = .ok (.aload_n 0, 1) := by decide +kernel
theorem dX8_sum_118 : decode cX8_sum 118 = .ok (.getfield 13, 3) := by decide +kernel
theorem dX8_sum_121 : decode cX8_sum 121 = .ok (.iconst 4, 1) := by decide +kernel
theorem dX8_sum_122 : decode cX8_sum 122 = .ok (.iload 17, 2) := by decide +kernel
theorem dX8_sum_124 : decode cX8_sum 124 = .ok (.imul, 1) := by decide +kernel
theorem dX8_sum_125 : decode cX8_sum 125 = .ok (.iload 12, 2) := by decide +kernel
theorem dX8_sum_127 : decode cX8_sum 127 = .ok (.iadd, 1) := by decide +kernel
theorem dX8_sum_128 : decode cX8_sum 128 = .ok (.iaload, 1) := by decide +kernel
theorem dX8_sum_129 : decode cX8_sum 129 = .ok (.i2l, 1) := by decide +kernel
theorem dX8_sum_130 : decode cX8_sum 130 = .ok (.goto 4, 3) := by decide +kernel
theorem dX8_sum_133 : decode cX8_sum 133 = .ok (.lconst 0, 1) := by decide +kernel
theorem dX8_sum_134 : decode cX8_sum 134 = .ok (.lstore 18, 2) := by decide +kernel
theorem dX8_sum_136 : decode cX8_sum 136 = .ok (.lload 15, 2) := by decide +kernel
theorem dX8_sum_138 : decode cX8_sum 138 = .ok (.lload 18, 2) := by decide +kernel
theorem dX8_sum_140 : decode cX8_sum 140 = .ok (.lload 18, 2) := by decide +kernel
theorem dX8_sum_142 : decode cX8_sum 142 = .ok (.lmul, 1) := by decide +kernel
theorem dX8_sum_143 : decode cX8_sum 143 = .ok (.ladd, 1) := by decide +kernel
theorem dX8_sum_144 : decode cX8_sum 144 = .ok (.lstore 15, 2) := by decide +kernel
theorem dX8_sum_146 : decode cX8_sum 146 = .ok (.iinc 17 1, 3) := by decide +kernel
theorem dX8_sum_149 : decode cX8_sum 149 = .ok (.goto (-53), 3) := by decide +kernel
theorem dX8_sum_152 : decode cX8_sum 152 = .ok (.lload 10, 2) := by decide +kernel
theorem dX8_sum_154 : decode cX8_sum 154 = .ok (.lload 8, 2) := by decide +kernel
theorem dX8_sum_156 : decode cX8_sum 156 = .ok (.lload 15, 2) := by decide +kernel
theorem dX8_sum_158 : decode cX8_sum 158 = .ok (.lmul, 1) := by decide +kernel
theorem dX8_sum_159 : decode cX8_sum 159 = .ok (.lload 13, 2) := by decide +kernel
theorem dX8_sum_161 : decode cX8_sum 161 = .ok (.lload 13, 2) := by decide +kernel
theorem dX8_sum_163 : decode cX8_sum 163 = .ok (.lmul, 1) := by decide +kernel
theorem dX8_sum_164 : decode cX8_sum 164 = .ok (.lsub, 1) := by decide +kernel
theorem dX8_sum_165 : decode cX8_sum 165 = .ok (.ladd, 1) := by decide +kernel
theorem dX8_sum_166 : decode cX8_sum 166 = .ok (.lstore 10, 2) := by decide +kernel
theorem dX8_sum_168 : decode cX8_sum 168 = .ok (.iinc 12 1, 3) := by decide +kernel
theorem dX8_sum_171 : decode cX8_sum 171 = .ok (.goto (-101), 3) := by decide +kernel
theorem dX8_sum_174 : decode cX8_sum 174 = .ok (.lload 8, 2) := by decide +kernel
theorem dX8_sum_176 : decode cX8_sum 176 = .ok (.lconst 0, 1) := by decide +kernel
theorem dX8_sum_177 : decode cX8_sum 177 = .ok (.lcmp, 1) := by decide +kernel
theorem dX8_sum_178 : decode cX8_sum 178 = .ok (.ifCond .le 41, 3) := by decide +kernel
theorem dX8_sum_181 : decode cX8_sum 181 = .ok (.lload_n 3, 1) := by decide +kernel
theorem dX8_sum_182 : decode cX8_sum 182 = .ok (.lload 8, 2) := by decide +kernel
theorem dX8_sum_184 : decode cX8_sum 184 = .ok (.lmul, 1) := by decide +kernel
theorem dX8_sum_185 : decode cX8_sum 185 = .ok (.lload 10, 2) := by decide +kernel
theorem dX8_sum_187 : decode cX8_sum 187 = .ok (.lload 5, 2) := by decide +kernel
theorem dX8_sum_189 : decode cX8_sum 189 = .ok (.lmul, 1) := by decide +kernel
theorem dX8_sum_190 : decode cX8_sum 190 = .ok (.ladd, 1) := by decide +kernel
theorem dX8_sum_191 : decode cX8_sum 191 = .ok (.lstore_n 3, 1) := by decide +kernel
theorem dX8_sum_192 : decode cX8_sum 192 = .ok (.lload 5, 2) := by decide +kernel
theorem dX8_sum_194 : decode cX8_sum 194 = .ok (.lload 8, 2) := by decide +kernel
theorem dX8_sum_196 : decode cX8_sum 196 = .ok (.lmul, 1) := by decide +kernel
theorem dX8_sum_197 : decode cX8_sum 197 = .ok (.lstore 5, 2) := by decide +kernel
theorem dX8_sum_199 : decode cX8_sum 199 = .ok (.lload_n 3, 1) := by decide +kernel
theorem dX8_sum_200 : decode cX8_sum 200 = .ok (.lload 5, 2) := by decide +kernel
theorem dX8_sum_202 : decode cX8_sum 202 = .ok (.invokestatic 174, 3) := by decide +kernel
theorem dX8_sum_205 : decode cX8_sum 205 = .ok (.lstore 12, 2) := by decide +kernel
theorem dX8_sum_207 : decode cX8_sum 207 = .ok (.lload_n 3, 1) := by decide +kernel
theorem dX8_sum_208 : decode cX8_sum 208 = .ok (.lload 12, 2) := by decide +kernel
theorem dX8_sum_210 : decode cX8_sum 210 = .ok (.ldiv, 1) := by decide +kernel
theorem dX8_sum_211 : decode cX8_sum 211 = .ok (.lstore_n 3, 1) := by decide +kernel
theorem dX8_sum_212 : decode cX8_sum 212 = .ok (.lload 5, 2) := by decide +kernel
theorem dX8_sum_214 : decode cX8_sum 214 = .ok (.lload 12, 2) := by decide +kernel
theorem dX8_sum_216 : decode cX8_sum 216 = .ok (.ldiv, 1) := by decide +kernel
theorem dX8_sum_217 : decode cX8_sum 217 = .ok (.lstore 5, 2) := by decide +kernel
theorem dX8_sum_219 : decode cX8_sum 219 = .ok (.iinc 7 1, 3) := by decide +kernel
theorem dX8_sum_222 : decode cX8_sum 222 = .ok (.goto (-179), 3) := by decide +kernel
theorem dX8_sum_225 : decode cX8_sum 225 = .ok (.iload_n 2, 1) := by decide +kernel
theorem dX8_sum_226 : decode cX8_sum 226 = .ok (.ifCond .ne 7, 3) := by decide +kernel
theorem dX8_sum_229 : decode cX8_sum 229 = .ok (.lload_n 3, 1) := by decide +kernel
theorem dX8_sum_230 : decode cX8_sum 230 = .ok (.goto 5, 3) := by decide +kernel
theorem dX8_sum_233 : decode cX8_sum 233 = .ok (.lload 5, 2) := by decide +kernel
theorem dX8_sum_235 : decode cX8_sum 235 = .ok (.lreturn, 1) := by decide +kernel
theorem dX8_farFrom_0 : decode cX8_farFrom 0 = .ok (.lconst 0, 1) := by decide +kernel
theorem dX8_farFrom_1 : decode cX8_farFrom 1 = .ok (.lstore 5, 2) := by decide +kernel
theorem dX8_farFrom_3 : decode cX8_farFrom 3 = .ok (.iconst 0, 1) := by decide +kernel
theorem dX8_farFrom_4 : decode cX8_farFrom 4 = .ok (.istore 7, 2) := by decide +kernel
theorem dX8_farFrom_6 : decode cX8_farFrom 6 = .ok (.iload 7, 2) := by decide +kernel
theorem dX8_farFrom_8 : decode cX8_farFrom 8 = .ok (.aload_n 0, 1) := by decide +kernel
theorem dX8_farFrom_9 : decode cX8_farFrom 9 = .ok (.getfield 82, 3) := by decide +kernel
theorem dX8_farFrom_12 : decode cX8_farFrom 12 = .ok (.if_icmp .ge 39, 3) := by decide +kernel
theorem dX8_farFrom_15 : decode cX8_farFrom 15 = .ok (.lload 5, 2) := by decide +kernel
theorem dX8_farFrom_17 : decode cX8_farFrom 17 = .ok (.aload_n 0, 1) := by decide +kernel
theorem dX8_farFrom_18 : decode cX8_farFrom 18 = .ok (.iload_n 1, 1) := by decide +kernel
theorem dX8_farFrom_19 : decode cX8_farFrom 19 = .ok (.iload 7, 2) := by decide +kernel
theorem dX8_farFrom_21 : decode cX8_farFrom 21 = .ok (.invokevirtual 182, 3) := by decide +kernel
theorem dX8_farFrom_24 : decode cX8_farFrom 24 = .ok (.iload 4, 2) := by decide +kernel
theorem dX8_farFrom_26 : decode cX8_farFrom 26 = .ok (.if_icmp .ne 15, 3) := by decide +kernel
theorem dX8_farFrom_29 : decode cX8_farFrom 29 = .ok (.aload_n 0, 1) := by decide +kernel
theorem dX8_farFrom_30 : decode cX8_farFrom 30 = .ok (.iload_n 2, 1) := by decide +kernel
theorem dX8_farFrom_31 : decode cX8_farFrom 31 = .ok (.iload_n 3, 1) := by decide +kernel
theorem dX8_farFrom_32 : decode cX8_farFrom 32 = .ok (.iload 7, 2) := by decide +kernel
theorem dX8_farFrom_34 : decode cX8_farFrom 34 = .ok (.invokevirtual 105, 3) := by decide +kernel
theorem dX8_farFrom_37 : decode cX8_farFrom 37 = .ok (.i2l, 1) := by decide +kernel
theorem dX8_farFrom_38 : decode cX8_farFrom 38 = .ok (.goto 4, 3) := by decide +kernel
theorem dX8_farFrom_41 : decode cX8_farFrom 41 = .ok (.lconst 0, 1) := by decide +kernel
theorem dX8_farFrom_42 : decode cX8_farFrom 42 = .ok (.ladd, 1) := by decide +kernel
theorem dX8_farFrom_43 : decode cX8_farFrom 43 = .ok (.lstore 5, 2) := by decide +kernel
theorem dX8_farFrom_45 : decode cX8_farFrom 45 = .ok (.iinc 7 1, 3) := by decide +kernel
theorem dX8_farFrom_48 : decode cX8_farFrom 48 = .ok (.goto (-42), 3) := by decide +kernel
theorem dX8_farFrom_51 : decode cX8_farFrom 51 = .ok (.lload 5, 2) := by decide +kernel
theorem dX8_farFrom_53 : decode cX8_farFrom 53 = .ok (.lreturn, 1) := by decide +kernel
theorem dX8_well_0 : decode cX8_well 0 = .ok (.aload_n 0, 1) := by decide +kernel
theorem dX8_well_1 : decode cX8_well 1 = .ok (.iload_n 3, 1) := by decide +kernel
theorem dX8_well_2 : decode cX8_well 2 = .ok (.invokevirtual 109, 3) := by decide +kernel
theorem dX8_well_5 : decode cX8_well 5 = .ok (.ifCond .ne 7, 3) := by decide +kernel
theorem dX8_well_8 : decode cX8_well 8 = .ok (.ldc2_w 196, 3) := by decide +kernel
theorem dX8_well_11 : decode cX8_well 11 = .ok (.lreturn, 1) := by decide +kernel
theorem dX8_well_12 : decode cX8_well 12 = .ok (.iload_n 1, 1) := by decide +kernel
theorem dX8_well_13 : decode cX8_well 13 = .ok (.iconst 0, 1) := by decide +kernel
theorem dX8_well_14 : decode cX8_well 14 = .ok (.iconst 1, 1) := by decide +kernel
theorem dX8_well_15 : decode cX8_well 15 = .ok (.invokestatic 85, 3) := by decide +kernel
theorem dX8_well_18 : decode cX8_well 18 = .ok (.ifCond .eq 22, 3) := by decide +kernel
theorem dX8_well_21 : decode cX8_well 21 = .ok (.iload_n 2, 1) := by decide +kernel
theorem dX8_well_22 : decode cX8_well 22 = .ok (.iconst 0, 1) := by decide +kernel
theorem dX8_well_23 : decode cX8_well 23 = .ok (.iconst 2, 1) := by decide +kernel
theorem dX8_well_24 : decode cX8_well 24 = .ok (.invokestatic 85, 3) := by decide +kernel
theorem dX8_well_27 : decode cX8_well 27 = .ok (.ifCond .eq 13, 3) := by decide +kernel
theorem dX8_well_30 : decode cX8_well 30 = .ok (.iload 4, 2) := by decide +kernel
theorem dX8_well_32 : decode cX8_well 32 = .ok (.iconst 0, 1) := by decide +kernel
theorem dX8_well_33 : decode cX8_well 33 = .ok (.iconst 1, 1) := by decide +kernel
theorem dX8_well_34 : decode cX8_well 34 = .ok (.invokestatic 85, 3) := by decide +kernel
theorem dX8_well_37 : decode cX8_well 37 = .ok (.ifCond .ne 7, 3) := by decide +kernel
theorem dX8_well_40 : decode cX8_well 40 = .ok (.ldc2_w 178, 3) := by decide +kernel
theorem dX8_well_43 : decode cX8_well 43 = .ok (.lreturn, 1) := by decide +kernel
theorem dX8_well_44 : decode cX8_well 44 = .ok (.aload_n 0, 1) := by decide +kernel
theorem dX8_well_45 : decode cX8_well 45 = .ok (.getfield 17, 3) := by decide +kernel
theorem dX8_well_48 : decode cX8_well 48 = .ok (.iload_n 1, 1) := by decide +kernel
theorem dX8_well_49 : decode cX8_well 49 = .ok (.baload, 1) := by decide +kernel
theorem dX8_well_50 : decode cX8_well 50 = .ok (.ifCond .eq 13, 3) := by decide +kernel
theorem dX8_well_53 : decode cX8_well 53 = .ok (.aload_n 0, 1) := by decide +kernel
theorem dX8_well_54 : decode cX8_well 54 = .ok (.iload_n 1, 1) := by decide +kernel
theorem dX8_well_55 : decode cX8_well 55 = .ok (.iload_n 3, 1) := by decide +kernel
theorem dX8_well_56 : decode cX8_well 56 = .ok (.invokevirtual 182, 3) := by decide +kernel
theorem dX8_well_59 : decode cX8_well 59 = .ok (.iconst (-1), 1) := by decide +kernel
theorem dX8_well_60 : decode cX8_well 60 = .ok (.if_icmp .ne 7, 3) := by decide +kernel
theorem dX8_well_63 : decode cX8_well 63 = .ok (.ldc2_w 180, 3) := by decide +kernel
theorem dX8_well_66 : decode cX8_well 66 = .ok (.lreturn, 1) := by decide +kernel
theorem dX8_well_67 : decode cX8_well 67 = .ok (.aload_n 0, 1) := by decide +kernel
theorem dX8_well_68 : decode cX8_well 68 = .ok (.iload_n 1, 1) := by decide +kernel
theorem dX8_well_69 : decode cX8_well 69 = .ok (.iload_n 3, 1) := by decide +kernel
theorem dX8_well_70 : decode cX8_well 70 = .ok (.invokevirtual 182, 3) := by decide +kernel
theorem dX8_well_73 : decode cX8_well 73 = .ok (.istore 5, 2) := by decide +kernel
theorem dX8_well_75 : decode cX8_well 75 = .ok (.aload_n 0, 1) := by decide +kernel
theorem dX8_well_76 : decode cX8_well 76 = .ok (.iload_n 1, 1) := by decide +kernel
theorem dX8_well_77 : decode cX8_well 77 = .ok (.iload 5, 2) := by decide +kernel
theorem dX8_well_79 : decode cX8_well 79 = .ok (.invokevirtual 189, 3) := by decide +kernel
theorem dX8_well_82 : decode cX8_well 82 = .ok (.i2l, 1) := by decide +kernel
theorem dX8_well_83 : decode cX8_well 83 = .ok (.lconst 1, 1) := by decide +kernel
theorem dX8_well_84 : decode cX8_well 84 = .ok (.lsub, 1) := by decide +kernel
theorem dX8_well_85 : decode cX8_well 85 = .ok (.lstore 6, 2) := by decide +kernel
theorem dX8_well_87 : decode cX8_well 87 = .ok (.aload_n 0, 1) := by decide +kernel
theorem dX8_well_88 : decode cX8_well 88 = .ok (.iload_n 1, 1) := by decide +kernel
theorem dX8_well_89 : decode cX8_well 89 = .ok (.iload_n 2, 1) := by decide +kernel
theorem dX8_well_90 : decode cX8_well 90 = .ok (.iload_n 3, 1) := by decide +kernel
theorem dX8_well_91 : decode cX8_well 91 = .ok (.iload 5, 2) := by decide +kernel
theorem dX8_well_93 : decode cX8_well 93 = .ok (.invokevirtual 198, 3) := by decide +kernel
theorem dX8_well_96 : decode cX8_well 96 = .ok (.lstore 8, 2) := by decide +kernel
theorem dX8_well_98 : decode cX8_well 98 = .ok (.ldc2_w 156, 3) := by decide +kernel
theorem dX8_well_101 : decode cX8_well 101 = .ok (.lstore 10, 2) := by decide +kernel
theorem dX8_well_103 : decode cX8_well 103 = .ok (.lconst 1, 1) := by decide +kernel
theorem dX8_well_104 : decode cX8_well 104 = .ok (.lstore 12, 2) := by decide +kernel
theorem dX8_well_106 : decode cX8_well 106 = .ok (.iconst 0, 1) := by decide +kernel
theorem dX8_well_107 : decode cX8_well 107 = .ok (.istore 14, 2) := by decide +kernel
theorem dX8_well_109 : decode cX8_well 109 = .ok (.iload 14, 2) := by decide +kernel
theorem dX8_well_111 : decode cX8_well 111 = .ok (.aload_n 0, 1) := by decide +kernel
theorem dX8_well_112 : decode cX8_well 112 = .ok (.getfield 21, 3) := by decide +kernel
theorem dX8_well_115 : decode cX8_well 115 = .ok (.iload_n 1, 1) := by decide +kernel
theorem dX8_well_116 : decode cX8_well 116 = .ok (.iaload, 1) := by decide +kernel
theorem dX8_well_117 : decode cX8_well 117 = .ok (.if_icmp .ge 75, 3) := by decide +kernel
theorem dX8_well_120 : decode cX8_well 120 = .ok (.aload_n 0, 1) := by decide +kernel
theorem dX8_well_121 : decode cX8_well 121 = .ok (.iload_n 1, 1) := by decide +kernel
theorem dX8_well_122 : decode cX8_well 122 = .ok (.iload 14, 2) := by decide +kernel
theorem dX8_well_124 : decode cX8_well 124 = .ok (.invokevirtual 189, 3) := by decide +kernel
theorem dX8_well_127 : decode cX8_well 127 = .ok (.i2l, 1) := by decide +kernel
theorem dX8_well_128 : decode cX8_well 128 = .ok (.lstore 15, 2) := by decide +kernel
theorem dX8_well_130 : decode cX8_well 130 = .ok (.iload 14, 2) := by decide +kernel
theorem dX8_well_132 : decode cX8_well 132 = .ok (.iload 5, 2) := by decide +kernel
theorem dX8_well_134 : decode cX8_well 134 = .ok (.if_icmp .eq 52, 3) := by decide +kernel
theorem dX8_well_137 : decode cX8_well 137 = .ok (.lload 15, 2) := by decide +kernel
theorem dX8_well_139 : decode cX8_well 139 = .ok (.lconst 0, 1) := by decide +kernel
theorem dX8_well_140 : decode cX8_well 140 = .ok (.lcmp, 1) := by decide +kernel
theorem dX8_well_141 : decode cX8_well 141 = .ok (.ifCond .le 45, 3) := by decide +kernel
theorem dX8_well_144 : decode cX8_well 144 = .ok (.aload_n 0, 1) := by decide +kernel
theorem dX8_well_145 : decode cX8_well 145 = .ok (.iload_n 1, 1) := by decide +kernel
theorem dX8_well_146 : decode cX8_well 146 = .ok (.iload_n 2, 1) := by decide +kernel
theorem dX8_well_147 : decode cX8_well 147 = .ok (.iload_n 3, 1) := by decide +kernel
theorem dX8_well_148 : decode cX8_well 148 = .ok (.iload 14, 2) := by decide +kernel
theorem dX8_well_150 : decode cX8_well 150 = .ok (.invokevirtual 198, 3) := by decide +kernel
theorem dX8_well_153 : decode cX8_well 153 = .ok (.lstore 17, 2) := by decide +kernel
theorem dX8_well_155 : decode cX8_well 155 = .ok (.lload 10, 2) := by decide +kernel
theorem dX8_well_157 : decode cX8_well 157 = .ok (.ldc2_w 156, 3) := by decide +kernel
theorem dX8_well_160 : decode cX8_well 160 = .ok (.lcmp, 1) := by decide +kernel
theorem dX8_well_161 : decode cX8_well 161 = .ok (.ifCond .eq 17, 3) := by decide +kernel
theorem dX8_well_164 : decode cX8_well 164 = .ok (.lload 17, 2) := by decide +kernel
theorem dX8_well_166 : decode cX8_well 166 = .ok (.lload 12, 2) := by decide +kernel
theorem dX8_well_168 : decode cX8_well 168 = .ok (.lmul, 1) := by decide +kernel
theorem dX8_well_169 : decode cX8_well 169 = .ok (.lload 10, 2) := by decide +kernel
theorem dX8_well_171 : decode cX8_well 171 = .ok (.lload 15, 2) := by decide +kernel
theorem dX8_well_173 : decode cX8_well 173 = .ok (.lmul, 1) := by decide +kernel
theorem dX8_well_174 : decode cX8_well 174 = .ok (.lcmp, 1) := by decide +kernel
theorem dX8_well_175 : decode cX8_well 175 = .ok (.ifCond .ge 11, 3) := by decide +kernel
theorem dX8_well_178 : decode cX8_well 178 = .ok (.lload 17, 2) := by decide +kernel
theorem dX8_well_180 : decode cX8_well 180 = .ok (.lstore 10, 2) := by decide +kernel
theorem dX8_well_182 : decode cX8_well 182 = .ok (.lload 15, 2) := by decide +kernel
theorem dX8_well_184 : decode cX8_well 184 = .ok (.lstore 12, 2) := by decide +kernel
theorem dX8_well_186 : decode cX8_well 186 = .ok (.iinc 14 1, 3) := by decide +kernel
theorem dX8_well_189 : decode cX8_well 189 = .ok (.goto (-80), 3) := by decide +kernel
theorem dX8_well_192 : decode cX8_well 192 = .ok (.lload 6, 2) := by decide +kernel
theorem dX8_well_194 : decode cX8_well 194 = .ok (.lconst 0, 1) := by decide +kernel
theorem dX8_well_195 : decode cX8_well 195 = .ok (.lcmp, 1) := by decide +kernel
theorem dX8_well_196 : decode cX8_well 196 = .ok (.ifCond .eq 26, 3) := by decide +kernel
theorem dX8_well_199 : decode cX8_well 199 = .ok (.lload 10, 2) := by decide +kernel
theorem dX8_well_201 : decode cX8_well 201 = .ok (.ldc2_w 156, 3) := by decide +kernel
theorem dX8_well_204 : decode cX8_well 204 = .ok (.lcmp, 1) := by decide +kernel
theorem dX8_well_205 : decode cX8_well 205 = .ok (.ifCond .eq 17, 3) := by decide +kernel
theorem dX8_well_208 : decode cX8_well 208 = .ok (.lload 8, 2) := by decide +kernel
theorem dX8_well_210 : decode cX8_well 210 = .ok (.lconst 0, 1) := by decide +kernel
theorem dX8_well_211 : decode cX8_well 211 = .ok (.lcmp, 1) := by decide +kernel
theorem dX8_well_212 : decode cX8_well 212 = .ok (.ifCond .ne 14, 3) := by decide +kernel
theorem dX8_well_215 : decode cX8_well 215 = .ok (.lload 10, 2) := by decide +kernel
theorem dX8_well_217 : decode cX8_well 217 = .ok (.lconst 0, 1) := by decide +kernel
theorem dX8_well_218 : decode cX8_well 218 = .ok (.lcmp, 1) := by decide +kernel
theorem dX8_well_219 : decode cX8_well 219 = .ok (.ifCond .ne 7, 3) := by decide +kernel
theorem dX8_well_222 : decode cX8_well 222 = .ok (.iload 4, 2) := by decide +kernel
theorem dX8_well_224 : decode cX8_well 224 = .ok (.i2l, 1) := by decide +kernel
theorem dX8_well_225 : decode cX8_well 225 = .ok (.lreturn, 1) := by decide +kernel
theorem dX8_well_226 : decode cX8_well 226 = .ok (.lload 10, 2) := by decide +kernel
theorem dX8_well_228 : decode cX8_well 228 = .ok (.lload 6, 2) := by decide +kernel
theorem dX8_well_230 : decode cX8_well 230 = .ok (.lmul, 1) := by decide +kernel
theorem dX8_well_231 : decode cX8_well 231 = .ok (.lload 8, 2) := by decide +kernel
theorem dX8_well_233 : decode cX8_well 233 = .ok (.lload 12, 2) := by decide +kernel
theorem dX8_well_235 : decode cX8_well 235 = .ok (.lmul, 1) := by decide +kernel
theorem dX8_well_236 : decode cX8_well 236 = .ok (.lsub, 1) := by decide +kernel
theorem dX8_well_237 : decode cX8_well 237 = .ok (.lstore 14, 2) := by decide +kernel
theorem dX8_well_239 : decode cX8_well 239 = .ok (.lload 10, 2) := by decide +kernel
theorem dX8_well_241 : decode cX8_well 241 = .ok (.lload 6, 2) := by decide +kernel
theorem dX8_well_243 : decode cX8_well 243 = .ok (.lmul, 1) := by decide +kernel
theorem dX8_well_244 : decode cX8_well 244 = .ok (.lload 8, 2) := by decide +kernel
theorem dX8_well_246 : decode cX8_well 246 = .ok (.lload 12, 2) := by decide +kernel
theorem dX8_well_248 : decode cX8_well 248 = .ok (.lmul, 1) := by decide +kernel
theorem dX8_well_249 : decode cX8_well 249 = .ok (.lcmp, 1) := by decide +kernel
theorem dX8_well_250 : decode cX8_well 250 = .ok (.ifCond .le 11, 3) := by decide +kernel
theorem dX8_well_253 : decode cX8_well 253 = .ok (.lload 10, 2) := by decide +kernel
theorem dX8_well_255 : decode cX8_well 255 = .ok (.lload 6, 2) := by decide +kernel
theorem dX8_well_257 : decode cX8_well 257 = .ok (.lmul, 1) := by decide +kernel
theorem dX8_well_258 : decode cX8_well 258 = .ok (.goto 8, 3) := by decide +kernel
theorem dX8_well_261 : decode cX8_well 261 = .ok (.lload 8, 2) := by decide +kernel
theorem dX8_well_263 : decode cX8_well 263 = .ok (.lload 12, 2) := by decide +kernel
theorem dX8_well_265 : decode cX8_well 265 = .ok (.lmul, 1) := by decide +kernel
theorem dX8_well_266 : decode cX8_well 266 = .ok (.lstore 16, 2) := by decide +kernel
theorem dX8_well_268 : decode cX8_well 268 = .ok (.lload 14, 2) := by decide +kernel
theorem dX8_well_270 : decode cX8_well 270 = .ok (.lload 16, 2) := by decide +kernel
theorem dX8_well_272 : decode cX8_well 272 = .ok (.invokestatic 174, 3) := by decide +kernel
theorem dX8_well_275 : decode cX8_well 275 = .ok (.lstore 18, 2) := by decide +kernel
theorem dX8_well_277 : decode cX8_well 277 = .ok (.iload 4, 2) := by decide +kernel
theorem dX8_well_279 : decode cX8_well 279 = .ok (.ifCond .ne 11, 3) := by decide +kernel
theorem dX8_well_282 : decode cX8_well 282 = .ok (.lload 14, 2) := by decide +kernel
theorem dX8_well_284 : decode cX8_well 284 = .ok (.lload 18, 2) := by decide +kernel
theorem dX8_well_286 : decode cX8_well 286 = .ok (.ldiv, 1) := by decide +kernel
theorem dX8_well_287 : decode cX8_well 287 = .ok (.goto 8, 3) := by decide +kernel
theorem dX8_well_290 : decode cX8_well 290 = .ok (.lload 16, 2) := by decide +kernel
theorem dX8_well_292 : decode cX8_well 292 = .ok (.lload 18, 2) := by decide +kernel
theorem dX8_well_294 : decode cX8_well 294 = .ok (.ldiv, 1) := by decide +kernel
theorem dX8_well_295 : decode cX8_well 295 = .ok (.lreturn, 1) := by decide +kernel
theorem dX8_agree_0 : decode cX8_agree 0 = .ok (.iload_n 1, 1) := by decide +kernel
theorem dX8_agree_1 : decode cX8_agree 1 = .ok (.iconst 0, 1) := by decide +kernel
theorem dX8_agree_2 : decode cX8_agree 2 = .ok (.iconst 3, 1) := by decide +kernel
theorem dX8_agree_3 : decode cX8_agree 3 = .ok (.invokestatic 85, 3) := by decide +kernel
theorem dX8_agree_6 : decode cX8_agree 6 = .ok (.ifCond .ne 6, 3) := by decide +kernel
theorem dX8_agree_9 : decode cX8_agree 9 = .ok (.ldc 96, 2) := by decide +kernel
theorem dX8_agree_11 : decode cX8_agree 11 = .ok (.ireturn, 1) := by decide +kernel
theorem dX8_agree_12 : decode cX8_agree 12 = .ok (.aload_n 0, 1) := by decide +kernel
theorem dX8_agree_13 : decode cX8_agree 13 = .ok (.getfield 17, 3) := by decide +kernel
theorem dX8_agree_16 : decode cX8_agree 16 = .ok (.iconst 0, 1) := by decide +kernel
theorem dX8_agree_17 : decode cX8_agree 17 = .ok (.baload, 1) := by decide +kernel
theorem dX8_agree_18 : decode cX8_agree 18 = .ok (.ifCond .eq 12, 3) := by decide +kernel
theorem dX8_agree_21 : decode cX8_agree 21 = .ok (.aload_n 0, 1) := by decide +kernel
theorem dX8_agree_22 : decode cX8_agree 22 = .ok (.getfield 17, 3) := by decide +kernel
theorem dX8_agree_25 : decode cX8_agree 25 = .ok (.iconst 1, 1) := by decide +kernel
theorem dX8_agree_26 : decode cX8_agree 26 = .ok (.baload, 1) := by decide +kernel
theorem dX8_agree_27 : decode cX8_agree 27 = .ok (.ifCond .ne 6, 3) := by decide +kernel
theorem dX8_agree_30 : decode cX8_agree 30 = .ok (.ldc 97, 2) := by decide +kernel
theorem dX8_agree_32 : decode cX8_agree 32 = .ok (.ireturn, 1) := by decide +kernel
theorem dX8_agree_33 : decode cX8_agree 33 = .ok (.iconst 0, 1) := by decide +kernel
theorem dX8_agree_34 : decode cX8_agree 34 = .ok (.istore_n 2, 1) := by decide +kernel
theorem dX8_agree_35 : decode cX8_agree 35 = .ok (.iconst 0, 1) := by decide +kernel
theorem dX8_agree_36 : decode cX8_agree 36 = .ok (.istore_n 3, 1) := by decide +kernel
theorem dX8_agree_37 : decode cX8_agree 37 = .ok (.iload_n 3, 1) := by decide +kernel
theorem dX8_agree_38 : decode cX8_agree 38 = .ok (.aload_n 0, 1) := by decide +kernel
theorem dX8_agree_39 : decode cX8_agree 39 = .ok (.getfield 82, 3) := by decide +kernel
theorem dX8_agree_42 : decode cX8_agree 42 = .ok (.if_icmp .ge 146, 3) := by decide +kernel
theorem dX8_agree_45 : decode cX8_agree 45 = .ok (.iload_n 3, 1) := by decide +kernel
theorem dX8_agree_46 : decode cX8_agree 46 = .ok (.iconst 1, 1) := by decide +kernel
theorem dX8_agree_47 : decode cX8_agree 47 = .ok (.iadd, 1) := by decide +kernel
theorem dX8_agree_48 : decode cX8_agree 48 = .ok (.istore 4, 2) := by decide +kernel
theorem dX8_agree_50 : decode cX8_agree 50 = .ok (.iload 4, 2) := by decide +kernel
theorem dX8_agree_52 : decode cX8_agree 52 = .ok (.aload_n 0, 1) := by decide +kernel
theorem dX8_agree_53 : decode cX8_agree 53 = .ok (.getfield 82, 3) := by decide +kernel
theorem dX8_agree_56 : decode cX8_agree 56 = .ok (.if_icmp .ge 126, 3) := by decide +kernel
theorem dX8_agree_59 : decode cX8_agree 59 = .ok (.aload_n 0, 1) := by decide +kernel
theorem dX8_agree_60 : decode cX8_agree 60 = .ok (.iconst 0, 1) := by decide +kernel
theorem dX8_agree_61 : decode cX8_agree 61 = .ok (.iload_n 3, 1) := by decide +kernel
theorem dX8_agree_62 : decode cX8_agree 62 = .ok (.invokevirtual 182, 3) := by decide +kernel
theorem dX8_agree_65 : decode cX8_agree 65 = .ok (.iconst (-1), 1) := by decide +kernel
theorem dX8_agree_66 : decode cX8_agree 66 = .ok (.if_icmp .eq 39, 3) := by decide +kernel
theorem dX8_agree_69 : decode cX8_agree 69 = .ok (.aload_n 0, 1) := by decide +kernel
theorem dX8_agree_70 : decode cX8_agree 70 = .ok (.iconst 0, 1) := by decide +kernel
theorem dX8_agree_71 : decode cX8_agree 71 = .ok (.iload 4, 2) := by decide +kernel
theorem dX8_agree_73 : decode cX8_agree 73 = .ok (.invokevirtual 182, 3) := by decide +kernel
theorem dX8_agree_76 : decode cX8_agree 76 = .ok (.iconst (-1), 1) := by decide +kernel
theorem dX8_agree_77 : decode cX8_agree 77 = .ok (.if_icmp .eq 28, 3) := by decide +kernel
theorem dX8_agree_80 : decode cX8_agree 80 = .ok (.aload_n 0, 1) := by decide +kernel
theorem dX8_agree_81 : decode cX8_agree 81 = .ok (.iconst 1, 1) := by decide +kernel
theorem dX8_agree_82 : decode cX8_agree 82 = .ok (.iload_n 3, 1) := by decide +kernel
theorem dX8_agree_83 : decode cX8_agree 83 = .ok (.invokevirtual 182, 3) := by decide +kernel
theorem dX8_agree_86 : decode cX8_agree 86 = .ok (.iconst (-1), 1) := by decide +kernel
theorem dX8_agree_87 : decode cX8_agree 87 = .ok (.if_icmp .eq 18, 3) := by decide +kernel
theorem dX8_agree_90 : decode cX8_agree 90 = .ok (.aload_n 0, 1) := by decide +kernel
theorem dX8_agree_91 : decode cX8_agree 91 = .ok (.iconst 1, 1) := by decide +kernel
theorem dX8_agree_92 : decode cX8_agree 92 = .ok (.iload 4, 2) := by decide +kernel
theorem dX8_agree_94 : decode cX8_agree 94 = .ok (.invokevirtual 182, 3) := by decide +kernel
theorem dX8_agree_97 : decode cX8_agree 97 = .ok (.iconst (-1), 1) := by decide +kernel
theorem dX8_agree_98 : decode cX8_agree 98 = .ok (.if_icmp .eq 7, 3) := by decide +kernel
theorem dX8_agree_101 : decode cX8_agree 101 = .ok (.iconst 1, 1) := by decide +kernel
theorem dX8_agree_102 : decode cX8_agree 102 = .ok (.goto 4, 3) := by decide +kernel
theorem dX8_agree_105 : decode cX8_agree 105 = .ok (.iconst 0, 1) := by decide +kernel
theorem dX8_agree_106 : decode cX8_agree 106 = .ok (.istore 5, 2) := by decide +kernel
theorem dX8_agree_108 : decode cX8_agree 108 = .ok (.aload_n 0, 1) := by decide +kernel
theorem dX8_agree_109 : decode cX8_agree 109 = .ok (.iconst 0, 1) := by decide +kernel
theorem dX8_agree_110 : decode cX8_agree 110 = .ok (.iload_n 3, 1) := by decide +kernel
theorem dX8_agree_111 : decode cX8_agree 111 = .ok (.invokevirtual 182, 3) := by decide +kernel
theorem dX8_agree_114 : decode cX8_agree 114 = .ok (.aload_n 0, 1) := by decide +kernel
theorem dX8_agree_115 : decode cX8_agree 115 = .ok (.iconst 0, 1) := by decide +kernel
theorem dX8_agree_116 : decode cX8_agree 116 = .ok (.iload 4, 2) := by decide +kernel
theorem dX8_agree_118 : decode cX8_agree 118 = .ok (.invokevirtual 182, 3) := by decide +kernel
theorem dX8_agree_121 : decode cX8_agree 121 = .ok (.if_icmp .ne 7, 3) := by decide +kernel
theorem dX8_agree_124 : decode cX8_agree 124 = .ok (.iconst 0, 1) := by decide +kernel
theorem dX8_agree_125 : decode cX8_agree 125 = .ok (.goto 4, 3) := by decide +kernel
theorem dX8_agree_128 : decode cX8_agree 128 = .ok (.iconst 2, 1) := by decide +kernel
theorem dX8_agree_129 : decode cX8_agree 129 = .ok (.istore 6, 2) := by decide +kernel
theorem dX8_agree_131 : decode cX8_agree 131 = .ok (.aload_n 0, 1) := by decide +kernel
theorem dX8_agree_132 : decode cX8_agree 132 = .ok (.iconst 1, 1) := by decide +kernel
theorem dX8_agree_133 : decode cX8_agree 133 = .ok (.iload_n 3, 1) := by decide +kernel
theorem dX8_agree_134 : decode cX8_agree 134 = .ok (.invokevirtual 182, 3) := by decide +kernel
theorem dX8_agree_137 : decode cX8_agree 137 = .ok (.aload_n 0, 1) := by decide +kernel
theorem dX8_agree_138 : decode cX8_agree 138 = .ok (.iconst 1, 1) := by decide +kernel
theorem dX8_agree_139 : decode cX8_agree 139 = .ok (.iload 4, 2) := by decide +kernel
theorem dX8_agree_141 : decode cX8_agree 141 = .ok (.invokevirtual 182, 3) := by decide +kernel
theorem dX8_agree_144 : decode cX8_agree 144 = .ok (.if_icmp .ne 7, 3) := by decide +kernel
theorem dX8_agree_147 : decode cX8_agree 147 = .ok (.iconst 0, 1) := by decide +kernel
theorem dX8_agree_148 : decode cX8_agree 148 = .ok (.goto 4, 3) := by decide +kernel
theorem dX8_agree_151 : decode cX8_agree 151 = .ok (.iconst 1, 1) := by decide +kernel
theorem dX8_agree_152 : decode cX8_agree 152 = .ok (.istore 7, 2) := by decide +kernel
theorem dX8_agree_154 : decode cX8_agree 154 = .ok (.iload_n 2, 1) := by decide +kernel
theorem dX8_agree_155 : decode cX8_agree 155 = .ok (.iload 5, 2) := by decide +kernel
theorem dX8_agree_157 : decode cX8_agree 157 = .ok (.ifCond .eq 16, 3) := by decide +kernel
theorem dX8_agree_160 : decode cX8_agree 160 = .ok (.iload 6, 2) := by decide +kernel
theorem dX8_agree_162 : decode cX8_agree 162 = .ok (.iload 7, 2) := by decide +kernel
theorem dX8_agree_164 : decode cX8_agree 164 = .ok (.iadd, 1) := by decide +kernel
theorem dX8_agree_165 : decode cX8_agree 165 = .ok (.iload_n 1, 1) := by decide +kernel
theorem dX8_agree_166 : decode cX8_agree 166 = .ok (.if_icmp .ne 7, 3) := by decide +kernel
theorem dX8_agree_169 : decode cX8_agree 169 = .ok (.iconst 1, 1) := by decide +kernel
theorem dX8_agree_170 : decode cX8_agree 170 = .ok (.goto 4, 3) := by decide +kernel
theorem dX8_agree_173 : decode cX8_agree 173 = .ok (.iconst 0, 1) := by decide +kernel
theorem dX8_agree_174 : decode cX8_agree 174 = .ok (.iadd, 1) := by decide +kernel
theorem dX8_agree_175 : decode cX8_agree 175 = .ok (.istore_n 2, 1) := by decide +kernel
theorem dX8_agree_176 : decode cX8_agree 176 = .ok (.iinc 4 1, 3) := by decide +kernel
theorem dX8_agree_179 : decode cX8_agree 179 = .ok (.goto (-129), 3) := by decide +kernel
theorem dX8_agree_182 : decode cX8_agree 182 = .ok (.iinc 3 1, 3) := by decide +kernel
theorem dX8_agree_185 : decode cX8_agree 185 = .ok (.goto (-148), 3) := by decide +kernel
theorem dX8_agree_188 : decode cX8_agree 188 = .ok (.iload_n 2, 1) := by decide +kernel
theorem dX8_agree_189 : decode cX8_agree 189 = .ok (.ireturn, 1) := by decide +kernel
theorem dL_law_0 : decode cL_law 0 = .ok (.new 7, 3) := by decide +kernel
theorem dL_law_3 : decode cL_law 3 = .ok (.dup, 1) := by decide +kernel
theorem dL_law_4 : decode cL_law 4 = .ok (.invokespecial 9, 3) := by decide +kernel
theorem dL_law_7 : decode cL_law 7 = .ok (.astore_n 1, 1) := by decide +kernel
theorem dL_law_8 : decode cL_law 8 = .ok (.new 10, 3) := by decide +kernel
theorem dL_law_11 : decode cL_law 11 = .ok (.dup, 1) := by decide +kernel
theorem dL_law_12 : decode cL_law 12 = .ok (.invokespecial 12, 3) := by decide +kernel
theorem dL_law_15 : decode cL_law 15 = .ok (.astore_n 2, 1) := by decide +kernel
theorem dL_law_16 : decode cL_law 16 = .ok (.iconst 0, 1) := by decide +kernel
theorem dL_law_17 : decode cL_law 17 = .ok (.istore_n 3, 1) := by decide +kernel
theorem dL_law_18 : decode cL_law 18 = .ok (.iload_n 3, 1) := by decide +kernel
theorem dL_law_19 : decode cL_law 19 = .ok (.aload_n 0, 1) := by decide +kernel
theorem dL_law_20 : decode cL_law 20 = .ok (.arraylength, 1) := by decide +kernel
theorem dL_law_21 : decode cL_law 21 = .ok (.iconst 5, 1) := by decide +kernel
theorem dL_law_22 : decode cL_law 22 = .ok (.isub, 1) := by decide +kernel
theorem dL_law_23 : decode cL_law 23 = .ok (.if_icmp .gt 787, 3) := by decide +kernel
theorem dL_law_26 : decode cL_law 26 = .ok (.aload_n 0, 1) := by decide +kernel
theorem dL_law_27 : decode cL_law 27 = .ok (.iload_n 3, 1) := by decide +kernel
theorem dL_law_28 : decode cL_law 28 = .ok (.iaload, 1) := by decide +kernel
theorem dL_law_29 : decode cL_law 29 = .ok (.bipush 31, 2) := by decide +kernel
theorem dL_law_31 : decode cL_law 31 = .ok (.iand, 1) := by decide +kernel
theorem dL_law_32 : decode cL_law 32 = .ok (.tableswitch 772 0 18 #[92, 115, 168, 181, 204, 247, 290, 323, 366, 389, 442, 475, 509, 542, 575, 608, 661, 695, 749], 92) := by decide +kernel
theorem dL_law_124 : decode cL_law 124 = .ok (.aload_n 1, 1) := by decide +kernel
theorem dL_law_125 : decode cL_law 125 = .ok (.aload_n 0, 1) := by decide +kernel
theorem dL_law_126 : decode cL_law 126 = .ok (.iload_n 3, 1) := by decide +kernel
theorem dL_law_127 : decode cL_law 127 = .ok (.iconst 1, 1) := by decide +kernel
theorem dL_law_128 : decode cL_law 128 = .ok (.iadd, 1) := by decide +kernel
theorem dL_law_129 : decode cL_law 129 = .ok (.iaload, 1) := by decide +kernel
theorem dL_law_130 : decode cL_law 130 = .ok (.invokevirtual 13, 3) := by decide +kernel
theorem dL_law_133 : decode cL_law 133 = .ok (.aload_n 2, 1) := by decide +kernel
theorem dL_law_134 : decode cL_law 134 = .ok (.aload_n 0, 1) := by decide +kernel
theorem dL_law_135 : decode cL_law 135 = .ok (.iload_n 3, 1) := by decide +kernel
theorem dL_law_136 : decode cL_law 136 = .ok (.iconst 1, 1) := by decide +kernel
theorem dL_law_137 : decode cL_law 137 = .ok (.iadd, 1) := by decide +kernel
theorem dL_law_138 : decode cL_law 138 = .ok (.iaload, 1) := by decide +kernel
theorem dL_law_139 : decode cL_law 139 = .ok (.invokevirtual 17, 3) := by decide +kernel
theorem dL_law_142 : decode cL_law 142 = .ok (.if_icmp .eq 662, 3) := by decide +kernel
theorem dL_law_145 : decode cL_law 145 = .ok (.iconst 0, 1) := by decide +kernel
theorem dL_law_146 : decode cL_law 146 = .ok (.ireturn, 1) := by decide +kernel
theorem dL_law_147 : decode cL_law 147 = .ok (.aload_n 1, 1) := by decide +kernel
theorem dL_law_148 : decode cL_law 148 = .ok (.aload_n 0, 1) := by decide +kernel
theorem dL_law_149 : decode cL_law 149 = .ok (.iload_n 3, 1) := by decide +kernel
theorem dL_law_150 : decode cL_law 150 = .ok (.iconst 1, 1) := by decide +kernel
theorem dL_law_151 : decode cL_law 151 = .ok (.iadd, 1) := by decide +kernel
theorem dL_law_152 : decode cL_law 152 = .ok (.iaload, 1) := by decide +kernel
theorem dL_law_153 : decode cL_law 153 = .ok (.aload_n 0, 1) := by decide +kernel
theorem dL_law_154 : decode cL_law 154 = .ok (.iload_n 3, 1) := by decide +kernel
theorem dL_law_155 : decode cL_law 155 = .ok (.iconst 2, 1) := by decide +kernel
theorem dL_law_156 : decode cL_law 156 = .ok (.iadd, 1) := by decide +kernel
theorem dL_law_157 : decode cL_law 157 = .ok (.iaload, 1) := by decide +kernel
theorem dL_law_158 : decode cL_law 158 = .ok (.aload_n 0, 1) := by decide +kernel
theorem dL_law_159 : decode cL_law 159 = .ok (.iload_n 3, 1) := by decide +kernel
theorem dL_law_160 : decode cL_law 160 = .ok (.iconst 3, 1) := by decide +kernel
theorem dL_law_161 : decode cL_law 161 = .ok (.iadd, 1) := by decide +kernel
theorem dL_law_162 : decode cL_law 162 = .ok (.iaload, 1) := by decide +kernel
theorem dL_law_163 : decode cL_law 163 = .ok (.aload_n 0, 1) := by decide +kernel
theorem dL_law_164 : decode cL_law 164 = .ok (.iload_n 3, 1) := by decide +kernel
theorem dL_law_165 : decode cL_law 165 = .ok (.iconst 4, 1) := by decide +kernel
theorem dL_law_166 : decode cL_law 166 = .ok (.iadd, 1) := by decide +kernel
theorem dL_law_167 : decode cL_law 167 = .ok (.iaload, 1) := by decide +kernel
theorem dL_law_168 : decode cL_law 168 = .ok (.invokevirtual 18, 3) := by decide +kernel
theorem dL_law_171 : decode cL_law 171 = .ok (.aload_n 2, 1) := by decide +kernel
theorem dL_law_172 : decode cL_law 172 = .ok (.aload_n 0, 1) := by decide +kernel
theorem dL_law_173 : decode cL_law 173 = .ok (.iload_n 3, 1) := by decide +kernel
theorem dL_law_174 : decode cL_law 174 = .ok (.iconst 1, 1) := by decide +kernel
theorem dL_law_175 : decode cL_law 175 = .ok (.iadd, 1) := by decide +kernel
theorem dL_law_176 : decode cL_law 176 = .ok (.iaload, 1) := by decide +kernel
theorem dL_law_177 : decode cL_law 177 = .ok (.aload_n 0, 1) := by decide +kernel
theorem dL_law_178 : decode cL_law 178 = .ok (.iload_n 3, 1) := by decide +kernel
theorem dL_law_179 : decode cL_law 179 = .ok (.iconst 2, 1) := by decide +kernel
theorem dL_law_180 : decode cL_law 180 = .ok (.iadd, 1) := by decide +kernel
theorem dL_law_181 : decode cL_law 181 = .ok (.iaload, 1) := by decide +kernel
theorem dL_law_182 : decode cL_law 182 = .ok (.aload_n 0, 1) := by decide +kernel
theorem dL_law_183 : decode cL_law 183 = .ok (.iload_n 3, 1) := by decide +kernel
theorem dL_law_184 : decode cL_law 184 = .ok (.iconst 3, 1) := by decide +kernel
theorem dL_law_185 : decode cL_law 185 = .ok (.iadd, 1) := by decide +kernel
theorem dL_law_186 : decode cL_law 186 = .ok (.iaload, 1) := by decide +kernel
theorem dL_law_187 : decode cL_law 187 = .ok (.aload_n 0, 1) := by decide +kernel
theorem dL_law_188 : decode cL_law 188 = .ok (.iload_n 3, 1) := by decide +kernel
theorem dL_law_189 : decode cL_law 189 = .ok (.iconst 4, 1) := by decide +kernel
theorem dL_law_190 : decode cL_law 190 = .ok (.iadd, 1) := by decide +kernel
theorem dL_law_191 : decode cL_law 191 = .ok (.iaload, 1) := by decide +kernel
theorem dL_law_192 : decode cL_law 192 = .ok (.invokevirtual 22, 3) := by decide +kernel
theorem dL_law_195 : decode cL_law 195 = .ok (.if_icmp .eq 609, 3) := by decide +kernel
theorem dL_law_198 : decode cL_law 198 = .ok (.iconst 0, 1) := by decide +kernel
theorem dL_law_199 : decode cL_law 199 = .ok (.ireturn, 1) := by decide +kernel
theorem dL_law_200 : decode cL_law 200 = .ok (.aload_n 1, 1) := by decide +kernel
theorem dL_law_201 : decode cL_law 201 = .ok (.invokevirtual 23, 3) := by decide +kernel
theorem dL_law_204 : decode cL_law 204 = .ok (.aload_n 2, 1) := by decide +kernel
theorem dL_law_205 : decode cL_law 205 = .ok (.invokevirtual 27, 3) := by decide +kernel
theorem dL_law_208 : decode cL_law 208 = .ok (.if_icmp .eq 596, 3) := by decide +kernel
theorem dL_law_211 : decode cL_law 211 = .ok (.iconst 0, 1) := by decide +kernel
theorem dL_law_212 : decode cL_law 212 = .ok (.ireturn, 1) := by decide +kernel
theorem dL_law_213 : decode cL_law 213 = .ok (.aload_n 1, 1) := by decide +kernel
theorem dL_law_214 : decode cL_law 214 = .ok (.aload_n 0, 1) := by decide +kernel
theorem dL_law_215 : decode cL_law 215 = .ok (.iload_n 3, 1) := by decide +kernel
theorem dL_law_216 : decode cL_law 216 = .ok (.iconst 1, 1) := by decide +kernel
theorem dL_law_217 : decode cL_law 217 = .ok (.iadd, 1) := by decide +kernel
theorem dL_law_218 : decode cL_law 218 = .ok (.iaload, 1) := by decide +kernel
theorem dL_law_219 : decode cL_law 219 = .ok (.invokevirtual 28, 3) := by decide +kernel
theorem dL_law_222 : decode cL_law 222 = .ok (.aload_n 2, 1) := by decide +kernel
theorem dL_law_223 : decode cL_law 223 = .ok (.aload_n 0, 1) := by decide +kernel
theorem dL_law_224 : decode cL_law 224 = .ok (.iload_n 3, 1) := by decide +kernel
theorem dL_law_225 : decode cL_law 225 = .ok (.iconst 1, 1) := by decide +kernel
theorem dL_law_226 : decode cL_law 226 = .ok (.iadd, 1) := by decide +kernel
theorem dL_law_227 : decode cL_law 227 = .ok (.iaload, 1) := by decide +kernel
theorem dL_law_228 : decode cL_law 228 = .ok (.invokevirtual 31, 3) := by decide +kernel
theorem dL_law_231 : decode cL_law 231 = .ok (.if_icmp .eq 573, 3) := by decide +kernel
theorem dL_law_234 : decode cL_law 234 = .ok (.iconst 0, 1) := by decide +kernel
theorem dL_law_235 : decode cL_law 235 = .ok (.ireturn, 1) := by decide +kernel
theorem dL_law_236 : decode cL_law 236 = .ok (.aload_n 1, 1) := by decide +kernel
theorem dL_law_237 : decode cL_law 237 = .ok (.aload_n 0, 1) := by decide +kernel
theorem dL_law_238 : decode cL_law 238 = .ok (.iload_n 3, 1) := by decide +kernel
theorem dL_law_239 : decode cL_law 239 = .ok (.iconst 1, 1) := by decide +kernel
theorem dL_law_240 : decode cL_law 240 = .ok (.iadd, 1) := by decide +kernel
theorem dL_law_241 : decode cL_law 241 = .ok (.iaload, 1) := by decide +kernel
theorem dL_law_242 : decode cL_law 242 = .ok (.aload_n 0, 1) := by decide +kernel
theorem dL_law_243 : decode cL_law 243 = .ok (.iload_n 3, 1) := by decide +kernel
theorem dL_law_244 : decode cL_law 244 = .ok (.iconst 2, 1) := by decide +kernel
theorem dL_law_245 : decode cL_law 245 = .ok (.iadd, 1) := by decide +kernel
theorem dL_law_246 : decode cL_law 246 = .ok (.iaload, 1) := by decide +kernel
theorem dL_law_247 : decode cL_law 247 = .ok (.aload_n 0, 1) := by decide +kernel
theorem dL_law_248 : decode cL_law 248 = .ok (.iload_n 3, 1) := by decide +kernel
theorem dL_law_249 : decode cL_law 249 = .ok (.iconst 3, 1) := by decide +kernel
theorem dL_law_250 : decode cL_law 250 = .ok (.iadd, 1) := by decide +kernel
theorem dL_law_251 : decode cL_law 251 = .ok (.iaload, 1) := by decide +kernel
theorem dL_law_252 : decode cL_law 252 = .ok (.invokevirtual 32, 3) := by decide +kernel
theorem dL_law_255 : decode cL_law 255 = .ok (.aload_n 2, 1) := by decide +kernel
theorem dL_law_256 : decode cL_law 256 = .ok (.aload_n 0, 1) := by decide +kernel
theorem dL_law_257 : decode cL_law 257 = .ok (.iload_n 3, 1) := by decide +kernel
theorem dL_law_258 : decode cL_law 258 = .ok (.iconst 1, 1) := by decide +kernel
theorem dL_law_259 : decode cL_law 259 = .ok (.iadd, 1) := by decide +kernel
theorem dL_law_260 : decode cL_law 260 = .ok (.iaload, 1) := by decide +kernel
theorem dL_law_261 : decode cL_law 261 = .ok (.aload_n 0, 1) := by decide +kernel
theorem dL_law_262 : decode cL_law 262 = .ok (.iload_n 3, 1) := by decide +kernel
theorem dL_law_263 : decode cL_law 263 = .ok (.iconst 2, 1) := by decide +kernel
theorem dL_law_264 : decode cL_law 264 = .ok (.iadd, 1) := by decide +kernel
theorem dL_law_265 : decode cL_law 265 = .ok (.iaload, 1) := by decide +kernel
theorem dL_law_266 : decode cL_law 266 = .ok (.aload_n 0, 1) := by decide +kernel
theorem dL_law_267 : decode cL_law 267 = .ok (.iload_n 3, 1) := by decide +kernel
theorem dL_law_268 : decode cL_law 268 = .ok (.iconst 3, 1) := by decide +kernel
theorem dL_law_269 : decode cL_law 269 = .ok (.iadd, 1) := by decide +kernel
theorem dL_law_270 : decode cL_law 270 = .ok (.iaload, 1) := by decide +kernel
theorem dL_law_271 : decode cL_law 271 = .ok (.invokevirtual 36, 3) := by decide +kernel
theorem dL_law_274 : decode cL_law 274 = .ok (.if_icmp .eq 530, 3) := by decide +kernel
theorem dL_law_277 : decode cL_law 277 = .ok (.iconst 0, 1) := by decide +kernel
theorem dL_law_278 : decode cL_law 278 = .ok (.ireturn, 1) := by decide +kernel
theorem dL_law_279 : decode cL_law 279 = .ok (.aload_n 1, 1) := by decide +kernel
theorem dL_law_280 : decode cL_law 280 = .ok (.aload_n 0, 1) := by decide +kernel
theorem dL_law_281 : decode cL_law 281 = .ok (.iload_n 3, 1) := by decide +kernel
theorem dL_law_282 : decode cL_law 282 = .ok (.iconst 1, 1) := by decide +kernel
theorem dL_law_283 : decode cL_law 283 = .ok (.iadd, 1) := by decide +kernel
theorem dL_law_284 : decode cL_law 284 = .ok (.iaload, 1) := by decide +kernel
theorem dL_law_285 : decode cL_law 285 = .ok (.aload_n 0, 1) := by decide +kernel
theorem dL_law_286 : decode cL_law 286 = .ok (.iload_n 3, 1) := by decide +kernel
theorem dL_law_287 : decode cL_law 287 = .ok (.iconst 2, 1) := by decide +kernel
theorem dL_law_288 : decode cL_law 288 = .ok (.iadd, 1) := by decide +kernel
theorem dL_law_289 : decode cL_law 289 = .ok (.iaload, 1) := by decide +kernel
theorem dL_law_290 : decode cL_law 290 = .ok (.aload_n 0, 1) := by decide +kernel
theorem dL_law_291 : decode cL_law 291 = .ok (.iload_n 3, 1) := by decide +kernel
theorem dL_law_292 : decode cL_law 292 = .ok (.iconst 3, 1) := by decide +kernel
theorem dL_law_293 : decode cL_law 293 = .ok (.iadd, 1) := by decide +kernel
theorem dL_law_294 : decode cL_law 294 = .ok (.iaload, 1) := by decide +kernel
theorem dL_law_295 : decode cL_law 295 = .ok (.invokevirtual 37, 3) := by decide +kernel
theorem dL_law_298 : decode cL_law 298 = .ok (.aload_n 2, 1) := by decide +kernel
theorem dL_law_299 : decode cL_law 299 = .ok (.aload_n 0, 1) := by decide +kernel
theorem dL_law_300 : decode cL_law 300 = .ok (.iload_n 3, 1) := by decide +kernel
theorem dL_law_301 : decode cL_law 301 = .ok (.iconst 1, 1) := by decide +kernel
theorem dL_law_302 : decode cL_law 302 = .ok (.iadd, 1) := by decide +kernel
theorem dL_law_303 : decode cL_law 303 = .ok (.iaload, 1) := by decide +kernel
theorem dL_law_304 : decode cL_law 304 = .ok (.aload_n 0, 1) := by decide +kernel
theorem dL_law_305 : decode cL_law 305 = .ok (.iload_n 3, 1) := by decide +kernel
theorem dL_law_306 : decode cL_law 306 = .ok (.iconst 2, 1) := by decide +kernel
theorem dL_law_307 : decode cL_law 307 = .ok (.iadd, 1) := by decide +kernel
theorem dL_law_308 : decode cL_law 308 = .ok (.iaload, 1) := by decide +kernel
theorem dL_law_309 : decode cL_law 309 = .ok (.aload_n 0, 1) := by decide +kernel
theorem dL_law_310 : decode cL_law 310 = .ok (.iload_n 3, 1) := by decide +kernel
theorem dL_law_311 : decode cL_law 311 = .ok (.iconst 3, 1) := by decide +kernel
theorem dL_law_312 : decode cL_law 312 = .ok (.iadd, 1) := by decide +kernel
theorem dL_law_313 : decode cL_law 313 = .ok (.iaload, 1) := by decide +kernel
theorem dL_law_314 : decode cL_law 314 = .ok (.invokevirtual 40, 3) := by decide +kernel
theorem dL_law_317 : decode cL_law 317 = .ok (.if_icmp .eq 487, 3) := by decide +kernel
theorem dL_law_320 : decode cL_law 320 = .ok (.iconst 0, 1) := by decide +kernel
theorem dL_law_321 : decode cL_law 321 = .ok (.ireturn, 1) := by decide +kernel
theorem dL_law_322 : decode cL_law 322 = .ok (.aload_n 1, 1) := by decide +kernel
theorem dL_law_323 : decode cL_law 323 = .ok (.aload_n 0, 1) := by decide +kernel
theorem dL_law_324 : decode cL_law 324 = .ok (.iload_n 3, 1) := by decide +kernel
theorem dL_law_325 : decode cL_law 325 = .ok (.iconst 1, 1) := by decide +kernel
theorem dL_law_326 : decode cL_law 326 = .ok (.iadd, 1) := by decide +kernel
theorem dL_law_327 : decode cL_law 327 = .ok (.iaload, 1) := by decide +kernel
theorem dL_law_328 : decode cL_law 328 = .ok (.aload_n 0, 1) := by decide +kernel
theorem dL_law_329 : decode cL_law 329 = .ok (.iload_n 3, 1) := by decide +kernel
theorem dL_law_330 : decode cL_law 330 = .ok (.iconst 2, 1) := by decide +kernel
theorem dL_law_331 : decode cL_law 331 = .ok (.iadd, 1) := by decide +kernel
theorem dL_law_332 : decode cL_law 332 = .ok (.iaload, 1) := by decide +kernel
theorem dL_law_333 : decode cL_law 333 = .ok (.invokevirtual 41, 3) := by decide +kernel
theorem dL_law_336 : decode cL_law 336 = .ok (.aload_n 2, 1) := by decide +kernel
theorem dL_law_337 : decode cL_law 337 = .ok (.aload_n 0, 1) := by decide +kernel
theorem dL_law_338 : decode cL_law 338 = .ok (.iload_n 3, 1) := by decide +kernel
theorem dL_law_339 : decode cL_law 339 = .ok (.iconst 1, 1) := by decide +kernel
theorem dL_law_340 : decode cL_law 340 = .ok (.iadd, 1) := by decide +kernel
theorem dL_law_341 : decode cL_law 341 = .ok (.iaload, 1) := by decide +kernel
theorem dL_law_342 : decode cL_law 342 = .ok (.aload_n 0, 1) := by decide +kernel
theorem dL_law_343 : decode cL_law 343 = .ok (.iload_n 3, 1) := by decide +kernel
theorem dL_law_344 : decode cL_law 344 = .ok (.iconst 2, 1) := by decide +kernel
theorem dL_law_345 : decode cL_law 345 = .ok (.iadd, 1) := by decide +kernel
theorem dL_law_346 : decode cL_law 346 = .ok (.iaload, 1) := by decide +kernel
theorem dL_law_347 : decode cL_law 347 = .ok (.invokevirtual 45, 3) := by decide +kernel
theorem dL_law_350 : decode cL_law 350 = .ok (.if_icmp .eq 454, 3) := by decide +kernel
theorem dL_law_353 : decode cL_law 353 = .ok (.iconst 0, 1) := by decide +kernel
theorem dL_law_354 : decode cL_law 354 = .ok (.ireturn, 1) := by decide +kernel
theorem dL_law_355 : decode cL_law 355 = .ok (.aload_n 1, 1) := by decide +kernel
theorem dL_law_356 : decode cL_law 356 = .ok (.aload_n 0, 1) := by decide +kernel
theorem dL_law_357 : decode cL_law 357 = .ok (.iload_n 3, 1) := by decide +kernel
theorem dL_law_358 : decode cL_law 358 = .ok (.iconst 1, 1) := by decide +kernel
theorem dL_law_359 : decode cL_law 359 = .ok (.iadd, 1) := by decide +kernel
theorem dL_law_360 : decode cL_law 360 = .ok (.iaload, 1) := by decide +kernel
theorem dL_law_361 : decode cL_law 361 = .ok (.aload_n 0, 1) := by decide +kernel
theorem dL_law_362 : decode cL_law 362 = .ok (.iload_n 3, 1) := by decide +kernel
theorem dL_law_363 : decode cL_law 363 = .ok (.iconst 2, 1) := by decide +kernel
theorem dL_law_364 : decode cL_law 364 = .ok (.iadd, 1) := by decide +kernel
theorem dL_law_365 : decode cL_law 365 = .ok (.iaload, 1) := by decide +kernel
theorem dL_law_366 : decode cL_law 366 = .ok (.aload_n 0, 1) := by decide +kernel
theorem dL_law_367 : decode cL_law 367 = .ok (.iload_n 3, 1) := by decide +kernel
theorem dL_law_368 : decode cL_law 368 = .ok (.iconst 3, 1) := by decide +kernel
theorem dL_law_369 : decode cL_law 369 = .ok (.iadd, 1) := by decide +kernel
theorem dL_law_370 : decode cL_law 370 = .ok (.iaload, 1) := by decide +kernel
theorem dL_law_371 : decode cL_law 371 = .ok (.invokevirtual 46, 3) := by decide +kernel
theorem dL_law_374 : decode cL_law 374 = .ok (.aload_n 2, 1) := by decide +kernel
theorem dL_law_375 : decode cL_law 375 = .ok (.aload_n 0, 1) := by decide +kernel
theorem dL_law_376 : decode cL_law 376 = .ok (.iload_n 3, 1) := by decide +kernel
theorem dL_law_377 : decode cL_law 377 = .ok (.iconst 1, 1) := by decide +kernel
theorem dL_law_378 : decode cL_law 378 = .ok (.iadd, 1) := by decide +kernel
theorem dL_law_379 : decode cL_law 379 = .ok (.iaload, 1) := by decide +kernel
theorem dL_law_380 : decode cL_law 380 = .ok (.aload_n 0, 1) := by decide +kernel
theorem dL_law_381 : decode cL_law 381 = .ok (.iload_n 3, 1) := by decide +kernel
theorem dL_law_382 : decode cL_law 382 = .ok (.iconst 2, 1) := by decide +kernel
theorem dL_law_383 : decode cL_law 383 = .ok (.iadd, 1) := by decide +kernel
theorem dL_law_384 : decode cL_law 384 = .ok (.iaload, 1) := by decide +kernel
theorem dL_law_385 : decode cL_law 385 = .ok (.aload_n 0, 1) := by decide +kernel
theorem dL_law_386 : decode cL_law 386 = .ok (.iload_n 3, 1) := by decide +kernel
theorem dL_law_387 : decode cL_law 387 = .ok (.iconst 3, 1) := by decide +kernel
theorem dL_law_388 : decode cL_law 388 = .ok (.iadd, 1) := by decide +kernel
theorem dL_law_389 : decode cL_law 389 = .ok (.iaload, 1) := by decide +kernel
theorem dL_law_390 : decode cL_law 390 = .ok (.invokevirtual 49, 3) := by decide +kernel
theorem dL_law_393 : decode cL_law 393 = .ok (.if_icmp .eq 411, 3) := by decide +kernel
theorem dL_law_396 : decode cL_law 396 = .ok (.iconst 0, 1) := by decide +kernel
theorem dL_law_397 : decode cL_law 397 = .ok (.ireturn, 1) := by decide +kernel
theorem dL_law_398 : decode cL_law 398 = .ok (.aload_n 1, 1) := by decide +kernel
theorem dL_law_399 : decode cL_law 399 = .ok (.aload_n 0, 1) := by decide +kernel
theorem dL_law_400 : decode cL_law 400 = .ok (.iload_n 3, 1) := by decide +kernel
theorem dL_law_401 : decode cL_law 401 = .ok (.iconst 1, 1) := by decide +kernel
theorem dL_law_402 : decode cL_law 402 = .ok (.iadd, 1) := by decide +kernel
theorem dL_law_403 : decode cL_law 403 = .ok (.iaload, 1) := by decide +kernel
theorem dL_law_404 : decode cL_law 404 = .ok (.invokevirtual 50, 3) := by decide +kernel
theorem dL_law_407 : decode cL_law 407 = .ok (.aload_n 2, 1) := by decide +kernel
theorem dL_law_408 : decode cL_law 408 = .ok (.aload_n 0, 1) := by decide +kernel
theorem dL_law_409 : decode cL_law 409 = .ok (.iload_n 3, 1) := by decide +kernel
theorem dL_law_410 : decode cL_law 410 = .ok (.iconst 1, 1) := by decide +kernel
theorem dL_law_411 : decode cL_law 411 = .ok (.iadd, 1) := by decide +kernel
theorem dL_law_412 : decode cL_law 412 = .ok (.iaload, 1) := by decide +kernel
theorem dL_law_413 : decode cL_law 413 = .ok (.invokevirtual 53, 3) := by decide +kernel
theorem dL_law_416 : decode cL_law 416 = .ok (.if_icmp .eq 388, 3) := by decide +kernel
theorem dL_law_419 : decode cL_law 419 = .ok (.iconst 0, 1) := by decide +kernel
theorem dL_law_420 : decode cL_law 420 = .ok (.ireturn, 1) := by decide +kernel
theorem dL_law_421 : decode cL_law 421 = .ok (.aload_n 1, 1) := by decide +kernel
theorem dL_law_422 : decode cL_law 422 = .ok (.aload_n 0, 1) := by decide +kernel
theorem dL_law_423 : decode cL_law 423 = .ok (.iload_n 3, 1) := by decide +kernel
theorem dL_law_424 : decode cL_law 424 = .ok (.iconst 1, 1) := by decide +kernel
theorem dL_law_425 : decode cL_law 425 = .ok (.iadd, 1) := by decide +kernel
theorem dL_law_426 : decode cL_law 426 = .ok (.iaload, 1) := by decide +kernel
theorem dL_law_427 : decode cL_law 427 = .ok (.aload_n 0, 1) := by decide +kernel
theorem dL_law_428 : decode cL_law 428 = .ok (.iload_n 3, 1) := by decide +kernel
theorem dL_law_429 : decode cL_law 429 = .ok (.iconst 2, 1) := by decide +kernel
theorem dL_law_430 : decode cL_law 430 = .ok (.iadd, 1) := by decide +kernel
theorem dL_law_431 : decode cL_law 431 = .ok (.iaload, 1) := by decide +kernel
theorem dL_law_432 : decode cL_law 432 = .ok (.aload_n 0, 1) := by decide +kernel
theorem dL_law_433 : decode cL_law 433 = .ok (.iload_n 3, 1) := by decide +kernel
theorem dL_law_434 : decode cL_law 434 = .ok (.iconst 3, 1) := by decide +kernel
theorem dL_law_435 : decode cL_law 435 = .ok (.iadd, 1) := by decide +kernel
theorem dL_law_436 : decode cL_law 436 = .ok (.iaload, 1) := by decide +kernel
theorem dL_law_437 : decode cL_law 437 = .ok (.aload_n 0, 1) := by decide +kernel
theorem dL_law_438 : decode cL_law 438 = .ok (.iload_n 3, 1) := by decide +kernel
theorem dL_law_439 : decode cL_law 439 = .ok (.iconst 4, 1) := by decide +kernel
theorem dL_law_440 : decode cL_law 440 = .ok (.iadd, 1) := by decide +kernel
theorem dL_law_441 : decode cL_law 441 = .ok (.iaload, 1) := by decide +kernel
theorem dL_law_442 : decode cL_law 442 = .ok (.invokevirtual 54, 3) := by decide +kernel
theorem dL_law_445 : decode cL_law 445 = .ok (.aload_n 2, 1) := by decide +kernel
theorem dL_law_446 : decode cL_law 446 = .ok (.aload_n 0, 1) := by decide +kernel
theorem dL_law_447 : decode cL_law 447 = .ok (.iload_n 3, 1) := by decide +kernel
theorem dL_law_448 : decode cL_law 448 = .ok (.iconst 1, 1) := by decide +kernel
theorem dL_law_449 : decode cL_law 449 = .ok (.iadd, 1) := by decide +kernel
theorem dL_law_450 : decode cL_law 450 = .ok (.iaload, 1) := by decide +kernel
theorem dL_law_451 : decode cL_law 451 = .ok (.aload_n 0, 1) := by decide +kernel
theorem dL_law_452 : decode cL_law 452 = .ok (.iload_n 3, 1) := by decide +kernel
theorem dL_law_453 : decode cL_law 453 = .ok (.iconst 2, 1) := by decide +kernel
theorem dL_law_454 : decode cL_law 454 = .ok (.iadd, 1) := by decide +kernel
theorem dL_law_455 : decode cL_law 455 = .ok (.iaload, 1) := by decide +kernel
theorem dL_law_456 : decode cL_law 456 = .ok (.aload_n 0, 1) := by decide +kernel
theorem dL_law_457 : decode cL_law 457 = .ok (.iload_n 3, 1) := by decide +kernel
theorem dL_law_458 : decode cL_law 458 = .ok (.iconst 3, 1) := by decide +kernel
theorem dL_law_459 : decode cL_law 459 = .ok (.iadd, 1) := by decide +kernel
theorem dL_law_460 : decode cL_law 460 = .ok (.iaload, 1) := by decide +kernel
theorem dL_law_461 : decode cL_law 461 = .ok (.aload_n 0, 1) := by decide +kernel
theorem dL_law_462 : decode cL_law 462 = .ok (.iload_n 3, 1) := by decide +kernel
theorem dL_law_463 : decode cL_law 463 = .ok (.iconst 4, 1) := by decide +kernel
theorem dL_law_464 : decode cL_law 464 = .ok (.iadd, 1) := by decide +kernel
theorem dL_law_465 : decode cL_law 465 = .ok (.iaload, 1) := by decide +kernel
theorem dL_law_466 : decode cL_law 466 = .ok (.invokevirtual 57, 3) := by decide +kernel
theorem dL_law_469 : decode cL_law 469 = .ok (.if_icmp .eq 335, 3) := by decide +kernel
theorem dL_law_472 : decode cL_law 472 = .ok (.iconst 0, 1) := by decide +kernel
theorem dL_law_473 : decode cL_law 473 = .ok (.ireturn, 1) := by decide +kernel
theorem dL_law_474 : decode cL_law 474 = .ok (.aload_n 1, 1) := by decide +kernel
theorem dL_law_475 : decode cL_law 475 = .ok (.aload_n 0, 1) := by decide +kernel
theorem dL_law_476 : decode cL_law 476 = .ok (.iload_n 3, 1) := by decide +kernel
theorem dL_law_477 : decode cL_law 477 = .ok (.iconst 1, 1) := by decide +kernel
theorem dL_law_478 : decode cL_law 478 = .ok (.iadd, 1) := by decide +kernel
theorem dL_law_479 : decode cL_law 479 = .ok (.iaload, 1) := by decide +kernel
theorem dL_law_480 : decode cL_law 480 = .ok (.aload_n 0, 1) := by decide +kernel
theorem dL_law_481 : decode cL_law 481 = .ok (.iload_n 3, 1) := by decide +kernel
theorem dL_law_482 : decode cL_law 482 = .ok (.iconst 2, 1) := by decide +kernel
theorem dL_law_483 : decode cL_law 483 = .ok (.iadd, 1) := by decide +kernel
theorem dL_law_484 : decode cL_law 484 = .ok (.iaload, 1) := by decide +kernel
theorem dL_law_485 : decode cL_law 485 = .ok (.invokevirtual 58, 3) := by decide +kernel
theorem dL_law_488 : decode cL_law 488 = .ok (.aload_n 2, 1) := by decide +kernel
theorem dL_law_489 : decode cL_law 489 = .ok (.aload_n 0, 1) := by decide +kernel
theorem dL_law_490 : decode cL_law 490 = .ok (.iload_n 3, 1) := by decide +kernel
theorem dL_law_491 : decode cL_law 491 = .ok (.iconst 1, 1) := by decide +kernel
theorem dL_law_492 : decode cL_law 492 = .ok (.iadd, 1) := by decide +kernel
theorem dL_law_493 : decode cL_law 493 = .ok (.iaload, 1) := by decide +kernel
theorem dL_law_494 : decode cL_law 494 = .ok (.aload_n 0, 1) := by decide +kernel
theorem dL_law_495 : decode cL_law 495 = .ok (.iload_n 3, 1) := by decide +kernel
theorem dL_law_496 : decode cL_law 496 = .ok (.iconst 2, 1) := by decide +kernel
theorem dL_law_497 : decode cL_law 497 = .ok (.iadd, 1) := by decide +kernel
theorem dL_law_498 : decode cL_law 498 = .ok (.iaload, 1) := by decide +kernel
theorem dL_law_499 : decode cL_law 499 = .ok (.invokevirtual 61, 3) := by decide +kernel
theorem dL_law_502 : decode cL_law 502 = .ok (.if_icmp .eq 302, 3) := by decide +kernel
theorem dL_law_505 : decode cL_law 505 = .ok (.iconst 0, 1) := by decide +kernel
theorem dL_law_506 : decode cL_law 506 = .ok (.ireturn, 1) := by decide +kernel
theorem dL_law_507 : decode cL_law 507 = .ok (.aload_n 1, 1) := by decide +kernel
theorem dL_law_508 : decode cL_law 508 = .ok (.aload_n 0, 1) := by decide +kernel
theorem dL_law_509 : decode cL_law 509 = .ok (.iload_n 3, 1) := by decide +kernel
theorem dL_law_510 : decode cL_law 510 = .ok (.iconst 1, 1) := by decide +kernel
theorem dL_law_511 : decode cL_law 511 = .ok (.iadd, 1) := by decide +kernel
theorem dL_law_512 : decode cL_law 512 = .ok (.iaload, 1) := by decide +kernel
theorem dL_law_513 : decode cL_law 513 = .ok (.aload_n 0, 1) := by decide +kernel
theorem dL_law_514 : decode cL_law 514 = .ok (.iload_n 3, 1) := by decide +kernel
theorem dL_law_515 : decode cL_law 515 = .ok (.iconst 2, 1) := by decide +kernel
theorem dL_law_516 : decode cL_law 516 = .ok (.iadd, 1) := by decide +kernel
theorem dL_law_517 : decode cL_law 517 = .ok (.iaload, 1) := by decide +kernel
theorem dL_law_518 : decode cL_law 518 = .ok (.invokevirtual 62, 3) := by decide +kernel
theorem dL_law_521 : decode cL_law 521 = .ok (.aload_n 2, 1) := by decide +kernel
theorem dL_law_522 : decode cL_law 522 = .ok (.aload_n 0, 1) := by decide +kernel
theorem dL_law_523 : decode cL_law 523 = .ok (.iload_n 3, 1) := by decide +kernel
theorem dL_law_524 : decode cL_law 524 = .ok (.iconst 1, 1) := by decide +kernel
theorem dL_law_525 : decode cL_law 525 = .ok (.iadd, 1) := by decide +kernel
theorem dL_law_526 : decode cL_law 526 = .ok (.iaload, 1) := by decide +kernel
theorem dL_law_527 : decode cL_law 527 = .ok (.aload_n 0, 1) := by decide +kernel
theorem dL_law_528 : decode cL_law 528 = .ok (.iload_n 3, 1) := by decide +kernel
theorem dL_law_529 : decode cL_law 529 = .ok (.iconst 2, 1) := by decide +kernel
theorem dL_law_530 : decode cL_law 530 = .ok (.iadd, 1) := by decide +kernel
theorem dL_law_531 : decode cL_law 531 = .ok (.iaload, 1) := by decide +kernel
theorem dL_law_532 : decode cL_law 532 = .ok (.invokevirtual 66, 3) := by decide +kernel
theorem dL_law_535 : decode cL_law 535 = .ok (.lcmp, 1) := by decide +kernel
theorem dL_law_536 : decode cL_law 536 = .ok (.ifCond .eq 268, 3) := by decide +kernel
theorem dL_law_539 : decode cL_law 539 = .ok (.iconst 0, 1) := by decide +kernel
theorem dL_law_540 : decode cL_law 540 = .ok (.ireturn, 1) := by decide +kernel
theorem dL_law_541 : decode cL_law 541 = .ok (.aload_n 1, 1) := by decide +kernel
theorem dL_law_542 : decode cL_law 542 = .ok (.aload_n 0, 1) := by decide +kernel
theorem dL_law_543 : decode cL_law 543 = .ok (.iload_n 3, 1) := by decide +kernel
theorem dL_law_544 : decode cL_law 544 = .ok (.iconst 1, 1) := by decide +kernel
theorem dL_law_545 : decode cL_law 545 = .ok (.iadd, 1) := by decide +kernel
theorem dL_law_546 : decode cL_law 546 = .ok (.iaload, 1) := by decide +kernel
theorem dL_law_547 : decode cL_law 547 = .ok (.aload_n 0, 1) := by decide +kernel
theorem dL_law_548 : decode cL_law 548 = .ok (.iload_n 3, 1) := by decide +kernel
theorem dL_law_549 : decode cL_law 549 = .ok (.iconst 2, 1) := by decide +kernel
theorem dL_law_550 : decode cL_law 550 = .ok (.iadd, 1) := by decide +kernel
theorem dL_law_551 : decode cL_law 551 = .ok (.iaload, 1) := by decide +kernel
theorem dL_law_552 : decode cL_law 552 = .ok (.invokevirtual 67, 3) := by decide +kernel
theorem dL_law_555 : decode cL_law 555 = .ok (.aload_n 2, 1) := by decide +kernel
theorem dL_law_556 : decode cL_law 556 = .ok (.aload_n 0, 1) := by decide +kernel
theorem dL_law_557 : decode cL_law 557 = .ok (.iload_n 3, 1) := by decide +kernel
theorem dL_law_558 : decode cL_law 558 = .ok (.iconst 1, 1) := by decide +kernel
theorem dL_law_559 : decode cL_law 559 = .ok (.iadd, 1) := by decide +kernel
theorem dL_law_560 : decode cL_law 560 = .ok (.iaload, 1) := by decide +kernel
theorem dL_law_561 : decode cL_law 561 = .ok (.aload_n 0, 1) := by decide +kernel
theorem dL_law_562 : decode cL_law 562 = .ok (.iload_n 3, 1) := by decide +kernel
theorem dL_law_563 : decode cL_law 563 = .ok (.iconst 2, 1) := by decide +kernel
theorem dL_law_564 : decode cL_law 564 = .ok (.iadd, 1) := by decide +kernel
theorem dL_law_565 : decode cL_law 565 = .ok (.iaload, 1) := by decide +kernel
theorem dL_law_566 : decode cL_law 566 = .ok (.invokevirtual 70, 3) := by decide +kernel
theorem dL_law_569 : decode cL_law 569 = .ok (.if_icmp .eq 235, 3) := by decide +kernel
theorem dL_law_572 : decode cL_law 572 = .ok (.iconst 0, 1) := by decide +kernel
theorem dL_law_573 : decode cL_law 573 = .ok (.ireturn, 1) := by decide +kernel
theorem dL_law_574 : decode cL_law 574 = .ok (.aload_n 1, 1) := by decide +kernel
theorem dL_law_575 : decode cL_law 575 = .ok (.aload_n 0, 1) := by decide +kernel
theorem dL_law_576 : decode cL_law 576 = .ok (.iload_n 3, 1) := by decide +kernel
theorem dL_law_577 : decode cL_law 577 = .ok (.iconst 1, 1) := by decide +kernel
theorem dL_law_578 : decode cL_law 578 = .ok (.iadd, 1) := by decide +kernel
theorem dL_law_579 : decode cL_law 579 = .ok (.iaload, 1) := by decide +kernel
theorem dL_law_580 : decode cL_law 580 = .ok (.aload_n 0, 1) := by decide +kernel
theorem dL_law_581 : decode cL_law 581 = .ok (.iload_n 3, 1) := by decide +kernel
theorem dL_law_582 : decode cL_law 582 = .ok (.iconst 2, 1) := by decide +kernel
theorem dL_law_583 : decode cL_law 583 = .ok (.iadd, 1) := by decide +kernel
theorem dL_law_584 : decode cL_law 584 = .ok (.iaload, 1) := by decide +kernel
theorem dL_law_585 : decode cL_law 585 = .ok (.invokevirtual 71, 3) := by decide +kernel
theorem dL_law_588 : decode cL_law 588 = .ok (.aload_n 2, 1) := by decide +kernel
theorem dL_law_589 : decode cL_law 589 = .ok (.aload_n 0, 1) := by decide +kernel
theorem dL_law_590 : decode cL_law 590 = .ok (.iload_n 3, 1) := by decide +kernel
theorem dL_law_591 : decode cL_law 591 = .ok (.iconst 1, 1) := by decide +kernel
theorem dL_law_592 : decode cL_law 592 = .ok (.iadd, 1) := by decide +kernel
theorem dL_law_593 : decode cL_law 593 = .ok (.iaload, 1) := by decide +kernel
theorem dL_law_594 : decode cL_law 594 = .ok (.aload_n 0, 1) := by decide +kernel
theorem dL_law_595 : decode cL_law 595 = .ok (.iload_n 3, 1) := by decide +kernel
theorem dL_law_596 : decode cL_law 596 = .ok (.iconst 2, 1) := by decide +kernel
theorem dL_law_597 : decode cL_law 597 = .ok (.iadd, 1) := by decide +kernel
theorem dL_law_598 : decode cL_law 598 = .ok (.iaload, 1) := by decide +kernel
theorem dL_law_599 : decode cL_law 599 = .ok (.invokevirtual 74, 3) := by decide +kernel
theorem dL_law_602 : decode cL_law 602 = .ok (.if_icmp .eq 202, 3) := by decide +kernel
theorem dL_law_605 : decode cL_law 605 = .ok (.iconst 0, 1) := by decide +kernel
theorem dL_law_606 : decode cL_law 606 = .ok (.ireturn, 1) := by decide +kernel
theorem dL_law_607 : decode cL_law 607 = .ok (.aload_n 1, 1) := by decide +kernel
theorem dL_law_608 : decode cL_law 608 = .ok (.aload_n 0, 1) := by decide +kernel
theorem dL_law_609 : decode cL_law 609 = .ok (.iload_n 3, 1) := by decide +kernel
theorem dL_law_610 : decode cL_law 610 = .ok (.iconst 1, 1) := by decide +kernel
theorem dL_law_611 : decode cL_law 611 = .ok (.iadd, 1) := by decide +kernel
theorem dL_law_612 : decode cL_law 612 = .ok (.iaload, 1) := by decide +kernel
theorem dL_law_613 : decode cL_law 613 = .ok (.aload_n 0, 1) := by decide +kernel
theorem dL_law_614 : decode cL_law 614 = .ok (.iload_n 3, 1) := by decide +kernel
theorem dL_law_615 : decode cL_law 615 = .ok (.iconst 2, 1) := by decide +kernel
theorem dL_law_616 : decode cL_law 616 = .ok (.iadd, 1) := by decide +kernel
theorem dL_law_617 : decode cL_law 617 = .ok (.iaload, 1) := by decide +kernel
theorem dL_law_618 : decode cL_law 618 = .ok (.invokevirtual 75, 3) := by decide +kernel
theorem dL_law_621 : decode cL_law 621 = .ok (.aload_n 2, 1) := by decide +kernel
theorem dL_law_622 : decode cL_law 622 = .ok (.aload_n 0, 1) := by decide +kernel
theorem dL_law_623 : decode cL_law 623 = .ok (.iload_n 3, 1) := by decide +kernel
theorem dL_law_624 : decode cL_law 624 = .ok (.iconst 1, 1) := by decide +kernel
theorem dL_law_625 : decode cL_law 625 = .ok (.iadd, 1) := by decide +kernel
theorem dL_law_626 : decode cL_law 626 = .ok (.iaload, 1) := by decide +kernel
theorem dL_law_627 : decode cL_law 627 = .ok (.aload_n 0, 1) := by decide +kernel
theorem dL_law_628 : decode cL_law 628 = .ok (.iload_n 3, 1) := by decide +kernel
theorem dL_law_629 : decode cL_law 629 = .ok (.iconst 2, 1) := by decide +kernel
theorem dL_law_630 : decode cL_law 630 = .ok (.iadd, 1) := by decide +kernel
theorem dL_law_631 : decode cL_law 631 = .ok (.iaload, 1) := by decide +kernel
theorem dL_law_632 : decode cL_law 632 = .ok (.invokevirtual 78, 3) := by decide +kernel
theorem dL_law_635 : decode cL_law 635 = .ok (.if_icmp .eq 169, 3) := by decide +kernel
theorem dL_law_638 : decode cL_law 638 = .ok (.iconst 0, 1) := by decide +kernel
theorem dL_law_639 : decode cL_law 639 = .ok (.ireturn, 1) := by decide +kernel
theorem dL_law_640 : decode cL_law 640 = .ok (.aload_n 1, 1) := by decide +kernel
theorem dL_law_641 : decode cL_law 641 = .ok (.aload_n 0, 1) := by decide +kernel
theorem dL_law_642 : decode cL_law 642 = .ok (.iload_n 3, 1) := by decide +kernel
theorem dL_law_643 : decode cL_law 643 = .ok (.iconst 1, 1) := by decide +kernel
theorem dL_law_644 : decode cL_law 644 = .ok (.iadd, 1) := by decide +kernel
theorem dL_law_645 : decode cL_law 645 = .ok (.iaload, 1) := by decide +kernel
theorem dL_law_646 : decode cL_law 646 = .ok (.aload_n 0, 1) := by decide +kernel
theorem dL_law_647 : decode cL_law 647 = .ok (.iload_n 3, 1) := by decide +kernel
theorem dL_law_648 : decode cL_law 648 = .ok (.iconst 2, 1) := by decide +kernel
theorem dL_law_649 : decode cL_law 649 = .ok (.iadd, 1) := by decide +kernel
theorem dL_law_650 : decode cL_law 650 = .ok (.iaload, 1) := by decide +kernel
theorem dL_law_651 : decode cL_law 651 = .ok (.aload_n 0, 1) := by decide +kernel
theorem dL_law_652 : decode cL_law 652 = .ok (.iload_n 3, 1) := by decide +kernel
theorem dL_law_653 : decode cL_law 653 = .ok (.iconst 3, 1) := by decide +kernel
theorem dL_law_654 : decode cL_law 654 = .ok (.iadd, 1) := by decide +kernel
theorem dL_law_655 : decode cL_law 655 = .ok (.iaload, 1) := by decide +kernel
theorem dL_law_656 : decode cL_law 656 = .ok (.aload_n 0, 1) := by decide +kernel
theorem dL_law_657 : decode cL_law 657 = .ok (.iload_n 3, 1) := by decide +kernel
theorem dL_law_658 : decode cL_law 658 = .ok (.iconst 4, 1) := by decide +kernel
theorem dL_law_659 : decode cL_law 659 = .ok (.iadd, 1) := by decide +kernel
theorem dL_law_660 : decode cL_law 660 = .ok (.iaload, 1) := by decide +kernel
theorem dL_law_661 : decode cL_law 661 = .ok (.invokevirtual 79, 3) := by decide +kernel
theorem dL_law_664 : decode cL_law 664 = .ok (.aload_n 2, 1) := by decide +kernel
theorem dL_law_665 : decode cL_law 665 = .ok (.aload_n 0, 1) := by decide +kernel
theorem dL_law_666 : decode cL_law 666 = .ok (.iload_n 3, 1) := by decide +kernel
theorem dL_law_667 : decode cL_law 667 = .ok (.iconst 1, 1) := by decide +kernel
theorem dL_law_668 : decode cL_law 668 = .ok (.iadd, 1) := by decide +kernel
theorem dL_law_669 : decode cL_law 669 = .ok (.iaload, 1) := by decide +kernel
theorem dL_law_670 : decode cL_law 670 = .ok (.aload_n 0, 1) := by decide +kernel
theorem dL_law_671 : decode cL_law 671 = .ok (.iload_n 3, 1) := by decide +kernel
theorem dL_law_672 : decode cL_law 672 = .ok (.iconst 2, 1) := by decide +kernel
theorem dL_law_673 : decode cL_law 673 = .ok (.iadd, 1) := by decide +kernel
theorem dL_law_674 : decode cL_law 674 = .ok (.iaload, 1) := by decide +kernel
theorem dL_law_675 : decode cL_law 675 = .ok (.aload_n 0, 1) := by decide +kernel
theorem dL_law_676 : decode cL_law 676 = .ok (.iload_n 3, 1) := by decide +kernel
theorem dL_law_677 : decode cL_law 677 = .ok (.iconst 3, 1) := by decide +kernel
theorem dL_law_678 : decode cL_law 678 = .ok (.iadd, 1) := by decide +kernel
theorem dL_law_679 : decode cL_law 679 = .ok (.iaload, 1) := by decide +kernel
theorem dL_law_680 : decode cL_law 680 = .ok (.aload_n 0, 1) := by decide +kernel
theorem dL_law_681 : decode cL_law 681 = .ok (.iload_n 3, 1) := by decide +kernel
theorem dL_law_682 : decode cL_law 682 = .ok (.iconst 4, 1) := by decide +kernel
theorem dL_law_683 : decode cL_law 683 = .ok (.iadd, 1) := by decide +kernel
theorem dL_law_684 : decode cL_law 684 = .ok (.iaload, 1) := by decide +kernel
theorem dL_law_685 : decode cL_law 685 = .ok (.invokevirtual 82, 3) := by decide +kernel
theorem dL_law_688 : decode cL_law 688 = .ok (.if_icmp .eq 116, 3) := by decide +kernel
theorem dL_law_691 : decode cL_law 691 = .ok (.iconst 0, 1) := by decide +kernel
theorem dL_law_692 : decode cL_law 692 = .ok (.ireturn, 1) := by decide +kernel
theorem dL_law_693 : decode cL_law 693 = .ok (.aload_n 1, 1) := by decide +kernel
theorem dL_law_694 : decode cL_law 694 = .ok (.aload_n 0, 1) := by decide +kernel
theorem dL_law_695 : decode cL_law 695 = .ok (.iload_n 3, 1) := by decide +kernel
theorem dL_law_696 : decode cL_law 696 = .ok (.iconst 1, 1) := by decide +kernel
theorem dL_law_697 : decode cL_law 697 = .ok (.iadd, 1) := by decide +kernel
theorem dL_law_698 : decode cL_law 698 = .ok (.iaload, 1) := by decide +kernel
theorem dL_law_699 : decode cL_law 699 = .ok (.aload_n 0, 1) := by decide +kernel
theorem dL_law_700 : decode cL_law 700 = .ok (.iload_n 3, 1) := by decide +kernel
theorem dL_law_701 : decode cL_law 701 = .ok (.iconst 2, 1) := by decide +kernel
theorem dL_law_702 : decode cL_law 702 = .ok (.iadd, 1) := by decide +kernel
theorem dL_law_703 : decode cL_law 703 = .ok (.iaload, 1) := by decide +kernel
theorem dL_law_704 : decode cL_law 704 = .ok (.invokevirtual 83, 3) := by decide +kernel
theorem dL_law_707 : decode cL_law 707 = .ok (.aload_n 2, 1) := by decide +kernel
theorem dL_law_708 : decode cL_law 708 = .ok (.aload_n 0, 1) := by decide +kernel
theorem dL_law_709 : decode cL_law 709 = .ok (.iload_n 3, 1) := by decide +kernel
theorem dL_law_710 : decode cL_law 710 = .ok (.iconst 1, 1) := by decide +kernel
theorem dL_law_711 : decode cL_law 711 = .ok (.iadd, 1) := by decide +kernel
theorem dL_law_712 : decode cL_law 712 = .ok (.iaload, 1) := by decide +kernel
theorem dL_law_713 : decode cL_law 713 = .ok (.aload_n 0, 1) := by decide +kernel
theorem dL_law_714 : decode cL_law 714 = .ok (.iload_n 3, 1) := by decide +kernel
theorem dL_law_715 : decode cL_law 715 = .ok (.iconst 2, 1) := by decide +kernel
theorem dL_law_716 : decode cL_law 716 = .ok (.iadd, 1) := by decide +kernel
theorem dL_law_717 : decode cL_law 717 = .ok (.iaload, 1) := by decide +kernel
theorem dL_law_718 : decode cL_law 718 = .ok (.invokevirtual 86, 3) := by decide +kernel
theorem dL_law_721 : decode cL_law 721 = .ok (.lcmp, 1) := by decide +kernel
theorem dL_law_722 : decode cL_law 722 = .ok (.ifCond .eq 82, 3) := by decide +kernel
theorem dL_law_725 : decode cL_law 725 = .ok (.iconst 0, 1) := by decide +kernel
theorem dL_law_726 : decode cL_law 726 = .ok (.ireturn, 1) := by decide +kernel
theorem dL_law_727 : decode cL_law 727 = .ok (.aload_n 1, 1) := by decide +kernel
theorem dL_law_728 : decode cL_law 728 = .ok (.aload_n 0, 1) := by decide +kernel
theorem dL_law_729 : decode cL_law 729 = .ok (.iload_n 3, 1) := by decide +kernel
theorem dL_law_730 : decode cL_law 730 = .ok (.iconst 1, 1) := by decide +kernel
theorem dL_law_731 : decode cL_law 731 = .ok (.iadd, 1) := by decide +kernel
theorem dL_law_732 : decode cL_law 732 = .ok (.iaload, 1) := by decide +kernel
theorem dL_law_733 : decode cL_law 733 = .ok (.aload_n 0, 1) := by decide +kernel
theorem dL_law_734 : decode cL_law 734 = .ok (.iload_n 3, 1) := by decide +kernel
theorem dL_law_735 : decode cL_law 735 = .ok (.iconst 2, 1) := by decide +kernel
theorem dL_law_736 : decode cL_law 736 = .ok (.iadd, 1) := by decide +kernel
theorem dL_law_737 : decode cL_law 737 = .ok (.iaload, 1) := by decide +kernel
theorem dL_law_738 : decode cL_law 738 = .ok (.aload_n 0, 1) := by decide +kernel
theorem dL_law_739 : decode cL_law 739 = .ok (.iload_n 3, 1) := by decide +kernel
theorem dL_law_740 : decode cL_law 740 = .ok (.iconst 3, 1) := by decide +kernel
theorem dL_law_741 : decode cL_law 741 = .ok (.iadd, 1) := by decide +kernel
theorem dL_law_742 : decode cL_law 742 = .ok (.iaload, 1) := by decide +kernel
theorem dL_law_743 : decode cL_law 743 = .ok (.aload_n 0, 1) := by decide +kernel
theorem dL_law_744 : decode cL_law 744 = .ok (.iload_n 3, 1) := by decide +kernel
theorem dL_law_745 : decode cL_law 745 = .ok (.iconst 4, 1) := by decide +kernel
theorem dL_law_746 : decode cL_law 746 = .ok (.iadd, 1) := by decide +kernel
theorem dL_law_747 : decode cL_law 747 = .ok (.iaload, 1) := by decide +kernel
theorem dL_law_748 : decode cL_law 748 = .ok (.invokevirtual 87, 3) := by decide +kernel
theorem dL_law_751 : decode cL_law 751 = .ok (.aload_n 2, 1) := by decide +kernel
theorem dL_law_752 : decode cL_law 752 = .ok (.aload_n 0, 1) := by decide +kernel
theorem dL_law_753 : decode cL_law 753 = .ok (.iload_n 3, 1) := by decide +kernel
theorem dL_law_754 : decode cL_law 754 = .ok (.iconst 1, 1) := by decide +kernel
theorem dL_law_755 : decode cL_law 755 = .ok (.iadd, 1) := by decide +kernel
theorem dL_law_756 : decode cL_law 756 = .ok (.iaload, 1) := by decide +kernel
theorem dL_law_757 : decode cL_law 757 = .ok (.aload_n 0, 1) := by decide +kernel
theorem dL_law_758 : decode cL_law 758 = .ok (.iload_n 3, 1) := by decide +kernel
theorem dL_law_759 : decode cL_law 759 = .ok (.iconst 2, 1) := by decide +kernel
theorem dL_law_760 : decode cL_law 760 = .ok (.iadd, 1) := by decide +kernel
theorem dL_law_761 : decode cL_law 761 = .ok (.iaload, 1) := by decide +kernel
theorem dL_law_762 : decode cL_law 762 = .ok (.aload_n 0, 1) := by decide +kernel
theorem dL_law_763 : decode cL_law 763 = .ok (.iload_n 3, 1) := by decide +kernel
theorem dL_law_764 : decode cL_law 764 = .ok (.iconst 3, 1) := by decide +kernel
theorem dL_law_765 : decode cL_law 765 = .ok (.iadd, 1) := by decide +kernel
theorem dL_law_766 : decode cL_law 766 = .ok (.iaload, 1) := by decide +kernel
theorem dL_law_767 : decode cL_law 767 = .ok (.aload_n 0, 1) := by decide +kernel
theorem dL_law_768 : decode cL_law 768 = .ok (.iload_n 3, 1) := by decide +kernel
theorem dL_law_769 : decode cL_law 769 = .ok (.iconst 4, 1) := by decide +kernel
theorem dL_law_770 : decode cL_law 770 = .ok (.iadd, 1) := by decide +kernel
theorem dL_law_771 : decode cL_law 771 = .ok (.iaload, 1) := by decide +kernel
theorem dL_law_772 : decode cL_law 772 = .ok (.invokevirtual 91, 3) := by decide +kernel
theorem dL_law_775 : decode cL_law 775 = .ok (.lcmp, 1) := by decide +kernel
theorem dL_law_776 : decode cL_law 776 = .ok (.ifCond .eq 28, 3) := by decide +kernel
theorem dL_law_779 : decode cL_law 779 = .ok (.iconst 0, 1) := by decide +kernel
theorem dL_law_780 : decode cL_law 780 = .ok (.ireturn, 1) := by decide +kernel
theorem dL_law_781 : decode cL_law 781 = .ok (.aload_n 1, 1) := by decide +kernel
theorem dL_law_782 : decode cL_law 782 = .ok (.aload_n 0, 1) := by decide +kernel
theorem dL_law_783 : decode cL_law 783 = .ok (.iload_n 3, 1) := by decide +kernel
theorem dL_law_784 : decode cL_law 784 = .ok (.iconst 1, 1) := by decide +kernel
theorem dL_law_785 : decode cL_law 785 = .ok (.iadd, 1) := by decide +kernel
theorem dL_law_786 : decode cL_law 786 = .ok (.iaload, 1) := by decide +kernel
theorem dL_law_787 : decode cL_law 787 = .ok (.invokevirtual 92, 3) := by decide +kernel
theorem dL_law_790 : decode cL_law 790 = .ok (.aload_n 2, 1) := by decide +kernel
theorem dL_law_791 : decode cL_law 791 = .ok (.aload_n 0, 1) := by decide +kernel
theorem dL_law_792 : decode cL_law 792 = .ok (.iload_n 3, 1) := by decide +kernel
theorem dL_law_793 : decode cL_law 793 = .ok (.iconst 1, 1) := by decide +kernel
theorem dL_law_794 : decode cL_law 794 = .ok (.iadd, 1) := by decide +kernel
theorem dL_law_795 : decode cL_law 795 = .ok (.iaload, 1) := by decide +kernel
theorem dL_law_796 : decode cL_law 796 = .ok (.invokevirtual 95, 3) := by decide +kernel
theorem dL_law_799 : decode cL_law 799 = .ok (.if_icmp .eq 5, 3) := by decide +kernel
theorem dL_law_802 : decode cL_law 802 = .ok (.iconst 0, 1) := by decide +kernel
theorem dL_law_803 : decode cL_law 803 = .ok (.ireturn, 1) := by decide +kernel
theorem dL_law_804 : decode cL_law 804 = .ok (.iinc 3 5, 3) := by decide +kernel
theorem dL_law_807 : decode cL_law 807 = .ok (.goto (-789), 3) := by decide +kernel
theorem dL_law_810 : decode cL_law 810 = .ok (.iconst 1, 1) := by decide +kernel
theorem dL_law_811 : decode cL_law 811 = .ok (.ireturn, 1) := by decide +kernel
