theorem dM_init_0 : decode bM_init 0 = .ok (.aload_n 0, 1) := by decide +kernel
theorem dM_init_1 : decode bM_init 1 = .ok (.invokespecial 1, 3) := by decide +kernel
theorem dM_init_4 : decode bM_init 4 = .ok (.aload_n 0, 1) := by decide +kernel
theorem dM_init_5 : decode bM_init 5 = .ok (.bipush 12, 2) := by decide +kernel
theorem dM_init_7 : decode bM_init 7 = .ok (.newarray .long, 2) := by decide +kernel
theorem dM_init_9 : decode bM_init 9 = .ok (.putfield 7, 3) := by decide +kernel
theorem dM_init_12 : decode bM_init 12 = .ok (.aload_n 0, 1) := by decide +kernel
theorem dM_init_13 : decode bM_init 13 = .ok (.bipush 12, 2) := by decide +kernel
theorem dM_init_15 : decode bM_init 15 = .ok (.newarray .int, 2) := by decide +kernel
theorem dM_init_17 : decode bM_init 17 = .ok (.putfield 13, 3) := by decide +kernel
theorem dM_init_20 : decode bM_init 20 = .ok (.aload_n 0, 1) := by decide +kernel
theorem dM_init_21 : decode bM_init 21 = .ok (.bipush 12, 2) := by decide +kernel
theorem dM_init_23 : decode bM_init 23 = .ok (.newarray .int, 2) := by decide +kernel
theorem dM_init_25 : decode bM_init 25 = .ok (.putfield 17, 3) := by decide +kernel
theorem dM_init_28 : decode bM_init 28 = .ok (.aload_n 0, 1) := by decide +kernel
theorem dM_init_29 : decode bM_init 29 = .ok (.bipush 12, 2) := by decide +kernel
theorem dM_init_31 : decode bM_init 31 = .ok (.newarray .long, 2) := by decide +kernel
theorem dM_init_33 : decode bM_init 33 = .ok (.putfield 20, 3) := by decide +kernel
theorem dM_init_36 : decode bM_init 36 = .ok (.aload_n 0, 1) := by decide +kernel
theorem dM_init_37 : decode bM_init 37 = .ok (.sipush 144, 3) := by decide +kernel
theorem dM_init_40 : decode bM_init 40 = .ok (.newarray .long, 2) := by decide +kernel
theorem dM_init_42 : decode bM_init 42 = .ok (.putfield 23, 3) := by decide +kernel
theorem dM_init_45 : decode bM_init 45 = .ok (.aload_n 0, 1) := by decide +kernel
theorem dM_init_46 : decode bM_init 46 = .ok (.bipush 12, 2) := by decide +kernel
theorem dM_init_48 : decode bM_init 48 = .ok (.newarray .int, 2) := by decide +kernel
theorem dM_init_50 : decode bM_init 50 = .ok (.putfield 26, 3) := by decide +kernel
theorem dM_init_53 : decode bM_init 53 = .ok (.aload_n 0, 1) := by decide +kernel
theorem dM_init_54 : decode bM_init 54 = .ok (.lconst 1, 1) := by decide +kernel
theorem dM_init_55 : decode bM_init 55 = .ok (.putfield 29, 3) := by decide +kernel
theorem dM_init_58 : decode bM_init 58 = .ok (.aload_n 0, 1) := by decide +kernel
theorem dM_init_59 : decode bM_init 59 = .ok (.bipush 37, 2) := by decide +kernel
theorem dM_init_61 : decode bM_init 61 = .ok (.newarray .int, 2) := by decide +kernel
theorem dM_init_63 : decode bM_init 63 = .ok (.putfield 33, 3) := by decide +kernel
theorem dM_init_66 : decode bM_init 66 = .ok (.aload_n 0, 1) := by decide +kernel
theorem dM_init_67 : decode bM_init 67 = .ok (.bipush 12, 2) := by decide +kernel
theorem dM_init_69 : decode bM_init 69 = .ok (.newarray .int, 2) := by decide +kernel
theorem dM_init_71 : decode bM_init 71 = .ok (.putfield 36, 3) := by decide +kernel
theorem dM_init_74 : decode bM_init 74 = .ok (.aload_n 0, 1) := by decide +kernel
theorem dM_init_75 : decode bM_init 75 = .ok (.sipush 481, 3) := by decide +kernel
theorem dM_init_78 : decode bM_init 78 = .ok (.newarray .long, 2) := by decide +kernel
theorem dM_init_80 : decode bM_init 80 = .ok (.putfield 39, 3) := by decide +kernel
theorem dM_init_83 : decode bM_init 83 = .ok (.aload_n 0, 1) := by decide +kernel
theorem dM_init_84 : decode bM_init 84 = .ok (.sipush 481, 3) := by decide +kernel
theorem dM_init_87 : decode bM_init 87 = .ok (.newarray .long, 2) := by decide +kernel
theorem dM_init_89 : decode bM_init 89 = .ok (.putfield 42, 3) := by decide +kernel
theorem dM_init_92 : decode bM_init 92 = .ok (.aload_n 0, 1) := by decide +kernel
theorem dM_init_93 : decode bM_init 93 = .ok (.iconst (-1), 1) := by decide +kernel
theorem dM_init_94 : decode bM_init 94 = .ok (.putfield 45, 3) := by decide +kernel
theorem dM_init_97 : decode bM_init 97 = .ok (.aload_n 0, 1) := by decide +kernel
theorem dM_init_98 : decode bM_init 98 = .ok (.iload_n 1, 1) := by decide +kernel
theorem dM_init_99 : decode bM_init 99 = .ok (.iconst 1, 1) := by decide +kernel
theorem dM_init_100 : decode bM_init 100 = .ok (.if_icmp .ge 7, 3) := by decide +kernel
theorem dM_init_103 : decode bM_init 103 = .ok (.iconst 1, 1) := by decide +kernel
theorem dM_init_104 : decode bM_init 104 = .ok (.goto 15, 3) := by decide +kernel
theorem dM_init_107 : decode bM_init 107 = .ok (.iload_n 1, 1) := by decide +kernel
theorem dM_init_108 : decode bM_init 108 = .ok (.bipush 60, 2) := by decide +kernel
theorem dM_init_110 : decode bM_init 110 = .ok (.if_icmp .le 8, 3) := by decide +kernel
theorem dM_init_113 : decode bM_init 113 = .ok (.bipush 60, 2) := by decide +kernel
theorem dM_init_115 : decode bM_init 115 = .ok (.goto 4, 3) := by decide +kernel
theorem dM_init_118 : decode bM_init 118 = .ok (.iload_n 1, 1) := by decide +kernel
theorem dM_init_119 : decode bM_init 119 = .ok (.putfield 49, 3) := by decide +kernel
theorem dM_init_122 : decode bM_init 122 = .ok (.iconst 0, 1) := by decide +kernel
theorem dM_init_123 : decode bM_init 123 = .ok (.istore_n 2, 1) := by decide +kernel
theorem dM_init_124 : decode bM_init 124 = .ok (.iload_n 2, 1) := by decide +kernel
theorem dM_init_125 : decode bM_init 125 = .ok (.bipush 37, 2) := by decide +kernel
theorem dM_init_127 : decode bM_init 127 = .ok (.if_icmp .ge 16, 3) := by decide +kernel
theorem dM_init_130 : decode bM_init 130 = .ok (.aload_n 0, 1) := by decide +kernel
theorem dM_init_131 : decode bM_init 131 = .ok (.getfield 33, 3) := by decide +kernel
theorem dM_init_134 : decode bM_init 134 = .ok (.iload_n 2, 1) := by decide +kernel
theorem dM_init_135 : decode bM_init 135 = .ok (.iconst (-1), 1) := by decide +kernel
theorem dM_init_136 : decode bM_init 136 = .ok (.iastore, 1) := by decide +kernel
theorem dM_init_137 : decode bM_init 137 = .ok (.iinc 2 1, 3) := by decide +kernel
theorem dM_init_140 : decode bM_init 140 = .ok (.goto (-16), 3) := by decide +kernel
theorem dM_init_143 : decode bM_init 143 = .ok (.iconst 0, 1) := by decide +kernel
theorem dM_init_144 : decode bM_init 144 = .ok (.istore_n 2, 1) := by decide +kernel
theorem dM_init_145 : decode bM_init 145 = .ok (.iload_n 2, 1) := by decide +kernel
theorem dM_init_146 : decode bM_init 146 = .ok (.bipush 12, 2) := by decide +kernel
theorem dM_init_148 : decode bM_init 148 = .ok (.if_icmp .ge 16, 3) := by decide +kernel
theorem dM_init_151 : decode bM_init 151 = .ok (.aload_n 0, 1) := by decide +kernel
theorem dM_init_152 : decode bM_init 152 = .ok (.getfield 26, 3) := by decide +kernel
theorem dM_init_155 : decode bM_init 155 = .ok (.iload_n 2, 1) := by decide +kernel
theorem dM_init_156 : decode bM_init 156 = .ok (.iconst (-1), 1) := by decide +kernel
theorem dM_init_157 : decode bM_init 157 = .ok (.iastore, 1) := by decide +kernel
theorem dM_init_158 : decode bM_init 158 = .ok (.iinc 2 1, 3) := by decide +kernel
theorem dM_init_161 : decode bM_init 161 = .ok (.goto (-16), 3) := by decide +kernel
theorem dM_init_164 : decode bM_init 164 = .ok (.return_, 1) := by decide +kernel
theorem dM_thrown_0 : decode bM_thrown 0 = .ok (.aload_n 0, 1) := by decide +kernel
theorem dM_thrown_1 : decode bM_thrown 1 = .ok (.getfield 52, 3) := by decide +kernel
theorem dM_thrown_4 : decode bM_thrown 4 = .ok (.ireturn, 1) := by decide +kernel
theorem dM_isIn_0 : decode bM_isIn 0 = .ok (.lload_n 0, 1) := by decide +kernel
theorem dM_isIn_1 : decode bM_isIn 1 = .ok (.lload_n 2, 1) := by decide +kernel
theorem dM_isIn_2 : decode bM_isIn 2 = .ok (.lcmp, 1) := by decide +kernel
theorem dM_isIn_3 : decode bM_isIn 3 = .ok (.ifCond .lt 14, 3) := by decide +kernel
theorem dM_isIn_6 : decode bM_isIn 6 = .ok (.lload_n 0, 1) := by decide +kernel
theorem dM_isIn_7 : decode bM_isIn 7 = .ok (.lload 4, 2) := by decide +kernel
theorem dM_isIn_9 : decode bM_isIn 9 = .ok (.lcmp, 1) := by decide +kernel
theorem dM_isIn_10 : decode bM_isIn 10 = .ok (.ifCond .gt 7, 3) := by decide +kernel
theorem dM_isIn_13 : decode bM_isIn 13 = .ok (.iconst 1, 1) := by decide +kernel
theorem dM_isIn_14 : decode bM_isIn 14 = .ok (.goto 4, 3) := by decide +kernel
theorem dM_isIn_17 : decode bM_isIn 17 = .ok (.iconst 0, 1) := by decide +kernel
theorem dM_isIn_18 : decode bM_isIn 18 = .ok (.ireturn, 1) := by decide +kernel
theorem dM_isGreat_0 : decode bM_isGreat 0 = .ok (.lload_n 0, 1) := by decide +kernel
theorem dM_isGreat_1 : decode bM_isGreat 1 = .ok (.ldc2_w 55, 3) := by decide +kernel
theorem dM_isGreat_4 : decode bM_isGreat 4 = .ok (.lcmp, 1) := by decide +kernel
theorem dM_isGreat_5 : decode bM_isGreat 5 = .ok (.ifCond .gt 11, 3) := by decide +kernel
theorem dM_isGreat_8 : decode bM_isGreat 8 = .ok (.lload_n 0, 1) := by decide +kernel
theorem dM_isGreat_9 : decode bM_isGreat 9 = .ok (.ldc2_w 57, 3) := by decide +kernel
theorem dM_isGreat_12 : decode bM_isGreat 12 = .ok (.lcmp, 1) := by decide +kernel
theorem dM_isGreat_13 : decode bM_isGreat 13 = .ok (.ifCond .ge 7, 3) := by decide +kernel
theorem dM_isGreat_16 : decode bM_isGreat 16 = .ok (.iconst 1, 1) := by decide +kernel
theorem dM_isGreat_17 : decode bM_isGreat 17 = .ok (.goto 4, 3) := by decide +kernel
theorem dM_isGreat_20 : decode bM_isGreat 20 = .ok (.iconst 0, 1) := by decide +kernel
theorem dM_isGreat_21 : decode bM_isGreat 21 = .ok (.ireturn, 1) := by decide +kernel
theorem dM_column_0 : decode bM_column 0 = .ok (.aload_n 0, 1) := by decide +kernel
theorem dM_column_1 : decode bM_column 1 = .ok (.aload_n 0, 1) := by decide +kernel
theorem dM_column_2 : decode bM_column 2 = .ok (.getfield 59, 3) := by decide +kernel
theorem dM_column_5 : decode bM_column 5 = .ok (.bipush 12, 2) := by decide +kernel
theorem dM_column_7 : decode bM_column 7 = .ok (.if_icmp .eq 10, 3) := by decide +kernel
theorem dM_column_10 : decode bM_column 10 = .ok (.aload_n 0, 1) := by decide +kernel
theorem dM_column_11 : decode bM_column 11 = .ok (.getfield 62, 3) := by decide +kernel
theorem dM_column_14 : decode bM_column 14 = .ok (.ifCond .eq 7, 3) := by decide +kernel
theorem dM_column_17 : decode bM_column 17 = .ok (.iconst 1, 1) := by decide +kernel
theorem dM_column_18 : decode bM_column 18 = .ok (.goto 19, 3) := by decide +kernel
theorem dM_column_21 : decode bM_column 21 = .ok (.lload_n 1, 1) := by decide +kernel
theorem dM_column_22 : decode bM_column 22 = .ok (.lconst 0, 1) := by decide +kernel
theorem dM_column_23 : decode bM_column 23 = .ok (.ldc2_w 66, 3) := by decide +kernel
theorem dM_column_26 : decode bM_column 26 = .ok (.invokestatic 68, 3) := by decide +kernel
theorem dM_column_29 : decode bM_column 29 = .ok (.ifCond .ne 7, 3) := by decide +kernel
theorem dM_column_32 : decode bM_column 32 = .ok (.iconst 2, 1) := by decide +kernel
theorem dM_column_33 : decode bM_column 33 = .ok (.goto 4, 3) := by decide +kernel
theorem dM_column_36 : decode bM_column 36 = .ok (.iconst 0, 1) := by decide +kernel
theorem dM_column_37 : decode bM_column 37 = .ok (.putfield 52, 3) := by decide +kernel
theorem dM_column_40 : decode bM_column 40 = .ok (.aload_n 0, 1) := by decide +kernel
theorem dM_column_41 : decode bM_column 41 = .ok (.getfield 52, 3) := by decide +kernel
theorem dM_column_44 : decode bM_column 44 = .ok (.ifCond .le 5, 3) := by decide +kernel
theorem dM_column_47 : decode bM_column 47 = .ok (.iconst 0, 1) := by decide +kernel
theorem dM_column_48 : decode bM_column 48 = .ok (.ireturn, 1) := by decide +kernel
theorem dM_column_49 : decode bM_column 49 = .ok (.aload_n 0, 1) := by decide +kernel
theorem dM_column_50 : decode bM_column 50 = .ok (.getfield 7, 3) := by decide +kernel
theorem dM_column_53 : decode bM_column 53 = .ok (.aload_n 0, 1) := by decide +kernel
theorem dM_column_54 : decode bM_column 54 = .ok (.getfield 59, 3) := by decide +kernel
theorem dM_column_57 : decode bM_column 57 = .ok (.lload_n 1, 1) := by decide +kernel
theorem dM_column_58 : decode bM_column 58 = .ok (.lastore, 1) := by decide +kernel
theorem dM_column_59 : decode bM_column 59 = .ok (.aload_n 0, 1) := by decide +kernel
theorem dM_column_60 : decode bM_column 60 = .ok (.getfield 33, 3) := by decide +kernel
theorem dM_column_63 : decode bM_column 63 = .ok (.aload_n 0, 1) := by decide +kernel
theorem dM_column_64 : decode bM_column 64 = .ok (.getfield 59, 3) := by decide +kernel
theorem dM_column_67 : decode bM_column 67 = .ok (.aload_n 0, 1) := by decide +kernel
theorem dM_column_68 : decode bM_column 68 = .ok (.getfield 59, 3) := by decide +kernel
theorem dM_column_71 : decode bM_column 71 = .ok (.iastore, 1) := by decide +kernel
theorem dM_column_72 : decode bM_column 72 = .ok (.aload_n 0, 1) := by decide +kernel
theorem dM_column_73 : decode bM_column 73 = .ok (.getfield 36, 3) := by decide +kernel
theorem dM_column_76 : decode bM_column 76 = .ok (.aload_n 0, 1) := by decide +kernel
theorem dM_column_77 : decode bM_column 77 = .ok (.getfield 59, 3) := by decide +kernel
theorem dM_column_80 : decode bM_column 80 = .ok (.aload_n 0, 1) := by decide +kernel
theorem dM_column_81 : decode bM_column 81 = .ok (.getfield 59, 3) := by decide +kernel
theorem dM_column_84 : decode bM_column 84 = .ok (.iastore, 1) := by decide +kernel
theorem dM_column_85 : decode bM_column 85 = .ok (.aload_n 0, 1) := by decide +kernel
theorem dM_column_86 : decode bM_column 86 = .ok (.getfield 39, 3) := by decide +kernel
theorem dM_column_89 : decode bM_column 89 = .ok (.sipush 468, 3) := by decide +kernel
theorem dM_column_92 : decode bM_column 92 = .ok (.aload_n 0, 1) := by decide +kernel
theorem dM_column_93 : decode bM_column 93 = .ok (.getfield 59, 3) := by decide +kernel
theorem dM_column_96 : decode bM_column 96 = .ok (.iadd, 1) := by decide +kernel
theorem dM_column_97 : decode bM_column 97 = .ok (.lload_n 1, 1) := by decide +kernel
theorem dM_column_98 : decode bM_column 98 = .ok (.lastore, 1) := by decide +kernel
theorem dM_column_99 : decode bM_column 99 = .ok (.aload_n 0, 1) := by decide +kernel
theorem dM_column_100 : decode bM_column 100 = .ok (.dup, 1) := by decide +kernel
theorem dM_column_101 : decode bM_column 101 = .ok (.getfield 59, 3) := by decide +kernel
theorem dM_column_104 : decode bM_column 104 = .ok (.iconst 1, 1) := by decide +kernel
theorem dM_column_105 : decode bM_column 105 = .ok (.iadd, 1) := by decide +kernel
theorem dM_column_106 : decode bM_column 106 = .ok (.putfield 59, 3) := by decide +kernel
theorem dM_column_109 : decode bM_column 109 = .ok (.aload_n 0, 1) := by decide +kernel
theorem dM_column_110 : decode bM_column 110 = .ok (.getfield 59, 3) := by decide +kernel
theorem dM_column_113 : decode bM_column 113 = .ok (.iconst 1, 1) := by decide +kernel
theorem dM_column_114 : decode bM_column 114 = .ok (.isub, 1) := by decide +kernel
theorem dM_column_115 : decode bM_column 115 = .ok (.ireturn, 1) := by decide +kernel
theorem dM_add_0 : decode bM_add 0 = .ok (.aload_n 0, 1) := by decide +kernel
theorem dM_add_1 : decode bM_add 1 = .ok (.getfield 13, 3) := by decide +kernel
theorem dM_add_4 : decode bM_add 4 = .ok (.aload_n 0, 1) := by decide +kernel
theorem dM_add_5 : decode bM_add 5 = .ok (.getfield 72, 3) := by decide +kernel
theorem dM_add_8 : decode bM_add 8 = .ok (.iload_n 1, 1) := by decide +kernel
theorem dM_add_9 : decode bM_add 9 = .ok (.iastore, 1) := by decide +kernel
theorem dM_add_10 : decode bM_add 10 = .ok (.aload_n 0, 1) := by decide +kernel
theorem dM_add_11 : decode bM_add 11 = .ok (.getfield 17, 3) := by decide +kernel
theorem dM_add_14 : decode bM_add 14 = .ok (.aload_n 0, 1) := by decide +kernel
theorem dM_add_15 : decode bM_add 15 = .ok (.getfield 72, 3) := by decide +kernel
theorem dM_add_18 : decode bM_add 18 = .ok (.iload_n 2, 1) := by decide +kernel
theorem dM_add_19 : decode bM_add 19 = .ok (.iastore, 1) := by decide +kernel
theorem dM_add_20 : decode bM_add 20 = .ok (.aload_n 0, 1) := by decide +kernel
theorem dM_add_21 : decode bM_add 21 = .ok (.getfield 20, 3) := by decide +kernel
theorem dM_add_24 : decode bM_add 24 = .ok (.aload_n 0, 1) := by decide +kernel
theorem dM_add_25 : decode bM_add 25 = .ok (.getfield 72, 3) := by decide +kernel
theorem dM_add_28 : decode bM_add 28 = .ok (.lload_n 3, 1) := by decide +kernel
theorem dM_add_29 : decode bM_add 29 = .ok (.lastore, 1) := by decide +kernel
theorem dM_add_30 : decode bM_add 30 = .ok (.aload_n 0, 1) := by decide +kernel
theorem dM_add_31 : decode bM_add 31 = .ok (.dup, 1) := by decide +kernel
theorem dM_add_32 : decode bM_add 32 = .ok (.getfield 72, 3) := by decide +kernel
theorem dM_add_35 : decode bM_add 35 = .ok (.iconst 1, 1) := by decide +kernel
theorem dM_add_36 : decode bM_add 36 = .ok (.iadd, 1) := by decide +kernel
theorem dM_add_37 : decode bM_add 37 = .ok (.putfield 72, 3) := by decide +kernel
theorem dM_add_40 : decode bM_add 40 = .ok (.aload_n 0, 1) := by decide +kernel
theorem dM_add_41 : decode bM_add 41 = .ok (.getfield 72, 3) := by decide +kernel
theorem dM_add_44 : decode bM_add 44 = .ok (.iconst 1, 1) := by decide +kernel
theorem dM_add_45 : decode bM_add 45 = .ok (.isub, 1) := by decide +kernel
theorem dM_add_46 : decode bM_add 46 = .ok (.ireturn, 1) := by decide +kernel
theorem dM_row_0 : decode bM_row 0 = .ok (.aload_n 0, 1) := by decide +kernel
theorem dM_row_1 : decode bM_row 1 = .ok (.aload_n 0, 1) := by decide +kernel
theorem dM_row_2 : decode bM_row 2 = .ok (.getfield 72, 3) := by decide +kernel
theorem dM_row_5 : decode bM_row 5 = .ok (.bipush 12, 2) := by decide +kernel
theorem dM_row_7 : decode bM_row 7 = .ok (.if_icmp .ne 7, 3) := by decide +kernel
theorem dM_row_10 : decode bM_row 10 = .ok (.iconst 1, 1) := by decide +kernel
theorem dM_row_11 : decode bM_row 11 = .ok (.goto 49, 3) := by decide +kernel
theorem dM_row_14 : decode bM_row 14 = .ok (.iload_n 1, 1) := by decide +kernel
theorem dM_row_15 : decode bM_row 15 = .ok (.i2l, 1) := by decide +kernel
theorem dM_row_16 : decode bM_row 16 = .ok (.lconst 0, 1) := by decide +kernel
theorem dM_row_17 : decode bM_row 17 = .ok (.ldc2_w 75, 3) := by decide +kernel
theorem dM_row_20 : decode bM_row 20 = .ok (.invokestatic 68, 3) := by decide +kernel
theorem dM_row_23 : decode bM_row 23 = .ok (.ifCond .eq 32, 3) := by decide +kernel
theorem dM_row_26 : decode bM_row 26 = .ok (.iload_n 2, 1) := by decide +kernel
theorem dM_row_27 : decode bM_row 27 = .ok (.i2l, 1) := by decide +kernel
theorem dM_row_28 : decode bM_row 28 = .ok (.lconst 0, 1) := by decide +kernel
theorem dM_row_29 : decode bM_row 29 = .ok (.aload_n 0, 1) := by decide +kernel
theorem dM_row_30 : decode bM_row 30 = .ok (.getfield 49, 3) := by decide +kernel
theorem dM_row_33 : decode bM_row 33 = .ok (.iconst 1, 1) := by decide +kernel
theorem dM_row_34 : decode bM_row 34 = .ok (.isub, 1) := by decide +kernel
theorem dM_row_35 : decode bM_row 35 = .ok (.i2l, 1) := by decide +kernel
theorem dM_row_36 : decode bM_row 36 = .ok (.invokestatic 68, 3) := by decide +kernel
theorem dM_row_39 : decode bM_row 39 = .ok (.ifCond .eq 16, 3) := by decide +kernel
theorem dM_row_42 : decode bM_row 42 = .ok (.lload_n 3, 1) := by decide +kernel
theorem dM_row_43 : decode bM_row 43 = .ok (.ldc2_w 77, 3) := by decide +kernel
theorem dM_row_46 : decode bM_row 46 = .ok (.ldc2_w 79, 3) := by decide +kernel
theorem dM_row_49 : decode bM_row 49 = .ok (.invokestatic 68, 3) := by decide +kernel
theorem dM_row_52 : decode bM_row 52 = .ok (.ifCond .ne 7, 3) := by decide +kernel
theorem dM_row_55 : decode bM_row 55 = .ok (.iconst 2, 1) := by decide +kernel
theorem dM_row_56 : decode bM_row 56 = .ok (.goto 4, 3) := by decide +kernel
theorem dM_row_59 : decode bM_row 59 = .ok (.iconst 0, 1) := by decide +kernel
theorem dM_row_60 : decode bM_row 60 = .ok (.putfield 52, 3) := by decide +kernel
theorem dM_row_63 : decode bM_row 63 = .ok (.aload_n 0, 1) := by decide +kernel
theorem dM_row_64 : decode bM_row 64 = .ok (.getfield 52, 3) := by decide +kernel
theorem dM_row_67 : decode bM_row 67 = .ok (.ifCond .le 7, 3) := by decide +kernel
theorem dM_row_70 : decode bM_row 70 = .ok (.iconst 0, 1) := by decide +kernel
theorem dM_row_71 : decode bM_row 71 = .ok (.goto 10, 3) := by decide +kernel
theorem dM_row_74 : decode bM_row 74 = .ok (.aload_n 0, 1) := by decide +kernel
theorem dM_row_75 : decode bM_row 75 = .ok (.iload_n 1, 1) := by decide +kernel
theorem dM_row_76 : decode bM_row 76 = .ok (.iload_n 2, 1) := by decide +kernel
theorem dM_row_77 : decode bM_row 77 = .ok (.lload_n 3, 1) := by decide +kernel
theorem dM_row_78 : decode bM_row 78 = .ok (.invokevirtual 81, 3) := by decide +kernel
theorem dM_row_81 : decode bM_row 81 = .ok (.ireturn, 1) := by decide +kernel
theorem dM_factor_0 : decode bM_factor 0 = .ok (.aload_n 0, 1) := by decide +kernel
theorem dM_factor_1 : decode bM_factor 1 = .ok (.iload_n 1, 1) := by decide +kernel
theorem dM_factor_2 : decode bM_factor 2 = .ok (.i2l, 1) := by decide +kernel
theorem dM_factor_3 : decode bM_factor 3 = .ok (.lconst 0, 1) := by decide +kernel
theorem dM_factor_4 : decode bM_factor 4 = .ok (.aload_n 0, 1) := by decide +kernel
theorem dM_factor_5 : decode bM_factor 5 = .ok (.getfield 72, 3) := by decide +kernel
theorem dM_factor_8 : decode bM_factor 8 = .ok (.iconst 1, 1) := by decide +kernel
theorem dM_factor_9 : decode bM_factor 9 = .ok (.isub, 1) := by decide +kernel
theorem dM_factor_10 : decode bM_factor 10 = .ok (.i2l, 1) := by decide +kernel
theorem dM_factor_11 : decode bM_factor 11 = .ok (.invokestatic 68, 3) := by decide +kernel
theorem dM_factor_14 : decode bM_factor 14 = .ok (.ifCond .eq 19, 3) := by decide +kernel
theorem dM_factor_17 : decode bM_factor 17 = .ok (.iload_n 2, 1) := by decide +kernel
theorem dM_factor_18 : decode bM_factor 18 = .ok (.i2l, 1) := by decide +kernel
theorem dM_factor_19 : decode bM_factor 19 = .ok (.lconst 0, 1) := by decide +kernel
theorem dM_factor_20 : decode bM_factor 20 = .ok (.aload_n 0, 1) := by decide +kernel
theorem dM_factor_21 : decode bM_factor 21 = .ok (.getfield 59, 3) := by decide +kernel
theorem dM_factor_24 : decode bM_factor 24 = .ok (.iconst 1, 1) := by decide +kernel
theorem dM_factor_25 : decode bM_factor 25 = .ok (.isub, 1) := by decide +kernel
theorem dM_factor_26 : decode bM_factor 26 = .ok (.i2l, 1) := by decide +kernel
theorem dM_factor_27 : decode bM_factor 27 = .ok (.invokestatic 68, 3) := by decide +kernel
theorem dM_factor_30 : decode bM_factor 30 = .ok (.ifCond .ne 7, 3) := by decide +kernel
theorem dM_factor_33 : decode bM_factor 33 = .ok (.iconst 1, 1) := by decide +kernel
theorem dM_factor_34 : decode bM_factor 34 = .ok (.goto 36, 3) := by decide +kernel
theorem dM_factor_37 : decode bM_factor 37 = .ok (.aload_n 0, 1) := by decide +kernel
theorem dM_factor_38 : decode bM_factor 38 = .ok (.getfield 26, 3) := by decide +kernel
theorem dM_factor_41 : decode bM_factor 41 = .ok (.iload_n 1, 1) := by decide +kernel
theorem dM_factor_42 : decode bM_factor 42 = .ok (.iaload, 1) := by decide +kernel
theorem dM_factor_43 : decode bM_factor 43 = .ok (.iconst (-1), 1) := by decide +kernel
theorem dM_factor_44 : decode bM_factor 44 = .ok (.if_icmp .eq 7, 3) := by decide +kernel
theorem dM_factor_47 : decode bM_factor 47 = .ok (.iconst 2, 1) := by decide +kernel
theorem dM_factor_48 : decode bM_factor 48 = .ok (.goto 22, 3) := by decide +kernel
theorem dM_factor_51 : decode bM_factor 51 = .ok (.iload_n 3, 1) := by decide +kernel
theorem dM_factor_52 : decode bM_factor 52 = .ok (.i2l, 1) := by decide +kernel
theorem dM_factor_53 : decode bM_factor 53 = .ok (.ldc2_w 85, 3) := by decide +kernel
theorem dM_factor_56 : decode bM_factor 56 = .ok (.ldc2_w 66, 3) := by decide +kernel
theorem dM_factor_59 : decode bM_factor 59 = .ok (.invokestatic 68, 3) := by decide +kernel
theorem dM_factor_62 : decode bM_factor 62 = .ok (.ifCond .ne 7, 3) := by decide +kernel
theorem dM_factor_65 : decode bM_factor 65 = .ok (.iconst 3, 1) := by decide +kernel
theorem dM_factor_66 : decode bM_factor 66 = .ok (.goto 4, 3) := by decide +kernel
theorem dM_factor_69 : decode bM_factor 69 = .ok (.iconst 0, 1) := by decide +kernel
theorem dM_factor_70 : decode bM_factor 70 = .ok (.putfield 52, 3) := by decide +kernel
theorem dM_factor_73 : decode bM_factor 73 = .ok (.aload_n 0, 1) := by decide +kernel
theorem dM_factor_74 : decode bM_factor 74 = .ok (.getfield 52, 3) := by decide +kernel
theorem dM_factor_77 : decode bM_factor 77 = .ok (.ifCond .le 5, 3) := by decide +kernel
theorem dM_factor_80 : decode bM_factor 80 = .ok (.iconst 0, 1) := by decide +kernel
theorem dM_factor_81 : decode bM_factor 81 = .ok (.ireturn, 1) := by decide +kernel
theorem dM_factor_82 : decode bM_factor 82 = .ok (.aload_n 0, 1) := by decide +kernel
theorem dM_factor_83 : decode bM_factor 83 = .ok (.getfield 23, 3) := by decide +kernel
theorem dM_factor_86 : decode bM_factor 86 = .ok (.bipush 12, 2) := by decide +kernel
theorem dM_factor_88 : decode bM_factor 88 = .ok (.iload_n 1, 1) := by decide +kernel
theorem dM_factor_89 : decode bM_factor 89 = .ok (.imul, 1) := by decide +kernel
theorem dM_factor_90 : decode bM_factor 90 = .ok (.iload_n 2, 1) := by decide +kernel
theorem dM_factor_91 : decode bM_factor 91 = .ok (.iadd, 1) := by decide +kernel
theorem dM_factor_92 : decode bM_factor 92 = .ok (.laload, 1) := by decide +kernel
theorem dM_factor_93 : decode bM_factor 93 = .ok (.l2i, 1) := by decide +kernel
theorem dM_factor_94 : decode bM_factor 94 = .ok (.istore 4, 2) := by decide +kernel
theorem dM_factor_96 : decode bM_factor 96 = .ok (.aload_n 0, 1) := by decide +kernel
theorem dM_factor_97 : decode bM_factor 97 = .ok (.getfield 23, 3) := by decide +kernel
theorem dM_factor_100 : decode bM_factor 100 = .ok (.bipush 12, 2) := by decide +kernel
theorem dM_factor_102 : decode bM_factor 102 = .ok (.iload_n 1, 1) := by decide +kernel
theorem dM_factor_103 : decode bM_factor 103 = .ok (.imul, 1) := by decide +kernel
theorem dM_factor_104 : decode bM_factor 104 = .ok (.iload_n 2, 1) := by decide +kernel
theorem dM_factor_105 : decode bM_factor 105 = .ok (.iadd, 1) := by decide +kernel
theorem dM_factor_106 : decode bM_factor 106 = .ok (.iload_n 3, 1) := by decide +kernel
theorem dM_factor_107 : decode bM_factor 107 = .ok (.i2l, 1) := by decide +kernel
theorem dM_factor_108 : decode bM_factor 108 = .ok (.lastore, 1) := by decide +kernel
theorem dM_factor_109 : decode bM_factor 109 = .ok (.iload 4, 2) := by decide +kernel
theorem dM_factor_111 : decode bM_factor 111 = .ok (.ireturn, 1) := by decide +kernel
theorem dM_cut_0 : decode bM_cut 0 = .ok (.aload_n 0, 1) := by decide +kernel
theorem dM_cut_1 : decode bM_cut 1 = .ok (.iload_n 1, 1) := by decide +kernel
theorem dM_cut_2 : decode bM_cut 2 = .ok (.i2l, 1) := by decide +kernel
theorem dM_cut_3 : decode bM_cut 3 = .ok (.lconst 0, 1) := by decide +kernel
theorem dM_cut_4 : decode bM_cut 4 = .ok (.aload_n 0, 1) := by decide +kernel
theorem dM_cut_5 : decode bM_cut 5 = .ok (.getfield 59, 3) := by decide +kernel
theorem dM_cut_8 : decode bM_cut 8 = .ok (.iconst 1, 1) := by decide +kernel
theorem dM_cut_9 : decode bM_cut 9 = .ok (.isub, 1) := by decide +kernel
theorem dM_cut_10 : decode bM_cut 10 = .ok (.i2l, 1) := by decide +kernel
theorem dM_cut_11 : decode bM_cut 11 = .ok (.invokestatic 68, 3) := by decide +kernel
theorem dM_cut_14 : decode bM_cut 14 = .ok (.ifCond .eq 19, 3) := by decide +kernel
theorem dM_cut_17 : decode bM_cut 17 = .ok (.iload_n 2, 1) := by decide +kernel
theorem dM_cut_18 : decode bM_cut 18 = .ok (.i2l, 1) := by decide +kernel
theorem dM_cut_19 : decode bM_cut 19 = .ok (.lconst 0, 1) := by decide +kernel
theorem dM_cut_20 : decode bM_cut 20 = .ok (.aload_n 0, 1) := by decide +kernel
theorem dM_cut_21 : decode bM_cut 21 = .ok (.getfield 59, 3) := by decide +kernel
theorem dM_cut_24 : decode bM_cut 24 = .ok (.iconst 1, 1) := by decide +kernel
theorem dM_cut_25 : decode bM_cut 25 = .ok (.isub, 1) := by decide +kernel
theorem dM_cut_26 : decode bM_cut 26 = .ok (.i2l, 1) := by decide +kernel
theorem dM_cut_27 : decode bM_cut 27 = .ok (.invokestatic 68, 3) := by decide +kernel
theorem dM_cut_30 : decode bM_cut 30 = .ok (.ifCond .ne 7, 3) := by decide +kernel
theorem dM_cut_33 : decode bM_cut 33 = .ok (.iconst 1, 1) := by decide +kernel
theorem dM_cut_34 : decode bM_cut 34 = .ok (.goto 26, 3) := by decide +kernel
theorem dM_cut_37 : decode bM_cut 37 = .ok (.aload_n 0, 1) := by decide +kernel
theorem dM_cut_38 : decode bM_cut 38 = .ok (.getfield 72, 3) := by decide +kernel
theorem dM_cut_41 : decode bM_cut 41 = .ok (.bipush 12, 2) := by decide +kernel
theorem dM_cut_43 : decode bM_cut 43 = .ok (.if_icmp .ne 7, 3) := by decide +kernel
theorem dM_cut_46 : decode bM_cut 46 = .ok (.iconst 2, 1) := by decide +kernel
theorem dM_cut_47 : decode bM_cut 47 = .ok (.goto 13, 3) := by decide +kernel
theorem dM_cut_50 : decode bM_cut 50 = .ok (.iload_n 1, 1) := by decide +kernel
theorem dM_cut_51 : decode bM_cut 51 = .ok (.iload_n 2, 1) := by decide +kernel
theorem dM_cut_52 : decode bM_cut 52 = .ok (.if_icmp .ne 7, 3) := by decide +kernel
theorem dM_cut_55 : decode bM_cut 55 = .ok (.iconst 3, 1) := by decide +kernel
theorem dM_cut_56 : decode bM_cut 56 = .ok (.goto 4, 3) := by decide +kernel
theorem dM_cut_59 : decode bM_cut 59 = .ok (.iconst 0, 1) := by decide +kernel
theorem dM_cut_60 : decode bM_cut 60 = .ok (.putfield 52, 3) := by decide +kernel
theorem dM_cut_63 : decode bM_cut 63 = .ok (.aload_n 0, 1) := by decide +kernel
theorem dM_cut_64 : decode bM_cut 64 = .ok (.getfield 52, 3) := by decide +kernel
theorem dM_cut_67 : decode bM_cut 67 = .ok (.ifCond .le 5, 3) := by decide +kernel
theorem dM_cut_70 : decode bM_cut 70 = .ok (.iconst 0, 1) := by decide +kernel
theorem dM_cut_71 : decode bM_cut 71 = .ok (.ireturn, 1) := by decide +kernel
theorem dM_cut_72 : decode bM_cut 72 = .ok (.aload_n 0, 1) := by decide +kernel
theorem dM_cut_73 : decode bM_cut 73 = .ok (.getfield 23, 3) := by decide +kernel
theorem dM_cut_76 : decode bM_cut 76 = .ok (.bipush 12, 2) := by decide +kernel
theorem dM_cut_78 : decode bM_cut 78 = .ok (.aload_n 0, 1) := by decide +kernel
theorem dM_cut_79 : decode bM_cut 79 = .ok (.getfield 72, 3) := by decide +kernel
theorem dM_cut_82 : decode bM_cut 82 = .ok (.imul, 1) := by decide +kernel
theorem dM_cut_83 : decode bM_cut 83 = .ok (.iload_n 1, 1) := by decide +kernel
theorem dM_cut_84 : decode bM_cut 84 = .ok (.iadd, 1) := by decide +kernel
theorem dM_cut_85 : decode bM_cut 85 = .ok (.lconst 1, 1) := by decide +kernel
theorem dM_cut_86 : decode bM_cut 86 = .ok (.lastore, 1) := by decide +kernel
theorem dM_cut_87 : decode bM_cut 87 = .ok (.aload_n 0, 1) := by decide +kernel
theorem dM_cut_88 : decode bM_cut 88 = .ok (.getfield 23, 3) := by decide +kernel
theorem dM_cut_91 : decode bM_cut 91 = .ok (.bipush 12, 2) := by decide +kernel
theorem dM_cut_93 : decode bM_cut 93 = .ok (.aload_n 0, 1) := by decide +kernel
theorem dM_cut_94 : decode bM_cut 94 = .ok (.getfield 72, 3) := by decide +kernel
theorem dM_cut_97 : decode bM_cut 97 = .ok (.imul, 1) := by decide +kernel
theorem dM_cut_98 : decode bM_cut 98 = .ok (.iload_n 2, 1) := by decide +kernel
theorem dM_cut_99 : decode bM_cut 99 = .ok (.iadd, 1) := by decide +kernel
theorem dM_cut_100 : decode bM_cut 100 = .ok (.lconst 1, 1) := by decide +kernel
theorem dM_cut_101 : decode bM_cut 101 = .ok (.lastore, 1) := by decide +kernel
theorem dM_cut_102 : decode bM_cut 102 = .ok (.aload_n 0, 1) := by decide +kernel
theorem dM_cut_103 : decode bM_cut 103 = .ok (.iconst 1, 1) := by decide +kernel
theorem dM_cut_104 : decode bM_cut 104 = .ok (.iconst 0, 1) := by decide +kernel
theorem dM_cut_105 : decode bM_cut 105 = .ok (.lconst 1, 1) := by decide +kernel
theorem dM_cut_106 : decode bM_cut 106 = .ok (.invokevirtual 81, 3) := by decide +kernel
theorem dM_cut_109 : decode bM_cut 109 = .ok (.ireturn, 1) := by decide +kernel
theorem dM_moved_0 : decode bM_moved 0 = .ok (.aload_n 0, 1) := by decide +kernel
theorem dM_moved_1 : decode bM_moved 1 = .ok (.getfield 33, 3) := by decide +kernel
theorem dM_moved_4 : decode bM_moved 4 = .ok (.iload_n 2, 1) := by decide +kernel
theorem dM_moved_5 : decode bM_moved 5 = .ok (.iaload, 1) := by decide +kernel
theorem dM_moved_6 : decode bM_moved 6 = .ok (.iconst (-1), 1) := by decide +kernel
theorem dM_moved_7 : decode bM_moved 7 = .ok (.if_icmp .ne 22, 3) := by decide +kernel
theorem dM_moved_10 : decode bM_moved 10 = .ok (.iload_n 1, 1) := by decide +kernel
theorem dM_moved_11 : decode bM_moved 11 = .ok (.iload_n 2, 1) := by decide +kernel
theorem dM_moved_12 : decode bM_moved 12 = .ok (.if_icmp .ne 13, 3) := by decide +kernel
theorem dM_moved_15 : decode bM_moved 15 = .ok (.aload_n 0, 1) := by decide +kernel
theorem dM_moved_16 : decode bM_moved 16 = .ok (.getfield 29, 3) := by decide +kernel
theorem dM_moved_19 : decode bM_moved 19 = .ok (.lneg, 1) := by decide +kernel
theorem dM_moved_20 : decode bM_moved 20 = .ok (.lload_n 3, 1) := by decide +kernel
theorem dM_moved_21 : decode bM_moved 21 = .ok (.lmul, 1) := by decide +kernel
theorem dM_moved_22 : decode bM_moved 22 = .ok (.goto 25, 3) := by decide +kernel
theorem dM_moved_25 : decode bM_moved 25 = .ok (.lconst 0, 1) := by decide +kernel
theorem dM_moved_26 : decode bM_moved 26 = .ok (.goto 21, 3) := by decide +kernel
theorem dM_moved_29 : decode bM_moved 29 = .ok (.aload_n 0, 1) := by decide +kernel
theorem dM_moved_30 : decode bM_moved 30 = .ok (.getfield 39, 3) := by decide +kernel
theorem dM_moved_33 : decode bM_moved 33 = .ok (.bipush 13, 2) := by decide +kernel
theorem dM_moved_35 : decode bM_moved 35 = .ok (.iload_n 1, 1) := by decide +kernel
theorem dM_moved_36 : decode bM_moved 36 = .ok (.imul, 1) := by decide +kernel
theorem dM_moved_37 : decode bM_moved 37 = .ok (.aload_n 0, 1) := by decide +kernel
theorem dM_moved_38 : decode bM_moved 38 = .ok (.getfield 33, 3) := by decide +kernel
theorem dM_moved_41 : decode bM_moved 41 = .ok (.iload_n 2, 1) := by decide +kernel
theorem dM_moved_42 : decode bM_moved 42 = .ok (.iaload, 1) := by decide +kernel
theorem dM_moved_43 : decode bM_moved 43 = .ok (.iadd, 1) := by decide +kernel
theorem dM_moved_44 : decode bM_moved 44 = .ok (.laload, 1) := by decide +kernel
theorem dM_moved_45 : decode bM_moved 45 = .ok (.lload_n 3, 1) := by decide +kernel
theorem dM_moved_46 : decode bM_moved 46 = .ok (.lmul, 1) := by decide +kernel
theorem dM_moved_47 : decode bM_moved 47 = .ok (.lreturn, 1) := by decide +kernel
theorem dM_isInside_0 : decode bM_isInside 0 = .ok (.iload_n 1, 1) := by decide +kernel
theorem dM_isInside_1 : decode bM_isInside 1 = .ok (.bipush 36, 2) := by decide +kernel
theorem dM_isInside_3 : decode bM_isInside 3 = .ok (.if_icmp .eq 26, 3) := by decide +kernel
theorem dM_isInside_6 : decode bM_isInside 6 = .ok (.iload_n 1, 1) := by decide +kernel
theorem dM_isInside_7 : decode bM_isInside 7 = .ok (.aload_n 0, 1) := by decide +kernel
theorem dM_isInside_8 : decode bM_isInside 8 = .ok (.getfield 59, 3) := by decide +kernel
theorem dM_isInside_11 : decode bM_isInside 11 = .ok (.aload_n 0, 1) := by decide +kernel
theorem dM_isInside_12 : decode bM_isInside 12 = .ok (.getfield 87, 3) := by decide +kernel
theorem dM_isInside_15 : decode bM_isInside 15 = .ok (.iadd, 1) := by decide +kernel
theorem dM_isInside_16 : decode bM_isInside 16 = .ok (.if_icmp .ge 17, 3) := by decide +kernel
theorem dM_isInside_19 : decode bM_isInside 19 = .ok (.aload_n 0, 1) := by decide +kernel
theorem dM_isInside_20 : decode bM_isInside 20 = .ok (.getfield 33, 3) := by decide +kernel
theorem dM_isInside_23 : decode bM_isInside 23 = .ok (.iload_n 1, 1) := by decide +kernel
theorem dM_isInside_24 : decode bM_isInside 24 = .ok (.iaload, 1) := by decide +kernel
theorem dM_isInside_25 : decode bM_isInside 25 = .ok (.iconst (-1), 1) := by decide +kernel
theorem dM_isInside_26 : decode bM_isInside 26 = .ok (.if_icmp .ne 7, 3) := by decide +kernel
theorem dM_isInside_29 : decode bM_isInside 29 = .ok (.iconst 1, 1) := by decide +kernel
theorem dM_isInside_30 : decode bM_isInside 30 = .ok (.goto 4, 3) := by decide +kernel
theorem dM_isInside_33 : decode bM_isInside 33 = .ok (.iconst 0, 1) := by decide +kernel
theorem dM_isInside_34 : decode bM_isInside 34 = .ok (.ireturn, 1) := by decide +kernel
theorem dM_right_0 : decode bM_right 0 = .ok (.aload_n 0, 1) := by decide +kernel
theorem dM_right_1 : decode bM_right 1 = .ok (.iload_n 1, 1) := by decide +kernel
theorem dM_right_2 : decode bM_right 2 = .ok (.i2l, 1) := by decide +kernel
theorem dM_right_3 : decode bM_right 3 = .ok (.lconst 0, 1) := by decide +kernel
theorem dM_right_4 : decode bM_right 4 = .ok (.aload_n 0, 1) := by decide +kernel
theorem dM_right_5 : decode bM_right 5 = .ok (.getfield 72, 3) := by decide +kernel
theorem dM_right_8 : decode bM_right 8 = .ok (.iconst 1, 1) := by decide +kernel
theorem dM_right_9 : decode bM_right 9 = .ok (.isub, 1) := by decide +kernel
theorem dM_right_10 : decode bM_right 10 = .ok (.i2l, 1) := by decide +kernel
theorem dM_right_11 : decode bM_right 11 = .ok (.invokestatic 68, 3) := by decide +kernel
theorem dM_right_14 : decode bM_right 14 = .ok (.ifCond .ne 7, 3) := by decide +kernel
theorem dM_right_17 : decode bM_right 17 = .ok (.iconst 1, 1) := by decide +kernel
theorem dM_right_18 : decode bM_right 18 = .ok (.goto 21, 3) := by decide +kernel
theorem dM_right_21 : decode bM_right 21 = .ok (.lload_n 2, 1) := by decide +kernel
theorem dM_right_22 : decode bM_right 22 = .ok (.ldc2_w 77, 3) := by decide +kernel
theorem dM_right_25 : decode bM_right 25 = .ok (.ldc2_w 79, 3) := by decide +kernel
theorem dM_right_28 : decode bM_right 28 = .ok (.invokestatic 68, 3) := by decide +kernel
theorem dM_right_31 : decode bM_right 31 = .ok (.ifCond .ne 7, 3) := by decide +kernel
theorem dM_right_34 : decode bM_right 34 = .ok (.iconst 2, 1) := by decide +kernel
theorem dM_right_35 : decode bM_right 35 = .ok (.goto 4, 3) := by decide +kernel
theorem dM_right_38 : decode bM_right 38 = .ok (.iconst 0, 1) := by decide +kernel
theorem dM_right_39 : decode bM_right 39 = .ok (.putfield 52, 3) := by decide +kernel
theorem dM_right_42 : decode bM_right 42 = .ok (.aload_n 0, 1) := by decide +kernel
theorem dM_right_43 : decode bM_right 43 = .ok (.getfield 52, 3) := by decide +kernel
theorem dM_right_46 : decode bM_right 46 = .ok (.ifCond .le 5, 3) := by decide +kernel
theorem dM_right_49 : decode bM_right 49 = .ok (.iconst 0, 1) := by decide +kernel
theorem dM_right_50 : decode bM_right 50 = .ok (.ireturn, 1) := by decide +kernel
theorem dM_right_51 : decode bM_right 51 = .ok (.lload_n 2, 1) := by decide +kernel
theorem dM_right_52 : decode bM_right 52 = .ok (.aload_n 0, 1) := by decide +kernel
theorem dM_right_53 : decode bM_right 53 = .ok (.getfield 20, 3) := by decide +kernel
theorem dM_right_56 : decode bM_right 56 = .ok (.iload_n 1, 1) := by decide +kernel
theorem dM_right_57 : decode bM_right 57 = .ok (.laload, 1) := by decide +kernel
theorem dM_right_58 : decode bM_right 58 = .ok (.lsub, 1) := by decide +kernel
theorem dM_right_59 : decode bM_right 59 = .ok (.lstore 4, 2) := by decide +kernel
theorem dM_right_61 : decode bM_right 61 = .ok (.aload_n 0, 1) := by decide +kernel
theorem dM_right_62 : decode bM_right 62 = .ok (.getfield 26, 3) := by decide +kernel
theorem dM_right_65 : decode bM_right 65 = .ok (.iload_n 1, 1) := by decide +kernel
theorem dM_right_66 : decode bM_right 66 = .ok (.iaload, 1) := by decide +kernel
theorem dM_right_67 : decode bM_right 67 = .ok (.istore 6, 2) := by decide +kernel
theorem dM_right_69 : decode bM_right 69 = .ok (.iconst 1, 1) := by decide +kernel
theorem dM_right_70 : decode bM_right 70 = .ok (.istore 7, 2) := by decide +kernel
theorem dM_right_72 : decode bM_right 72 = .ok (.iconst 0, 1) := by decide +kernel
theorem dM_right_73 : decode bM_right 73 = .ok (.istore 8, 2) := by decide +kernel
theorem dM_right_75 : decode bM_right 75 = .ok (.iload 6, 2) := by decide +kernel
theorem dM_right_77 : decode bM_right 77 = .ok (.iconst (-1), 1) := by decide +kernel
theorem dM_right_78 : decode bM_right 78 = .ok (.if_icmp .eq 141, 3) := by decide +kernel
theorem dM_right_81 : decode bM_right 81 = .ok (.iload 8, 2) := by decide +kernel
theorem dM_right_83 : decode bM_right 83 = .ok (.bipush 36, 2) := by decide +kernel
theorem dM_right_85 : decode bM_right 85 = .ok (.if_icmp .gt 134, 3) := by decide +kernel
theorem dM_right_88 : decode bM_right 88 = .ok (.aload_n 0, 1) := by decide +kernel
theorem dM_right_89 : decode bM_right 89 = .ok (.iload 8, 2) := by decide +kernel
theorem dM_right_91 : decode bM_right 91 = .ok (.invokevirtual 90, 3) := by decide +kernel
theorem dM_right_94 : decode bM_right 94 = .ok (.ifCond .eq 119, 3) := by decide +kernel
theorem dM_right_97 : decode bM_right 97 = .ok (.aload_n 0, 1) := by decide +kernel
theorem dM_right_98 : decode bM_right 98 = .ok (.getfield 13, 3) := by decide +kernel
theorem dM_right_101 : decode bM_right 101 = .ok (.iload_n 1, 1) := by decide +kernel
theorem dM_right_102 : decode bM_right 102 = .ok (.iaload, 1) := by decide +kernel
theorem dM_right_103 : decode bM_right 103 = .ok (.iconst 1, 1) := by decide +kernel
theorem dM_right_104 : decode bM_right 104 = .ok (.if_icmp .ne 17, 3) := by decide +kernel
theorem dM_right_107 : decode bM_right 107 = .ok (.aload_n 0, 1) := by decide +kernel
theorem dM_right_108 : decode bM_right 108 = .ok (.iload 8, 2) := by decide +kernel
theorem dM_right_110 : decode bM_right 110 = .ok (.iload 6, 2) := by decide +kernel
theorem dM_right_112 : decode bM_right 112 = .ok (.lload 4, 2) := by decide +kernel
theorem dM_right_114 : decode bM_right 114 = .ok (.lneg, 1) := by decide +kernel
theorem dM_right_115 : decode bM_right 115 = .ok (.invokevirtual 94, 3) := by decide +kernel
theorem dM_right_118 : decode bM_right 118 = .ok (.goto 13, 3) := by decide +kernel
theorem dM_right_121 : decode bM_right 121 = .ok (.aload_n 0, 1) := by decide +kernel
theorem dM_right_122 : decode bM_right 122 = .ok (.iload 8, 2) := by decide +kernel
theorem dM_right_124 : decode bM_right 124 = .ok (.iload 6, 2) := by decide +kernel
theorem dM_right_126 : decode bM_right 126 = .ok (.lload 4, 2) := by decide +kernel
theorem dM_right_128 : decode bM_right 128 = .ok (.invokevirtual 94, 3) := by decide +kernel
theorem dM_right_131 : decode bM_right 131 = .ok (.lstore 9, 2) := by decide +kernel
theorem dM_right_133 : decode bM_right 133 = .ok (.lload 9, 2) := by decide +kernel
theorem dM_right_135 : decode bM_right 135 = .ok (.aload_n 0, 1) := by decide +kernel
theorem dM_right_136 : decode bM_right 136 = .ok (.getfield 13, 3) := by decide +kernel
theorem dM_right_139 : decode bM_right 139 = .ok (.iload_n 1, 1) := by decide +kernel
theorem dM_right_140 : decode bM_right 140 = .ok (.iaload, 1) := by decide +kernel
theorem dM_right_141 : decode bM_right 141 = .ok (.iconst 2, 1) := by decide +kernel
theorem dM_right_142 : decode bM_right 142 = .ok (.if_icmp .ne 19, 3) := by decide +kernel
theorem dM_right_145 : decode bM_right 145 = .ok (.aload_n 0, 1) := by decide +kernel
theorem dM_right_146 : decode bM_right 146 = .ok (.iload 8, 2) := by decide +kernel
theorem dM_right_148 : decode bM_right 148 = .ok (.iload 6, 2) := by decide +kernel
theorem dM_right_150 : decode bM_right 150 = .ok (.iconst 1, 1) := by decide +kernel
theorem dM_right_151 : decode bM_right 151 = .ok (.iadd, 1) := by decide +kernel
theorem dM_right_152 : decode bM_right 152 = .ok (.lload 4, 2) := by decide +kernel
theorem dM_right_154 : decode bM_right 154 = .ok (.lneg, 1) := by decide +kernel
theorem dM_right_155 : decode bM_right 155 = .ok (.invokevirtual 94, 3) := by decide +kernel
theorem dM_right_158 : decode bM_right 158 = .ok (.goto 4, 3) := by decide +kernel
theorem dM_right_161 : decode bM_right 161 = .ok (.lconst 0, 1) := by decide +kernel
theorem dM_right_162 : decode bM_right 162 = .ok (.ladd, 1) := by decide +kernel
theorem dM_right_163 : decode bM_right 163 = .ok (.lstore 9, 2) := by decide +kernel
theorem dM_right_165 : decode bM_right 165 = .ok (.aload_n 0, 1) := by decide +kernel
theorem dM_right_166 : decode bM_right 166 = .ok (.getfield 42, 3) := by decide +kernel
theorem dM_right_169 : decode bM_right 169 = .ok (.iload 8, 2) := by decide +kernel
theorem dM_right_171 : decode bM_right 171 = .ok (.aload_n 0, 1) := by decide +kernel
theorem dM_right_172 : decode bM_right 172 = .ok (.getfield 39, 3) := by decide +kernel
theorem dM_right_175 : decode bM_right 175 = .ok (.bipush 13, 2) := by decide +kernel
theorem dM_right_177 : decode bM_right 177 = .ok (.iload 8, 2) := by decide +kernel
theorem dM_right_179 : decode bM_right 179 = .ok (.imul, 1) := by decide +kernel
theorem dM_right_180 : decode bM_right 180 = .ok (.bipush 12, 2) := by decide +kernel
theorem dM_right_182 : decode bM_right 182 = .ok (.iadd, 1) := by decide +kernel
theorem dM_right_183 : decode bM_right 183 = .ok (.laload, 1) := by decide +kernel
theorem dM_right_184 : decode bM_right 184 = .ok (.lload 9, 2) := by decide +kernel
theorem dM_right_186 : decode bM_right 186 = .ok (.ladd, 1) := by decide +kernel
theorem dM_right_187 : decode bM_right 187 = .ok (.lastore, 1) := by decide +kernel
theorem dM_right_188 : decode bM_right 188 = .ok (.iload 7, 2) := by decide +kernel
theorem dM_right_190 : decode bM_right 190 = .ok (.ifCond .eq 20, 3) := by decide +kernel
theorem dM_right_193 : decode bM_right 193 = .ok (.aload_n 0, 1) := by decide +kernel
theorem dM_right_194 : decode bM_right 194 = .ok (.getfield 42, 3) := by decide +kernel
theorem dM_right_197 : decode bM_right 197 = .ok (.iload 8, 2) := by decide +kernel
theorem dM_right_199 : decode bM_right 199 = .ok (.laload, 1) := by decide +kernel
theorem dM_right_200 : decode bM_right 200 = .ok (.invokestatic 98, 3) := by decide +kernel
theorem dM_right_203 : decode bM_right 203 = .ok (.ifCond .ne 7, 3) := by decide +kernel
theorem dM_right_206 : decode bM_right 206 = .ok (.iconst 1, 1) := by decide +kernel
theorem dM_right_207 : decode bM_right 207 = .ok (.goto 4, 3) := by decide +kernel
theorem dM_right_210 : decode bM_right 210 = .ok (.iconst 0, 1) := by decide +kernel
theorem dM_right_211 : decode bM_right 211 = .ok (.istore 7, 2) := by decide +kernel
theorem dM_right_213 : decode bM_right 213 = .ok (.iinc 8 1, 3) := by decide +kernel
theorem dM_right_216 : decode bM_right 216 = .ok (.goto (-141), 3) := by decide +kernel
theorem dM_right_219 : decode bM_right 219 = .ok (.iload 7, 2) := by decide +kernel
theorem dM_right_221 : decode bM_right 221 = .ok (.ifCond .ne 5, 3) := by decide +kernel
theorem dM_right_224 : decode bM_right 224 = .ok (.iconst 0, 1) := by decide +kernel
theorem dM_right_225 : decode bM_right 225 = .ok (.ireturn, 1) := by decide +kernel
theorem dM_right_226 : decode bM_right 226 = .ok (.iconst 0, 1) := by decide +kernel
theorem dM_right_227 : decode bM_right 227 = .ok (.istore 8, 2) := by decide +kernel
theorem dM_right_229 : decode bM_right 229 = .ok (.iload 6, 2) := by decide +kernel
theorem dM_right_231 : decode bM_right 231 = .ok (.iconst (-1), 1) := by decide +kernel
theorem dM_right_232 : decode bM_right 232 = .ok (.if_icmp .eq 45, 3) := by decide +kernel
theorem dM_right_235 : decode bM_right 235 = .ok (.iload 8, 2) := by decide +kernel
theorem dM_right_237 : decode bM_right 237 = .ok (.bipush 36, 2) := by decide +kernel
theorem dM_right_239 : decode bM_right 239 = .ok (.if_icmp .gt 38, 3) := by decide +kernel
theorem dM_right_242 : decode bM_right 242 = .ok (.aload_n 0, 1) := by decide +kernel
theorem dM_right_243 : decode bM_right 243 = .ok (.iload 8, 2) := by decide +kernel
theorem dM_right_245 : decode bM_right 245 = .ok (.invokevirtual 90, 3) := by decide +kernel
theorem dM_right_248 : decode bM_right 248 = .ok (.ifCond .eq 23, 3) := by decide +kernel
theorem dM_right_251 : decode bM_right 251 = .ok (.aload_n 0, 1) := by decide +kernel
theorem dM_right_252 : decode bM_right 252 = .ok (.getfield 39, 3) := by decide +kernel
theorem dM_right_255 : decode bM_right 255 = .ok (.bipush 13, 2) := by decide +kernel
theorem dM_right_257 : decode bM_right 257 = .ok (.iload 8, 2) := by decide +kernel
theorem dM_right_259 : decode bM_right 259 = .ok (.imul, 1) := by decide +kernel
theorem dM_right_260 : decode bM_right 260 = .ok (.bipush 12, 2) := by decide +kernel
theorem dM_right_262 : decode bM_right 262 = .ok (.iadd, 1) := by decide +kernel
theorem dM_right_263 : decode bM_right 263 = .ok (.aload_n 0, 1) := by decide +kernel
theorem dM_right_264 : decode bM_right 264 = .ok (.getfield 42, 3) := by decide +kernel
theorem dM_right_267 : decode bM_right 267 = .ok (.iload 8, 2) := by decide +kernel
theorem dM_right_269 : decode bM_right 269 = .ok (.laload, 1) := by decide +kernel
theorem dM_right_270 : decode bM_right 270 = .ok (.lastore, 1) := by decide +kernel
theorem dM_right_271 : decode bM_right 271 = .ok (.iinc 8 1, 3) := by decide +kernel
theorem dM_right_274 : decode bM_right 274 = .ok (.goto (-45), 3) := by decide +kernel
theorem dM_right_277 : decode bM_right 277 = .ok (.aload_n 0, 1) := by decide +kernel
theorem dM_right_278 : decode bM_right 278 = .ok (.getfield 20, 3) := by decide +kernel
theorem dM_right_281 : decode bM_right 281 = .ok (.iload_n 1, 1) := by decide +kernel
theorem dM_right_282 : decode bM_right 282 = .ok (.lload_n 2, 1) := by decide +kernel
theorem dM_right_283 : decode bM_right 283 = .ok (.lastore, 1) := by decide +kernel
theorem dM_right_284 : decode bM_right 284 = .ok (.aload_n 0, 1) := by decide +kernel
theorem dM_right_285 : decode bM_right 285 = .ok (.iconst (-1), 1) := by decide +kernel
theorem dM_right_286 : decode bM_right 286 = .ok (.putfield 45, 3) := by decide +kernel
theorem dM_right_289 : decode bM_right 289 = .ok (.iconst 1, 1) := by decide +kernel
theorem dM_right_290 : decode bM_right 290 = .ok (.ireturn, 1) := by decide +kernel
theorem dM_sum_0 : decode bM_sum 0 = .ok (.iload_n 2, 1) := by decide +kernel
theorem dM_sum_1 : decode bM_sum 1 = .ok (.bipush 12, 2) := by decide +kernel
theorem dM_sum_3 : decode bM_sum 3 = .ok (.if_icmp .ne 18, 3) := by decide +kernel
theorem dM_sum_6 : decode bM_sum 6 = .ok (.aload_n 0, 1) := by decide +kernel
theorem dM_sum_7 : decode bM_sum 7 = .ok (.getfield 29, 3) := by decide +kernel
theorem dM_sum_10 : decode bM_sum 10 = .ok (.lneg, 1) := by decide +kernel
theorem dM_sum_11 : decode bM_sum 11 = .ok (.aload_n 0, 1) := by decide +kernel
theorem dM_sum_12 : decode bM_sum 12 = .ok (.getfield 20, 3) := by decide +kernel
theorem dM_sum_15 : decode bM_sum 15 = .ok (.iload_n 1, 1) := by decide +kernel
theorem dM_sum_16 : decode bM_sum 16 = .ok (.laload, 1) := by decide +kernel
theorem dM_sum_17 : decode bM_sum 17 = .ok (.lmul, 1) := by decide +kernel
theorem dM_sum_18 : decode bM_sum 18 = .ok (.goto 4, 3) := by decide +kernel
theorem dM_sum_21 : decode bM_sum 21 = .ok (.lconst 0, 1) := by decide +kernel
theorem dM_sum_22 : decode bM_sum 22 = .ok (.lstore_n 3, 1) := by decide +kernel
theorem dM_sum_23 : decode bM_sum 23 = .ok (.iconst 0, 1) := by decide +kernel
theorem dM_sum_24 : decode bM_sum 24 = .ok (.istore 5, 2) := by decide +kernel
theorem dM_sum_26 : decode bM_sum 26 = .ok (.iload 5, 2) := by decide +kernel
theorem dM_sum_28 : decode bM_sum 28 = .ok (.aload_n 0, 1) := by decide +kernel
theorem dM_sum_29 : decode bM_sum 29 = .ok (.getfield 59, 3) := by decide +kernel
theorem dM_sum_32 : decode bM_sum 32 = .ok (.if_icmp .ge 74, 3) := by decide +kernel
theorem dM_sum_35 : decode bM_sum 35 = .ok (.aload_n 0, 1) := by decide +kernel
theorem dM_sum_36 : decode bM_sum 36 = .ok (.getfield 33, 3) := by decide +kernel
theorem dM_sum_39 : decode bM_sum 39 = .ok (.iload 5, 2) := by decide +kernel
theorem dM_sum_41 : decode bM_sum 41 = .ok (.iaload, 1) := by decide +kernel
theorem dM_sum_42 : decode bM_sum 42 = .ok (.iconst (-1), 1) := by decide +kernel
theorem dM_sum_43 : decode bM_sum 43 = .ok (.if_icmp .ne 18, 3) := by decide +kernel
theorem dM_sum_46 : decode bM_sum 46 = .ok (.aload_n 0, 1) := by decide +kernel
theorem dM_sum_47 : decode bM_sum 47 = .ok (.getfield 39, 3) := by decide +kernel
theorem dM_sum_50 : decode bM_sum 50 = .ok (.bipush 13, 2) := by decide +kernel
theorem dM_sum_52 : decode bM_sum 52 = .ok (.iload 5, 2) := by decide +kernel
theorem dM_sum_54 : decode bM_sum 54 = .ok (.imul, 1) := by decide +kernel
theorem dM_sum_55 : decode bM_sum 55 = .ok (.iload_n 2, 1) := by decide +kernel
theorem dM_sum_56 : decode bM_sum 56 = .ok (.iadd, 1) := by decide +kernel
theorem dM_sum_57 : decode bM_sum 57 = .ok (.laload, 1) := by decide +kernel
theorem dM_sum_58 : decode bM_sum 58 = .ok (.goto 22, 3) := by decide +kernel
theorem dM_sum_61 : decode bM_sum 61 = .ok (.aload_n 0, 1) := by decide +kernel
theorem dM_sum_62 : decode bM_sum 62 = .ok (.getfield 33, 3) := by decide +kernel
theorem dM_sum_65 : decode bM_sum 65 = .ok (.iload 5, 2) := by decide +kernel
theorem dM_sum_67 : decode bM_sum 67 = .ok (.iaload, 1) := by decide +kernel
theorem dM_sum_68 : decode bM_sum 68 = .ok (.iload_n 2, 1) := by decide +kernel
theorem dM_sum_69 : decode bM_sum 69 = .ok (.if_icmp .ne 10, 3) := by decide +kernel
theorem dM_sum_72 : decode bM_sum 72 = .ok (.aload_n 0, 1) := by decide +kernel
theorem dM_sum_73 : decode bM_sum 73 = .ok (.getfield 29, 3) := by decide +kernel
theorem dM_sum_76 : decode bM_sum 76 = .ok (.goto 4, 3) := by decide +kernel
theorem dM_sum_79 : decode bM_sum 79 = .ok (.lconst 0, 1) := by decide +kernel
theorem dM_sum_80 : decode bM_sum 80 = .ok (.lstore 6, 2) := by decide +kernel
theorem dM_sum_82 : decode bM_sum 82 = .ok (.lload_n 3, 1) := by decide +kernel
theorem dM_sum_83 : decode bM_sum 83 = .ok (.aload_n 0, 1) := by decide +kernel
theorem dM_sum_84 : decode bM_sum 84 = .ok (.getfield 23, 3) := by decide +kernel
theorem dM_sum_87 : decode bM_sum 87 = .ok (.bipush 12, 2) := by decide +kernel
theorem dM_sum_89 : decode bM_sum 89 = .ok (.iload_n 1, 1) := by decide +kernel
theorem dM_sum_90 : decode bM_sum 90 = .ok (.imul, 1) := by decide +kernel
theorem dM_sum_91 : decode bM_sum 91 = .ok (.iload 5, 2) := by decide +kernel
theorem dM_sum_93 : decode bM_sum 93 = .ok (.iadd, 1) := by decide +kernel
theorem dM_sum_94 : decode bM_sum 94 = .ok (.laload, 1) := by decide +kernel
theorem dM_sum_95 : decode bM_sum 95 = .ok (.lload 6, 2) := by decide +kernel
theorem dM_sum_97 : decode bM_sum 97 = .ok (.lmul, 1) := by decide +kernel
theorem dM_sum_98 : decode bM_sum 98 = .ok (.ladd, 1) := by decide +kernel
theorem dM_sum_99 : decode bM_sum 99 = .ok (.lstore_n 3, 1) := by decide +kernel
theorem dM_sum_100 : decode bM_sum 100 = .ok (.iinc 5 1, 3) := by decide +kernel
theorem dM_sum_103 : decode bM_sum 103 = .ok (.goto (-77), 3) := by decide +kernel
theorem dM_sum_106 : decode bM_sum 106 = .ok (.lload_n 3, 1) := by decide +kernel
theorem dM_sum_107 : decode bM_sum 107 = .ok (.lreturn, 1) := by decide +kernel
theorem dM_comes_0 : decode bM_comes 0 = .ok (.iconst 1, 1) := by decide +kernel
theorem dM_comes_1 : decode bM_comes 1 = .ok (.istore_n 2, 1) := by decide +kernel
theorem dM_comes_2 : decode bM_comes 2 = .ok (.iconst 0, 1) := by decide +kernel
theorem dM_comes_3 : decode bM_comes 3 = .ok (.istore_n 3, 1) := by decide +kernel
theorem dM_comes_4 : decode bM_comes 4 = .ok (.iload_n 3, 1) := by decide +kernel
theorem dM_comes_5 : decode bM_comes 5 = .ok (.aload_n 0, 1) := by decide +kernel
theorem dM_comes_6 : decode bM_comes 6 = .ok (.getfield 59, 3) := by decide +kernel
theorem dM_comes_9 : decode bM_comes 9 = .ok (.if_icmp .gt 48, 3) := by decide +kernel
theorem dM_comes_12 : decode bM_comes 12 = .ok (.iload_n 3, 1) := by decide +kernel
theorem dM_comes_13 : decode bM_comes 13 = .ok (.aload_n 0, 1) := by decide +kernel
theorem dM_comes_14 : decode bM_comes 14 = .ok (.getfield 59, 3) := by decide +kernel
theorem dM_comes_17 : decode bM_comes 17 = .ok (.if_icmp .ne 8, 3) := by decide +kernel
theorem dM_comes_20 : decode bM_comes 20 = .ok (.bipush 12, 2) := by decide +kernel
theorem dM_comes_22 : decode bM_comes 22 = .ok (.goto 4, 3) := by decide +kernel
theorem dM_comes_25 : decode bM_comes 25 = .ok (.iload_n 3, 1) := by decide +kernel
theorem dM_comes_26 : decode bM_comes 26 = .ok (.istore 4, 2) := by decide +kernel
theorem dM_comes_28 : decode bM_comes 28 = .ok (.iload_n 2, 1) := by decide +kernel
theorem dM_comes_29 : decode bM_comes 29 = .ok (.ifCond .eq 20, 3) := by decide +kernel
theorem dM_comes_32 : decode bM_comes 32 = .ok (.aload_n 0, 1) := by decide +kernel
theorem dM_comes_33 : decode bM_comes 33 = .ok (.iload_n 1, 1) := by decide +kernel
theorem dM_comes_34 : decode bM_comes 34 = .ok (.iload 4, 2) := by decide +kernel
theorem dM_comes_36 : decode bM_comes 36 = .ok (.invokevirtual 102, 3) := by decide +kernel
theorem dM_comes_39 : decode bM_comes 39 = .ok (.invokestatic 98, 3) := by decide +kernel
theorem dM_comes_42 : decode bM_comes 42 = .ok (.ifCond .ne 7, 3) := by decide +kernel
theorem dM_comes_45 : decode bM_comes 45 = .ok (.iconst 1, 1) := by decide +kernel
theorem dM_comes_46 : decode bM_comes 46 = .ok (.goto 4, 3) := by decide +kernel
theorem dM_comes_49 : decode bM_comes 49 = .ok (.iconst 0, 1) := by decide +kernel
theorem dM_comes_50 : decode bM_comes 50 = .ok (.istore_n 2, 1) := by decide +kernel
theorem dM_comes_51 : decode bM_comes 51 = .ok (.iinc 3 1, 3) := by decide +kernel
theorem dM_comes_54 : decode bM_comes 54 = .ok (.goto (-50), 3) := by decide +kernel
theorem dM_comes_57 : decode bM_comes 57 = .ok (.iload_n 2, 1) := by decide +kernel
theorem dM_comes_58 : decode bM_comes 58 = .ok (.ifCond .ne 5, 3) := by decide +kernel
theorem dM_comes_61 : decode bM_comes 61 = .ok (.iconst 0, 1) := by decide +kernel
theorem dM_comes_62 : decode bM_comes 62 = .ok (.ireturn, 1) := by decide +kernel
theorem dM_comes_63 : decode bM_comes 63 = .ok (.aload_n 0, 1) := by decide +kernel
theorem dM_comes_64 : decode bM_comes 64 = .ok (.getfield 13, 3) := by decide +kernel
theorem dM_comes_67 : decode bM_comes 67 = .ok (.iload_n 1, 1) := by decide +kernel
theorem dM_comes_68 : decode bM_comes 68 = .ok (.iaload, 1) := by decide +kernel
theorem dM_comes_69 : decode bM_comes 69 = .ok (.iconst 2, 1) := by decide +kernel
theorem dM_comes_70 : decode bM_comes 70 = .ok (.if_icmp .ne 7, 3) := by decide +kernel
theorem dM_comes_73 : decode bM_comes 73 = .ok (.iconst 2, 1) := by decide +kernel
theorem dM_comes_74 : decode bM_comes 74 = .ok (.goto 4, 3) := by decide +kernel
theorem dM_comes_77 : decode bM_comes 77 = .ok (.iconst 1, 1) := by decide +kernel
theorem dM_comes_78 : decode bM_comes 78 = .ok (.istore_n 3, 1) := by decide +kernel
theorem dM_comes_79 : decode bM_comes 79 = .ok (.iconst 0, 1) := by decide +kernel
theorem dM_comes_80 : decode bM_comes 80 = .ok (.istore 4, 2) := by decide +kernel
theorem dM_comes_82 : decode bM_comes 82 = .ok (.iload 4, 2) := by decide +kernel
theorem dM_comes_84 : decode bM_comes 84 = .ok (.iload_n 3, 1) := by decide +kernel
theorem dM_comes_85 : decode bM_comes 85 = .ok (.if_icmp .ge 118, 3) := by decide +kernel
theorem dM_comes_88 : decode bM_comes 88 = .ok (.aload_n 0, 1) := by decide +kernel
theorem dM_comes_89 : decode bM_comes 89 = .ok (.getfield 59, 3) := by decide +kernel
theorem dM_comes_92 : decode bM_comes 92 = .ok (.aload_n 0, 1) := by decide +kernel
theorem dM_comes_93 : decode bM_comes 93 = .ok (.getfield 87, 3) := by decide +kernel
theorem dM_comes_96 : decode bM_comes 96 = .ok (.iadd, 1) := by decide +kernel
theorem dM_comes_97 : decode bM_comes 97 = .ok (.iload 4, 2) := by decide +kernel
theorem dM_comes_99 : decode bM_comes 99 = .ok (.iadd, 1) := by decide +kernel
theorem dM_comes_100 : decode bM_comes 100 = .ok (.istore 5, 2) := by decide +kernel
theorem dM_comes_102 : decode bM_comes 102 = .ok (.aload_n 0, 1) := by decide +kernel
theorem dM_comes_103 : decode bM_comes 103 = .ok (.getfield 13, 3) := by decide +kernel
theorem dM_comes_106 : decode bM_comes 106 = .ok (.iload_n 1, 1) := by decide +kernel
theorem dM_comes_107 : decode bM_comes 107 = .ok (.iaload, 1) := by decide +kernel
theorem dM_comes_108 : decode bM_comes 108 = .ok (.iconst 1, 1) := by decide +kernel
theorem dM_comes_109 : decode bM_comes 109 = .ok (.if_icmp .eq 9, 3) := by decide +kernel
theorem dM_comes_112 : decode bM_comes 112 = .ok (.iload 4, 2) := by decide +kernel
theorem dM_comes_114 : decode bM_comes 114 = .ok (.iconst 1, 1) := by decide +kernel
theorem dM_comes_115 : decode bM_comes 115 = .ok (.if_icmp .ne 7, 3) := by decide +kernel
theorem dM_comes_118 : decode bM_comes 118 = .ok (.iconst 1, 1) := by decide +kernel
theorem dM_comes_119 : decode bM_comes 119 = .ok (.goto 4, 3) := by decide +kernel
theorem dM_comes_122 : decode bM_comes 122 = .ok (.iconst 0, 1) := by decide +kernel
theorem dM_comes_123 : decode bM_comes 123 = .ok (.istore 6, 2) := by decide +kernel
theorem dM_comes_125 : decode bM_comes 125 = .ok (.iconst 0, 1) := by decide +kernel
theorem dM_comes_126 : decode bM_comes 126 = .ok (.istore 7, 2) := by decide +kernel
theorem dM_comes_128 : decode bM_comes 128 = .ok (.iload 7, 2) := by decide +kernel
theorem dM_comes_130 : decode bM_comes 130 = .ok (.aload_n 0, 1) := by decide +kernel
theorem dM_comes_131 : decode bM_comes 131 = .ok (.getfield 59, 3) := by decide +kernel
theorem dM_comes_134 : decode bM_comes 134 = .ok (.if_icmp .gt 63, 3) := by decide +kernel
theorem dM_comes_137 : decode bM_comes 137 = .ok (.iload 7, 2) := by decide +kernel
theorem dM_comes_139 : decode bM_comes 139 = .ok (.aload_n 0, 1) := by decide +kernel
theorem dM_comes_140 : decode bM_comes 140 = .ok (.getfield 59, 3) := by decide +kernel
theorem dM_comes_143 : decode bM_comes 143 = .ok (.if_icmp .ne 8, 3) := by decide +kernel
theorem dM_comes_146 : decode bM_comes 146 = .ok (.bipush 12, 2) := by decide +kernel
theorem dM_comes_148 : decode bM_comes 148 = .ok (.goto 5, 3) := by decide +kernel
theorem dM_comes_151 : decode bM_comes 151 = .ok (.iload 7, 2) := by decide +kernel
theorem dM_comes_153 : decode bM_comes 153 = .ok (.istore 8, 2) := by decide +kernel
theorem dM_comes_155 : decode bM_comes 155 = .ok (.aload_n 0, 1) := by decide +kernel
theorem dM_comes_156 : decode bM_comes 156 = .ok (.getfield 39, 3) := by decide +kernel
theorem dM_comes_159 : decode bM_comes 159 = .ok (.bipush 13, 2) := by decide +kernel
theorem dM_comes_161 : decode bM_comes 161 = .ok (.iload 5, 2) := by decide +kernel
theorem dM_comes_163 : decode bM_comes 163 = .ok (.imul, 1) := by decide +kernel
theorem dM_comes_164 : decode bM_comes 164 = .ok (.iload 8, 2) := by decide +kernel
theorem dM_comes_166 : decode bM_comes 166 = .ok (.iadd, 1) := by decide +kernel
theorem dM_comes_167 : decode bM_comes 167 = .ok (.iload 6, 2) := by decide +kernel
theorem dM_comes_169 : decode bM_comes 169 = .ok (.ifCond .eq 14, 3) := by decide +kernel
theorem dM_comes_172 : decode bM_comes 172 = .ok (.aload_n 0, 1) := by decide +kernel
theorem dM_comes_173 : decode bM_comes 173 = .ok (.iload_n 1, 1) := by decide +kernel
theorem dM_comes_174 : decode bM_comes 174 = .ok (.iload 8, 2) := by decide +kernel
theorem dM_comes_176 : decode bM_comes 176 = .ok (.invokevirtual 102, 3) := by decide +kernel
theorem dM_comes_179 : decode bM_comes 179 = .ok (.lneg, 1) := by decide +kernel
theorem dM_comes_180 : decode bM_comes 180 = .ok (.goto 10, 3) := by decide +kernel
theorem dM_comes_183 : decode bM_comes 183 = .ok (.aload_n 0, 1) := by decide +kernel
theorem dM_comes_184 : decode bM_comes 184 = .ok (.iload_n 1, 1) := by decide +kernel
theorem dM_comes_185 : decode bM_comes 185 = .ok (.iload 8, 2) := by decide +kernel
theorem dM_comes_187 : decode bM_comes 187 = .ok (.invokevirtual 102, 3) := by decide +kernel
theorem dM_comes_190 : decode bM_comes 190 = .ok (.lastore, 1) := by decide +kernel
theorem dM_comes_191 : decode bM_comes 191 = .ok (.iinc 7 1, 3) := by decide +kernel
theorem dM_comes_194 : decode bM_comes 194 = .ok (.goto (-66), 3) := by decide +kernel
theorem dM_comes_197 : decode bM_comes 197 = .ok (.iinc 4 1, 3) := by decide +kernel
theorem dM_comes_200 : decode bM_comes 200 = .ok (.goto (-118), 3) := by decide +kernel
theorem dM_comes_203 : decode bM_comes 203 = .ok (.aload_n 0, 1) := by decide +kernel
theorem dM_comes_204 : decode bM_comes 204 = .ok (.getfield 26, 3) := by decide +kernel
theorem dM_comes_207 : decode bM_comes 207 = .ok (.iload_n 1, 1) := by decide +kernel
theorem dM_comes_208 : decode bM_comes 208 = .ok (.aload_n 0, 1) := by decide +kernel
theorem dM_comes_209 : decode bM_comes 209 = .ok (.getfield 59, 3) := by decide +kernel
theorem dM_comes_212 : decode bM_comes 212 = .ok (.aload_n 0, 1) := by decide +kernel
theorem dM_comes_213 : decode bM_comes 213 = .ok (.getfield 87, 3) := by decide +kernel
theorem dM_comes_216 : decode bM_comes 216 = .ok (.iadd, 1) := by decide +kernel
theorem dM_comes_217 : decode bM_comes 217 = .ok (.iastore, 1) := by decide +kernel
theorem dM_comes_218 : decode bM_comes 218 = .ok (.aload_n 0, 1) := by decide +kernel
theorem dM_comes_219 : decode bM_comes 219 = .ok (.dup, 1) := by decide +kernel
theorem dM_comes_220 : decode bM_comes 220 = .ok (.getfield 87, 3) := by decide +kernel
theorem dM_comes_223 : decode bM_comes 223 = .ok (.iload_n 3, 1) := by decide +kernel
theorem dM_comes_224 : decode bM_comes 224 = .ok (.iadd, 1) := by decide +kernel
theorem dM_comes_225 : decode bM_comes 225 = .ok (.putfield 87, 3) := by decide +kernel
theorem dM_comes_228 : decode bM_comes 228 = .ok (.iconst 1, 1) := by decide +kernel
theorem dM_comes_229 : decode bM_comes 229 = .ok (.ireturn, 1) := by decide +kernel
theorem dM_leaving_0 : decode bM_leaving 0 = .ok (.iconst 0, 1) := by decide +kernel
theorem dM_leaving_1 : decode bM_leaving 1 = .ok (.istore_n 1, 1) := by decide +kernel
theorem dM_leaving_2 : decode bM_leaving 2 = .ok (.iload_n 1, 1) := by decide +kernel
theorem dM_leaving_3 : decode bM_leaving 3 = .ok (.aload_n 0, 1) := by decide +kernel
theorem dM_leaving_4 : decode bM_leaving 4 = .ok (.getfield 59, 3) := by decide +kernel
theorem dM_leaving_7 : decode bM_leaving 7 = .ok (.aload_n 0, 1) := by decide +kernel
theorem dM_leaving_8 : decode bM_leaving 8 = .ok (.getfield 87, 3) := by decide +kernel
theorem dM_leaving_11 : decode bM_leaving 11 = .ok (.iadd, 1) := by decide +kernel
theorem dM_leaving_12 : decode bM_leaving 12 = .ok (.if_icmp .ge 38, 3) := by decide +kernel
theorem dM_leaving_15 : decode bM_leaving 15 = .ok (.aload_n 0, 1) := by decide +kernel
theorem dM_leaving_16 : decode bM_leaving 16 = .ok (.getfield 33, 3) := by decide +kernel
theorem dM_leaving_19 : decode bM_leaving 19 = .ok (.iload_n 1, 1) := by decide +kernel
theorem dM_leaving_20 : decode bM_leaving 20 = .ok (.iaload, 1) := by decide +kernel
theorem dM_leaving_21 : decode bM_leaving 21 = .ok (.iconst (-1), 1) := by decide +kernel
theorem dM_leaving_22 : decode bM_leaving 22 = .ok (.if_icmp .ne 22, 3) := by decide +kernel
theorem dM_leaving_25 : decode bM_leaving 25 = .ok (.aload_n 0, 1) := by decide +kernel
theorem dM_leaving_26 : decode bM_leaving 26 = .ok (.getfield 39, 3) := by decide +kernel
theorem dM_leaving_29 : decode bM_leaving 29 = .ok (.bipush 13, 2) := by decide +kernel
theorem dM_leaving_31 : decode bM_leaving 31 = .ok (.iload_n 1, 1) := by decide +kernel
theorem dM_leaving_32 : decode bM_leaving 32 = .ok (.imul, 1) := by decide +kernel
theorem dM_leaving_33 : decode bM_leaving 33 = .ok (.bipush 12, 2) := by decide +kernel
theorem dM_leaving_35 : decode bM_leaving 35 = .ok (.iadd, 1) := by decide +kernel
theorem dM_leaving_36 : decode bM_leaving 36 = .ok (.laload, 1) := by decide +kernel
theorem dM_leaving_37 : decode bM_leaving 37 = .ok (.lconst 0, 1) := by decide +kernel
theorem dM_leaving_38 : decode bM_leaving 38 = .ok (.lcmp, 1) := by decide +kernel
theorem dM_leaving_39 : decode bM_leaving 39 = .ok (.ifCond .ge 5, 3) := by decide +kernel
theorem dM_leaving_42 : decode bM_leaving 42 = .ok (.iload_n 1, 1) := by decide +kernel
theorem dM_leaving_43 : decode bM_leaving 43 = .ok (.ireturn, 1) := by decide +kernel
theorem dM_leaving_44 : decode bM_leaving 44 = .ok (.iinc 1 1, 3) := by decide +kernel
theorem dM_leaving_47 : decode bM_leaving 47 = .ok (.goto (-45), 3) := by decide +kernel
theorem dM_leaving_50 : decode bM_leaving 50 = .ok (.iconst (-1), 1) := by decide +kernel
theorem dM_leaving_51 : decode bM_leaving 51 = .ok (.ireturn, 1) := by decide +kernel
theorem dM_entering_0 : decode bM_entering 0 = .ok (.iconst (-1), 1) := by decide +kernel
theorem dM_entering_1 : decode bM_entering 1 = .ok (.istore_n 2, 1) := by decide +kernel
theorem dM_entering_2 : decode bM_entering 2 = .ok (.iconst 0, 1) := by decide +kernel
theorem dM_entering_3 : decode bM_entering 3 = .ok (.istore_n 3, 1) := by decide +kernel
theorem dM_entering_4 : decode bM_entering 4 = .ok (.iload_n 3, 1) := by decide +kernel
theorem dM_entering_5 : decode bM_entering 5 = .ok (.aload_n 0, 1) := by decide +kernel
theorem dM_entering_6 : decode bM_entering 6 = .ok (.getfield 59, 3) := by decide +kernel
theorem dM_entering_9 : decode bM_entering 9 = .ok (.if_icmp .ge 125, 3) := by decide +kernel
theorem dM_entering_12 : decode bM_entering 12 = .ok (.aload_n 0, 1) := by decide +kernel
theorem dM_entering_13 : decode bM_entering 13 = .ok (.getfield 39, 3) := by decide +kernel
theorem dM_entering_16 : decode bM_entering 16 = .ok (.bipush 13, 2) := by decide +kernel
theorem dM_entering_18 : decode bM_entering 18 = .ok (.iload_n 1, 1) := by decide +kernel
theorem dM_entering_19 : decode bM_entering 19 = .ok (.imul, 1) := by decide +kernel
theorem dM_entering_20 : decode bM_entering 20 = .ok (.iload_n 3, 1) := by decide +kernel
theorem dM_entering_21 : decode bM_entering 21 = .ok (.iadd, 1) := by decide +kernel
theorem dM_entering_22 : decode bM_entering 22 = .ok (.laload, 1) := by decide +kernel
theorem dM_entering_23 : decode bM_entering 23 = .ok (.lstore 4, 2) := by decide +kernel
theorem dM_entering_25 : decode bM_entering 25 = .ok (.lload 4, 2) := by decide +kernel
theorem dM_entering_27 : decode bM_entering 27 = .ok (.lconst 0, 1) := by decide +kernel
theorem dM_entering_28 : decode bM_entering 28 = .ok (.lcmp, 1) := by decide +kernel
theorem dM_entering_29 : decode bM_entering 29 = .ok (.ifCond .le 99, 3) := by decide +kernel
theorem dM_entering_32 : decode bM_entering 32 = .ok (.iload_n 2, 1) := by decide +kernel
theorem dM_entering_33 : decode bM_entering 33 = .ok (.iconst (-1), 1) := by decide +kernel
theorem dM_entering_34 : decode bM_entering 34 = .ok (.if_icmp .ne 9, 3) := by decide +kernel
theorem dM_entering_37 : decode bM_entering 37 = .ok (.ldc2_w 106, 3) := by decide +kernel
theorem dM_entering_40 : decode bM_entering 40 = .ok (.goto 25, 3) := by decide +kernel
theorem dM_entering_43 : decode bM_entering 43 = .ok (.aload_n 0, 1) := by decide +kernel
theorem dM_entering_44 : decode bM_entering 44 = .ok (.getfield 39, 3) := by decide +kernel
theorem dM_entering_47 : decode bM_entering 47 = .ok (.sipush 468, 3) := by decide +kernel
theorem dM_entering_50 : decode bM_entering 50 = .ok (.iload_n 3, 1) := by decide +kernel
theorem dM_entering_51 : decode bM_entering 51 = .ok (.iadd, 1) := by decide +kernel
theorem dM_entering_52 : decode bM_entering 52 = .ok (.laload, 1) := by decide +kernel
theorem dM_entering_53 : decode bM_entering 53 = .ok (.aload_n 0, 1) := by decide +kernel
theorem dM_entering_54 : decode bM_entering 54 = .ok (.getfield 39, 3) := by decide +kernel
theorem dM_entering_57 : decode bM_entering 57 = .ok (.bipush 13, 2) := by decide +kernel
theorem dM_entering_59 : decode bM_entering 59 = .ok (.iload_n 1, 1) := by decide +kernel
theorem dM_entering_60 : decode bM_entering 60 = .ok (.imul, 1) := by decide +kernel
theorem dM_entering_61 : decode bM_entering 61 = .ok (.iload_n 2, 1) := by decide +kernel
theorem dM_entering_62 : decode bM_entering 62 = .ok (.iadd, 1) := by decide +kernel
theorem dM_entering_63 : decode bM_entering 63 = .ok (.laload, 1) := by decide +kernel
theorem dM_entering_64 : decode bM_entering 64 = .ok (.lmul, 1) := by decide +kernel
theorem dM_entering_65 : decode bM_entering 65 = .ok (.lstore 6, 2) := by decide +kernel
theorem dM_entering_67 : decode bM_entering 67 = .ok (.iload_n 2, 1) := by decide +kernel
theorem dM_entering_68 : decode bM_entering 68 = .ok (.iconst (-1), 1) := by decide +kernel
theorem dM_entering_69 : decode bM_entering 69 = .ok (.if_icmp .ne 7, 3) := by decide +kernel
theorem dM_entering_72 : decode bM_entering 72 = .ok (.lconst 0, 1) := by decide +kernel
theorem dM_entering_73 : decode bM_entering 73 = .ok (.goto 16, 3) := by decide +kernel
theorem dM_entering_76 : decode bM_entering 76 = .ok (.aload_n 0, 1) := by decide +kernel
theorem dM_entering_77 : decode bM_entering 77 = .ok (.getfield 39, 3) := by decide +kernel
theorem dM_entering_80 : decode bM_entering 80 = .ok (.sipush 468, 3) := by decide +kernel
theorem dM_entering_83 : decode bM_entering 83 = .ok (.iload_n 2, 1) := by decide +kernel
theorem dM_entering_84 : decode bM_entering 84 = .ok (.iadd, 1) := by decide +kernel
theorem dM_entering_85 : decode bM_entering 85 = .ok (.laload, 1) := by decide +kernel
theorem dM_entering_86 : decode bM_entering 86 = .ok (.lload 4, 2) := by decide +kernel
theorem dM_entering_88 : decode bM_entering 88 = .ok (.lmul, 1) := by decide +kernel
theorem dM_entering_89 : decode bM_entering 89 = .ok (.lstore 8, 2) := by decide +kernel
theorem dM_entering_91 : decode bM_entering 91 = .ok (.lload 6, 2) := by decide +kernel
theorem dM_entering_93 : decode bM_entering 93 = .ok (.lload 8, 2) := by decide +kernel
theorem dM_entering_95 : decode bM_entering 95 = .ok (.lcmp, 1) := by decide +kernel
theorem dM_entering_96 : decode bM_entering 96 = .ok (.ifCond .lt 26, 3) := by decide +kernel
theorem dM_entering_99 : decode bM_entering 99 = .ok (.lload 6, 2) := by decide +kernel
theorem dM_entering_101 : decode bM_entering 101 = .ok (.lload 8, 2) := by decide +kernel
theorem dM_entering_103 : decode bM_entering 103 = .ok (.lcmp, 1) := by decide +kernel
theorem dM_entering_104 : decode bM_entering 104 = .ok (.ifCond .ne 22, 3) := by decide +kernel
theorem dM_entering_107 : decode bM_entering 107 = .ok (.aload_n 0, 1) := by decide +kernel
theorem dM_entering_108 : decode bM_entering 108 = .ok (.getfield 36, 3) := by decide +kernel
theorem dM_entering_111 : decode bM_entering 111 = .ok (.iload_n 3, 1) := by decide +kernel
theorem dM_entering_112 : decode bM_entering 112 = .ok (.iaload, 1) := by decide +kernel
theorem dM_entering_113 : decode bM_entering 113 = .ok (.aload_n 0, 1) := by decide +kernel
theorem dM_entering_114 : decode bM_entering 114 = .ok (.getfield 36, 3) := by decide +kernel
theorem dM_entering_117 : decode bM_entering 117 = .ok (.iload_n 2, 1) := by decide +kernel
theorem dM_entering_118 : decode bM_entering 118 = .ok (.iaload, 1) := by decide +kernel
theorem dM_entering_119 : decode bM_entering 119 = .ok (.if_icmp .ge 7, 3) := by decide +kernel
theorem dM_entering_122 : decode bM_entering 122 = .ok (.iload_n 3, 1) := by decide +kernel
theorem dM_entering_123 : decode bM_entering 123 = .ok (.goto 4, 3) := by decide +kernel
theorem dM_entering_126 : decode bM_entering 126 = .ok (.iload_n 2, 1) := by decide +kernel
theorem dM_entering_127 : decode bM_entering 127 = .ok (.istore_n 2, 1) := by decide +kernel
theorem dM_entering_128 : decode bM_entering 128 = .ok (.iinc 3 1, 3) := by decide +kernel
theorem dM_entering_131 : decode bM_entering 131 = .ok (.goto (-127), 3) := by decide +kernel
theorem dM_entering_134 : decode bM_entering 134 = .ok (.iload_n 2, 1) := by decide +kernel
theorem dM_entering_135 : decode bM_entering 135 = .ok (.ireturn, 1) := by decide +kernel
theorem dM_step_0 : decode bM_step 0 = .ok (.aload_n 0, 1) := by decide +kernel
theorem dM_step_1 : decode bM_step 1 = .ok (.getfield 39, 3) := by decide +kernel
theorem dM_step_4 : decode bM_step 4 = .ok (.bipush 13, 2) := by decide +kernel
theorem dM_step_6 : decode bM_step 6 = .ok (.iload_n 1, 1) := by decide +kernel
theorem dM_step_7 : decode bM_step 7 = .ok (.imul, 1) := by decide +kernel
theorem dM_step_8 : decode bM_step 8 = .ok (.iload_n 2, 1) := by decide +kernel
theorem dM_step_9 : decode bM_step 9 = .ok (.iadd, 1) := by decide +kernel
theorem dM_step_10 : decode bM_step 10 = .ok (.laload, 1) := by decide +kernel
theorem dM_step_11 : decode bM_step 11 = .ok (.lstore_n 3, 1) := by decide +kernel
theorem dM_step_12 : decode bM_step 12 = .ok (.aload_n 0, 1) := by decide +kernel
theorem dM_step_13 : decode bM_step 13 = .ok (.getfield 36, 3) := by decide +kernel
theorem dM_step_16 : decode bM_step 16 = .ok (.iload_n 2, 1) := by decide +kernel
theorem dM_step_17 : decode bM_step 17 = .ok (.iaload, 1) := by decide +kernel
theorem dM_step_18 : decode bM_step 18 = .ok (.istore 5, 2) := by decide +kernel
theorem dM_step_20 : decode bM_step 20 = .ok (.lload_n 3, 1) := by decide +kernel
theorem dM_step_21 : decode bM_step 21 = .ok (.invokestatic 98, 3) := by decide +kernel
theorem dM_step_24 : decode bM_step 24 = .ok (.ifCond .ne 7, 3) := by decide +kernel
theorem dM_step_27 : decode bM_step 27 = .ok (.iconst 1, 1) := by decide +kernel
theorem dM_step_28 : decode bM_step 28 = .ok (.goto 4, 3) := by decide +kernel
theorem dM_step_31 : decode bM_step 31 = .ok (.iconst 0, 1) := by decide +kernel
theorem dM_step_32 : decode bM_step 32 = .ok (.istore 6, 2) := by decide +kernel
theorem dM_step_34 : decode bM_step 34 = .ok (.iconst 0, 1) := by decide +kernel
theorem dM_step_35 : decode bM_step 35 = .ok (.istore 7, 2) := by decide +kernel
theorem dM_step_37 : decode bM_step 37 = .ok (.iload 7, 2) := by decide +kernel
theorem dM_step_39 : decode bM_step 39 = .ok (.bipush 36, 2) := by decide +kernel
theorem dM_step_41 : decode bM_step 41 = .ok (.if_icmp .gt 145, 3) := by decide +kernel
theorem dM_step_44 : decode bM_step 44 = .ok (.aload_n 0, 1) := by decide +kernel
theorem dM_step_45 : decode bM_step 45 = .ok (.iload 7, 2) := by decide +kernel
theorem dM_step_47 : decode bM_step 47 = .ok (.invokevirtual 90, 3) := by decide +kernel
theorem dM_step_50 : decode bM_step 50 = .ok (.ifCond .eq 130, 3) := by decide +kernel
theorem dM_step_53 : decode bM_step 53 = .ok (.iload 7, 2) := by decide +kernel
theorem dM_step_55 : decode bM_step 55 = .ok (.iload_n 1, 1) := by decide +kernel
theorem dM_step_56 : decode bM_step 56 = .ok (.if_icmp .eq 124, 3) := by decide +kernel
theorem dM_step_59 : decode bM_step 59 = .ok (.aload_n 0, 1) := by decide +kernel
theorem dM_step_60 : decode bM_step 60 = .ok (.getfield 39, 3) := by decide +kernel
theorem dM_step_63 : decode bM_step 63 = .ok (.bipush 13, 2) := by decide +kernel
theorem dM_step_65 : decode bM_step 65 = .ok (.iload 7, 2) := by decide +kernel
theorem dM_step_67 : decode bM_step 67 = .ok (.imul, 1) := by decide +kernel
theorem dM_step_68 : decode bM_step 68 = .ok (.iload_n 2, 1) := by decide +kernel
theorem dM_step_69 : decode bM_step 69 = .ok (.iadd, 1) := by decide +kernel
theorem dM_step_70 : decode bM_step 70 = .ok (.laload, 1) := by decide +kernel
theorem dM_step_71 : decode bM_step 71 = .ok (.lstore 8, 2) := by decide +kernel
theorem dM_step_73 : decode bM_step 73 = .ok (.iconst 0, 1) := by decide +kernel
theorem dM_step_74 : decode bM_step 74 = .ok (.istore 10, 2) := by decide +kernel
theorem dM_step_76 : decode bM_step 76 = .ok (.iload 10, 2) := by decide +kernel
theorem dM_step_78 : decode bM_step 78 = .ok (.bipush 12, 2) := by decide +kernel
theorem dM_step_80 : decode bM_step 80 = .ok (.if_icmp .gt 100, 3) := by decide +kernel
theorem dM_step_83 : decode bM_step 83 = .ok (.aload_n 0, 1) := by decide +kernel
theorem dM_step_84 : decode bM_step 84 = .ok (.getfield 42, 3) := by decide +kernel
theorem dM_step_87 : decode bM_step 87 = .ok (.bipush 13, 2) := by decide +kernel
theorem dM_step_89 : decode bM_step 89 = .ok (.iload 7, 2) := by decide +kernel
theorem dM_step_91 : decode bM_step 91 = .ok (.imul, 1) := by decide +kernel
theorem dM_step_92 : decode bM_step 92 = .ok (.iload 10, 2) := by decide +kernel
theorem dM_step_94 : decode bM_step 94 = .ok (.iadd, 1) := by decide +kernel
theorem dM_step_95 : decode bM_step 95 = .ok (.iload 10, 2) := by decide +kernel
theorem dM_step_97 : decode bM_step 97 = .ok (.iload_n 2, 1) := by decide +kernel
theorem dM_step_98 : decode bM_step 98 = .ok (.if_icmp .ne 8, 3) := by decide +kernel
theorem dM_step_101 : decode bM_step 101 = .ok (.lload 8, 2) := by decide +kernel
theorem dM_step_103 : decode bM_step 103 = .ok (.goto 39, 3) := by decide +kernel
theorem dM_step_106 : decode bM_step 106 = .ok (.aload_n 0, 1) := by decide +kernel
theorem dM_step_107 : decode bM_step 107 = .ok (.getfield 39, 3) := by decide +kernel
theorem dM_step_110 : decode bM_step 110 = .ok (.bipush 13, 2) := by decide +kernel
theorem dM_step_112 : decode bM_step 112 = .ok (.iload 7, 2) := by decide +kernel
theorem dM_step_114 : decode bM_step 114 = .ok (.imul, 1) := by decide +kernel
theorem dM_step_115 : decode bM_step 115 = .ok (.iload 10, 2) := by decide +kernel
theorem dM_step_117 : decode bM_step 117 = .ok (.iadd, 1) := by decide +kernel
theorem dM_step_118 : decode bM_step 118 = .ok (.laload, 1) := by decide +kernel
theorem dM_step_119 : decode bM_step 119 = .ok (.lload_n 3, 1) := by decide +kernel
theorem dM_step_120 : decode bM_step 120 = .ok (.lmul, 1) := by decide +kernel
theorem dM_step_121 : decode bM_step 121 = .ok (.lload 8, 2) := by decide +kernel
theorem dM_step_123 : decode bM_step 123 = .ok (.aload_n 0, 1) := by decide +kernel
theorem dM_step_124 : decode bM_step 124 = .ok (.getfield 39, 3) := by decide +kernel
theorem dM_step_127 : decode bM_step 127 = .ok (.bipush 13, 2) := by decide +kernel
theorem dM_step_129 : decode bM_step 129 = .ok (.iload_n 1, 1) := by decide +kernel
theorem dM_step_130 : decode bM_step 130 = .ok (.imul, 1) := by decide +kernel
theorem dM_step_131 : decode bM_step 131 = .ok (.iload 10, 2) := by decide +kernel
theorem dM_step_133 : decode bM_step 133 = .ok (.iadd, 1) := by decide +kernel
theorem dM_step_134 : decode bM_step 134 = .ok (.laload, 1) := by decide +kernel
theorem dM_step_135 : decode bM_step 135 = .ok (.lmul, 1) := by decide +kernel
theorem dM_step_136 : decode bM_step 136 = .ok (.lsub, 1) := by decide +kernel
theorem dM_step_137 : decode bM_step 137 = .ok (.aload_n 0, 1) := by decide +kernel
theorem dM_step_138 : decode bM_step 138 = .ok (.getfield 29, 3) := by decide +kernel
theorem dM_step_141 : decode bM_step 141 = .ok (.ldiv, 1) := by decide +kernel
theorem dM_step_142 : decode bM_step 142 = .ok (.lastore, 1) := by decide +kernel
theorem dM_step_143 : decode bM_step 143 = .ok (.iload 6, 2) := by decide +kernel
theorem dM_step_145 : decode bM_step 145 = .ok (.ifCond .eq 26, 3) := by decide +kernel
theorem dM_step_148 : decode bM_step 148 = .ok (.aload_n 0, 1) := by decide +kernel
theorem dM_step_149 : decode bM_step 149 = .ok (.getfield 42, 3) := by decide +kernel
theorem dM_step_152 : decode bM_step 152 = .ok (.bipush 13, 2) := by decide +kernel
theorem dM_step_154 : decode bM_step 154 = .ok (.iload 7, 2) := by decide +kernel
theorem dM_step_156 : decode bM_step 156 = .ok (.imul, 1) := by decide +kernel
theorem dM_step_157 : decode bM_step 157 = .ok (.iload 10, 2) := by decide +kernel
theorem dM_step_159 : decode bM_step 159 = .ok (.iadd, 1) := by decide +kernel
theorem dM_step_160 : decode bM_step 160 = .ok (.laload, 1) := by decide +kernel
theorem dM_step_161 : decode bM_step 161 = .ok (.invokestatic 98, 3) := by decide +kernel
theorem dM_step_164 : decode bM_step 164 = .ok (.ifCond .ne 7, 3) := by decide +kernel
theorem dM_step_167 : decode bM_step 167 = .ok (.iconst 1, 1) := by decide +kernel
theorem dM_step_168 : decode bM_step 168 = .ok (.goto 4, 3) := by decide +kernel
theorem dM_step_171 : decode bM_step 171 = .ok (.iconst 0, 1) := by decide +kernel
theorem dM_step_172 : decode bM_step 172 = .ok (.istore 6, 2) := by decide +kernel
theorem dM_step_174 : decode bM_step 174 = .ok (.iinc 10 1, 3) := by decide +kernel
theorem dM_step_177 : decode bM_step 177 = .ok (.goto (-101), 3) := by decide +kernel
theorem dM_step_180 : decode bM_step 180 = .ok (.iinc 7 1, 3) := by decide +kernel
theorem dM_step_183 : decode bM_step 183 = .ok (.goto (-146), 3) := by decide +kernel
theorem dM_step_186 : decode bM_step 186 = .ok (.iload 6, 2) := by decide +kernel
theorem dM_step_188 : decode bM_step 188 = .ok (.ifCond .ne 5, 3) := by decide +kernel
theorem dM_step_191 : decode bM_step 191 = .ok (.iconst 0, 1) := by decide +kernel
theorem dM_step_192 : decode bM_step 192 = .ok (.ireturn, 1) := by decide +kernel
theorem dM_step_193 : decode bM_step 193 = .ok (.iconst 0, 1) := by decide +kernel
theorem dM_step_194 : decode bM_step 194 = .ok (.istore 7, 2) := by decide +kernel
theorem dM_step_196 : decode bM_step 196 = .ok (.iload 7, 2) := by decide +kernel
theorem dM_step_198 : decode bM_step 198 = .ok (.bipush 36, 2) := by decide +kernel
theorem dM_step_200 : decode bM_step 200 = .ok (.if_icmp .gt 66, 3) := by decide +kernel
theorem dM_step_203 : decode bM_step 203 = .ok (.iconst 0, 1) := by decide +kernel
theorem dM_step_204 : decode bM_step 204 = .ok (.istore 8, 2) := by decide +kernel
theorem dM_step_206 : decode bM_step 206 = .ok (.aload_n 0, 1) := by decide +kernel
theorem dM_step_207 : decode bM_step 207 = .ok (.iload 7, 2) := by decide +kernel
theorem dM_step_209 : decode bM_step 209 = .ok (.invokevirtual 90, 3) := by decide +kernel
theorem dM_step_212 : decode bM_step 212 = .ok (.ifCond .eq 48, 3) := by decide +kernel
theorem dM_step_215 : decode bM_step 215 = .ok (.iload 7, 2) := by decide +kernel
theorem dM_step_217 : decode bM_step 217 = .ok (.iload_n 1, 1) := by decide +kernel
theorem dM_step_218 : decode bM_step 218 = .ok (.if_icmp .eq 42, 3) := by decide +kernel
theorem dM_step_221 : decode bM_step 221 = .ok (.iload 8, 2) := by decide +kernel
theorem dM_step_223 : decode bM_step 223 = .ok (.bipush 12, 2) := by decide +kernel
theorem dM_step_225 : decode bM_step 225 = .ok (.if_icmp .gt 35, 3) := by decide +kernel
theorem dM_step_228 : decode bM_step 228 = .ok (.aload_n 0, 1) := by decide +kernel
theorem dM_step_229 : decode bM_step 229 = .ok (.getfield 39, 3) := by decide +kernel
theorem dM_step_232 : decode bM_step 232 = .ok (.bipush 13, 2) := by decide +kernel
theorem dM_step_234 : decode bM_step 234 = .ok (.iload 7, 2) := by decide +kernel
theorem dM_step_236 : decode bM_step 236 = .ok (.imul, 1) := by decide +kernel
theorem dM_step_237 : decode bM_step 237 = .ok (.iload 8, 2) := by decide +kernel
theorem dM_step_239 : decode bM_step 239 = .ok (.iadd, 1) := by decide +kernel
theorem dM_step_240 : decode bM_step 240 = .ok (.aload_n 0, 1) := by decide +kernel
theorem dM_step_241 : decode bM_step 241 = .ok (.getfield 42, 3) := by decide +kernel
theorem dM_step_244 : decode bM_step 244 = .ok (.bipush 13, 2) := by decide +kernel
theorem dM_step_246 : decode bM_step 246 = .ok (.iload 7, 2) := by decide +kernel
theorem dM_step_248 : decode bM_step 248 = .ok (.imul, 1) := by decide +kernel
theorem dM_step_249 : decode bM_step 249 = .ok (.iload 8, 2) := by decide +kernel
theorem dM_step_251 : decode bM_step 251 = .ok (.iadd, 1) := by decide +kernel
theorem dM_step_252 : decode bM_step 252 = .ok (.laload, 1) := by decide +kernel
theorem dM_step_253 : decode bM_step 253 = .ok (.lastore, 1) := by decide +kernel
theorem dM_step_254 : decode bM_step 254 = .ok (.iinc 8 1, 3) := by decide +kernel
theorem dM_step_257 : decode bM_step 257 = .ok (.goto (-51), 3) := by decide +kernel
theorem dM_step_260 : decode bM_step 260 = .ok (.iinc 7 1, 3) := by decide +kernel
theorem dM_step_263 : decode bM_step 263 = .ok (.goto (-67), 3) := by decide +kernel
theorem dM_step_266 : decode bM_step 266 = .ok (.iconst 0, 1) := by decide +kernel
theorem dM_step_267 : decode bM_step 267 = .ok (.istore 7, 2) := by decide +kernel
theorem dM_step_269 : decode bM_step 269 = .ok (.iload 7, 2) := by decide +kernel
theorem dM_step_271 : decode bM_step 271 = .ok (.bipush 12, 2) := by decide +kernel
theorem dM_step_273 : decode bM_step 273 = .ok (.if_icmp .gt 48, 3) := by decide +kernel
theorem dM_step_276 : decode bM_step 276 = .ok (.aload_n 0, 1) := by decide +kernel
theorem dM_step_277 : decode bM_step 277 = .ok (.getfield 39, 3) := by decide +kernel
theorem dM_step_280 : decode bM_step 280 = .ok (.bipush 13, 2) := by decide +kernel
theorem dM_step_282 : decode bM_step 282 = .ok (.iload 5, 2) := by decide +kernel
theorem dM_step_284 : decode bM_step 284 = .ok (.imul, 1) := by decide +kernel
theorem dM_step_285 : decode bM_step 285 = .ok (.iload 7, 2) := by decide +kernel
theorem dM_step_287 : decode bM_step 287 = .ok (.iadd, 1) := by decide +kernel
theorem dM_step_288 : decode bM_step 288 = .ok (.iload 7, 2) := by decide +kernel
theorem dM_step_290 : decode bM_step 290 = .ok (.iload_n 2, 1) := by decide +kernel
theorem dM_step_291 : decode bM_step 291 = .ok (.if_icmp .ne 10, 3) := by decide +kernel
theorem dM_step_294 : decode bM_step 294 = .ok (.aload_n 0, 1) := by decide +kernel
theorem dM_step_295 : decode bM_step 295 = .ok (.getfield 29, 3) := by decide +kernel
theorem dM_step_298 : decode bM_step 298 = .ok (.goto 16, 3) := by decide +kernel
theorem dM_step_301 : decode bM_step 301 = .ok (.aload_n 0, 1) := by decide +kernel
theorem dM_step_302 : decode bM_step 302 = .ok (.getfield 39, 3) := by decide +kernel
theorem dM_step_305 : decode bM_step 305 = .ok (.bipush 13, 2) := by decide +kernel
theorem dM_step_307 : decode bM_step 307 = .ok (.iload_n 1, 1) := by decide +kernel
theorem dM_step_308 : decode bM_step 308 = .ok (.imul, 1) := by decide +kernel
theorem dM_step_309 : decode bM_step 309 = .ok (.iload 7, 2) := by decide +kernel
theorem dM_step_311 : decode bM_step 311 = .ok (.iadd, 1) := by decide +kernel
theorem dM_step_312 : decode bM_step 312 = .ok (.laload, 1) := by decide +kernel
theorem dM_step_313 : decode bM_step 313 = .ok (.lneg, 1) := by decide +kernel
theorem dM_step_314 : decode bM_step 314 = .ok (.lastore, 1) := by decide +kernel
theorem dM_step_315 : decode bM_step 315 = .ok (.iinc 7 1, 3) := by decide +kernel
theorem dM_step_318 : decode bM_step 318 = .ok (.goto (-49), 3) := by decide +kernel
theorem dM_step_321 : decode bM_step 321 = .ok (.aload_n 0, 1) := by decide +kernel
theorem dM_step_322 : decode bM_step 322 = .ok (.getfield 33, 3) := by decide +kernel
theorem dM_step_325 : decode bM_step 325 = .ok (.iload 5, 2) := by decide +kernel
theorem dM_step_327 : decode bM_step 327 = .ok (.iconst (-1), 1) := by decide +kernel
theorem dM_step_328 : decode bM_step 328 = .ok (.iastore, 1) := by decide +kernel
theorem dM_step_329 : decode bM_step 329 = .ok (.aload_n 0, 1) := by decide +kernel
theorem dM_step_330 : decode bM_step 330 = .ok (.getfield 33, 3) := by decide +kernel
theorem dM_step_333 : decode bM_step 333 = .ok (.iload_n 1, 1) := by decide +kernel
theorem dM_step_334 : decode bM_step 334 = .ok (.iload_n 2, 1) := by decide +kernel
theorem dM_step_335 : decode bM_step 335 = .ok (.iastore, 1) := by decide +kernel
theorem dM_step_336 : decode bM_step 336 = .ok (.aload_n 0, 1) := by decide +kernel
theorem dM_step_337 : decode bM_step 337 = .ok (.getfield 36, 3) := by decide +kernel
theorem dM_step_340 : decode bM_step 340 = .ok (.iload_n 2, 1) := by decide +kernel
theorem dM_step_341 : decode bM_step 341 = .ok (.iload_n 1, 1) := by decide +kernel
theorem dM_step_342 : decode bM_step 342 = .ok (.iastore, 1) := by decide +kernel
theorem dM_step_343 : decode bM_step 343 = .ok (.aload_n 0, 1) := by decide +kernel
theorem dM_step_344 : decode bM_step 344 = .ok (.lload_n 3, 1) := by decide +kernel
theorem dM_step_345 : decode bM_step 345 = .ok (.putfield 29, 3) := by decide +kernel
theorem dM_step_348 : decode bM_step 348 = .ok (.aload_n 0, 1) := by decide +kernel
theorem dM_step_349 : decode bM_step 349 = .ok (.dup, 1) := by decide +kernel
theorem dM_step_350 : decode bM_step 350 = .ok (.getfield 108, 3) := by decide +kernel
theorem dM_step_353 : decode bM_step 353 = .ok (.iconst 1, 1) := by decide +kernel
theorem dM_step_354 : decode bM_step 354 = .ok (.iadd, 1) := by decide +kernel
theorem dM_step_355 : decode bM_step 355 = .ok (.putfield 108, 3) := by decide +kernel
theorem dM_step_358 : decode bM_step 358 = .ok (.iconst 1, 1) := by decide +kernel
theorem dM_step_359 : decode bM_step 359 = .ok (.ireturn, 1) := by decide +kernel
theorem dM_run_0 : decode bM_run 0 = .ok (.aload_n 0, 1) := by decide +kernel
theorem dM_run_1 : decode bM_run 1 = .ok (.iload_n 1, 1) := by decide +kernel
theorem dM_run_2 : decode bM_run 2 = .ok (.i2l, 1) := by decide +kernel
theorem dM_run_3 : decode bM_run 3 = .ok (.lconst 0, 1) := by decide +kernel
theorem dM_run_4 : decode bM_run 4 = .ok (.ldc2_w 66, 3) := by decide +kernel
theorem dM_run_7 : decode bM_run 7 = .ok (.invokestatic 68, 3) := by decide +kernel
theorem dM_run_10 : decode bM_run 10 = .ok (.ifCond .eq 7, 3) := by decide +kernel
theorem dM_run_13 : decode bM_run 13 = .ok (.iconst 0, 1) := by decide +kernel
theorem dM_run_14 : decode bM_run 14 = .ok (.goto 4, 3) := by decide +kernel
theorem dM_run_17 : decode bM_run 17 = .ok (.iconst 1, 1) := by decide +kernel
theorem dM_run_18 : decode bM_run 18 = .ok (.putfield 52, 3) := by decide +kernel
theorem dM_run_21 : decode bM_run 21 = .ok (.aload_n 0, 1) := by decide +kernel
theorem dM_run_22 : decode bM_run 22 = .ok (.getfield 52, 3) := by decide +kernel
theorem dM_run_25 : decode bM_run 25 = .ok (.ifCond .le 5, 3) := by decide +kernel
theorem dM_run_28 : decode bM_run 28 = .ok (.iconst 0, 1) := by decide +kernel
theorem dM_run_29 : decode bM_run 29 = .ok (.ireturn, 1) := by decide +kernel
theorem dM_run_30 : decode bM_run 30 = .ok (.aload_n 0, 1) := by decide +kernel
theorem dM_run_31 : decode bM_run 31 = .ok (.iconst 1, 1) := by decide +kernel
theorem dM_run_32 : decode bM_run 32 = .ok (.putfield 62, 3) := by decide +kernel
theorem dM_run_35 : decode bM_run 35 = .ok (.aload_n 0, 1) := by decide +kernel
theorem dM_run_36 : decode bM_run 36 = .ok (.iconst (-1), 1) := by decide +kernel
theorem dM_run_37 : decode bM_run 37 = .ok (.putfield 45, 3) := by decide +kernel
theorem dM_run_40 : decode bM_run 40 = .ok (.iconst 0, 1) := by decide +kernel
theorem dM_run_41 : decode bM_run 41 = .ok (.istore_n 2, 1) := by decide +kernel
theorem dM_run_42 : decode bM_run 42 = .ok (.iload_n 2, 1) := by decide +kernel
theorem dM_run_43 : decode bM_run 43 = .ok (.aload_n 0, 1) := by decide +kernel
theorem dM_run_44 : decode bM_run 44 = .ok (.getfield 72, 3) := by decide +kernel
theorem dM_run_47 : decode bM_run 47 = .ok (.if_icmp .ge 29, 3) := by decide +kernel
theorem dM_run_50 : decode bM_run 50 = .ok (.aload_n 0, 1) := by decide +kernel
theorem dM_run_51 : decode bM_run 51 = .ok (.getfield 26, 3) := by decide +kernel
theorem dM_run_54 : decode bM_run 54 = .ok (.iload_n 2, 1) := by decide +kernel
theorem dM_run_55 : decode bM_run 55 = .ok (.iaload, 1) := by decide +kernel
theorem dM_run_56 : decode bM_run 56 = .ok (.iconst (-1), 1) := by decide +kernel
theorem dM_run_57 : decode bM_run 57 = .ok (.if_icmp .ne 13, 3) := by decide +kernel
theorem dM_run_60 : decode bM_run 60 = .ok (.aload_n 0, 1) := by decide +kernel
theorem dM_run_61 : decode bM_run 61 = .ok (.iload_n 2, 1) := by decide +kernel
theorem dM_run_62 : decode bM_run 62 = .ok (.invokevirtual 111, 3) := by decide +kernel
theorem dM_run_65 : decode bM_run 65 = .ok (.ifCond .ne 5, 3) := by decide +kernel
theorem dM_run_68 : decode bM_run 68 = .ok (.iconst 3, 1) := by decide +kernel
theorem dM_run_69 : decode bM_run 69 = .ok (.ireturn, 1) := by decide +kernel
theorem dM_run_70 : decode bM_run 70 = .ok (.iinc 2 1, 3) := by decide +kernel
theorem dM_run_73 : decode bM_run 73 = .ok (.goto (-31), 3) := by decide +kernel
theorem dM_run_76 : decode bM_run 76 = .ok (.iload_n 1, 1) := by decide +kernel
theorem dM_run_77 : decode bM_run 77 = .ok (.istore_n 2, 1) := by decide +kernel
theorem dM_run_78 : decode bM_run 78 = .ok (.aload_n 0, 1) := by decide +kernel
theorem dM_run_79 : decode bM_run 79 = .ok (.invokevirtual 114, 3) := by decide +kernel
theorem dM_run_82 : decode bM_run 82 = .ok (.istore_n 3, 1) := by decide +kernel
theorem dM_run_83 : decode bM_run 83 = .ok (.iload_n 3, 1) := by decide +kernel
theorem dM_run_84 : decode bM_run 84 = .ok (.iconst (-1), 1) := by decide +kernel
theorem dM_run_85 : decode bM_run 85 = .ok (.if_icmp .ne 5, 3) := by decide +kernel
theorem dM_run_88 : decode bM_run 88 = .ok (.iconst 0, 1) := by decide +kernel
theorem dM_run_89 : decode bM_run 89 = .ok (.ireturn, 1) := by decide +kernel
theorem dM_run_90 : decode bM_run 90 = .ok (.aload_n 0, 1) := by decide +kernel
theorem dM_run_91 : decode bM_run 91 = .ok (.iload_n 3, 1) := by decide +kernel
theorem dM_run_92 : decode bM_run 92 = .ok (.invokevirtual 118, 3) := by decide +kernel
theorem dM_run_95 : decode bM_run 95 = .ok (.istore 4, 2) := by decide +kernel
theorem dM_run_97 : decode bM_run 97 = .ok (.iload 4, 2) := by decide +kernel
theorem dM_run_99 : decode bM_run 99 = .ok (.iconst (-1), 1) := by decide +kernel
theorem dM_run_100 : decode bM_run 100 = .ok (.if_icmp .ne 10, 3) := by decide +kernel
theorem dM_run_103 : decode bM_run 103 = .ok (.aload_n 0, 1) := by decide +kernel
theorem dM_run_104 : decode bM_run 104 = .ok (.iload_n 3, 1) := by decide +kernel
theorem dM_run_105 : decode bM_run 105 = .ok (.putfield 45, 3) := by decide +kernel
theorem dM_run_108 : decode bM_run 108 = .ok (.iconst 1, 1) := by decide +kernel
theorem dM_run_109 : decode bM_run 109 = .ok (.ireturn, 1) := by decide +kernel
theorem dM_run_110 : decode bM_run 110 = .ok (.iload_n 2, 1) := by decide +kernel
theorem dM_run_111 : decode bM_run 111 = .ok (.ifCond .ne 5, 3) := by decide +kernel
theorem dM_run_114 : decode bM_run 114 = .ok (.iconst 2, 1) := by decide +kernel
theorem dM_run_115 : decode bM_run 115 = .ok (.ireturn, 1) := by decide +kernel
theorem dM_run_116 : decode bM_run 116 = .ok (.aload_n 0, 1) := by decide +kernel
theorem dM_run_117 : decode bM_run 117 = .ok (.iload_n 3, 1) := by decide +kernel
theorem dM_run_118 : decode bM_run 118 = .ok (.iload 4, 2) := by decide +kernel
theorem dM_run_120 : decode bM_run 120 = .ok (.invokevirtual 122, 3) := by decide +kernel
theorem dM_run_123 : decode bM_run 123 = .ok (.ifCond .ne 5, 3) := by decide +kernel
theorem dM_run_126 : decode bM_run 126 = .ok (.iconst 3, 1) := by decide +kernel
theorem dM_run_127 : decode bM_run 127 = .ok (.ireturn, 1) := by decide +kernel
theorem dM_run_128 : decode bM_run 128 = .ok (.iinc 2 (-1), 3) := by decide +kernel
theorem dM_run_131 : decode bM_run 131 = .ok (.goto (-53), 3) := by decide +kernel
theorem dM_size_0 : decode bM_size 0 = .ok (.lload_n 0, 1) := by decide +kernel
theorem dM_size_1 : decode bM_size 1 = .ok (.lconst 0, 1) := by decide +kernel
theorem dM_size_2 : decode bM_size 2 = .ok (.lcmp, 1) := by decide +kernel
theorem dM_size_3 : decode bM_size 3 = .ok (.ifCond .ge 8, 3) := by decide +kernel
theorem dM_size_6 : decode bM_size 6 = .ok (.lload_n 0, 1) := by decide +kernel
theorem dM_size_7 : decode bM_size 7 = .ok (.lneg, 1) := by decide +kernel
theorem dM_size_8 : decode bM_size 8 = .ok (.goto 4, 3) := by decide +kernel
theorem dM_size_11 : decode bM_size 11 = .ok (.lload_n 0, 1) := by decide +kernel
theorem dM_size_12 : decode bM_size 12 = .ok (.lreturn, 1) := by decide +kernel
theorem dM_fraction_0 : decode bM_fraction 0 = .ok (.lload_n 1, 1) := by decide +kernel
theorem dM_fraction_1 : decode bM_fraction 1 = .ok (.invokestatic 126, 3) := by decide +kernel
theorem dM_fraction_4 : decode bM_fraction 4 = .ok (.lstore 4, 2) := by decide +kernel
theorem dM_fraction_6 : decode bM_fraction 6 = .ok (.aload_n 0, 1) := by decide +kernel
theorem dM_fraction_7 : decode bM_fraction 7 = .ok (.getfield 29, 3) := by decide +kernel
theorem dM_fraction_10 : decode bM_fraction 10 = .ok (.lstore 6, 2) := by decide +kernel
theorem dM_fraction_12 : decode bM_fraction 12 = .ok (.lload 6, 2) := by decide +kernel
theorem dM_fraction_14 : decode bM_fraction 14 = .ok (.lconst 0, 1) := by decide +kernel
theorem dM_fraction_15 : decode bM_fraction 15 = .ok (.lcmp, 1) := by decide +kernel
theorem dM_fraction_16 : decode bM_fraction 16 = .ok (.ifCond .eq 21, 3) := by decide +kernel
theorem dM_fraction_19 : decode bM_fraction 19 = .ok (.lload 4, 2) := by decide +kernel
theorem dM_fraction_21 : decode bM_fraction 21 = .ok (.lload 6, 2) := by decide +kernel
theorem dM_fraction_23 : decode bM_fraction 23 = .ok (.lrem, 1) := by decide +kernel
theorem dM_fraction_24 : decode bM_fraction 24 = .ok (.lstore 8, 2) := by decide +kernel
theorem dM_fraction_26 : decode bM_fraction 26 = .ok (.lload 6, 2) := by decide +kernel
theorem dM_fraction_28 : decode bM_fraction 28 = .ok (.lstore 4, 2) := by decide +kernel
theorem dM_fraction_30 : decode bM_fraction 30 = .ok (.lload 8, 2) := by decide +kernel
theorem dM_fraction_32 : decode bM_fraction 32 = .ok (.lstore 6, 2) := by decide +kernel
theorem dM_fraction_34 : decode bM_fraction 34 = .ok (.goto (-22), 3) := by decide +kernel
theorem dM_fraction_37 : decode bM_fraction 37 = .ok (.iload_n 3, 1) := by decide +kernel
theorem dM_fraction_38 : decode bM_fraction 38 = .ok (.ifCond .ne 10, 3) := by decide +kernel
theorem dM_fraction_41 : decode bM_fraction 41 = .ok (.lload_n 1, 1) := by decide +kernel
theorem dM_fraction_42 : decode bM_fraction 42 = .ok (.lload 4, 2) := by decide +kernel
theorem dM_fraction_44 : decode bM_fraction 44 = .ok (.ldiv, 1) := by decide +kernel
theorem dM_fraction_45 : decode bM_fraction 45 = .ok (.goto 10, 3) := by decide +kernel
theorem dM_fraction_48 : decode bM_fraction 48 = .ok (.aload_n 0, 1) := by decide +kernel
theorem dM_fraction_49 : decode bM_fraction 49 = .ok (.getfield 29, 3) := by decide +kernel
theorem dM_fraction_52 : decode bM_fraction 52 = .ok (.lload 4, 2) := by decide +kernel
theorem dM_fraction_54 : decode bM_fraction 54 = .ok (.ldiv, 1) := by decide +kernel
theorem dM_fraction_55 : decode bM_fraction 55 = .ok (.lreturn, 1) := by decide +kernel
theorem dM_isPart_0 : decode bM_isPart 0 = .ok (.iload_n 1, 1) := by decide +kernel
theorem dM_isPart_1 : decode bM_isPart 1 = .ok (.ifCond .eq 8, 3) := by decide +kernel
theorem dM_isPart_4 : decode bM_isPart 4 = .ok (.iload_n 1, 1) := by decide +kernel
theorem dM_isPart_5 : decode bM_isPart 5 = .ok (.iconst 1, 1) := by decide +kernel
theorem dM_isPart_6 : decode bM_isPart 6 = .ok (.if_icmp .ne 7, 3) := by decide +kernel
theorem dM_isPart_9 : decode bM_isPart 9 = .ok (.iconst 1, 1) := by decide +kernel
theorem dM_isPart_10 : decode bM_isPart 10 = .ok (.goto 4, 3) := by decide +kernel
theorem dM_isPart_13 : decode bM_isPart 13 = .ok (.iconst 0, 1) := by decide +kernel
theorem dM_isPart_14 : decode bM_isPart 14 = .ok (.ireturn, 1) := by decide +kernel
theorem dM_value_0 : decode bM_value 0 = .ok (.aload_n 0, 1) := by decide +kernel
theorem dM_value_1 : decode bM_value 1 = .ok (.aload_n 0, 1) := by decide +kernel
theorem dM_value_2 : decode bM_value 2 = .ok (.iload_n 1, 1) := by decide +kernel
theorem dM_value_3 : decode bM_value 3 = .ok (.invokevirtual 130, 3) := by decide +kernel
theorem dM_value_6 : decode bM_value 6 = .ok (.ifCond .eq 7, 3) := by decide +kernel
theorem dM_value_9 : decode bM_value 9 = .ok (.iconst 0, 1) := by decide +kernel
theorem dM_value_10 : decode bM_value 10 = .ok (.goto 4, 3) := by decide +kernel
theorem dM_value_13 : decode bM_value 13 = .ok (.iconst 1, 1) := by decide +kernel
theorem dM_value_14 : decode bM_value 14 = .ok (.putfield 52, 3) := by decide +kernel
theorem dM_value_17 : decode bM_value 17 = .ok (.aload_n 0, 1) := by decide +kernel
theorem dM_value_18 : decode bM_value 18 = .ok (.getfield 52, 3) := by decide +kernel
theorem dM_value_21 : decode bM_value 21 = .ok (.ifCond .le 7, 3) := by decide +kernel
theorem dM_value_24 : decode bM_value 24 = .ok (.lconst 0, 1) := by decide +kernel
theorem dM_value_25 : decode bM_value 25 = .ok (.goto 16, 3) := by decide +kernel
theorem dM_value_28 : decode bM_value 28 = .ok (.aload_n 0, 1) := by decide +kernel
theorem dM_value_29 : decode bM_value 29 = .ok (.aload_n 0, 1) := by decide +kernel
theorem dM_value_30 : decode bM_value 30 = .ok (.getfield 39, 3) := by decide +kernel
theorem dM_value_33 : decode bM_value 33 = .ok (.sipush 480, 3) := by decide +kernel
theorem dM_value_36 : decode bM_value 36 = .ok (.laload, 1) := by decide +kernel
theorem dM_value_37 : decode bM_value 37 = .ok (.iload_n 1, 1) := by decide +kernel
theorem dM_value_38 : decode bM_value 38 = .ok (.invokevirtual 133, 3) := by decide +kernel
theorem dM_value_41 : decode bM_value 41 = .ok (.lreturn, 1) := by decide +kernel
theorem dM_amount_0 : decode bM_amount 0 = .ok (.aload_n 0, 1) := by decide +kernel
theorem dM_amount_1 : decode bM_amount 1 = .ok (.getfield 33, 3) := by decide +kernel
theorem dM_amount_4 : decode bM_amount 4 = .ok (.iload_n 1, 1) := by decide +kernel
theorem dM_amount_5 : decode bM_amount 5 = .ok (.iaload, 1) := by decide +kernel
theorem dM_amount_6 : decode bM_amount 6 = .ok (.iconst (-1), 1) := by decide +kernel
theorem dM_amount_7 : decode bM_amount 7 = .ok (.if_icmp .ne 18, 3) := by decide +kernel
theorem dM_amount_10 : decode bM_amount 10 = .ok (.aload_n 0, 1) := by decide +kernel
theorem dM_amount_11 : decode bM_amount 11 = .ok (.getfield 39, 3) := by decide +kernel
theorem dM_amount_14 : decode bM_amount 14 = .ok (.bipush 13, 2) := by decide +kernel
theorem dM_amount_16 : decode bM_amount 16 = .ok (.iload_n 1, 1) := by decide +kernel
theorem dM_amount_17 : decode bM_amount 17 = .ok (.imul, 1) := by decide +kernel
theorem dM_amount_18 : decode bM_amount 18 = .ok (.bipush 12, 2) := by decide +kernel
theorem dM_amount_20 : decode bM_amount 20 = .ok (.iadd, 1) := by decide +kernel
theorem dM_amount_21 : decode bM_amount 21 = .ok (.laload, 1) := by decide +kernel
theorem dM_amount_22 : decode bM_amount 22 = .ok (.goto 4, 3) := by decide +kernel
theorem dM_amount_25 : decode bM_amount 25 = .ok (.lconst 0, 1) := by decide +kernel
theorem dM_amount_26 : decode bM_amount 26 = .ok (.lreturn, 1) := by decide +kernel
theorem dM_share_0 : decode bM_share 0 = .ok (.aload_n 0, 1) := by decide +kernel
theorem dM_share_1 : decode bM_share 1 = .ok (.iload_n 1, 1) := by decide +kernel
theorem dM_share_2 : decode bM_share 2 = .ok (.i2l, 1) := by decide +kernel
theorem dM_share_3 : decode bM_share 3 = .ok (.lconst 0, 1) := by decide +kernel
theorem dM_share_4 : decode bM_share 4 = .ok (.aload_n 0, 1) := by decide +kernel
theorem dM_share_5 : decode bM_share 5 = .ok (.getfield 59, 3) := by decide +kernel
theorem dM_share_8 : decode bM_share 8 = .ok (.iconst 1, 1) := by decide +kernel
theorem dM_share_9 : decode bM_share 9 = .ok (.isub, 1) := by decide +kernel
theorem dM_share_10 : decode bM_share 10 = .ok (.i2l, 1) := by decide +kernel
theorem dM_share_11 : decode bM_share 11 = .ok (.invokestatic 68, 3) := by decide +kernel
theorem dM_share_14 : decode bM_share 14 = .ok (.ifCond .ne 7, 3) := by decide +kernel
theorem dM_share_17 : decode bM_share 17 = .ok (.iconst 1, 1) := by decide +kernel
theorem dM_share_18 : decode bM_share 18 = .ok (.goto 16, 3) := by decide +kernel
theorem dM_share_21 : decode bM_share 21 = .ok (.aload_n 0, 1) := by decide +kernel
theorem dM_share_22 : decode bM_share 22 = .ok (.iload_n 2, 1) := by decide +kernel
theorem dM_share_23 : decode bM_share 23 = .ok (.invokevirtual 130, 3) := by decide +kernel
theorem dM_share_26 : decode bM_share 26 = .ok (.ifCond .ne 7, 3) := by decide +kernel
theorem dM_share_29 : decode bM_share 29 = .ok (.iconst 2, 1) := by decide +kernel
theorem dM_share_30 : decode bM_share 30 = .ok (.goto 4, 3) := by decide +kernel
theorem dM_share_33 : decode bM_share 33 = .ok (.iconst 0, 1) := by decide +kernel
theorem dM_share_34 : decode bM_share 34 = .ok (.putfield 52, 3) := by decide +kernel
theorem dM_share_37 : decode bM_share 37 = .ok (.aload_n 0, 1) := by decide +kernel
theorem dM_share_38 : decode bM_share 38 = .ok (.getfield 52, 3) := by decide +kernel
theorem dM_share_41 : decode bM_share 41 = .ok (.ifCond .le 7, 3) := by decide +kernel
theorem dM_share_44 : decode bM_share 44 = .ok (.lconst 0, 1) := by decide +kernel
theorem dM_share_45 : decode bM_share 45 = .ok (.goto 13, 3) := by decide +kernel
theorem dM_share_48 : decode bM_share 48 = .ok (.aload_n 0, 1) := by decide +kernel
theorem dM_share_49 : decode bM_share 49 = .ok (.aload_n 0, 1) := by decide +kernel
theorem dM_share_50 : decode bM_share 50 = .ok (.iload_n 1, 1) := by decide +kernel
theorem dM_share_51 : decode bM_share 51 = .ok (.invokevirtual 137, 3) := by decide +kernel
theorem dM_share_54 : decode bM_share 54 = .ok (.iload_n 2, 1) := by decide +kernel
theorem dM_share_55 : decode bM_share 55 = .ok (.invokevirtual 133, 3) := by decide +kernel
theorem dM_share_58 : decode bM_share 58 = .ok (.lreturn, 1) := by decide +kernel
theorem dM_price_0 : decode bM_price 0 = .ok (.aload_n 0, 1) := by decide +kernel
theorem dM_price_1 : decode bM_price 1 = .ok (.getfield 33, 3) := by decide +kernel
theorem dM_price_4 : decode bM_price 4 = .ok (.iload_n 1, 1) := by decide +kernel
theorem dM_price_5 : decode bM_price 5 = .ok (.iaload, 1) := by decide +kernel
theorem dM_price_6 : decode bM_price 6 = .ok (.iconst (-1), 1) := by decide +kernel
theorem dM_price_7 : decode bM_price 7 = .ok (.if_icmp .ne 7, 3) := by decide +kernel
theorem dM_price_10 : decode bM_price 10 = .ok (.lconst 0, 1) := by decide +kernel
theorem dM_price_11 : decode bM_price 11 = .ok (.goto 18, 3) := by decide +kernel
theorem dM_price_14 : decode bM_price 14 = .ok (.aload_n 0, 1) := by decide +kernel
theorem dM_price_15 : decode bM_price 15 = .ok (.getfield 39, 3) := by decide +kernel
theorem dM_price_18 : decode bM_price 18 = .ok (.sipush 468, 3) := by decide +kernel
theorem dM_price_21 : decode bM_price 21 = .ok (.aload_n 0, 1) := by decide +kernel
theorem dM_price_22 : decode bM_price 22 = .ok (.getfield 33, 3) := by decide +kernel
theorem dM_price_25 : decode bM_price 25 = .ok (.iload_n 1, 1) := by decide +kernel
theorem dM_price_26 : decode bM_price 26 = .ok (.iaload, 1) := by decide +kernel
theorem dM_price_27 : decode bM_price 27 = .ok (.iadd, 1) := by decide +kernel
theorem dM_price_28 : decode bM_price 28 = .ok (.laload, 1) := by decide +kernel
theorem dM_price_29 : decode bM_price 29 = .ok (.lreturn, 1) := by decide +kernel
theorem dM_dual_0 : decode bM_dual 0 = .ok (.aload_n 0, 1) := by decide +kernel
theorem dM_dual_1 : decode bM_dual 1 = .ok (.iload_n 1, 1) := by decide +kernel
theorem dM_dual_2 : decode bM_dual 2 = .ok (.i2l, 1) := by decide +kernel
theorem dM_dual_3 : decode bM_dual 3 = .ok (.lconst 0, 1) := by decide +kernel
theorem dM_dual_4 : decode bM_dual 4 = .ok (.aload_n 0, 1) := by decide +kernel
theorem dM_dual_5 : decode bM_dual 5 = .ok (.getfield 72, 3) := by decide +kernel
theorem dM_dual_8 : decode bM_dual 8 = .ok (.iconst 1, 1) := by decide +kernel
theorem dM_dual_9 : decode bM_dual 9 = .ok (.isub, 1) := by decide +kernel
theorem dM_dual_10 : decode bM_dual 10 = .ok (.i2l, 1) := by decide +kernel
theorem dM_dual_11 : decode bM_dual 11 = .ok (.invokestatic 68, 3) := by decide +kernel
theorem dM_dual_14 : decode bM_dual 14 = .ok (.ifCond .ne 7, 3) := by decide +kernel
theorem dM_dual_17 : decode bM_dual 17 = .ok (.iconst 1, 1) := by decide +kernel
theorem dM_dual_18 : decode bM_dual 18 = .ok (.goto 16, 3) := by decide +kernel
theorem dM_dual_21 : decode bM_dual 21 = .ok (.aload_n 0, 1) := by decide +kernel
theorem dM_dual_22 : decode bM_dual 22 = .ok (.iload_n 2, 1) := by decide +kernel
theorem dM_dual_23 : decode bM_dual 23 = .ok (.invokevirtual 130, 3) := by decide +kernel
theorem dM_dual_26 : decode bM_dual 26 = .ok (.ifCond .ne 7, 3) := by decide +kernel
theorem dM_dual_29 : decode bM_dual 29 = .ok (.iconst 2, 1) := by decide +kernel
theorem dM_dual_30 : decode bM_dual 30 = .ok (.goto 4, 3) := by decide +kernel
theorem dM_dual_33 : decode bM_dual 33 = .ok (.iconst 0, 1) := by decide +kernel
theorem dM_dual_34 : decode bM_dual 34 = .ok (.putfield 52, 3) := by decide +kernel
theorem dM_dual_37 : decode bM_dual 37 = .ok (.aload_n 0, 1) := by decide +kernel
theorem dM_dual_38 : decode bM_dual 38 = .ok (.getfield 52, 3) := by decide +kernel
theorem dM_dual_41 : decode bM_dual 41 = .ok (.ifCond .le 5, 3) := by decide +kernel
theorem dM_dual_44 : decode bM_dual 44 = .ok (.lconst 0, 1) := by decide +kernel
theorem dM_dual_45 : decode bM_dual 45 = .ok (.lreturn, 1) := by decide +kernel
theorem dM_dual_46 : decode bM_dual 46 = .ok (.aload_n 0, 1) := by decide +kernel
theorem dM_dual_47 : decode bM_dual 47 = .ok (.getfield 26, 3) := by decide +kernel
theorem dM_dual_50 : decode bM_dual 50 = .ok (.iload_n 1, 1) := by decide +kernel
theorem dM_dual_51 : decode bM_dual 51 = .ok (.iaload, 1) := by decide +kernel
theorem dM_dual_52 : decode bM_dual 52 = .ok (.istore_n 3, 1) := by decide +kernel
theorem dM_dual_53 : decode bM_dual 53 = .ok (.iload_n 3, 1) := by decide +kernel
theorem dM_dual_54 : decode bM_dual 54 = .ok (.iconst (-1), 1) := by decide +kernel
theorem dM_dual_55 : decode bM_dual 55 = .ok (.if_icmp .ne 7, 3) := by decide +kernel
theorem dM_dual_58 : decode bM_dual 58 = .ok (.lconst 0, 1) := by decide +kernel
theorem dM_dual_59 : decode bM_dual 59 = .ok (.goto 52, 3) := by decide +kernel
theorem dM_dual_62 : decode bM_dual 62 = .ok (.aload_n 0, 1) := by decide +kernel
theorem dM_dual_63 : decode bM_dual 63 = .ok (.getfield 13, 3) := by decide +kernel
theorem dM_dual_66 : decode bM_dual 66 = .ok (.iload_n 1, 1) := by decide +kernel
theorem dM_dual_67 : decode bM_dual 67 = .ok (.iaload, 1) := by decide +kernel
theorem dM_dual_68 : decode bM_dual 68 = .ok (.iconst 1, 1) := by decide +kernel
theorem dM_dual_69 : decode bM_dual 69 = .ok (.if_icmp .ne 12, 3) := by decide +kernel
theorem dM_dual_72 : decode bM_dual 72 = .ok (.aload_n 0, 1) := by decide +kernel
theorem dM_dual_73 : decode bM_dual 73 = .ok (.iload_n 3, 1) := by decide +kernel
theorem dM_dual_74 : decode bM_dual 74 = .ok (.invokevirtual 141, 3) := by decide +kernel
theorem dM_dual_77 : decode bM_dual 77 = .ok (.lneg, 1) := by decide +kernel
theorem dM_dual_78 : decode bM_dual 78 = .ok (.goto 33, 3) := by decide +kernel
theorem dM_dual_81 : decode bM_dual 81 = .ok (.aload_n 0, 1) := by decide +kernel
theorem dM_dual_82 : decode bM_dual 82 = .ok (.getfield 13, 3) := by decide +kernel
theorem dM_dual_85 : decode bM_dual 85 = .ok (.iload_n 1, 1) := by decide +kernel
theorem dM_dual_86 : decode bM_dual 86 = .ok (.iaload, 1) := by decide +kernel
theorem dM_dual_87 : decode bM_dual 87 = .ok (.ifCond .ne 11, 3) := by decide +kernel
theorem dM_dual_90 : decode bM_dual 90 = .ok (.aload_n 0, 1) := by decide +kernel
theorem dM_dual_91 : decode bM_dual 91 = .ok (.iload_n 3, 1) := by decide +kernel
theorem dM_dual_92 : decode bM_dual 92 = .ok (.invokevirtual 141, 3) := by decide +kernel
theorem dM_dual_95 : decode bM_dual 95 = .ok (.goto 16, 3) := by decide +kernel
theorem dM_dual_98 : decode bM_dual 98 = .ok (.aload_n 0, 1) := by decide +kernel
theorem dM_dual_99 : decode bM_dual 99 = .ok (.iload_n 3, 1) := by decide +kernel
theorem dM_dual_100 : decode bM_dual 100 = .ok (.invokevirtual 141, 3) := by decide +kernel
theorem dM_dual_103 : decode bM_dual 103 = .ok (.aload_n 0, 1) := by decide +kernel
theorem dM_dual_104 : decode bM_dual 104 = .ok (.iload_n 3, 1) := by decide +kernel
theorem dM_dual_105 : decode bM_dual 105 = .ok (.iconst 1, 1) := by decide +kernel
theorem dM_dual_106 : decode bM_dual 106 = .ok (.iadd, 1) := by decide +kernel
theorem dM_dual_107 : decode bM_dual 107 = .ok (.invokevirtual 141, 3) := by decide +kernel
theorem dM_dual_110 : decode bM_dual 110 = .ok (.lsub, 1) := by decide +kernel
theorem dM_dual_111 : decode bM_dual 111 = .ok (.lstore 4, 2) := by decide +kernel
theorem dM_dual_113 : decode bM_dual 113 = .ok (.aload_n 0, 1) := by decide +kernel
theorem dM_dual_114 : decode bM_dual 114 = .ok (.lload 4, 2) := by decide +kernel
theorem dM_dual_116 : decode bM_dual 116 = .ok (.iload_n 2, 1) := by decide +kernel
theorem dM_dual_117 : decode bM_dual 117 = .ok (.invokevirtual 133, 3) := by decide +kernel
theorem dM_dual_120 : decode bM_dual 120 = .ok (.lreturn, 1) := by decide +kernel
theorem dM_weight_0 : decode bM_weight 0 = .ok (.iload_n 1, 1) := by decide +kernel
theorem dM_weight_1 : decode bM_weight 1 = .ok (.aload_n 0, 1) := by decide +kernel
theorem dM_weight_2 : decode bM_weight 2 = .ok (.getfield 45, 3) := by decide +kernel
theorem dM_weight_5 : decode bM_weight 5 = .ok (.if_icmp .ne 10, 3) := by decide +kernel
theorem dM_weight_8 : decode bM_weight 8 = .ok (.aload_n 0, 1) := by decide +kernel
theorem dM_weight_9 : decode bM_weight 9 = .ok (.getfield 29, 3) := by decide +kernel
theorem dM_weight_12 : decode bM_weight 12 = .ok (.goto 37, 3) := by decide +kernel
theorem dM_weight_15 : decode bM_weight 15 = .ok (.aload_n 0, 1) := by decide +kernel
theorem dM_weight_16 : decode bM_weight 16 = .ok (.getfield 33, 3) := by decide +kernel
theorem dM_weight_19 : decode bM_weight 19 = .ok (.iload_n 1, 1) := by decide +kernel
theorem dM_weight_20 : decode bM_weight 20 = .ok (.iaload, 1) := by decide +kernel
theorem dM_weight_21 : decode bM_weight 21 = .ok (.iconst (-1), 1) := by decide +kernel
theorem dM_weight_22 : decode bM_weight 22 = .ok (.if_icmp .ne 7, 3) := by decide +kernel
theorem dM_weight_25 : decode bM_weight 25 = .ok (.lconst 0, 1) := by decide +kernel
theorem dM_weight_26 : decode bM_weight 26 = .ok (.goto 23, 3) := by decide +kernel
theorem dM_weight_29 : decode bM_weight 29 = .ok (.aload_n 0, 1) := by decide +kernel
theorem dM_weight_30 : decode bM_weight 30 = .ok (.getfield 39, 3) := by decide +kernel
theorem dM_weight_33 : decode bM_weight 33 = .ok (.bipush 13, 2) := by decide +kernel
theorem dM_weight_35 : decode bM_weight 35 = .ok (.aload_n 0, 1) := by decide +kernel
theorem dM_weight_36 : decode bM_weight 36 = .ok (.getfield 45, 3) := by decide +kernel
theorem dM_weight_39 : decode bM_weight 39 = .ok (.imul, 1) := by decide +kernel
theorem dM_weight_40 : decode bM_weight 40 = .ok (.aload_n 0, 1) := by decide +kernel
theorem dM_weight_41 : decode bM_weight 41 = .ok (.getfield 33, 3) := by decide +kernel
theorem dM_weight_44 : decode bM_weight 44 = .ok (.iload_n 1, 1) := by decide +kernel
theorem dM_weight_45 : decode bM_weight 45 = .ok (.iaload, 1) := by decide +kernel
theorem dM_weight_46 : decode bM_weight 46 = .ok (.iadd, 1) := by decide +kernel
theorem dM_weight_47 : decode bM_weight 47 = .ok (.laload, 1) := by decide +kernel
theorem dM_weight_48 : decode bM_weight 48 = .ok (.lneg, 1) := by decide +kernel
theorem dM_weight_49 : decode bM_weight 49 = .ok (.lreturn, 1) := by decide +kernel
theorem dM_factorOf_0 : decode bM_factorOf 0 = .ok (.aload_n 0, 1) := by decide +kernel
theorem dM_factorOf_1 : decode bM_factorOf 1 = .ok (.iload_n 1, 1) := by decide +kernel
theorem dM_factorOf_2 : decode bM_factorOf 2 = .ok (.i2l, 1) := by decide +kernel
theorem dM_factorOf_3 : decode bM_factorOf 3 = .ok (.lconst 0, 1) := by decide +kernel
theorem dM_factorOf_4 : decode bM_factorOf 4 = .ok (.aload_n 0, 1) := by decide +kernel
theorem dM_factorOf_5 : decode bM_factorOf 5 = .ok (.getfield 72, 3) := by decide +kernel
theorem dM_factorOf_8 : decode bM_factorOf 8 = .ok (.iconst 1, 1) := by decide +kernel
theorem dM_factorOf_9 : decode bM_factorOf 9 = .ok (.isub, 1) := by decide +kernel
theorem dM_factorOf_10 : decode bM_factorOf 10 = .ok (.i2l, 1) := by decide +kernel
theorem dM_factorOf_11 : decode bM_factorOf 11 = .ok (.invokestatic 68, 3) := by decide +kernel
theorem dM_factorOf_14 : decode bM_factorOf 14 = .ok (.ifCond .ne 7, 3) := by decide +kernel
theorem dM_factorOf_17 : decode bM_factorOf 17 = .ok (.iconst 1, 1) := by decide +kernel
theorem dM_factorOf_18 : decode bM_factorOf 18 = .ok (.goto 28, 3) := by decide +kernel
theorem dM_factorOf_21 : decode bM_factorOf 21 = .ok (.aload_n 0, 1) := by decide +kernel
theorem dM_factorOf_22 : decode bM_factorOf 22 = .ok (.getfield 45, 3) := by decide +kernel
theorem dM_factorOf_25 : decode bM_factorOf 25 = .ok (.iconst (-1), 1) := by decide +kernel
theorem dM_factorOf_26 : decode bM_factorOf 26 = .ok (.if_icmp .ne 7, 3) := by decide +kernel
theorem dM_factorOf_29 : decode bM_factorOf 29 = .ok (.iconst 2, 1) := by decide +kernel
theorem dM_factorOf_30 : decode bM_factorOf 30 = .ok (.goto 16, 3) := by decide +kernel
theorem dM_factorOf_33 : decode bM_factorOf 33 = .ok (.aload_n 0, 1) := by decide +kernel
theorem dM_factorOf_34 : decode bM_factorOf 34 = .ok (.iload_n 2, 1) := by decide +kernel
theorem dM_factorOf_35 : decode bM_factorOf 35 = .ok (.invokevirtual 130, 3) := by decide +kernel
theorem dM_factorOf_38 : decode bM_factorOf 38 = .ok (.ifCond .ne 7, 3) := by decide +kernel
theorem dM_factorOf_41 : decode bM_factorOf 41 = .ok (.iconst 3, 1) := by decide +kernel
theorem dM_factorOf_42 : decode bM_factorOf 42 = .ok (.goto 4, 3) := by decide +kernel
theorem dM_factorOf_45 : decode bM_factorOf 45 = .ok (.iconst 0, 1) := by decide +kernel
theorem dM_factorOf_46 : decode bM_factorOf 46 = .ok (.putfield 52, 3) := by decide +kernel
theorem dM_factorOf_49 : decode bM_factorOf 49 = .ok (.aload_n 0, 1) := by decide +kernel
theorem dM_factorOf_50 : decode bM_factorOf 50 = .ok (.getfield 52, 3) := by decide +kernel
theorem dM_factorOf_53 : decode bM_factorOf 53 = .ok (.ifCond .le 5, 3) := by decide +kernel
theorem dM_factorOf_56 : decode bM_factorOf 56 = .ok (.lconst 0, 1) := by decide +kernel
theorem dM_factorOf_57 : decode bM_factorOf 57 = .ok (.lreturn, 1) := by decide +kernel
theorem dM_factorOf_58 : decode bM_factorOf 58 = .ok (.aload_n 0, 1) := by decide +kernel
theorem dM_factorOf_59 : decode bM_factorOf 59 = .ok (.getfield 26, 3) := by decide +kernel
theorem dM_factorOf_62 : decode bM_factorOf 62 = .ok (.iload_n 1, 1) := by decide +kernel
theorem dM_factorOf_63 : decode bM_factorOf 63 = .ok (.iaload, 1) := by decide +kernel
theorem dM_factorOf_64 : decode bM_factorOf 64 = .ok (.istore_n 3, 1) := by decide +kernel
theorem dM_factorOf_65 : decode bM_factorOf 65 = .ok (.iload_n 3, 1) := by decide +kernel
theorem dM_factorOf_66 : decode bM_factorOf 66 = .ok (.iconst (-1), 1) := by decide +kernel
theorem dM_factorOf_67 : decode bM_factorOf 67 = .ok (.if_icmp .ne 7, 3) := by decide +kernel
theorem dM_factorOf_70 : decode bM_factorOf 70 = .ok (.lconst 0, 1) := by decide +kernel
theorem dM_factorOf_71 : decode bM_factorOf 71 = .ok (.goto 52, 3) := by decide +kernel
theorem dM_factorOf_74 : decode bM_factorOf 74 = .ok (.aload_n 0, 1) := by decide +kernel
theorem dM_factorOf_75 : decode bM_factorOf 75 = .ok (.getfield 13, 3) := by decide +kernel
theorem dM_factorOf_78 : decode bM_factorOf 78 = .ok (.iload_n 1, 1) := by decide +kernel
theorem dM_factorOf_79 : decode bM_factorOf 79 = .ok (.iaload, 1) := by decide +kernel
theorem dM_factorOf_80 : decode bM_factorOf 80 = .ok (.iconst 1, 1) := by decide +kernel
theorem dM_factorOf_81 : decode bM_factorOf 81 = .ok (.if_icmp .ne 12, 3) := by decide +kernel
theorem dM_factorOf_84 : decode bM_factorOf 84 = .ok (.aload_n 0, 1) := by decide +kernel
theorem dM_factorOf_85 : decode bM_factorOf 85 = .ok (.iload_n 3, 1) := by decide +kernel
theorem dM_factorOf_86 : decode bM_factorOf 86 = .ok (.invokevirtual 144, 3) := by decide +kernel
theorem dM_factorOf_89 : decode bM_factorOf 89 = .ok (.lneg, 1) := by decide +kernel
theorem dM_factorOf_90 : decode bM_factorOf 90 = .ok (.goto 33, 3) := by decide +kernel
theorem dM_factorOf_93 : decode bM_factorOf 93 = .ok (.aload_n 0, 1) := by decide +kernel
theorem dM_factorOf_94 : decode bM_factorOf 94 = .ok (.getfield 13, 3) := by decide +kernel
theorem dM_factorOf_97 : decode bM_factorOf 97 = .ok (.iload_n 1, 1) := by decide +kernel
theorem dM_factorOf_98 : decode bM_factorOf 98 = .ok (.iaload, 1) := by decide +kernel
theorem dM_factorOf_99 : decode bM_factorOf 99 = .ok (.ifCond .ne 11, 3) := by decide +kernel
theorem dM_factorOf_102 : decode bM_factorOf 102 = .ok (.aload_n 0, 1) := by decide +kernel
theorem dM_factorOf_103 : decode bM_factorOf 103 = .ok (.iload_n 3, 1) := by decide +kernel
theorem dM_factorOf_104 : decode bM_factorOf 104 = .ok (.invokevirtual 144, 3) := by decide +kernel
theorem dM_factorOf_107 : decode bM_factorOf 107 = .ok (.goto 16, 3) := by decide +kernel
theorem dM_factorOf_110 : decode bM_factorOf 110 = .ok (.aload_n 0, 1) := by decide +kernel
theorem dM_factorOf_111 : decode bM_factorOf 111 = .ok (.iload_n 3, 1) := by decide +kernel
theorem dM_factorOf_112 : decode bM_factorOf 112 = .ok (.invokevirtual 144, 3) := by decide +kernel
theorem dM_factorOf_115 : decode bM_factorOf 115 = .ok (.aload_n 0, 1) := by decide +kernel
theorem dM_factorOf_116 : decode bM_factorOf 116 = .ok (.iload_n 3, 1) := by decide +kernel
theorem dM_factorOf_117 : decode bM_factorOf 117 = .ok (.iconst 1, 1) := by decide +kernel
theorem dM_factorOf_118 : decode bM_factorOf 118 = .ok (.iadd, 1) := by decide +kernel
theorem dM_factorOf_119 : decode bM_factorOf 119 = .ok (.invokevirtual 144, 3) := by decide +kernel
theorem dM_factorOf_122 : decode bM_factorOf 122 = .ok (.lsub, 1) := by decide +kernel
theorem dM_factorOf_123 : decode bM_factorOf 123 = .ok (.lstore 4, 2) := by decide +kernel
theorem dM_factorOf_125 : decode bM_factorOf 125 = .ok (.aload_n 0, 1) := by decide +kernel
theorem dM_factorOf_126 : decode bM_factorOf 126 = .ok (.lload 4, 2) := by decide +kernel
theorem dM_factorOf_128 : decode bM_factorOf 128 = .ok (.iload_n 2, 1) := by decide +kernel
theorem dM_factorOf_129 : decode bM_factorOf 129 = .ok (.invokevirtual 133, 3) := by decide +kernel
theorem dM_factorOf_132 : decode bM_factorOf 132 = .ok (.lreturn, 1) := by decide +kernel
theorem dM_check_0 : decode bM_check 0 = .ok (.aload_n 0, 1) := by decide +kernel
theorem dM_check_1 : decode bM_check 1 = .ok (.iconst 0, 1) := by decide +kernel
theorem dM_check_2 : decode bM_check 2 = .ok (.putfield 52, 3) := by decide +kernel
theorem dM_check_5 : decode bM_check 5 = .ok (.iconst 0, 1) := by decide +kernel
theorem dM_check_6 : decode bM_check 6 = .ok (.istore_n 1, 1) := by decide +kernel
theorem dM_check_7 : decode bM_check 7 = .ok (.iload_n 1, 1) := by decide +kernel
theorem dM_check_8 : decode bM_check 8 = .ok (.aload_n 0, 1) := by decide +kernel
theorem dM_check_9 : decode bM_check 9 = .ok (.getfield 72, 3) := by decide +kernel
theorem dM_check_12 : decode bM_check 12 = .ok (.if_icmp .ge 131, 3) := by decide +kernel
theorem dM_check_15 : decode bM_check 15 = .ok (.aload_n 0, 1) := by decide +kernel
theorem dM_check_16 : decode bM_check 16 = .ok (.getfield 29, 3) := by decide +kernel
theorem dM_check_19 : decode bM_check 19 = .ok (.lneg, 1) := by decide +kernel
theorem dM_check_20 : decode bM_check 20 = .ok (.aload_n 0, 1) := by decide +kernel
theorem dM_check_21 : decode bM_check 21 = .ok (.getfield 20, 3) := by decide +kernel
theorem dM_check_24 : decode bM_check 24 = .ok (.iload_n 1, 1) := by decide +kernel
theorem dM_check_25 : decode bM_check 25 = .ok (.laload, 1) := by decide +kernel
theorem dM_check_26 : decode bM_check 26 = .ok (.lmul, 1) := by decide +kernel
theorem dM_check_27 : decode bM_check 27 = .ok (.lstore_n 2, 1) := by decide +kernel
theorem dM_check_28 : decode bM_check 28 = .ok (.iconst 0, 1) := by decide +kernel
theorem dM_check_29 : decode bM_check 29 = .ok (.istore 4, 2) := by decide +kernel
theorem dM_check_31 : decode bM_check 31 = .ok (.iload 4, 2) := by decide +kernel
theorem dM_check_33 : decode bM_check 33 = .ok (.aload_n 0, 1) := by decide +kernel
theorem dM_check_34 : decode bM_check 34 = .ok (.getfield 59, 3) := by decide +kernel
theorem dM_check_37 : decode bM_check 37 = .ok (.if_icmp .ge 31, 3) := by decide +kernel
theorem dM_check_40 : decode bM_check 40 = .ok (.lload_n 2, 1) := by decide +kernel
theorem dM_check_41 : decode bM_check 41 = .ok (.aload_n 0, 1) := by decide +kernel
theorem dM_check_42 : decode bM_check 42 = .ok (.getfield 23, 3) := by decide +kernel
theorem dM_check_45 : decode bM_check 45 = .ok (.bipush 12, 2) := by decide +kernel
theorem dM_check_47 : decode bM_check 47 = .ok (.iload_n 1, 1) := by decide +kernel
theorem dM_check_48 : decode bM_check 48 = .ok (.imul, 1) := by decide +kernel
theorem dM_check_49 : decode bM_check 49 = .ok (.iload 4, 2) := by decide +kernel
theorem dM_check_51 : decode bM_check 51 = .ok (.iadd, 1) := by decide +kernel
theorem dM_check_52 : decode bM_check 52 = .ok (.laload, 1) := by decide +kernel
theorem dM_check_53 : decode bM_check 53 = .ok (.aload_n 0, 1) := by decide +kernel
theorem dM_check_54 : decode bM_check 54 = .ok (.iload 4, 2) := by decide +kernel
theorem dM_check_56 : decode bM_check 56 = .ok (.invokevirtual 137, 3) := by decide +kernel
theorem dM_check_59 : decode bM_check 59 = .ok (.lmul, 1) := by decide +kernel
theorem dM_check_60 : decode bM_check 60 = .ok (.ladd, 1) := by decide +kernel
theorem dM_check_61 : decode bM_check 61 = .ok (.lstore_n 2, 1) := by decide +kernel
theorem dM_check_62 : decode bM_check 62 = .ok (.iinc 4 1, 3) := by decide +kernel
theorem dM_check_65 : decode bM_check 65 = .ok (.goto (-34), 3) := by decide +kernel
theorem dM_check_68 : decode bM_check 68 = .ok (.aload_n 0, 1) := by decide +kernel
theorem dM_check_69 : decode bM_check 69 = .ok (.getfield 13, 3) := by decide +kernel
theorem dM_check_72 : decode bM_check 72 = .ok (.iload_n 1, 1) := by decide +kernel
theorem dM_check_73 : decode bM_check 73 = .ok (.iaload, 1) := by decide +kernel
theorem dM_check_74 : decode bM_check 74 = .ok (.ifCond .ne 17, 3) := by decide +kernel
theorem dM_check_77 : decode bM_check 77 = .ok (.lload_n 2, 1) := by decide +kernel
theorem dM_check_78 : decode bM_check 78 = .ok (.lconst 0, 1) := by decide +kernel
theorem dM_check_79 : decode bM_check 79 = .ok (.lcmp, 1) := by decide +kernel
theorem dM_check_80 : decode bM_check 80 = .ok (.ifCond .lt 7, 3) := by decide +kernel
theorem dM_check_83 : decode bM_check 83 = .ok (.iconst 1, 1) := by decide +kernel
theorem dM_check_84 : decode bM_check 84 = .ok (.goto 42, 3) := by decide +kernel
theorem dM_check_87 : decode bM_check 87 = .ok (.iconst 0, 1) := by decide +kernel
theorem dM_check_88 : decode bM_check 88 = .ok (.goto 38, 3) := by decide +kernel
theorem dM_check_91 : decode bM_check 91 = .ok (.aload_n 0, 1) := by decide +kernel
theorem dM_check_92 : decode bM_check 92 = .ok (.getfield 13, 3) := by decide +kernel
theorem dM_check_95 : decode bM_check 95 = .ok (.iload_n 1, 1) := by decide +kernel
theorem dM_check_96 : decode bM_check 96 = .ok (.iaload, 1) := by decide +kernel
theorem dM_check_97 : decode bM_check 97 = .ok (.iconst 1, 1) := by decide +kernel
theorem dM_check_98 : decode bM_check 98 = .ok (.if_icmp .ne 17, 3) := by decide +kernel
theorem dM_check_101 : decode bM_check 101 = .ok (.lload_n 2, 1) := by decide +kernel
theorem dM_check_102 : decode bM_check 102 = .ok (.lconst 0, 1) := by decide +kernel
theorem dM_check_103 : decode bM_check 103 = .ok (.lcmp, 1) := by decide +kernel
theorem dM_check_104 : decode bM_check 104 = .ok (.ifCond .gt 7, 3) := by decide +kernel
theorem dM_check_107 : decode bM_check 107 = .ok (.iconst 1, 1) := by decide +kernel
theorem dM_check_108 : decode bM_check 108 = .ok (.goto 18, 3) := by decide +kernel
theorem dM_check_111 : decode bM_check 111 = .ok (.iconst 0, 1) := by decide +kernel
theorem dM_check_112 : decode bM_check 112 = .ok (.goto 14, 3) := by decide +kernel
theorem dM_check_115 : decode bM_check 115 = .ok (.lload_n 2, 1) := by decide +kernel
theorem dM_check_116 : decode bM_check 116 = .ok (.lconst 0, 1) := by decide +kernel
theorem dM_check_117 : decode bM_check 117 = .ok (.lcmp, 1) := by decide +kernel
theorem dM_check_118 : decode bM_check 118 = .ok (.ifCond .ne 7, 3) := by decide +kernel
theorem dM_check_121 : decode bM_check 121 = .ok (.iconst 1, 1) := by decide +kernel
theorem dM_check_122 : decode bM_check 122 = .ok (.goto 4, 3) := by decide +kernel
theorem dM_check_125 : decode bM_check 125 = .ok (.iconst 0, 1) := by decide +kernel
theorem dM_check_126 : decode bM_check 126 = .ok (.istore 4, 2) := by decide +kernel
theorem dM_check_128 : decode bM_check 128 = .ok (.iload 4, 2) := by decide +kernel
theorem dM_check_130 : decode bM_check 130 = .ok (.ifCond .ne 7, 3) := by decide +kernel
theorem dM_check_133 : decode bM_check 133 = .ok (.iload_n 1, 1) := by decide +kernel
theorem dM_check_134 : decode bM_check 134 = .ok (.iconst 1, 1) := by decide +kernel
theorem dM_check_135 : decode bM_check 135 = .ok (.iadd, 1) := by decide +kernel
theorem dM_check_136 : decode bM_check 136 = .ok (.ireturn, 1) := by decide +kernel
theorem dM_check_137 : decode bM_check 137 = .ok (.iinc 1 1, 3) := by decide +kernel
theorem dM_check_140 : decode bM_check 140 = .ok (.goto (-133), 3) := by decide +kernel
theorem dM_check_143 : decode bM_check 143 = .ok (.iconst 0, 1) := by decide +kernel
theorem dM_check_144 : decode bM_check 144 = .ok (.ireturn, 1) := by decide +kernel
theorem dM_steps_0 : decode bM_steps 0 = .ok (.aload_n 0, 1) := by decide +kernel
theorem dM_steps_1 : decode bM_steps 1 = .ok (.iconst 0, 1) := by decide +kernel
theorem dM_steps_2 : decode bM_steps 2 = .ok (.putfield 52, 3) := by decide +kernel
theorem dM_steps_5 : decode bM_steps 5 = .ok (.aload_n 0, 1) := by decide +kernel
theorem dM_steps_6 : decode bM_steps 6 = .ok (.getfield 108, 3) := by decide +kernel
theorem dM_steps_9 : decode bM_steps 9 = .ok (.ireturn, 1) := by decide +kernel
theorem dM_count_0 : decode bM_count 0 = .ok (.aload_n 0, 1) := by decide +kernel
theorem dM_count_1 : decode bM_count 1 = .ok (.iconst 0, 1) := by decide +kernel
theorem dM_count_2 : decode bM_count 2 = .ok (.putfield 52, 3) := by decide +kernel
theorem dM_count_5 : decode bM_count 5 = .ok (.iload_n 1, 1) := by decide +kernel
theorem dM_count_6 : decode bM_count 6 = .ok (.i2l, 1) := by decide +kernel
theorem dM_count_7 : decode bM_count 7 = .ok (.ldc2_w 147, 3) := by decide +kernel
theorem dM_count_10 : decode bM_count 10 = .ok (.iconst 4, 1) := by decide +kernel
theorem dM_count_11 : decode bM_count 11 = .ok (.aload_n 0, 1) := by decide +kernel
theorem dM_count_12 : decode bM_count 12 = .ok (.getfield 49, 3) := by decide +kernel
theorem dM_count_15 : decode bM_count 15 = .ok (.iadd, 1) := by decide +kernel
theorem dM_count_16 : decode bM_count 16 = .ok (.i2l, 1) := by decide +kernel
theorem dM_count_17 : decode bM_count 17 = .ok (.invokestatic 68, 3) := by decide +kernel
theorem dM_count_20 : decode bM_count 20 = .ok (.ifCond .eq 43, 3) := by decide +kernel
theorem dM_count_23 : decode bM_count 23 = .ok (.iconst 0, 1) := by decide +kernel
theorem dM_count_24 : decode bM_count 24 = .ok (.istore_n 2, 1) := by decide +kernel
theorem dM_count_25 : decode bM_count 25 = .ok (.iconst 0, 1) := by decide +kernel
theorem dM_count_26 : decode bM_count 26 = .ok (.istore_n 3, 1) := by decide +kernel
theorem dM_count_27 : decode bM_count 27 = .ok (.iload_n 3, 1) := by decide +kernel
theorem dM_count_28 : decode bM_count 28 = .ok (.aload_n 0, 1) := by decide +kernel
theorem dM_count_29 : decode bM_count 29 = .ok (.getfield 72, 3) := by decide +kernel
theorem dM_count_32 : decode bM_count 32 = .ok (.if_icmp .ge 29, 3) := by decide +kernel
theorem dM_count_35 : decode bM_count 35 = .ok (.iload_n 2, 1) := by decide +kernel
theorem dM_count_36 : decode bM_count 36 = .ok (.aload_n 0, 1) := by decide +kernel
theorem dM_count_37 : decode bM_count 37 = .ok (.getfield 17, 3) := by decide +kernel
theorem dM_count_40 : decode bM_count 40 = .ok (.iload_n 3, 1) := by decide +kernel
theorem dM_count_41 : decode bM_count 41 = .ok (.iaload, 1) := by decide +kernel
theorem dM_count_42 : decode bM_count 42 = .ok (.iload_n 1, 1) := by decide +kernel
theorem dM_count_43 : decode bM_count 43 = .ok (.iconst 5, 1) := by decide +kernel
theorem dM_count_44 : decode bM_count 44 = .ok (.isub, 1) := by decide +kernel
theorem dM_count_45 : decode bM_count 45 = .ok (.if_icmp .ne 7, 3) := by decide +kernel
theorem dM_count_48 : decode bM_count 48 = .ok (.iconst 1, 1) := by decide +kernel
theorem dM_count_49 : decode bM_count 49 = .ok (.goto 4, 3) := by decide +kernel
theorem dM_count_52 : decode bM_count 52 = .ok (.iconst 0, 1) := by decide +kernel
theorem dM_count_53 : decode bM_count 53 = .ok (.iadd, 1) := by decide +kernel
theorem dM_count_54 : decode bM_count 54 = .ok (.istore_n 2, 1) := by decide +kernel
theorem dM_count_55 : decode bM_count 55 = .ok (.iinc 3 1, 3) := by decide +kernel
theorem dM_count_58 : decode bM_count 58 = .ok (.goto (-31), 3) := by decide +kernel
theorem dM_count_61 : decode bM_count 61 = .ok (.iload_n 2, 1) := by decide +kernel
theorem dM_count_62 : decode bM_count 62 = .ok (.ireturn, 1) := by decide +kernel
theorem dM_count_63 : decode bM_count 63 = .ok (.iload_n 1, 1) := by decide +kernel
theorem dM_count_64 : decode bM_count 64 = .ok (.ifCond .ne 10, 3) := by decide +kernel
theorem dM_count_67 : decode bM_count 67 = .ok (.aload_n 0, 1) := by decide +kernel
theorem dM_count_68 : decode bM_count 68 = .ok (.getfield 59, 3) := by decide +kernel
theorem dM_count_71 : decode bM_count 71 = .ok (.goto 53, 3) := by decide +kernel
theorem dM_count_74 : decode bM_count 74 = .ok (.iload_n 1, 1) := by decide +kernel
theorem dM_count_75 : decode bM_count 75 = .ok (.iconst 1, 1) := by decide +kernel
theorem dM_count_76 : decode bM_count 76 = .ok (.if_icmp .ne 10, 3) := by decide +kernel
theorem dM_count_79 : decode bM_count 79 = .ok (.aload_n 0, 1) := by decide +kernel
theorem dM_count_80 : decode bM_count 80 = .ok (.getfield 72, 3) := by decide +kernel
theorem dM_count_83 : decode bM_count 83 = .ok (.goto 41, 3) := by decide +kernel
theorem dM_count_86 : decode bM_count 86 = .ok (.iload_n 1, 1) := by decide +kernel
theorem dM_count_87 : decode bM_count 87 = .ok (.iconst 2, 1) := by decide +kernel
theorem dM_count_88 : decode bM_count 88 = .ok (.if_icmp .ne 10, 3) := by decide +kernel
theorem dM_count_91 : decode bM_count 91 = .ok (.aload_n 0, 1) := by decide +kernel
theorem dM_count_92 : decode bM_count 92 = .ok (.getfield 87, 3) := by decide +kernel
theorem dM_count_95 : decode bM_count 95 = .ok (.goto 29, 3) := by decide +kernel
theorem dM_count_98 : decode bM_count 98 = .ok (.iload_n 1, 1) := by decide +kernel
theorem dM_count_99 : decode bM_count 99 = .ok (.iconst 3, 1) := by decide +kernel
theorem dM_count_100 : decode bM_count 100 = .ok (.if_icmp .ne 11, 3) := by decide +kernel
theorem dM_count_103 : decode bM_count 103 = .ok (.aload_n 0, 1) := by decide +kernel
theorem dM_count_104 : decode bM_count 104 = .ok (.getfield 29, 3) := by decide +kernel
theorem dM_count_107 : decode bM_count 107 = .ok (.l2i, 1) := by decide +kernel
theorem dM_count_108 : decode bM_count 108 = .ok (.goto 16, 3) := by decide +kernel
theorem dM_count_111 : decode bM_count 111 = .ok (.iload_n 1, 1) := by decide +kernel
theorem dM_count_112 : decode bM_count 112 = .ok (.iconst 4, 1) := by decide +kernel
theorem dM_count_113 : decode bM_count 113 = .ok (.if_icmp .ne 10, 3) := by decide +kernel
theorem dM_count_116 : decode bM_count 116 = .ok (.aload_n 0, 1) := by decide +kernel
theorem dM_count_117 : decode bM_count 117 = .ok (.getfield 49, 3) := by decide +kernel
theorem dM_count_120 : decode bM_count 120 = .ok (.goto 4, 3) := by decide +kernel
theorem dM_count_123 : decode bM_count 123 = .ok (.iconst (-1), 1) := by decide +kernel
theorem dM_count_124 : decode bM_count 124 = .ok (.ireturn, 1) := by decide +kernel
