theorem dL_cell_0 : decode bL_cell 0 = .ok (.iload_n 1, 1) := by decide +kernel
theorem dL_cell_1 : decode bL_cell 1 = .ok (.aload_n 0, 1) := by decide +kernel
theorem dL_cell_2 : decode bL_cell 2 = .ok (.arraylength, 1) := by decide +kernel
theorem dL_cell_3 : decode bL_cell 3 = .ok (.if_icmp .ge 9, 3) := by decide +kernel
theorem dL_cell_6 : decode bL_cell 6 = .ok (.aload_n 0, 1) := by decide +kernel
theorem dL_cell_7 : decode bL_cell 7 = .ok (.iload_n 1, 1) := by decide +kernel
theorem dL_cell_8 : decode bL_cell 8 = .ok (.iaload, 1) := by decide +kernel
theorem dL_cell_9 : decode bL_cell 9 = .ok (.goto 4, 3) := by decide +kernel
theorem dL_cell_12 : decode bL_cell 12 = .ok (.iconst 0, 1) := by decide +kernel
theorem dL_cell_13 : decode bL_cell 13 = .ok (.ireturn, 1) := by decide +kernel
theorem dL_column_0 : decode bL_column 0 = .ok (.aload_n 3, 1) := by decide +kernel
theorem dL_column_1 : decode bL_column 1 = .ok (.iconst 0, 1) := by decide +kernel
theorem dL_column_2 : decode bL_column 2 = .ok (.aload_n 0, 1) := by decide +kernel
theorem dL_column_3 : decode bL_column 3 = .ok (.lload_n 1, 1) := by decide +kernel
theorem dL_column_4 : decode bL_column 4 = .ok (.invokevirtual 7, 3) := by decide +kernel
theorem dL_column_7 : decode bL_column 7 = .ok (.i2l, 1) := by decide +kernel
theorem dL_column_8 : decode bL_column 8 = .ok (.lastore, 1) := by decide +kernel
theorem dL_column_9 : decode bL_column 9 = .ok (.goto 11, 3) := by decide +kernel
theorem dL_column_12 : decode bL_column 12 = .ok (.astore 4, 2) := by decide +kernel
theorem dL_column_14 : decode bL_column 14 = .ok (.iconst 1, 1) := by decide +kernel
theorem dL_column_15 : decode bL_column 15 = .ok (.ireturn, 1) := by decide +kernel
theorem dL_column_16 : decode bL_column 16 = .ok (.astore 4, 2) := by decide +kernel
theorem dL_column_18 : decode bL_column 18 = .ok (.iconst 2, 1) := by decide +kernel
theorem dL_column_19 : decode bL_column 19 = .ok (.ireturn, 1) := by decide +kernel
theorem dL_column_20 : decode bL_column 20 = .ok (.iconst 0, 1) := by decide +kernel
theorem dL_column_21 : decode bL_column 21 = .ok (.ireturn, 1) := by decide +kernel
theorem dL_row_0 : decode bL_row 0 = .ok (.aload 5, 2) := by decide +kernel
theorem dL_row_2 : decode bL_row 2 = .ok (.iconst 0, 1) := by decide +kernel
theorem dL_row_3 : decode bL_row 3 = .ok (.aload_n 0, 1) := by decide +kernel
theorem dL_row_4 : decode bL_row 4 = .ok (.iload_n 1, 1) := by decide +kernel
theorem dL_row_5 : decode bL_row 5 = .ok (.iload_n 2, 1) := by decide +kernel
theorem dL_row_6 : decode bL_row 6 = .ok (.lload_n 3, 1) := by decide +kernel
theorem dL_row_7 : decode bL_row 7 = .ok (.invokevirtual 17, 3) := by decide +kernel
theorem dL_row_10 : decode bL_row 10 = .ok (.i2l, 1) := by decide +kernel
theorem dL_row_11 : decode bL_row 11 = .ok (.lastore, 1) := by decide +kernel
theorem dL_row_12 : decode bL_row 12 = .ok (.goto 11, 3) := by decide +kernel
theorem dL_row_15 : decode bL_row 15 = .ok (.astore 6, 2) := by decide +kernel
theorem dL_row_17 : decode bL_row 17 = .ok (.iconst 1, 1) := by decide +kernel
theorem dL_row_18 : decode bL_row 18 = .ok (.ireturn, 1) := by decide +kernel
theorem dL_row_19 : decode bL_row 19 = .ok (.astore 6, 2) := by decide +kernel
theorem dL_row_21 : decode bL_row 21 = .ok (.iconst 2, 1) := by decide +kernel
theorem dL_row_22 : decode bL_row 22 = .ok (.ireturn, 1) := by decide +kernel
theorem dL_row_23 : decode bL_row 23 = .ok (.iconst 0, 1) := by decide +kernel
theorem dL_row_24 : decode bL_row 24 = .ok (.ireturn, 1) := by decide +kernel
theorem dL_factor_0 : decode bL_factor 0 = .ok (.aload 4, 2) := by decide +kernel
theorem dL_factor_2 : decode bL_factor 2 = .ok (.iconst 0, 1) := by decide +kernel
theorem dL_factor_3 : decode bL_factor 3 = .ok (.aload_n 0, 1) := by decide +kernel
theorem dL_factor_4 : decode bL_factor 4 = .ok (.iload_n 1, 1) := by decide +kernel
theorem dL_factor_5 : decode bL_factor 5 = .ok (.iload_n 2, 1) := by decide +kernel
theorem dL_factor_6 : decode bL_factor 6 = .ok (.iload_n 3, 1) := by decide +kernel
theorem dL_factor_7 : decode bL_factor 7 = .ok (.invokevirtual 21, 3) := by decide +kernel
theorem dL_factor_10 : decode bL_factor 10 = .ok (.i2l, 1) := by decide +kernel
theorem dL_factor_11 : decode bL_factor 11 = .ok (.lastore, 1) := by decide +kernel
theorem dL_factor_12 : decode bL_factor 12 = .ok (.goto 15, 3) := by decide +kernel
theorem dL_factor_15 : decode bL_factor 15 = .ok (.astore 5, 2) := by decide +kernel
theorem dL_factor_17 : decode bL_factor 17 = .ok (.iconst 1, 1) := by decide +kernel
theorem dL_factor_18 : decode bL_factor 18 = .ok (.ireturn, 1) := by decide +kernel
theorem dL_factor_19 : decode bL_factor 19 = .ok (.astore 5, 2) := by decide +kernel
theorem dL_factor_21 : decode bL_factor 21 = .ok (.iconst 2, 1) := by decide +kernel
theorem dL_factor_22 : decode bL_factor 22 = .ok (.ireturn, 1) := by decide +kernel
theorem dL_factor_23 : decode bL_factor 23 = .ok (.astore 5, 2) := by decide +kernel
theorem dL_factor_25 : decode bL_factor 25 = .ok (.iconst 3, 1) := by decide +kernel
theorem dL_factor_26 : decode bL_factor 26 = .ok (.ireturn, 1) := by decide +kernel
theorem dL_factor_27 : decode bL_factor 27 = .ok (.iconst 0, 1) := by decide +kernel
theorem dL_factor_28 : decode bL_factor 28 = .ok (.ireturn, 1) := by decide +kernel
theorem dL_cut_0 : decode bL_cut 0 = .ok (.aload_n 3, 1) := by decide +kernel
theorem dL_cut_1 : decode bL_cut 1 = .ok (.iconst 0, 1) := by decide +kernel
theorem dL_cut_2 : decode bL_cut 2 = .ok (.aload_n 0, 1) := by decide +kernel
theorem dL_cut_3 : decode bL_cut 3 = .ok (.iload_n 1, 1) := by decide +kernel
theorem dL_cut_4 : decode bL_cut 4 = .ok (.iload_n 2, 1) := by decide +kernel
theorem dL_cut_5 : decode bL_cut 5 = .ok (.invokevirtual 27, 3) := by decide +kernel
theorem dL_cut_8 : decode bL_cut 8 = .ok (.i2l, 1) := by decide +kernel
theorem dL_cut_9 : decode bL_cut 9 = .ok (.lastore, 1) := by decide +kernel
theorem dL_cut_10 : decode bL_cut 10 = .ok (.goto 15, 3) := by decide +kernel
theorem dL_cut_13 : decode bL_cut 13 = .ok (.astore 4, 2) := by decide +kernel
theorem dL_cut_15 : decode bL_cut 15 = .ok (.iconst 1, 1) := by decide +kernel
theorem dL_cut_16 : decode bL_cut 16 = .ok (.ireturn, 1) := by decide +kernel
theorem dL_cut_17 : decode bL_cut 17 = .ok (.astore 4, 2) := by decide +kernel
theorem dL_cut_19 : decode bL_cut 19 = .ok (.iconst 2, 1) := by decide +kernel
theorem dL_cut_20 : decode bL_cut 20 = .ok (.ireturn, 1) := by decide +kernel
theorem dL_cut_21 : decode bL_cut 21 = .ok (.astore 4, 2) := by decide +kernel
theorem dL_cut_23 : decode bL_cut 23 = .ok (.iconst 3, 1) := by decide +kernel
theorem dL_cut_24 : decode bL_cut 24 = .ok (.ireturn, 1) := by decide +kernel
theorem dL_cut_25 : decode bL_cut 25 = .ok (.iconst 0, 1) := by decide +kernel
theorem dL_cut_26 : decode bL_cut 26 = .ok (.ireturn, 1) := by decide +kernel
theorem dL_right_0 : decode bL_right 0 = .ok (.aload 4, 2) := by decide +kernel
theorem dL_right_2 : decode bL_right 2 = .ok (.iconst 0, 1) := by decide +kernel
theorem dL_right_3 : decode bL_right 3 = .ok (.aload_n 0, 1) := by decide +kernel
theorem dL_right_4 : decode bL_right 4 = .ok (.iload_n 1, 1) := by decide +kernel
theorem dL_right_5 : decode bL_right 5 = .ok (.lload_n 2, 1) := by decide +kernel
theorem dL_right_6 : decode bL_right 6 = .ok (.invokevirtual 31, 3) := by decide +kernel
theorem dL_right_9 : decode bL_right 9 = .ok (.ifCond .eq 7, 3) := by decide +kernel
theorem dL_right_12 : decode bL_right 12 = .ok (.lconst 1, 1) := by decide +kernel
theorem dL_right_13 : decode bL_right 13 = .ok (.goto 4, 3) := by decide +kernel
theorem dL_right_16 : decode bL_right 16 = .ok (.lconst 0, 1) := by decide +kernel
theorem dL_right_17 : decode bL_right 17 = .ok (.lastore, 1) := by decide +kernel
theorem dL_right_18 : decode bL_right 18 = .ok (.goto 11, 3) := by decide +kernel
theorem dL_right_21 : decode bL_right 21 = .ok (.astore 5, 2) := by decide +kernel
theorem dL_right_23 : decode bL_right 23 = .ok (.iconst 1, 1) := by decide +kernel
theorem dL_right_24 : decode bL_right 24 = .ok (.ireturn, 1) := by decide +kernel
theorem dL_right_25 : decode bL_right 25 = .ok (.astore 5, 2) := by decide +kernel
theorem dL_right_27 : decode bL_right 27 = .ok (.iconst 2, 1) := by decide +kernel
theorem dL_right_28 : decode bL_right 28 = .ok (.ireturn, 1) := by decide +kernel
theorem dL_right_29 : decode bL_right 29 = .ok (.iconst 0, 1) := by decide +kernel
theorem dL_right_30 : decode bL_right 30 = .ok (.ireturn, 1) := by decide +kernel
theorem dL_run_0 : decode bL_run 0 = .ok (.aload_n 2, 1) := by decide +kernel
theorem dL_run_1 : decode bL_run 1 = .ok (.iconst 0, 1) := by decide +kernel
theorem dL_run_2 : decode bL_run 2 = .ok (.aload_n 0, 1) := by decide +kernel
theorem dL_run_3 : decode bL_run 3 = .ok (.iload_n 1, 1) := by decide +kernel
theorem dL_run_4 : decode bL_run 4 = .ok (.invokevirtual 35, 3) := by decide +kernel
theorem dL_run_7 : decode bL_run 7 = .ok (.i2l, 1) := by decide +kernel
theorem dL_run_8 : decode bL_run 8 = .ok (.lastore, 1) := by decide +kernel
theorem dL_run_9 : decode bL_run 9 = .ok (.goto 6, 3) := by decide +kernel
theorem dL_run_12 : decode bL_run 12 = .ok (.astore_n 3, 1) := by decide +kernel
theorem dL_run_13 : decode bL_run 13 = .ok (.iconst 1, 1) := by decide +kernel
theorem dL_run_14 : decode bL_run 14 = .ok (.ireturn, 1) := by decide +kernel
theorem dL_run_15 : decode bL_run 15 = .ok (.iconst 0, 1) := by decide +kernel
theorem dL_run_16 : decode bL_run 16 = .ok (.ireturn, 1) := by decide +kernel
theorem dL_value_0 : decode bL_value 0 = .ok (.aload_n 2, 1) := by decide +kernel
theorem dL_value_1 : decode bL_value 1 = .ok (.iconst 0, 1) := by decide +kernel
theorem dL_value_2 : decode bL_value 2 = .ok (.aload_n 0, 1) := by decide +kernel
theorem dL_value_3 : decode bL_value 3 = .ok (.iload_n 1, 1) := by decide +kernel
theorem dL_value_4 : decode bL_value 4 = .ok (.invokevirtual 39, 3) := by decide +kernel
theorem dL_value_7 : decode bL_value 7 = .ok (.lastore, 1) := by decide +kernel
theorem dL_value_8 : decode bL_value 8 = .ok (.goto 6, 3) := by decide +kernel
theorem dL_value_11 : decode bL_value 11 = .ok (.astore_n 3, 1) := by decide +kernel
theorem dL_value_12 : decode bL_value 12 = .ok (.iconst 1, 1) := by decide +kernel
theorem dL_value_13 : decode bL_value 13 = .ok (.ireturn, 1) := by decide +kernel
theorem dL_value_14 : decode bL_value 14 = .ok (.iconst 0, 1) := by decide +kernel
theorem dL_value_15 : decode bL_value 15 = .ok (.ireturn, 1) := by decide +kernel
theorem dL_share_0 : decode bL_share 0 = .ok (.aload_n 3, 1) := by decide +kernel
theorem dL_share_1 : decode bL_share 1 = .ok (.iconst 0, 1) := by decide +kernel
theorem dL_share_2 : decode bL_share 2 = .ok (.aload_n 0, 1) := by decide +kernel
theorem dL_share_3 : decode bL_share 3 = .ok (.iload_n 1, 1) := by decide +kernel
theorem dL_share_4 : decode bL_share 4 = .ok (.iload_n 2, 1) := by decide +kernel
theorem dL_share_5 : decode bL_share 5 = .ok (.invokevirtual 43, 3) := by decide +kernel
theorem dL_share_8 : decode bL_share 8 = .ok (.lastore, 1) := by decide +kernel
theorem dL_share_9 : decode bL_share 9 = .ok (.goto 11, 3) := by decide +kernel
theorem dL_share_12 : decode bL_share 12 = .ok (.astore 4, 2) := by decide +kernel
theorem dL_share_14 : decode bL_share 14 = .ok (.iconst 1, 1) := by decide +kernel
theorem dL_share_15 : decode bL_share 15 = .ok (.ireturn, 1) := by decide +kernel
theorem dL_share_16 : decode bL_share 16 = .ok (.astore 4, 2) := by decide +kernel
theorem dL_share_18 : decode bL_share 18 = .ok (.iconst 2, 1) := by decide +kernel
theorem dL_share_19 : decode bL_share 19 = .ok (.ireturn, 1) := by decide +kernel
theorem dL_share_20 : decode bL_share 20 = .ok (.iconst 0, 1) := by decide +kernel
theorem dL_share_21 : decode bL_share 21 = .ok (.ireturn, 1) := by decide +kernel
theorem dL_dual_0 : decode bL_dual 0 = .ok (.aload_n 3, 1) := by decide +kernel
theorem dL_dual_1 : decode bL_dual 1 = .ok (.iconst 0, 1) := by decide +kernel
theorem dL_dual_2 : decode bL_dual 2 = .ok (.aload_n 0, 1) := by decide +kernel
theorem dL_dual_3 : decode bL_dual 3 = .ok (.iload_n 1, 1) := by decide +kernel
theorem dL_dual_4 : decode bL_dual 4 = .ok (.iload_n 2, 1) := by decide +kernel
theorem dL_dual_5 : decode bL_dual 5 = .ok (.invokevirtual 47, 3) := by decide +kernel
theorem dL_dual_8 : decode bL_dual 8 = .ok (.lastore, 1) := by decide +kernel
theorem dL_dual_9 : decode bL_dual 9 = .ok (.goto 11, 3) := by decide +kernel
theorem dL_dual_12 : decode bL_dual 12 = .ok (.astore 4, 2) := by decide +kernel
theorem dL_dual_14 : decode bL_dual 14 = .ok (.iconst 1, 1) := by decide +kernel
theorem dL_dual_15 : decode bL_dual 15 = .ok (.ireturn, 1) := by decide +kernel
theorem dL_dual_16 : decode bL_dual 16 = .ok (.astore 4, 2) := by decide +kernel
theorem dL_dual_18 : decode bL_dual 18 = .ok (.iconst 2, 1) := by decide +kernel
theorem dL_dual_19 : decode bL_dual 19 = .ok (.ireturn, 1) := by decide +kernel
theorem dL_dual_20 : decode bL_dual 20 = .ok (.iconst 0, 1) := by decide +kernel
theorem dL_dual_21 : decode bL_dual 21 = .ok (.ireturn, 1) := by decide +kernel
theorem dL_factorOf_0 : decode bL_factorOf 0 = .ok (.aload_n 3, 1) := by decide +kernel
theorem dL_factorOf_1 : decode bL_factorOf 1 = .ok (.iconst 0, 1) := by decide +kernel
theorem dL_factorOf_2 : decode bL_factorOf 2 = .ok (.aload_n 0, 1) := by decide +kernel
theorem dL_factorOf_3 : decode bL_factorOf 3 = .ok (.iload_n 1, 1) := by decide +kernel
theorem dL_factorOf_4 : decode bL_factorOf 4 = .ok (.iload_n 2, 1) := by decide +kernel
theorem dL_factorOf_5 : decode bL_factorOf 5 = .ok (.invokevirtual 50, 3) := by decide +kernel
theorem dL_factorOf_8 : decode bL_factorOf 8 = .ok (.lastore, 1) := by decide +kernel
theorem dL_factorOf_9 : decode bL_factorOf 9 = .ok (.goto 15, 3) := by decide +kernel
theorem dL_factorOf_12 : decode bL_factorOf 12 = .ok (.astore 4, 2) := by decide +kernel
theorem dL_factorOf_14 : decode bL_factorOf 14 = .ok (.iconst 1, 1) := by decide +kernel
theorem dL_factorOf_15 : decode bL_factorOf 15 = .ok (.ireturn, 1) := by decide +kernel
theorem dL_factorOf_16 : decode bL_factorOf 16 = .ok (.astore 4, 2) := by decide +kernel
theorem dL_factorOf_18 : decode bL_factorOf 18 = .ok (.iconst 2, 1) := by decide +kernel
theorem dL_factorOf_19 : decode bL_factorOf 19 = .ok (.ireturn, 1) := by decide +kernel
theorem dL_factorOf_20 : decode bL_factorOf 20 = .ok (.astore 4, 2) := by decide +kernel
theorem dL_factorOf_22 : decode bL_factorOf 22 = .ok (.iconst 3, 1) := by decide +kernel
theorem dL_factorOf_23 : decode bL_factorOf 23 = .ok (.ireturn, 1) := by decide +kernel
theorem dL_factorOf_24 : decode bL_factorOf 24 = .ok (.iconst 0, 1) := by decide +kernel
theorem dL_factorOf_25 : decode bL_factorOf 25 = .ok (.ireturn, 1) := by decide +kernel
theorem dL_law_0 : decode bL_law 0 = .ok (.new 8, 3) := by decide +kernel
theorem dL_law_3 : decode bL_law 3 = .ok (.dup, 1) := by decide +kernel
theorem dL_law_4 : decode bL_law 4 = .ok (.aload_n 0, 1) := by decide +kernel
theorem dL_law_5 : decode bL_law 5 = .ok (.iconst 0, 1) := by decide +kernel
theorem dL_law_6 : decode bL_law 6 = .ok (.invokestatic 53, 3) := by decide +kernel
theorem dL_law_9 : decode bL_law 9 = .ok (.invokespecial 59, 3) := by decide +kernel
theorem dL_law_12 : decode bL_law 12 = .ok (.astore_n 1, 1) := by decide +kernel
theorem dL_law_13 : decode bL_law 13 = .ok (.new 62, 3) := by decide +kernel
theorem dL_law_16 : decode bL_law 16 = .ok (.dup, 1) := by decide +kernel
theorem dL_law_17 : decode bL_law 17 = .ok (.aload_n 0, 1) := by decide +kernel
theorem dL_law_18 : decode bL_law 18 = .ok (.iconst 0, 1) := by decide +kernel
theorem dL_law_19 : decode bL_law 19 = .ok (.invokestatic 53, 3) := by decide +kernel
theorem dL_law_22 : decode bL_law 22 = .ok (.invokespecial 64, 3) := by decide +kernel
theorem dL_law_25 : decode bL_law 25 = .ok (.astore_n 2, 1) := by decide +kernel
theorem dL_law_26 : decode bL_law 26 = .ok (.iconst 1, 1) := by decide +kernel
theorem dL_law_27 : decode bL_law 27 = .ok (.newarray .long, 2) := by decide +kernel
theorem dL_law_29 : decode bL_law 29 = .ok (.astore_n 3, 1) := by decide +kernel
theorem dL_law_30 : decode bL_law 30 = .ok (.iconst 1, 1) := by decide +kernel
theorem dL_law_31 : decode bL_law 31 = .ok (.istore 4, 2) := by decide +kernel
theorem dL_law_33 : decode bL_law 33 = .ok (.iload 4, 2) := by decide +kernel
theorem dL_law_35 : decode bL_law 35 = .ok (.aload_n 0, 1) := by decide +kernel
theorem dL_law_36 : decode bL_law 36 = .ok (.arraylength, 1) := by decide +kernel
theorem dL_law_37 : decode bL_law 37 = .ok (.iconst 5, 1) := by decide +kernel
theorem dL_law_38 : decode bL_law 38 = .ok (.isub, 1) := by decide +kernel
theorem dL_law_39 : decode bL_law 39 = .ok (.if_icmp .gt 901, 3) := by decide +kernel
theorem dL_law_42 : decode bL_law 42 = .ok (.aload_n 0, 1) := by decide +kernel
theorem dL_law_43 : decode bL_law 43 = .ok (.iload 4, 2) := by decide +kernel
theorem dL_law_45 : decode bL_law 45 = .ok (.iaload, 1) := by decide +kernel
theorem dL_law_46 : decode bL_law 46 = .ok (.bipush 15, 2) := by decide +kernel
theorem dL_law_48 : decode bL_law 48 = .ok (.iand, 1) := by decide +kernel
theorem dL_law_49 : decode bL_law 49 = .ok (.tableswitch 885 0 12 #[67, 155, 267, 347, 415, 522, 578, 633, 700, 767, 834, 847, 860], 67) := by decide +kernel
theorem dL_law_116 : decode bL_law 116 = .ok (.aload_n 1, 1) := by decide +kernel
theorem dL_law_117 : decode bL_law 117 = .ok (.aload_n 0, 1) := by decide +kernel
theorem dL_law_118 : decode bL_law 118 = .ok (.iload 4, 2) := by decide +kernel
theorem dL_law_120 : decode bL_law 120 = .ok (.iconst 1, 1) := by decide +kernel
theorem dL_law_121 : decode bL_law 121 = .ok (.iadd, 1) := by decide +kernel
theorem dL_law_122 : decode bL_law 122 = .ok (.iaload, 1) := by decide +kernel
theorem dL_law_123 : decode bL_law 123 = .ok (.i2l, 1) := by decide +kernel
theorem dL_law_124 : decode bL_law 124 = .ok (.bipush 32, 2) := by decide +kernel
theorem dL_law_126 : decode bL_law 126 = .ok (.lshl, 1) := by decide +kernel
theorem dL_law_127 : decode bL_law 127 = .ok (.aload_n 0, 1) := by decide +kernel
theorem dL_law_128 : decode bL_law 128 = .ok (.iload 4, 2) := by decide +kernel
theorem dL_law_130 : decode bL_law 130 = .ok (.iconst 2, 1) := by decide +kernel
theorem dL_law_131 : decode bL_law 131 = .ok (.iadd, 1) := by decide +kernel
theorem dL_law_132 : decode bL_law 132 = .ok (.iaload, 1) := by decide +kernel
theorem dL_law_133 : decode bL_law 133 = .ok (.i2l, 1) := by decide +kernel
theorem dL_law_134 : decode bL_law 134 = .ok (.ldc2_w 65, 3) := by decide +kernel
theorem dL_law_137 : decode bL_law 137 = .ok (.land, 1) := by decide +kernel
theorem dL_law_138 : decode bL_law 138 = .ok (.lor, 1) := by decide +kernel
theorem dL_law_139 : decode bL_law 139 = .ok (.aload_n 3, 1) := by decide +kernel
theorem dL_law_140 : decode bL_law 140 = .ok (.invokestatic 67, 3) := by decide +kernel
theorem dL_law_143 : decode bL_law 143 = .ok (.istore 5, 2) := by decide +kernel
theorem dL_law_145 : decode bL_law 145 = .ok (.aload_n 2, 1) := by decide +kernel
theorem dL_law_146 : decode bL_law 146 = .ok (.aload_n 0, 1) := by decide +kernel
theorem dL_law_147 : decode bL_law 147 = .ok (.iload 4, 2) := by decide +kernel
theorem dL_law_149 : decode bL_law 149 = .ok (.iconst 1, 1) := by decide +kernel
theorem dL_law_150 : decode bL_law 150 = .ok (.iadd, 1) := by decide +kernel
theorem dL_law_151 : decode bL_law 151 = .ok (.iaload, 1) := by decide +kernel
theorem dL_law_152 : decode bL_law 152 = .ok (.i2l, 1) := by decide +kernel
theorem dL_law_153 : decode bL_law 153 = .ok (.bipush 32, 2) := by decide +kernel
theorem dL_law_155 : decode bL_law 155 = .ok (.lshl, 1) := by decide +kernel
theorem dL_law_156 : decode bL_law 156 = .ok (.aload_n 0, 1) := by decide +kernel
theorem dL_law_157 : decode bL_law 157 = .ok (.iload 4, 2) := by decide +kernel
theorem dL_law_159 : decode bL_law 159 = .ok (.iconst 2, 1) := by decide +kernel
theorem dL_law_160 : decode bL_law 160 = .ok (.iadd, 1) := by decide +kernel
theorem dL_law_161 : decode bL_law 161 = .ok (.iaload, 1) := by decide +kernel
theorem dL_law_162 : decode bL_law 162 = .ok (.i2l, 1) := by decide +kernel
theorem dL_law_163 : decode bL_law 163 = .ok (.ldc2_w 65, 3) := by decide +kernel
theorem dL_law_166 : decode bL_law 166 = .ok (.land, 1) := by decide +kernel
theorem dL_law_167 : decode bL_law 167 = .ok (.lor, 1) := by decide +kernel
theorem dL_law_168 : decode bL_law 168 = .ok (.invokevirtual 70, 3) := by decide +kernel
theorem dL_law_171 : decode bL_law 171 = .ok (.istore 6, 2) := by decide +kernel
theorem dL_law_173 : decode bL_law 173 = .ok (.aload_n 2, 1) := by decide +kernel
theorem dL_law_174 : decode bL_law 174 = .ok (.invokevirtual 71, 3) := by decide +kernel
theorem dL_law_177 : decode bL_law 177 = .ok (.iload 5, 2) := by decide +kernel
theorem dL_law_179 : decode bL_law 179 = .ok (.if_icmp .eq 5, 3) := by decide +kernel
theorem dL_law_182 : decode bL_law 182 = .ok (.iconst 0, 1) := by decide +kernel
theorem dL_law_183 : decode bL_law 183 = .ok (.ireturn, 1) := by decide +kernel
theorem dL_law_184 : decode bL_law 184 = .ok (.iload 5, 2) := by decide +kernel
theorem dL_law_186 : decode bL_law 186 = .ok (.ifCond .ne 15, 3) := by decide +kernel
theorem dL_law_189 : decode bL_law 189 = .ok (.aload_n 3, 1) := by decide +kernel
theorem dL_law_190 : decode bL_law 190 = .ok (.iconst 0, 1) := by decide +kernel
theorem dL_law_191 : decode bL_law 191 = .ok (.laload, 1) := by decide +kernel
theorem dL_law_192 : decode bL_law 192 = .ok (.iload 6, 2) := by decide +kernel
theorem dL_law_194 : decode bL_law 194 = .ok (.i2l, 1) := by decide +kernel
theorem dL_law_195 : decode bL_law 195 = .ok (.lcmp, 1) := by decide +kernel
theorem dL_law_196 : decode bL_law 196 = .ok (.ifCond .eq 5, 3) := by decide +kernel
theorem dL_law_199 : decode bL_law 199 = .ok (.iconst 0, 1) := by decide +kernel
theorem dL_law_200 : decode bL_law 200 = .ok (.ireturn, 1) := by decide +kernel
theorem dL_law_201 : decode bL_law 201 = .ok (.goto 733, 3) := by decide +kernel
theorem dL_law_204 : decode bL_law 204 = .ok (.aload_n 1, 1) := by decide +kernel
theorem dL_law_205 : decode bL_law 205 = .ok (.aload_n 0, 1) := by decide +kernel
theorem dL_law_206 : decode bL_law 206 = .ok (.iload 4, 2) := by decide +kernel
theorem dL_law_208 : decode bL_law 208 = .ok (.iconst 1, 1) := by decide +kernel
theorem dL_law_209 : decode bL_law 209 = .ok (.iadd, 1) := by decide +kernel
theorem dL_law_210 : decode bL_law 210 = .ok (.iaload, 1) := by decide +kernel
theorem dL_law_211 : decode bL_law 211 = .ok (.aload_n 0, 1) := by decide +kernel
theorem dL_law_212 : decode bL_law 212 = .ok (.iload 4, 2) := by decide +kernel
theorem dL_law_214 : decode bL_law 214 = .ok (.iconst 2, 1) := by decide +kernel
theorem dL_law_215 : decode bL_law 215 = .ok (.iadd, 1) := by decide +kernel
theorem dL_law_216 : decode bL_law 216 = .ok (.iaload, 1) := by decide +kernel
theorem dL_law_217 : decode bL_law 217 = .ok (.aload_n 0, 1) := by decide +kernel
theorem dL_law_218 : decode bL_law 218 = .ok (.iload 4, 2) := by decide +kernel
theorem dL_law_220 : decode bL_law 220 = .ok (.iconst 3, 1) := by decide +kernel
theorem dL_law_221 : decode bL_law 221 = .ok (.iadd, 1) := by decide +kernel
theorem dL_law_222 : decode bL_law 222 = .ok (.iaload, 1) := by decide +kernel
theorem dL_law_223 : decode bL_law 223 = .ok (.i2l, 1) := by decide +kernel
theorem dL_law_224 : decode bL_law 224 = .ok (.bipush 32, 2) := by decide +kernel
theorem dL_law_226 : decode bL_law 226 = .ok (.lshl, 1) := by decide +kernel
theorem dL_law_227 : decode bL_law 227 = .ok (.aload_n 0, 1) := by decide +kernel
theorem dL_law_228 : decode bL_law 228 = .ok (.iload 4, 2) := by decide +kernel
theorem dL_law_230 : decode bL_law 230 = .ok (.iconst 4, 1) := by decide +kernel
theorem dL_law_231 : decode bL_law 231 = .ok (.iadd, 1) := by decide +kernel
theorem dL_law_232 : decode bL_law 232 = .ok (.iaload, 1) := by decide +kernel
theorem dL_law_233 : decode bL_law 233 = .ok (.i2l, 1) := by decide +kernel
theorem dL_law_234 : decode bL_law 234 = .ok (.ldc2_w 65, 3) := by decide +kernel
theorem dL_law_237 : decode bL_law 237 = .ok (.land, 1) := by decide +kernel
theorem dL_law_238 : decode bL_law 238 = .ok (.lor, 1) := by decide +kernel
theorem dL_law_239 : decode bL_law 239 = .ok (.aload_n 3, 1) := by decide +kernel
theorem dL_law_240 : decode bL_law 240 = .ok (.invokestatic 75, 3) := by decide +kernel
theorem dL_law_243 : decode bL_law 243 = .ok (.istore 5, 2) := by decide +kernel
theorem dL_law_245 : decode bL_law 245 = .ok (.aload_n 2, 1) := by decide +kernel
theorem dL_law_246 : decode bL_law 246 = .ok (.aload_n 0, 1) := by decide +kernel
theorem dL_law_247 : decode bL_law 247 = .ok (.iload 4, 2) := by decide +kernel
theorem dL_law_249 : decode bL_law 249 = .ok (.iconst 1, 1) := by decide +kernel
theorem dL_law_250 : decode bL_law 250 = .ok (.iadd, 1) := by decide +kernel
theorem dL_law_251 : decode bL_law 251 = .ok (.iaload, 1) := by decide +kernel
theorem dL_law_252 : decode bL_law 252 = .ok (.aload_n 0, 1) := by decide +kernel
theorem dL_law_253 : decode bL_law 253 = .ok (.iload 4, 2) := by decide +kernel
theorem dL_law_255 : decode bL_law 255 = .ok (.iconst 2, 1) := by decide +kernel
theorem dL_law_256 : decode bL_law 256 = .ok (.iadd, 1) := by decide +kernel
theorem dL_law_257 : decode bL_law 257 = .ok (.iaload, 1) := by decide +kernel
theorem dL_law_258 : decode bL_law 258 = .ok (.aload_n 0, 1) := by decide +kernel
theorem dL_law_259 : decode bL_law 259 = .ok (.iload 4, 2) := by decide +kernel
theorem dL_law_261 : decode bL_law 261 = .ok (.iconst 3, 1) := by decide +kernel
theorem dL_law_262 : decode bL_law 262 = .ok (.iadd, 1) := by decide +kernel
theorem dL_law_263 : decode bL_law 263 = .ok (.iaload, 1) := by decide +kernel
theorem dL_law_264 : decode bL_law 264 = .ok (.i2l, 1) := by decide +kernel
theorem dL_law_265 : decode bL_law 265 = .ok (.bipush 32, 2) := by decide +kernel
theorem dL_law_267 : decode bL_law 267 = .ok (.lshl, 1) := by decide +kernel
theorem dL_law_268 : decode bL_law 268 = .ok (.aload_n 0, 1) := by decide +kernel
theorem dL_law_269 : decode bL_law 269 = .ok (.iload 4, 2) := by decide +kernel
theorem dL_law_271 : decode bL_law 271 = .ok (.iconst 4, 1) := by decide +kernel
theorem dL_law_272 : decode bL_law 272 = .ok (.iadd, 1) := by decide +kernel
theorem dL_law_273 : decode bL_law 273 = .ok (.iaload, 1) := by decide +kernel
theorem dL_law_274 : decode bL_law 274 = .ok (.i2l, 1) := by decide +kernel
theorem dL_law_275 : decode bL_law 275 = .ok (.ldc2_w 65, 3) := by decide +kernel
theorem dL_law_278 : decode bL_law 278 = .ok (.land, 1) := by decide +kernel
theorem dL_law_279 : decode bL_law 279 = .ok (.lor, 1) := by decide +kernel
theorem dL_law_280 : decode bL_law 280 = .ok (.invokevirtual 78, 3) := by decide +kernel
theorem dL_law_283 : decode bL_law 283 = .ok (.istore 6, 2) := by decide +kernel
theorem dL_law_285 : decode bL_law 285 = .ok (.aload_n 2, 1) := by decide +kernel
theorem dL_law_286 : decode bL_law 286 = .ok (.invokevirtual 71, 3) := by decide +kernel
theorem dL_law_289 : decode bL_law 289 = .ok (.iload 5, 2) := by decide +kernel
theorem dL_law_291 : decode bL_law 291 = .ok (.if_icmp .eq 5, 3) := by decide +kernel
theorem dL_law_294 : decode bL_law 294 = .ok (.iconst 0, 1) := by decide +kernel
theorem dL_law_295 : decode bL_law 295 = .ok (.ireturn, 1) := by decide +kernel
theorem dL_law_296 : decode bL_law 296 = .ok (.iload 5, 2) := by decide +kernel
theorem dL_law_298 : decode bL_law 298 = .ok (.ifCond .ne 15, 3) := by decide +kernel
theorem dL_law_301 : decode bL_law 301 = .ok (.aload_n 3, 1) := by decide +kernel
theorem dL_law_302 : decode bL_law 302 = .ok (.iconst 0, 1) := by decide +kernel
theorem dL_law_303 : decode bL_law 303 = .ok (.laload, 1) := by decide +kernel
theorem dL_law_304 : decode bL_law 304 = .ok (.iload 6, 2) := by decide +kernel
theorem dL_law_306 : decode bL_law 306 = .ok (.i2l, 1) := by decide +kernel
theorem dL_law_307 : decode bL_law 307 = .ok (.lcmp, 1) := by decide +kernel
theorem dL_law_308 : decode bL_law 308 = .ok (.ifCond .eq 5, 3) := by decide +kernel
theorem dL_law_311 : decode bL_law 311 = .ok (.iconst 0, 1) := by decide +kernel
theorem dL_law_312 : decode bL_law 312 = .ok (.ireturn, 1) := by decide +kernel
theorem dL_law_313 : decode bL_law 313 = .ok (.goto 621, 3) := by decide +kernel
theorem dL_law_316 : decode bL_law 316 = .ok (.aload_n 1, 1) := by decide +kernel
theorem dL_law_317 : decode bL_law 317 = .ok (.aload_n 0, 1) := by decide +kernel
theorem dL_law_318 : decode bL_law 318 = .ok (.iload 4, 2) := by decide +kernel
theorem dL_law_320 : decode bL_law 320 = .ok (.iconst 1, 1) := by decide +kernel
theorem dL_law_321 : decode bL_law 321 = .ok (.iadd, 1) := by decide +kernel
theorem dL_law_322 : decode bL_law 322 = .ok (.iaload, 1) := by decide +kernel
theorem dL_law_323 : decode bL_law 323 = .ok (.aload_n 0, 1) := by decide +kernel
theorem dL_law_324 : decode bL_law 324 = .ok (.iload 4, 2) := by decide +kernel
theorem dL_law_326 : decode bL_law 326 = .ok (.iconst 2, 1) := by decide +kernel
theorem dL_law_327 : decode bL_law 327 = .ok (.iadd, 1) := by decide +kernel
theorem dL_law_328 : decode bL_law 328 = .ok (.iaload, 1) := by decide +kernel
theorem dL_law_329 : decode bL_law 329 = .ok (.aload_n 0, 1) := by decide +kernel
theorem dL_law_330 : decode bL_law 330 = .ok (.iload 4, 2) := by decide +kernel
theorem dL_law_332 : decode bL_law 332 = .ok (.iconst 3, 1) := by decide +kernel
theorem dL_law_333 : decode bL_law 333 = .ok (.iadd, 1) := by decide +kernel
theorem dL_law_334 : decode bL_law 334 = .ok (.iaload, 1) := by decide +kernel
theorem dL_law_335 : decode bL_law 335 = .ok (.aload_n 3, 1) := by decide +kernel
theorem dL_law_336 : decode bL_law 336 = .ok (.invokestatic 79, 3) := by decide +kernel
theorem dL_law_339 : decode bL_law 339 = .ok (.istore 5, 2) := by decide +kernel
theorem dL_law_341 : decode bL_law 341 = .ok (.aload_n 2, 1) := by decide +kernel
theorem dL_law_342 : decode bL_law 342 = .ok (.aload_n 0, 1) := by decide +kernel
theorem dL_law_343 : decode bL_law 343 = .ok (.iload 4, 2) := by decide +kernel
theorem dL_law_345 : decode bL_law 345 = .ok (.iconst 1, 1) := by decide +kernel
theorem dL_law_346 : decode bL_law 346 = .ok (.iadd, 1) := by decide +kernel
theorem dL_law_347 : decode bL_law 347 = .ok (.iaload, 1) := by decide +kernel
theorem dL_law_348 : decode bL_law 348 = .ok (.aload_n 0, 1) := by decide +kernel
theorem dL_law_349 : decode bL_law 349 = .ok (.iload 4, 2) := by decide +kernel
theorem dL_law_351 : decode bL_law 351 = .ok (.iconst 2, 1) := by decide +kernel
theorem dL_law_352 : decode bL_law 352 = .ok (.iadd, 1) := by decide +kernel
theorem dL_law_353 : decode bL_law 353 = .ok (.iaload, 1) := by decide +kernel
theorem dL_law_354 : decode bL_law 354 = .ok (.aload_n 0, 1) := by decide +kernel
theorem dL_law_355 : decode bL_law 355 = .ok (.iload 4, 2) := by decide +kernel
theorem dL_law_357 : decode bL_law 357 = .ok (.iconst 3, 1) := by decide +kernel
theorem dL_law_358 : decode bL_law 358 = .ok (.iadd, 1) := by decide +kernel
theorem dL_law_359 : decode bL_law 359 = .ok (.iaload, 1) := by decide +kernel
theorem dL_law_360 : decode bL_law 360 = .ok (.invokevirtual 82, 3) := by decide +kernel
theorem dL_law_363 : decode bL_law 363 = .ok (.istore 6, 2) := by decide +kernel
theorem dL_law_365 : decode bL_law 365 = .ok (.aload_n 2, 1) := by decide +kernel
theorem dL_law_366 : decode bL_law 366 = .ok (.invokevirtual 71, 3) := by decide +kernel
theorem dL_law_369 : decode bL_law 369 = .ok (.iload 5, 2) := by decide +kernel
theorem dL_law_371 : decode bL_law 371 = .ok (.if_icmp .eq 5, 3) := by decide +kernel
theorem dL_law_374 : decode bL_law 374 = .ok (.iconst 0, 1) := by decide +kernel
theorem dL_law_375 : decode bL_law 375 = .ok (.ireturn, 1) := by decide +kernel
theorem dL_law_376 : decode bL_law 376 = .ok (.iload 5, 2) := by decide +kernel
theorem dL_law_378 : decode bL_law 378 = .ok (.ifCond .ne 15, 3) := by decide +kernel
theorem dL_law_381 : decode bL_law 381 = .ok (.aload_n 3, 1) := by decide +kernel
theorem dL_law_382 : decode bL_law 382 = .ok (.iconst 0, 1) := by decide +kernel
theorem dL_law_383 : decode bL_law 383 = .ok (.laload, 1) := by decide +kernel
theorem dL_law_384 : decode bL_law 384 = .ok (.iload 6, 2) := by decide +kernel
theorem dL_law_386 : decode bL_law 386 = .ok (.i2l, 1) := by decide +kernel
theorem dL_law_387 : decode bL_law 387 = .ok (.lcmp, 1) := by decide +kernel
theorem dL_law_388 : decode bL_law 388 = .ok (.ifCond .eq 5, 3) := by decide +kernel
theorem dL_law_391 : decode bL_law 391 = .ok (.iconst 0, 1) := by decide +kernel
theorem dL_law_392 : decode bL_law 392 = .ok (.ireturn, 1) := by decide +kernel
theorem dL_law_393 : decode bL_law 393 = .ok (.goto 541, 3) := by decide +kernel
theorem dL_law_396 : decode bL_law 396 = .ok (.aload_n 1, 1) := by decide +kernel
theorem dL_law_397 : decode bL_law 397 = .ok (.aload_n 0, 1) := by decide +kernel
theorem dL_law_398 : decode bL_law 398 = .ok (.iload 4, 2) := by decide +kernel
theorem dL_law_400 : decode bL_law 400 = .ok (.iconst 1, 1) := by decide +kernel
theorem dL_law_401 : decode bL_law 401 = .ok (.iadd, 1) := by decide +kernel
theorem dL_law_402 : decode bL_law 402 = .ok (.iaload, 1) := by decide +kernel
theorem dL_law_403 : decode bL_law 403 = .ok (.aload_n 0, 1) := by decide +kernel
theorem dL_law_404 : decode bL_law 404 = .ok (.iload 4, 2) := by decide +kernel
theorem dL_law_406 : decode bL_law 406 = .ok (.iconst 2, 1) := by decide +kernel
theorem dL_law_407 : decode bL_law 407 = .ok (.iadd, 1) := by decide +kernel
theorem dL_law_408 : decode bL_law 408 = .ok (.iaload, 1) := by decide +kernel
theorem dL_law_409 : decode bL_law 409 = .ok (.aload_n 3, 1) := by decide +kernel
theorem dL_law_410 : decode bL_law 410 = .ok (.invokestatic 83, 3) := by decide +kernel
theorem dL_law_413 : decode bL_law 413 = .ok (.istore 5, 2) := by decide +kernel
theorem dL_law_415 : decode bL_law 415 = .ok (.aload_n 2, 1) := by decide +kernel
theorem dL_law_416 : decode bL_law 416 = .ok (.aload_n 0, 1) := by decide +kernel
theorem dL_law_417 : decode bL_law 417 = .ok (.iload 4, 2) := by decide +kernel
theorem dL_law_419 : decode bL_law 419 = .ok (.iconst 1, 1) := by decide +kernel
theorem dL_law_420 : decode bL_law 420 = .ok (.iadd, 1) := by decide +kernel
theorem dL_law_421 : decode bL_law 421 = .ok (.iaload, 1) := by decide +kernel
theorem dL_law_422 : decode bL_law 422 = .ok (.aload_n 0, 1) := by decide +kernel
theorem dL_law_423 : decode bL_law 423 = .ok (.iload 4, 2) := by decide +kernel
theorem dL_law_425 : decode bL_law 425 = .ok (.iconst 2, 1) := by decide +kernel
theorem dL_law_426 : decode bL_law 426 = .ok (.iadd, 1) := by decide +kernel
theorem dL_law_427 : decode bL_law 427 = .ok (.iaload, 1) := by decide +kernel
theorem dL_law_428 : decode bL_law 428 = .ok (.invokevirtual 86, 3) := by decide +kernel
theorem dL_law_431 : decode bL_law 431 = .ok (.istore 6, 2) := by decide +kernel
theorem dL_law_433 : decode bL_law 433 = .ok (.aload_n 2, 1) := by decide +kernel
theorem dL_law_434 : decode bL_law 434 = .ok (.invokevirtual 71, 3) := by decide +kernel
theorem dL_law_437 : decode bL_law 437 = .ok (.iload 5, 2) := by decide +kernel
theorem dL_law_439 : decode bL_law 439 = .ok (.if_icmp .eq 5, 3) := by decide +kernel
theorem dL_law_442 : decode bL_law 442 = .ok (.iconst 0, 1) := by decide +kernel
theorem dL_law_443 : decode bL_law 443 = .ok (.ireturn, 1) := by decide +kernel
theorem dL_law_444 : decode bL_law 444 = .ok (.iload 5, 2) := by decide +kernel
theorem dL_law_446 : decode bL_law 446 = .ok (.ifCond .ne 15, 3) := by decide +kernel
theorem dL_law_449 : decode bL_law 449 = .ok (.aload_n 3, 1) := by decide +kernel
theorem dL_law_450 : decode bL_law 450 = .ok (.iconst 0, 1) := by decide +kernel
theorem dL_law_451 : decode bL_law 451 = .ok (.laload, 1) := by decide +kernel
theorem dL_law_452 : decode bL_law 452 = .ok (.iload 6, 2) := by decide +kernel
theorem dL_law_454 : decode bL_law 454 = .ok (.i2l, 1) := by decide +kernel
theorem dL_law_455 : decode bL_law 455 = .ok (.lcmp, 1) := by decide +kernel
theorem dL_law_456 : decode bL_law 456 = .ok (.ifCond .eq 5, 3) := by decide +kernel
theorem dL_law_459 : decode bL_law 459 = .ok (.iconst 0, 1) := by decide +kernel
theorem dL_law_460 : decode bL_law 460 = .ok (.ireturn, 1) := by decide +kernel
theorem dL_law_461 : decode bL_law 461 = .ok (.goto 473, 3) := by decide +kernel
theorem dL_law_464 : decode bL_law 464 = .ok (.aload_n 1, 1) := by decide +kernel
theorem dL_law_465 : decode bL_law 465 = .ok (.aload_n 0, 1) := by decide +kernel
theorem dL_law_466 : decode bL_law 466 = .ok (.iload 4, 2) := by decide +kernel
theorem dL_law_468 : decode bL_law 468 = .ok (.iconst 1, 1) := by decide +kernel
theorem dL_law_469 : decode bL_law 469 = .ok (.iadd, 1) := by decide +kernel
theorem dL_law_470 : decode bL_law 470 = .ok (.iaload, 1) := by decide +kernel
theorem dL_law_471 : decode bL_law 471 = .ok (.aload_n 0, 1) := by decide +kernel
theorem dL_law_472 : decode bL_law 472 = .ok (.iload 4, 2) := by decide +kernel
theorem dL_law_474 : decode bL_law 474 = .ok (.iconst 2, 1) := by decide +kernel
theorem dL_law_475 : decode bL_law 475 = .ok (.iadd, 1) := by decide +kernel
theorem dL_law_476 : decode bL_law 476 = .ok (.iaload, 1) := by decide +kernel
theorem dL_law_477 : decode bL_law 477 = .ok (.i2l, 1) := by decide +kernel
theorem dL_law_478 : decode bL_law 478 = .ok (.bipush 32, 2) := by decide +kernel
theorem dL_law_480 : decode bL_law 480 = .ok (.lshl, 1) := by decide +kernel
theorem dL_law_481 : decode bL_law 481 = .ok (.aload_n 0, 1) := by decide +kernel
theorem dL_law_482 : decode bL_law 482 = .ok (.iload 4, 2) := by decide +kernel
theorem dL_law_484 : decode bL_law 484 = .ok (.iconst 3, 1) := by decide +kernel
theorem dL_law_485 : decode bL_law 485 = .ok (.iadd, 1) := by decide +kernel
theorem dL_law_486 : decode bL_law 486 = .ok (.iaload, 1) := by decide +kernel
theorem dL_law_487 : decode bL_law 487 = .ok (.i2l, 1) := by decide +kernel
theorem dL_law_488 : decode bL_law 488 = .ok (.ldc2_w 65, 3) := by decide +kernel
theorem dL_law_491 : decode bL_law 491 = .ok (.land, 1) := by decide +kernel
theorem dL_law_492 : decode bL_law 492 = .ok (.lor, 1) := by decide +kernel
theorem dL_law_493 : decode bL_law 493 = .ok (.aload_n 3, 1) := by decide +kernel
theorem dL_law_494 : decode bL_law 494 = .ok (.invokestatic 87, 3) := by decide +kernel
theorem dL_law_497 : decode bL_law 497 = .ok (.istore 5, 2) := by decide +kernel
theorem dL_law_499 : decode bL_law 499 = .ok (.aload_n 2, 1) := by decide +kernel
theorem dL_law_500 : decode bL_law 500 = .ok (.aload_n 0, 1) := by decide +kernel
theorem dL_law_501 : decode bL_law 501 = .ok (.iload 4, 2) := by decide +kernel
theorem dL_law_503 : decode bL_law 503 = .ok (.iconst 1, 1) := by decide +kernel
theorem dL_law_504 : decode bL_law 504 = .ok (.iadd, 1) := by decide +kernel
theorem dL_law_505 : decode bL_law 505 = .ok (.iaload, 1) := by decide +kernel
theorem dL_law_506 : decode bL_law 506 = .ok (.aload_n 0, 1) := by decide +kernel
theorem dL_law_507 : decode bL_law 507 = .ok (.iload 4, 2) := by decide +kernel
theorem dL_law_509 : decode bL_law 509 = .ok (.iconst 2, 1) := by decide +kernel
theorem dL_law_510 : decode bL_law 510 = .ok (.iadd, 1) := by decide +kernel
theorem dL_law_511 : decode bL_law 511 = .ok (.iaload, 1) := by decide +kernel
theorem dL_law_512 : decode bL_law 512 = .ok (.i2l, 1) := by decide +kernel
theorem dL_law_513 : decode bL_law 513 = .ok (.bipush 32, 2) := by decide +kernel
theorem dL_law_515 : decode bL_law 515 = .ok (.lshl, 1) := by decide +kernel
theorem dL_law_516 : decode bL_law 516 = .ok (.aload_n 0, 1) := by decide +kernel
theorem dL_law_517 : decode bL_law 517 = .ok (.iload 4, 2) := by decide +kernel
theorem dL_law_519 : decode bL_law 519 = .ok (.iconst 3, 1) := by decide +kernel
theorem dL_law_520 : decode bL_law 520 = .ok (.iadd, 1) := by decide +kernel
theorem dL_law_521 : decode bL_law 521 = .ok (.iaload, 1) := by decide +kernel
theorem dL_law_522 : decode bL_law 522 = .ok (.i2l, 1) := by decide +kernel
theorem dL_law_523 : decode bL_law 523 = .ok (.ldc2_w 65, 3) := by decide +kernel
theorem dL_law_526 : decode bL_law 526 = .ok (.land, 1) := by decide +kernel
theorem dL_law_527 : decode bL_law 527 = .ok (.lor, 1) := by decide +kernel
theorem dL_law_528 : decode bL_law 528 = .ok (.invokevirtual 90, 3) := by decide +kernel
theorem dL_law_531 : decode bL_law 531 = .ok (.istore 6, 2) := by decide +kernel
theorem dL_law_533 : decode bL_law 533 = .ok (.aload_n 2, 1) := by decide +kernel
theorem dL_law_534 : decode bL_law 534 = .ok (.invokevirtual 71, 3) := by decide +kernel
theorem dL_law_537 : decode bL_law 537 = .ok (.iload 5, 2) := by decide +kernel
theorem dL_law_539 : decode bL_law 539 = .ok (.if_icmp .eq 5, 3) := by decide +kernel
theorem dL_law_542 : decode bL_law 542 = .ok (.iconst 0, 1) := by decide +kernel
theorem dL_law_543 : decode bL_law 543 = .ok (.ireturn, 1) := by decide +kernel
theorem dL_law_544 : decode bL_law 544 = .ok (.iload 5, 2) := by decide +kernel
theorem dL_law_546 : decode bL_law 546 = .ok (.ifCond .ne 22, 3) := by decide +kernel
theorem dL_law_549 : decode bL_law 549 = .ok (.aload_n 3, 1) := by decide +kernel
theorem dL_law_550 : decode bL_law 550 = .ok (.iconst 0, 1) := by decide +kernel
theorem dL_law_551 : decode bL_law 551 = .ok (.laload, 1) := by decide +kernel
theorem dL_law_552 : decode bL_law 552 = .ok (.iload 6, 2) := by decide +kernel
theorem dL_law_554 : decode bL_law 554 = .ok (.ifCond .eq 7, 3) := by decide +kernel
theorem dL_law_557 : decode bL_law 557 = .ok (.lconst 1, 1) := by decide +kernel
theorem dL_law_558 : decode bL_law 558 = .ok (.goto 4, 3) := by decide +kernel
theorem dL_law_561 : decode bL_law 561 = .ok (.lconst 0, 1) := by decide +kernel
theorem dL_law_562 : decode bL_law 562 = .ok (.lcmp, 1) := by decide +kernel
theorem dL_law_563 : decode bL_law 563 = .ok (.ifCond .eq 5, 3) := by decide +kernel
theorem dL_law_566 : decode bL_law 566 = .ok (.iconst 0, 1) := by decide +kernel
theorem dL_law_567 : decode bL_law 567 = .ok (.ireturn, 1) := by decide +kernel
theorem dL_law_568 : decode bL_law 568 = .ok (.goto 366, 3) := by decide +kernel
theorem dL_law_571 : decode bL_law 571 = .ok (.aload_n 1, 1) := by decide +kernel
theorem dL_law_572 : decode bL_law 572 = .ok (.aload_n 0, 1) := by decide +kernel
theorem dL_law_573 : decode bL_law 573 = .ok (.iload 4, 2) := by decide +kernel
theorem dL_law_575 : decode bL_law 575 = .ok (.iconst 1, 1) := by decide +kernel
theorem dL_law_576 : decode bL_law 576 = .ok (.iadd, 1) := by decide +kernel
theorem dL_law_577 : decode bL_law 577 = .ok (.iaload, 1) := by decide +kernel
theorem dL_law_578 : decode bL_law 578 = .ok (.aload_n 3, 1) := by decide +kernel
theorem dL_law_579 : decode bL_law 579 = .ok (.invokestatic 91, 3) := by decide +kernel
theorem dL_law_582 : decode bL_law 582 = .ok (.istore 5, 2) := by decide +kernel
theorem dL_law_584 : decode bL_law 584 = .ok (.aload_n 2, 1) := by decide +kernel
theorem dL_law_585 : decode bL_law 585 = .ok (.aload_n 0, 1) := by decide +kernel
theorem dL_law_586 : decode bL_law 586 = .ok (.iload 4, 2) := by decide +kernel
theorem dL_law_588 : decode bL_law 588 = .ok (.iconst 1, 1) := by decide +kernel
theorem dL_law_589 : decode bL_law 589 = .ok (.iadd, 1) := by decide +kernel
theorem dL_law_590 : decode bL_law 590 = .ok (.iaload, 1) := by decide +kernel
theorem dL_law_591 : decode bL_law 591 = .ok (.invokevirtual 94, 3) := by decide +kernel
theorem dL_law_594 : decode bL_law 594 = .ok (.istore 6, 2) := by decide +kernel
theorem dL_law_596 : decode bL_law 596 = .ok (.aload_n 2, 1) := by decide +kernel
theorem dL_law_597 : decode bL_law 597 = .ok (.invokevirtual 71, 3) := by decide +kernel
theorem dL_law_600 : decode bL_law 600 = .ok (.iload 5, 2) := by decide +kernel
theorem dL_law_602 : decode bL_law 602 = .ok (.if_icmp .eq 5, 3) := by decide +kernel
theorem dL_law_605 : decode bL_law 605 = .ok (.iconst 0, 1) := by decide +kernel
theorem dL_law_606 : decode bL_law 606 = .ok (.ireturn, 1) := by decide +kernel
theorem dL_law_607 : decode bL_law 607 = .ok (.iload 5, 2) := by decide +kernel
theorem dL_law_609 : decode bL_law 609 = .ok (.ifCond .ne 15, 3) := by decide +kernel
theorem dL_law_612 : decode bL_law 612 = .ok (.aload_n 3, 1) := by decide +kernel
theorem dL_law_613 : decode bL_law 613 = .ok (.iconst 0, 1) := by decide +kernel
theorem dL_law_614 : decode bL_law 614 = .ok (.laload, 1) := by decide +kernel
theorem dL_law_615 : decode bL_law 615 = .ok (.iload 6, 2) := by decide +kernel
theorem dL_law_617 : decode bL_law 617 = .ok (.i2l, 1) := by decide +kernel
theorem dL_law_618 : decode bL_law 618 = .ok (.lcmp, 1) := by decide +kernel
theorem dL_law_619 : decode bL_law 619 = .ok (.ifCond .eq 5, 3) := by decide +kernel
theorem dL_law_622 : decode bL_law 622 = .ok (.iconst 0, 1) := by decide +kernel
theorem dL_law_623 : decode bL_law 623 = .ok (.ireturn, 1) := by decide +kernel
theorem dL_law_624 : decode bL_law 624 = .ok (.goto 310, 3) := by decide +kernel
theorem dL_law_627 : decode bL_law 627 = .ok (.aload_n 1, 1) := by decide +kernel
theorem dL_law_628 : decode bL_law 628 = .ok (.aload_n 0, 1) := by decide +kernel
theorem dL_law_629 : decode bL_law 629 = .ok (.iload 4, 2) := by decide +kernel
theorem dL_law_631 : decode bL_law 631 = .ok (.iconst 1, 1) := by decide +kernel
theorem dL_law_632 : decode bL_law 632 = .ok (.iadd, 1) := by decide +kernel
theorem dL_law_633 : decode bL_law 633 = .ok (.iaload, 1) := by decide +kernel
theorem dL_law_634 : decode bL_law 634 = .ok (.aload_n 3, 1) := by decide +kernel
theorem dL_law_635 : decode bL_law 635 = .ok (.invokestatic 95, 3) := by decide +kernel
theorem dL_law_638 : decode bL_law 638 = .ok (.istore 5, 2) := by decide +kernel
theorem dL_law_640 : decode bL_law 640 = .ok (.aload_n 2, 1) := by decide +kernel
theorem dL_law_641 : decode bL_law 641 = .ok (.aload_n 0, 1) := by decide +kernel
theorem dL_law_642 : decode bL_law 642 = .ok (.iload 4, 2) := by decide +kernel
theorem dL_law_644 : decode bL_law 644 = .ok (.iconst 1, 1) := by decide +kernel
theorem dL_law_645 : decode bL_law 645 = .ok (.iadd, 1) := by decide +kernel
theorem dL_law_646 : decode bL_law 646 = .ok (.iaload, 1) := by decide +kernel
theorem dL_law_647 : decode bL_law 647 = .ok (.invokevirtual 97, 3) := by decide +kernel
theorem dL_law_650 : decode bL_law 650 = .ok (.lstore 6, 2) := by decide +kernel
theorem dL_law_652 : decode bL_law 652 = .ok (.aload_n 2, 1) := by decide +kernel
theorem dL_law_653 : decode bL_law 653 = .ok (.invokevirtual 71, 3) := by decide +kernel
theorem dL_law_656 : decode bL_law 656 = .ok (.iload 5, 2) := by decide +kernel
theorem dL_law_658 : decode bL_law 658 = .ok (.if_icmp .eq 5, 3) := by decide +kernel
theorem dL_law_661 : decode bL_law 661 = .ok (.iconst 0, 1) := by decide +kernel
theorem dL_law_662 : decode bL_law 662 = .ok (.ireturn, 1) := by decide +kernel
theorem dL_law_663 : decode bL_law 663 = .ok (.iload 5, 2) := by decide +kernel
theorem dL_law_665 : decode bL_law 665 = .ok (.ifCond .ne 14, 3) := by decide +kernel
theorem dL_law_668 : decode bL_law 668 = .ok (.aload_n 3, 1) := by decide +kernel
theorem dL_law_669 : decode bL_law 669 = .ok (.iconst 0, 1) := by decide +kernel
theorem dL_law_670 : decode bL_law 670 = .ok (.laload, 1) := by decide +kernel
theorem dL_law_671 : decode bL_law 671 = .ok (.lload 6, 2) := by decide +kernel
theorem dL_law_673 : decode bL_law 673 = .ok (.lcmp, 1) := by decide +kernel
theorem dL_law_674 : decode bL_law 674 = .ok (.ifCond .eq 5, 3) := by decide +kernel
theorem dL_law_677 : decode bL_law 677 = .ok (.iconst 0, 1) := by decide +kernel
theorem dL_law_678 : decode bL_law 678 = .ok (.ireturn, 1) := by decide +kernel
theorem dL_law_679 : decode bL_law 679 = .ok (.goto 255, 3) := by decide +kernel
theorem dL_law_682 : decode bL_law 682 = .ok (.aload_n 1, 1) := by decide +kernel
theorem dL_law_683 : decode bL_law 683 = .ok (.aload_n 0, 1) := by decide +kernel
theorem dL_law_684 : decode bL_law 684 = .ok (.iload 4, 2) := by decide +kernel
theorem dL_law_686 : decode bL_law 686 = .ok (.iconst 1, 1) := by decide +kernel
theorem dL_law_687 : decode bL_law 687 = .ok (.iadd, 1) := by decide +kernel
theorem dL_law_688 : decode bL_law 688 = .ok (.iaload, 1) := by decide +kernel
theorem dL_law_689 : decode bL_law 689 = .ok (.aload_n 0, 1) := by decide +kernel
theorem dL_law_690 : decode bL_law 690 = .ok (.iload 4, 2) := by decide +kernel
theorem dL_law_692 : decode bL_law 692 = .ok (.iconst 2, 1) := by decide +kernel
theorem dL_law_693 : decode bL_law 693 = .ok (.iadd, 1) := by decide +kernel
theorem dL_law_694 : decode bL_law 694 = .ok (.iaload, 1) := by decide +kernel
theorem dL_law_695 : decode bL_law 695 = .ok (.aload_n 3, 1) := by decide +kernel
theorem dL_law_696 : decode bL_law 696 = .ok (.invokestatic 98, 3) := by decide +kernel
theorem dL_law_699 : decode bL_law 699 = .ok (.istore 5, 2) := by decide +kernel
theorem dL_law_701 : decode bL_law 701 = .ok (.aload_n 2, 1) := by decide +kernel
theorem dL_law_702 : decode bL_law 702 = .ok (.aload_n 0, 1) := by decide +kernel
theorem dL_law_703 : decode bL_law 703 = .ok (.iload 4, 2) := by decide +kernel
theorem dL_law_705 : decode bL_law 705 = .ok (.iconst 1, 1) := by decide +kernel
theorem dL_law_706 : decode bL_law 706 = .ok (.iadd, 1) := by decide +kernel
theorem dL_law_707 : decode bL_law 707 = .ok (.iaload, 1) := by decide +kernel
theorem dL_law_708 : decode bL_law 708 = .ok (.aload_n 0, 1) := by decide +kernel
theorem dL_law_709 : decode bL_law 709 = .ok (.iload 4, 2) := by decide +kernel
theorem dL_law_711 : decode bL_law 711 = .ok (.iconst 2, 1) := by decide +kernel
theorem dL_law_712 : decode bL_law 712 = .ok (.iadd, 1) := by decide +kernel
theorem dL_law_713 : decode bL_law 713 = .ok (.iaload, 1) := by decide +kernel
theorem dL_law_714 : decode bL_law 714 = .ok (.invokevirtual 100, 3) := by decide +kernel
theorem dL_law_717 : decode bL_law 717 = .ok (.lstore 6, 2) := by decide +kernel
theorem dL_law_719 : decode bL_law 719 = .ok (.aload_n 2, 1) := by decide +kernel
theorem dL_law_720 : decode bL_law 720 = .ok (.invokevirtual 71, 3) := by decide +kernel
theorem dL_law_723 : decode bL_law 723 = .ok (.iload 5, 2) := by decide +kernel
theorem dL_law_725 : decode bL_law 725 = .ok (.if_icmp .eq 5, 3) := by decide +kernel
theorem dL_law_728 : decode bL_law 728 = .ok (.iconst 0, 1) := by decide +kernel
theorem dL_law_729 : decode bL_law 729 = .ok (.ireturn, 1) := by decide +kernel
theorem dL_law_730 : decode bL_law 730 = .ok (.iload 5, 2) := by decide +kernel
theorem dL_law_732 : decode bL_law 732 = .ok (.ifCond .ne 14, 3) := by decide +kernel
theorem dL_law_735 : decode bL_law 735 = .ok (.aload_n 3, 1) := by decide +kernel
theorem dL_law_736 : decode bL_law 736 = .ok (.iconst 0, 1) := by decide +kernel
theorem dL_law_737 : decode bL_law 737 = .ok (.laload, 1) := by decide +kernel
theorem dL_law_738 : decode bL_law 738 = .ok (.lload 6, 2) := by decide +kernel
theorem dL_law_740 : decode bL_law 740 = .ok (.lcmp, 1) := by decide +kernel
theorem dL_law_741 : decode bL_law 741 = .ok (.ifCond .eq 5, 3) := by decide +kernel
theorem dL_law_744 : decode bL_law 744 = .ok (.iconst 0, 1) := by decide +kernel
theorem dL_law_745 : decode bL_law 745 = .ok (.ireturn, 1) := by decide +kernel
theorem dL_law_746 : decode bL_law 746 = .ok (.goto 188, 3) := by decide +kernel
theorem dL_law_749 : decode bL_law 749 = .ok (.aload_n 1, 1) := by decide +kernel
theorem dL_law_750 : decode bL_law 750 = .ok (.aload_n 0, 1) := by decide +kernel
theorem dL_law_751 : decode bL_law 751 = .ok (.iload 4, 2) := by decide +kernel
theorem dL_law_753 : decode bL_law 753 = .ok (.iconst 1, 1) := by decide +kernel
theorem dL_law_754 : decode bL_law 754 = .ok (.iadd, 1) := by decide +kernel
theorem dL_law_755 : decode bL_law 755 = .ok (.iaload, 1) := by decide +kernel
theorem dL_law_756 : decode bL_law 756 = .ok (.aload_n 0, 1) := by decide +kernel
theorem dL_law_757 : decode bL_law 757 = .ok (.iload 4, 2) := by decide +kernel
theorem dL_law_759 : decode bL_law 759 = .ok (.iconst 2, 1) := by decide +kernel
theorem dL_law_760 : decode bL_law 760 = .ok (.iadd, 1) := by decide +kernel
theorem dL_law_761 : decode bL_law 761 = .ok (.iaload, 1) := by decide +kernel
theorem dL_law_762 : decode bL_law 762 = .ok (.aload_n 3, 1) := by decide +kernel
theorem dL_law_763 : decode bL_law 763 = .ok (.invokestatic 101, 3) := by decide +kernel
theorem dL_law_766 : decode bL_law 766 = .ok (.istore 5, 2) := by decide +kernel
theorem dL_law_768 : decode bL_law 768 = .ok (.aload_n 2, 1) := by decide +kernel
theorem dL_law_769 : decode bL_law 769 = .ok (.aload_n 0, 1) := by decide +kernel
theorem dL_law_770 : decode bL_law 770 = .ok (.iload 4, 2) := by decide +kernel
theorem dL_law_772 : decode bL_law 772 = .ok (.iconst 1, 1) := by decide +kernel
theorem dL_law_773 : decode bL_law 773 = .ok (.iadd, 1) := by decide +kernel
theorem dL_law_774 : decode bL_law 774 = .ok (.iaload, 1) := by decide +kernel
theorem dL_law_775 : decode bL_law 775 = .ok (.aload_n 0, 1) := by decide +kernel
theorem dL_law_776 : decode bL_law 776 = .ok (.iload 4, 2) := by decide +kernel
theorem dL_law_778 : decode bL_law 778 = .ok (.iconst 2, 1) := by decide +kernel
theorem dL_law_779 : decode bL_law 779 = .ok (.iadd, 1) := by decide +kernel
theorem dL_law_780 : decode bL_law 780 = .ok (.iaload, 1) := by decide +kernel
theorem dL_law_781 : decode bL_law 781 = .ok (.invokevirtual 103, 3) := by decide +kernel
theorem dL_law_784 : decode bL_law 784 = .ok (.lstore 6, 2) := by decide +kernel
theorem dL_law_786 : decode bL_law 786 = .ok (.aload_n 2, 1) := by decide +kernel
theorem dL_law_787 : decode bL_law 787 = .ok (.invokevirtual 71, 3) := by decide +kernel
theorem dL_law_790 : decode bL_law 790 = .ok (.iload 5, 2) := by decide +kernel
theorem dL_law_792 : decode bL_law 792 = .ok (.if_icmp .eq 5, 3) := by decide +kernel
theorem dL_law_795 : decode bL_law 795 = .ok (.iconst 0, 1) := by decide +kernel
theorem dL_law_796 : decode bL_law 796 = .ok (.ireturn, 1) := by decide +kernel
theorem dL_law_797 : decode bL_law 797 = .ok (.iload 5, 2) := by decide +kernel
theorem dL_law_799 : decode bL_law 799 = .ok (.ifCond .ne 14, 3) := by decide +kernel
theorem dL_law_802 : decode bL_law 802 = .ok (.aload_n 3, 1) := by decide +kernel
theorem dL_law_803 : decode bL_law 803 = .ok (.iconst 0, 1) := by decide +kernel
theorem dL_law_804 : decode bL_law 804 = .ok (.laload, 1) := by decide +kernel
theorem dL_law_805 : decode bL_law 805 = .ok (.lload 6, 2) := by decide +kernel
theorem dL_law_807 : decode bL_law 807 = .ok (.lcmp, 1) := by decide +kernel
theorem dL_law_808 : decode bL_law 808 = .ok (.ifCond .eq 5, 3) := by decide +kernel
theorem dL_law_811 : decode bL_law 811 = .ok (.iconst 0, 1) := by decide +kernel
theorem dL_law_812 : decode bL_law 812 = .ok (.ireturn, 1) := by decide +kernel
theorem dL_law_813 : decode bL_law 813 = .ok (.goto 121, 3) := by decide +kernel
theorem dL_law_816 : decode bL_law 816 = .ok (.aload_n 1, 1) := by decide +kernel
theorem dL_law_817 : decode bL_law 817 = .ok (.aload_n 0, 1) := by decide +kernel
theorem dL_law_818 : decode bL_law 818 = .ok (.iload 4, 2) := by decide +kernel
theorem dL_law_820 : decode bL_law 820 = .ok (.iconst 1, 1) := by decide +kernel
theorem dL_law_821 : decode bL_law 821 = .ok (.iadd, 1) := by decide +kernel
theorem dL_law_822 : decode bL_law 822 = .ok (.iaload, 1) := by decide +kernel
theorem dL_law_823 : decode bL_law 823 = .ok (.aload_n 0, 1) := by decide +kernel
theorem dL_law_824 : decode bL_law 824 = .ok (.iload 4, 2) := by decide +kernel
theorem dL_law_826 : decode bL_law 826 = .ok (.iconst 2, 1) := by decide +kernel
theorem dL_law_827 : decode bL_law 827 = .ok (.iadd, 1) := by decide +kernel
theorem dL_law_828 : decode bL_law 828 = .ok (.iaload, 1) := by decide +kernel
theorem dL_law_829 : decode bL_law 829 = .ok (.aload_n 3, 1) := by decide +kernel
theorem dL_law_830 : decode bL_law 830 = .ok (.invokestatic 104, 3) := by decide +kernel
theorem dL_law_833 : decode bL_law 833 = .ok (.istore 5, 2) := by decide +kernel
theorem dL_law_835 : decode bL_law 835 = .ok (.aload_n 2, 1) := by decide +kernel
theorem dL_law_836 : decode bL_law 836 = .ok (.aload_n 0, 1) := by decide +kernel
theorem dL_law_837 : decode bL_law 837 = .ok (.iload 4, 2) := by decide +kernel
theorem dL_law_839 : decode bL_law 839 = .ok (.iconst 1, 1) := by decide +kernel
theorem dL_law_840 : decode bL_law 840 = .ok (.iadd, 1) := by decide +kernel
theorem dL_law_841 : decode bL_law 841 = .ok (.iaload, 1) := by decide +kernel
theorem dL_law_842 : decode bL_law 842 = .ok (.aload_n 0, 1) := by decide +kernel
theorem dL_law_843 : decode bL_law 843 = .ok (.iload 4, 2) := by decide +kernel
theorem dL_law_845 : decode bL_law 845 = .ok (.iconst 2, 1) := by decide +kernel
theorem dL_law_846 : decode bL_law 846 = .ok (.iadd, 1) := by decide +kernel
theorem dL_law_847 : decode bL_law 847 = .ok (.iaload, 1) := by decide +kernel
theorem dL_law_848 : decode bL_law 848 = .ok (.invokevirtual 106, 3) := by decide +kernel
theorem dL_law_851 : decode bL_law 851 = .ok (.lstore 6, 2) := by decide +kernel
theorem dL_law_853 : decode bL_law 853 = .ok (.aload_n 2, 1) := by decide +kernel
theorem dL_law_854 : decode bL_law 854 = .ok (.invokevirtual 71, 3) := by decide +kernel
theorem dL_law_857 : decode bL_law 857 = .ok (.iload 5, 2) := by decide +kernel
theorem dL_law_859 : decode bL_law 859 = .ok (.if_icmp .eq 5, 3) := by decide +kernel
theorem dL_law_862 : decode bL_law 862 = .ok (.iconst 0, 1) := by decide +kernel
theorem dL_law_863 : decode bL_law 863 = .ok (.ireturn, 1) := by decide +kernel
theorem dL_law_864 : decode bL_law 864 = .ok (.iload 5, 2) := by decide +kernel
theorem dL_law_866 : decode bL_law 866 = .ok (.ifCond .ne 14, 3) := by decide +kernel
theorem dL_law_869 : decode bL_law 869 = .ok (.aload_n 3, 1) := by decide +kernel
theorem dL_law_870 : decode bL_law 870 = .ok (.iconst 0, 1) := by decide +kernel
theorem dL_law_871 : decode bL_law 871 = .ok (.laload, 1) := by decide +kernel
theorem dL_law_872 : decode bL_law 872 = .ok (.lload 6, 2) := by decide +kernel
theorem dL_law_874 : decode bL_law 874 = .ok (.lcmp, 1) := by decide +kernel
theorem dL_law_875 : decode bL_law 875 = .ok (.ifCond .eq 5, 3) := by decide +kernel
theorem dL_law_878 : decode bL_law 878 = .ok (.iconst 0, 1) := by decide +kernel
theorem dL_law_879 : decode bL_law 879 = .ok (.ireturn, 1) := by decide +kernel
theorem dL_law_880 : decode bL_law 880 = .ok (.goto 54, 3) := by decide +kernel
theorem dL_law_883 : decode bL_law 883 = .ok (.aload_n 1, 1) := by decide +kernel
theorem dL_law_884 : decode bL_law 884 = .ok (.invokevirtual 107, 3) := by decide +kernel
theorem dL_law_887 : decode bL_law 887 = .ok (.aload_n 2, 1) := by decide +kernel
theorem dL_law_888 : decode bL_law 888 = .ok (.invokevirtual 110, 3) := by decide +kernel
theorem dL_law_891 : decode bL_law 891 = .ok (.if_icmp .eq 43, 3) := by decide +kernel
theorem dL_law_894 : decode bL_law 894 = .ok (.iconst 0, 1) := by decide +kernel
theorem dL_law_895 : decode bL_law 895 = .ok (.ireturn, 1) := by decide +kernel
theorem dL_law_896 : decode bL_law 896 = .ok (.aload_n 1, 1) := by decide +kernel
theorem dL_law_897 : decode bL_law 897 = .ok (.invokevirtual 111, 3) := by decide +kernel
theorem dL_law_900 : decode bL_law 900 = .ok (.aload_n 2, 1) := by decide +kernel
theorem dL_law_901 : decode bL_law 901 = .ok (.invokevirtual 114, 3) := by decide +kernel
theorem dL_law_904 : decode bL_law 904 = .ok (.if_icmp .eq 30, 3) := by decide +kernel
theorem dL_law_907 : decode bL_law 907 = .ok (.iconst 0, 1) := by decide +kernel
theorem dL_law_908 : decode bL_law 908 = .ok (.ireturn, 1) := by decide +kernel
theorem dL_law_909 : decode bL_law 909 = .ok (.aload_n 1, 1) := by decide +kernel
theorem dL_law_910 : decode bL_law 910 = .ok (.aload_n 0, 1) := by decide +kernel
theorem dL_law_911 : decode bL_law 911 = .ok (.iload 4, 2) := by decide +kernel
theorem dL_law_913 : decode bL_law 913 = .ok (.iconst 1, 1) := by decide +kernel
theorem dL_law_914 : decode bL_law 914 = .ok (.iadd, 1) := by decide +kernel
theorem dL_law_915 : decode bL_law 915 = .ok (.iaload, 1) := by decide +kernel
theorem dL_law_916 : decode bL_law 916 = .ok (.invokevirtual 115, 3) := by decide +kernel
theorem dL_law_919 : decode bL_law 919 = .ok (.aload_n 2, 1) := by decide +kernel
theorem dL_law_920 : decode bL_law 920 = .ok (.aload_n 0, 1) := by decide +kernel
theorem dL_law_921 : decode bL_law 921 = .ok (.iload 4, 2) := by decide +kernel
theorem dL_law_923 : decode bL_law 923 = .ok (.iconst 1, 1) := by decide +kernel
theorem dL_law_924 : decode bL_law 924 = .ok (.iadd, 1) := by decide +kernel
theorem dL_law_925 : decode bL_law 925 = .ok (.iaload, 1) := by decide +kernel
theorem dL_law_926 : decode bL_law 926 = .ok (.invokevirtual 118, 3) := by decide +kernel
theorem dL_law_929 : decode bL_law 929 = .ok (.if_icmp .eq 5, 3) := by decide +kernel
theorem dL_law_932 : decode bL_law 932 = .ok (.iconst 0, 1) := by decide +kernel
theorem dL_law_933 : decode bL_law 933 = .ok (.ireturn, 1) := by decide +kernel
theorem dL_law_934 : decode bL_law 934 = .ok (.iinc 4 5, 3) := by decide +kernel
theorem dL_law_937 : decode bL_law 937 = .ok (.goto (-904), 3) := by decide +kernel
theorem dL_law_940 : decode bL_law 940 = .ok (.iconst 1, 1) := by decide +kernel
theorem dL_law_941 : decode bL_law 941 = .ok (.ireturn, 1) := by decide +kernel
