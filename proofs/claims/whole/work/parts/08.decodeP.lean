theorem dP_init_0 : decode bP_init 0 = .ok (.aload_n 0, 1) := by decide +kernel
theorem dP_init_1 : decode bP_init 1 = .ok (.invokespecial 1, 3) := by decide +kernel
theorem dP_init_4 : decode bP_init 4 = .ok (.aload_n 0, 1) := by decide +kernel
theorem dP_init_5 : decode bP_init 5 = .ok (.bipush 12, 2) := by decide +kernel
theorem dP_init_7 : decode bP_init 7 = .ok (.newarray .int, 2) := by decide +kernel
theorem dP_init_9 : decode bP_init 9 = .ok (.putfield 9, 3) := by decide +kernel
theorem dP_init_12 : decode bP_init 12 = .ok (.aload_n 0, 1) := by decide +kernel
theorem dP_init_13 : decode bP_init 13 = .ok (.bipush 12, 2) := by decide +kernel
theorem dP_init_15 : decode bP_init 15 = .ok (.newarray .int, 2) := by decide +kernel
theorem dP_init_17 : decode bP_init 17 = .ok (.putfield 13, 3) := by decide +kernel
theorem dP_init_20 : decode bP_init 20 = .ok (.aload_n 0, 1) := by decide +kernel
theorem dP_init_21 : decode bP_init 21 = .ok (.bipush 12, 2) := by decide +kernel
theorem dP_init_23 : decode bP_init 23 = .ok (.newarray .long, 2) := by decide +kernel
theorem dP_init_25 : decode bP_init 25 = .ok (.putfield 16, 3) := by decide +kernel
theorem dP_init_28 : decode bP_init 28 = .ok (.aload_n 0, 1) := by decide +kernel
theorem dP_init_29 : decode bP_init 29 = .ok (.sipush 144, 3) := by decide +kernel
theorem dP_init_32 : decode bP_init 32 = .ok (.newarray .int, 2) := by decide +kernel
theorem dP_init_34 : decode bP_init 34 = .ok (.putfield 20, 3) := by decide +kernel
theorem dP_init_37 : decode bP_init 37 = .ok (.aload_n 0, 1) := by decide +kernel
theorem dP_init_38 : decode bP_init 38 = .ok (.bipush 12, 2) := by decide +kernel
theorem dP_init_40 : decode bP_init 40 = .ok (.newarray .int, 2) := by decide +kernel
theorem dP_init_42 : decode bP_init 42 = .ok (.putfield 23, 3) := by decide +kernel
theorem dP_init_45 : decode bP_init 45 = .ok (.aload_n 0, 1) := by decide +kernel
theorem dP_init_46 : decode bP_init 46 = .ok (.new 26, 3) := by decide +kernel
theorem dP_init_49 : decode bP_init 49 = .ok (.dup, 1) := by decide +kernel
theorem dP_init_50 : decode bP_init 50 = .ok (.invokespecial 28, 3) := by decide +kernel
theorem dP_init_53 : decode bP_init 53 = .ok (.putfield 29, 3) := by decide +kernel
theorem dP_init_56 : decode bP_init 56 = .ok (.aload_n 0, 1) := by decide +kernel
theorem dP_init_57 : decode bP_init 57 = .ok (.iconst 0, 1) := by decide +kernel
theorem dP_init_58 : decode bP_init 58 = .ok (.putfield 33, 3) := by decide +kernel
theorem dP_init_61 : decode bP_init 61 = .ok (.aload_n 0, 1) := by decide +kernel
theorem dP_init_62 : decode bP_init 62 = .ok (.iconst 0, 1) := by decide +kernel
theorem dP_init_63 : decode bP_init 63 = .ok (.putfield 37, 3) := by decide +kernel
theorem dP_init_66 : decode bP_init 66 = .ok (.aload_n 0, 1) := by decide +kernel
theorem dP_init_67 : decode bP_init 67 = .ok (.iconst 0, 1) := by decide +kernel
theorem dP_init_68 : decode bP_init 68 = .ok (.putfield 40, 3) := by decide +kernel
theorem dP_init_71 : decode bP_init 71 = .ok (.aload_n 0, 1) := by decide +kernel
theorem dP_init_72 : decode bP_init 72 = .ok (.iconst 0, 1) := by decide +kernel
theorem dP_init_73 : decode bP_init 73 = .ok (.putfield 43, 3) := by decide +kernel
theorem dP_init_76 : decode bP_init 76 = .ok (.aload_n 0, 1) := by decide +kernel
theorem dP_init_77 : decode bP_init 77 = .ok (.iconst (-1), 1) := by decide +kernel
theorem dP_init_78 : decode bP_init 78 = .ok (.putfield 47, 3) := by decide +kernel
theorem dP_init_81 : decode bP_init 81 = .ok (.aload_n 0, 1) := by decide +kernel
theorem dP_init_82 : decode bP_init 82 = .ok (.iconst 1, 1) := by decide +kernel
theorem dP_init_83 : decode bP_init 83 = .ok (.bipush 60, 2) := by decide +kernel
theorem dP_init_85 : decode bP_init 85 = .ok (.iload_n 1, 1) := by decide +kernel
theorem dP_init_86 : decode bP_init 86 = .ok (.invokestatic 50, 3) := by decide +kernel
theorem dP_init_89 : decode bP_init 89 = .ok (.invokestatic 56, 3) := by decide +kernel
theorem dP_init_92 : decode bP_init 92 = .ok (.putfield 59, 3) := by decide +kernel
theorem dP_init_95 : decode bP_init 95 = .ok (.return_, 1) := by decide +kernel
theorem dP_column_0 : decode bP_column 0 = .ok (.aload_n 0, 1) := by decide +kernel
theorem dP_column_1 : decode bP_column 1 = .ok (.getfield 43, 3) := by decide +kernel
theorem dP_column_4 : decode bP_column 4 = .ok (.ifCond .ne 15, 3) := by decide +kernel
theorem dP_column_7 : decode bP_column 7 = .ok (.aload_n 0, 1) := by decide +kernel
theorem dP_column_8 : decode bP_column 8 = .ok (.getfield 29, 3) := by decide +kernel
theorem dP_column_11 : decode bP_column 11 = .ok (.getfield 62, 3) := by decide +kernel
theorem dP_column_14 : decode bP_column 14 = .ok (.bipush 12, 2) := by decide +kernel
theorem dP_column_16 : decode bP_column 16 = .ok (.if_icmp .lt 13, 3) := by decide +kernel
theorem dP_column_19 : decode bP_column 19 = .ok (.new 65, 3) := by decide +kernel
theorem dP_column_22 : decode bP_column 22 = .ok (.dup, 1) := by decide +kernel
theorem dP_column_23 : decode bP_column 23 = .ok (.ldc 67, 2) := by decide +kernel
theorem dP_column_25 : decode bP_column 25 = .ok (.invokespecial 69, 3) := by decide +kernel
theorem dP_column_28 : decode bP_column 28 = .ok (.athrow, 1) := by decide +kernel
theorem dP_column_29 : decode bP_column 29 = .ok (.lload_n 1, 1) := by decide +kernel
theorem dP_column_30 : decode bP_column 30 = .ok (.lconst 0, 1) := by decide +kernel
theorem dP_column_31 : decode bP_column 31 = .ok (.lcmp, 1) := by decide +kernel
theorem dP_column_32 : decode bP_column 32 = .ok (.ifCond .lt 11, 3) := by decide +kernel
theorem dP_column_35 : decode bP_column 35 = .ok (.lload_n 1, 1) := by decide +kernel
theorem dP_column_36 : decode bP_column 36 = .ok (.ldc2_w 72, 3) := by decide +kernel
theorem dP_column_39 : decode bP_column 39 = .ok (.lcmp, 1) := by decide +kernel
theorem dP_column_40 : decode bP_column 40 = .ok (.ifCond .le 13, 3) := by decide +kernel
theorem dP_column_43 : decode bP_column 43 = .ok (.new 74, 3) := by decide +kernel
theorem dP_column_46 : decode bP_column 46 = .ok (.dup, 1) := by decide +kernel
theorem dP_column_47 : decode bP_column 47 = .ok (.ldc 76, 2) := by decide +kernel
theorem dP_column_49 : decode bP_column 49 = .ok (.invokespecial 78, 3) := by decide +kernel
theorem dP_column_52 : decode bP_column 52 = .ok (.athrow, 1) := by decide +kernel
theorem dP_column_53 : decode bP_column 53 = .ok (.aload_n 0, 1) := by decide +kernel
theorem dP_column_54 : decode bP_column 54 = .ok (.getfield 29, 3) := by decide +kernel
theorem dP_column_57 : decode bP_column 57 = .ok (.lload_n 1, 1) := by decide +kernel
theorem dP_column_58 : decode bP_column 58 = .ok (.invokevirtual 79, 3) := by decide +kernel
theorem dP_column_61 : decode bP_column 61 = .ok (.ireturn, 1) := by decide +kernel
theorem dP_row_0 : decode bP_row 0 = .ok (.aload_n 0, 1) := by decide +kernel
theorem dP_row_1 : decode bP_row 1 = .ok (.invokevirtual 83, 3) := by decide +kernel
theorem dP_row_4 : decode bP_row 4 = .ok (.iload_n 1, 1) := by decide +kernel
theorem dP_row_5 : decode bP_row 5 = .ok (.ifCond .lt 8, 3) := by decide +kernel
theorem dP_row_8 : decode bP_row 8 = .ok (.iload_n 1, 1) := by decide +kernel
theorem dP_row_9 : decode bP_row 9 = .ok (.iconst 2, 1) := by decide +kernel
theorem dP_row_10 : decode bP_row 10 = .ok (.if_icmp .le 13, 3) := by decide +kernel
theorem dP_row_13 : decode bP_row 13 = .ok (.new 74, 3) := by decide +kernel
theorem dP_row_16 : decode bP_row 16 = .ok (.dup, 1) := by decide +kernel
theorem dP_row_17 : decode bP_row 17 = .ok (.ldc 86, 2) := by decide +kernel
theorem dP_row_19 : decode bP_row 19 = .ok (.invokespecial 78, 3) := by decide +kernel
theorem dP_row_22 : decode bP_row 22 = .ok (.athrow, 1) := by decide +kernel
theorem dP_row_23 : decode bP_row 23 = .ok (.iload_n 2, 1) := by decide +kernel
theorem dP_row_24 : decode bP_row 24 = .ok (.ifCond .lt 11, 3) := by decide +kernel
theorem dP_row_27 : decode bP_row 27 = .ok (.iload_n 2, 1) := by decide +kernel
theorem dP_row_28 : decode bP_row 28 = .ok (.aload_n 0, 1) := by decide +kernel
theorem dP_row_29 : decode bP_row 29 = .ok (.getfield 59, 3) := by decide +kernel
theorem dP_row_32 : decode bP_row 32 = .ok (.if_icmp .lt 13, 3) := by decide +kernel
theorem dP_row_35 : decode bP_row 35 = .ok (.new 74, 3) := by decide +kernel
theorem dP_row_38 : decode bP_row 38 = .ok (.dup, 1) := by decide +kernel
theorem dP_row_39 : decode bP_row 39 = .ok (.ldc 88, 2) := by decide +kernel
theorem dP_row_41 : decode bP_row 41 = .ok (.invokespecial 78, 3) := by decide +kernel
theorem dP_row_44 : decode bP_row 44 = .ok (.athrow, 1) := by decide +kernel
theorem dP_row_45 : decode bP_row 45 = .ok (.lload_n 3, 1) := by decide +kernel
theorem dP_row_46 : decode bP_row 46 = .ok (.invokestatic 90, 3) := by decide +kernel
theorem dP_row_49 : decode bP_row 49 = .ok (.aload_n 0, 1) := by decide +kernel
theorem dP_row_50 : decode bP_row 50 = .ok (.iload_n 1, 1) := by decide +kernel
theorem dP_row_51 : decode bP_row 51 = .ok (.iload_n 2, 1) := by decide +kernel
theorem dP_row_52 : decode bP_row 52 = .ok (.lload_n 3, 1) := by decide +kernel
theorem dP_row_53 : decode bP_row 53 = .ok (.invokevirtual 94, 3) := by decide +kernel
theorem dP_row_56 : decode bP_row 56 = .ok (.ireturn, 1) := by decide +kernel
theorem dP_factor_0 : decode bP_factor 0 = .ok (.aload_n 0, 1) := by decide +kernel
theorem dP_factor_1 : decode bP_factor 1 = .ok (.iload_n 1, 1) := by decide +kernel
theorem dP_factor_2 : decode bP_factor 2 = .ok (.invokevirtual 98, 3) := by decide +kernel
theorem dP_factor_5 : decode bP_factor 5 = .ok (.aload_n 0, 1) := by decide +kernel
theorem dP_factor_6 : decode bP_factor 6 = .ok (.iload_n 2, 1) := by decide +kernel
theorem dP_factor_7 : decode bP_factor 7 = .ok (.invokevirtual 102, 3) := by decide +kernel
theorem dP_factor_10 : decode bP_factor 10 = .ok (.iload_n 1, 1) := by decide +kernel
theorem dP_factor_11 : decode bP_factor 11 = .ok (.aload_n 0, 1) := by decide +kernel
theorem dP_factor_12 : decode bP_factor 12 = .ok (.getfield 37, 3) := by decide +kernel
theorem dP_factor_15 : decode bP_factor 15 = .ok (.if_icmp .ge 13, 3) := by decide +kernel
theorem dP_factor_18 : decode bP_factor 18 = .ok (.new 65, 3) := by decide +kernel
theorem dP_factor_21 : decode bP_factor 21 = .ok (.dup, 1) := by decide +kernel
theorem dP_factor_22 : decode bP_factor 22 = .ok (.ldc 105, 2) := by decide +kernel
theorem dP_factor_24 : decode bP_factor 24 = .ok (.invokespecial 69, 3) := by decide +kernel
theorem dP_factor_27 : decode bP_factor 27 = .ok (.athrow, 1) := by decide +kernel
theorem dP_factor_28 : decode bP_factor 28 = .ok (.iload_n 3, 1) := by decide +kernel
theorem dP_factor_29 : decode bP_factor 29 = .ok (.sipush (-1000), 3) := by decide +kernel
theorem dP_factor_32 : decode bP_factor 32 = .ok (.if_icmp .lt 10, 3) := by decide +kernel
theorem dP_factor_35 : decode bP_factor 35 = .ok (.iload_n 3, 1) := by decide +kernel
theorem dP_factor_36 : decode bP_factor 36 = .ok (.sipush 1000, 3) := by decide +kernel
theorem dP_factor_39 : decode bP_factor 39 = .ok (.if_icmp .le 13, 3) := by decide +kernel
theorem dP_factor_42 : decode bP_factor 42 = .ok (.new 74, 3) := by decide +kernel
theorem dP_factor_45 : decode bP_factor 45 = .ok (.dup, 1) := by decide +kernel
theorem dP_factor_46 : decode bP_factor 46 = .ok (.ldc 107, 2) := by decide +kernel
theorem dP_factor_48 : decode bP_factor 48 = .ok (.invokespecial 78, 3) := by decide +kernel
theorem dP_factor_51 : decode bP_factor 51 = .ok (.athrow, 1) := by decide +kernel
theorem dP_factor_52 : decode bP_factor 52 = .ok (.aload_n 0, 1) := by decide +kernel
theorem dP_factor_53 : decode bP_factor 53 = .ok (.getfield 20, 3) := by decide +kernel
theorem dP_factor_56 : decode bP_factor 56 = .ok (.iload_n 1, 1) := by decide +kernel
theorem dP_factor_57 : decode bP_factor 57 = .ok (.iload_n 2, 1) := by decide +kernel
theorem dP_factor_58 : decode bP_factor 58 = .ok (.invokestatic 109, 3) := by decide +kernel
theorem dP_factor_61 : decode bP_factor 61 = .ok (.iaload, 1) := by decide +kernel
theorem dP_factor_62 : decode bP_factor 62 = .ok (.istore 4, 2) := by decide +kernel
theorem dP_factor_64 : decode bP_factor 64 = .ok (.aload_n 0, 1) := by decide +kernel
theorem dP_factor_65 : decode bP_factor 65 = .ok (.getfield 20, 3) := by decide +kernel
theorem dP_factor_68 : decode bP_factor 68 = .ok (.iload_n 1, 1) := by decide +kernel
theorem dP_factor_69 : decode bP_factor 69 = .ok (.iload_n 2, 1) := by decide +kernel
theorem dP_factor_70 : decode bP_factor 70 = .ok (.invokestatic 109, 3) := by decide +kernel
theorem dP_factor_73 : decode bP_factor 73 = .ok (.iload_n 3, 1) := by decide +kernel
theorem dP_factor_74 : decode bP_factor 74 = .ok (.iastore, 1) := by decide +kernel
theorem dP_factor_75 : decode bP_factor 75 = .ok (.iload 4, 2) := by decide +kernel
theorem dP_factor_77 : decode bP_factor 77 = .ok (.ireturn, 1) := by decide +kernel
theorem dP_cut_0 : decode bP_cut 0 = .ok (.aload_n 0, 1) := by decide +kernel
theorem dP_cut_1 : decode bP_cut 1 = .ok (.iload_n 1, 1) := by decide +kernel
theorem dP_cut_2 : decode bP_cut 2 = .ok (.invokevirtual 102, 3) := by decide +kernel
theorem dP_cut_5 : decode bP_cut 5 = .ok (.aload_n 0, 1) := by decide +kernel
theorem dP_cut_6 : decode bP_cut 6 = .ok (.iload_n 2, 1) := by decide +kernel
theorem dP_cut_7 : decode bP_cut 7 = .ok (.invokevirtual 102, 3) := by decide +kernel
theorem dP_cut_10 : decode bP_cut 10 = .ok (.aload_n 0, 1) := by decide +kernel
theorem dP_cut_11 : decode bP_cut 11 = .ok (.invokevirtual 83, 3) := by decide +kernel
theorem dP_cut_14 : decode bP_cut 14 = .ok (.iload_n 1, 1) := by decide +kernel
theorem dP_cut_15 : decode bP_cut 15 = .ok (.iload_n 2, 1) := by decide +kernel
theorem dP_cut_16 : decode bP_cut 16 = .ok (.if_icmp .ne 13, 3) := by decide +kernel
theorem dP_cut_19 : decode bP_cut 19 = .ok (.new 74, 3) := by decide +kernel
theorem dP_cut_22 : decode bP_cut 22 = .ok (.dup, 1) := by decide +kernel
theorem dP_cut_23 : decode bP_cut 23 = .ok (.ldc 112, 2) := by decide +kernel
theorem dP_cut_25 : decode bP_cut 25 = .ok (.invokespecial 78, 3) := by decide +kernel
theorem dP_cut_28 : decode bP_cut 28 = .ok (.athrow, 1) := by decide +kernel
theorem dP_cut_29 : decode bP_cut 29 = .ok (.aload_n 0, 1) := by decide +kernel
theorem dP_cut_30 : decode bP_cut 30 = .ok (.iconst 1, 1) := by decide +kernel
theorem dP_cut_31 : decode bP_cut 31 = .ok (.iconst 0, 1) := by decide +kernel
theorem dP_cut_32 : decode bP_cut 32 = .ok (.lconst 1, 1) := by decide +kernel
theorem dP_cut_33 : decode bP_cut 33 = .ok (.invokevirtual 94, 3) := by decide +kernel
theorem dP_cut_36 : decode bP_cut 36 = .ok (.istore_n 3, 1) := by decide +kernel
theorem dP_cut_37 : decode bP_cut 37 = .ok (.aload_n 0, 1) := by decide +kernel
theorem dP_cut_38 : decode bP_cut 38 = .ok (.getfield 20, 3) := by decide +kernel
theorem dP_cut_41 : decode bP_cut 41 = .ok (.iload_n 3, 1) := by decide +kernel
theorem dP_cut_42 : decode bP_cut 42 = .ok (.iload_n 1, 1) := by decide +kernel
theorem dP_cut_43 : decode bP_cut 43 = .ok (.invokestatic 109, 3) := by decide +kernel
theorem dP_cut_46 : decode bP_cut 46 = .ok (.iconst 1, 1) := by decide +kernel
theorem dP_cut_47 : decode bP_cut 47 = .ok (.iastore, 1) := by decide +kernel
theorem dP_cut_48 : decode bP_cut 48 = .ok (.aload_n 0, 1) := by decide +kernel
theorem dP_cut_49 : decode bP_cut 49 = .ok (.getfield 20, 3) := by decide +kernel
theorem dP_cut_52 : decode bP_cut 52 = .ok (.iload_n 3, 1) := by decide +kernel
theorem dP_cut_53 : decode bP_cut 53 = .ok (.iload_n 2, 1) := by decide +kernel
theorem dP_cut_54 : decode bP_cut 54 = .ok (.invokestatic 109, 3) := by decide +kernel
theorem dP_cut_57 : decode bP_cut 57 = .ok (.iconst 1, 1) := by decide +kernel
theorem dP_cut_58 : decode bP_cut 58 = .ok (.iastore, 1) := by decide +kernel
theorem dP_cut_59 : decode bP_cut 59 = .ok (.iload_n 3, 1) := by decide +kernel
theorem dP_cut_60 : decode bP_cut 60 = .ok (.ireturn, 1) := by decide +kernel
theorem dP_right_0 : decode bP_right 0 = .ok (.aload_n 0, 1) := by decide +kernel
theorem dP_right_1 : decode bP_right 1 = .ok (.iload_n 1, 1) := by decide +kernel
theorem dP_right_2 : decode bP_right 2 = .ok (.invokevirtual 98, 3) := by decide +kernel
theorem dP_right_5 : decode bP_right 5 = .ok (.lload_n 2, 1) := by decide +kernel
theorem dP_right_6 : decode bP_right 6 = .ok (.invokestatic 90, 3) := by decide +kernel
theorem dP_right_9 : decode bP_right 9 = .ok (.iload_n 1, 1) := by decide +kernel
theorem dP_right_10 : decode bP_right 10 = .ok (.aload_n 0, 1) := by decide +kernel
theorem dP_right_11 : decode bP_right 11 = .ok (.getfield 37, 3) := by decide +kernel
theorem dP_right_14 : decode bP_right 14 = .ok (.if_icmp .ge 21, 3) := by decide +kernel
theorem dP_right_17 : decode bP_right 17 = .ok (.aload_n 0, 1) := by decide +kernel
theorem dP_right_18 : decode bP_right 18 = .ok (.iload_n 1, 1) := by decide +kernel
theorem dP_right_19 : decode bP_right 19 = .ok (.lload_n 2, 1) := by decide +kernel
theorem dP_right_20 : decode bP_right 20 = .ok (.aload_n 0, 1) := by decide +kernel
theorem dP_right_21 : decode bP_right 21 = .ok (.getfield 16, 3) := by decide +kernel
theorem dP_right_24 : decode bP_right 24 = .ok (.iload_n 1, 1) := by decide +kernel
theorem dP_right_25 : decode bP_right 25 = .ok (.laload, 1) := by decide +kernel
theorem dP_right_26 : decode bP_right 26 = .ok (.lsub, 1) := by decide +kernel
theorem dP_right_27 : decode bP_right 27 = .ok (.invokevirtual 114, 3) := by decide +kernel
theorem dP_right_30 : decode bP_right 30 = .ok (.ifCond .ne 5, 3) := by decide +kernel
theorem dP_right_33 : decode bP_right 33 = .ok (.iconst 0, 1) := by decide +kernel
theorem dP_right_34 : decode bP_right 34 = .ok (.ireturn, 1) := by decide +kernel
theorem dP_right_35 : decode bP_right 35 = .ok (.aload_n 0, 1) := by decide +kernel
theorem dP_right_36 : decode bP_right 36 = .ok (.getfield 16, 3) := by decide +kernel
theorem dP_right_39 : decode bP_right 39 = .ok (.iload_n 1, 1) := by decide +kernel
theorem dP_right_40 : decode bP_right 40 = .ok (.lload_n 2, 1) := by decide +kernel
theorem dP_right_41 : decode bP_right 41 = .ok (.lastore, 1) := by decide +kernel
theorem dP_right_42 : decode bP_right 42 = .ok (.aload_n 0, 1) := by decide +kernel
theorem dP_right_43 : decode bP_right 43 = .ok (.iconst (-1), 1) := by decide +kernel
theorem dP_right_44 : decode bP_right 44 = .ok (.putfield 47, 3) := by decide +kernel
theorem dP_right_47 : decode bP_right 47 = .ok (.iconst 1, 1) := by decide +kernel
theorem dP_right_48 : decode bP_right 48 = .ok (.ireturn, 1) := by decide +kernel
theorem dP_run_0 : decode bP_run 0 = .ok (.iload_n 1, 1) := by decide +kernel
theorem dP_run_1 : decode bP_run 1 = .ok (.ifCond .lt 10, 3) := by decide +kernel
theorem dP_run_4 : decode bP_run 4 = .ok (.iload_n 1, 1) := by decide +kernel
theorem dP_run_5 : decode bP_run 5 = .ok (.sipush 1000, 3) := by decide +kernel
theorem dP_run_8 : decode bP_run 8 = .ok (.if_icmp .le 13, 3) := by decide +kernel
theorem dP_run_11 : decode bP_run 11 = .ok (.new 74, 3) := by decide +kernel
theorem dP_run_14 : decode bP_run 14 = .ok (.dup, 1) := by decide +kernel
theorem dP_run_15 : decode bP_run 15 = .ok (.ldc 118, 2) := by decide +kernel
theorem dP_run_17 : decode bP_run 17 = .ok (.invokespecial 78, 3) := by decide +kernel
theorem dP_run_20 : decode bP_run 20 = .ok (.athrow, 1) := by decide +kernel
theorem dP_run_21 : decode bP_run 21 = .ok (.aload_n 0, 1) := by decide +kernel
theorem dP_run_22 : decode bP_run 22 = .ok (.iconst 1, 1) := by decide +kernel
theorem dP_run_23 : decode bP_run 23 = .ok (.putfield 43, 3) := by decide +kernel
theorem dP_run_26 : decode bP_run 26 = .ok (.aload_n 0, 1) := by decide +kernel
theorem dP_run_27 : decode bP_run 27 = .ok (.aload_n 0, 1) := by decide +kernel
theorem dP_run_28 : decode bP_run 28 = .ok (.invokevirtual 120, 3) := by decide +kernel
theorem dP_run_31 : decode bP_run 31 = .ok (.ifCond .eq 11, 3) := by decide +kernel
theorem dP_run_34 : decode bP_run 34 = .ok (.aload_n 0, 1) := by decide +kernel
theorem dP_run_35 : decode bP_run 35 = .ok (.iload_n 1, 1) := by decide +kernel
theorem dP_run_36 : decode bP_run 36 = .ok (.invokevirtual 124, 3) := by decide +kernel
theorem dP_run_39 : decode bP_run 39 = .ok (.goto 4, 3) := by decide +kernel
theorem dP_run_42 : decode bP_run 42 = .ok (.iconst 3, 1) := by decide +kernel
theorem dP_run_43 : decode bP_run 43 = .ok (.putfield 47, 3) := by decide +kernel
theorem dP_run_46 : decode bP_run 46 = .ok (.aload_n 0, 1) := by decide +kernel
theorem dP_run_47 : decode bP_run 47 = .ok (.getfield 47, 3) := by decide +kernel
theorem dP_run_50 : decode bP_run 50 = .ok (.ireturn, 1) := by decide +kernel
theorem dP_value_0 : decode bP_value 0 = .ok (.iload_n 1, 1) := by decide +kernel
theorem dP_value_1 : decode bP_value 1 = .ok (.invokestatic 128, 3) := by decide +kernel
theorem dP_value_4 : decode bP_value 4 = .ok (.aload_n 0, 1) := by decide +kernel
theorem dP_value_5 : decode bP_value 5 = .ok (.getfield 29, 3) := by decide +kernel
theorem dP_value_8 : decode bP_value 8 = .ok (.iconst 0, 1) := by decide +kernel
theorem dP_value_9 : decode bP_value 9 = .ok (.iconst 0, 1) := by decide +kernel
theorem dP_value_10 : decode bP_value 10 = .ok (.invokevirtual 131, 3) := by decide +kernel
theorem dP_value_13 : decode bP_value 13 = .ok (.aload_n 0, 1) := by decide +kernel
theorem dP_value_14 : decode bP_value 14 = .ok (.getfield 29, 3) := by decide +kernel
theorem dP_value_17 : decode bP_value 17 = .ok (.getfield 135, 3) := by decide +kernel
theorem dP_value_20 : decode bP_value 20 = .ok (.iload_n 1, 1) := by decide +kernel
theorem dP_value_21 : decode bP_value 21 = .ok (.invokestatic 139, 3) := by decide +kernel
theorem dP_value_24 : decode bP_value 24 = .ok (.lreturn, 1) := by decide +kernel
theorem dP_share_0 : decode bP_share 0 = .ok (.aload_n 0, 1) := by decide +kernel
theorem dP_share_1 : decode bP_share 1 = .ok (.iload_n 1, 1) := by decide +kernel
theorem dP_share_2 : decode bP_share 2 = .ok (.invokevirtual 102, 3) := by decide +kernel
theorem dP_share_5 : decode bP_share 5 = .ok (.iload_n 2, 1) := by decide +kernel
theorem dP_share_6 : decode bP_share 6 = .ok (.invokestatic 128, 3) := by decide +kernel
theorem dP_share_9 : decode bP_share 9 = .ok (.aload_n 0, 1) := by decide +kernel
theorem dP_share_10 : decode bP_share 10 = .ok (.getfield 29, 3) := by decide +kernel
theorem dP_share_13 : decode bP_share 13 = .ok (.iload_n 1, 1) := by decide +kernel
theorem dP_share_14 : decode bP_share 14 = .ok (.invokevirtual 143, 3) := by decide +kernel
theorem dP_share_17 : decode bP_share 17 = .ok (.aload_n 0, 1) := by decide +kernel
theorem dP_share_18 : decode bP_share 18 = .ok (.getfield 29, 3) := by decide +kernel
theorem dP_share_21 : decode bP_share 21 = .ok (.getfield 135, 3) := by decide +kernel
theorem dP_share_24 : decode bP_share 24 = .ok (.iload_n 2, 1) := by decide +kernel
theorem dP_share_25 : decode bP_share 25 = .ok (.invokestatic 139, 3) := by decide +kernel
theorem dP_share_28 : decode bP_share 28 = .ok (.lreturn, 1) := by decide +kernel
theorem dP_dual_0 : decode bP_dual 0 = .ok (.aload_n 0, 1) := by decide +kernel
theorem dP_dual_1 : decode bP_dual 1 = .ok (.iload_n 1, 1) := by decide +kernel
theorem dP_dual_2 : decode bP_dual 2 = .ok (.invokevirtual 98, 3) := by decide +kernel
theorem dP_dual_5 : decode bP_dual 5 = .ok (.iload_n 2, 1) := by decide +kernel
theorem dP_dual_6 : decode bP_dual 6 = .ok (.invokestatic 128, 3) := by decide +kernel
theorem dP_dual_9 : decode bP_dual 9 = .ok (.lconst 0, 1) := by decide +kernel
theorem dP_dual_10 : decode bP_dual 10 = .ok (.lstore_n 3, 1) := by decide +kernel
theorem dP_dual_11 : decode bP_dual 11 = .ok (.iconst 0, 1) := by decide +kernel
theorem dP_dual_12 : decode bP_dual 12 = .ok (.istore 5, 2) := by decide +kernel
theorem dP_dual_14 : decode bP_dual 14 = .ok (.iload 5, 2) := by decide +kernel
theorem dP_dual_16 : decode bP_dual 16 = .ok (.aload_n 0, 1) := by decide +kernel
theorem dP_dual_17 : decode bP_dual 17 = .ok (.iload_n 1, 1) := by decide +kernel
theorem dP_dual_18 : decode bP_dual 18 = .ok (.invokevirtual 147, 3) := by decide +kernel
theorem dP_dual_21 : decode bP_dual 21 = .ok (.if_icmp .ge 36, 3) := by decide +kernel
theorem dP_dual_24 : decode bP_dual 24 = .ok (.lload_n 3, 1) := by decide +kernel
theorem dP_dual_25 : decode bP_dual 25 = .ok (.aload_n 0, 1) := by decide +kernel
theorem dP_dual_26 : decode bP_dual 26 = .ok (.iload_n 1, 1) := by decide +kernel
theorem dP_dual_27 : decode bP_dual 27 = .ok (.iload 5, 2) := by decide +kernel
theorem dP_dual_29 : decode bP_dual 29 = .ok (.invokevirtual 150, 3) := by decide +kernel
theorem dP_dual_32 : decode bP_dual 32 = .ok (.i2l, 1) := by decide +kernel
theorem dP_dual_33 : decode bP_dual 33 = .ok (.aload_n 0, 1) := by decide +kernel
theorem dP_dual_34 : decode bP_dual 34 = .ok (.getfield 29, 3) := by decide +kernel
theorem dP_dual_37 : decode bP_dual 37 = .ok (.iconst 0, 1) := by decide +kernel
theorem dP_dual_38 : decode bP_dual 38 = .ok (.aload_n 0, 1) := by decide +kernel
theorem dP_dual_39 : decode bP_dual 39 = .ok (.iload_n 1, 1) := by decide +kernel
theorem dP_dual_40 : decode bP_dual 40 = .ok (.iload 5, 2) := by decide +kernel
theorem dP_dual_42 : decode bP_dual 42 = .ok (.invokevirtual 153, 3) := by decide +kernel
theorem dP_dual_45 : decode bP_dual 45 = .ok (.invokevirtual 156, 3) := by decide +kernel
theorem dP_dual_48 : decode bP_dual 48 = .ok (.lmul, 1) := by decide +kernel
theorem dP_dual_49 : decode bP_dual 49 = .ok (.ladd, 1) := by decide +kernel
theorem dP_dual_50 : decode bP_dual 50 = .ok (.lstore_n 3, 1) := by decide +kernel
theorem dP_dual_51 : decode bP_dual 51 = .ok (.iinc 5 1, 3) := by decide +kernel
theorem dP_dual_54 : decode bP_dual 54 = .ok (.goto (-40), 3) := by decide +kernel
theorem dP_dual_57 : decode bP_dual 57 = .ok (.lload_n 3, 1) := by decide +kernel
theorem dP_dual_58 : decode bP_dual 58 = .ok (.aload_n 0, 1) := by decide +kernel
theorem dP_dual_59 : decode bP_dual 59 = .ok (.getfield 29, 3) := by decide +kernel
theorem dP_dual_62 : decode bP_dual 62 = .ok (.getfield 135, 3) := by decide +kernel
theorem dP_dual_65 : decode bP_dual 65 = .ok (.iload_n 2, 1) := by decide +kernel
theorem dP_dual_66 : decode bP_dual 66 = .ok (.invokestatic 139, 3) := by decide +kernel
theorem dP_dual_69 : decode bP_dual 69 = .ok (.lreturn, 1) := by decide +kernel
theorem dP_factorOf_0 : decode bP_factorOf 0 = .ok (.aload_n 0, 1) := by decide +kernel
theorem dP_factorOf_1 : decode bP_factorOf 1 = .ok (.iload_n 1, 1) := by decide +kernel
theorem dP_factorOf_2 : decode bP_factorOf 2 = .ok (.invokevirtual 98, 3) := by decide +kernel
theorem dP_factorOf_5 : decode bP_factorOf 5 = .ok (.aload_n 0, 1) := by decide +kernel
theorem dP_factorOf_6 : decode bP_factorOf 6 = .ok (.getfield 47, 3) := by decide +kernel
theorem dP_factorOf_9 : decode bP_factorOf 9 = .ok (.iconst 1, 1) := by decide +kernel
theorem dP_factorOf_10 : decode bP_factorOf 10 = .ok (.if_icmp .eq 13, 3) := by decide +kernel
theorem dP_factorOf_13 : decode bP_factorOf 13 = .ok (.new 65, 3) := by decide +kernel
theorem dP_factorOf_16 : decode bP_factorOf 16 = .ok (.dup, 1) := by decide +kernel
theorem dP_factorOf_17 : decode bP_factorOf 17 = .ok (.ldc 159, 2) := by decide +kernel
theorem dP_factorOf_19 : decode bP_factorOf 19 = .ok (.invokespecial 69, 3) := by decide +kernel
theorem dP_factorOf_22 : decode bP_factorOf 22 = .ok (.athrow, 1) := by decide +kernel
theorem dP_factorOf_23 : decode bP_factorOf 23 = .ok (.iload_n 2, 1) := by decide +kernel
theorem dP_factorOf_24 : decode bP_factorOf 24 = .ok (.invokestatic 128, 3) := by decide +kernel
theorem dP_factorOf_27 : decode bP_factorOf 27 = .ok (.aload_n 0, 1) := by decide +kernel
theorem dP_factorOf_28 : decode bP_factorOf 28 = .ok (.getfield 29, 3) := by decide +kernel
theorem dP_factorOf_31 : decode bP_factorOf 31 = .ok (.invokevirtual 161, 3) := by decide +kernel
theorem dP_factorOf_34 : decode bP_factorOf 34 = .ok (.istore_n 3, 1) := by decide +kernel
theorem dP_factorOf_35 : decode bP_factorOf 35 = .ok (.lconst 0, 1) := by decide +kernel
theorem dP_factorOf_36 : decode bP_factorOf 36 = .ok (.lstore 4, 2) := by decide +kernel
theorem dP_factorOf_38 : decode bP_factorOf 38 = .ok (.iconst 0, 1) := by decide +kernel
theorem dP_factorOf_39 : decode bP_factorOf 39 = .ok (.istore 6, 2) := by decide +kernel
theorem dP_factorOf_41 : decode bP_factorOf 41 = .ok (.iload 6, 2) := by decide +kernel
theorem dP_factorOf_43 : decode bP_factorOf 43 = .ok (.aload_n 0, 1) := by decide +kernel
theorem dP_factorOf_44 : decode bP_factorOf 44 = .ok (.iload_n 1, 1) := by decide +kernel
theorem dP_factorOf_45 : decode bP_factorOf 45 = .ok (.invokevirtual 147, 3) := by decide +kernel
theorem dP_factorOf_48 : decode bP_factorOf 48 = .ok (.if_icmp .ge 35, 3) := by decide +kernel
theorem dP_factorOf_51 : decode bP_factorOf 51 = .ok (.lload 4, 2) := by decide +kernel
theorem dP_factorOf_53 : decode bP_factorOf 53 = .ok (.aload_n 0, 1) := by decide +kernel
theorem dP_factorOf_54 : decode bP_factorOf 54 = .ok (.iload_n 1, 1) := by decide +kernel
theorem dP_factorOf_55 : decode bP_factorOf 55 = .ok (.iload 6, 2) := by decide +kernel
theorem dP_factorOf_57 : decode bP_factorOf 57 = .ok (.invokevirtual 150, 3) := by decide +kernel
theorem dP_factorOf_60 : decode bP_factorOf 60 = .ok (.i2l, 1) := by decide +kernel
theorem dP_factorOf_61 : decode bP_factorOf 61 = .ok (.aload_n 0, 1) := by decide +kernel
theorem dP_factorOf_62 : decode bP_factorOf 62 = .ok (.iload_n 3, 1) := by decide +kernel
theorem dP_factorOf_63 : decode bP_factorOf 63 = .ok (.aload_n 0, 1) := by decide +kernel
theorem dP_factorOf_64 : decode bP_factorOf 64 = .ok (.iload_n 1, 1) := by decide +kernel
theorem dP_factorOf_65 : decode bP_factorOf 65 = .ok (.iload 6, 2) := by decide +kernel
theorem dP_factorOf_67 : decode bP_factorOf 67 = .ok (.invokevirtual 153, 3) := by decide +kernel
theorem dP_factorOf_70 : decode bP_factorOf 70 = .ok (.invokevirtual 165, 3) := by decide +kernel
theorem dP_factorOf_73 : decode bP_factorOf 73 = .ok (.lmul, 1) := by decide +kernel
theorem dP_factorOf_74 : decode bP_factorOf 74 = .ok (.ladd, 1) := by decide +kernel
theorem dP_factorOf_75 : decode bP_factorOf 75 = .ok (.lstore 4, 2) := by decide +kernel
theorem dP_factorOf_77 : decode bP_factorOf 77 = .ok (.iinc 6 1, 3) := by decide +kernel
theorem dP_factorOf_80 : decode bP_factorOf 80 = .ok (.goto (-39), 3) := by decide +kernel
theorem dP_factorOf_83 : decode bP_factorOf 83 = .ok (.lload 4, 2) := by decide +kernel
theorem dP_factorOf_85 : decode bP_factorOf 85 = .ok (.aload_n 0, 1) := by decide +kernel
theorem dP_factorOf_86 : decode bP_factorOf 86 = .ok (.getfield 29, 3) := by decide +kernel
theorem dP_factorOf_89 : decode bP_factorOf 89 = .ok (.getfield 135, 3) := by decide +kernel
theorem dP_factorOf_92 : decode bP_factorOf 92 = .ok (.iload_n 2, 1) := by decide +kernel
theorem dP_factorOf_93 : decode bP_factorOf 93 = .ok (.invokestatic 139, 3) := by decide +kernel
theorem dP_factorOf_96 : decode bP_factorOf 96 = .ok (.lreturn, 1) := by decide +kernel
theorem dP_check_0 : decode bP_check 0 = .ok (.iconst 0, 1) := by decide +kernel
theorem dP_check_1 : decode bP_check 1 = .ok (.istore_n 1, 1) := by decide +kernel
theorem dP_check_2 : decode bP_check 2 = .ok (.iload_n 1, 1) := by decide +kernel
theorem dP_check_3 : decode bP_check 3 = .ok (.aload_n 0, 1) := by decide +kernel
theorem dP_check_4 : decode bP_check 4 = .ok (.getfield 33, 3) := by decide +kernel
theorem dP_check_7 : decode bP_check 7 = .ok (.if_icmp .ge 21, 3) := by decide +kernel
theorem dP_check_10 : decode bP_check 10 = .ok (.aload_n 0, 1) := by decide +kernel
theorem dP_check_11 : decode bP_check 11 = .ok (.iload_n 1, 1) := by decide +kernel
theorem dP_check_12 : decode bP_check 12 = .ok (.invokevirtual 168, 3) := by decide +kernel
theorem dP_check_15 : decode bP_check 15 = .ok (.ifCond .ne 7, 3) := by decide +kernel
theorem dP_check_18 : decode bP_check 18 = .ok (.iload_n 1, 1) := by decide +kernel
theorem dP_check_19 : decode bP_check 19 = .ok (.iconst 1, 1) := by decide +kernel
theorem dP_check_20 : decode bP_check 20 = .ok (.iadd, 1) := by decide +kernel
theorem dP_check_21 : decode bP_check 21 = .ok (.ireturn, 1) := by decide +kernel
theorem dP_check_22 : decode bP_check 22 = .ok (.iinc 1 1, 3) := by decide +kernel
theorem dP_check_25 : decode bP_check 25 = .ok (.goto (-23), 3) := by decide +kernel
theorem dP_check_28 : decode bP_check 28 = .ok (.iconst 0, 1) := by decide +kernel
theorem dP_check_29 : decode bP_check 29 = .ok (.ireturn, 1) := by decide +kernel
theorem dP_steps_0 : decode bP_steps 0 = .ok (.aload_n 0, 1) := by decide +kernel
theorem dP_steps_1 : decode bP_steps 1 = .ok (.getfield 40, 3) := by decide +kernel
theorem dP_steps_4 : decode bP_steps 4 = .ok (.ireturn, 1) := by decide +kernel
theorem dP_count_0 : decode bP_count 0 = .ok (.iload_n 1, 1) := by decide +kernel
theorem dP_count_1 : decode bP_count 1 = .ok (.tableswitch 70 0 4 #[35, 43, 48, 56, 65], 35) := by decide +kernel
theorem dP_count_36 : decode bP_count 36 = .ok (.aload_n 0, 1) := by decide +kernel
theorem dP_count_37 : decode bP_count 37 = .ok (.getfield 29, 3) := by decide +kernel
theorem dP_count_40 : decode bP_count 40 = .ok (.getfield 62, 3) := by decide +kernel
theorem dP_count_43 : decode bP_count 43 = .ok (.ireturn, 1) := by decide +kernel
theorem dP_count_44 : decode bP_count 44 = .ok (.aload_n 0, 1) := by decide +kernel
theorem dP_count_45 : decode bP_count 45 = .ok (.getfield 33, 3) := by decide +kernel
theorem dP_count_48 : decode bP_count 48 = .ok (.ireturn, 1) := by decide +kernel
theorem dP_count_49 : decode bP_count 49 = .ok (.aload_n 0, 1) := by decide +kernel
theorem dP_count_50 : decode bP_count 50 = .ok (.getfield 29, 3) := by decide +kernel
theorem dP_count_53 : decode bP_count 53 = .ok (.getfield 172, 3) := by decide +kernel
theorem dP_count_56 : decode bP_count 56 = .ok (.ireturn, 1) := by decide +kernel
theorem dP_count_57 : decode bP_count 57 = .ok (.aload_n 0, 1) := by decide +kernel
theorem dP_count_58 : decode bP_count 58 = .ok (.getfield 29, 3) := by decide +kernel
theorem dP_count_61 : decode bP_count 61 = .ok (.getfield 135, 3) := by decide +kernel
theorem dP_count_64 : decode bP_count 64 = .ok (.l2i, 1) := by decide +kernel
theorem dP_count_65 : decode bP_count 65 = .ok (.ireturn, 1) := by decide +kernel
theorem dP_count_66 : decode bP_count 66 = .ok (.aload_n 0, 1) := by decide +kernel
theorem dP_count_67 : decode bP_count 67 = .ok (.getfield 59, 3) := by decide +kernel
theorem dP_count_70 : decode bP_count 70 = .ok (.ireturn, 1) := by decide +kernel
theorem dP_count_71 : decode bP_count 71 = .ok (.iload_n 1, 1) := by decide +kernel
theorem dP_count_72 : decode bP_count 72 = .ok (.iconst 5, 1) := by decide +kernel
theorem dP_count_73 : decode bP_count 73 = .ok (.if_icmp .lt 23, 3) := by decide +kernel
theorem dP_count_76 : decode bP_count 76 = .ok (.iload_n 1, 1) := by decide +kernel
theorem dP_count_77 : decode bP_count 77 = .ok (.iconst 5, 1) := by decide +kernel
theorem dP_count_78 : decode bP_count 78 = .ok (.isub, 1) := by decide +kernel
theorem dP_count_79 : decode bP_count 79 = .ok (.aload_n 0, 1) := by decide +kernel
theorem dP_count_80 : decode bP_count 80 = .ok (.getfield 59, 3) := by decide +kernel
theorem dP_count_83 : decode bP_count 83 = .ok (.if_icmp .ge 13, 3) := by decide +kernel
theorem dP_count_86 : decode bP_count 86 = .ok (.aload_n 0, 1) := by decide +kernel
theorem dP_count_87 : decode bP_count 87 = .ok (.iload_n 1, 1) := by decide +kernel
theorem dP_count_88 : decode bP_count 88 = .ok (.iconst 5, 1) := by decide +kernel
theorem dP_count_89 : decode bP_count 89 = .ok (.isub, 1) := by decide +kernel
theorem dP_count_90 : decode bP_count 90 = .ok (.invokevirtual 175, 3) := by decide +kernel
theorem dP_count_93 : decode bP_count 93 = .ok (.goto 4, 3) := by decide +kernel
theorem dP_count_96 : decode bP_count 96 = .ok (.iconst (-1), 1) := by decide +kernel
theorem dP_count_97 : decode bP_count 97 = .ok (.ireturn, 1) := by decide +kernel
theorem dP_needColumn_0 : decode bP_needColumn 0 = .ok (.iload_n 1, 1) := by decide +kernel
theorem dP_needColumn_1 : decode bP_needColumn 1 = .ok (.ifCond .lt 14, 3) := by decide +kernel
theorem dP_needColumn_4 : decode bP_needColumn 4 = .ok (.iload_n 1, 1) := by decide +kernel
theorem dP_needColumn_5 : decode bP_needColumn 5 = .ok (.aload_n 0, 1) := by decide +kernel
theorem dP_needColumn_6 : decode bP_needColumn 6 = .ok (.getfield 29, 3) := by decide +kernel
theorem dP_needColumn_9 : decode bP_needColumn 9 = .ok (.getfield 62, 3) := by decide +kernel
theorem dP_needColumn_12 : decode bP_needColumn 12 = .ok (.if_icmp .lt 13, 3) := by decide +kernel
theorem dP_needColumn_15 : decode bP_needColumn 15 = .ok (.new 178, 3) := by decide +kernel
theorem dP_needColumn_18 : decode bP_needColumn 18 = .ok (.dup, 1) := by decide +kernel
theorem dP_needColumn_19 : decode bP_needColumn 19 = .ok (.ldc 180, 2) := by decide +kernel
theorem dP_needColumn_21 : decode bP_needColumn 21 = .ok (.invokespecial 182, 3) := by decide +kernel
theorem dP_needColumn_24 : decode bP_needColumn 24 = .ok (.athrow, 1) := by decide +kernel
theorem dP_needColumn_25 : decode bP_needColumn 25 = .ok (.return_, 1) := by decide +kernel
theorem dP_needRow_0 : decode bP_needRow 0 = .ok (.iload_n 1, 1) := by decide +kernel
theorem dP_needRow_1 : decode bP_needRow 1 = .ok (.ifCond .lt 11, 3) := by decide +kernel
theorem dP_needRow_4 : decode bP_needRow 4 = .ok (.iload_n 1, 1) := by decide +kernel
theorem dP_needRow_5 : decode bP_needRow 5 = .ok (.aload_n 0, 1) := by decide +kernel
theorem dP_needRow_6 : decode bP_needRow 6 = .ok (.getfield 33, 3) := by decide +kernel
theorem dP_needRow_9 : decode bP_needRow 9 = .ok (.if_icmp .lt 13, 3) := by decide +kernel
theorem dP_needRow_12 : decode bP_needRow 12 = .ok (.new 178, 3) := by decide +kernel
theorem dP_needRow_15 : decode bP_needRow 15 = .ok (.dup, 1) := by decide +kernel
theorem dP_needRow_16 : decode bP_needRow 16 = .ok (.ldc 183, 2) := by decide +kernel
theorem dP_needRow_18 : decode bP_needRow 18 = .ok (.invokespecial 182, 3) := by decide +kernel
theorem dP_needRow_21 : decode bP_needRow 21 = .ok (.athrow, 1) := by decide +kernel
theorem dP_needRow_22 : decode bP_needRow 22 = .ok (.return_, 1) := by decide +kernel
theorem dP_needRoomForRow_0 : decode bP_needRoomForRow 0 = .ok (.aload_n 0, 1) := by decide +kernel
theorem dP_needRoomForRow_1 : decode bP_needRoomForRow 1 = .ok (.getfield 33, 3) := by decide +kernel
theorem dP_needRoomForRow_4 : decode bP_needRoomForRow 4 = .ok (.bipush 12, 2) := by decide +kernel
theorem dP_needRoomForRow_6 : decode bP_needRoomForRow 6 = .ok (.if_icmp .lt 13, 3) := by decide +kernel
theorem dP_needRoomForRow_9 : decode bP_needRoomForRow 9 = .ok (.new 65, 3) := by decide +kernel
theorem dP_needRoomForRow_12 : decode bP_needRoomForRow 12 = .ok (.dup, 1) := by decide +kernel
theorem dP_needRoomForRow_13 : decode bP_needRoomForRow 13 = .ok (.ldc 185, 2) := by decide +kernel
theorem dP_needRoomForRow_15 : decode bP_needRoomForRow 15 = .ok (.invokespecial 69, 3) := by decide +kernel
theorem dP_needRoomForRow_18 : decode bP_needRoomForRow 18 = .ok (.athrow, 1) := by decide +kernel
theorem dP_needRoomForRow_19 : decode bP_needRoomForRow 19 = .ok (.return_, 1) := by decide +kernel
theorem dP_needRight_0 : decode bP_needRight 0 = .ok (.lload_n 0, 1) := by decide +kernel
theorem dP_needRight_1 : decode bP_needRight 1 = .ok (.ldc2_w 187, 3) := by decide +kernel
theorem dP_needRight_4 : decode bP_needRight 4 = .ok (.lcmp, 1) := by decide +kernel
theorem dP_needRight_5 : decode bP_needRight 5 = .ok (.ifCond .lt 11, 3) := by decide +kernel
theorem dP_needRight_8 : decode bP_needRight 8 = .ok (.lload_n 0, 1) := by decide +kernel
theorem dP_needRight_9 : decode bP_needRight 9 = .ok (.ldc2_w 189, 3) := by decide +kernel
theorem dP_needRight_12 : decode bP_needRight 12 = .ok (.lcmp, 1) := by decide +kernel
theorem dP_needRight_13 : decode bP_needRight 13 = .ok (.ifCond .le 13, 3) := by decide +kernel
theorem dP_needRight_16 : decode bP_needRight 16 = .ok (.new 74, 3) := by decide +kernel
theorem dP_needRight_19 : decode bP_needRight 19 = .ok (.dup, 1) := by decide +kernel
theorem dP_needRight_20 : decode bP_needRight 20 = .ok (.ldc 191, 2) := by decide +kernel
theorem dP_needRight_22 : decode bP_needRight 22 = .ok (.invokespecial 78, 3) := by decide +kernel
theorem dP_needRight_25 : decode bP_needRight 25 = .ok (.athrow, 1) := by decide +kernel
theorem dP_needRight_26 : decode bP_needRight 26 = .ok (.return_, 1) := by decide +kernel
theorem dP_needPart_0 : decode bP_needPart 0 = .ok (.iload_n 0, 1) := by decide +kernel
theorem dP_needPart_1 : decode bP_needPart 1 = .ok (.ifCond .eq 18, 3) := by decide +kernel
theorem dP_needPart_4 : decode bP_needPart 4 = .ok (.iload_n 0, 1) := by decide +kernel
theorem dP_needPart_5 : decode bP_needPart 5 = .ok (.iconst 1, 1) := by decide +kernel
theorem dP_needPart_6 : decode bP_needPart 6 = .ok (.if_icmp .eq 13, 3) := by decide +kernel
theorem dP_needPart_9 : decode bP_needPart 9 = .ok (.new 74, 3) := by decide +kernel
theorem dP_needPart_12 : decode bP_needPart 12 = .ok (.dup, 1) := by decide +kernel
theorem dP_needPart_13 : decode bP_needPart 13 = .ok (.ldc 193, 2) := by decide +kernel
theorem dP_needPart_15 : decode bP_needPart 15 = .ok (.invokespecial 78, 3) := by decide +kernel
theorem dP_needPart_18 : decode bP_needPart 18 = .ok (.athrow, 1) := by decide +kernel
theorem dP_needPart_19 : decode bP_needPart 19 = .ok (.return_, 1) := by decide +kernel
theorem dP_addRow_0 : decode bP_addRow 0 = .ok (.aload_n 0, 1) := by decide +kernel
theorem dP_addRow_1 : decode bP_addRow 1 = .ok (.getfield 33, 3) := by decide +kernel
theorem dP_addRow_4 : decode bP_addRow 4 = .ok (.istore 5, 2) := by decide +kernel
theorem dP_addRow_6 : decode bP_addRow 6 = .ok (.aload_n 0, 1) := by decide +kernel
theorem dP_addRow_7 : decode bP_addRow 7 = .ok (.getfield 9, 3) := by decide +kernel
theorem dP_addRow_10 : decode bP_addRow 10 = .ok (.iload 5, 2) := by decide +kernel
theorem dP_addRow_12 : decode bP_addRow 12 = .ok (.iload_n 1, 1) := by decide +kernel
theorem dP_addRow_13 : decode bP_addRow 13 = .ok (.iastore, 1) := by decide +kernel
theorem dP_addRow_14 : decode bP_addRow 14 = .ok (.aload_n 0, 1) := by decide +kernel
theorem dP_addRow_15 : decode bP_addRow 15 = .ok (.getfield 13, 3) := by decide +kernel
theorem dP_addRow_18 : decode bP_addRow 18 = .ok (.iload 5, 2) := by decide +kernel
theorem dP_addRow_20 : decode bP_addRow 20 = .ok (.iload_n 2, 1) := by decide +kernel
theorem dP_addRow_21 : decode bP_addRow 21 = .ok (.iastore, 1) := by decide +kernel
theorem dP_addRow_22 : decode bP_addRow 22 = .ok (.aload_n 0, 1) := by decide +kernel
theorem dP_addRow_23 : decode bP_addRow 23 = .ok (.getfield 16, 3) := by decide +kernel
theorem dP_addRow_26 : decode bP_addRow 26 = .ok (.iload 5, 2) := by decide +kernel
theorem dP_addRow_28 : decode bP_addRow 28 = .ok (.lload_n 3, 1) := by decide +kernel
theorem dP_addRow_29 : decode bP_addRow 29 = .ok (.lastore, 1) := by decide +kernel
theorem dP_addRow_30 : decode bP_addRow 30 = .ok (.aload_n 0, 1) := by decide +kernel
theorem dP_addRow_31 : decode bP_addRow 31 = .ok (.dup, 1) := by decide +kernel
theorem dP_addRow_32 : decode bP_addRow 32 = .ok (.getfield 33, 3) := by decide +kernel
theorem dP_addRow_35 : decode bP_addRow 35 = .ok (.iconst 1, 1) := by decide +kernel
theorem dP_addRow_36 : decode bP_addRow 36 = .ok (.iadd, 1) := by decide +kernel
theorem dP_addRow_37 : decode bP_addRow 37 = .ok (.putfield 33, 3) := by decide +kernel
theorem dP_addRow_40 : decode bP_addRow 40 = .ok (.iload 5, 2) := by decide +kernel
theorem dP_addRow_42 : decode bP_addRow 42 = .ok (.ireturn, 1) := by decide +kernel
theorem dP_factorPlace_0 : decode bP_factorPlace 0 = .ok (.iload_n 0, 1) := by decide +kernel
theorem dP_factorPlace_1 : decode bP_factorPlace 1 = .ok (.bipush 12, 2) := by decide +kernel
theorem dP_factorPlace_3 : decode bP_factorPlace 3 = .ok (.imul, 1) := by decide +kernel
theorem dP_factorPlace_4 : decode bP_factorPlace 4 = .ok (.iload_n 1, 1) := by decide +kernel
theorem dP_factorPlace_5 : decode bP_factorPlace 5 = .ok (.iadd, 1) := by decide +kernel
theorem dP_factorPlace_6 : decode bP_factorPlace 6 = .ok (.ireturn, 1) := by decide +kernel
theorem dP_rowsOfWeek_0 : decode bP_rowsOfWeek 0 = .ok (.iconst 0, 1) := by decide +kernel
theorem dP_rowsOfWeek_1 : decode bP_rowsOfWeek 1 = .ok (.istore_n 2, 1) := by decide +kernel
theorem dP_rowsOfWeek_2 : decode bP_rowsOfWeek 2 = .ok (.iconst 0, 1) := by decide +kernel
theorem dP_rowsOfWeek_3 : decode bP_rowsOfWeek 3 = .ok (.istore_n 3, 1) := by decide +kernel
theorem dP_rowsOfWeek_4 : decode bP_rowsOfWeek 4 = .ok (.iload_n 3, 1) := by decide +kernel
theorem dP_rowsOfWeek_5 : decode bP_rowsOfWeek 5 = .ok (.aload_n 0, 1) := by decide +kernel
theorem dP_rowsOfWeek_6 : decode bP_rowsOfWeek 6 = .ok (.getfield 33, 3) := by decide +kernel
theorem dP_rowsOfWeek_9 : decode bP_rowsOfWeek 9 = .ok (.if_icmp .ge 22, 3) := by decide +kernel
theorem dP_rowsOfWeek_12 : decode bP_rowsOfWeek 12 = .ok (.aload_n 0, 1) := by decide +kernel
theorem dP_rowsOfWeek_13 : decode bP_rowsOfWeek 13 = .ok (.getfield 13, 3) := by decide +kernel
theorem dP_rowsOfWeek_16 : decode bP_rowsOfWeek 16 = .ok (.iload_n 3, 1) := by decide +kernel
theorem dP_rowsOfWeek_17 : decode bP_rowsOfWeek 17 = .ok (.iaload, 1) := by decide +kernel
theorem dP_rowsOfWeek_18 : decode bP_rowsOfWeek 18 = .ok (.iload_n 1, 1) := by decide +kernel
theorem dP_rowsOfWeek_19 : decode bP_rowsOfWeek 19 = .ok (.if_icmp .ne 6, 3) := by decide +kernel
theorem dP_rowsOfWeek_22 : decode bP_rowsOfWeek 22 = .ok (.iinc 2 1, 3) := by decide +kernel
theorem dP_rowsOfWeek_25 : decode bP_rowsOfWeek 25 = .ok (.iinc 3 1, 3) := by decide +kernel
theorem dP_rowsOfWeek_28 : decode bP_rowsOfWeek 28 = .ok (.goto (-24), 3) := by decide +kernel
theorem dP_rowsOfWeek_31 : decode bP_rowsOfWeek 31 = .ok (.iload_n 2, 1) := by decide +kernel
theorem dP_rowsOfWeek_32 : decode bP_rowsOfWeek 32 = .ok (.ireturn, 1) := by decide +kernel
theorem dP_isKept_0 : decode bP_isKept 0 = .ok (.aload_n 0, 1) := by decide +kernel
theorem dP_isKept_1 : decode bP_isKept 1 = .ok (.getfield 29, 3) := by decide +kernel
theorem dP_isKept_4 : decode bP_isKept 4 = .ok (.aload_n 0, 1) := by decide +kernel
theorem dP_isKept_5 : decode bP_isKept 5 = .ok (.getfield 20, 3) := by decide +kernel
theorem dP_isKept_8 : decode bP_isKept 8 = .ok (.iload_n 1, 1) := by decide +kernel
theorem dP_isKept_9 : decode bP_isKept 9 = .ok (.iconst 0, 1) := by decide +kernel
theorem dP_isKept_10 : decode bP_isKept 10 = .ok (.invokestatic 109, 3) := by decide +kernel
theorem dP_isKept_13 : decode bP_isKept 13 = .ok (.invokevirtual 195, 3) := by decide +kernel
theorem dP_isKept_16 : decode bP_isKept 16 = .ok (.aload_n 0, 1) := by decide +kernel
theorem dP_isKept_17 : decode bP_isKept 17 = .ok (.getfield 29, 3) := by decide +kernel
theorem dP_isKept_20 : decode bP_isKept 20 = .ok (.getfield 135, 3) := by decide +kernel
theorem dP_isKept_23 : decode bP_isKept 23 = .ok (.aload_n 0, 1) := by decide +kernel
theorem dP_isKept_24 : decode bP_isKept 24 = .ok (.getfield 16, 3) := by decide +kernel
theorem dP_isKept_27 : decode bP_isKept 27 = .ok (.iload_n 1, 1) := by decide +kernel
theorem dP_isKept_28 : decode bP_isKept 28 = .ok (.laload, 1) := by decide +kernel
theorem dP_isKept_29 : decode bP_isKept 29 = .ok (.lmul, 1) := by decide +kernel
theorem dP_isKept_30 : decode bP_isKept 30 = .ok (.lsub, 1) := by decide +kernel
theorem dP_isKept_31 : decode bP_isKept 31 = .ok (.lstore_n 2, 1) := by decide +kernel
theorem dP_isKept_32 : decode bP_isKept 32 = .ok (.aload_n 0, 1) := by decide +kernel
theorem dP_isKept_33 : decode bP_isKept 33 = .ok (.getfield 9, 3) := by decide +kernel
theorem dP_isKept_36 : decode bP_isKept 36 = .ok (.iload_n 1, 1) := by decide +kernel
theorem dP_isKept_37 : decode bP_isKept 37 = .ok (.iaload, 1) := by decide +kernel
theorem dP_isKept_38 : decode bP_isKept 38 = .ok (.ifCond .ne 15, 3) := by decide +kernel
theorem dP_isKept_41 : decode bP_isKept 41 = .ok (.lload_n 2, 1) := by decide +kernel
theorem dP_isKept_42 : decode bP_isKept 42 = .ok (.lconst 0, 1) := by decide +kernel
theorem dP_isKept_43 : decode bP_isKept 43 = .ok (.lcmp, 1) := by decide +kernel
theorem dP_isKept_44 : decode bP_isKept 44 = .ok (.ifCond .lt 7, 3) := by decide +kernel
theorem dP_isKept_47 : decode bP_isKept 47 = .ok (.iconst 1, 1) := by decide +kernel
theorem dP_isKept_48 : decode bP_isKept 48 = .ok (.goto 4, 3) := by decide +kernel
theorem dP_isKept_51 : decode bP_isKept 51 = .ok (.iconst 0, 1) := by decide +kernel
theorem dP_isKept_52 : decode bP_isKept 52 = .ok (.ireturn, 1) := by decide +kernel
theorem dP_isKept_53 : decode bP_isKept 53 = .ok (.aload_n 0, 1) := by decide +kernel
theorem dP_isKept_54 : decode bP_isKept 54 = .ok (.getfield 9, 3) := by decide +kernel
theorem dP_isKept_57 : decode bP_isKept 57 = .ok (.iload_n 1, 1) := by decide +kernel
theorem dP_isKept_58 : decode bP_isKept 58 = .ok (.iaload, 1) := by decide +kernel
theorem dP_isKept_59 : decode bP_isKept 59 = .ok (.iconst 1, 1) := by decide +kernel
theorem dP_isKept_60 : decode bP_isKept 60 = .ok (.if_icmp .ne 17, 3) := by decide +kernel
theorem dP_isKept_63 : decode bP_isKept 63 = .ok (.lload_n 2, 1) := by decide +kernel
theorem dP_isKept_64 : decode bP_isKept 64 = .ok (.lconst 0, 1) := by decide +kernel
theorem dP_isKept_65 : decode bP_isKept 65 = .ok (.lcmp, 1) := by decide +kernel
theorem dP_isKept_66 : decode bP_isKept 66 = .ok (.ifCond .gt 7, 3) := by decide +kernel
theorem dP_isKept_69 : decode bP_isKept 69 = .ok (.iconst 1, 1) := by decide +kernel
theorem dP_isKept_70 : decode bP_isKept 70 = .ok (.goto 18, 3) := by decide +kernel
theorem dP_isKept_73 : decode bP_isKept 73 = .ok (.iconst 0, 1) := by decide +kernel
theorem dP_isKept_74 : decode bP_isKept 74 = .ok (.goto 14, 3) := by decide +kernel
theorem dP_isKept_77 : decode bP_isKept 77 = .ok (.lload_n 2, 1) := by decide +kernel
theorem dP_isKept_78 : decode bP_isKept 78 = .ok (.lconst 0, 1) := by decide +kernel
theorem dP_isKept_79 : decode bP_isKept 79 = .ok (.lcmp, 1) := by decide +kernel
theorem dP_isKept_80 : decode bP_isKept 80 = .ok (.ifCond .ne 7, 3) := by decide +kernel
theorem dP_isKept_83 : decode bP_isKept 83 = .ok (.iconst 1, 1) := by decide +kernel
theorem dP_isKept_84 : decode bP_isKept 84 = .ok (.goto 4, 3) := by decide +kernel
theorem dP_isKept_87 : decode bP_isKept 87 = .ok (.iconst 0, 1) := by decide +kernel
theorem dP_isKept_88 : decode bP_isKept 88 = .ok (.ireturn, 1) := by decide +kernel
theorem dP_linesOf_0 : decode bP_linesOf 0 = .ok (.aload_n 0, 1) := by decide +kernel
theorem dP_linesOf_1 : decode bP_linesOf 1 = .ok (.getfield 9, 3) := by decide +kernel
theorem dP_linesOf_4 : decode bP_linesOf 4 = .ok (.iload_n 1, 1) := by decide +kernel
theorem dP_linesOf_5 : decode bP_linesOf 5 = .ok (.iaload, 1) := by decide +kernel
theorem dP_linesOf_6 : decode bP_linesOf 6 = .ok (.iconst 2, 1) := by decide +kernel
theorem dP_linesOf_7 : decode bP_linesOf 7 = .ok (.if_icmp .ne 7, 3) := by decide +kernel
theorem dP_linesOf_10 : decode bP_linesOf 10 = .ok (.iconst 2, 1) := by decide +kernel
theorem dP_linesOf_11 : decode bP_linesOf 11 = .ok (.goto 4, 3) := by decide +kernel
theorem dP_linesOf_14 : decode bP_linesOf 14 = .ok (.iconst 1, 1) := by decide +kernel
theorem dP_linesOf_15 : decode bP_linesOf 15 = .ok (.ireturn, 1) := by decide +kernel
theorem dP_linesInTable_0 : decode bP_linesInTable 0 = .ok (.iload_n 1, 1) := by decide +kernel
theorem dP_linesInTable_1 : decode bP_linesInTable 1 = .ok (.aload_n 0, 1) := by decide +kernel
theorem dP_linesInTable_2 : decode bP_linesInTable 2 = .ok (.getfield 37, 3) := by decide +kernel
theorem dP_linesInTable_5 : decode bP_linesInTable 5 = .ok (.if_icmp .ge 11, 3) := by decide +kernel
theorem dP_linesInTable_8 : decode bP_linesInTable 8 = .ok (.aload_n 0, 1) := by decide +kernel
theorem dP_linesInTable_9 : decode bP_linesInTable 9 = .ok (.iload_n 1, 1) := by decide +kernel
theorem dP_linesInTable_10 : decode bP_linesInTable 10 = .ok (.invokevirtual 199, 3) := by decide +kernel
theorem dP_linesInTable_13 : decode bP_linesInTable 13 = .ok (.goto 4, 3) := by decide +kernel
theorem dP_linesInTable_16 : decode bP_linesInTable 16 = .ok (.iconst 0, 1) := by decide +kernel
theorem dP_linesInTable_17 : decode bP_linesInTable 17 = .ok (.ireturn, 1) := by decide +kernel
theorem dP_signOf_0 : decode bP_signOf 0 = .ok (.aload_n 0, 1) := by decide +kernel
theorem dP_signOf_1 : decode bP_signOf 1 = .ok (.getfield 9, 3) := by decide +kernel
theorem dP_signOf_4 : decode bP_signOf 4 = .ok (.iload_n 1, 1) := by decide +kernel
theorem dP_signOf_5 : decode bP_signOf 5 = .ok (.iaload, 1) := by decide +kernel
theorem dP_signOf_6 : decode bP_signOf 6 = .ok (.iconst 1, 1) := by decide +kernel
theorem dP_signOf_7 : decode bP_signOf 7 = .ok (.if_icmp .eq 8, 3) := by decide +kernel
theorem dP_signOf_10 : decode bP_signOf 10 = .ok (.iload_n 2, 1) := by decide +kernel
theorem dP_signOf_11 : decode bP_signOf 11 = .ok (.iconst 1, 1) := by decide +kernel
theorem dP_signOf_12 : decode bP_signOf 12 = .ok (.if_icmp .ne 7, 3) := by decide +kernel
theorem dP_signOf_15 : decode bP_signOf 15 = .ok (.iconst (-1), 1) := by decide +kernel
theorem dP_signOf_16 : decode bP_signOf 16 = .ok (.goto 4, 3) := by decide +kernel
theorem dP_signOf_19 : decode bP_signOf 19 = .ok (.iconst 1, 1) := by decide +kernel
theorem dP_signOf_20 : decode bP_signOf 20 = .ok (.ireturn, 1) := by decide +kernel
theorem dP_variableOf_0 : decode bP_variableOf 0 = .ok (.aload_n 0, 1) := by decide +kernel
theorem dP_variableOf_1 : decode bP_variableOf 1 = .ok (.getfield 29, 3) := by decide +kernel
theorem dP_variableOf_4 : decode bP_variableOf 4 = .ok (.getfield 62, 3) := by decide +kernel
theorem dP_variableOf_7 : decode bP_variableOf 7 = .ok (.aload_n 0, 1) := by decide +kernel
theorem dP_variableOf_8 : decode bP_variableOf 8 = .ok (.getfield 23, 3) := by decide +kernel
theorem dP_variableOf_11 : decode bP_variableOf 11 = .ok (.iload_n 1, 1) := by decide +kernel
theorem dP_variableOf_12 : decode bP_variableOf 12 = .ok (.iaload, 1) := by decide +kernel
theorem dP_variableOf_13 : decode bP_variableOf 13 = .ok (.iadd, 1) := by decide +kernel
theorem dP_variableOf_14 : decode bP_variableOf 14 = .ok (.iload_n 2, 1) := by decide +kernel
theorem dP_variableOf_15 : decode bP_variableOf 15 = .ok (.iadd, 1) := by decide +kernel
theorem dP_variableOf_16 : decode bP_variableOf 16 = .ok (.ireturn, 1) := by decide +kernel
theorem dP_bringRows_0 : decode bP_bringRows 0 = .ok (.aload_n 0, 1) := by decide +kernel
theorem dP_bringRows_1 : decode bP_bringRows 1 = .ok (.getfield 37, 3) := by decide +kernel
theorem dP_bringRows_4 : decode bP_bringRows 4 = .ok (.istore_n 1, 1) := by decide +kernel
theorem dP_bringRows_5 : decode bP_bringRows 5 = .ok (.iload_n 1, 1) := by decide +kernel
theorem dP_bringRows_6 : decode bP_bringRows 6 = .ok (.aload_n 0, 1) := by decide +kernel
theorem dP_bringRows_7 : decode bP_bringRows 7 = .ok (.getfield 33, 3) := by decide +kernel
theorem dP_bringRows_10 : decode bP_bringRows 10 = .ok (.if_icmp .ge 26, 3) := by decide +kernel
theorem dP_bringRows_13 : decode bP_bringRows 13 = .ok (.aload_n 0, 1) := by decide +kernel
theorem dP_bringRows_14 : decode bP_bringRows 14 = .ok (.iload_n 1, 1) := by decide +kernel
theorem dP_bringRows_15 : decode bP_bringRows 15 = .ok (.invokevirtual 202, 3) := by decide +kernel
theorem dP_bringRows_18 : decode bP_bringRows 18 = .ok (.ifCond .ne 5, 3) := by decide +kernel
theorem dP_bringRows_21 : decode bP_bringRows 21 = .ok (.iconst 0, 1) := by decide +kernel
theorem dP_bringRows_22 : decode bP_bringRows 22 = .ok (.ireturn, 1) := by decide +kernel
theorem dP_bringRows_23 : decode bP_bringRows 23 = .ok (.aload_n 0, 1) := by decide +kernel
theorem dP_bringRows_24 : decode bP_bringRows 24 = .ok (.iload_n 1, 1) := by decide +kernel
theorem dP_bringRows_25 : decode bP_bringRows 25 = .ok (.iconst 1, 1) := by decide +kernel
theorem dP_bringRows_26 : decode bP_bringRows 26 = .ok (.iadd, 1) := by decide +kernel
theorem dP_bringRows_27 : decode bP_bringRows 27 = .ok (.putfield 37, 3) := by decide +kernel
theorem dP_bringRows_30 : decode bP_bringRows 30 = .ok (.iinc 1 1, 3) := by decide +kernel
theorem dP_bringRows_33 : decode bP_bringRows 33 = .ok (.goto (-28), 3) := by decide +kernel
theorem dP_bringRows_36 : decode bP_bringRows 36 = .ok (.iconst 1, 1) := by decide +kernel
theorem dP_bringRows_37 : decode bP_bringRows 37 = .ok (.ireturn, 1) := by decide +kernel
theorem dP_bringRow_0 : decode bP_bringRow 0 = .ok (.aload_n 0, 1) := by decide +kernel
theorem dP_bringRow_1 : decode bP_bringRow 1 = .ok (.getfield 29, 3) := by decide +kernel
theorem dP_bringRow_4 : decode bP_bringRow 4 = .ok (.aload_n 0, 1) := by decide +kernel
theorem dP_bringRow_5 : decode bP_bringRow 5 = .ok (.getfield 20, 3) := by decide +kernel
theorem dP_bringRow_8 : decode bP_bringRow 8 = .ok (.iload_n 1, 1) := by decide +kernel
theorem dP_bringRow_9 : decode bP_bringRow 9 = .ok (.iconst 0, 1) := by decide +kernel
theorem dP_bringRow_10 : decode bP_bringRow 10 = .ok (.invokestatic 109, 3) := by decide +kernel
theorem dP_bringRow_13 : decode bP_bringRow 13 = .ok (.aload_n 0, 1) := by decide +kernel
theorem dP_bringRow_14 : decode bP_bringRow 14 = .ok (.getfield 16, 3) := by decide +kernel
theorem dP_bringRow_17 : decode bP_bringRow 17 = .ok (.iload_n 1, 1) := by decide +kernel
theorem dP_bringRow_18 : decode bP_bringRow 18 = .ok (.laload, 1) := by decide +kernel
theorem dP_bringRow_19 : decode bP_bringRow 19 = .ok (.invokevirtual 205, 3) := by decide +kernel
theorem dP_bringRow_22 : decode bP_bringRow 22 = .ok (.aload_n 0, 1) := by decide +kernel
theorem dP_bringRow_23 : decode bP_bringRow 23 = .ok (.getfield 29, 3) := by decide +kernel
theorem dP_bringRow_26 : decode bP_bringRow 26 = .ok (.invokevirtual 209, 3) := by decide +kernel
theorem dP_bringRow_29 : decode bP_bringRow 29 = .ok (.ifCond .ne 5, 3) := by decide +kernel
theorem dP_bringRow_32 : decode bP_bringRow 32 = .ok (.iconst 0, 1) := by decide +kernel
theorem dP_bringRow_33 : decode bP_bringRow 33 = .ok (.ireturn, 1) := by decide +kernel
theorem dP_bringRow_34 : decode bP_bringRow 34 = .ok (.aload_n 0, 1) := by decide +kernel
theorem dP_bringRow_35 : decode bP_bringRow 35 = .ok (.getfield 23, 3) := by decide +kernel
theorem dP_bringRow_38 : decode bP_bringRow 38 = .ok (.iload_n 1, 1) := by decide +kernel
theorem dP_bringRow_39 : decode bP_bringRow 39 = .ok (.aload_n 0, 1) := by decide +kernel
theorem dP_bringRow_40 : decode bP_bringRow 40 = .ok (.getfield 29, 3) := by decide +kernel
theorem dP_bringRow_43 : decode bP_bringRow 43 = .ok (.getfield 172, 3) := by decide +kernel
theorem dP_bringRow_46 : decode bP_bringRow 46 = .ok (.iastore, 1) := by decide +kernel
theorem dP_bringRow_47 : decode bP_bringRow 47 = .ok (.iconst 0, 1) := by decide +kernel
theorem dP_bringRow_48 : decode bP_bringRow 48 = .ok (.istore_n 2, 1) := by decide +kernel
theorem dP_bringRow_49 : decode bP_bringRow 49 = .ok (.iload_n 2, 1) := by decide +kernel
theorem dP_bringRow_50 : decode bP_bringRow 50 = .ok (.aload_n 0, 1) := by decide +kernel
theorem dP_bringRow_51 : decode bP_bringRow 51 = .ok (.iload_n 1, 1) := by decide +kernel
theorem dP_bringRow_52 : decode bP_bringRow 52 = .ok (.invokevirtual 199, 3) := by decide +kernel
theorem dP_bringRow_55 : decode bP_bringRow 55 = .ok (.if_icmp .ge 22, 3) := by decide +kernel
theorem dP_bringRow_58 : decode bP_bringRow 58 = .ok (.aload_n 0, 1) := by decide +kernel
theorem dP_bringRow_59 : decode bP_bringRow 59 = .ok (.getfield 29, 3) := by decide +kernel
theorem dP_bringRow_62 : decode bP_bringRow 62 = .ok (.aload_n 0, 1) := by decide +kernel
theorem dP_bringRow_63 : decode bP_bringRow 63 = .ok (.iload_n 1, 1) := by decide +kernel
theorem dP_bringRow_64 : decode bP_bringRow 64 = .ok (.iload_n 2, 1) := by decide +kernel
theorem dP_bringRow_65 : decode bP_bringRow 65 = .ok (.invokevirtual 150, 3) := by decide +kernel
theorem dP_bringRow_68 : decode bP_bringRow 68 = .ok (.invokevirtual 212, 3) := by decide +kernel
theorem dP_bringRow_71 : decode bP_bringRow 71 = .ok (.iinc 2 1, 3) := by decide +kernel
theorem dP_bringRow_74 : decode bP_bringRow 74 = .ok (.goto (-25), 3) := by decide +kernel
theorem dP_bringRow_77 : decode bP_bringRow 77 = .ok (.iconst 1, 1) := by decide +kernel
theorem dP_bringRow_78 : decode bP_bringRow 78 = .ok (.ireturn, 1) := by decide +kernel
theorem dP_doSteps_0 : decode bP_doSteps 0 = .ok (.iconst 0, 1) := by decide +kernel
theorem dP_doSteps_1 : decode bP_doSteps 1 = .ok (.istore_n 2, 1) := by decide +kernel
theorem dP_doSteps_2 : decode bP_doSteps 2 = .ok (.iload_n 2, 1) := by decide +kernel
theorem dP_doSteps_3 : decode bP_doSteps 3 = .ok (.iload_n 1, 1) := by decide +kernel
theorem dP_doSteps_4 : decode bP_doSteps 4 = .ok (.if_icmp .gt 84, 3) := by decide +kernel
theorem dP_doSteps_7 : decode bP_doSteps 7 = .ok (.aload_n 0, 1) := by decide +kernel
theorem dP_doSteps_8 : decode bP_doSteps 8 = .ok (.getfield 29, 3) := by decide +kernel
theorem dP_doSteps_11 : decode bP_doSteps 11 = .ok (.invokevirtual 161, 3) := by decide +kernel
theorem dP_doSteps_14 : decode bP_doSteps 14 = .ok (.istore_n 3, 1) := by decide +kernel
theorem dP_doSteps_15 : decode bP_doSteps 15 = .ok (.iload_n 3, 1) := by decide +kernel
theorem dP_doSteps_16 : decode bP_doSteps 16 = .ok (.iconst (-1), 1) := by decide +kernel
theorem dP_doSteps_17 : decode bP_doSteps 17 = .ok (.if_icmp .ne 5, 3) := by decide +kernel
theorem dP_doSteps_20 : decode bP_doSteps 20 = .ok (.iconst 0, 1) := by decide +kernel
theorem dP_doSteps_21 : decode bP_doSteps 21 = .ok (.ireturn, 1) := by decide +kernel
theorem dP_doSteps_22 : decode bP_doSteps 22 = .ok (.aload_n 0, 1) := by decide +kernel
theorem dP_doSteps_23 : decode bP_doSteps 23 = .ok (.getfield 29, 3) := by decide +kernel
theorem dP_doSteps_26 : decode bP_doSteps 26 = .ok (.iload_n 3, 1) := by decide +kernel
theorem dP_doSteps_27 : decode bP_doSteps 27 = .ok (.invokevirtual 215, 3) := by decide +kernel
theorem dP_doSteps_30 : decode bP_doSteps 30 = .ok (.istore 4, 2) := by decide +kernel
theorem dP_doSteps_32 : decode bP_doSteps 32 = .ok (.iload 4, 2) := by decide +kernel
theorem dP_doSteps_34 : decode bP_doSteps 34 = .ok (.iconst (-1), 1) := by decide +kernel
theorem dP_doSteps_35 : decode bP_doSteps 35 = .ok (.if_icmp .ne 5, 3) := by decide +kernel
theorem dP_doSteps_38 : decode bP_doSteps 38 = .ok (.iconst 1, 1) := by decide +kernel
theorem dP_doSteps_39 : decode bP_doSteps 39 = .ok (.ireturn, 1) := by decide +kernel
theorem dP_doSteps_40 : decode bP_doSteps 40 = .ok (.iload_n 2, 1) := by decide +kernel
theorem dP_doSteps_41 : decode bP_doSteps 41 = .ok (.iload_n 1, 1) := by decide +kernel
theorem dP_doSteps_42 : decode bP_doSteps 42 = .ok (.if_icmp .ne 5, 3) := by decide +kernel
theorem dP_doSteps_45 : decode bP_doSteps 45 = .ok (.iconst 2, 1) := by decide +kernel
theorem dP_doSteps_46 : decode bP_doSteps 46 = .ok (.ireturn, 1) := by decide +kernel
theorem dP_doSteps_47 : decode bP_doSteps 47 = .ok (.aload_n 0, 1) := by decide +kernel
theorem dP_doSteps_48 : decode bP_doSteps 48 = .ok (.getfield 29, 3) := by decide +kernel
theorem dP_doSteps_51 : decode bP_doSteps 51 = .ok (.iload_n 3, 1) := by decide +kernel
theorem dP_doSteps_52 : decode bP_doSteps 52 = .ok (.iload 4, 2) := by decide +kernel
theorem dP_doSteps_54 : decode bP_doSteps 54 = .ok (.invokevirtual 218, 3) := by decide +kernel
theorem dP_doSteps_57 : decode bP_doSteps 57 = .ok (.ifCond .ne 5, 3) := by decide +kernel
theorem dP_doSteps_60 : decode bP_doSteps 60 = .ok (.iconst 3, 1) := by decide +kernel
theorem dP_doSteps_61 : decode bP_doSteps 61 = .ok (.ireturn, 1) := by decide +kernel
theorem dP_doSteps_62 : decode bP_doSteps 62 = .ok (.aload_n 0, 1) := by decide +kernel
theorem dP_doSteps_63 : decode bP_doSteps 63 = .ok (.getfield 29, 3) := by decide +kernel
theorem dP_doSteps_66 : decode bP_doSteps 66 = .ok (.iload_n 3, 1) := by decide +kernel
theorem dP_doSteps_67 : decode bP_doSteps 67 = .ok (.iload 4, 2) := by decide +kernel
theorem dP_doSteps_69 : decode bP_doSteps 69 = .ok (.invokevirtual 222, 3) := by decide +kernel
theorem dP_doSteps_72 : decode bP_doSteps 72 = .ok (.aload_n 0, 1) := by decide +kernel
theorem dP_doSteps_73 : decode bP_doSteps 73 = .ok (.dup, 1) := by decide +kernel
theorem dP_doSteps_74 : decode bP_doSteps 74 = .ok (.getfield 40, 3) := by decide +kernel
theorem dP_doSteps_77 : decode bP_doSteps 77 = .ok (.iconst 1, 1) := by decide +kernel
theorem dP_doSteps_78 : decode bP_doSteps 78 = .ok (.iadd, 1) := by decide +kernel
theorem dP_doSteps_79 : decode bP_doSteps 79 = .ok (.putfield 40, 3) := by decide +kernel
theorem dP_doSteps_82 : decode bP_doSteps 82 = .ok (.iinc 2 1, 3) := by decide +kernel
theorem dP_doSteps_85 : decode bP_doSteps 85 = .ok (.goto (-83), 3) := by decide +kernel
theorem dP_doSteps_88 : decode bP_doSteps 88 = .ok (.iconst 2, 1) := by decide +kernel
theorem dP_doSteps_89 : decode bP_doSteps 89 = .ok (.ireturn, 1) := by decide +kernel
theorem dP_moveStarts_0 : decode bP_moveStarts 0 = .ok (.aload_n 0, 1) := by decide +kernel
theorem dP_moveStarts_1 : decode bP_moveStarts 1 = .ok (.getfield 29, 3) := by decide +kernel
theorem dP_moveStarts_4 : decode bP_moveStarts 4 = .ok (.invokevirtual 226, 3) := by decide +kernel
theorem dP_moveStarts_7 : decode bP_moveStarts 7 = .ok (.iconst 0, 1) := by decide +kernel
theorem dP_moveStarts_8 : decode bP_moveStarts 8 = .ok (.istore 4, 2) := by decide +kernel
theorem dP_moveStarts_10 : decode bP_moveStarts 10 = .ok (.iload 4, 2) := by decide +kernel
theorem dP_moveStarts_12 : decode bP_moveStarts 12 = .ok (.aload_n 0, 1) := by decide +kernel
theorem dP_moveStarts_13 : decode bP_moveStarts 13 = .ok (.iload_n 1, 1) := by decide +kernel
theorem dP_moveStarts_14 : decode bP_moveStarts 14 = .ok (.invokevirtual 199, 3) := by decide +kernel
theorem dP_moveStarts_17 : decode bP_moveStarts 17 = .ok (.if_icmp .ge 34, 3) := by decide +kernel
theorem dP_moveStarts_20 : decode bP_moveStarts 20 = .ok (.aload_n 0, 1) := by decide +kernel
theorem dP_moveStarts_21 : decode bP_moveStarts 21 = .ok (.getfield 29, 3) := by decide +kernel
theorem dP_moveStarts_24 : decode bP_moveStarts 24 = .ok (.aload_n 0, 1) := by decide +kernel
theorem dP_moveStarts_25 : decode bP_moveStarts 25 = .ok (.iload_n 1, 1) := by decide +kernel
theorem dP_moveStarts_26 : decode bP_moveStarts 26 = .ok (.iload 4, 2) := by decide +kernel
theorem dP_moveStarts_28 : decode bP_moveStarts 28 = .ok (.invokevirtual 153, 3) := by decide +kernel
theorem dP_moveStarts_31 : decode bP_moveStarts 31 = .ok (.aload_n 0, 1) := by decide +kernel
theorem dP_moveStarts_32 : decode bP_moveStarts 32 = .ok (.iload_n 1, 1) := by decide +kernel
theorem dP_moveStarts_33 : decode bP_moveStarts 33 = .ok (.iload 4, 2) := by decide +kernel
theorem dP_moveStarts_35 : decode bP_moveStarts 35 = .ok (.invokevirtual 150, 3) := by decide +kernel
theorem dP_moveStarts_38 : decode bP_moveStarts 38 = .ok (.ineg, 1) := by decide +kernel
theorem dP_moveStarts_39 : decode bP_moveStarts 39 = .ok (.i2l, 1) := by decide +kernel
theorem dP_moveStarts_40 : decode bP_moveStarts 40 = .ok (.lload_n 2, 1) := by decide +kernel
theorem dP_moveStarts_41 : decode bP_moveStarts 41 = .ok (.lmul, 1) := by decide +kernel
theorem dP_moveStarts_42 : decode bP_moveStarts 42 = .ok (.invokevirtual 229, 3) := by decide +kernel
theorem dP_moveStarts_45 : decode bP_moveStarts 45 = .ok (.iinc 4 1, 3) := by decide +kernel
theorem dP_moveStarts_48 : decode bP_moveStarts 48 = .ok (.goto (-38), 3) := by decide +kernel
theorem dP_moveStarts_51 : decode bP_moveStarts 51 = .ok (.aload_n 0, 1) := by decide +kernel
theorem dP_moveStarts_52 : decode bP_moveStarts 52 = .ok (.getfield 29, 3) := by decide +kernel
theorem dP_moveStarts_55 : decode bP_moveStarts 55 = .ok (.invokevirtual 233, 3) := by decide +kernel
theorem dP_moveStarts_58 : decode bP_moveStarts 58 = .ok (.ireturn, 1) := by decide +kernel
theorem dP_timesTaken_0 : decode bP_timesTaken 0 = .ok (.iload_n 1, 1) := by decide +kernel
theorem dP_timesTaken_1 : decode bP_timesTaken 1 = .ok (.iconst (-1), 1) := by decide +kernel
theorem dP_timesTaken_2 : decode bP_timesTaken 2 = .ok (.if_icmp .ne 5, 3) := by decide +kernel
theorem dP_timesTaken_5 : decode bP_timesTaken 5 = .ok (.lconst 0, 1) := by decide +kernel
theorem dP_timesTaken_6 : decode bP_timesTaken 6 = .ok (.lreturn, 1) := by decide +kernel
theorem dP_timesTaken_7 : decode bP_timesTaken 7 = .ok (.aload_n 0, 1) := by decide +kernel
theorem dP_timesTaken_8 : decode bP_timesTaken 8 = .ok (.getfield 29, 3) := by decide +kernel
theorem dP_timesTaken_11 : decode bP_timesTaken 11 = .ok (.getfield 236, 3) := by decide +kernel
theorem dP_timesTaken_14 : decode bP_timesTaken 14 = .ok (.iload_n 1, 1) := by decide +kernel
theorem dP_timesTaken_15 : decode bP_timesTaken 15 = .ok (.iaload, 1) := by decide +kernel
theorem dP_timesTaken_16 : decode bP_timesTaken 16 = .ok (.iload_n 2, 1) := by decide +kernel
theorem dP_timesTaken_17 : decode bP_timesTaken 17 = .ok (.if_icmp .ne 13, 3) := by decide +kernel
theorem dP_timesTaken_20 : decode bP_timesTaken 20 = .ok (.aload_n 0, 1) := by decide +kernel
theorem dP_timesTaken_21 : decode bP_timesTaken 21 = .ok (.getfield 29, 3) := by decide +kernel
theorem dP_timesTaken_24 : decode bP_timesTaken 24 = .ok (.getfield 135, 3) := by decide +kernel
theorem dP_timesTaken_27 : decode bP_timesTaken 27 = .ok (.goto 13, 3) := by decide +kernel
theorem dP_timesTaken_30 : decode bP_timesTaken 30 = .ok (.aload_n 0, 1) := by decide +kernel
theorem dP_timesTaken_31 : decode bP_timesTaken 31 = .ok (.getfield 29, 3) := by decide +kernel
theorem dP_timesTaken_34 : decode bP_timesTaken 34 = .ok (.iload_n 1, 1) := by decide +kernel
theorem dP_timesTaken_35 : decode bP_timesTaken 35 = .ok (.iload_n 2, 1) := by decide +kernel
theorem dP_timesTaken_36 : decode bP_timesTaken 36 = .ok (.invokevirtual 156, 3) := by decide +kernel
theorem dP_timesTaken_39 : decode bP_timesTaken 39 = .ok (.lneg, 1) := by decide +kernel
theorem dP_timesTaken_40 : decode bP_timesTaken 40 = .ok (.lreturn, 1) := by decide +kernel
theorem dP_inLeastTerms_0 : decode bP_inLeastTerms 0 = .ok (.iload 4, 2) := by decide +kernel
theorem dP_inLeastTerms_2 : decode bP_inLeastTerms 2 = .ok (.ifCond .ne 7, 3) := by decide +kernel
theorem dP_inLeastTerms_5 : decode bP_inLeastTerms 5 = .ok (.lload_n 0, 1) := by decide +kernel
theorem dP_inLeastTerms_6 : decode bP_inLeastTerms 6 = .ok (.goto 4, 3) := by decide +kernel
theorem dP_inLeastTerms_9 : decode bP_inLeastTerms 9 = .ok (.lload_n 2, 1) := by decide +kernel
theorem dP_inLeastTerms_10 : decode bP_inLeastTerms 10 = .ok (.lstore 5, 2) := by decide +kernel
theorem dP_inLeastTerms_12 : decode bP_inLeastTerms 12 = .ok (.lload_n 0, 1) := by decide +kernel
theorem dP_inLeastTerms_13 : decode bP_inLeastTerms 13 = .ok (.invokestatic 239, 3) := by decide +kernel
theorem dP_inLeastTerms_16 : decode bP_inLeastTerms 16 = .ok (.lload_n 2, 1) := by decide +kernel
theorem dP_inLeastTerms_17 : decode bP_inLeastTerms 17 = .ok (.invokestatic 243, 3) := by decide +kernel
theorem dP_inLeastTerms_20 : decode bP_inLeastTerms 20 = .ok (.lstore 7, 2) := by decide +kernel
theorem dP_inLeastTerms_22 : decode bP_inLeastTerms 22 = .ok (.lload 7, 2) := by decide +kernel
theorem dP_inLeastTerms_24 : decode bP_inLeastTerms 24 = .ok (.lconst 0, 1) := by decide +kernel
theorem dP_inLeastTerms_25 : decode bP_inLeastTerms 25 = .ok (.lcmp, 1) := by decide +kernel
theorem dP_inLeastTerms_26 : decode bP_inLeastTerms 26 = .ok (.ifCond .ne 8, 3) := by decide +kernel
theorem dP_inLeastTerms_29 : decode bP_inLeastTerms 29 = .ok (.lload 5, 2) := by decide +kernel
theorem dP_inLeastTerms_31 : decode bP_inLeastTerms 31 = .ok (.goto 8, 3) := by decide +kernel
theorem dP_inLeastTerms_34 : decode bP_inLeastTerms 34 = .ok (.lload 5, 2) := by decide +kernel
theorem dP_inLeastTerms_36 : decode bP_inLeastTerms 36 = .ok (.lload 7, 2) := by decide +kernel
theorem dP_inLeastTerms_38 : decode bP_inLeastTerms 38 = .ok (.ldiv, 1) := by decide +kernel
theorem dP_inLeastTerms_39 : decode bP_inLeastTerms 39 = .ok (.lreturn, 1) := by decide +kernel
theorem dP_greatestCommon_0 : decode bP_greatestCommon 0 = .ok (.iconst 0, 1) := by decide +kernel
theorem dP_greatestCommon_1 : decode bP_greatestCommon 1 = .ok (.istore 4, 2) := by decide +kernel
theorem dP_greatestCommon_3 : decode bP_greatestCommon 3 = .ok (.iload 4, 2) := by decide +kernel
theorem dP_greatestCommon_5 : decode bP_greatestCommon 5 = .ok (.bipush 100, 2) := by decide +kernel
theorem dP_greatestCommon_7 : decode bP_greatestCommon 7 = .ok (.if_icmp .ge 25, 3) := by decide +kernel
theorem dP_greatestCommon_10 : decode bP_greatestCommon 10 = .ok (.lload_n 2, 1) := by decide +kernel
theorem dP_greatestCommon_11 : decode bP_greatestCommon 11 = .ok (.lconst 0, 1) := by decide +kernel
theorem dP_greatestCommon_12 : decode bP_greatestCommon 12 = .ok (.lcmp, 1) := by decide +kernel
theorem dP_greatestCommon_13 : decode bP_greatestCommon 13 = .ok (.ifCond .eq 19, 3) := by decide +kernel
theorem dP_greatestCommon_16 : decode bP_greatestCommon 16 = .ok (.lload_n 0, 1) := by decide +kernel
theorem dP_greatestCommon_17 : decode bP_greatestCommon 17 = .ok (.lload_n 2, 1) := by decide +kernel
theorem dP_greatestCommon_18 : decode bP_greatestCommon 18 = .ok (.lrem, 1) := by decide +kernel
theorem dP_greatestCommon_19 : decode bP_greatestCommon 19 = .ok (.lstore 5, 2) := by decide +kernel
theorem dP_greatestCommon_21 : decode bP_greatestCommon 21 = .ok (.lload_n 2, 1) := by decide +kernel
theorem dP_greatestCommon_22 : decode bP_greatestCommon 22 = .ok (.lstore_n 0, 1) := by decide +kernel
theorem dP_greatestCommon_23 : decode bP_greatestCommon 23 = .ok (.lload 5, 2) := by decide +kernel
theorem dP_greatestCommon_25 : decode bP_greatestCommon 25 = .ok (.lstore_n 2, 1) := by decide +kernel
theorem dP_greatestCommon_26 : decode bP_greatestCommon 26 = .ok (.iinc 4 1, 3) := by decide +kernel
theorem dP_greatestCommon_29 : decode bP_greatestCommon 29 = .ok (.goto (-26), 3) := by decide +kernel
theorem dP_greatestCommon_32 : decode bP_greatestCommon 32 = .ok (.lload_n 0, 1) := by decide +kernel
theorem dP_greatestCommon_33 : decode bP_greatestCommon 33 = .ok (.lreturn, 1) := by decide +kernel
