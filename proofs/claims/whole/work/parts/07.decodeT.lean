theorem dT_init_0 : decode bT_init 0 = .ok (.aload_n 0, 1) := by decide +kernel
theorem dT_init_1 : decode bT_init 1 = .ok (.invokespecial 3, 3) := by decide +kernel
theorem dT_init_4 : decode bT_init 4 = .ok (.aload_n 0, 1) := by decide +kernel
theorem dT_init_5 : decode bT_init 5 = .ok (.sipush 325, 3) := by decide +kernel
theorem dT_init_8 : decode bT_init 8 = .ok (.newarray .long, 2) := by decide +kernel
theorem dT_init_10 : decode bT_init 10 = .ok (.putfield 11, 3) := by decide +kernel
theorem dT_init_13 : decode bT_init 13 = .ok (.aload_n 0, 1) := by decide +kernel
theorem dT_init_14 : decode bT_init 14 = .ok (.bipush 25, 2) := by decide +kernel
theorem dT_init_16 : decode bT_init 16 = .ok (.newarray .int, 2) := by decide +kernel
theorem dT_init_18 : decode bT_init 18 = .ok (.putfield 15, 3) := by decide +kernel
theorem dT_init_21 : decode bT_init 21 = .ok (.aload_n 0, 1) := by decide +kernel
theorem dT_init_22 : decode bT_init 22 = .ok (.bipush 13, 2) := by decide +kernel
theorem dT_init_24 : decode bT_init 24 = .ok (.newarray .int, 2) := by decide +kernel
theorem dT_init_26 : decode bT_init 26 = .ok (.putfield 19, 3) := by decide +kernel
theorem dT_init_29 : decode bT_init 29 = .ok (.aload_n 0, 1) := by decide +kernel
theorem dT_init_30 : decode bT_init 30 = .ok (.bipush 13, 2) := by decide +kernel
theorem dT_init_32 : decode bT_init 32 = .ok (.newarray .long, 2) := by decide +kernel
theorem dT_init_34 : decode bT_init 34 = .ok (.putfield 22, 3) := by decide +kernel
theorem dT_init_37 : decode bT_init 37 = .ok (.aload_n 0, 1) := by decide +kernel
theorem dT_init_38 : decode bT_init 38 = .ok (.bipush 25, 2) := by decide +kernel
theorem dT_init_40 : decode bT_init 40 = .ok (.newarray .long, 2) := by decide +kernel
theorem dT_init_42 : decode bT_init 42 = .ok (.putfield 25, 3) := by decide +kernel
theorem dT_init_45 : decode bT_init 45 = .ok (.aload_n 0, 1) := by decide +kernel
theorem dT_init_46 : decode bT_init 46 = .ok (.iconst 0, 1) := by decide +kernel
theorem dT_init_47 : decode bT_init 47 = .ok (.putfield 28, 3) := by decide +kernel
theorem dT_init_50 : decode bT_init 50 = .ok (.aload_n 0, 1) := by decide +kernel
theorem dT_init_51 : decode bT_init 51 = .ok (.iconst 0, 1) := by decide +kernel
theorem dT_init_52 : decode bT_init 52 = .ok (.putfield 32, 3) := by decide +kernel
theorem dT_init_55 : decode bT_init 55 = .ok (.aload_n 0, 1) := by decide +kernel
theorem dT_init_56 : decode bT_init 56 = .ok (.lconst 1, 1) := by decide +kernel
theorem dT_init_57 : decode bT_init 57 = .ok (.putfield 35, 3) := by decide +kernel
theorem dT_init_60 : decode bT_init 60 = .ok (.return_, 1) := by decide +kernel
theorem dT_cell_0 : decode bT_cell 0 = .ok (.aload_n 0, 1) := by decide +kernel
theorem dT_cell_1 : decode bT_cell 1 = .ok (.getfield 11, 3) := by decide +kernel
theorem dT_cell_4 : decode bT_cell 4 = .ok (.iload_n 1, 1) := by decide +kernel
theorem dT_cell_5 : decode bT_cell 5 = .ok (.bipush 13, 2) := by decide +kernel
theorem dT_cell_7 : decode bT_cell 7 = .ok (.imul, 1) := by decide +kernel
theorem dT_cell_8 : decode bT_cell 8 = .ok (.iload_n 2, 1) := by decide +kernel
theorem dT_cell_9 : decode bT_cell 9 = .ok (.iadd, 1) := by decide +kernel
theorem dT_cell_10 : decode bT_cell 10 = .ok (.laload, 1) := by decide +kernel
theorem dT_cell_11 : decode bT_cell 11 = .ok (.lreturn, 1) := by decide +kernel
theorem dT_setCell_0 : decode bT_setCell 0 = .ok (.aload_n 0, 1) := by decide +kernel
theorem dT_setCell_1 : decode bT_setCell 1 = .ok (.getfield 11, 3) := by decide +kernel
theorem dT_setCell_4 : decode bT_setCell 4 = .ok (.iload_n 1, 1) := by decide +kernel
theorem dT_setCell_5 : decode bT_setCell 5 = .ok (.bipush 13, 2) := by decide +kernel
theorem dT_setCell_7 : decode bT_setCell 7 = .ok (.imul, 1) := by decide +kernel
theorem dT_setCell_8 : decode bT_setCell 8 = .ok (.iload_n 2, 1) := by decide +kernel
theorem dT_setCell_9 : decode bT_setCell 9 = .ok (.iadd, 1) := by decide +kernel
theorem dT_setCell_10 : decode bT_setCell 10 = .ok (.lload_n 3, 1) := by decide +kernel
theorem dT_setCell_11 : decode bT_setCell 11 = .ok (.lastore, 1) := by decide +kernel
theorem dT_setCell_12 : decode bT_setCell 12 = .ok (.return_, 1) := by decide +kernel
theorem dT_fits_0 : decode bT_fits 0 = .ok (.lload_n 0, 1) := by decide +kernel
theorem dT_fits_1 : decode bT_fits 1 = .ok (.ldc2_w 39, 3) := by decide +kernel
theorem dT_fits_4 : decode bT_fits 4 = .ok (.lcmp, 1) := by decide +kernel
theorem dT_fits_5 : decode bT_fits 5 = .ok (.ifCond .lt 15, 3) := by decide +kernel
theorem dT_fits_8 : decode bT_fits 8 = .ok (.lload_n 0, 1) := by decide +kernel
theorem dT_fits_9 : decode bT_fits 9 = .ok (.ldc2_w 41, 3) := by decide +kernel
theorem dT_fits_12 : decode bT_fits 12 = .ok (.lcmp, 1) := by decide +kernel
theorem dT_fits_13 : decode bT_fits 13 = .ok (.ifCond .gt 7, 3) := by decide +kernel
theorem dT_fits_16 : decode bT_fits 16 = .ok (.iconst 1, 1) := by decide +kernel
theorem dT_fits_17 : decode bT_fits 17 = .ok (.goto 4, 3) := by decide +kernel
theorem dT_fits_20 : decode bT_fits 20 = .ok (.iconst 0, 1) := by decide +kernel
theorem dT_fits_21 : decode bT_fits 21 = .ok (.ireturn, 1) := by decide +kernel
theorem dT_addColumn_0 : decode bT_addColumn 0 = .ok (.aload_n 0, 1) := by decide +kernel
theorem dT_addColumn_1 : decode bT_addColumn 1 = .ok (.getfield 28, 3) := by decide +kernel
theorem dT_addColumn_4 : decode bT_addColumn 4 = .ok (.istore_n 3, 1) := by decide +kernel
theorem dT_addColumn_5 : decode bT_addColumn 5 = .ok (.aload_n 0, 1) := by decide +kernel
theorem dT_addColumn_6 : decode bT_addColumn 6 = .ok (.dup, 1) := by decide +kernel
theorem dT_addColumn_7 : decode bT_addColumn 7 = .ok (.getfield 28, 3) := by decide +kernel
theorem dT_addColumn_10 : decode bT_addColumn 10 = .ok (.iconst 1, 1) := by decide +kernel
theorem dT_addColumn_11 : decode bT_addColumn 11 = .ok (.iadd, 1) := by decide +kernel
theorem dT_addColumn_12 : decode bT_addColumn 12 = .ok (.putfield 28, 3) := by decide +kernel
theorem dT_addColumn_15 : decode bT_addColumn 15 = .ok (.aload_n 0, 1) := by decide +kernel
theorem dT_addColumn_16 : decode bT_addColumn 16 = .ok (.getfield 19, 3) := by decide +kernel
theorem dT_addColumn_19 : decode bT_addColumn 19 = .ok (.aload_n 0, 1) := by decide +kernel
theorem dT_addColumn_20 : decode bT_addColumn 20 = .ok (.getfield 28, 3) := by decide +kernel
theorem dT_addColumn_23 : decode bT_addColumn 23 = .ok (.iload_n 3, 1) := by decide +kernel
theorem dT_addColumn_24 : decode bT_addColumn 24 = .ok (.iastore, 1) := by decide +kernel
theorem dT_addColumn_25 : decode bT_addColumn 25 = .ok (.aload_n 0, 1) := by decide +kernel
theorem dT_addColumn_26 : decode bT_addColumn 26 = .ok (.iconst 0, 1) := by decide +kernel
theorem dT_addColumn_27 : decode bT_addColumn 27 = .ok (.aload_n 0, 1) := by decide +kernel
theorem dT_addColumn_28 : decode bT_addColumn 28 = .ok (.getfield 28, 3) := by decide +kernel
theorem dT_addColumn_31 : decode bT_addColumn 31 = .ok (.lload_n 1, 1) := by decide +kernel
theorem dT_addColumn_32 : decode bT_addColumn 32 = .ok (.invokevirtual 43, 3) := by decide +kernel
theorem dT_addColumn_35 : decode bT_addColumn 35 = .ok (.iload_n 3, 1) := by decide +kernel
theorem dT_addColumn_36 : decode bT_addColumn 36 = .ok (.ireturn, 1) := by decide +kernel
theorem dT_placeInside_0 : decode bT_placeInside 0 = .ok (.iconst 1, 1) := by decide +kernel
theorem dT_placeInside_1 : decode bT_placeInside 1 = .ok (.istore_n 2, 1) := by decide +kernel
theorem dT_placeInside_2 : decode bT_placeInside 2 = .ok (.iload_n 2, 1) := by decide +kernel
theorem dT_placeInside_3 : decode bT_placeInside 3 = .ok (.aload_n 0, 1) := by decide +kernel
theorem dT_placeInside_4 : decode bT_placeInside 4 = .ok (.getfield 32, 3) := by decide +kernel
theorem dT_placeInside_7 : decode bT_placeInside 7 = .ok (.if_icmp .gt 21, 3) := by decide +kernel
theorem dT_placeInside_10 : decode bT_placeInside 10 = .ok (.aload_n 0, 1) := by decide +kernel
theorem dT_placeInside_11 : decode bT_placeInside 11 = .ok (.getfield 15, 3) := by decide +kernel
theorem dT_placeInside_14 : decode bT_placeInside 14 = .ok (.iload_n 2, 1) := by decide +kernel
theorem dT_placeInside_15 : decode bT_placeInside 15 = .ok (.iaload, 1) := by decide +kernel
theorem dT_placeInside_16 : decode bT_placeInside 16 = .ok (.iload_n 1, 1) := by decide +kernel
theorem dT_placeInside_17 : decode bT_placeInside 17 = .ok (.if_icmp .ne 5, 3) := by decide +kernel
theorem dT_placeInside_20 : decode bT_placeInside 20 = .ok (.iload_n 2, 1) := by decide +kernel
theorem dT_placeInside_21 : decode bT_placeInside 21 = .ok (.ireturn, 1) := by decide +kernel
theorem dT_placeInside_22 : decode bT_placeInside 22 = .ok (.iinc 2 1, 3) := by decide +kernel
theorem dT_placeInside_25 : decode bT_placeInside 25 = .ok (.goto (-23), 3) := by decide +kernel
theorem dT_placeInside_28 : decode bT_placeInside 28 = .ok (.iconst (-1), 1) := by decide +kernel
theorem dT_placeInside_29 : decode bT_placeInside 29 = .ok (.ireturn, 1) := by decide +kernel
theorem dT_placeOutside_0 : decode bT_placeOutside 0 = .ok (.iconst 1, 1) := by decide +kernel
theorem dT_placeOutside_1 : decode bT_placeOutside 1 = .ok (.istore_n 2, 1) := by decide +kernel
theorem dT_placeOutside_2 : decode bT_placeOutside 2 = .ok (.iload_n 2, 1) := by decide +kernel
theorem dT_placeOutside_3 : decode bT_placeOutside 3 = .ok (.aload_n 0, 1) := by decide +kernel
theorem dT_placeOutside_4 : decode bT_placeOutside 4 = .ok (.getfield 28, 3) := by decide +kernel
theorem dT_placeOutside_7 : decode bT_placeOutside 7 = .ok (.if_icmp .gt 21, 3) := by decide +kernel
theorem dT_placeOutside_10 : decode bT_placeOutside 10 = .ok (.aload_n 0, 1) := by decide +kernel
theorem dT_placeOutside_11 : decode bT_placeOutside 11 = .ok (.getfield 19, 3) := by decide +kernel
theorem dT_placeOutside_14 : decode bT_placeOutside 14 = .ok (.iload_n 2, 1) := by decide +kernel
theorem dT_placeOutside_15 : decode bT_placeOutside 15 = .ok (.iaload, 1) := by decide +kernel
theorem dT_placeOutside_16 : decode bT_placeOutside 16 = .ok (.iload_n 1, 1) := by decide +kernel
theorem dT_placeOutside_17 : decode bT_placeOutside 17 = .ok (.if_icmp .ne 5, 3) := by decide +kernel
theorem dT_placeOutside_20 : decode bT_placeOutside 20 = .ok (.iload_n 2, 1) := by decide +kernel
theorem dT_placeOutside_21 : decode bT_placeOutside 21 = .ok (.ireturn, 1) := by decide +kernel
theorem dT_placeOutside_22 : decode bT_placeOutside 22 = .ok (.iinc 2 1, 3) := by decide +kernel
theorem dT_placeOutside_25 : decode bT_placeOutside 25 = .ok (.goto (-23), 3) := by decide +kernel
theorem dT_placeOutside_28 : decode bT_placeOutside 28 = .ok (.iconst (-1), 1) := by decide +kernel
theorem dT_placeOutside_29 : decode bT_placeOutside 29 = .ok (.ireturn, 1) := by decide +kernel
theorem dT_startOf_0 : decode bT_startOf 0 = .ok (.aload_n 0, 1) := by decide +kernel
theorem dT_startOf_1 : decode bT_startOf 1 = .ok (.iload_n 1, 1) := by decide +kernel
theorem dT_startOf_2 : decode bT_startOf 2 = .ok (.invokevirtual 47, 3) := by decide +kernel
theorem dT_startOf_5 : decode bT_startOf 5 = .ok (.istore_n 2, 1) := by decide +kernel
theorem dT_startOf_6 : decode bT_startOf 6 = .ok (.iload_n 2, 1) := by decide +kernel
theorem dT_startOf_7 : decode bT_startOf 7 = .ok (.iconst (-1), 1) := by decide +kernel
theorem dT_startOf_8 : decode bT_startOf 8 = .ok (.if_icmp .ne 7, 3) := by decide +kernel
theorem dT_startOf_11 : decode bT_startOf 11 = .ok (.lconst 0, 1) := by decide +kernel
theorem dT_startOf_12 : decode bT_startOf 12 = .ok (.goto 9, 3) := by decide +kernel
theorem dT_startOf_15 : decode bT_startOf 15 = .ok (.aload_n 0, 1) := by decide +kernel
theorem dT_startOf_16 : decode bT_startOf 16 = .ok (.iload_n 2, 1) := by decide +kernel
theorem dT_startOf_17 : decode bT_startOf 17 = .ok (.iconst 0, 1) := by decide +kernel
theorem dT_startOf_18 : decode bT_startOf 18 = .ok (.invokevirtual 51, 3) := by decide +kernel
theorem dT_startOf_21 : decode bT_startOf 21 = .ok (.lreturn, 1) := by decide +kernel
theorem dT_numberBy_0 : decode bT_numberBy 0 = .ok (.aload_n 0, 1) := by decide +kernel
theorem dT_numberBy_1 : decode bT_numberBy 1 = .ok (.iload_n 2, 1) := by decide +kernel
theorem dT_numberBy_2 : decode bT_numberBy 2 = .ok (.invokevirtual 55, 3) := by decide +kernel
theorem dT_numberBy_5 : decode bT_numberBy 5 = .ok (.istore_n 3, 1) := by decide +kernel
theorem dT_numberBy_6 : decode bT_numberBy 6 = .ok (.iload_n 3, 1) := by decide +kernel
theorem dT_numberBy_7 : decode bT_numberBy 7 = .ok (.iconst (-1), 1) := by decide +kernel
theorem dT_numberBy_8 : decode bT_numberBy 8 = .ok (.if_icmp .ne 7, 3) := by decide +kernel
theorem dT_numberBy_11 : decode bT_numberBy 11 = .ok (.lconst 0, 1) := by decide +kernel
theorem dT_numberBy_12 : decode bT_numberBy 12 = .ok (.goto 9, 3) := by decide +kernel
theorem dT_numberBy_15 : decode bT_numberBy 15 = .ok (.aload_n 0, 1) := by decide +kernel
theorem dT_numberBy_16 : decode bT_numberBy 16 = .ok (.iload_n 1, 1) := by decide +kernel
theorem dT_numberBy_17 : decode bT_numberBy 17 = .ok (.iload_n 3, 1) := by decide +kernel
theorem dT_numberBy_18 : decode bT_numberBy 18 = .ok (.invokevirtual 51, 3) := by decide +kernel
theorem dT_numberBy_21 : decode bT_numberBy 21 = .ok (.lreturn, 1) := by decide +kernel
theorem dT_sumOfStarts_0 : decode bT_sumOfStarts 0 = .ok (.lconst 0, 1) := by decide +kernel
theorem dT_sumOfStarts_1 : decode bT_sumOfStarts 1 = .ok (.lstore_n 3, 1) := by decide +kernel
theorem dT_sumOfStarts_2 : decode bT_sumOfStarts 2 = .ok (.iconst 0, 1) := by decide +kernel
theorem dT_sumOfStarts_3 : decode bT_sumOfStarts 3 = .ok (.istore 5, 2) := by decide +kernel
theorem dT_sumOfStarts_5 : decode bT_sumOfStarts 5 = .ok (.iload 5, 2) := by decide +kernel
theorem dT_sumOfStarts_7 : decode bT_sumOfStarts 7 = .ok (.aload_n 0, 1) := by decide +kernel
theorem dT_sumOfStarts_8 : decode bT_sumOfStarts 8 = .ok (.getfield 28, 3) := by decide +kernel
theorem dT_sumOfStarts_11 : decode bT_sumOfStarts 11 = .ok (.if_icmp .ge 26, 3) := by decide +kernel
theorem dT_sumOfStarts_14 : decode bT_sumOfStarts 14 = .ok (.lload_n 3, 1) := by decide +kernel
theorem dT_sumOfStarts_15 : decode bT_sumOfStarts 15 = .ok (.aload_n 1, 1) := by decide +kernel
theorem dT_sumOfStarts_16 : decode bT_sumOfStarts 16 = .ok (.iload_n 2, 1) := by decide +kernel
theorem dT_sumOfStarts_17 : decode bT_sumOfStarts 17 = .ok (.iload 5, 2) := by decide +kernel
theorem dT_sumOfStarts_19 : decode bT_sumOfStarts 19 = .ok (.iadd, 1) := by decide +kernel
theorem dT_sumOfStarts_20 : decode bT_sumOfStarts 20 = .ok (.iaload, 1) := by decide +kernel
theorem dT_sumOfStarts_21 : decode bT_sumOfStarts 21 = .ok (.i2l, 1) := by decide +kernel
theorem dT_sumOfStarts_22 : decode bT_sumOfStarts 22 = .ok (.aload_n 0, 1) := by decide +kernel
theorem dT_sumOfStarts_23 : decode bT_sumOfStarts 23 = .ok (.iload 5, 2) := by decide +kernel
theorem dT_sumOfStarts_25 : decode bT_sumOfStarts 25 = .ok (.invokevirtual 58, 3) := by decide +kernel
theorem dT_sumOfStarts_28 : decode bT_sumOfStarts 28 = .ok (.lmul, 1) := by decide +kernel
theorem dT_sumOfStarts_29 : decode bT_sumOfStarts 29 = .ok (.ladd, 1) := by decide +kernel
theorem dT_sumOfStarts_30 : decode bT_sumOfStarts 30 = .ok (.lstore_n 3, 1) := by decide +kernel
theorem dT_sumOfStarts_31 : decode bT_sumOfStarts 31 = .ok (.iinc 5 1, 3) := by decide +kernel
theorem dT_sumOfStarts_34 : decode bT_sumOfStarts 34 = .ok (.goto (-29), 3) := by decide +kernel
theorem dT_sumOfStarts_37 : decode bT_sumOfStarts 37 = .ok (.lload_n 3, 1) := by decide +kernel
theorem dT_sumOfStarts_38 : decode bT_sumOfStarts 38 = .ok (.lreturn, 1) := by decide +kernel
theorem dT_tell_0 : decode bT_tell 0 = .ok (.aload_n 0, 1) := by decide +kernel
theorem dT_tell_1 : decode bT_tell 1 = .ok (.getfield 22, 3) := by decide +kernel
theorem dT_tell_4 : decode bT_tell 4 = .ok (.lconst 0, 1) := by decide +kernel
theorem dT_tell_5 : decode bT_tell 5 = .ok (.invokestatic 62, 3) := by decide +kernel
theorem dT_tell_8 : decode bT_tell 8 = .ok (.iconst 0, 1) := by decide +kernel
theorem dT_tell_9 : decode bT_tell 9 = .ok (.istore 5, 2) := by decide +kernel
theorem dT_tell_11 : decode bT_tell 11 = .ok (.iload 5, 2) := by decide +kernel
theorem dT_tell_13 : decode bT_tell 13 = .ok (.aload_n 0, 1) := by decide +kernel
theorem dT_tell_14 : decode bT_tell 14 = .ok (.getfield 28, 3) := by decide +kernel
theorem dT_tell_17 : decode bT_tell 17 = .ok (.if_icmp .ge 22, 3) := by decide +kernel
theorem dT_tell_20 : decode bT_tell 20 = .ok (.aload_n 0, 1) := by decide +kernel
theorem dT_tell_21 : decode bT_tell 21 = .ok (.iload 5, 2) := by decide +kernel
theorem dT_tell_23 : decode bT_tell 23 = .ok (.aload_n 1, 1) := by decide +kernel
theorem dT_tell_24 : decode bT_tell 24 = .ok (.iload_n 2, 1) := by decide +kernel
theorem dT_tell_25 : decode bT_tell 25 = .ok (.iload 5, 2) := by decide +kernel
theorem dT_tell_27 : decode bT_tell 27 = .ok (.iadd, 1) := by decide +kernel
theorem dT_tell_28 : decode bT_tell 28 = .ok (.iaload, 1) := by decide +kernel
theorem dT_tell_29 : decode bT_tell 29 = .ok (.i2l, 1) := by decide +kernel
theorem dT_tell_30 : decode bT_tell 30 = .ok (.invokevirtual 68, 3) := by decide +kernel
theorem dT_tell_33 : decode bT_tell 33 = .ok (.iinc 5 1, 3) := by decide +kernel
theorem dT_tell_36 : decode bT_tell 36 = .ok (.goto (-25), 3) := by decide +kernel
theorem dT_tell_39 : decode bT_tell 39 = .ok (.aload_n 0, 1) := by decide +kernel
theorem dT_tell_40 : decode bT_tell 40 = .ok (.getfield 22, 3) := by decide +kernel
theorem dT_tell_43 : decode bT_tell 43 = .ok (.iconst 0, 1) := by decide +kernel
theorem dT_tell_44 : decode bT_tell 44 = .ok (.dup2, 1) := by decide +kernel
theorem dT_tell_45 : decode bT_tell 45 = .ok (.laload, 1) := by decide +kernel
theorem dT_tell_46 : decode bT_tell 46 = .ok (.aload_n 0, 1) := by decide +kernel
theorem dT_tell_47 : decode bT_tell 47 = .ok (.getfield 35, 3) := by decide +kernel
theorem dT_tell_50 : decode bT_tell 50 = .ok (.lload_n 3, 1) := by decide +kernel
theorem dT_tell_51 : decode bT_tell 51 = .ok (.lmul, 1) := by decide +kernel
theorem dT_tell_52 : decode bT_tell 52 = .ok (.lsub, 1) := by decide +kernel
theorem dT_tell_53 : decode bT_tell 53 = .ok (.lastore, 1) := by decide +kernel
theorem dT_tell_54 : decode bT_tell 54 = .ok (.return_, 1) := by decide +kernel
theorem dT_tellColumn_0 : decode bT_tellColumn 0 = .ok (.aload_n 0, 1) := by decide +kernel
theorem dT_tellColumn_1 : decode bT_tellColumn 1 = .ok (.iload_n 1, 1) := by decide +kernel
theorem dT_tellColumn_2 : decode bT_tellColumn 2 = .ok (.invokevirtual 55, 3) := by decide +kernel
theorem dT_tellColumn_5 : decode bT_tellColumn 5 = .ok (.istore 4, 2) := by decide +kernel
theorem dT_tellColumn_7 : decode bT_tellColumn 7 = .ok (.iload 4, 2) := by decide +kernel
theorem dT_tellColumn_9 : decode bT_tellColumn 9 = .ok (.iconst (-1), 1) := by decide +kernel
theorem dT_tellColumn_10 : decode bT_tellColumn 10 = .ok (.if_icmp .eq 20, 3) := by decide +kernel
theorem dT_tellColumn_13 : decode bT_tellColumn 13 = .ok (.aload_n 0, 1) := by decide +kernel
theorem dT_tellColumn_14 : decode bT_tellColumn 14 = .ok (.getfield 22, 3) := by decide +kernel
theorem dT_tellColumn_17 : decode bT_tellColumn 17 = .ok (.iload 4, 2) := by decide +kernel
theorem dT_tellColumn_19 : decode bT_tellColumn 19 = .ok (.dup2, 1) := by decide +kernel
theorem dT_tellColumn_20 : decode bT_tellColumn 20 = .ok (.laload, 1) := by decide +kernel
theorem dT_tellColumn_21 : decode bT_tellColumn 21 = .ok (.lload_n 2, 1) := by decide +kernel
theorem dT_tellColumn_22 : decode bT_tellColumn 22 = .ok (.aload_n 0, 1) := by decide +kernel
theorem dT_tellColumn_23 : decode bT_tellColumn 23 = .ok (.getfield 35, 3) := by decide +kernel
theorem dT_tellColumn_26 : decode bT_tellColumn 26 = .ok (.lmul, 1) := by decide +kernel
theorem dT_tellColumn_27 : decode bT_tellColumn 27 = .ok (.ladd, 1) := by decide +kernel
theorem dT_tellColumn_28 : decode bT_tellColumn 28 = .ok (.lastore, 1) := by decide +kernel
theorem dT_tellColumn_29 : decode bT_tellColumn 29 = .ok (.return_, 1) := by decide +kernel
theorem dT_tellColumn_30 : decode bT_tellColumn 30 = .ok (.aload_n 0, 1) := by decide +kernel
theorem dT_tellColumn_31 : decode bT_tellColumn 31 = .ok (.iload_n 1, 1) := by decide +kernel
theorem dT_tellColumn_32 : decode bT_tellColumn 32 = .ok (.invokevirtual 47, 3) := by decide +kernel
theorem dT_tellColumn_35 : decode bT_tellColumn 35 = .ok (.istore 5, 2) := by decide +kernel
theorem dT_tellColumn_37 : decode bT_tellColumn 37 = .ok (.iconst 0, 1) := by decide +kernel
theorem dT_tellColumn_38 : decode bT_tellColumn 38 = .ok (.istore 6, 2) := by decide +kernel
theorem dT_tellColumn_40 : decode bT_tellColumn 40 = .ok (.iload 5, 2) := by decide +kernel
theorem dT_tellColumn_42 : decode bT_tellColumn 42 = .ok (.iconst (-1), 1) := by decide +kernel
theorem dT_tellColumn_43 : decode bT_tellColumn 43 = .ok (.if_icmp .eq 38, 3) := by decide +kernel
theorem dT_tellColumn_46 : decode bT_tellColumn 46 = .ok (.iload 6, 2) := by decide +kernel
theorem dT_tellColumn_48 : decode bT_tellColumn 48 = .ok (.aload_n 0, 1) := by decide +kernel
theorem dT_tellColumn_49 : decode bT_tellColumn 49 = .ok (.getfield 28, 3) := by decide +kernel
theorem dT_tellColumn_52 : decode bT_tellColumn 52 = .ok (.if_icmp .gt 29, 3) := by decide +kernel
theorem dT_tellColumn_55 : decode bT_tellColumn 55 = .ok (.aload_n 0, 1) := by decide +kernel
theorem dT_tellColumn_56 : decode bT_tellColumn 56 = .ok (.getfield 22, 3) := by decide +kernel
theorem dT_tellColumn_59 : decode bT_tellColumn 59 = .ok (.iload 6, 2) := by decide +kernel
theorem dT_tellColumn_61 : decode bT_tellColumn 61 = .ok (.dup2, 1) := by decide +kernel
theorem dT_tellColumn_62 : decode bT_tellColumn 62 = .ok (.laload, 1) := by decide +kernel
theorem dT_tellColumn_63 : decode bT_tellColumn 63 = .ok (.lload_n 2, 1) := by decide +kernel
theorem dT_tellColumn_64 : decode bT_tellColumn 64 = .ok (.aload_n 0, 1) := by decide +kernel
theorem dT_tellColumn_65 : decode bT_tellColumn 65 = .ok (.iload 5, 2) := by decide +kernel
theorem dT_tellColumn_67 : decode bT_tellColumn 67 = .ok (.iload 6, 2) := by decide +kernel
theorem dT_tellColumn_69 : decode bT_tellColumn 69 = .ok (.invokevirtual 51, 3) := by decide +kernel
theorem dT_tellColumn_72 : decode bT_tellColumn 72 = .ok (.lmul, 1) := by decide +kernel
theorem dT_tellColumn_73 : decode bT_tellColumn 73 = .ok (.ladd, 1) := by decide +kernel
theorem dT_tellColumn_74 : decode bT_tellColumn 74 = .ok (.lastore, 1) := by decide +kernel
theorem dT_tellColumn_75 : decode bT_tellColumn 75 = .ok (.iinc 6 1, 3) := by decide +kernel
theorem dT_tellColumn_78 : decode bT_tellColumn 78 = .ok (.goto (-38), 3) := by decide +kernel
theorem dT_tellColumn_81 : decode bT_tellColumn 81 = .ok (.return_, 1) := by decide +kernel
theorem dT_toldFits_0 : decode bT_toldFits 0 = .ok (.iconst 0, 1) := by decide +kernel
theorem dT_toldFits_1 : decode bT_toldFits 1 = .ok (.istore_n 1, 1) := by decide +kernel
theorem dT_toldFits_2 : decode bT_toldFits 2 = .ok (.iload_n 1, 1) := by decide +kernel
theorem dT_toldFits_3 : decode bT_toldFits 3 = .ok (.aload_n 0, 1) := by decide +kernel
theorem dT_toldFits_4 : decode bT_toldFits 4 = .ok (.getfield 28, 3) := by decide +kernel
theorem dT_toldFits_7 : decode bT_toldFits 7 = .ok (.if_icmp .gt 23, 3) := by decide +kernel
theorem dT_toldFits_10 : decode bT_toldFits 10 = .ok (.aload_n 0, 1) := by decide +kernel
theorem dT_toldFits_11 : decode bT_toldFits 11 = .ok (.getfield 22, 3) := by decide +kernel
theorem dT_toldFits_14 : decode bT_toldFits 14 = .ok (.iload_n 1, 1) := by decide +kernel
theorem dT_toldFits_15 : decode bT_toldFits 15 = .ok (.laload, 1) := by decide +kernel
theorem dT_toldFits_16 : decode bT_toldFits 16 = .ok (.invokestatic 72, 3) := by decide +kernel
theorem dT_toldFits_19 : decode bT_toldFits 19 = .ok (.ifCond .ne 5, 3) := by decide +kernel
theorem dT_toldFits_22 : decode bT_toldFits 22 = .ok (.iconst 0, 1) := by decide +kernel
theorem dT_toldFits_23 : decode bT_toldFits 23 = .ok (.ireturn, 1) := by decide +kernel
theorem dT_toldFits_24 : decode bT_toldFits 24 = .ok (.iinc 1 1, 3) := by decide +kernel
theorem dT_toldFits_27 : decode bT_toldFits 27 = .ok (.goto (-25), 3) := by decide +kernel
theorem dT_toldFits_30 : decode bT_toldFits 30 = .ok (.iconst 1, 1) := by decide +kernel
theorem dT_toldFits_31 : decode bT_toldFits 31 = .ok (.ireturn, 1) := by decide +kernel
theorem dT_bringTold_0 : decode bT_bringTold 0 = .ok (.aload_n 0, 1) := by decide +kernel
theorem dT_bringTold_1 : decode bT_bringTold 1 = .ok (.getfield 32, 3) := by decide +kernel
theorem dT_bringTold_4 : decode bT_bringTold 4 = .ok (.bipush 24, 2) := by decide +kernel
theorem dT_bringTold_6 : decode bT_bringTold 6 = .ok (.if_icmp .lt 4, 3) := by decide +kernel
theorem dT_bringTold_9 : decode bT_bringTold 9 = .ok (.return_, 1) := by decide +kernel
theorem dT_bringTold_10 : decode bT_bringTold 10 = .ok (.aload_n 0, 1) := by decide +kernel
theorem dT_bringTold_11 : decode bT_bringTold 11 = .ok (.getfield 28, 3) := by decide +kernel
theorem dT_bringTold_14 : decode bT_bringTold 14 = .ok (.aload_n 0, 1) := by decide +kernel
theorem dT_bringTold_15 : decode bT_bringTold 15 = .ok (.getfield 32, 3) := by decide +kernel
theorem dT_bringTold_18 : decode bT_bringTold 18 = .ok (.iadd, 1) := by decide +kernel
theorem dT_bringTold_19 : decode bT_bringTold 19 = .ok (.istore_n 2, 1) := by decide +kernel
theorem dT_bringTold_20 : decode bT_bringTold 20 = .ok (.aload_n 0, 1) := by decide +kernel
theorem dT_bringTold_21 : decode bT_bringTold 21 = .ok (.dup, 1) := by decide +kernel
theorem dT_bringTold_22 : decode bT_bringTold 22 = .ok (.getfield 32, 3) := by decide +kernel
theorem dT_bringTold_25 : decode bT_bringTold 25 = .ok (.iconst 1, 1) := by decide +kernel
theorem dT_bringTold_26 : decode bT_bringTold 26 = .ok (.iadd, 1) := by decide +kernel
theorem dT_bringTold_27 : decode bT_bringTold 27 = .ok (.putfield 32, 3) := by decide +kernel
theorem dT_bringTold_30 : decode bT_bringTold 30 = .ok (.aload_n 0, 1) := by decide +kernel
theorem dT_bringTold_31 : decode bT_bringTold 31 = .ok (.getfield 15, 3) := by decide +kernel
theorem dT_bringTold_34 : decode bT_bringTold 34 = .ok (.aload_n 0, 1) := by decide +kernel
theorem dT_bringTold_35 : decode bT_bringTold 35 = .ok (.getfield 32, 3) := by decide +kernel
theorem dT_bringTold_38 : decode bT_bringTold 38 = .ok (.iload_n 2, 1) := by decide +kernel
theorem dT_bringTold_39 : decode bT_bringTold 39 = .ok (.iastore, 1) := by decide +kernel
theorem dT_bringTold_40 : decode bT_bringTold 40 = .ok (.iconst 0, 1) := by decide +kernel
theorem dT_bringTold_41 : decode bT_bringTold 41 = .ok (.istore_n 3, 1) := by decide +kernel
theorem dT_bringTold_42 : decode bT_bringTold 42 = .ok (.iload_n 3, 1) := by decide +kernel
theorem dT_bringTold_43 : decode bT_bringTold 43 = .ok (.aload_n 0, 1) := by decide +kernel
theorem dT_bringTold_44 : decode bT_bringTold 44 = .ok (.getfield 28, 3) := by decide +kernel
theorem dT_bringTold_47 : decode bT_bringTold 47 = .ok (.if_icmp .gt 27, 3) := by decide +kernel
theorem dT_bringTold_50 : decode bT_bringTold 50 = .ok (.aload_n 0, 1) := by decide +kernel
theorem dT_bringTold_51 : decode bT_bringTold 51 = .ok (.aload_n 0, 1) := by decide +kernel
theorem dT_bringTold_52 : decode bT_bringTold 52 = .ok (.getfield 32, 3) := by decide +kernel
theorem dT_bringTold_55 : decode bT_bringTold 55 = .ok (.iload_n 3, 1) := by decide +kernel
theorem dT_bringTold_56 : decode bT_bringTold 56 = .ok (.iload_n 1, 1) := by decide +kernel
theorem dT_bringTold_57 : decode bT_bringTold 57 = .ok (.i2l, 1) := by decide +kernel
theorem dT_bringTold_58 : decode bT_bringTold 58 = .ok (.aload_n 0, 1) := by decide +kernel
theorem dT_bringTold_59 : decode bT_bringTold 59 = .ok (.getfield 22, 3) := by decide +kernel
theorem dT_bringTold_62 : decode bT_bringTold 62 = .ok (.iload_n 3, 1) := by decide +kernel
theorem dT_bringTold_63 : decode bT_bringTold 63 = .ok (.laload, 1) := by decide +kernel
theorem dT_bringTold_64 : decode bT_bringTold 64 = .ok (.lmul, 1) := by decide +kernel
theorem dT_bringTold_65 : decode bT_bringTold 65 = .ok (.invokevirtual 43, 3) := by decide +kernel
theorem dT_bringTold_68 : decode bT_bringTold 68 = .ok (.iinc 3 1, 3) := by decide +kernel
theorem dT_bringTold_71 : decode bT_bringTold 71 = .ok (.goto (-29), 3) := by decide +kernel
theorem dT_bringTold_74 : decode bT_bringTold 74 = .ok (.return_, 1) := by decide +kernel
theorem dT_leavingPlace_0 : decode bT_leavingPlace 0 = .ok (.iconst (-1), 1) := by decide +kernel
theorem dT_leavingPlace_1 : decode bT_leavingPlace 1 = .ok (.istore_n 1, 1) := by decide +kernel
theorem dT_leavingPlace_2 : decode bT_leavingPlace 2 = .ok (.iconst 1, 1) := by decide +kernel
theorem dT_leavingPlace_3 : decode bT_leavingPlace 3 = .ok (.istore_n 2, 1) := by decide +kernel
theorem dT_leavingPlace_4 : decode bT_leavingPlace 4 = .ok (.iload_n 2, 1) := by decide +kernel
theorem dT_leavingPlace_5 : decode bT_leavingPlace 5 = .ok (.aload_n 0, 1) := by decide +kernel
theorem dT_leavingPlace_6 : decode bT_leavingPlace 6 = .ok (.getfield 32, 3) := by decide +kernel
theorem dT_leavingPlace_9 : decode bT_leavingPlace 9 = .ok (.if_icmp .gt 42, 3) := by decide +kernel
theorem dT_leavingPlace_12 : decode bT_leavingPlace 12 = .ok (.aload_n 0, 1) := by decide +kernel
theorem dT_leavingPlace_13 : decode bT_leavingPlace 13 = .ok (.iload_n 2, 1) := by decide +kernel
theorem dT_leavingPlace_14 : decode bT_leavingPlace 14 = .ok (.iconst 0, 1) := by decide +kernel
theorem dT_leavingPlace_15 : decode bT_leavingPlace 15 = .ok (.invokevirtual 51, 3) := by decide +kernel
theorem dT_leavingPlace_18 : decode bT_leavingPlace 18 = .ok (.lconst 0, 1) := by decide +kernel
theorem dT_leavingPlace_19 : decode bT_leavingPlace 19 = .ok (.lcmp, 1) := by decide +kernel
theorem dT_leavingPlace_20 : decode bT_leavingPlace 20 = .ok (.ifCond .ge 25, 3) := by decide +kernel
theorem dT_leavingPlace_23 : decode bT_leavingPlace 23 = .ok (.iload_n 1, 1) := by decide +kernel
theorem dT_leavingPlace_24 : decode bT_leavingPlace 24 = .ok (.iconst (-1), 1) := by decide +kernel
theorem dT_leavingPlace_25 : decode bT_leavingPlace 25 = .ok (.if_icmp .eq 18, 3) := by decide +kernel
theorem dT_leavingPlace_28 : decode bT_leavingPlace 28 = .ok (.aload_n 0, 1) := by decide +kernel
theorem dT_leavingPlace_29 : decode bT_leavingPlace 29 = .ok (.getfield 15, 3) := by decide +kernel
theorem dT_leavingPlace_32 : decode bT_leavingPlace 32 = .ok (.iload_n 2, 1) := by decide +kernel
theorem dT_leavingPlace_33 : decode bT_leavingPlace 33 = .ok (.iaload, 1) := by decide +kernel
theorem dT_leavingPlace_34 : decode bT_leavingPlace 34 = .ok (.aload_n 0, 1) := by decide +kernel
theorem dT_leavingPlace_35 : decode bT_leavingPlace 35 = .ok (.getfield 15, 3) := by decide +kernel
theorem dT_leavingPlace_38 : decode bT_leavingPlace 38 = .ok (.iload_n 1, 1) := by decide +kernel
theorem dT_leavingPlace_39 : decode bT_leavingPlace 39 = .ok (.iaload, 1) := by decide +kernel
theorem dT_leavingPlace_40 : decode bT_leavingPlace 40 = .ok (.if_icmp .ge 5, 3) := by decide +kernel
theorem dT_leavingPlace_43 : decode bT_leavingPlace 43 = .ok (.iload_n 2, 1) := by decide +kernel
theorem dT_leavingPlace_44 : decode bT_leavingPlace 44 = .ok (.istore_n 1, 1) := by decide +kernel
theorem dT_leavingPlace_45 : decode bT_leavingPlace 45 = .ok (.iinc 2 1, 3) := by decide +kernel
theorem dT_leavingPlace_48 : decode bT_leavingPlace 48 = .ok (.goto (-44), 3) := by decide +kernel
theorem dT_leavingPlace_51 : decode bT_leavingPlace 51 = .ok (.iload_n 1, 1) := by decide +kernel
theorem dT_leavingPlace_52 : decode bT_leavingPlace 52 = .ok (.ireturn, 1) := by decide +kernel
theorem dT_enteringPlace_0 : decode bT_enteringPlace 0 = .ok (.iconst (-1), 1) := by decide +kernel
theorem dT_enteringPlace_1 : decode bT_enteringPlace 1 = .ok (.istore_n 2, 1) := by decide +kernel
theorem dT_enteringPlace_2 : decode bT_enteringPlace 2 = .ok (.iconst 1, 1) := by decide +kernel
theorem dT_enteringPlace_3 : decode bT_enteringPlace 3 = .ok (.istore_n 3, 1) := by decide +kernel
theorem dT_enteringPlace_4 : decode bT_enteringPlace 4 = .ok (.iload_n 3, 1) := by decide +kernel
theorem dT_enteringPlace_5 : decode bT_enteringPlace 5 = .ok (.aload_n 0, 1) := by decide +kernel
theorem dT_enteringPlace_6 : decode bT_enteringPlace 6 = .ok (.getfield 28, 3) := by decide +kernel
theorem dT_enteringPlace_9 : decode bT_enteringPlace 9 = .ok (.if_icmp .gt 37, 3) := by decide +kernel
theorem dT_enteringPlace_12 : decode bT_enteringPlace 12 = .ok (.aload_n 0, 1) := by decide +kernel
theorem dT_enteringPlace_13 : decode bT_enteringPlace 13 = .ok (.iload_n 1, 1) := by decide +kernel
theorem dT_enteringPlace_14 : decode bT_enteringPlace 14 = .ok (.iload_n 3, 1) := by decide +kernel
theorem dT_enteringPlace_15 : decode bT_enteringPlace 15 = .ok (.invokevirtual 51, 3) := by decide +kernel
theorem dT_enteringPlace_18 : decode bT_enteringPlace 18 = .ok (.lconst 0, 1) := by decide +kernel
theorem dT_enteringPlace_19 : decode bT_enteringPlace 19 = .ok (.lcmp, 1) := by decide +kernel
theorem dT_enteringPlace_20 : decode bT_enteringPlace 20 = .ok (.ifCond .le 20, 3) := by decide +kernel
theorem dT_enteringPlace_23 : decode bT_enteringPlace 23 = .ok (.iload_n 2, 1) := by decide +kernel
theorem dT_enteringPlace_24 : decode bT_enteringPlace 24 = .ok (.iconst (-1), 1) := by decide +kernel
theorem dT_enteringPlace_25 : decode bT_enteringPlace 25 = .ok (.if_icmp .eq 13, 3) := by decide +kernel
theorem dT_enteringPlace_28 : decode bT_enteringPlace 28 = .ok (.aload_n 0, 1) := by decide +kernel
theorem dT_enteringPlace_29 : decode bT_enteringPlace 29 = .ok (.iload_n 1, 1) := by decide +kernel
theorem dT_enteringPlace_30 : decode bT_enteringPlace 30 = .ok (.iload_n 3, 1) := by decide +kernel
theorem dT_enteringPlace_31 : decode bT_enteringPlace 31 = .ok (.iload_n 2, 1) := by decide +kernel
theorem dT_enteringPlace_32 : decode bT_enteringPlace 32 = .ok (.invokevirtual 76, 3) := by decide +kernel
theorem dT_enteringPlace_35 : decode bT_enteringPlace 35 = .ok (.ifCond .eq 5, 3) := by decide +kernel
theorem dT_enteringPlace_38 : decode bT_enteringPlace 38 = .ok (.iload_n 3, 1) := by decide +kernel
theorem dT_enteringPlace_39 : decode bT_enteringPlace 39 = .ok (.istore_n 2, 1) := by decide +kernel
theorem dT_enteringPlace_40 : decode bT_enteringPlace 40 = .ok (.iinc 3 1, 3) := by decide +kernel
theorem dT_enteringPlace_43 : decode bT_enteringPlace 43 = .ok (.goto (-39), 3) := by decide +kernel
theorem dT_enteringPlace_46 : decode bT_enteringPlace 46 = .ok (.iload_n 2, 1) := by decide +kernel
theorem dT_enteringPlace_47 : decode bT_enteringPlace 47 = .ok (.ireturn, 1) := by decide +kernel
theorem dT_entersBefore_0 : decode bT_entersBefore 0 = .ok (.aload_n 0, 1) := by decide +kernel
theorem dT_entersBefore_1 : decode bT_entersBefore 1 = .ok (.iconst 0, 1) := by decide +kernel
theorem dT_entersBefore_2 : decode bT_entersBefore 2 = .ok (.iload_n 2, 1) := by decide +kernel
theorem dT_entersBefore_3 : decode bT_entersBefore 3 = .ok (.invokevirtual 51, 3) := by decide +kernel
theorem dT_entersBefore_6 : decode bT_entersBefore 6 = .ok (.aload_n 0, 1) := by decide +kernel
theorem dT_entersBefore_7 : decode bT_entersBefore 7 = .ok (.iload_n 1, 1) := by decide +kernel
theorem dT_entersBefore_8 : decode bT_entersBefore 8 = .ok (.iload_n 3, 1) := by decide +kernel
theorem dT_entersBefore_9 : decode bT_entersBefore 9 = .ok (.invokevirtual 51, 3) := by decide +kernel
theorem dT_entersBefore_12 : decode bT_entersBefore 12 = .ok (.lmul, 1) := by decide +kernel
theorem dT_entersBefore_13 : decode bT_entersBefore 13 = .ok (.lstore 4, 2) := by decide +kernel
theorem dT_entersBefore_15 : decode bT_entersBefore 15 = .ok (.aload_n 0, 1) := by decide +kernel
theorem dT_entersBefore_16 : decode bT_entersBefore 16 = .ok (.iconst 0, 1) := by decide +kernel
theorem dT_entersBefore_17 : decode bT_entersBefore 17 = .ok (.iload_n 3, 1) := by decide +kernel
theorem dT_entersBefore_18 : decode bT_entersBefore 18 = .ok (.invokevirtual 51, 3) := by decide +kernel
theorem dT_entersBefore_21 : decode bT_entersBefore 21 = .ok (.aload_n 0, 1) := by decide +kernel
theorem dT_entersBefore_22 : decode bT_entersBefore 22 = .ok (.iload_n 1, 1) := by decide +kernel
theorem dT_entersBefore_23 : decode bT_entersBefore 23 = .ok (.iload_n 2, 1) := by decide +kernel
theorem dT_entersBefore_24 : decode bT_entersBefore 24 = .ok (.invokevirtual 51, 3) := by decide +kernel
theorem dT_entersBefore_27 : decode bT_entersBefore 27 = .ok (.lmul, 1) := by decide +kernel
theorem dT_entersBefore_28 : decode bT_entersBefore 28 = .ok (.lstore 6, 2) := by decide +kernel
theorem dT_entersBefore_30 : decode bT_entersBefore 30 = .ok (.lload 4, 2) := by decide +kernel
theorem dT_entersBefore_32 : decode bT_entersBefore 32 = .ok (.lload 6, 2) := by decide +kernel
theorem dT_entersBefore_34 : decode bT_entersBefore 34 = .ok (.lcmp, 1) := by decide +kernel
theorem dT_entersBefore_35 : decode bT_entersBefore 35 = .ok (.ifCond .lt 26, 3) := by decide +kernel
theorem dT_entersBefore_38 : decode bT_entersBefore 38 = .ok (.lload 4, 2) := by decide +kernel
theorem dT_entersBefore_40 : decode bT_entersBefore 40 = .ok (.lload 6, 2) := by decide +kernel
theorem dT_entersBefore_42 : decode bT_entersBefore 42 = .ok (.lcmp, 1) := by decide +kernel
theorem dT_entersBefore_43 : decode bT_entersBefore 43 = .ok (.ifCond .ne 22, 3) := by decide +kernel
theorem dT_entersBefore_46 : decode bT_entersBefore 46 = .ok (.aload_n 0, 1) := by decide +kernel
theorem dT_entersBefore_47 : decode bT_entersBefore 47 = .ok (.getfield 19, 3) := by decide +kernel
theorem dT_entersBefore_50 : decode bT_entersBefore 50 = .ok (.iload_n 2, 1) := by decide +kernel
theorem dT_entersBefore_51 : decode bT_entersBefore 51 = .ok (.iaload, 1) := by decide +kernel
theorem dT_entersBefore_52 : decode bT_entersBefore 52 = .ok (.aload_n 0, 1) := by decide +kernel
theorem dT_entersBefore_53 : decode bT_entersBefore 53 = .ok (.getfield 19, 3) := by decide +kernel
theorem dT_entersBefore_56 : decode bT_entersBefore 56 = .ok (.iload_n 3, 1) := by decide +kernel
theorem dT_entersBefore_57 : decode bT_entersBefore 57 = .ok (.iaload, 1) := by decide +kernel
theorem dT_entersBefore_58 : decode bT_entersBefore 58 = .ok (.if_icmp .ge 7, 3) := by decide +kernel
theorem dT_entersBefore_61 : decode bT_entersBefore 61 = .ok (.iconst 1, 1) := by decide +kernel
theorem dT_entersBefore_62 : decode bT_entersBefore 62 = .ok (.goto 4, 3) := by decide +kernel
theorem dT_entersBefore_65 : decode bT_entersBefore 65 = .ok (.iconst 0, 1) := by decide +kernel
theorem dT_entersBefore_66 : decode bT_entersBefore 66 = .ok (.ireturn, 1) := by decide +kernel
theorem dT_afterStep_0 : decode bT_afterStep 0 = .ok (.aload_n 0, 1) := by decide +kernel
theorem dT_afterStep_1 : decode bT_afterStep 1 = .ok (.getfield 35, 3) := by decide +kernel
theorem dT_afterStep_4 : decode bT_afterStep 4 = .ok (.lconst 0, 1) := by decide +kernel
theorem dT_afterStep_5 : decode bT_afterStep 5 = .ok (.lcmp, 1) := by decide +kernel
theorem dT_afterStep_6 : decode bT_afterStep 6 = .ok (.ifCond .ne 7, 3) := by decide +kernel
theorem dT_afterStep_9 : decode bT_afterStep 9 = .ok (.lconst 0, 1) := by decide +kernel
theorem dT_afterStep_10 : decode bT_afterStep 10 = .ok (.goto 17, 3) := by decide +kernel
theorem dT_afterStep_13 : decode bT_afterStep 13 = .ok (.lload_n 1, 1) := by decide +kernel
theorem dT_afterStep_14 : decode bT_afterStep 14 = .ok (.lload_n 3, 1) := by decide +kernel
theorem dT_afterStep_15 : decode bT_afterStep 15 = .ok (.lmul, 1) := by decide +kernel
theorem dT_afterStep_16 : decode bT_afterStep 16 = .ok (.lload 5, 2) := by decide +kernel
theorem dT_afterStep_18 : decode bT_afterStep 18 = .ok (.lload 7, 2) := by decide +kernel
theorem dT_afterStep_20 : decode bT_afterStep 20 = .ok (.lmul, 1) := by decide +kernel
theorem dT_afterStep_21 : decode bT_afterStep 21 = .ok (.lsub, 1) := by decide +kernel
theorem dT_afterStep_22 : decode bT_afterStep 22 = .ok (.aload_n 0, 1) := by decide +kernel
theorem dT_afterStep_23 : decode bT_afterStep 23 = .ok (.getfield 35, 3) := by decide +kernel
theorem dT_afterStep_26 : decode bT_afterStep 26 = .ok (.ldiv, 1) := by decide +kernel
theorem dT_afterStep_27 : decode bT_afterStep 27 = .ok (.lreturn, 1) := by decide +kernel
theorem dT_stepFits_0 : decode bT_stepFits 0 = .ok (.iconst 0, 1) := by decide +kernel
theorem dT_stepFits_1 : decode bT_stepFits 1 = .ok (.istore_n 3, 1) := by decide +kernel
theorem dT_stepFits_2 : decode bT_stepFits 2 = .ok (.iload_n 3, 1) := by decide +kernel
theorem dT_stepFits_3 : decode bT_stepFits 3 = .ok (.aload_n 0, 1) := by decide +kernel
theorem dT_stepFits_4 : decode bT_stepFits 4 = .ok (.getfield 32, 3) := by decide +kernel
theorem dT_stepFits_7 : decode bT_stepFits 7 = .ok (.if_icmp .gt 26, 3) := by decide +kernel
theorem dT_stepFits_10 : decode bT_stepFits 10 = .ok (.iload_n 3, 1) := by decide +kernel
theorem dT_stepFits_11 : decode bT_stepFits 11 = .ok (.iload_n 1, 1) := by decide +kernel
theorem dT_stepFits_12 : decode bT_stepFits 12 = .ok (.if_icmp .eq 15, 3) := by decide +kernel
theorem dT_stepFits_15 : decode bT_stepFits 15 = .ok (.aload_n 0, 1) := by decide +kernel
theorem dT_stepFits_16 : decode bT_stepFits 16 = .ok (.iload_n 3, 1) := by decide +kernel
theorem dT_stepFits_17 : decode bT_stepFits 17 = .ok (.iload_n 1, 1) := by decide +kernel
theorem dT_stepFits_18 : decode bT_stepFits 18 = .ok (.iload_n 2, 1) := by decide +kernel
theorem dT_stepFits_19 : decode bT_stepFits 19 = .ok (.invokevirtual 80, 3) := by decide +kernel
theorem dT_stepFits_22 : decode bT_stepFits 22 = .ok (.ifCond .ne 5, 3) := by decide +kernel
theorem dT_stepFits_25 : decode bT_stepFits 25 = .ok (.iconst 0, 1) := by decide +kernel
theorem dT_stepFits_26 : decode bT_stepFits 26 = .ok (.ireturn, 1) := by decide +kernel
theorem dT_stepFits_27 : decode bT_stepFits 27 = .ok (.iinc 3 1, 3) := by decide +kernel
theorem dT_stepFits_30 : decode bT_stepFits 30 = .ok (.goto (-28), 3) := by decide +kernel
theorem dT_stepFits_33 : decode bT_stepFits 33 = .ok (.iconst 1, 1) := by decide +kernel
theorem dT_stepFits_34 : decode bT_stepFits 34 = .ok (.ireturn, 1) := by decide +kernel
theorem dT_otherFits_0 : decode bT_otherFits 0 = .ok (.aload_n 0, 1) := by decide +kernel
theorem dT_otherFits_1 : decode bT_otherFits 1 = .ok (.iload_n 2, 1) := by decide +kernel
theorem dT_otherFits_2 : decode bT_otherFits 2 = .ok (.iload_n 3, 1) := by decide +kernel
theorem dT_otherFits_3 : decode bT_otherFits 3 = .ok (.invokevirtual 51, 3) := by decide +kernel
theorem dT_otherFits_6 : decode bT_otherFits 6 = .ok (.lstore 4, 2) := by decide +kernel
theorem dT_otherFits_8 : decode bT_otherFits 8 = .ok (.aload_n 0, 1) := by decide +kernel
theorem dT_otherFits_9 : decode bT_otherFits 9 = .ok (.iload_n 1, 1) := by decide +kernel
theorem dT_otherFits_10 : decode bT_otherFits 10 = .ok (.iload_n 3, 1) := by decide +kernel
theorem dT_otherFits_11 : decode bT_otherFits 11 = .ok (.invokevirtual 51, 3) := by decide +kernel
theorem dT_otherFits_14 : decode bT_otherFits 14 = .ok (.lstore 6, 2) := by decide +kernel
theorem dT_otherFits_16 : decode bT_otherFits 16 = .ok (.iconst 0, 1) := by decide +kernel
theorem dT_otherFits_17 : decode bT_otherFits 17 = .ok (.istore 8, 2) := by decide +kernel
theorem dT_otherFits_19 : decode bT_otherFits 19 = .ok (.iload 8, 2) := by decide +kernel
theorem dT_otherFits_21 : decode bT_otherFits 21 = .ok (.aload_n 0, 1) := by decide +kernel
theorem dT_otherFits_22 : decode bT_otherFits 22 = .ok (.getfield 28, 3) := by decide +kernel
theorem dT_otherFits_25 : decode bT_otherFits 25 = .ok (.if_icmp .gt 45, 3) := by decide +kernel
theorem dT_otherFits_28 : decode bT_otherFits 28 = .ok (.iload 8, 2) := by decide +kernel
theorem dT_otherFits_30 : decode bT_otherFits 30 = .ok (.iload_n 3, 1) := by decide +kernel
theorem dT_otherFits_31 : decode bT_otherFits 31 = .ok (.if_icmp .eq 33, 3) := by decide +kernel
theorem dT_otherFits_34 : decode bT_otherFits 34 = .ok (.aload_n 0, 1) := by decide +kernel
theorem dT_otherFits_35 : decode bT_otherFits 35 = .ok (.aload_n 0, 1) := by decide +kernel
theorem dT_otherFits_36 : decode bT_otherFits 36 = .ok (.iload_n 1, 1) := by decide +kernel
theorem dT_otherFits_37 : decode bT_otherFits 37 = .ok (.iload 8, 2) := by decide +kernel
theorem dT_otherFits_39 : decode bT_otherFits 39 = .ok (.invokevirtual 51, 3) := by decide +kernel
theorem dT_otherFits_42 : decode bT_otherFits 42 = .ok (.lload 4, 2) := by decide +kernel
theorem dT_otherFits_44 : decode bT_otherFits 44 = .ok (.lload 6, 2) := by decide +kernel
theorem dT_otherFits_46 : decode bT_otherFits 46 = .ok (.aload_n 0, 1) := by decide +kernel
theorem dT_otherFits_47 : decode bT_otherFits 47 = .ok (.iload_n 2, 1) := by decide +kernel
theorem dT_otherFits_48 : decode bT_otherFits 48 = .ok (.iload 8, 2) := by decide +kernel
theorem dT_otherFits_50 : decode bT_otherFits 50 = .ok (.invokevirtual 51, 3) := by decide +kernel
theorem dT_otherFits_53 : decode bT_otherFits 53 = .ok (.invokevirtual 83, 3) := by decide +kernel
theorem dT_otherFits_56 : decode bT_otherFits 56 = .ok (.invokestatic 72, 3) := by decide +kernel
theorem dT_otherFits_59 : decode bT_otherFits 59 = .ok (.ifCond .ne 5, 3) := by decide +kernel
theorem dT_otherFits_62 : decode bT_otherFits 62 = .ok (.iconst 0, 1) := by decide +kernel
theorem dT_otherFits_63 : decode bT_otherFits 63 = .ok (.ireturn, 1) := by decide +kernel
theorem dT_otherFits_64 : decode bT_otherFits 64 = .ok (.iinc 8 1, 3) := by decide +kernel
theorem dT_otherFits_67 : decode bT_otherFits 67 = .ok (.goto (-48), 3) := by decide +kernel
theorem dT_otherFits_70 : decode bT_otherFits 70 = .ok (.iconst 1, 1) := by decide +kernel
theorem dT_otherFits_71 : decode bT_otherFits 71 = .ok (.ireturn, 1) := by decide +kernel
theorem dT_change_0 : decode bT_change 0 = .ok (.aload_n 0, 1) := by decide +kernel
theorem dT_change_1 : decode bT_change 1 = .ok (.iload_n 1, 1) := by decide +kernel
theorem dT_change_2 : decode bT_change 2 = .ok (.iload_n 2, 1) := by decide +kernel
theorem dT_change_3 : decode bT_change 3 = .ok (.invokevirtual 51, 3) := by decide +kernel
theorem dT_change_6 : decode bT_change 6 = .ok (.lstore_n 3, 1) := by decide +kernel
theorem dT_change_7 : decode bT_change 7 = .ok (.iconst 0, 1) := by decide +kernel
theorem dT_change_8 : decode bT_change 8 = .ok (.istore 5, 2) := by decide +kernel
theorem dT_change_10 : decode bT_change 10 = .ok (.iload 5, 2) := by decide +kernel
theorem dT_change_12 : decode bT_change 12 = .ok (.aload_n 0, 1) := by decide +kernel
theorem dT_change_13 : decode bT_change 13 = .ok (.getfield 32, 3) := by decide +kernel
theorem dT_change_16 : decode bT_change 16 = .ok (.if_icmp .gt 23, 3) := by decide +kernel
theorem dT_change_19 : decode bT_change 19 = .ok (.iload 5, 2) := by decide +kernel
theorem dT_change_21 : decode bT_change 21 = .ok (.iload_n 1, 1) := by decide +kernel
theorem dT_change_22 : decode bT_change 22 = .ok (.if_icmp .eq 11, 3) := by decide +kernel
theorem dT_change_25 : decode bT_change 25 = .ok (.aload_n 0, 1) := by decide +kernel
theorem dT_change_26 : decode bT_change 26 = .ok (.iload 5, 2) := by decide +kernel
theorem dT_change_28 : decode bT_change 28 = .ok (.iload_n 1, 1) := by decide +kernel
theorem dT_change_29 : decode bT_change 29 = .ok (.iload_n 2, 1) := by decide +kernel
theorem dT_change_30 : decode bT_change 30 = .ok (.invokevirtual 87, 3) := by decide +kernel
theorem dT_change_33 : decode bT_change 33 = .ok (.iinc 5 1, 3) := by decide +kernel
theorem dT_change_36 : decode bT_change 36 = .ok (.goto (-26), 3) := by decide +kernel
theorem dT_change_39 : decode bT_change 39 = .ok (.aload_n 0, 1) := by decide +kernel
theorem dT_change_40 : decode bT_change 40 = .ok (.iload_n 1, 1) := by decide +kernel
theorem dT_change_41 : decode bT_change 41 = .ok (.iload_n 2, 1) := by decide +kernel
theorem dT_change_42 : decode bT_change 42 = .ok (.invokevirtual 91, 3) := by decide +kernel
theorem dT_change_45 : decode bT_change 45 = .ok (.aload_n 0, 1) := by decide +kernel
theorem dT_change_46 : decode bT_change 46 = .ok (.getfield 15, 3) := by decide +kernel
theorem dT_change_49 : decode bT_change 49 = .ok (.iload_n 1, 1) := by decide +kernel
theorem dT_change_50 : decode bT_change 50 = .ok (.iaload, 1) := by decide +kernel
theorem dT_change_51 : decode bT_change 51 = .ok (.istore 5, 2) := by decide +kernel
theorem dT_change_53 : decode bT_change 53 = .ok (.aload_n 0, 1) := by decide +kernel
theorem dT_change_54 : decode bT_change 54 = .ok (.getfield 15, 3) := by decide +kernel
theorem dT_change_57 : decode bT_change 57 = .ok (.iload_n 1, 1) := by decide +kernel
theorem dT_change_58 : decode bT_change 58 = .ok (.aload_n 0, 1) := by decide +kernel
theorem dT_change_59 : decode bT_change 59 = .ok (.getfield 19, 3) := by decide +kernel
theorem dT_change_62 : decode bT_change 62 = .ok (.iload_n 2, 1) := by decide +kernel
theorem dT_change_63 : decode bT_change 63 = .ok (.iaload, 1) := by decide +kernel
theorem dT_change_64 : decode bT_change 64 = .ok (.iastore, 1) := by decide +kernel
theorem dT_change_65 : decode bT_change 65 = .ok (.aload_n 0, 1) := by decide +kernel
theorem dT_change_66 : decode bT_change 66 = .ok (.getfield 19, 3) := by decide +kernel
theorem dT_change_69 : decode bT_change 69 = .ok (.iload_n 2, 1) := by decide +kernel
theorem dT_change_70 : decode bT_change 70 = .ok (.iload 5, 2) := by decide +kernel
theorem dT_change_72 : decode bT_change 72 = .ok (.iastore, 1) := by decide +kernel
theorem dT_change_73 : decode bT_change 73 = .ok (.aload_n 0, 1) := by decide +kernel
theorem dT_change_74 : decode bT_change 74 = .ok (.lload_n 3, 1) := by decide +kernel
theorem dT_change_75 : decode bT_change 75 = .ok (.putfield 35, 3) := by decide +kernel
theorem dT_change_78 : decode bT_change 78 = .ok (.return_, 1) := by decide +kernel
theorem dT_changeOther_0 : decode bT_changeOther 0 = .ok (.aload_n 0, 1) := by decide +kernel
theorem dT_changeOther_1 : decode bT_changeOther 1 = .ok (.iload_n 2, 1) := by decide +kernel
theorem dT_changeOther_2 : decode bT_changeOther 2 = .ok (.iload_n 3, 1) := by decide +kernel
theorem dT_changeOther_3 : decode bT_changeOther 3 = .ok (.invokevirtual 51, 3) := by decide +kernel
theorem dT_changeOther_6 : decode bT_changeOther 6 = .ok (.lstore 4, 2) := by decide +kernel
theorem dT_changeOther_8 : decode bT_changeOther 8 = .ok (.aload_n 0, 1) := by decide +kernel
theorem dT_changeOther_9 : decode bT_changeOther 9 = .ok (.iload_n 1, 1) := by decide +kernel
theorem dT_changeOther_10 : decode bT_changeOther 10 = .ok (.iload_n 3, 1) := by decide +kernel
theorem dT_changeOther_11 : decode bT_changeOther 11 = .ok (.invokevirtual 51, 3) := by decide +kernel
theorem dT_changeOther_14 : decode bT_changeOther 14 = .ok (.lstore 6, 2) := by decide +kernel
theorem dT_changeOther_16 : decode bT_changeOther 16 = .ok (.iconst 0, 1) := by decide +kernel
theorem dT_changeOther_17 : decode bT_changeOther 17 = .ok (.istore 8, 2) := by decide +kernel
theorem dT_changeOther_19 : decode bT_changeOther 19 = .ok (.iload 8, 2) := by decide +kernel
theorem dT_changeOther_21 : decode bT_changeOther 21 = .ok (.aload_n 0, 1) := by decide +kernel
theorem dT_changeOther_22 : decode bT_changeOther 22 = .ok (.getfield 28, 3) := by decide +kernel
theorem dT_changeOther_25 : decode bT_changeOther 25 = .ok (.if_icmp .gt 44, 3) := by decide +kernel
theorem dT_changeOther_28 : decode bT_changeOther 28 = .ok (.iload 8, 2) := by decide +kernel
theorem dT_changeOther_30 : decode bT_changeOther 30 = .ok (.iload_n 3, 1) := by decide +kernel
theorem dT_changeOther_31 : decode bT_changeOther 31 = .ok (.if_icmp .eq 32, 3) := by decide +kernel
theorem dT_changeOther_34 : decode bT_changeOther 34 = .ok (.aload_n 0, 1) := by decide +kernel
theorem dT_changeOther_35 : decode bT_changeOther 35 = .ok (.iload_n 1, 1) := by decide +kernel
theorem dT_changeOther_36 : decode bT_changeOther 36 = .ok (.iload 8, 2) := by decide +kernel
theorem dT_changeOther_38 : decode bT_changeOther 38 = .ok (.aload_n 0, 1) := by decide +kernel
theorem dT_changeOther_39 : decode bT_changeOther 39 = .ok (.aload_n 0, 1) := by decide +kernel
theorem dT_changeOther_40 : decode bT_changeOther 40 = .ok (.iload_n 1, 1) := by decide +kernel
theorem dT_changeOther_41 : decode bT_changeOther 41 = .ok (.iload 8, 2) := by decide +kernel
theorem dT_changeOther_43 : decode bT_changeOther 43 = .ok (.invokevirtual 51, 3) := by decide +kernel
theorem dT_changeOther_46 : decode bT_changeOther 46 = .ok (.lload 4, 2) := by decide +kernel
theorem dT_changeOther_48 : decode bT_changeOther 48 = .ok (.lload 6, 2) := by decide +kernel
theorem dT_changeOther_50 : decode bT_changeOther 50 = .ok (.aload_n 0, 1) := by decide +kernel
theorem dT_changeOther_51 : decode bT_changeOther 51 = .ok (.iload_n 2, 1) := by decide +kernel
theorem dT_changeOther_52 : decode bT_changeOther 52 = .ok (.iload 8, 2) := by decide +kernel
theorem dT_changeOther_54 : decode bT_changeOther 54 = .ok (.invokevirtual 51, 3) := by decide +kernel
theorem dT_changeOther_57 : decode bT_changeOther 57 = .ok (.invokevirtual 83, 3) := by decide +kernel
theorem dT_changeOther_60 : decode bT_changeOther 60 = .ok (.invokevirtual 43, 3) := by decide +kernel
theorem dT_changeOther_63 : decode bT_changeOther 63 = .ok (.iinc 8 1, 3) := by decide +kernel
theorem dT_changeOther_66 : decode bT_changeOther 66 = .ok (.goto (-47), 3) := by decide +kernel
theorem dT_changeOther_69 : decode bT_changeOther 69 = .ok (.return_, 1) := by decide +kernel
theorem dT_changeEntered_0 : decode bT_changeEntered 0 = .ok (.iconst 0, 1) := by decide +kernel
theorem dT_changeEntered_1 : decode bT_changeEntered 1 = .ok (.istore_n 3, 1) := by decide +kernel
theorem dT_changeEntered_2 : decode bT_changeEntered 2 = .ok (.iload_n 3, 1) := by decide +kernel
theorem dT_changeEntered_3 : decode bT_changeEntered 3 = .ok (.aload_n 0, 1) := by decide +kernel
theorem dT_changeEntered_4 : decode bT_changeEntered 4 = .ok (.getfield 28, 3) := by decide +kernel
theorem dT_changeEntered_7 : decode bT_changeEntered 7 = .ok (.if_icmp .gt 34, 3) := by decide +kernel
theorem dT_changeEntered_10 : decode bT_changeEntered 10 = .ok (.aload_n 0, 1) := by decide +kernel
theorem dT_changeEntered_11 : decode bT_changeEntered 11 = .ok (.iload_n 1, 1) := by decide +kernel
theorem dT_changeEntered_12 : decode bT_changeEntered 12 = .ok (.iload_n 3, 1) := by decide +kernel
theorem dT_changeEntered_13 : decode bT_changeEntered 13 = .ok (.iload_n 3, 1) := by decide +kernel
theorem dT_changeEntered_14 : decode bT_changeEntered 14 = .ok (.iload_n 2, 1) := by decide +kernel
theorem dT_changeEntered_15 : decode bT_changeEntered 15 = .ok (.if_icmp .ne 10, 3) := by decide +kernel
theorem dT_changeEntered_18 : decode bT_changeEntered 18 = .ok (.aload_n 0, 1) := by decide +kernel
theorem dT_changeEntered_19 : decode bT_changeEntered 19 = .ok (.getfield 35, 3) := by decide +kernel
theorem dT_changeEntered_22 : decode bT_changeEntered 22 = .ok (.goto 10, 3) := by decide +kernel
theorem dT_changeEntered_25 : decode bT_changeEntered 25 = .ok (.aload_n 0, 1) := by decide +kernel
theorem dT_changeEntered_26 : decode bT_changeEntered 26 = .ok (.iload_n 1, 1) := by decide +kernel
theorem dT_changeEntered_27 : decode bT_changeEntered 27 = .ok (.iload_n 3, 1) := by decide +kernel
theorem dT_changeEntered_28 : decode bT_changeEntered 28 = .ok (.invokevirtual 51, 3) := by decide +kernel
theorem dT_changeEntered_31 : decode bT_changeEntered 31 = .ok (.lneg, 1) := by decide +kernel
theorem dT_changeEntered_32 : decode bT_changeEntered 32 = .ok (.invokevirtual 43, 3) := by decide +kernel
theorem dT_changeEntered_35 : decode bT_changeEntered 35 = .ok (.iinc 3 1, 3) := by decide +kernel
theorem dT_changeEntered_38 : decode bT_changeEntered 38 = .ok (.goto (-36), 3) := by decide +kernel
theorem dT_changeEntered_41 : decode bT_changeEntered 41 = .ok (.return_, 1) := by decide +kernel
theorem dT_copyStarts_0 : decode bT_copyStarts 0 = .ok (.iconst 0, 1) := by decide +kernel
theorem dT_copyStarts_1 : decode bT_copyStarts 1 = .ok (.istore_n 1, 1) := by decide +kernel
theorem dT_copyStarts_2 : decode bT_copyStarts 2 = .ok (.iload_n 1, 1) := by decide +kernel
theorem dT_copyStarts_3 : decode bT_copyStarts 3 = .ok (.aload_n 0, 1) := by decide +kernel
theorem dT_copyStarts_4 : decode bT_copyStarts 4 = .ok (.getfield 32, 3) := by decide +kernel
theorem dT_copyStarts_7 : decode bT_copyStarts 7 = .ok (.if_icmp .gt 21, 3) := by decide +kernel
theorem dT_copyStarts_10 : decode bT_copyStarts 10 = .ok (.aload_n 0, 1) := by decide +kernel
theorem dT_copyStarts_11 : decode bT_copyStarts 11 = .ok (.getfield 25, 3) := by decide +kernel
theorem dT_copyStarts_14 : decode bT_copyStarts 14 = .ok (.iload_n 1, 1) := by decide +kernel
theorem dT_copyStarts_15 : decode bT_copyStarts 15 = .ok (.aload_n 0, 1) := by decide +kernel
theorem dT_copyStarts_16 : decode bT_copyStarts 16 = .ok (.iload_n 1, 1) := by decide +kernel
theorem dT_copyStarts_17 : decode bT_copyStarts 17 = .ok (.iconst 0, 1) := by decide +kernel
theorem dT_copyStarts_18 : decode bT_copyStarts 18 = .ok (.invokevirtual 51, 3) := by decide +kernel
theorem dT_copyStarts_21 : decode bT_copyStarts 21 = .ok (.lastore, 1) := by decide +kernel
theorem dT_copyStarts_22 : decode bT_copyStarts 22 = .ok (.iinc 1 1, 3) := by decide +kernel
theorem dT_copyStarts_25 : decode bT_copyStarts 25 = .ok (.goto (-23), 3) := by decide +kernel
theorem dT_copyStarts_28 : decode bT_copyStarts 28 = .ok (.return_, 1) := by decide +kernel
theorem dT_moveCopied_0 : decode bT_moveCopied 0 = .ok (.aload_n 0, 1) := by decide +kernel
theorem dT_moveCopied_1 : decode bT_moveCopied 1 = .ok (.iload_n 1, 1) := by decide +kernel
theorem dT_moveCopied_2 : decode bT_moveCopied 2 = .ok (.invokevirtual 47, 3) := by decide +kernel
theorem dT_moveCopied_5 : decode bT_moveCopied 5 = .ok (.istore 4, 2) := by decide +kernel
theorem dT_moveCopied_7 : decode bT_moveCopied 7 = .ok (.iload 4, 2) := by decide +kernel
theorem dT_moveCopied_9 : decode bT_moveCopied 9 = .ok (.iconst (-1), 1) := by decide +kernel
theorem dT_moveCopied_10 : decode bT_moveCopied 10 = .ok (.if_icmp .eq 20, 3) := by decide +kernel
theorem dT_moveCopied_13 : decode bT_moveCopied 13 = .ok (.aload_n 0, 1) := by decide +kernel
theorem dT_moveCopied_14 : decode bT_moveCopied 14 = .ok (.getfield 25, 3) := by decide +kernel
theorem dT_moveCopied_17 : decode bT_moveCopied 17 = .ok (.iload 4, 2) := by decide +kernel
theorem dT_moveCopied_19 : decode bT_moveCopied 19 = .ok (.dup2, 1) := by decide +kernel
theorem dT_moveCopied_20 : decode bT_moveCopied 20 = .ok (.laload, 1) := by decide +kernel
theorem dT_moveCopied_21 : decode bT_moveCopied 21 = .ok (.aload_n 0, 1) := by decide +kernel
theorem dT_moveCopied_22 : decode bT_moveCopied 22 = .ok (.getfield 35, 3) := by decide +kernel
theorem dT_moveCopied_25 : decode bT_moveCopied 25 = .ok (.lload_n 2, 1) := by decide +kernel
theorem dT_moveCopied_26 : decode bT_moveCopied 26 = .ok (.lmul, 1) := by decide +kernel
theorem dT_moveCopied_27 : decode bT_moveCopied 27 = .ok (.ladd, 1) := by decide +kernel
theorem dT_moveCopied_28 : decode bT_moveCopied 28 = .ok (.lastore, 1) := by decide +kernel
theorem dT_moveCopied_29 : decode bT_moveCopied 29 = .ok (.return_, 1) := by decide +kernel
theorem dT_moveCopied_30 : decode bT_moveCopied 30 = .ok (.aload_n 0, 1) := by decide +kernel
theorem dT_moveCopied_31 : decode bT_moveCopied 31 = .ok (.iload_n 1, 1) := by decide +kernel
theorem dT_moveCopied_32 : decode bT_moveCopied 32 = .ok (.invokevirtual 55, 3) := by decide +kernel
theorem dT_moveCopied_35 : decode bT_moveCopied 35 = .ok (.istore 5, 2) := by decide +kernel
theorem dT_moveCopied_37 : decode bT_moveCopied 37 = .ok (.iconst 0, 1) := by decide +kernel
theorem dT_moveCopied_38 : decode bT_moveCopied 38 = .ok (.istore 6, 2) := by decide +kernel
theorem dT_moveCopied_40 : decode bT_moveCopied 40 = .ok (.iload 5, 2) := by decide +kernel
theorem dT_moveCopied_42 : decode bT_moveCopied 42 = .ok (.iconst (-1), 1) := by decide +kernel
theorem dT_moveCopied_43 : decode bT_moveCopied 43 = .ok (.if_icmp .eq 38, 3) := by decide +kernel
theorem dT_moveCopied_46 : decode bT_moveCopied 46 = .ok (.iload 6, 2) := by decide +kernel
theorem dT_moveCopied_48 : decode bT_moveCopied 48 = .ok (.aload_n 0, 1) := by decide +kernel
theorem dT_moveCopied_49 : decode bT_moveCopied 49 = .ok (.getfield 32, 3) := by decide +kernel
theorem dT_moveCopied_52 : decode bT_moveCopied 52 = .ok (.if_icmp .gt 29, 3) := by decide +kernel
theorem dT_moveCopied_55 : decode bT_moveCopied 55 = .ok (.aload_n 0, 1) := by decide +kernel
theorem dT_moveCopied_56 : decode bT_moveCopied 56 = .ok (.getfield 25, 3) := by decide +kernel
theorem dT_moveCopied_59 : decode bT_moveCopied 59 = .ok (.iload 6, 2) := by decide +kernel
theorem dT_moveCopied_61 : decode bT_moveCopied 61 = .ok (.dup2, 1) := by decide +kernel
theorem dT_moveCopied_62 : decode bT_moveCopied 62 = .ok (.laload, 1) := by decide +kernel
theorem dT_moveCopied_63 : decode bT_moveCopied 63 = .ok (.aload_n 0, 1) := by decide +kernel
theorem dT_moveCopied_64 : decode bT_moveCopied 64 = .ok (.iload 6, 2) := by decide +kernel
theorem dT_moveCopied_66 : decode bT_moveCopied 66 = .ok (.iload 5, 2) := by decide +kernel
theorem dT_moveCopied_68 : decode bT_moveCopied 68 = .ok (.invokevirtual 51, 3) := by decide +kernel
theorem dT_moveCopied_71 : decode bT_moveCopied 71 = .ok (.lload_n 2, 1) := by decide +kernel
theorem dT_moveCopied_72 : decode bT_moveCopied 72 = .ok (.lmul, 1) := by decide +kernel
theorem dT_moveCopied_73 : decode bT_moveCopied 73 = .ok (.lsub, 1) := by decide +kernel
theorem dT_moveCopied_74 : decode bT_moveCopied 74 = .ok (.lastore, 1) := by decide +kernel
theorem dT_moveCopied_75 : decode bT_moveCopied 75 = .ok (.iinc 6 1, 3) := by decide +kernel
theorem dT_moveCopied_78 : decode bT_moveCopied 78 = .ok (.goto (-38), 3) := by decide +kernel
theorem dT_moveCopied_81 : decode bT_moveCopied 81 = .ok (.return_, 1) := by decide +kernel
theorem dT_takeCopiedStarts_0 : decode bT_takeCopiedStarts 0 = .ok (.iconst 0, 1) := by decide +kernel
theorem dT_takeCopiedStarts_1 : decode bT_takeCopiedStarts 1 = .ok (.istore_n 1, 1) := by decide +kernel
theorem dT_takeCopiedStarts_2 : decode bT_takeCopiedStarts 2 = .ok (.iload_n 1, 1) := by decide +kernel
theorem dT_takeCopiedStarts_3 : decode bT_takeCopiedStarts 3 = .ok (.aload_n 0, 1) := by decide +kernel
theorem dT_takeCopiedStarts_4 : decode bT_takeCopiedStarts 4 = .ok (.getfield 32, 3) := by decide +kernel
theorem dT_takeCopiedStarts_7 : decode bT_takeCopiedStarts 7 = .ok (.if_icmp .gt 23, 3) := by decide +kernel
theorem dT_takeCopiedStarts_10 : decode bT_takeCopiedStarts 10 = .ok (.aload_n 0, 1) := by decide +kernel
theorem dT_takeCopiedStarts_11 : decode bT_takeCopiedStarts 11 = .ok (.getfield 25, 3) := by decide +kernel
theorem dT_takeCopiedStarts_14 : decode bT_takeCopiedStarts 14 = .ok (.iload_n 1, 1) := by decide +kernel
theorem dT_takeCopiedStarts_15 : decode bT_takeCopiedStarts 15 = .ok (.laload, 1) := by decide +kernel
theorem dT_takeCopiedStarts_16 : decode bT_takeCopiedStarts 16 = .ok (.invokestatic 72, 3) := by decide +kernel
theorem dT_takeCopiedStarts_19 : decode bT_takeCopiedStarts 19 = .ok (.ifCond .ne 5, 3) := by decide +kernel
theorem dT_takeCopiedStarts_22 : decode bT_takeCopiedStarts 22 = .ok (.iconst 0, 1) := by decide +kernel
theorem dT_takeCopiedStarts_23 : decode bT_takeCopiedStarts 23 = .ok (.ireturn, 1) := by decide +kernel
theorem dT_takeCopiedStarts_24 : decode bT_takeCopiedStarts 24 = .ok (.iinc 1 1, 3) := by decide +kernel
theorem dT_takeCopiedStarts_27 : decode bT_takeCopiedStarts 27 = .ok (.goto (-25), 3) := by decide +kernel
theorem dT_takeCopiedStarts_30 : decode bT_takeCopiedStarts 30 = .ok (.iconst 0, 1) := by decide +kernel
theorem dT_takeCopiedStarts_31 : decode bT_takeCopiedStarts 31 = .ok (.istore_n 1, 1) := by decide +kernel
theorem dT_takeCopiedStarts_32 : decode bT_takeCopiedStarts 32 = .ok (.iload_n 1, 1) := by decide +kernel
theorem dT_takeCopiedStarts_33 : decode bT_takeCopiedStarts 33 = .ok (.aload_n 0, 1) := by decide +kernel
theorem dT_takeCopiedStarts_34 : decode bT_takeCopiedStarts 34 = .ok (.getfield 32, 3) := by decide +kernel
theorem dT_takeCopiedStarts_37 : decode bT_takeCopiedStarts 37 = .ok (.if_icmp .gt 21, 3) := by decide +kernel
theorem dT_takeCopiedStarts_40 : decode bT_takeCopiedStarts 40 = .ok (.aload_n 0, 1) := by decide +kernel
theorem dT_takeCopiedStarts_41 : decode bT_takeCopiedStarts 41 = .ok (.iload_n 1, 1) := by decide +kernel
theorem dT_takeCopiedStarts_42 : decode bT_takeCopiedStarts 42 = .ok (.iconst 0, 1) := by decide +kernel
theorem dT_takeCopiedStarts_43 : decode bT_takeCopiedStarts 43 = .ok (.aload_n 0, 1) := by decide +kernel
theorem dT_takeCopiedStarts_44 : decode bT_takeCopiedStarts 44 = .ok (.getfield 25, 3) := by decide +kernel
theorem dT_takeCopiedStarts_47 : decode bT_takeCopiedStarts 47 = .ok (.iload_n 1, 1) := by decide +kernel
theorem dT_takeCopiedStarts_48 : decode bT_takeCopiedStarts 48 = .ok (.laload, 1) := by decide +kernel
theorem dT_takeCopiedStarts_49 : decode bT_takeCopiedStarts 49 = .ok (.invokevirtual 43, 3) := by decide +kernel
theorem dT_takeCopiedStarts_52 : decode bT_takeCopiedStarts 52 = .ok (.iinc 1 1, 3) := by decide +kernel
theorem dT_takeCopiedStarts_55 : decode bT_takeCopiedStarts 55 = .ok (.goto (-23), 3) := by decide +kernel
theorem dT_takeCopiedStarts_58 : decode bT_takeCopiedStarts 58 = .ok (.iconst 1, 1) := by decide +kernel
theorem dT_takeCopiedStarts_59 : decode bT_takeCopiedStarts 59 = .ok (.ireturn, 1) := by decide +kernel
