/-! rows that decode the hall -/
theorem dX0_init_0 : decode cX0_init 0 = .ok (.aload_n 0, 1) := by decide +kernel
theorem dX0_init_1 : decode cX0_init 1 = .ok (.invokespecial 3, 3) := by decide +kernel
theorem dX0_init_4 : decode cX0_init 4 = .ok (.aload_n 0, 1) := by decide +kernel
theorem dX0_init_5 : decode cX0_init 5 = .ok (.sipush 512, 3) := by decide +kernel
theorem dX0_init_8 : decode cX0_init 8 = .ok (.newarray .long, 2) := by decide +kernel
theorem dX0_init_10 : decode cX0_init 10 = .ok (.putfield 9, 3) := by decide +kernel
theorem dX0_init_13 : decode cX0_init 13 = .ok (.aload_n 0, 1) := by decide +kernel
theorem dX0_init_14 : decode cX0_init 14 = .ok (.iconst 0, 1) := by decide +kernel
theorem dX0_init_15 : decode cX0_init 15 = .ok (.putfield 13, 3) := by decide +kernel
theorem dX0_init_18 : decode cX0_init 18 = .ok (.aload_n 0, 1) := by decide +kernel
theorem dX0_init_19 : decode cX0_init 19 = .ok (.iconst 3, 1) := by decide +kernel
theorem dX0_init_20 : decode cX0_init 20 = .ok (.newarray .int, 2) := by decide +kernel
theorem dX0_init_22 : decode cX0_init 22 = .ok (.putfield 17, 3) := by decide +kernel
theorem dX0_init_25 : decode cX0_init 25 = .ok (.aload_n 0, 1) := by decide +kernel
theorem dX0_init_26 : decode cX0_init 26 = .ok (.iconst 3, 1) := by decide +kernel
theorem dX0_init_27 : decode cX0_init 27 = .ok (.newarray .int, 2) := by decide +kernel
theorem dX0_init_29 : decode cX0_init 29 = .ok (.putfield 21, 3) := by decide +kernel
theorem dX0_init_32 : decode cX0_init 32 = .ok (.aload_n 0, 1) := by decide +kernel
theorem dX0_init_33 : decode cX0_init 33 = .ok (.iconst 3, 1) := by decide +kernel
theorem dX0_init_34 : decode cX0_init 34 = .ok (.newarray .long, 2) := by decide +kernel
theorem dX0_init_36 : decode cX0_init 36 = .ok (.putfield 24, 3) := by decide +kernel
theorem dX0_init_39 : decode cX0_init 39 = .ok (.aload_n 0, 1) := by decide +kernel
theorem dX0_init_40 : decode cX0_init 40 = .ok (.iconst 0, 1) := by decide +kernel
theorem dX0_init_41 : decode cX0_init 41 = .ok (.putfield 27, 3) := by decide +kernel
theorem dX0_init_44 : decode cX0_init 44 = .ok (.aload_n 0, 1) := by decide +kernel
theorem dX0_init_45 : decode cX0_init 45 = .ok (.bipush 32, 2) := by decide +kernel
theorem dX0_init_47 : decode cX0_init 47 = .ok (.newarray .long, 2) := by decide +kernel
theorem dX0_init_49 : decode cX0_init 49 = .ok (.putfield 30, 3) := by decide +kernel
theorem dX0_init_52 : decode cX0_init 52 = .ok (.aload_n 0, 1) := by decide +kernel
theorem dX0_init_53 : decode cX0_init 53 = .ok (.bipush 32, 2) := by decide +kernel
theorem dX0_init_55 : decode cX0_init 55 = .ok (.newarray .long, 2) := by decide +kernel
theorem dX0_init_57 : decode cX0_init 57 = .ok (.putfield 33, 3) := by decide +kernel
theorem dX0_init_60 : decode cX0_init 60 = .ok (.aload_n 0, 1) := by decide +kernel
theorem dX0_init_61 : decode cX0_init 61 = .ok (.bipush 32, 2) := by decide +kernel
theorem dX0_init_63 : decode cX0_init 63 = .ok (.newarray .int, 2) := by decide +kernel
theorem dX0_init_65 : decode cX0_init 65 = .ok (.putfield 36, 3) := by decide +kernel
theorem dX0_init_68 : decode cX0_init 68 = .ok (.aload_n 0, 1) := by decide +kernel
theorem dX0_init_69 : decode cX0_init 69 = .ok (.bipush 32, 2) := by decide +kernel
theorem dX0_init_71 : decode cX0_init 71 = .ok (.newarray .int, 2) := by decide +kernel
theorem dX0_init_73 : decode cX0_init 73 = .ok (.putfield 39, 3) := by decide +kernel
theorem dX0_init_76 : decode cX0_init 76 = .ok (.aload_n 0, 1) := by decide +kernel
theorem dX0_init_77 : decode cX0_init 77 = .ok (.sipush 128, 3) := by decide +kernel
theorem dX0_init_80 : decode cX0_init 80 = .ok (.newarray .int, 2) := by decide +kernel
theorem dX0_init_82 : decode cX0_init 82 = .ok (.putfield 42, 3) := by decide +kernel
theorem dX0_init_85 : decode cX0_init 85 = .ok (.return_, 1) := by decide +kernel
theorem dX0_append_0 : decode cX0_append 0 = .ok (.aload_n 0, 1) := by decide +kernel
theorem dX0_append_1 : decode cX0_append 1 = .ok (.getfield 13, 3) := by decide +kernel
theorem dX0_append_4 : decode cX0_append 4 = .ok (.sipush 128, 3) := by decide +kernel
theorem dX0_append_7 : decode cX0_append 7 = .ok (.if_icmp .lt 13, 3) := by decide +kernel
theorem dX0_append_10 : decode cX0_append 10 = .ok (.new 45, 3) := by decide +kernel
theorem dX0_append_13 : decode cX0_append 13 = .ok (.dup, 1) := by decide +kernel
theorem dX0_append_14 : decode cX0_append 14 = .ok (.ldc 47, 2) := by decide +kernel
theorem dX0_append_16 : decode cX0_append 16 = .ok (.invokespecial 49, 3) := by decide +kernel
theorem dX0_append_19 : decode cX0_append 19 = .ok (.athrow, 1) := by decide +kernel
theorem dX0_append_20 : decode cX0_append 20 = .ok (.aload_n 0, 1) := by decide +kernel
theorem dX0_append_21 : decode cX0_append 21 = .ok (.getfield 13, 3) := by decide +kernel
theorem dX0_append_24 : decode cX0_append 24 = .ok (.istore 6, 2) := by decide +kernel
theorem dX0_append_26 : decode cX0_append 26 = .ok (.aload_n 0, 1) := by decide +kernel
theorem dX0_append_27 : decode cX0_append 27 = .ok (.getfield 9, 3) := by decide +kernel
theorem dX0_append_30 : decode cX0_append 30 = .ok (.iload 6, 2) := by decide +kernel
theorem dX0_append_32 : decode cX0_append 32 = .ok (.iconst 0, 1) := by decide +kernel
theorem dX0_append_33 : decode cX0_append 33 = .ok (.invokestatic 52, 3) := by decide +kernel
theorem dX0_append_36 : decode cX0_append 36 = .ok (.iload_n 1, 1) := by decide +kernel
theorem dX0_append_37 : decode cX0_append 37 = .ok (.i2l, 1) := by decide +kernel
theorem dX0_append_38 : decode cX0_append 38 = .ok (.lastore, 1) := by decide +kernel
theorem dX0_append_39 : decode cX0_append 39 = .ok (.aload_n 0, 1) := by decide +kernel
theorem dX0_append_40 : decode cX0_append 40 = .ok (.getfield 9, 3) := by decide +kernel
theorem dX0_append_43 : decode cX0_append 43 = .ok (.iload 6, 2) := by decide +kernel
theorem dX0_append_45 : decode cX0_append 45 = .ok (.iconst 1, 1) := by decide +kernel
theorem dX0_append_46 : decode cX0_append 46 = .ok (.invokestatic 52, 3) := by decide +kernel
theorem dX0_append_49 : decode cX0_append 49 = .ok (.iload_n 2, 1) := by decide +kernel
theorem dX0_append_50 : decode cX0_append 50 = .ok (.i2l, 1) := by decide +kernel
theorem dX0_append_51 : decode cX0_append 51 = .ok (.lastore, 1) := by decide +kernel
theorem dX0_append_52 : decode cX0_append 52 = .ok (.aload_n 0, 1) := by decide +kernel
theorem dX0_append_53 : decode cX0_append 53 = .ok (.getfield 9, 3) := by decide +kernel
theorem dX0_append_56 : decode cX0_append 56 = .ok (.iload 6, 2) := by decide +kernel
theorem dX0_append_58 : decode cX0_append 58 = .ok (.iconst 2, 1) := by decide +kernel
theorem dX0_append_59 : decode cX0_append 59 = .ok (.invokestatic 52, 3) := by decide +kernel
theorem dX0_append_62 : decode cX0_append 62 = .ok (.iload_n 3, 1) := by decide +kernel
theorem dX0_append_63 : decode cX0_append 63 = .ok (.i2l, 1) := by decide +kernel
theorem dX0_append_64 : decode cX0_append 64 = .ok (.lastore, 1) := by decide +kernel
theorem dX0_append_65 : decode cX0_append 65 = .ok (.aload_n 0, 1) := by decide +kernel
theorem dX0_append_66 : decode cX0_append 66 = .ok (.getfield 9, 3) := by decide +kernel
theorem dX0_append_69 : decode cX0_append 69 = .ok (.iload 6, 2) := by decide +kernel
theorem dX0_append_71 : decode cX0_append 71 = .ok (.iconst 3, 1) := by decide +kernel
theorem dX0_append_72 : decode cX0_append 72 = .ok (.invokestatic 52, 3) := by decide +kernel
theorem dX0_append_75 : decode cX0_append 75 = .ok (.lload 4, 2) := by decide +kernel
theorem dX0_append_77 : decode cX0_append 77 = .ok (.lastore, 1) := by decide +kernel
theorem dX0_append_78 : decode cX0_append 78 = .ok (.aload_n 0, 1) := by decide +kernel
theorem dX0_append_79 : decode cX0_append 79 = .ok (.iload 6, 2) := by decide +kernel
theorem dX0_append_81 : decode cX0_append 81 = .ok (.iconst 1, 1) := by decide +kernel
theorem dX0_append_82 : decode cX0_append 82 = .ok (.iadd, 1) := by decide +kernel
theorem dX0_append_83 : decode cX0_append 83 = .ok (.putfield 13, 3) := by decide +kernel
theorem dX0_append_86 : decode cX0_append 86 = .ok (.aload_n 0, 1) := by decide +kernel
theorem dX0_append_87 : decode cX0_append 87 = .ok (.getfield 13, 3) := by decide +kernel
theorem dX0_append_90 : decode cX0_append 90 = .ok (.bipush 16, 2) := by decide +kernel
theorem dX0_append_92 : decode cX0_append 92 = .ok (.irem, 1) := by decide +kernel
theorem dX0_append_93 : decode cX0_append 93 = .ok (.ifCond .ne 12, 3) := by decide +kernel
theorem dX0_append_96 : decode cX0_append 96 = .ok (.aload_n 0, 1) := by decide +kernel
theorem dX0_append_97 : decode cX0_append 97 = .ok (.iload 6, 2) := by decide +kernel
theorem dX0_append_99 : decode cX0_append 99 = .ok (.bipush 16, 2) := by decide +kernel
theorem dX0_append_101 : decode cX0_append 101 = .ok (.idiv, 1) := by decide +kernel
theorem dX0_append_102 : decode cX0_append 102 = .ok (.invokevirtual 56, 3) := by decide +kernel
theorem dX0_append_105 : decode cX0_append 105 = .ok (.iload 6, 2) := by decide +kernel
theorem dX0_append_107 : decode cX0_append 107 = .ok (.ireturn, 1) := by decide +kernel
theorem dX0_rows_0 : decode cX0_rows 0 = .ok (.aload_n 0, 1) := by decide +kernel
theorem dX0_rows_1 : decode cX0_rows 1 = .ok (.getfield 13, 3) := by decide +kernel
theorem dX0_rows_4 : decode cX0_rows 4 = .ok (.ireturn, 1) := by decide +kernel
theorem dX0_cell_0 : decode cX0_cell 0 = .ok (.iload_n 2, 1) := by decide +kernel
theorem dX0_cell_1 : decode cX0_cell 1 = .ok (.invokestatic 60, 3) := by decide +kernel
theorem dX0_cell_4 : decode cX0_cell 4 = .ok (.iload_n 1, 1) := by decide +kernel
theorem dX0_cell_5 : decode cX0_cell 5 = .ok (.ifCond .lt 11, 3) := by decide +kernel
theorem dX0_cell_8 : decode cX0_cell 8 = .ok (.iload_n 1, 1) := by decide +kernel
theorem dX0_cell_9 : decode cX0_cell 9 = .ok (.aload_n 0, 1) := by decide +kernel
theorem dX0_cell_10 : decode cX0_cell 10 = .ok (.getfield 13, 3) := by decide +kernel
theorem dX0_cell_13 : decode cX0_cell 13 = .ok (.if_icmp .lt 13, 3) := by decide +kernel
theorem dX0_cell_16 : decode cX0_cell 16 = .ok (.new 63, 3) := by decide +kernel
theorem dX0_cell_19 : decode cX0_cell 19 = .ok (.dup, 1) := by decide +kernel
theorem dX0_cell_20 : decode cX0_cell 20 = .ok (.ldc 65, 2) := by decide +kernel
theorem dX0_cell_22 : decode cX0_cell 22 = .ok (.invokespecial 67, 3) := by decide +kernel
theorem dX0_cell_25 : decode cX0_cell 25 = .ok (.athrow, 1) := by decide +kernel
theorem dX0_cell_26 : decode cX0_cell 26 = .ok (.aload_n 0, 1) := by decide +kernel
theorem dX0_cell_27 : decode cX0_cell 27 = .ok (.getfield 9, 3) := by decide +kernel
theorem dX0_cell_30 : decode cX0_cell 30 = .ok (.iload_n 1, 1) := by decide +kernel
theorem dX0_cell_31 : decode cX0_cell 31 = .ok (.iload_n 2, 1) := by decide +kernel
theorem dX0_cell_32 : decode cX0_cell 32 = .ok (.invokestatic 52, 3) := by decide +kernel
theorem dX0_cell_35 : decode cX0_cell 35 = .ok (.laload, 1) := by decide +kernel
theorem dX0_cell_36 : decode cX0_cell 36 = .ok (.lreturn, 1) := by decide +kernel
theorem dX0_where_0 : decode cX0_where 0 = .ok (.iload_n 1, 1) := by decide +kernel
theorem dX0_where_1 : decode cX0_where 1 = .ok (.invokestatic 60, 3) := by decide +kernel
theorem dX0_where_4 : decode cX0_where 4 = .ok (.iload_n 2, 1) := by decide +kernel
theorem dX0_where_5 : decode cX0_where 5 = .ok (.ifCond .lt 8, 3) := by decide +kernel
theorem dX0_where_8 : decode cX0_where 8 = .ok (.iload_n 2, 1) := by decide +kernel
theorem dX0_where_9 : decode cX0_where 9 = .ok (.iconst 5, 1) := by decide +kernel
theorem dX0_where_10 : decode cX0_where 10 = .ok (.if_icmp .le 13, 3) := by decide +kernel
theorem dX0_where_13 : decode cX0_where 13 = .ok (.new 68, 3) := by decide +kernel
theorem dX0_where_16 : decode cX0_where 16 = .ok (.dup, 1) := by decide +kernel
theorem dX0_where_17 : decode cX0_where 17 = .ok (.ldc 70, 2) := by decide +kernel
theorem dX0_where_19 : decode cX0_where 19 = .ok (.invokespecial 72, 3) := by decide +kernel
theorem dX0_where_22 : decode cX0_where 22 = .ok (.athrow, 1) := by decide +kernel
theorem dX0_where_23 : decode cX0_where 23 = .ok (.aload_n 0, 1) := by decide +kernel
theorem dX0_where_24 : decode cX0_where 24 = .ok (.getfield 27, 3) := by decide +kernel
theorem dX0_where_27 : decode cX0_where 27 = .ok (.iconst 3, 1) := by decide +kernel
theorem dX0_where_28 : decode cX0_where 28 = .ok (.if_icmp .lt 13, 3) := by decide +kernel
theorem dX0_where_31 : decode cX0_where 31 = .ok (.new 45, 3) := by decide +kernel
theorem dX0_where_34 : decode cX0_where 34 = .ok (.dup, 1) := by decide +kernel
theorem dX0_where_35 : decode cX0_where 35 = .ok (.ldc 73, 2) := by decide +kernel
theorem dX0_where_37 : decode cX0_where 37 = .ok (.invokespecial 49, 3) := by decide +kernel
theorem dX0_where_40 : decode cX0_where 40 = .ok (.athrow, 1) := by decide +kernel
theorem dX0_where_41 : decode cX0_where 41 = .ok (.aload_n 0, 1) := by decide +kernel
theorem dX0_where_42 : decode cX0_where 42 = .ok (.getfield 17, 3) := by decide +kernel
theorem dX0_where_45 : decode cX0_where 45 = .ok (.aload_n 0, 1) := by decide +kernel
theorem dX0_where_46 : decode cX0_where 46 = .ok (.getfield 27, 3) := by decide +kernel
theorem dX0_where_49 : decode cX0_where 49 = .ok (.iload_n 1, 1) := by decide +kernel
theorem dX0_where_50 : decode cX0_where 50 = .ok (.iastore, 1) := by decide +kernel
theorem dX0_where_51 : decode cX0_where 51 = .ok (.aload_n 0, 1) := by decide +kernel
theorem dX0_where_52 : decode cX0_where 52 = .ok (.getfield 21, 3) := by decide +kernel
theorem dX0_where_55 : decode cX0_where 55 = .ok (.aload_n 0, 1) := by decide +kernel
theorem dX0_where_56 : decode cX0_where 56 = .ok (.getfield 27, 3) := by decide +kernel
theorem dX0_where_59 : decode cX0_where 59 = .ok (.iload_n 2, 1) := by decide +kernel
theorem dX0_where_60 : decode cX0_where 60 = .ok (.iastore, 1) := by decide +kernel
theorem dX0_where_61 : decode cX0_where 61 = .ok (.aload_n 0, 1) := by decide +kernel
theorem dX0_where_62 : decode cX0_where 62 = .ok (.getfield 24, 3) := by decide +kernel
theorem dX0_where_65 : decode cX0_where 65 = .ok (.aload_n 0, 1) := by decide +kernel
theorem dX0_where_66 : decode cX0_where 66 = .ok (.getfield 27, 3) := by decide +kernel
theorem dX0_where_69 : decode cX0_where 69 = .ok (.lload_n 3, 1) := by decide +kernel
theorem dX0_where_70 : decode cX0_where 70 = .ok (.lastore, 1) := by decide +kernel
theorem dX0_where_71 : decode cX0_where 71 = .ok (.aload_n 0, 1) := by decide +kernel
theorem dX0_where_72 : decode cX0_where 72 = .ok (.dup, 1) := by decide +kernel
theorem dX0_where_73 : decode cX0_where 73 = .ok (.getfield 27, 3) := by decide +kernel
theorem dX0_where_76 : decode cX0_where 76 = .ok (.iconst 1, 1) := by decide +kernel
theorem dX0_where_77 : decode cX0_where 77 = .ok (.iadd, 1) := by decide +kernel
theorem dX0_where_78 : decode cX0_where 78 = .ok (.putfield 27, 3) := by decide +kernel
theorem dX0_where_81 : decode cX0_where 81 = .ok (.aload_n 0, 1) := by decide +kernel
theorem dX0_where_82 : decode cX0_where 82 = .ok (.getfield 27, 3) := by decide +kernel
theorem dX0_where_85 : decode cX0_where 85 = .ok (.ireturn, 1) := by decide +kernel
theorem dX0_all_0 : decode cX0_all 0 = .ok (.aload_n 0, 1) := by decide +kernel
theorem dX0_all_1 : decode cX0_all 1 = .ok (.getfield 27, 3) := by decide +kernel
theorem dX0_all_4 : decode cX0_all 4 = .ok (.istore_n 1, 1) := by decide +kernel
theorem dX0_all_5 : decode cX0_all 5 = .ok (.aload_n 0, 1) := by decide +kernel
theorem dX0_all_6 : decode cX0_all 6 = .ok (.iconst 0, 1) := by decide +kernel
theorem dX0_all_7 : decode cX0_all 7 = .ok (.putfield 27, 3) := by decide +kernel
theorem dX0_all_10 : decode cX0_all 10 = .ok (.iload_n 1, 1) := by decide +kernel
theorem dX0_all_11 : decode cX0_all 11 = .ok (.ireturn, 1) := by decide +kernel
theorem dX0_chosen_0 : decode cX0_chosen 0 = .ok (.aload_n 0, 1) := by decide +kernel
theorem dX0_chosen_1 : decode cX0_chosen 1 = .ok (.invokevirtual 75, 3) := by decide +kernel
theorem dX0_chosen_4 : decode cX0_chosen 4 = .ok (.ireturn, 1) := by decide +kernel
theorem dX0_row_0 : decode cX0_row 0 = .ok (.aload_n 0, 1) := by decide +kernel
theorem dX0_row_1 : decode cX0_row 1 = .ok (.invokevirtual 75, 3) := by decide +kernel
theorem dX0_row_4 : decode cX0_row 4 = .ok (.istore_n 2, 1) := by decide +kernel
theorem dX0_row_5 : decode cX0_row 5 = .ok (.iload_n 1, 1) := by decide +kernel
theorem dX0_row_6 : decode cX0_row 6 = .ok (.ifCond .lt 8, 3) := by decide +kernel
theorem dX0_row_9 : decode cX0_row 9 = .ok (.iload_n 1, 1) := by decide +kernel
theorem dX0_row_10 : decode cX0_row 10 = .ok (.iload_n 2, 1) := by decide +kernel
theorem dX0_row_11 : decode cX0_row 11 = .ok (.if_icmp .lt 13, 3) := by decide +kernel
theorem dX0_row_14 : decode cX0_row 14 = .ok (.new 63, 3) := by decide +kernel
theorem dX0_row_17 : decode cX0_row 17 = .ok (.dup, 1) := by decide +kernel
theorem dX0_row_18 : decode cX0_row 18 = .ok (.ldc 79, 2) := by decide +kernel
theorem dX0_row_20 : decode cX0_row 20 = .ok (.invokespecial 67, 3) := by decide +kernel
theorem dX0_row_23 : decode cX0_row 23 = .ok (.athrow, 1) := by decide +kernel
theorem dX0_row_24 : decode cX0_row 24 = .ok (.aload_n 0, 1) := by decide +kernel
theorem dX0_row_25 : decode cX0_row 25 = .ok (.getfield 42, 3) := by decide +kernel
theorem dX0_row_28 : decode cX0_row 28 = .ok (.iload_n 1, 1) := by decide +kernel
theorem dX0_row_29 : decode cX0_row 29 = .ok (.iaload, 1) := by decide +kernel
theorem dX0_row_30 : decode cX0_row 30 = .ok (.ireturn, 1) := by decide +kernel
theorem dX0_blocks_0 : decode cX0_blocks 0 = .ok (.iconst 0, 1) := by decide +kernel
theorem dX0_blocks_1 : decode cX0_blocks 1 = .ok (.istore_n 1, 1) := by decide +kernel
theorem dX0_blocks_2 : decode cX0_blocks 2 = .ok (.iconst 0, 1) := by decide +kernel
theorem dX0_blocks_3 : decode cX0_blocks 3 = .ok (.istore_n 2, 1) := by decide +kernel
theorem dX0_blocks_4 : decode cX0_blocks 4 = .ok (.iload_n 2, 1) := by decide +kernel
theorem dX0_blocks_5 : decode cX0_blocks 5 = .ok (.aload_n 0, 1) := by decide +kernel
theorem dX0_blocks_6 : decode cX0_blocks 6 = .ok (.invokevirtual 81, 3) := by decide +kernel
theorem dX0_blocks_9 : decode cX0_blocks 9 = .ok (.if_icmp .ge 20, 3) := by decide +kernel
theorem dX0_blocks_12 : decode cX0_blocks 12 = .ok (.aload_n 0, 1) := by decide +kernel
theorem dX0_blocks_13 : decode cX0_blocks 13 = .ok (.iload_n 2, 1) := by decide +kernel
theorem dX0_blocks_14 : decode cX0_blocks 14 = .ok (.invokevirtual 84, 3) := by decide +kernel
theorem dX0_blocks_17 : decode cX0_blocks 17 = .ok (.ifCond .ne 6, 3) := by decide +kernel
theorem dX0_blocks_20 : decode cX0_blocks 20 = .ok (.iinc 1 1, 3) := by decide +kernel
theorem dX0_blocks_23 : decode cX0_blocks 23 = .ok (.iinc 2 1, 3) := by decide +kernel
theorem dX0_blocks_26 : decode cX0_blocks 26 = .ok (.goto (-22), 3) := by decide +kernel
theorem dX0_blocks_29 : decode cX0_blocks 29 = .ok (.iload_n 1, 1) := by decide +kernel
theorem dX0_blocks_30 : decode cX0_blocks 30 = .ok (.ireturn, 1) := by decide +kernel
theorem dX0_sum_0 : decode cX0_sum 0 = .ok (.iload_n 1, 1) := by decide +kernel
theorem dX0_sum_1 : decode cX0_sum 1 = .ok (.invokestatic 60, 3) := by decide +kernel
theorem dX0_sum_4 : decode cX0_sum 4 = .ok (.aload_n 0, 1) := by decide +kernel
theorem dX0_sum_5 : decode cX0_sum 5 = .ok (.invokevirtual 75, 3) := by decide +kernel
theorem dX0_sum_8 : decode cX0_sum 8 = .ok (.istore_n 2, 1) := by decide +kernel
theorem dX0_sum_9 : decode cX0_sum 9 = .ok (.aload_n 0, 1) := by decide +kernel
theorem dX0_sum_10 : decode cX0_sum 10 = .ok (.iload_n 1, 1) := by decide +kernel
theorem dX0_sum_11 : decode cX0_sum 11 = .ok (.iconst 0, 1) := by decide +kernel
theorem dX0_sum_12 : decode cX0_sum 12 = .ok (.iload_n 2, 1) := by decide +kernel
theorem dX0_sum_13 : decode cX0_sum 13 = .ok (.invokevirtual 88, 3) := by decide +kernel
theorem dX0_sum_16 : decode cX0_sum 16 = .ok (.lreturn, 1) := by decide +kernel
theorem dX0_bound_0 : decode cX0_bound 0 = .ok (.iload_n 1, 1) := by decide +kernel
theorem dX0_bound_1 : decode cX0_bound 1 = .ok (.invokestatic 60, 3) := by decide +kernel
theorem dX0_bound_4 : decode cX0_bound 4 = .ok (.aload_n 0, 1) := by decide +kernel
theorem dX0_bound_5 : decode cX0_bound 5 = .ok (.invokevirtual 75, 3) := by decide +kernel
theorem dX0_bound_8 : decode cX0_bound 8 = .ok (.istore_n 3, 1) := by decide +kernel
theorem dX0_bound_9 : decode cX0_bound 9 = .ok (.iload_n 3, 1) := by decide +kernel
theorem dX0_bound_10 : decode cX0_bound 10 = .ok (.ifCond .ne 13, 3) := by decide +kernel
theorem dX0_bound_13 : decode cX0_bound 13 = .ok (.new 92, 3) := by decide +kernel
theorem dX0_bound_16 : decode cX0_bound 16 = .ok (.dup, 1) := by decide +kernel
theorem dX0_bound_17 : decode cX0_bound 17 = .ok (.ldc 94, 2) := by decide +kernel
theorem dX0_bound_19 : decode cX0_bound 19 = .ok (.invokespecial 96, 3) := by decide +kernel
theorem dX0_bound_22 : decode cX0_bound 22 = .ok (.athrow, 1) := by decide +kernel
theorem dX0_bound_23 : decode cX0_bound 23 = .ok (.aload_n 0, 1) := by decide +kernel
theorem dX0_bound_24 : decode cX0_bound 24 = .ok (.iload_n 1, 1) := by decide +kernel
theorem dX0_bound_25 : decode cX0_bound 25 = .ok (.iload_n 2, 1) := by decide +kernel
theorem dX0_bound_26 : decode cX0_bound 26 = .ok (.iconst 0, 1) := by decide +kernel
theorem dX0_bound_27 : decode cX0_bound 27 = .ok (.iload_n 3, 1) := by decide +kernel
theorem dX0_bound_28 : decode cX0_bound 28 = .ok (.invokevirtual 97, 3) := by decide +kernel
theorem dX0_bound_31 : decode cX0_bound 31 = .ok (.lreturn, 1) := by decide +kernel
theorem dX0_ranked_0 : decode cX0_ranked 0 = .ok (.iload_n 1, 1) := by decide +kernel
theorem dX0_ranked_1 : decode cX0_ranked 1 = .ok (.invokestatic 60, 3) := by decide +kernel
theorem dX0_ranked_4 : decode cX0_ranked 4 = .ok (.aload_n 0, 1) := by decide +kernel
theorem dX0_ranked_5 : decode cX0_ranked 5 = .ok (.invokevirtual 75, 3) := by decide +kernel
theorem dX0_ranked_8 : decode cX0_ranked 8 = .ok (.istore_n 3, 1) := by decide +kernel
theorem dX0_ranked_9 : decode cX0_ranked 9 = .ok (.iload_n 2, 1) := by decide +kernel
theorem dX0_ranked_10 : decode cX0_ranked 10 = .ok (.ifCond .lt 8, 3) := by decide +kernel
theorem dX0_ranked_13 : decode cX0_ranked 13 = .ok (.iload_n 2, 1) := by decide +kernel
theorem dX0_ranked_14 : decode cX0_ranked 14 = .ok (.iload_n 3, 1) := by decide +kernel
theorem dX0_ranked_15 : decode cX0_ranked 15 = .ok (.if_icmp .lt 13, 3) := by decide +kernel
theorem dX0_ranked_18 : decode cX0_ranked 18 = .ok (.new 63, 3) := by decide +kernel
theorem dX0_ranked_21 : decode cX0_ranked 21 = .ok (.dup, 1) := by decide +kernel
theorem dX0_ranked_22 : decode cX0_ranked 22 = .ok (.ldc 79, 2) := by decide +kernel
theorem dX0_ranked_24 : decode cX0_ranked 24 = .ok (.invokespecial 67, 3) := by decide +kernel
theorem dX0_ranked_27 : decode cX0_ranked 27 = .ok (.athrow, 1) := by decide +kernel
theorem dX0_ranked_28 : decode cX0_ranked 28 = .ok (.aload_n 0, 1) := by decide +kernel
theorem dX0_ranked_29 : decode cX0_ranked 29 = .ok (.iload_n 3, 1) := by decide +kernel
theorem dX0_ranked_30 : decode cX0_ranked 30 = .ok (.iload_n 1, 1) := by decide +kernel
theorem dX0_ranked_31 : decode cX0_ranked 31 = .ok (.iconst 1, 1) := by decide +kernel
theorem dX0_ranked_32 : decode cX0_ranked 32 = .ok (.invokevirtual 101, 3) := by decide +kernel
theorem dX0_ranked_35 : decode cX0_ranked 35 = .ok (.aload_n 0, 1) := by decide +kernel
theorem dX0_ranked_36 : decode cX0_ranked 36 = .ok (.getfield 42, 3) := by decide +kernel
theorem dX0_ranked_39 : decode cX0_ranked 39 = .ok (.iload_n 2, 1) := by decide +kernel
theorem dX0_ranked_40 : decode cX0_ranked 40 = .ok (.iaload, 1) := by decide +kernel
theorem dX0_ranked_41 : decode cX0_ranked 41 = .ok (.ireturn, 1) := by decide +kernel
theorem dX0_groups_0 : decode cX0_groups 0 = .ok (.iload_n 1, 1) := by decide +kernel
theorem dX0_groups_1 : decode cX0_groups 1 = .ok (.invokestatic 60, 3) := by decide +kernel
theorem dX0_groups_4 : decode cX0_groups 4 = .ok (.aload_n 0, 1) := by decide +kernel
theorem dX0_groups_5 : decode cX0_groups 5 = .ok (.invokevirtual 75, 3) := by decide +kernel
theorem dX0_groups_8 : decode cX0_groups 8 = .ok (.istore_n 2, 1) := by decide +kernel
theorem dX0_groups_9 : decode cX0_groups 9 = .ok (.aload_n 0, 1) := by decide +kernel
theorem dX0_groups_10 : decode cX0_groups 10 = .ok (.iload_n 2, 1) := by decide +kernel
theorem dX0_groups_11 : decode cX0_groups 11 = .ok (.iload_n 1, 1) := by decide +kernel
theorem dX0_groups_12 : decode cX0_groups 12 = .ok (.iconst 0, 1) := by decide +kernel
theorem dX0_groups_13 : decode cX0_groups 13 = .ok (.invokevirtual 101, 3) := by decide +kernel
theorem dX0_groups_16 : decode cX0_groups 16 = .ok (.iconst 0, 1) := by decide +kernel
theorem dX0_groups_17 : decode cX0_groups 17 = .ok (.istore_n 3, 1) := by decide +kernel
theorem dX0_groups_18 : decode cX0_groups 18 = .ok (.iconst 0, 1) := by decide +kernel
theorem dX0_groups_19 : decode cX0_groups 19 = .ok (.istore 4, 2) := by decide +kernel
theorem dX0_groups_21 : decode cX0_groups 21 = .ok (.iload 4, 2) := by decide +kernel
theorem dX0_groups_23 : decode cX0_groups 23 = .ok (.iload_n 2, 1) := by decide +kernel
theorem dX0_groups_24 : decode cX0_groups 24 = .ok (.if_icmp .ge 22, 3) := by decide +kernel
theorem dX0_groups_27 : decode cX0_groups 27 = .ok (.aload_n 0, 1) := by decide +kernel
theorem dX0_groups_28 : decode cX0_groups 28 = .ok (.iload 4, 2) := by decide +kernel
theorem dX0_groups_30 : decode cX0_groups 30 = .ok (.iload_n 1, 1) := by decide +kernel
theorem dX0_groups_31 : decode cX0_groups 31 = .ok (.invokevirtual 105, 3) := by decide +kernel
theorem dX0_groups_34 : decode cX0_groups 34 = .ok (.ifCond .eq 6, 3) := by decide +kernel
theorem dX0_groups_37 : decode cX0_groups 37 = .ok (.iinc 3 1, 3) := by decide +kernel
theorem dX0_groups_40 : decode cX0_groups 40 = .ok (.iinc 4 1, 3) := by decide +kernel
theorem dX0_groups_43 : decode cX0_groups 43 = .ok (.goto (-22), 3) := by decide +kernel
theorem dX0_groups_46 : decode cX0_groups 46 = .ok (.iload_n 3, 1) := by decide +kernel
theorem dX0_groups_47 : decode cX0_groups 47 = .ok (.ireturn, 1) := by decide +kernel
theorem dX0_group_0 : decode cX0_group 0 = .ok (.iload_n 1, 1) := by decide +kernel
theorem dX0_group_1 : decode cX0_group 1 = .ok (.invokestatic 60, 3) := by decide +kernel
theorem dX0_group_4 : decode cX0_group 4 = .ok (.iload 4, 2) := by decide +kernel
theorem dX0_group_6 : decode cX0_group 6 = .ok (.invokestatic 60, 3) := by decide +kernel
theorem dX0_group_9 : decode cX0_group 9 = .ok (.iload_n 3, 1) := by decide +kernel
theorem dX0_group_10 : decode cX0_group 10 = .ok (.ifCond .lt 8, 3) := by decide +kernel
theorem dX0_group_13 : decode cX0_group 13 = .ok (.iload_n 3, 1) := by decide +kernel
theorem dX0_group_14 : decode cX0_group 14 = .ok (.iconst 4, 1) := by decide +kernel
theorem dX0_group_15 : decode cX0_group 15 = .ok (.if_icmp .le 13, 3) := by decide +kernel
theorem dX0_group_18 : decode cX0_group 18 = .ok (.new 68, 3) := by decide +kernel
theorem dX0_group_21 : decode cX0_group 21 = .ok (.dup, 1) := by decide +kernel
theorem dX0_group_22 : decode cX0_group 22 = .ok (.ldc 109, 2) := by decide +kernel
theorem dX0_group_24 : decode cX0_group 24 = .ok (.invokespecial 72, 3) := by decide +kernel
theorem dX0_group_27 : decode cX0_group 27 = .ok (.athrow, 1) := by decide +kernel
theorem dX0_group_28 : decode cX0_group 28 = .ok (.aload_n 0, 1) := by decide +kernel
theorem dX0_group_29 : decode cX0_group 29 = .ok (.invokevirtual 75, 3) := by decide +kernel
theorem dX0_group_32 : decode cX0_group 32 = .ok (.istore 5, 2) := by decide +kernel
theorem dX0_group_34 : decode cX0_group 34 = .ok (.aload_n 0, 1) := by decide +kernel
theorem dX0_group_35 : decode cX0_group 35 = .ok (.iload 5, 2) := by decide +kernel
theorem dX0_group_37 : decode cX0_group 37 = .ok (.iload_n 1, 1) := by decide +kernel
theorem dX0_group_38 : decode cX0_group 38 = .ok (.iconst 0, 1) := by decide +kernel
theorem dX0_group_39 : decode cX0_group 39 = .ok (.invokevirtual 101, 3) := by decide +kernel
theorem dX0_group_42 : decode cX0_group 42 = .ok (.aload_n 0, 1) := by decide +kernel
theorem dX0_group_43 : decode cX0_group 43 = .ok (.iload_n 2, 1) := by decide +kernel
theorem dX0_group_44 : decode cX0_group 44 = .ok (.iload_n 1, 1) := by decide +kernel
theorem dX0_group_45 : decode cX0_group 45 = .ok (.iload 5, 2) := by decide +kernel
theorem dX0_group_47 : decode cX0_group 47 = .ok (.invokevirtual 111, 3) := by decide +kernel
theorem dX0_group_50 : decode cX0_group 50 = .ok (.istore 6, 2) := by decide +kernel
theorem dX0_group_52 : decode cX0_group 52 = .ok (.iload 6, 2) := by decide +kernel
theorem dX0_group_54 : decode cX0_group 54 = .ok (.ifCond .ge 13, 3) := by decide +kernel
theorem dX0_group_57 : decode cX0_group 57 = .ok (.new 63, 3) := by decide +kernel
theorem dX0_group_60 : decode cX0_group 60 = .ok (.dup, 1) := by decide +kernel
theorem dX0_group_61 : decode cX0_group 61 = .ok (.ldc 115, 2) := by decide +kernel
theorem dX0_group_63 : decode cX0_group 63 = .ok (.invokespecial 67, 3) := by decide +kernel
theorem dX0_group_66 : decode cX0_group 66 = .ok (.athrow, 1) := by decide +kernel
theorem dX0_group_67 : decode cX0_group 67 = .ok (.aload_n 0, 1) := by decide +kernel
theorem dX0_group_68 : decode cX0_group 68 = .ok (.iload 6, 2) := by decide +kernel
theorem dX0_group_70 : decode cX0_group 70 = .ok (.iload_n 1, 1) := by decide +kernel
theorem dX0_group_71 : decode cX0_group 71 = .ok (.iload 5, 2) := by decide +kernel
theorem dX0_group_73 : decode cX0_group 73 = .ok (.invokevirtual 117, 3) := by decide +kernel
theorem dX0_group_76 : decode cX0_group 76 = .ok (.istore 7, 2) := by decide +kernel
theorem dX0_group_78 : decode cX0_group 78 = .ok (.iload_n 3, 1) := by decide +kernel
theorem dX0_group_79 : decode cX0_group 79 = .ok (.tableswitch 76 0 3 #[29, 46, 53, 64], 29) := by decide +kernel
theorem dX0_group_108 : decode cX0_group 108 = .ok (.aload_n 0, 1) := by decide +kernel
theorem dX0_group_109 : decode cX0_group 109 = .ok (.getfield 9, 3) := by decide +kernel
theorem dX0_group_112 : decode cX0_group 112 = .ok (.aload_n 0, 1) := by decide +kernel
theorem dX0_group_113 : decode cX0_group 113 = .ok (.getfield 42, 3) := by decide +kernel
theorem dX0_group_116 : decode cX0_group 116 = .ok (.iload 6, 2) := by decide +kernel
theorem dX0_group_118 : decode cX0_group 118 = .ok (.iaload, 1) := by decide +kernel
theorem dX0_group_119 : decode cX0_group 119 = .ok (.iload_n 1, 1) := by decide +kernel
theorem dX0_group_120 : decode cX0_group 120 = .ok (.invokestatic 52, 3) := by decide +kernel
theorem dX0_group_123 : decode cX0_group 123 = .ok (.laload, 1) := by decide +kernel
theorem dX0_group_124 : decode cX0_group 124 = .ok (.lreturn, 1) := by decide +kernel
theorem dX0_group_125 : decode cX0_group 125 = .ok (.iload 7, 2) := by decide +kernel
theorem dX0_group_127 : decode cX0_group 127 = .ok (.iload 6, 2) := by decide +kernel
theorem dX0_group_129 : decode cX0_group 129 = .ok (.isub, 1) := by decide +kernel
theorem dX0_group_130 : decode cX0_group 130 = .ok (.i2l, 1) := by decide +kernel
theorem dX0_group_131 : decode cX0_group 131 = .ok (.lreturn, 1) := by decide +kernel
theorem dX0_group_132 : decode cX0_group 132 = .ok (.aload_n 0, 1) := by decide +kernel
theorem dX0_group_133 : decode cX0_group 133 = .ok (.iload 4, 2) := by decide +kernel
theorem dX0_group_135 : decode cX0_group 135 = .ok (.iload 6, 2) := by decide +kernel
theorem dX0_group_137 : decode cX0_group 137 = .ok (.iload 7, 2) := by decide +kernel
theorem dX0_group_139 : decode cX0_group 139 = .ok (.invokevirtual 88, 3) := by decide +kernel
theorem dX0_group_142 : decode cX0_group 142 = .ok (.lreturn, 1) := by decide +kernel
theorem dX0_group_143 : decode cX0_group 143 = .ok (.aload_n 0, 1) := by decide +kernel
theorem dX0_group_144 : decode cX0_group 144 = .ok (.iload 4, 2) := by decide +kernel
theorem dX0_group_146 : decode cX0_group 146 = .ok (.iconst 0, 1) := by decide +kernel
theorem dX0_group_147 : decode cX0_group 147 = .ok (.iload 6, 2) := by decide +kernel
theorem dX0_group_149 : decode cX0_group 149 = .ok (.iload 7, 2) := by decide +kernel
theorem dX0_group_151 : decode cX0_group 151 = .ok (.invokevirtual 97, 3) := by decide +kernel
theorem dX0_group_154 : decode cX0_group 154 = .ok (.lreturn, 1) := by decide +kernel
theorem dX0_group_155 : decode cX0_group 155 = .ok (.aload_n 0, 1) := by decide +kernel
theorem dX0_group_156 : decode cX0_group 156 = .ok (.iload 4, 2) := by decide +kernel
theorem dX0_group_158 : decode cX0_group 158 = .ok (.iconst 1, 1) := by decide +kernel
theorem dX0_group_159 : decode cX0_group 159 = .ok (.iload 6, 2) := by decide +kernel
theorem dX0_group_161 : decode cX0_group 161 = .ok (.iload 7, 2) := by decide +kernel
theorem dX0_group_163 : decode cX0_group 163 = .ok (.invokevirtual 97, 3) := by decide +kernel
theorem dX0_group_166 : decode cX0_group 166 = .ok (.lreturn, 1) := by decide +kernel
theorem dX0_pairs_0 : decode cX0_pairs 0 = .ok (.iload_n 1, 1) := by decide +kernel
theorem dX0_pairs_1 : decode cX0_pairs 1 = .ok (.invokestatic 60, 3) := by decide +kernel
theorem dX0_pairs_4 : decode cX0_pairs 4 = .ok (.iload_n 2, 1) := by decide +kernel
theorem dX0_pairs_5 : decode cX0_pairs 5 = .ok (.invokestatic 60, 3) := by decide +kernel
theorem dX0_pairs_8 : decode cX0_pairs 8 = .ok (.aload_n 0, 1) := by decide +kernel
theorem dX0_pairs_9 : decode cX0_pairs 9 = .ok (.invokevirtual 75, 3) := by decide +kernel
theorem dX0_pairs_12 : decode cX0_pairs 12 = .ok (.istore_n 3, 1) := by decide +kernel
theorem dX0_pairs_13 : decode cX0_pairs 13 = .ok (.iconst 0, 1) := by decide +kernel
theorem dX0_pairs_14 : decode cX0_pairs 14 = .ok (.istore 4, 2) := by decide +kernel
theorem dX0_pairs_16 : decode cX0_pairs 16 = .ok (.iconst 1, 1) := by decide +kernel
theorem dX0_pairs_17 : decode cX0_pairs 17 = .ok (.istore 5, 2) := by decide +kernel
theorem dX0_pairs_19 : decode cX0_pairs 19 = .ok (.iload 5, 2) := by decide +kernel
theorem dX0_pairs_21 : decode cX0_pairs 21 = .ok (.iload_n 3, 1) := by decide +kernel
theorem dX0_pairs_22 : decode cX0_pairs 22 = .ok (.if_icmp .ge 68, 3) := by decide +kernel
theorem dX0_pairs_25 : decode cX0_pairs 25 = .ok (.aload_n 0, 1) := by decide +kernel
theorem dX0_pairs_26 : decode cX0_pairs 26 = .ok (.getfield 9, 3) := by decide +kernel
theorem dX0_pairs_29 : decode cX0_pairs 29 = .ok (.aload_n 0, 1) := by decide +kernel
theorem dX0_pairs_30 : decode cX0_pairs 30 = .ok (.getfield 42, 3) := by decide +kernel
theorem dX0_pairs_33 : decode cX0_pairs 33 = .ok (.iload 5, 2) := by decide +kernel
theorem dX0_pairs_35 : decode cX0_pairs 35 = .ok (.iaload, 1) := by decide +kernel
theorem dX0_pairs_36 : decode cX0_pairs 36 = .ok (.iload_n 2, 1) := by decide +kernel
theorem dX0_pairs_37 : decode cX0_pairs 37 = .ok (.invokestatic 52, 3) := by decide +kernel
theorem dX0_pairs_40 : decode cX0_pairs 40 = .ok (.laload, 1) := by decide +kernel
theorem dX0_pairs_41 : decode cX0_pairs 41 = .ok (.lstore 6, 2) := by decide +kernel
theorem dX0_pairs_43 : decode cX0_pairs 43 = .ok (.iconst 0, 1) := by decide +kernel
theorem dX0_pairs_44 : decode cX0_pairs 44 = .ok (.istore 8, 2) := by decide +kernel
theorem dX0_pairs_46 : decode cX0_pairs 46 = .ok (.iload 8, 2) := by decide +kernel
theorem dX0_pairs_48 : decode cX0_pairs 48 = .ok (.iload 5, 2) := by decide +kernel
theorem dX0_pairs_50 : decode cX0_pairs 50 = .ok (.if_icmp .ge 34, 3) := by decide +kernel
theorem dX0_pairs_53 : decode cX0_pairs 53 = .ok (.aload_n 0, 1) := by decide +kernel
theorem dX0_pairs_54 : decode cX0_pairs 54 = .ok (.getfield 9, 3) := by decide +kernel
theorem dX0_pairs_57 : decode cX0_pairs 57 = .ok (.aload_n 0, 1) := by decide +kernel
theorem dX0_pairs_58 : decode cX0_pairs 58 = .ok (.getfield 42, 3) := by decide +kernel
theorem dX0_pairs_61 : decode cX0_pairs 61 = .ok (.iload 8, 2) := by decide +kernel
theorem dX0_pairs_63 : decode cX0_pairs 63 = .ok (.iaload, 1) := by decide +kernel
theorem dX0_pairs_64 : decode cX0_pairs 64 = .ok (.iload_n 1, 1) := by decide +kernel
theorem dX0_pairs_65 : decode cX0_pairs 65 = .ok (.invokestatic 52, 3) := by decide +kernel
theorem dX0_pairs_68 : decode cX0_pairs 68 = .ok (.laload, 1) := by decide +kernel
theorem dX0_pairs_69 : decode cX0_pairs 69 = .ok (.lload 6, 2) := by decide +kernel
theorem dX0_pairs_71 : decode cX0_pairs 71 = .ok (.lcmp, 1) := by decide +kernel
theorem dX0_pairs_72 : decode cX0_pairs 72 = .ok (.ifCond .ne 6, 3) := by decide +kernel
theorem dX0_pairs_75 : decode cX0_pairs 75 = .ok (.iinc 4 1, 3) := by decide +kernel
theorem dX0_pairs_78 : decode cX0_pairs 78 = .ok (.iinc 8 1, 3) := by decide +kernel
theorem dX0_pairs_81 : decode cX0_pairs 81 = .ok (.goto (-35), 3) := by decide +kernel
theorem dX0_pairs_84 : decode cX0_pairs 84 = .ok (.iinc 5 1, 3) := by decide +kernel
theorem dX0_pairs_87 : decode cX0_pairs 87 = .ok (.goto (-68), 3) := by decide +kernel
theorem dX0_pairs_90 : decode cX0_pairs 90 = .ok (.iload 4, 2) := by decide +kernel
theorem dX0_pairs_92 : decode cX0_pairs 92 = .ok (.ireturn, 1) := by decide +kernel
theorem dX0_way_0 : decode cX0_way 0 = .ok (.iload_n 2, 1) := by decide +kernel
theorem dX0_way_1 : decode cX0_way 1 = .ok (.invokestatic 60, 3) := by decide +kernel
theorem dX0_way_4 : decode cX0_way 4 = .ok (.aload_n 0, 1) := by decide +kernel
theorem dX0_way_5 : decode cX0_way 5 = .ok (.iload_n 1, 1) := by decide +kernel
theorem dX0_way_6 : decode cX0_way 6 = .ok (.invokevirtual 120, 3) := by decide +kernel
theorem dX0_way_9 : decode cX0_way 9 = .ok (.aload_n 0, 1) := by decide +kernel
theorem dX0_way_10 : decode cX0_way 10 = .ok (.getfield 36, 3) := by decide +kernel
theorem dX0_way_13 : decode cX0_way 13 = .ok (.iload_n 1, 1) := by decide +kernel
theorem dX0_way_14 : decode cX0_way 14 = .ok (.iload_n 2, 1) := by decide +kernel
theorem dX0_way_15 : decode cX0_way 15 = .ok (.invokestatic 123, 3) := by decide +kernel
theorem dX0_way_18 : decode cX0_way 18 = .ok (.iaload, 1) := by decide +kernel
theorem dX0_way_19 : decode cX0_way 19 = .ok (.ireturn, 1) := by decide +kernel
theorem dX0_bits_0 : decode cX0_bits 0 = .ok (.iload_n 2, 1) := by decide +kernel
theorem dX0_bits_1 : decode cX0_bits 1 = .ok (.invokestatic 60, 3) := by decide +kernel
theorem dX0_bits_4 : decode cX0_bits 4 = .ok (.aload_n 0, 1) := by decide +kernel
theorem dX0_bits_5 : decode cX0_bits 5 = .ok (.iload_n 1, 1) := by decide +kernel
theorem dX0_bits_6 : decode cX0_bits 6 = .ok (.invokevirtual 120, 3) := by decide +kernel
theorem dX0_bits_9 : decode cX0_bits 9 = .ok (.aload_n 0, 1) := by decide +kernel
theorem dX0_bits_10 : decode cX0_bits 10 = .ok (.getfield 39, 3) := by decide +kernel
theorem dX0_bits_13 : decode cX0_bits 13 = .ok (.iload_n 1, 1) := by decide +kernel
theorem dX0_bits_14 : decode cX0_bits 14 = .ok (.iload_n 2, 1) := by decide +kernel
theorem dX0_bits_15 : decode cX0_bits 15 = .ok (.invokestatic 123, 3) := by decide +kernel
theorem dX0_bits_18 : decode cX0_bits 18 = .ok (.iaload, 1) := by decide +kernel
theorem dX0_bits_19 : decode cX0_bits 19 = .ok (.ireturn, 1) := by decide +kernel
theorem dX0_purge_0 : decode cX0_purge 0 = .ok (.aload_n 0, 1) := by decide +kernel
theorem dX0_purge_1 : decode cX0_purge 1 = .ok (.invokevirtual 75, 3) := by decide +kernel
theorem dX0_purge_4 : decode cX0_purge 4 = .ok (.istore_n 1, 1) := by decide +kernel
theorem dX0_purge_5 : decode cX0_purge 5 = .ok (.iconst 0, 1) := by decide +kernel
theorem dX0_purge_6 : decode cX0_purge 6 = .ok (.istore_n 2, 1) := by decide +kernel
theorem dX0_purge_7 : decode cX0_purge 7 = .ok (.iconst 0, 1) := by decide +kernel
theorem dX0_purge_8 : decode cX0_purge 8 = .ok (.istore_n 3, 1) := by decide +kernel
theorem dX0_purge_9 : decode cX0_purge 9 = .ok (.iconst 0, 1) := by decide +kernel
theorem dX0_purge_10 : decode cX0_purge 10 = .ok (.istore 4, 2) := by decide +kernel
theorem dX0_purge_12 : decode cX0_purge 12 = .ok (.iload 4, 2) := by decide +kernel
theorem dX0_purge_14 : decode cX0_purge 14 = .ok (.aload_n 0, 1) := by decide +kernel
theorem dX0_purge_15 : decode cX0_purge 15 = .ok (.getfield 13, 3) := by decide +kernel
theorem dX0_purge_18 : decode cX0_purge 18 = .ok (.if_icmp .ge 41, 3) := by decide +kernel
theorem dX0_purge_21 : decode cX0_purge 21 = .ok (.iload_n 3, 1) := by decide +kernel
theorem dX0_purge_22 : decode cX0_purge 22 = .ok (.iload_n 1, 1) := by decide +kernel
theorem dX0_purge_23 : decode cX0_purge 23 = .ok (.if_icmp .ge 20, 3) := by decide +kernel
theorem dX0_purge_26 : decode cX0_purge 26 = .ok (.aload_n 0, 1) := by decide +kernel
theorem dX0_purge_27 : decode cX0_purge 27 = .ok (.getfield 42, 3) := by decide +kernel
theorem dX0_purge_30 : decode cX0_purge 30 = .ok (.iload_n 3, 1) := by decide +kernel
theorem dX0_purge_31 : decode cX0_purge 31 = .ok (.iaload, 1) := by decide +kernel
theorem dX0_purge_32 : decode cX0_purge 32 = .ok (.iload 4, 2) := by decide +kernel
theorem dX0_purge_34 : decode cX0_purge 34 = .ok (.if_icmp .ne 9, 3) := by decide +kernel
theorem dX0_purge_37 : decode cX0_purge 37 = .ok (.iinc 3 1, 3) := by decide +kernel
theorem dX0_purge_40 : decode cX0_purge 40 = .ok (.goto 13, 3) := by decide +kernel
theorem dX0_purge_43 : decode cX0_purge 43 = .ok (.aload_n 0, 1) := by decide +kernel
theorem dX0_purge_44 : decode cX0_purge 44 = .ok (.iload 4, 2) := by decide +kernel
theorem dX0_purge_46 : decode cX0_purge 46 = .ok (.iload_n 2, 1) := by decide +kernel
theorem dX0_purge_47 : decode cX0_purge 47 = .ok (.invokevirtual 126, 3) := by decide +kernel
theorem dX0_purge_50 : decode cX0_purge 50 = .ok (.iinc 2 1, 3) := by decide +kernel
theorem dX0_purge_53 : decode cX0_purge 53 = .ok (.iinc 4 1, 3) := by decide +kernel
theorem dX0_purge_56 : decode cX0_purge 56 = .ok (.goto (-44), 3) := by decide +kernel
theorem dX0_purge_59 : decode cX0_purge 59 = .ok (.aload_n 0, 1) := by decide +kernel
theorem dX0_purge_60 : decode cX0_purge 60 = .ok (.iload_n 2, 1) := by decide +kernel
theorem dX0_purge_61 : decode cX0_purge 61 = .ok (.putfield 13, 3) := by decide +kernel
theorem dX0_purge_64 : decode cX0_purge 64 = .ok (.aload_n 0, 1) := by decide +kernel
theorem dX0_purge_65 : decode cX0_purge 65 = .ok (.invokevirtual 130, 3) := by decide +kernel
theorem dX0_purge_68 : decode cX0_purge 68 = .ok (.iload_n 1, 1) := by decide +kernel
theorem dX0_purge_69 : decode cX0_purge 69 = .ok (.ireturn, 1) := by decide +kernel
theorem dX0_refuseBadColumn_0 : decode cX0_refuseBadColumn 0 = .ok (.iload_n 0, 1) := by decide +kernel
theorem dX0_refuseBadColumn_1 : decode cX0_refuseBadColumn 1 = .ok (.ifCond .lt 8, 3) := by decide +kernel
theorem dX0_refuseBadColumn_4 : decode cX0_refuseBadColumn 4 = .ok (.iload_n 0, 1) := by decide +kernel
theorem dX0_refuseBadColumn_5 : decode cX0_refuseBadColumn 5 = .ok (.iconst 4, 1) := by decide +kernel
theorem dX0_refuseBadColumn_6 : decode cX0_refuseBadColumn 6 = .ok (.if_icmp .lt 13, 3) := by decide +kernel
theorem dX0_refuseBadColumn_9 : decode cX0_refuseBadColumn 9 = .ok (.new 68, 3) := by decide +kernel
theorem dX0_refuseBadColumn_12 : decode cX0_refuseBadColumn 12 = .ok (.dup, 1) := by decide +kernel
theorem dX0_refuseBadColumn_13 : decode cX0_refuseBadColumn 13 = .ok (.ldc 133, 2) := by decide +kernel
theorem dX0_refuseBadColumn_15 : decode cX0_refuseBadColumn 15 = .ok (.invokespecial 72, 3) := by decide +kernel
theorem dX0_refuseBadColumn_18 : decode cX0_refuseBadColumn 18 = .ok (.athrow, 1) := by decide +kernel
theorem dX0_refuseBadColumn_19 : decode cX0_refuseBadColumn 19 = .ok (.return_, 1) := by decide +kernel
theorem dX0_refuseUnpackedBlock_0 : decode cX0_refuseUnpackedBlock 0 = .ok (.iload_n 1, 1) := by decide +kernel
theorem dX0_refuseUnpackedBlock_1 : decode cX0_refuseUnpackedBlock 1 = .ok (.ifCond .lt 11, 3) := by decide +kernel
theorem dX0_refuseUnpackedBlock_4 : decode cX0_refuseUnpackedBlock 4 = .ok (.iload_n 1, 1) := by decide +kernel
theorem dX0_refuseUnpackedBlock_5 : decode cX0_refuseUnpackedBlock 5 = .ok (.aload_n 0, 1) := by decide +kernel
theorem dX0_refuseUnpackedBlock_6 : decode cX0_refuseUnpackedBlock 6 = .ok (.invokevirtual 135, 3) := by decide +kernel
theorem dX0_refuseUnpackedBlock_9 : decode cX0_refuseUnpackedBlock 9 = .ok (.if_icmp .lt 13, 3) := by decide +kernel
theorem dX0_refuseUnpackedBlock_12 : decode cX0_refuseUnpackedBlock 12 = .ok (.new 63, 3) := by decide +kernel
theorem dX0_refuseUnpackedBlock_15 : decode cX0_refuseUnpackedBlock 15 = .ok (.dup, 1) := by decide +kernel
theorem dX0_refuseUnpackedBlock_16 : decode cX0_refuseUnpackedBlock 16 = .ok (.ldc 138, 2) := by decide +kernel
theorem dX0_refuseUnpackedBlock_18 : decode cX0_refuseUnpackedBlock 18 = .ok (.invokespecial 67, 3) := by decide +kernel
theorem dX0_refuseUnpackedBlock_21 : decode cX0_refuseUnpackedBlock 21 = .ok (.athrow, 1) := by decide +kernel
theorem dX0_refuseUnpackedBlock_22 : decode cX0_refuseUnpackedBlock 22 = .ok (.return_, 1) := by decide +kernel
theorem dX0_spot_0 : decode cX0_spot 0 = .ok (.iload_n 1, 1) := by decide +kernel
theorem dX0_spot_1 : decode cX0_spot 1 = .ok (.sipush 128, 3) := by decide +kernel
theorem dX0_spot_4 : decode cX0_spot 4 = .ok (.imul, 1) := by decide +kernel
theorem dX0_spot_5 : decode cX0_spot 5 = .ok (.iload_n 0, 1) := by decide +kernel
theorem dX0_spot_6 : decode cX0_spot 6 = .ok (.iadd, 1) := by decide +kernel
theorem dX0_spot_7 : decode cX0_spot 7 = .ok (.ireturn, 1) := by decide +kernel
theorem dX0_place_0 : decode cX0_place 0 = .ok (.iload_n 0, 1) := by decide +kernel
theorem dX0_place_1 : decode cX0_place 1 = .ok (.iconst 4, 1) := by decide +kernel
theorem dX0_place_2 : decode cX0_place 2 = .ok (.imul, 1) := by decide +kernel
theorem dX0_place_3 : decode cX0_place 3 = .ok (.iload_n 1, 1) := by decide +kernel
theorem dX0_place_4 : decode cX0_place 4 = .ok (.iadd, 1) := by decide +kernel
theorem dX0_place_5 : decode cX0_place 5 = .ok (.ireturn, 1) := by decide +kernel
theorem dX0_fullBlocks_0 : decode cX0_fullBlocks 0 = .ok (.aload_n 0, 1) := by decide +kernel
theorem dX0_fullBlocks_1 : decode cX0_fullBlocks 1 = .ok (.getfield 13, 3) := by decide +kernel
theorem dX0_fullBlocks_4 : decode cX0_fullBlocks 4 = .ok (.bipush 16, 2) := by decide +kernel
theorem dX0_fullBlocks_6 : decode cX0_fullBlocks 6 = .ok (.idiv, 1) := by decide +kernel
theorem dX0_fullBlocks_7 : decode cX0_fullBlocks 7 = .ok (.ireturn, 1) := by decide +kernel
theorem dX0_startedBlocks_0 : decode cX0_startedBlocks 0 = .ok (.aload_n 0, 1) := by decide +kernel
theorem dX0_startedBlocks_1 : decode cX0_startedBlocks 1 = .ok (.getfield 13, 3) := by decide +kernel
theorem dX0_startedBlocks_4 : decode cX0_startedBlocks 4 = .ok (.bipush 16, 2) := by decide +kernel
theorem dX0_startedBlocks_6 : decode cX0_startedBlocks 6 = .ok (.iadd, 1) := by decide +kernel
theorem dX0_startedBlocks_7 : decode cX0_startedBlocks 7 = .ok (.iconst 1, 1) := by decide +kernel
theorem dX0_startedBlocks_8 : decode cX0_startedBlocks 8 = .ok (.isub, 1) := by decide +kernel
theorem dX0_startedBlocks_9 : decode cX0_startedBlocks 9 = .ok (.bipush 16, 2) := by decide +kernel
theorem dX0_startedBlocks_11 : decode cX0_startedBlocks 11 = .ok (.idiv, 1) := by decide +kernel
theorem dX0_startedBlocks_12 : decode cX0_startedBlocks 12 = .ok (.ireturn, 1) := by decide +kernel
theorem dX0_moveRow_0 : decode cX0_moveRow 0 = .ok (.iconst 0, 1) := by decide +kernel
theorem dX0_moveRow_1 : decode cX0_moveRow 1 = .ok (.istore_n 3, 1) := by decide +kernel
theorem dX0_moveRow_2 : decode cX0_moveRow 2 = .ok (.iload_n 3, 1) := by decide +kernel
theorem dX0_moveRow_3 : decode cX0_moveRow 3 = .ok (.iconst 4, 1) := by decide +kernel
theorem dX0_moveRow_4 : decode cX0_moveRow 4 = .ok (.if_icmp .ge 29, 3) := by decide +kernel
theorem dX0_moveRow_7 : decode cX0_moveRow 7 = .ok (.aload_n 0, 1) := by decide +kernel
theorem dX0_moveRow_8 : decode cX0_moveRow 8 = .ok (.getfield 9, 3) := by decide +kernel
theorem dX0_moveRow_11 : decode cX0_moveRow 11 = .ok (.iload_n 2, 1) := by decide +kernel
theorem dX0_moveRow_12 : decode cX0_moveRow 12 = .ok (.iload_n 3, 1) := by decide +kernel
theorem dX0_moveRow_13 : decode cX0_moveRow 13 = .ok (.invokestatic 52, 3) := by decide +kernel
theorem dX0_moveRow_16 : decode cX0_moveRow 16 = .ok (.aload_n 0, 1) := by decide +kernel
theorem dX0_moveRow_17 : decode cX0_moveRow 17 = .ok (.getfield 9, 3) := by decide +kernel
theorem dX0_moveRow_20 : decode cX0_moveRow 20 = .ok (.iload_n 1, 1) := by decide +kernel
theorem dX0_moveRow_21 : decode cX0_moveRow 21 = .ok (.iload_n 3, 1) := by decide +kernel
theorem dX0_moveRow_22 : decode cX0_moveRow 22 = .ok (.invokestatic 52, 3) := by decide +kernel
theorem dX0_moveRow_25 : decode cX0_moveRow 25 = .ok (.laload, 1) := by decide +kernel
theorem dX0_moveRow_26 : decode cX0_moveRow 26 = .ok (.lastore, 1) := by decide +kernel
theorem dX0_moveRow_27 : decode cX0_moveRow 27 = .ok (.iinc 3 1, 3) := by decide +kernel
theorem dX0_moveRow_30 : decode cX0_moveRow 30 = .ok (.goto (-28), 3) := by decide +kernel
theorem dX0_moveRow_33 : decode cX0_moveRow 33 = .ok (.return_, 1) := by decide +kernel
theorem dX0_pick_0 : decode cX0_pick 0 = .ok (.iconst 0, 1) := by decide +kernel
theorem dX0_pick_1 : decode cX0_pick 1 = .ok (.istore_n 1, 1) := by decide +kernel
theorem dX0_pick_2 : decode cX0_pick 2 = .ok (.iconst 0, 1) := by decide +kernel
theorem dX0_pick_3 : decode cX0_pick 3 = .ok (.istore_n 2, 1) := by decide +kernel
theorem dX0_pick_4 : decode cX0_pick 4 = .ok (.iload_n 2, 1) := by decide +kernel
theorem dX0_pick_5 : decode cX0_pick 5 = .ok (.aload_n 0, 1) := by decide +kernel
theorem dX0_pick_6 : decode cX0_pick 6 = .ok (.invokevirtual 81, 3) := by decide +kernel
theorem dX0_pick_9 : decode cX0_pick 9 = .ok (.if_icmp .ge 24, 3) := by decide +kernel
theorem dX0_pick_12 : decode cX0_pick 12 = .ok (.aload_n 0, 1) := by decide +kernel
theorem dX0_pick_13 : decode cX0_pick 13 = .ok (.iload_n 2, 1) := by decide +kernel
theorem dX0_pick_14 : decode cX0_pick 14 = .ok (.invokevirtual 84, 3) := by decide +kernel
theorem dX0_pick_17 : decode cX0_pick 17 = .ok (.ifCond .ne 10, 3) := by decide +kernel
theorem dX0_pick_20 : decode cX0_pick 20 = .ok (.aload_n 0, 1) := by decide +kernel
theorem dX0_pick_21 : decode cX0_pick 21 = .ok (.iload_n 2, 1) := by decide +kernel
theorem dX0_pick_22 : decode cX0_pick 22 = .ok (.iload_n 1, 1) := by decide +kernel
theorem dX0_pick_23 : decode cX0_pick 23 = .ok (.invokevirtual 140, 3) := by decide +kernel
theorem dX0_pick_26 : decode cX0_pick 26 = .ok (.istore_n 1, 1) := by decide +kernel
theorem dX0_pick_27 : decode cX0_pick 27 = .ok (.iinc 2 1, 3) := by decide +kernel
theorem dX0_pick_30 : decode cX0_pick 30 = .ok (.goto (-26), 3) := by decide +kernel
theorem dX0_pick_33 : decode cX0_pick 33 = .ok (.iload_n 1, 1) := by decide +kernel
theorem dX0_pick_34 : decode cX0_pick 34 = .ok (.ireturn, 1) := by decide +kernel
theorem dX0_pickFromBlock_0 : decode cX0_pickFromBlock 0 = .ok (.iload_n 2, 1) := by decide +kernel
theorem dX0_pickFromBlock_1 : decode cX0_pickFromBlock 1 = .ok (.istore_n 3, 1) := by decide +kernel
theorem dX0_pickFromBlock_2 : decode cX0_pickFromBlock 2 = .ok (.aload_n 0, 1) := by decide +kernel
theorem dX0_pickFromBlock_3 : decode cX0_pickFromBlock 3 = .ok (.getfield 13, 3) := by decide +kernel
theorem dX0_pickFromBlock_6 : decode cX0_pickFromBlock 6 = .ok (.iload_n 1, 1) := by decide +kernel
theorem dX0_pickFromBlock_7 : decode cX0_pickFromBlock 7 = .ok (.iconst 1, 1) := by decide +kernel
theorem dX0_pickFromBlock_8 : decode cX0_pickFromBlock 8 = .ok (.iadd, 1) := by decide +kernel
theorem dX0_pickFromBlock_9 : decode cX0_pickFromBlock 9 = .ok (.bipush 16, 2) := by decide +kernel
theorem dX0_pickFromBlock_11 : decode cX0_pickFromBlock 11 = .ok (.imul, 1) := by decide +kernel
theorem dX0_pickFromBlock_12 : decode cX0_pickFromBlock 12 = .ok (.invokestatic 143, 3) := by decide +kernel
theorem dX0_pickFromBlock_15 : decode cX0_pickFromBlock 15 = .ok (.istore 4, 2) := by decide +kernel
theorem dX0_pickFromBlock_17 : decode cX0_pickFromBlock 17 = .ok (.iload_n 1, 1) := by decide +kernel
theorem dX0_pickFromBlock_18 : decode cX0_pickFromBlock 18 = .ok (.bipush 16, 2) := by decide +kernel
theorem dX0_pickFromBlock_20 : decode cX0_pickFromBlock 20 = .ok (.imul, 1) := by decide +kernel
theorem dX0_pickFromBlock_21 : decode cX0_pickFromBlock 21 = .ok (.istore 5, 2) := by decide +kernel
theorem dX0_pickFromBlock_23 : decode cX0_pickFromBlock 23 = .ok (.iload 5, 2) := by decide +kernel
theorem dX0_pickFromBlock_25 : decode cX0_pickFromBlock 25 = .ok (.iload 4, 2) := by decide +kernel
theorem dX0_pickFromBlock_27 : decode cX0_pickFromBlock 27 = .ok (.if_icmp .ge 29, 3) := by decide +kernel
theorem dX0_pickFromBlock_30 : decode cX0_pickFromBlock 30 = .ok (.aload_n 0, 1) := by decide +kernel
theorem dX0_pickFromBlock_31 : decode cX0_pickFromBlock 31 = .ok (.iload 5, 2) := by decide +kernel
theorem dX0_pickFromBlock_33 : decode cX0_pickFromBlock 33 = .ok (.invokevirtual 148, 3) := by decide +kernel
theorem dX0_pickFromBlock_36 : decode cX0_pickFromBlock 36 = .ok (.ifCond .eq 14, 3) := by decide +kernel
theorem dX0_pickFromBlock_39 : decode cX0_pickFromBlock 39 = .ok (.aload_n 0, 1) := by decide +kernel
theorem dX0_pickFromBlock_40 : decode cX0_pickFromBlock 40 = .ok (.getfield 42, 3) := by decide +kernel
theorem dX0_pickFromBlock_43 : decode cX0_pickFromBlock 43 = .ok (.iload_n 3, 1) := by decide +kernel
theorem dX0_pickFromBlock_44 : decode cX0_pickFromBlock 44 = .ok (.iload 5, 2) := by decide +kernel
theorem dX0_pickFromBlock_46 : decode cX0_pickFromBlock 46 = .ok (.iastore, 1) := by decide +kernel
theorem dX0_pickFromBlock_47 : decode cX0_pickFromBlock 47 = .ok (.iinc 3 1, 3) := by decide +kernel
theorem dX0_pickFromBlock_50 : decode cX0_pickFromBlock 50 = .ok (.iinc 5 1, 3) := by decide +kernel
theorem dX0_pickFromBlock_53 : decode cX0_pickFromBlock 53 = .ok (.goto (-30), 3) := by decide +kernel
theorem dX0_pickFromBlock_56 : decode cX0_pickFromBlock 56 = .ok (.iload_n 3, 1) := by decide +kernel
theorem dX0_pickFromBlock_57 : decode cX0_pickFromBlock 57 = .ok (.ireturn, 1) := by decide +kernel
theorem dX0_isChosen_0 : decode cX0_isChosen 0 = .ok (.iconst 0, 1) := by decide +kernel
theorem dX0_isChosen_1 : decode cX0_isChosen 1 = .ok (.istore_n 2, 1) := by decide +kernel
theorem dX0_isChosen_2 : decode cX0_isChosen 2 = .ok (.iload_n 2, 1) := by decide +kernel
theorem dX0_isChosen_3 : decode cX0_isChosen 3 = .ok (.aload_n 0, 1) := by decide +kernel
theorem dX0_isChosen_4 : decode cX0_isChosen 4 = .ok (.getfield 27, 3) := by decide +kernel
theorem dX0_isChosen_7 : decode cX0_isChosen 7 = .ok (.if_icmp .ge 47, 3) := by decide +kernel
theorem dX0_isChosen_10 : decode cX0_isChosen 10 = .ok (.aload_n 0, 1) := by decide +kernel
theorem dX0_isChosen_11 : decode cX0_isChosen 11 = .ok (.getfield 9, 3) := by decide +kernel
theorem dX0_isChosen_14 : decode cX0_isChosen 14 = .ok (.iload_n 1, 1) := by decide +kernel
theorem dX0_isChosen_15 : decode cX0_isChosen 15 = .ok (.aload_n 0, 1) := by decide +kernel
theorem dX0_isChosen_16 : decode cX0_isChosen 16 = .ok (.getfield 17, 3) := by decide +kernel
theorem dX0_isChosen_19 : decode cX0_isChosen 19 = .ok (.iload_n 2, 1) := by decide +kernel
theorem dX0_isChosen_20 : decode cX0_isChosen 20 = .ok (.iaload, 1) := by decide +kernel
theorem dX0_isChosen_21 : decode cX0_isChosen 21 = .ok (.invokestatic 52, 3) := by decide +kernel
theorem dX0_isChosen_24 : decode cX0_isChosen 24 = .ok (.laload, 1) := by decide +kernel
theorem dX0_isChosen_25 : decode cX0_isChosen 25 = .ok (.lstore_n 3, 1) := by decide +kernel
theorem dX0_isChosen_26 : decode cX0_isChosen 26 = .ok (.aload_n 0, 1) := by decide +kernel
theorem dX0_isChosen_27 : decode cX0_isChosen 27 = .ok (.getfield 21, 3) := by decide +kernel
theorem dX0_isChosen_30 : decode cX0_isChosen 30 = .ok (.iload_n 2, 1) := by decide +kernel
theorem dX0_isChosen_31 : decode cX0_isChosen 31 = .ok (.iaload, 1) := by decide +kernel
theorem dX0_isChosen_32 : decode cX0_isChosen 32 = .ok (.aload_n 0, 1) := by decide +kernel
theorem dX0_isChosen_33 : decode cX0_isChosen 33 = .ok (.getfield 24, 3) := by decide +kernel
theorem dX0_isChosen_36 : decode cX0_isChosen 36 = .ok (.iload_n 2, 1) := by decide +kernel
theorem dX0_isChosen_37 : decode cX0_isChosen 37 = .ok (.laload, 1) := by decide +kernel
theorem dX0_isChosen_38 : decode cX0_isChosen 38 = .ok (.lload_n 3, 1) := by decide +kernel
theorem dX0_isChosen_39 : decode cX0_isChosen 39 = .ok (.lload_n 3, 1) := by decide +kernel
theorem dX0_isChosen_40 : decode cX0_isChosen 40 = .ok (.invokestatic 151, 3) := by decide +kernel
theorem dX0_isChosen_43 : decode cX0_isChosen 43 = .ok (.ifCond .ne 5, 3) := by decide +kernel
theorem dX0_isChosen_46 : decode cX0_isChosen 46 = .ok (.iconst 0, 1) := by decide +kernel
theorem dX0_isChosen_47 : decode cX0_isChosen 47 = .ok (.ireturn, 1) := by decide +kernel
theorem dX0_isChosen_48 : decode cX0_isChosen 48 = .ok (.iinc 2 1, 3) := by decide +kernel
theorem dX0_isChosen_51 : decode cX0_isChosen 51 = .ok (.goto (-49), 3) := by decide +kernel
theorem dX0_isChosen_54 : decode cX0_isChosen 54 = .ok (.iconst 1, 1) := by decide +kernel
theorem dX0_isChosen_55 : decode cX0_isChosen 55 = .ok (.ireturn, 1) := by decide +kernel
theorem dX0_isPassedOver_0 : decode cX0_isPassedOver 0 = .ok (.iload_n 1, 1) := by decide +kernel
theorem dX0_isPassedOver_1 : decode cX0_isPassedOver 1 = .ok (.aload_n 0, 1) := by decide +kernel
theorem dX0_isPassedOver_2 : decode cX0_isPassedOver 2 = .ok (.invokevirtual 135, 3) := by decide +kernel
theorem dX0_isPassedOver_5 : decode cX0_isPassedOver 5 = .ok (.if_icmp .lt 5, 3) := by decide +kernel
theorem dX0_isPassedOver_8 : decode cX0_isPassedOver 8 = .ok (.iconst 0, 1) := by decide +kernel
theorem dX0_isPassedOver_9 : decode cX0_isPassedOver 9 = .ok (.ireturn, 1) := by decide +kernel
theorem dX0_isPassedOver_10 : decode cX0_isPassedOver 10 = .ok (.iconst 0, 1) := by decide +kernel
theorem dX0_isPassedOver_11 : decode cX0_isPassedOver 11 = .ok (.istore_n 2, 1) := by decide +kernel
theorem dX0_isPassedOver_12 : decode cX0_isPassedOver 12 = .ok (.iload_n 2, 1) := by decide +kernel
theorem dX0_isPassedOver_13 : decode cX0_isPassedOver 13 = .ok (.aload_n 0, 1) := by decide +kernel
theorem dX0_isPassedOver_14 : decode cX0_isPassedOver 14 = .ok (.getfield 27, 3) := by decide +kernel
theorem dX0_isPassedOver_17 : decode cX0_isPassedOver 17 = .ok (.if_icmp .ge 52, 3) := by decide +kernel
theorem dX0_isPassedOver_20 : decode cX0_isPassedOver 20 = .ok (.iload_n 1, 1) := by decide +kernel
theorem dX0_isPassedOver_21 : decode cX0_isPassedOver 21 = .ok (.aload_n 0, 1) := by decide +kernel
theorem dX0_isPassedOver_22 : decode cX0_isPassedOver 22 = .ok (.getfield 17, 3) := by decide +kernel
theorem dX0_isPassedOver_25 : decode cX0_isPassedOver 25 = .ok (.iload_n 2, 1) := by decide +kernel
theorem dX0_isPassedOver_26 : decode cX0_isPassedOver 26 = .ok (.iaload, 1) := by decide +kernel
theorem dX0_isPassedOver_27 : decode cX0_isPassedOver 27 = .ok (.invokestatic 123, 3) := by decide +kernel
theorem dX0_isPassedOver_30 : decode cX0_isPassedOver 30 = .ok (.istore_n 3, 1) := by decide +kernel
theorem dX0_isPassedOver_31 : decode cX0_isPassedOver 31 = .ok (.aload_n 0, 1) := by decide +kernel
theorem dX0_isPassedOver_32 : decode cX0_isPassedOver 32 = .ok (.getfield 21, 3) := by decide +kernel
theorem dX0_isPassedOver_35 : decode cX0_isPassedOver 35 = .ok (.iload_n 2, 1) := by decide +kernel
theorem dX0_isPassedOver_36 : decode cX0_isPassedOver 36 = .ok (.iaload, 1) := by decide +kernel
theorem dX0_isPassedOver_37 : decode cX0_isPassedOver 37 = .ok (.aload_n 0, 1) := by decide +kernel
theorem dX0_isPassedOver_38 : decode cX0_isPassedOver 38 = .ok (.getfield 24, 3) := by decide +kernel
theorem dX0_isPassedOver_41 : decode cX0_isPassedOver 41 = .ok (.iload_n 2, 1) := by decide +kernel
theorem dX0_isPassedOver_42 : decode cX0_isPassedOver 42 = .ok (.laload, 1) := by decide +kernel
theorem dX0_isPassedOver_43 : decode cX0_isPassedOver 43 = .ok (.aload_n 0, 1) := by decide +kernel
theorem dX0_isPassedOver_44 : decode cX0_isPassedOver 44 = .ok (.getfield 30, 3) := by decide +kernel
theorem dX0_isPassedOver_47 : decode cX0_isPassedOver 47 = .ok (.iload_n 3, 1) := by decide +kernel
theorem dX0_isPassedOver_48 : decode cX0_isPassedOver 48 = .ok (.laload, 1) := by decide +kernel
theorem dX0_isPassedOver_49 : decode cX0_isPassedOver 49 = .ok (.aload_n 0, 1) := by decide +kernel
theorem dX0_isPassedOver_50 : decode cX0_isPassedOver 50 = .ok (.getfield 33, 3) := by decide +kernel
theorem dX0_isPassedOver_53 : decode cX0_isPassedOver 53 = .ok (.iload_n 3, 1) := by decide +kernel
theorem dX0_isPassedOver_54 : decode cX0_isPassedOver 54 = .ok (.laload, 1) := by decide +kernel
theorem dX0_isPassedOver_55 : decode cX0_isPassedOver 55 = .ok (.invokestatic 151, 3) := by decide +kernel
theorem dX0_isPassedOver_58 : decode cX0_isPassedOver 58 = .ok (.ifCond .ne 5, 3) := by decide +kernel
theorem dX0_isPassedOver_61 : decode cX0_isPassedOver 61 = .ok (.iconst 1, 1) := by decide +kernel
theorem dX0_isPassedOver_62 : decode cX0_isPassedOver 62 = .ok (.ireturn, 1) := by decide +kernel
theorem dX0_isPassedOver_63 : decode cX0_isPassedOver 63 = .ok (.iinc 2 1, 3) := by decide +kernel
theorem dX0_isPassedOver_66 : decode cX0_isPassedOver 66 = .ok (.goto (-54), 3) := by decide +kernel
theorem dX0_isPassedOver_69 : decode cX0_isPassedOver 69 = .ok (.iconst 0, 1) := by decide +kernel
theorem dX0_isPassedOver_70 : decode cX0_isPassedOver 70 = .ok (.ireturn, 1) := by decide +kernel
theorem dX0_couldHold_0 : decode cX0_couldHold 0 = .ok (.iload_n 0, 1) := by decide +kernel
theorem dX0_couldHold_1 : decode cX0_couldHold 1 = .ok (.tableswitch 104 0 4 #[35, 47, 59, 78, 91], 35) := by decide +kernel
theorem dX0_couldHold_36 : decode cX0_couldHold 36 = .ok (.lload_n 3, 1) := by decide +kernel
theorem dX0_couldHold_37 : decode cX0_couldHold 37 = .ok (.lload_n 1, 1) := by decide +kernel
theorem dX0_couldHold_38 : decode cX0_couldHold 38 = .ok (.lcmp, 1) := by decide +kernel
theorem dX0_couldHold_39 : decode cX0_couldHold 39 = .ok (.ifCond .ge 7, 3) := by decide +kernel
theorem dX0_couldHold_42 : decode cX0_couldHold 42 = .ok (.iconst 1, 1) := by decide +kernel
theorem dX0_couldHold_43 : decode cX0_couldHold 43 = .ok (.goto 4, 3) := by decide +kernel
theorem dX0_couldHold_46 : decode cX0_couldHold 46 = .ok (.iconst 0, 1) := by decide +kernel
theorem dX0_couldHold_47 : decode cX0_couldHold 47 = .ok (.ireturn, 1) := by decide +kernel
theorem dX0_couldHold_48 : decode cX0_couldHold 48 = .ok (.lload_n 3, 1) := by decide +kernel
theorem dX0_couldHold_49 : decode cX0_couldHold 49 = .ok (.lload_n 1, 1) := by decide +kernel
theorem dX0_couldHold_50 : decode cX0_couldHold 50 = .ok (.lcmp, 1) := by decide +kernel
theorem dX0_couldHold_51 : decode cX0_couldHold 51 = .ok (.ifCond .gt 7, 3) := by decide +kernel
theorem dX0_couldHold_54 : decode cX0_couldHold 54 = .ok (.iconst 1, 1) := by decide +kernel
theorem dX0_couldHold_55 : decode cX0_couldHold 55 = .ok (.goto 4, 3) := by decide +kernel
theorem dX0_couldHold_58 : decode cX0_couldHold 58 = .ok (.iconst 0, 1) := by decide +kernel
theorem dX0_couldHold_59 : decode cX0_couldHold 59 = .ok (.ireturn, 1) := by decide +kernel
theorem dX0_couldHold_60 : decode cX0_couldHold 60 = .ok (.lload_n 3, 1) := by decide +kernel
theorem dX0_couldHold_61 : decode cX0_couldHold 61 = .ok (.lload_n 1, 1) := by decide +kernel
theorem dX0_couldHold_62 : decode cX0_couldHold 62 = .ok (.lcmp, 1) := by decide +kernel
theorem dX0_couldHold_63 : decode cX0_couldHold 63 = .ok (.ifCond .gt 14, 3) := by decide +kernel
theorem dX0_couldHold_66 : decode cX0_couldHold 66 = .ok (.lload_n 1, 1) := by decide +kernel
theorem dX0_couldHold_67 : decode cX0_couldHold 67 = .ok (.lload 5, 2) := by decide +kernel
theorem dX0_couldHold_69 : decode cX0_couldHold 69 = .ok (.lcmp, 1) := by decide +kernel
theorem dX0_couldHold_70 : decode cX0_couldHold 70 = .ok (.ifCond .gt 7, 3) := by decide +kernel
theorem dX0_couldHold_73 : decode cX0_couldHold 73 = .ok (.iconst 1, 1) := by decide +kernel
theorem dX0_couldHold_74 : decode cX0_couldHold 74 = .ok (.goto 4, 3) := by decide +kernel
theorem dX0_couldHold_77 : decode cX0_couldHold 77 = .ok (.iconst 0, 1) := by decide +kernel
theorem dX0_couldHold_78 : decode cX0_couldHold 78 = .ok (.ireturn, 1) := by decide +kernel
theorem dX0_couldHold_79 : decode cX0_couldHold 79 = .ok (.lload 5, 2) := by decide +kernel
theorem dX0_couldHold_81 : decode cX0_couldHold 81 = .ok (.lload_n 1, 1) := by decide +kernel
theorem dX0_couldHold_82 : decode cX0_couldHold 82 = .ok (.lcmp, 1) := by decide +kernel
theorem dX0_couldHold_83 : decode cX0_couldHold 83 = .ok (.ifCond .lt 7, 3) := by decide +kernel
theorem dX0_couldHold_86 : decode cX0_couldHold 86 = .ok (.iconst 1, 1) := by decide +kernel
theorem dX0_couldHold_87 : decode cX0_couldHold 87 = .ok (.goto 4, 3) := by decide +kernel
theorem dX0_couldHold_90 : decode cX0_couldHold 90 = .ok (.iconst 0, 1) := by decide +kernel
theorem dX0_couldHold_91 : decode cX0_couldHold 91 = .ok (.ireturn, 1) := by decide +kernel
theorem dX0_couldHold_92 : decode cX0_couldHold 92 = .ok (.lload 5, 2) := by decide +kernel
theorem dX0_couldHold_94 : decode cX0_couldHold 94 = .ok (.lload_n 1, 1) := by decide +kernel
theorem dX0_couldHold_95 : decode cX0_couldHold 95 = .ok (.lcmp, 1) := by decide +kernel
theorem dX0_couldHold_96 : decode cX0_couldHold 96 = .ok (.ifCond .le 7, 3) := by decide +kernel
theorem dX0_couldHold_99 : decode cX0_couldHold 99 = .ok (.iconst 1, 1) := by decide +kernel
theorem dX0_couldHold_100 : decode cX0_couldHold 100 = .ok (.goto 4, 3) := by decide +kernel
theorem dX0_couldHold_103 : decode cX0_couldHold 103 = .ok (.iconst 0, 1) := by decide +kernel
theorem dX0_couldHold_104 : decode cX0_couldHold 104 = .ok (.ireturn, 1) := by decide +kernel
theorem dX0_couldHold_105 : decode cX0_couldHold 105 = .ok (.lload_n 3, 1) := by decide +kernel
theorem dX0_couldHold_106 : decode cX0_couldHold 106 = .ok (.lload_n 1, 1) := by decide +kernel
theorem dX0_couldHold_107 : decode cX0_couldHold 107 = .ok (.lcmp, 1) := by decide +kernel
theorem dX0_couldHold_108 : decode cX0_couldHold 108 = .ok (.ifCond .ne 10, 3) := by decide +kernel
theorem dX0_couldHold_111 : decode cX0_couldHold 111 = .ok (.lload 5, 2) := by decide +kernel
theorem dX0_couldHold_113 : decode cX0_couldHold 113 = .ok (.lload_n 1, 1) := by decide +kernel
theorem dX0_couldHold_114 : decode cX0_couldHold 114 = .ok (.lcmp, 1) := by decide +kernel
theorem dX0_couldHold_115 : decode cX0_couldHold 115 = .ok (.ifCond .eq 7, 3) := by decide +kernel
theorem dX0_couldHold_118 : decode cX0_couldHold 118 = .ok (.iconst 1, 1) := by decide +kernel
theorem dX0_couldHold_119 : decode cX0_couldHold 119 = .ok (.goto 4, 3) := by decide +kernel
theorem dX0_couldHold_122 : decode cX0_couldHold 122 = .ok (.iconst 0, 1) := by decide +kernel
theorem dX0_couldHold_123 : decode cX0_couldHold 123 = .ok (.ireturn, 1) := by decide +kernel
theorem dX0_sumOfPicked_0 : decode cX0_sumOfPicked 0 = .ok (.lconst 0, 1) := by decide +kernel
theorem dX0_sumOfPicked_1 : decode cX0_sumOfPicked 1 = .ok (.lstore 4, 2) := by decide +kernel
theorem dX0_sumOfPicked_3 : decode cX0_sumOfPicked 3 = .ok (.iload_n 2, 1) := by decide +kernel
theorem dX0_sumOfPicked_4 : decode cX0_sumOfPicked 4 = .ok (.istore 6, 2) := by decide +kernel
theorem dX0_sumOfPicked_6 : decode cX0_sumOfPicked 6 = .ok (.iload 6, 2) := by decide +kernel
theorem dX0_sumOfPicked_8 : decode cX0_sumOfPicked 8 = .ok (.iload_n 3, 1) := by decide +kernel
theorem dX0_sumOfPicked_9 : decode cX0_sumOfPicked 9 = .ok (.if_icmp .ge 30, 3) := by decide +kernel
theorem dX0_sumOfPicked_12 : decode cX0_sumOfPicked 12 = .ok (.lload 4, 2) := by decide +kernel
theorem dX0_sumOfPicked_14 : decode cX0_sumOfPicked 14 = .ok (.aload_n 0, 1) := by decide +kernel
theorem dX0_sumOfPicked_15 : decode cX0_sumOfPicked 15 = .ok (.getfield 9, 3) := by decide +kernel
theorem dX0_sumOfPicked_18 : decode cX0_sumOfPicked 18 = .ok (.aload_n 0, 1) := by decide +kernel
theorem dX0_sumOfPicked_19 : decode cX0_sumOfPicked 19 = .ok (.getfield 42, 3) := by decide +kernel
theorem dX0_sumOfPicked_22 : decode cX0_sumOfPicked 22 = .ok (.iload 6, 2) := by decide +kernel
theorem dX0_sumOfPicked_24 : decode cX0_sumOfPicked 24 = .ok (.iaload, 1) := by decide +kernel
theorem dX0_sumOfPicked_25 : decode cX0_sumOfPicked 25 = .ok (.iload_n 1, 1) := by decide +kernel
theorem dX0_sumOfPicked_26 : decode cX0_sumOfPicked 26 = .ok (.invokestatic 52, 3) := by decide +kernel
theorem dX0_sumOfPicked_29 : decode cX0_sumOfPicked 29 = .ok (.laload, 1) := by decide +kernel
theorem dX0_sumOfPicked_30 : decode cX0_sumOfPicked 30 = .ok (.ladd, 1) := by decide +kernel
theorem dX0_sumOfPicked_31 : decode cX0_sumOfPicked 31 = .ok (.lstore 4, 2) := by decide +kernel
theorem dX0_sumOfPicked_33 : decode cX0_sumOfPicked 33 = .ok (.iinc 6 1, 3) := by decide +kernel
theorem dX0_sumOfPicked_36 : decode cX0_sumOfPicked 36 = .ok (.goto (-30), 3) := by decide +kernel
theorem dX0_sumOfPicked_39 : decode cX0_sumOfPicked 39 = .ok (.lload 4, 2) := by decide +kernel
theorem dX0_sumOfPicked_41 : decode cX0_sumOfPicked 41 = .ok (.lreturn, 1) := by decide +kernel
theorem dX0_boundOfPicked_0 : decode cX0_boundOfPicked 0 = .ok (.aload_n 0, 1) := by decide +kernel
theorem dX0_boundOfPicked_1 : decode cX0_boundOfPicked 1 = .ok (.getfield 9, 3) := by decide +kernel
theorem dX0_boundOfPicked_4 : decode cX0_boundOfPicked 4 = .ok (.aload_n 0, 1) := by decide +kernel
theorem dX0_boundOfPicked_5 : decode cX0_boundOfPicked 5 = .ok (.getfield 42, 3) := by decide +kernel
theorem dX0_boundOfPicked_8 : decode cX0_boundOfPicked 8 = .ok (.iload_n 3, 1) := by decide +kernel
theorem dX0_boundOfPicked_9 : decode cX0_boundOfPicked 9 = .ok (.iaload, 1) := by decide +kernel
theorem dX0_boundOfPicked_10 : decode cX0_boundOfPicked 10 = .ok (.iload_n 1, 1) := by decide +kernel
theorem dX0_boundOfPicked_11 : decode cX0_boundOfPicked 11 = .ok (.invokestatic 52, 3) := by decide +kernel
theorem dX0_boundOfPicked_14 : decode cX0_boundOfPicked 14 = .ok (.laload, 1) := by decide +kernel
theorem dX0_boundOfPicked_15 : decode cX0_boundOfPicked 15 = .ok (.lstore 5, 2) := by decide +kernel
theorem dX0_boundOfPicked_17 : decode cX0_boundOfPicked 17 = .ok (.iload_n 3, 1) := by decide +kernel
theorem dX0_boundOfPicked_18 : decode cX0_boundOfPicked 18 = .ok (.iconst 1, 1) := by decide +kernel
theorem dX0_boundOfPicked_19 : decode cX0_boundOfPicked 19 = .ok (.iadd, 1) := by decide +kernel
theorem dX0_boundOfPicked_20 : decode cX0_boundOfPicked 20 = .ok (.istore 7, 2) := by decide +kernel
theorem dX0_boundOfPicked_22 : decode cX0_boundOfPicked 22 = .ok (.iload 7, 2) := by decide +kernel
theorem dX0_boundOfPicked_24 : decode cX0_boundOfPicked 24 = .ok (.iload 4, 2) := by decide +kernel
theorem dX0_boundOfPicked_26 : decode cX0_boundOfPicked 26 = .ok (.if_icmp .ge 54, 3) := by decide +kernel
theorem dX0_boundOfPicked_29 : decode cX0_boundOfPicked 29 = .ok (.aload_n 0, 1) := by decide +kernel
theorem dX0_boundOfPicked_30 : decode cX0_boundOfPicked 30 = .ok (.getfield 9, 3) := by decide +kernel
theorem dX0_boundOfPicked_33 : decode cX0_boundOfPicked 33 = .ok (.aload_n 0, 1) := by decide +kernel
theorem dX0_boundOfPicked_34 : decode cX0_boundOfPicked 34 = .ok (.getfield 42, 3) := by decide +kernel
theorem dX0_boundOfPicked_37 : decode cX0_boundOfPicked 37 = .ok (.iload 7, 2) := by decide +kernel
theorem dX0_boundOfPicked_39 : decode cX0_boundOfPicked 39 = .ok (.iaload, 1) := by decide +kernel
theorem dX0_boundOfPicked_40 : decode cX0_boundOfPicked 40 = .ok (.iload_n 1, 1) := by decide +kernel
theorem dX0_boundOfPicked_41 : decode cX0_boundOfPicked 41 = .ok (.invokestatic 52, 3) := by decide +kernel
theorem dX0_boundOfPicked_44 : decode cX0_boundOfPicked 44 = .ok (.laload, 1) := by decide +kernel
theorem dX0_boundOfPicked_45 : decode cX0_boundOfPicked 45 = .ok (.lstore 8, 2) := by decide +kernel
theorem dX0_boundOfPicked_47 : decode cX0_boundOfPicked 47 = .ok (.iload_n 2, 1) := by decide +kernel
theorem dX0_boundOfPicked_48 : decode cX0_boundOfPicked 48 = .ok (.ifCond .eq 14, 3) := by decide +kernel
theorem dX0_boundOfPicked_51 : decode cX0_boundOfPicked 51 = .ok (.lload 8, 2) := by decide +kernel
theorem dX0_boundOfPicked_53 : decode cX0_boundOfPicked 53 = .ok (.lload 5, 2) := by decide +kernel
theorem dX0_boundOfPicked_55 : decode cX0_boundOfPicked 55 = .ok (.lcmp, 1) := by decide +kernel
theorem dX0_boundOfPicked_56 : decode cX0_boundOfPicked 56 = .ok (.ifCond .le 18, 3) := by decide +kernel
theorem dX0_boundOfPicked_59 : decode cX0_boundOfPicked 59 = .ok (.goto 11, 3) := by decide +kernel
theorem dX0_boundOfPicked_62 : decode cX0_boundOfPicked 62 = .ok (.lload 8, 2) := by decide +kernel
theorem dX0_boundOfPicked_64 : decode cX0_boundOfPicked 64 = .ok (.lload 5, 2) := by decide +kernel
theorem dX0_boundOfPicked_66 : decode cX0_boundOfPicked 66 = .ok (.lcmp, 1) := by decide +kernel
theorem dX0_boundOfPicked_67 : decode cX0_boundOfPicked 67 = .ok (.ifCond .ge 7, 3) := by decide +kernel
theorem dX0_boundOfPicked_70 : decode cX0_boundOfPicked 70 = .ok (.lload 8, 2) := by decide +kernel
theorem dX0_boundOfPicked_72 : decode cX0_boundOfPicked 72 = .ok (.lstore 5, 2) := by decide +kernel
theorem dX0_boundOfPicked_74 : decode cX0_boundOfPicked 74 = .ok (.iinc 7 1, 3) := by decide +kernel
theorem dX0_boundOfPicked_77 : decode cX0_boundOfPicked 77 = .ok (.goto (-55), 3) := by decide +kernel
theorem dX0_boundOfPicked_80 : decode cX0_boundOfPicked 80 = .ok (.lload 5, 2) := by decide +kernel
theorem dX0_boundOfPicked_82 : decode cX0_boundOfPicked 82 = .ok (.lreturn, 1) := by decide +kernel
theorem dX0_sortPicked_0 : decode cX0_sortPicked 0 = .ok (.iconst 1, 1) := by decide +kernel
theorem dX0_sortPicked_1 : decode cX0_sortPicked 1 = .ok (.istore 4, 2) := by decide +kernel
theorem dX0_sortPicked_3 : decode cX0_sortPicked 3 = .ok (.iload 4, 2) := by decide +kernel
theorem dX0_sortPicked_5 : decode cX0_sortPicked 5 = .ok (.iload_n 1, 1) := by decide +kernel
theorem dX0_sortPicked_6 : decode cX0_sortPicked 6 = .ok (.if_icmp .ge 98, 3) := by decide +kernel
theorem dX0_sortPicked_9 : decode cX0_sortPicked 9 = .ok (.aload_n 0, 1) := by decide +kernel
theorem dX0_sortPicked_10 : decode cX0_sortPicked 10 = .ok (.getfield 42, 3) := by decide +kernel
theorem dX0_sortPicked_13 : decode cX0_sortPicked 13 = .ok (.iload 4, 2) := by decide +kernel
theorem dX0_sortPicked_15 : decode cX0_sortPicked 15 = .ok (.iaload, 1) := by decide +kernel
theorem dX0_sortPicked_16 : decode cX0_sortPicked 16 = .ok (.istore 5, 2) := by decide +kernel
theorem dX0_sortPicked_18 : decode cX0_sortPicked 18 = .ok (.aload_n 0, 1) := by decide +kernel
theorem dX0_sortPicked_19 : decode cX0_sortPicked 19 = .ok (.getfield 9, 3) := by decide +kernel
theorem dX0_sortPicked_22 : decode cX0_sortPicked 22 = .ok (.iload 5, 2) := by decide +kernel
theorem dX0_sortPicked_24 : decode cX0_sortPicked 24 = .ok (.iload_n 2, 1) := by decide +kernel
theorem dX0_sortPicked_25 : decode cX0_sortPicked 25 = .ok (.invokestatic 52, 3) := by decide +kernel
theorem dX0_sortPicked_28 : decode cX0_sortPicked 28 = .ok (.laload, 1) := by decide +kernel
theorem dX0_sortPicked_29 : decode cX0_sortPicked 29 = .ok (.lstore 6, 2) := by decide +kernel
theorem dX0_sortPicked_31 : decode cX0_sortPicked 31 = .ok (.iload 4, 2) := by decide +kernel
theorem dX0_sortPicked_33 : decode cX0_sortPicked 33 = .ok (.istore 8, 2) := by decide +kernel
theorem dX0_sortPicked_35 : decode cX0_sortPicked 35 = .ok (.iload 8, 2) := by decide +kernel
theorem dX0_sortPicked_37 : decode cX0_sortPicked 37 = .ok (.ifCond .le 52, 3) := by decide +kernel
theorem dX0_sortPicked_40 : decode cX0_sortPicked 40 = .ok (.lload 6, 2) := by decide +kernel
theorem dX0_sortPicked_42 : decode cX0_sortPicked 42 = .ok (.aload_n 0, 1) := by decide +kernel
theorem dX0_sortPicked_43 : decode cX0_sortPicked 43 = .ok (.getfield 9, 3) := by decide +kernel
theorem dX0_sortPicked_46 : decode cX0_sortPicked 46 = .ok (.aload_n 0, 1) := by decide +kernel
theorem dX0_sortPicked_47 : decode cX0_sortPicked 47 = .ok (.getfield 42, 3) := by decide +kernel
theorem dX0_sortPicked_50 : decode cX0_sortPicked 50 = .ok (.iload 8, 2) := by decide +kernel
theorem dX0_sortPicked_52 : decode cX0_sortPicked 52 = .ok (.iconst 1, 1) := by decide +kernel
theorem dX0_sortPicked_53 : decode cX0_sortPicked 53 = .ok (.isub, 1) := by decide +kernel
theorem dX0_sortPicked_54 : decode cX0_sortPicked 54 = .ok (.iaload, 1) := by decide +kernel
theorem dX0_sortPicked_55 : decode cX0_sortPicked 55 = .ok (.iload_n 2, 1) := by decide +kernel
theorem dX0_sortPicked_56 : decode cX0_sortPicked 56 = .ok (.invokestatic 52, 3) := by decide +kernel
theorem dX0_sortPicked_59 : decode cX0_sortPicked 59 = .ok (.laload, 1) := by decide +kernel
theorem dX0_sortPicked_60 : decode cX0_sortPicked 60 = .ok (.iload_n 3, 1) := by decide +kernel
theorem dX0_sortPicked_61 : decode cX0_sortPicked 61 = .ok (.invokestatic 155, 3) := by decide +kernel
theorem dX0_sortPicked_64 : decode cX0_sortPicked 64 = .ok (.ifCond .eq 25, 3) := by decide +kernel
theorem dX0_sortPicked_67 : decode cX0_sortPicked 67 = .ok (.aload_n 0, 1) := by decide +kernel
theorem dX0_sortPicked_68 : decode cX0_sortPicked 68 = .ok (.getfield 42, 3) := by decide +kernel
theorem dX0_sortPicked_71 : decode cX0_sortPicked 71 = .ok (.iload 8, 2) := by decide +kernel
theorem dX0_sortPicked_73 : decode cX0_sortPicked 73 = .ok (.aload_n 0, 1) := by decide +kernel
theorem dX0_sortPicked_74 : decode cX0_sortPicked 74 = .ok (.getfield 42, 3) := by decide +kernel
theorem dX0_sortPicked_77 : decode cX0_sortPicked 77 = .ok (.iload 8, 2) := by decide +kernel
theorem dX0_sortPicked_79 : decode cX0_sortPicked 79 = .ok (.iconst 1, 1) := by decide +kernel
theorem dX0_sortPicked_80 : decode cX0_sortPicked 80 = .ok (.isub, 1) := by decide +kernel
theorem dX0_sortPicked_81 : decode cX0_sortPicked 81 = .ok (.iaload, 1) := by decide +kernel
theorem dX0_sortPicked_82 : decode cX0_sortPicked 82 = .ok (.iastore, 1) := by decide +kernel
theorem dX0_sortPicked_83 : decode cX0_sortPicked 83 = .ok (.iinc 8 (-1), 3) := by decide +kernel
theorem dX0_sortPicked_86 : decode cX0_sortPicked 86 = .ok (.goto (-51), 3) := by decide +kernel
theorem dX0_sortPicked_89 : decode cX0_sortPicked 89 = .ok (.aload_n 0, 1) := by decide +kernel
theorem dX0_sortPicked_90 : decode cX0_sortPicked 90 = .ok (.getfield 42, 3) := by decide +kernel
theorem dX0_sortPicked_93 : decode cX0_sortPicked 93 = .ok (.iload 8, 2) := by decide +kernel
theorem dX0_sortPicked_95 : decode cX0_sortPicked 95 = .ok (.iload 5, 2) := by decide +kernel
theorem dX0_sortPicked_97 : decode cX0_sortPicked 97 = .ok (.iastore, 1) := by decide +kernel
theorem dX0_sortPicked_98 : decode cX0_sortPicked 98 = .ok (.iinc 4 1, 3) := by decide +kernel
theorem dX0_sortPicked_101 : decode cX0_sortPicked 101 = .ok (.goto (-98), 3) := by decide +kernel
theorem dX0_sortPicked_104 : decode cX0_sortPicked 104 = .ok (.return_, 1) := by decide +kernel
theorem dX0_comesBefore_0 : decode cX0_comesBefore 0 = .ok (.iload 4, 2) := by decide +kernel
theorem dX0_comesBefore_2 : decode cX0_comesBefore 2 = .ok (.ifCond .eq 17, 3) := by decide +kernel
theorem dX0_comesBefore_5 : decode cX0_comesBefore 5 = .ok (.lload_n 0, 1) := by decide +kernel
theorem dX0_comesBefore_6 : decode cX0_comesBefore 6 = .ok (.lload_n 2, 1) := by decide +kernel
theorem dX0_comesBefore_7 : decode cX0_comesBefore 7 = .ok (.lcmp, 1) := by decide +kernel
theorem dX0_comesBefore_8 : decode cX0_comesBefore 8 = .ok (.ifCond .le 7, 3) := by decide +kernel
theorem dX0_comesBefore_11 : decode cX0_comesBefore 11 = .ok (.iconst 1, 1) := by decide +kernel
theorem dX0_comesBefore_12 : decode cX0_comesBefore 12 = .ok (.goto 18, 3) := by decide +kernel
theorem dX0_comesBefore_15 : decode cX0_comesBefore 15 = .ok (.iconst 0, 1) := by decide +kernel
theorem dX0_comesBefore_16 : decode cX0_comesBefore 16 = .ok (.goto 14, 3) := by decide +kernel
theorem dX0_comesBefore_19 : decode cX0_comesBefore 19 = .ok (.lload_n 0, 1) := by decide +kernel
theorem dX0_comesBefore_20 : decode cX0_comesBefore 20 = .ok (.lload_n 2, 1) := by decide +kernel
theorem dX0_comesBefore_21 : decode cX0_comesBefore 21 = .ok (.lcmp, 1) := by decide +kernel
theorem dX0_comesBefore_22 : decode cX0_comesBefore 22 = .ok (.ifCond .ge 7, 3) := by decide +kernel
theorem dX0_comesBefore_25 : decode cX0_comesBefore 25 = .ok (.iconst 1, 1) := by decide +kernel
theorem dX0_comesBefore_26 : decode cX0_comesBefore 26 = .ok (.goto 4, 3) := by decide +kernel
theorem dX0_comesBefore_29 : decode cX0_comesBefore 29 = .ok (.iconst 0, 1) := by decide +kernel
theorem dX0_comesBefore_30 : decode cX0_comesBefore 30 = .ok (.ireturn, 1) := by decide +kernel
theorem dX0_startsGroup_0 : decode cX0_startsGroup 0 = .ok (.iload_n 1, 1) := by decide +kernel
theorem dX0_startsGroup_1 : decode cX0_startsGroup 1 = .ok (.ifCond .eq 39, 3) := by decide +kernel
theorem dX0_startsGroup_4 : decode cX0_startsGroup 4 = .ok (.aload_n 0, 1) := by decide +kernel
theorem dX0_startsGroup_5 : decode cX0_startsGroup 5 = .ok (.getfield 9, 3) := by decide +kernel
theorem dX0_startsGroup_8 : decode cX0_startsGroup 8 = .ok (.aload_n 0, 1) := by decide +kernel
theorem dX0_startsGroup_9 : decode cX0_startsGroup 9 = .ok (.getfield 42, 3) := by decide +kernel
theorem dX0_startsGroup_12 : decode cX0_startsGroup 12 = .ok (.iload_n 1, 1) := by decide +kernel
theorem dX0_startsGroup_13 : decode cX0_startsGroup 13 = .ok (.iaload, 1) := by decide +kernel
theorem dX0_startsGroup_14 : decode cX0_startsGroup 14 = .ok (.iload_n 2, 1) := by decide +kernel
theorem dX0_startsGroup_15 : decode cX0_startsGroup 15 = .ok (.invokestatic 52, 3) := by decide +kernel
theorem dX0_startsGroup_18 : decode cX0_startsGroup 18 = .ok (.laload, 1) := by decide +kernel
theorem dX0_startsGroup_19 : decode cX0_startsGroup 19 = .ok (.aload_n 0, 1) := by decide +kernel
theorem dX0_startsGroup_20 : decode cX0_startsGroup 20 = .ok (.getfield 9, 3) := by decide +kernel
theorem dX0_startsGroup_23 : decode cX0_startsGroup 23 = .ok (.aload_n 0, 1) := by decide +kernel
theorem dX0_startsGroup_24 : decode cX0_startsGroup 24 = .ok (.getfield 42, 3) := by decide +kernel
theorem dX0_startsGroup_27 : decode cX0_startsGroup 27 = .ok (.iload_n 1, 1) := by decide +kernel
theorem dX0_startsGroup_28 : decode cX0_startsGroup 28 = .ok (.iconst 1, 1) := by decide +kernel
theorem dX0_startsGroup_29 : decode cX0_startsGroup 29 = .ok (.isub, 1) := by decide +kernel
theorem dX0_startsGroup_30 : decode cX0_startsGroup 30 = .ok (.iaload, 1) := by decide +kernel
theorem dX0_startsGroup_31 : decode cX0_startsGroup 31 = .ok (.iload_n 2, 1) := by decide +kernel
theorem dX0_startsGroup_32 : decode cX0_startsGroup 32 = .ok (.invokestatic 52, 3) := by decide +kernel
theorem dX0_startsGroup_35 : decode cX0_startsGroup 35 = .ok (.laload, 1) := by decide +kernel
theorem dX0_startsGroup_36 : decode cX0_startsGroup 36 = .ok (.lcmp, 1) := by decide +kernel
theorem dX0_startsGroup_37 : decode cX0_startsGroup 37 = .ok (.ifCond .eq 7, 3) := by decide +kernel
theorem dX0_startsGroup_40 : decode cX0_startsGroup 40 = .ok (.iconst 1, 1) := by decide +kernel
theorem dX0_startsGroup_41 : decode cX0_startsGroup 41 = .ok (.goto 4, 3) := by decide +kernel
theorem dX0_startsGroup_44 : decode cX0_startsGroup 44 = .ok (.iconst 0, 1) := by decide +kernel
theorem dX0_startsGroup_45 : decode cX0_startsGroup 45 = .ok (.ireturn, 1) := by decide +kernel
theorem dX0_groupStart_0 : decode cX0_groupStart 0 = .ok (.iconst 0, 1) := by decide +kernel
theorem dX0_groupStart_1 : decode cX0_groupStart 1 = .ok (.istore 4, 2) := by decide +kernel
theorem dX0_groupStart_3 : decode cX0_groupStart 3 = .ok (.iconst 0, 1) := by decide +kernel
theorem dX0_groupStart_4 : decode cX0_groupStart 4 = .ok (.istore 5, 2) := by decide +kernel
theorem dX0_groupStart_6 : decode cX0_groupStart 6 = .ok (.iload 5, 2) := by decide +kernel
theorem dX0_groupStart_8 : decode cX0_groupStart 8 = .ok (.iload_n 3, 1) := by decide +kernel
theorem dX0_groupStart_9 : decode cX0_groupStart 9 = .ok (.if_icmp .ge 31, 3) := by decide +kernel
theorem dX0_groupStart_12 : decode cX0_groupStart 12 = .ok (.aload_n 0, 1) := by decide +kernel
theorem dX0_groupStart_13 : decode cX0_groupStart 13 = .ok (.iload 5, 2) := by decide +kernel
theorem dX0_groupStart_15 : decode cX0_groupStart 15 = .ok (.iload_n 2, 1) := by decide +kernel
theorem dX0_groupStart_16 : decode cX0_groupStart 16 = .ok (.invokevirtual 105, 3) := by decide +kernel
theorem dX0_groupStart_19 : decode cX0_groupStart 19 = .ok (.ifCond .eq 15, 3) := by decide +kernel
theorem dX0_groupStart_22 : decode cX0_groupStart 22 = .ok (.iload 4, 2) := by decide +kernel
theorem dX0_groupStart_24 : decode cX0_groupStart 24 = .ok (.iload_n 1, 1) := by decide +kernel
theorem dX0_groupStart_25 : decode cX0_groupStart 25 = .ok (.if_icmp .ne 6, 3) := by decide +kernel
theorem dX0_groupStart_28 : decode cX0_groupStart 28 = .ok (.iload 5, 2) := by decide +kernel
theorem dX0_groupStart_30 : decode cX0_groupStart 30 = .ok (.ireturn, 1) := by decide +kernel
theorem dX0_groupStart_31 : decode cX0_groupStart 31 = .ok (.iinc 4 1, 3) := by decide +kernel
theorem dX0_groupStart_34 : decode cX0_groupStart 34 = .ok (.iinc 5 1, 3) := by decide +kernel
theorem dX0_groupStart_37 : decode cX0_groupStart 37 = .ok (.goto (-31), 3) := by decide +kernel
theorem dX0_groupStart_40 : decode cX0_groupStart 40 = .ok (.iconst (-1), 1) := by decide +kernel
theorem dX0_groupStart_41 : decode cX0_groupStart 41 = .ok (.ireturn, 1) := by decide +kernel
theorem dX0_groupEnd_0 : decode cX0_groupEnd 0 = .ok (.iload_n 1, 1) := by decide +kernel
theorem dX0_groupEnd_1 : decode cX0_groupEnd 1 = .ok (.iconst 1, 1) := by decide +kernel
theorem dX0_groupEnd_2 : decode cX0_groupEnd 2 = .ok (.iadd, 1) := by decide +kernel
theorem dX0_groupEnd_3 : decode cX0_groupEnd 3 = .ok (.istore 4, 2) := by decide +kernel
theorem dX0_groupEnd_5 : decode cX0_groupEnd 5 = .ok (.iload 4, 2) := by decide +kernel
theorem dX0_groupEnd_7 : decode cX0_groupEnd 7 = .ok (.iload_n 3, 1) := by decide +kernel
theorem dX0_groupEnd_8 : decode cX0_groupEnd 8 = .ok (.if_icmp .ge 22, 3) := by decide +kernel
theorem dX0_groupEnd_11 : decode cX0_groupEnd 11 = .ok (.aload_n 0, 1) := by decide +kernel
theorem dX0_groupEnd_12 : decode cX0_groupEnd 12 = .ok (.iload 4, 2) := by decide +kernel
theorem dX0_groupEnd_14 : decode cX0_groupEnd 14 = .ok (.iload_n 2, 1) := by decide +kernel
theorem dX0_groupEnd_15 : decode cX0_groupEnd 15 = .ok (.invokevirtual 105, 3) := by decide +kernel
theorem dX0_groupEnd_18 : decode cX0_groupEnd 18 = .ok (.ifCond .eq 6, 3) := by decide +kernel
theorem dX0_groupEnd_21 : decode cX0_groupEnd 21 = .ok (.iload 4, 2) := by decide +kernel
theorem dX0_groupEnd_23 : decode cX0_groupEnd 23 = .ok (.ireturn, 1) := by decide +kernel
theorem dX0_groupEnd_24 : decode cX0_groupEnd 24 = .ok (.iinc 4 1, 3) := by decide +kernel
theorem dX0_groupEnd_27 : decode cX0_groupEnd 27 = .ok (.goto (-22), 3) := by decide +kernel
theorem dX0_groupEnd_30 : decode cX0_groupEnd 30 = .ok (.iload_n 3, 1) := by decide +kernel
theorem dX0_groupEnd_31 : decode cX0_groupEnd 31 = .ok (.ireturn, 1) := by decide +kernel
theorem dX0_packFullBlocks_0 : decode cX0_packFullBlocks 0 = .ok (.iconst 0, 1) := by decide +kernel
theorem dX0_packFullBlocks_1 : decode cX0_packFullBlocks 1 = .ok (.istore_n 1, 1) := by decide +kernel
theorem dX0_packFullBlocks_2 : decode cX0_packFullBlocks 2 = .ok (.iload_n 1, 1) := by decide +kernel
theorem dX0_packFullBlocks_3 : decode cX0_packFullBlocks 3 = .ok (.aload_n 0, 1) := by decide +kernel
theorem dX0_packFullBlocks_4 : decode cX0_packFullBlocks 4 = .ok (.invokevirtual 135, 3) := by decide +kernel
theorem dX0_packFullBlocks_7 : decode cX0_packFullBlocks 7 = .ok (.if_icmp .ge 14, 3) := by decide +kernel
theorem dX0_packFullBlocks_10 : decode cX0_packFullBlocks 10 = .ok (.aload_n 0, 1) := by decide +kernel
theorem dX0_packFullBlocks_11 : decode cX0_packFullBlocks 11 = .ok (.iload_n 1, 1) := by decide +kernel
theorem dX0_packFullBlocks_12 : decode cX0_packFullBlocks 12 = .ok (.invokevirtual 56, 3) := by decide +kernel
theorem dX0_packFullBlocks_15 : decode cX0_packFullBlocks 15 = .ok (.iinc 1 1, 3) := by decide +kernel
theorem dX0_packFullBlocks_18 : decode cX0_packFullBlocks 18 = .ok (.goto (-16), 3) := by decide +kernel
theorem dX0_packFullBlocks_21 : decode cX0_packFullBlocks 21 = .ok (.return_, 1) := by decide +kernel
theorem dX0_packBlock_0 : decode cX0_packBlock 0 = .ok (.iconst 0, 1) := by decide +kernel
theorem dX0_packBlock_1 : decode cX0_packBlock 1 = .ok (.istore_n 2, 1) := by decide +kernel
theorem dX0_packBlock_2 : decode cX0_packBlock 2 = .ok (.iload_n 2, 1) := by decide +kernel
theorem dX0_packBlock_3 : decode cX0_packBlock 3 = .ok (.iconst 4, 1) := by decide +kernel
theorem dX0_packBlock_4 : decode cX0_packBlock 4 = .ok (.if_icmp .ge 15, 3) := by decide +kernel
theorem dX0_packBlock_7 : decode cX0_packBlock 7 = .ok (.aload_n 0, 1) := by decide +kernel
theorem dX0_packBlock_8 : decode cX0_packBlock 8 = .ok (.iload_n 1, 1) := by decide +kernel
theorem dX0_packBlock_9 : decode cX0_packBlock 9 = .ok (.iload_n 2, 1) := by decide +kernel
theorem dX0_packBlock_10 : decode cX0_packBlock 10 = .ok (.invokevirtual 159, 3) := by decide +kernel
theorem dX0_packBlock_13 : decode cX0_packBlock 13 = .ok (.iinc 2 1, 3) := by decide +kernel
theorem dX0_packBlock_16 : decode cX0_packBlock 16 = .ok (.goto (-14), 3) := by decide +kernel
theorem dX0_packBlock_19 : decode cX0_packBlock 19 = .ok (.return_, 1) := by decide +kernel
theorem dX0_packColumn_0 : decode cX0_packColumn 0 = .ok (.iload_n 1, 1) := by decide +kernel
theorem dX0_packColumn_1 : decode cX0_packColumn 1 = .ok (.bipush 16, 2) := by decide +kernel
theorem dX0_packColumn_3 : decode cX0_packColumn 3 = .ok (.imul, 1) := by decide +kernel
theorem dX0_packColumn_4 : decode cX0_packColumn 4 = .ok (.iload_n 2, 1) := by decide +kernel
theorem dX0_packColumn_5 : decode cX0_packColumn 5 = .ok (.invokestatic 52, 3) := by decide +kernel
theorem dX0_packColumn_8 : decode cX0_packColumn 8 = .ok (.istore_n 3, 1) := by decide +kernel
theorem dX0_packColumn_9 : decode cX0_packColumn 9 = .ok (.iload_n 1, 1) := by decide +kernel
theorem dX0_packColumn_10 : decode cX0_packColumn 10 = .ok (.iload_n 2, 1) := by decide +kernel
theorem dX0_packColumn_11 : decode cX0_packColumn 11 = .ok (.invokestatic 123, 3) := by decide +kernel
theorem dX0_packColumn_14 : decode cX0_packColumn 14 = .ok (.istore 4, 2) := by decide +kernel
theorem dX0_packColumn_16 : decode cX0_packColumn 16 = .ok (.iload_n 2, 1) := by decide +kernel
theorem dX0_packColumn_17 : decode cX0_packColumn 17 = .ok (.iconst 3, 1) := by decide +kernel
theorem dX0_packColumn_18 : decode cX0_packColumn 18 = .ok (.if_icmp .ne 8, 3) := by decide +kernel
theorem dX0_packColumn_21 : decode cX0_packColumn 21 = .ok (.bipush 64, 2) := by decide +kernel
theorem dX0_packColumn_23 : decode cX0_packColumn 23 = .ok (.goto 5, 3) := by decide +kernel
theorem dX0_packColumn_26 : decode cX0_packColumn 26 = .ok (.bipush 32, 2) := by decide +kernel
theorem dX0_packColumn_28 : decode cX0_packColumn 28 = .ok (.istore 5, 2) := by decide +kernel
theorem dX0_packColumn_30 : decode cX0_packColumn 30 = .ok (.aload_n 0, 1) := by decide +kernel
theorem dX0_packColumn_31 : decode cX0_packColumn 31 = .ok (.iload_n 3, 1) := by decide +kernel
theorem dX0_packColumn_32 : decode cX0_packColumn 32 = .ok (.iload 4, 2) := by decide +kernel
theorem dX0_packColumn_34 : decode cX0_packColumn 34 = .ok (.invokevirtual 162, 3) := by decide +kernel
theorem dX0_packColumn_37 : decode cX0_packColumn 37 = .ok (.aload_n 0, 1) := by decide +kernel
theorem dX0_packColumn_38 : decode cX0_packColumn 38 = .ok (.iload_n 3, 1) := by decide +kernel
theorem dX0_packColumn_39 : decode cX0_packColumn 39 = .ok (.invokevirtual 165, 3) := by decide +kernel
theorem dX0_packColumn_42 : decode cX0_packColumn 42 = .ok (.istore 6, 2) := by decide +kernel
theorem dX0_packColumn_44 : decode cX0_packColumn 44 = .ok (.aload_n 0, 1) := by decide +kernel
theorem dX0_packColumn_45 : decode cX0_packColumn 45 = .ok (.getfield 33, 3) := by decide +kernel
theorem dX0_packColumn_48 : decode cX0_packColumn 48 = .ok (.iload 4, 2) := by decide +kernel
theorem dX0_packColumn_50 : decode cX0_packColumn 50 = .ok (.laload, 1) := by decide +kernel
theorem dX0_packColumn_51 : decode cX0_packColumn 51 = .ok (.aload_n 0, 1) := by decide +kernel
theorem dX0_packColumn_52 : decode cX0_packColumn 52 = .ok (.getfield 30, 3) := by decide +kernel
theorem dX0_packColumn_55 : decode cX0_packColumn 55 = .ok (.iload 4, 2) := by decide +kernel
theorem dX0_packColumn_57 : decode cX0_packColumn 57 = .ok (.laload, 1) := by decide +kernel
theorem dX0_packColumn_58 : decode cX0_packColumn 58 = .ok (.lsub, 1) := by decide +kernel
theorem dX0_packColumn_59 : decode cX0_packColumn 59 = .ok (.invokestatic 169, 3) := by decide +kernel
theorem dX0_packColumn_62 : decode cX0_packColumn 62 = .ok (.istore 7, 2) := by decide +kernel
theorem dX0_packColumn_64 : decode cX0_packColumn 64 = .ok (.aload_n 0, 1) := by decide +kernel
theorem dX0_packColumn_65 : decode cX0_packColumn 65 = .ok (.getfield 36, 3) := by decide +kernel
theorem dX0_packColumn_68 : decode cX0_packColumn 68 = .ok (.iload 4, 2) := by decide +kernel
theorem dX0_packColumn_70 : decode cX0_packColumn 70 = .ok (.iconst 0, 1) := by decide +kernel
theorem dX0_packColumn_71 : decode cX0_packColumn 71 = .ok (.iastore, 1) := by decide +kernel
theorem dX0_packColumn_72 : decode cX0_packColumn 72 = .ok (.aload_n 0, 1) := by decide +kernel
theorem dX0_packColumn_73 : decode cX0_packColumn 73 = .ok (.getfield 39, 3) := by decide +kernel
theorem dX0_packColumn_76 : decode cX0_packColumn 76 = .ok (.iload 4, 2) := by decide +kernel
theorem dX0_packColumn_78 : decode cX0_packColumn 78 = .ok (.bipush 16, 2) := by decide +kernel
theorem dX0_packColumn_80 : decode cX0_packColumn 80 = .ok (.iload 5, 2) := by decide +kernel
theorem dX0_packColumn_82 : decode cX0_packColumn 82 = .ok (.imul, 1) := by decide +kernel
theorem dX0_packColumn_83 : decode cX0_packColumn 83 = .ok (.iastore, 1) := by decide +kernel
theorem dX0_packColumn_84 : decode cX0_packColumn 84 = .ok (.aload_n 0, 1) := by decide +kernel
theorem dX0_packColumn_85 : decode cX0_packColumn 85 = .ok (.iload 4, 2) := by decide +kernel
theorem dX0_packColumn_87 : decode cX0_packColumn 87 = .ok (.iconst 1, 1) := by decide +kernel
theorem dX0_packColumn_88 : decode cX0_packColumn 88 = .ok (.aload_n 0, 1) := by decide +kernel
theorem dX0_packColumn_89 : decode cX0_packColumn 89 = .ok (.iload_n 3, 1) := by decide +kernel
theorem dX0_packColumn_90 : decode cX0_packColumn 90 = .ok (.invokevirtual 173, 3) := by decide +kernel
theorem dX0_packColumn_93 : decode cX0_packColumn 93 = .ok (.iload 5, 2) := by decide +kernel
theorem dX0_packColumn_95 : decode cX0_packColumn 95 = .ok (.iconst 5, 1) := by decide +kernel
theorem dX0_packColumn_96 : decode cX0_packColumn 96 = .ok (.iadd, 1) := by decide +kernel
theorem dX0_packColumn_97 : decode cX0_packColumn 97 = .ok (.imul, 1) := by decide +kernel
theorem dX0_packColumn_98 : decode cX0_packColumn 98 = .ok (.invokevirtual 176, 3) := by decide +kernel
theorem dX0_packColumn_101 : decode cX0_packColumn 101 = .ok (.aload_n 0, 1) := by decide +kernel
theorem dX0_packColumn_102 : decode cX0_packColumn 102 = .ok (.iload 4, 2) := by decide +kernel
theorem dX0_packColumn_104 : decode cX0_packColumn 104 = .ok (.iconst 2, 1) := by decide +kernel
theorem dX0_packColumn_105 : decode cX0_packColumn 105 = .ok (.iload 6, 2) := by decide +kernel
theorem dX0_packColumn_107 : decode cX0_packColumn 107 = .ok (.iload 5, 2) := by decide +kernel
theorem dX0_packColumn_109 : decode cX0_packColumn 109 = .ok (.imul, 1) := by decide +kernel
theorem dX0_packColumn_110 : decode cX0_packColumn 110 = .ok (.bipush 16, 2) := by decide +kernel
theorem dX0_packColumn_112 : decode cX0_packColumn 112 = .ok (.iload 6, 2) := by decide +kernel
theorem dX0_packColumn_114 : decode cX0_packColumn 114 = .ok (.iconst 1, 1) := by decide +kernel
theorem dX0_packColumn_115 : decode cX0_packColumn 115 = .ok (.isub, 1) := by decide +kernel
theorem dX0_packColumn_116 : decode cX0_packColumn 116 = .ok (.i2l, 1) := by decide +kernel
theorem dX0_packColumn_117 : decode cX0_packColumn 117 = .ok (.invokestatic 169, 3) := by decide +kernel
theorem dX0_packColumn_120 : decode cX0_packColumn 120 = .ok (.imul, 1) := by decide +kernel
theorem dX0_packColumn_121 : decode cX0_packColumn 121 = .ok (.iadd, 1) := by decide +kernel
theorem dX0_packColumn_122 : decode cX0_packColumn 122 = .ok (.invokevirtual 176, 3) := by decide +kernel
theorem dX0_packColumn_125 : decode cX0_packColumn 125 = .ok (.aload_n 0, 1) := by decide +kernel
theorem dX0_packColumn_126 : decode cX0_packColumn 126 = .ok (.iload 4, 2) := by decide +kernel
theorem dX0_packColumn_128 : decode cX0_packColumn 128 = .ok (.iconst 3, 1) := by decide +kernel
theorem dX0_packColumn_129 : decode cX0_packColumn 129 = .ok (.iload 5, 2) := by decide +kernel
theorem dX0_packColumn_131 : decode cX0_packColumn 131 = .ok (.bipush 7, 2) := by decide +kernel
theorem dX0_packColumn_133 : decode cX0_packColumn 133 = .ok (.iadd, 1) := by decide +kernel
theorem dX0_packColumn_134 : decode cX0_packColumn 134 = .ok (.bipush 16, 2) := by decide +kernel
theorem dX0_packColumn_136 : decode cX0_packColumn 136 = .ok (.iload 7, 2) := by decide +kernel
theorem dX0_packColumn_138 : decode cX0_packColumn 138 = .ok (.imul, 1) := by decide +kernel
theorem dX0_packColumn_139 : decode cX0_packColumn 139 = .ok (.iadd, 1) := by decide +kernel
theorem dX0_packColumn_140 : decode cX0_packColumn 140 = .ok (.invokevirtual 176, 3) := by decide +kernel
theorem dX0_packColumn_143 : decode cX0_packColumn 143 = .ok (.return_, 1) := by decide +kernel
theorem dX0_offerWay_0 : decode cX0_offerWay 0 = .ok (.iload_n 3, 1) := by decide +kernel
theorem dX0_offerWay_1 : decode cX0_offerWay 1 = .ok (.aload_n 0, 1) := by decide +kernel
theorem dX0_offerWay_2 : decode cX0_offerWay 2 = .ok (.getfield 39, 3) := by decide +kernel
theorem dX0_offerWay_5 : decode cX0_offerWay 5 = .ok (.iload_n 1, 1) := by decide +kernel
theorem dX0_offerWay_6 : decode cX0_offerWay 6 = .ok (.iaload, 1) := by decide +kernel
theorem dX0_offerWay_7 : decode cX0_offerWay 7 = .ok (.if_icmp .ge 17, 3) := by decide +kernel
theorem dX0_offerWay_10 : decode cX0_offerWay 10 = .ok (.aload_n 0, 1) := by decide +kernel
theorem dX0_offerWay_11 : decode cX0_offerWay 11 = .ok (.getfield 36, 3) := by decide +kernel
theorem dX0_offerWay_14 : decode cX0_offerWay 14 = .ok (.iload_n 1, 1) := by decide +kernel
theorem dX0_offerWay_15 : decode cX0_offerWay 15 = .ok (.iload_n 2, 1) := by decide +kernel
theorem dX0_offerWay_16 : decode cX0_offerWay 16 = .ok (.iastore, 1) := by decide +kernel
theorem dX0_offerWay_17 : decode cX0_offerWay 17 = .ok (.aload_n 0, 1) := by decide +kernel
theorem dX0_offerWay_18 : decode cX0_offerWay 18 = .ok (.getfield 39, 3) := by decide +kernel
theorem dX0_offerWay_21 : decode cX0_offerWay 21 = .ok (.iload_n 1, 1) := by decide +kernel
theorem dX0_offerWay_22 : decode cX0_offerWay 22 = .ok (.iload_n 3, 1) := by decide +kernel
theorem dX0_offerWay_23 : decode cX0_offerWay 23 = .ok (.iastore, 1) := by decide +kernel
theorem dX0_offerWay_24 : decode cX0_offerWay 24 = .ok (.return_, 1) := by decide +kernel
theorem dX0_noteBounds_0 : decode cX0_noteBounds 0 = .ok (.aload_n 0, 1) := by decide +kernel
theorem dX0_noteBounds_1 : decode cX0_noteBounds 1 = .ok (.getfield 9, 3) := by decide +kernel
theorem dX0_noteBounds_4 : decode cX0_noteBounds 4 = .ok (.iload_n 1, 1) := by decide +kernel
theorem dX0_noteBounds_5 : decode cX0_noteBounds 5 = .ok (.laload, 1) := by decide +kernel
theorem dX0_noteBounds_6 : decode cX0_noteBounds 6 = .ok (.lstore_n 3, 1) := by decide +kernel
theorem dX0_noteBounds_7 : decode cX0_noteBounds 7 = .ok (.aload_n 0, 1) := by decide +kernel
theorem dX0_noteBounds_8 : decode cX0_noteBounds 8 = .ok (.getfield 9, 3) := by decide +kernel
theorem dX0_noteBounds_11 : decode cX0_noteBounds 11 = .ok (.iload_n 1, 1) := by decide +kernel
theorem dX0_noteBounds_12 : decode cX0_noteBounds 12 = .ok (.laload, 1) := by decide +kernel
theorem dX0_noteBounds_13 : decode cX0_noteBounds 13 = .ok (.lstore 5, 2) := by decide +kernel
theorem dX0_noteBounds_15 : decode cX0_noteBounds 15 = .ok (.iload_n 1, 1) := by decide +kernel
theorem dX0_noteBounds_16 : decode cX0_noteBounds 16 = .ok (.iconst 1, 1) := by decide +kernel
theorem dX0_noteBounds_17 : decode cX0_noteBounds 17 = .ok (.iadd, 1) := by decide +kernel
theorem dX0_noteBounds_18 : decode cX0_noteBounds 18 = .ok (.istore 7, 2) := by decide +kernel
theorem dX0_noteBounds_20 : decode cX0_noteBounds 20 = .ok (.iload 7, 2) := by decide +kernel
theorem dX0_noteBounds_22 : decode cX0_noteBounds 22 = .ok (.iload_n 1, 1) := by decide +kernel
theorem dX0_noteBounds_23 : decode cX0_noteBounds 23 = .ok (.bipush 16, 2) := by decide +kernel
theorem dX0_noteBounds_25 : decode cX0_noteBounds 25 = .ok (.iadd, 1) := by decide +kernel
theorem dX0_noteBounds_26 : decode cX0_noteBounds 26 = .ok (.if_icmp .ge 35, 3) := by decide +kernel
theorem dX0_noteBounds_29 : decode cX0_noteBounds 29 = .ok (.lload_n 3, 1) := by decide +kernel
theorem dX0_noteBounds_30 : decode cX0_noteBounds 30 = .ok (.aload_n 0, 1) := by decide +kernel
theorem dX0_noteBounds_31 : decode cX0_noteBounds 31 = .ok (.getfield 9, 3) := by decide +kernel
theorem dX0_noteBounds_34 : decode cX0_noteBounds 34 = .ok (.iload 7, 2) := by decide +kernel
theorem dX0_noteBounds_36 : decode cX0_noteBounds 36 = .ok (.laload, 1) := by decide +kernel
theorem dX0_noteBounds_37 : decode cX0_noteBounds 37 = .ok (.invokestatic 180, 3) := by decide +kernel
theorem dX0_noteBounds_40 : decode cX0_noteBounds 40 = .ok (.lstore_n 3, 1) := by decide +kernel
theorem dX0_noteBounds_41 : decode cX0_noteBounds 41 = .ok (.lload 5, 2) := by decide +kernel
theorem dX0_noteBounds_43 : decode cX0_noteBounds 43 = .ok (.aload_n 0, 1) := by decide +kernel
theorem dX0_noteBounds_44 : decode cX0_noteBounds 44 = .ok (.getfield 9, 3) := by decide +kernel
theorem dX0_noteBounds_47 : decode cX0_noteBounds 47 = .ok (.iload 7, 2) := by decide +kernel
theorem dX0_noteBounds_49 : decode cX0_noteBounds 49 = .ok (.laload, 1) := by decide +kernel
theorem dX0_noteBounds_50 : decode cX0_noteBounds 50 = .ok (.invokestatic 183, 3) := by decide +kernel
theorem dX0_noteBounds_53 : decode cX0_noteBounds 53 = .ok (.lstore 5, 2) := by decide +kernel
theorem dX0_noteBounds_55 : decode cX0_noteBounds 55 = .ok (.iinc 7 1, 3) := by decide +kernel
theorem dX0_noteBounds_58 : decode cX0_noteBounds 58 = .ok (.goto (-38), 3) := by decide +kernel
theorem dX0_noteBounds_61 : decode cX0_noteBounds 61 = .ok (.aload_n 0, 1) := by decide +kernel
theorem dX0_noteBounds_62 : decode cX0_noteBounds 62 = .ok (.getfield 30, 3) := by decide +kernel
theorem dX0_noteBounds_65 : decode cX0_noteBounds 65 = .ok (.iload_n 2, 1) := by decide +kernel
theorem dX0_noteBounds_66 : decode cX0_noteBounds 66 = .ok (.lload_n 3, 1) := by decide +kernel
theorem dX0_noteBounds_67 : decode cX0_noteBounds 67 = .ok (.lastore, 1) := by decide +kernel
theorem dX0_noteBounds_68 : decode cX0_noteBounds 68 = .ok (.aload_n 0, 1) := by decide +kernel
theorem dX0_noteBounds_69 : decode cX0_noteBounds 69 = .ok (.getfield 33, 3) := by decide +kernel
theorem dX0_noteBounds_72 : decode cX0_noteBounds 72 = .ok (.iload_n 2, 1) := by decide +kernel
theorem dX0_noteBounds_73 : decode cX0_noteBounds 73 = .ok (.lload 5, 2) := by decide +kernel
theorem dX0_noteBounds_75 : decode cX0_noteBounds 75 = .ok (.lastore, 1) := by decide +kernel
theorem dX0_noteBounds_76 : decode cX0_noteBounds 76 = .ok (.return_, 1) := by decide +kernel
theorem dX0_runsOfCells_0 : decode cX0_runsOfCells 0 = .ok (.iconst 1, 1) := by decide +kernel
theorem dX0_runsOfCells_1 : decode cX0_runsOfCells 1 = .ok (.istore_n 2, 1) := by decide +kernel
theorem dX0_runsOfCells_2 : decode cX0_runsOfCells 2 = .ok (.iload_n 1, 1) := by decide +kernel
theorem dX0_runsOfCells_3 : decode cX0_runsOfCells 3 = .ok (.iconst 1, 1) := by decide +kernel
theorem dX0_runsOfCells_4 : decode cX0_runsOfCells 4 = .ok (.iadd, 1) := by decide +kernel
theorem dX0_runsOfCells_5 : decode cX0_runsOfCells 5 = .ok (.istore_n 3, 1) := by decide +kernel
theorem dX0_runsOfCells_6 : decode cX0_runsOfCells 6 = .ok (.iload_n 3, 1) := by decide +kernel
theorem dX0_runsOfCells_7 : decode cX0_runsOfCells 7 = .ok (.iload_n 1, 1) := by decide +kernel
theorem dX0_runsOfCells_8 : decode cX0_runsOfCells 8 = .ok (.bipush 16, 2) := by decide +kernel
theorem dX0_runsOfCells_10 : decode cX0_runsOfCells 10 = .ok (.iadd, 1) := by decide +kernel
theorem dX0_runsOfCells_11 : decode cX0_runsOfCells 11 = .ok (.if_icmp .ge 30, 3) := by decide +kernel
theorem dX0_runsOfCells_14 : decode cX0_runsOfCells 14 = .ok (.aload_n 0, 1) := by decide +kernel
theorem dX0_runsOfCells_15 : decode cX0_runsOfCells 15 = .ok (.getfield 9, 3) := by decide +kernel
theorem dX0_runsOfCells_18 : decode cX0_runsOfCells 18 = .ok (.iload_n 3, 1) := by decide +kernel
theorem dX0_runsOfCells_19 : decode cX0_runsOfCells 19 = .ok (.laload, 1) := by decide +kernel
theorem dX0_runsOfCells_20 : decode cX0_runsOfCells 20 = .ok (.aload_n 0, 1) := by decide +kernel
theorem dX0_runsOfCells_21 : decode cX0_runsOfCells 21 = .ok (.getfield 9, 3) := by decide +kernel
theorem dX0_runsOfCells_24 : decode cX0_runsOfCells 24 = .ok (.iload_n 3, 1) := by decide +kernel
theorem dX0_runsOfCells_25 : decode cX0_runsOfCells 25 = .ok (.iconst 1, 1) := by decide +kernel
theorem dX0_runsOfCells_26 : decode cX0_runsOfCells 26 = .ok (.isub, 1) := by decide +kernel
theorem dX0_runsOfCells_27 : decode cX0_runsOfCells 27 = .ok (.laload, 1) := by decide +kernel
theorem dX0_runsOfCells_28 : decode cX0_runsOfCells 28 = .ok (.lcmp, 1) := by decide +kernel
theorem dX0_runsOfCells_29 : decode cX0_runsOfCells 29 = .ok (.ifCond .eq 6, 3) := by decide +kernel
theorem dX0_runsOfCells_32 : decode cX0_runsOfCells 32 = .ok (.iinc 2 1, 3) := by decide +kernel
theorem dX0_runsOfCells_35 : decode cX0_runsOfCells 35 = .ok (.iinc 3 1, 3) := by decide +kernel
theorem dX0_runsOfCells_38 : decode cX0_runsOfCells 38 = .ok (.goto (-32), 3) := by decide +kernel
theorem dX0_runsOfCells_41 : decode cX0_runsOfCells 41 = .ok (.iload_n 2, 1) := by decide +kernel
theorem dX0_runsOfCells_42 : decode cX0_runsOfCells 42 = .ok (.ireturn, 1) := by decide +kernel
theorem dX0_differentCells_0 : decode cX0_differentCells 0 = .ok (.iconst 0, 1) := by decide +kernel
theorem dX0_differentCells_1 : decode cX0_differentCells 1 = .ok (.istore_n 2, 1) := by decide +kernel
theorem dX0_differentCells_2 : decode cX0_differentCells 2 = .ok (.iload_n 1, 1) := by decide +kernel
theorem dX0_differentCells_3 : decode cX0_differentCells 3 = .ok (.istore_n 3, 1) := by decide +kernel
theorem dX0_differentCells_4 : decode cX0_differentCells 4 = .ok (.iload_n 3, 1) := by decide +kernel
theorem dX0_differentCells_5 : decode cX0_differentCells 5 = .ok (.iload_n 1, 1) := by decide +kernel
theorem dX0_differentCells_6 : decode cX0_differentCells 6 = .ok (.bipush 16, 2) := by decide +kernel
theorem dX0_differentCells_8 : decode cX0_differentCells 8 = .ok (.iadd, 1) := by decide +kernel
theorem dX0_differentCells_9 : decode cX0_differentCells 9 = .ok (.if_icmp .ge 21, 3) := by decide +kernel
theorem dX0_differentCells_12 : decode cX0_differentCells 12 = .ok (.aload_n 0, 1) := by decide +kernel
theorem dX0_differentCells_13 : decode cX0_differentCells 13 = .ok (.iload_n 1, 1) := by decide +kernel
theorem dX0_differentCells_14 : decode cX0_differentCells 14 = .ok (.iload_n 3, 1) := by decide +kernel
theorem dX0_differentCells_15 : decode cX0_differentCells 15 = .ok (.invokevirtual 186, 3) := by decide +kernel
theorem dX0_differentCells_18 : decode cX0_differentCells 18 = .ok (.ifCond .ne 6, 3) := by decide +kernel
theorem dX0_differentCells_21 : decode cX0_differentCells 21 = .ok (.iinc 2 1, 3) := by decide +kernel
theorem dX0_differentCells_24 : decode cX0_differentCells 24 = .ok (.iinc 3 1, 3) := by decide +kernel
theorem dX0_differentCells_27 : decode cX0_differentCells 27 = .ok (.goto (-23), 3) := by decide +kernel
theorem dX0_differentCells_30 : decode cX0_differentCells 30 = .ok (.iload_n 2, 1) := by decide +kernel
theorem dX0_differentCells_31 : decode cX0_differentCells 31 = .ok (.ireturn, 1) := by decide +kernel
theorem dX0_stoodBefore_0 : decode cX0_stoodBefore 0 = .ok (.iload_n 1, 1) := by decide +kernel
theorem dX0_stoodBefore_1 : decode cX0_stoodBefore 1 = .ok (.istore_n 3, 1) := by decide +kernel
theorem dX0_stoodBefore_2 : decode cX0_stoodBefore 2 = .ok (.iload_n 3, 1) := by decide +kernel
theorem dX0_stoodBefore_3 : decode cX0_stoodBefore 3 = .ok (.iload_n 2, 1) := by decide +kernel
theorem dX0_stoodBefore_4 : decode cX0_stoodBefore 4 = .ok (.if_icmp .ge 27, 3) := by decide +kernel
theorem dX0_stoodBefore_7 : decode cX0_stoodBefore 7 = .ok (.aload_n 0, 1) := by decide +kernel
theorem dX0_stoodBefore_8 : decode cX0_stoodBefore 8 = .ok (.getfield 9, 3) := by decide +kernel
theorem dX0_stoodBefore_11 : decode cX0_stoodBefore 11 = .ok (.iload_n 3, 1) := by decide +kernel
theorem dX0_stoodBefore_12 : decode cX0_stoodBefore 12 = .ok (.laload, 1) := by decide +kernel
theorem dX0_stoodBefore_13 : decode cX0_stoodBefore 13 = .ok (.aload_n 0, 1) := by decide +kernel
theorem dX0_stoodBefore_14 : decode cX0_stoodBefore 14 = .ok (.getfield 9, 3) := by decide +kernel
theorem dX0_stoodBefore_17 : decode cX0_stoodBefore 17 = .ok (.iload_n 2, 1) := by decide +kernel
theorem dX0_stoodBefore_18 : decode cX0_stoodBefore 18 = .ok (.laload, 1) := by decide +kernel
theorem dX0_stoodBefore_19 : decode cX0_stoodBefore 19 = .ok (.lcmp, 1) := by decide +kernel
theorem dX0_stoodBefore_20 : decode cX0_stoodBefore 20 = .ok (.ifCond .ne 5, 3) := by decide +kernel
theorem dX0_stoodBefore_23 : decode cX0_stoodBefore 23 = .ok (.iconst 1, 1) := by decide +kernel
theorem dX0_stoodBefore_24 : decode cX0_stoodBefore 24 = .ok (.ireturn, 1) := by decide +kernel
theorem dX0_stoodBefore_25 : decode cX0_stoodBefore 25 = .ok (.iinc 3 1, 3) := by decide +kernel
theorem dX0_stoodBefore_28 : decode cX0_stoodBefore 28 = .ok (.goto (-26), 3) := by decide +kernel
theorem dX0_stoodBefore_31 : decode cX0_stoodBefore 31 = .ok (.iconst 0, 1) := by decide +kernel
theorem dX0_stoodBefore_32 : decode cX0_stoodBefore 32 = .ok (.ireturn, 1) := by decide +kernel
theorem dX0_widthOf_0 : decode cX0_widthOf 0 = .ok (.iconst 0, 1) := by decide +kernel
theorem dX0_widthOf_1 : decode cX0_widthOf 1 = .ok (.istore_n 2, 1) := by decide +kernel
theorem dX0_widthOf_2 : decode cX0_widthOf 2 = .ok (.iload_n 2, 1) := by decide +kernel
theorem dX0_widthOf_3 : decode cX0_widthOf 3 = .ok (.bipush 64, 2) := by decide +kernel
theorem dX0_widthOf_5 : decode cX0_widthOf 5 = .ok (.if_icmp .ge 17, 3) := by decide +kernel
theorem dX0_widthOf_8 : decode cX0_widthOf 8 = .ok (.lload_n 0, 1) := by decide +kernel
theorem dX0_widthOf_9 : decode cX0_widthOf 9 = .ok (.iload_n 2, 1) := by decide +kernel
theorem dX0_widthOf_10 : decode cX0_widthOf 10 = .ok (.lushr, 1) := by decide +kernel
theorem dX0_widthOf_11 : decode cX0_widthOf 11 = .ok (.lconst 0, 1) := by decide +kernel
theorem dX0_widthOf_12 : decode cX0_widthOf 12 = .ok (.lcmp, 1) := by decide +kernel
theorem dX0_widthOf_13 : decode cX0_widthOf 13 = .ok (.ifCond .eq 9, 3) := by decide +kernel
theorem dX0_widthOf_16 : decode cX0_widthOf 16 = .ok (.iinc 2 1, 3) := by decide +kernel
theorem dX0_widthOf_19 : decode cX0_widthOf 19 = .ok (.goto (-17), 3) := by decide +kernel
theorem dX0_widthOf_22 : decode cX0_widthOf 22 = .ok (.iload_n 2, 1) := by decide +kernel
theorem dX0_widthOf_23 : decode cX0_widthOf 23 = .ok (.ireturn, 1) := by decide +kernel
