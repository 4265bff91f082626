/-! rows that decode the model -/
theorem dX1_init_0 : decode cX1_init 0 = .ok (.aload_n 0, 1) := by decide +kernel
theorem dX1_init_1 : decode cX1_init 1 = .ok (.invokespecial 1, 3) := by decide +kernel
theorem dX1_init_4 : decode cX1_init 4 = .ok (.aload_n 0, 1) := by decide +kernel
theorem dX1_init_5 : decode cX1_init 5 = .ok (.sipush 512, 3) := by decide +kernel
theorem dX1_init_8 : decode cX1_init 8 = .ok (.newarray .long, 2) := by decide +kernel
theorem dX1_init_10 : decode cX1_init 10 = .ok (.putfield 7, 3) := by decide +kernel
theorem dX1_init_13 : decode cX1_init 13 = .ok (.aload_n 0, 1) := by decide +kernel
theorem dX1_init_14 : decode cX1_init 14 = .ok (.iconst 3, 1) := by decide +kernel
theorem dX1_init_15 : decode cX1_init 15 = .ok (.newarray .int, 2) := by decide +kernel
theorem dX1_init_17 : decode cX1_init 17 = .ok (.putfield 13, 3) := by decide +kernel
theorem dX1_init_20 : decode cX1_init 20 = .ok (.aload_n 0, 1) := by decide +kernel
theorem dX1_init_21 : decode cX1_init 21 = .ok (.iconst 3, 1) := by decide +kernel
theorem dX1_init_22 : decode cX1_init 22 = .ok (.newarray .int, 2) := by decide +kernel
theorem dX1_init_24 : decode cX1_init 24 = .ok (.putfield 17, 3) := by decide +kernel
theorem dX1_init_27 : decode cX1_init 27 = .ok (.aload_n 0, 1) := by decide +kernel
theorem dX1_init_28 : decode cX1_init 28 = .ok (.iconst 3, 1) := by decide +kernel
theorem dX1_init_29 : decode cX1_init 29 = .ok (.newarray .long, 2) := by decide +kernel
theorem dX1_init_31 : decode cX1_init 31 = .ok (.putfield 20, 3) := by decide +kernel
theorem dX1_init_34 : decode cX1_init 34 = .ok (.return_, 1) := by decide +kernel
theorem dX1_thrown_0 : decode cX1_thrown 0 = .ok (.aload_n 0, 1) := by decide +kernel
theorem dX1_thrown_1 : decode cX1_thrown 1 = .ok (.getfield 23, 3) := by decide +kernel
theorem dX1_thrown_4 : decode cX1_thrown 4 = .ok (.ireturn, 1) := by decide +kernel
theorem dX1_isColumn_0 : decode cX1_isColumn 0 = .ok (.iload_n 0, 1) := by decide +kernel
theorem dX1_isColumn_1 : decode cX1_isColumn 1 = .ok (.ifCond .lt 12, 3) := by decide +kernel
theorem dX1_isColumn_4 : decode cX1_isColumn 4 = .ok (.iload_n 0, 1) := by decide +kernel
theorem dX1_isColumn_5 : decode cX1_isColumn 5 = .ok (.iconst 3, 1) := by decide +kernel
theorem dX1_isColumn_6 : decode cX1_isColumn 6 = .ok (.if_icmp .gt 7, 3) := by decide +kernel
theorem dX1_isColumn_9 : decode cX1_isColumn 9 = .ok (.iconst 1, 1) := by decide +kernel
theorem dX1_isColumn_10 : decode cX1_isColumn 10 = .ok (.goto 4, 3) := by decide +kernel
theorem dX1_isColumn_13 : decode cX1_isColumn 13 = .ok (.iconst 0, 1) := by decide +kernel
theorem dX1_isColumn_14 : decode cX1_isColumn 14 = .ok (.ireturn, 1) := by decide +kernel
theorem dX1_append_0 : decode cX1_append 0 = .ok (.aload_n 0, 1) := by decide +kernel
theorem dX1_append_1 : decode cX1_append 1 = .ok (.aload_n 0, 1) := by decide +kernel
theorem dX1_append_2 : decode cX1_append 2 = .ok (.getfield 27, 3) := by decide +kernel
theorem dX1_append_5 : decode cX1_append 5 = .ok (.sipush 128, 3) := by decide +kernel
theorem dX1_append_8 : decode cX1_append 8 = .ok (.if_icmp .ne 7, 3) := by decide +kernel
theorem dX1_append_11 : decode cX1_append 11 = .ok (.iconst 1, 1) := by decide +kernel
theorem dX1_append_12 : decode cX1_append 12 = .ok (.goto 4, 3) := by decide +kernel
theorem dX1_append_15 : decode cX1_append 15 = .ok (.iconst 0, 1) := by decide +kernel
theorem dX1_append_16 : decode cX1_append 16 = .ok (.putfield 23, 3) := by decide +kernel
theorem dX1_append_19 : decode cX1_append 19 = .ok (.aload_n 0, 1) := by decide +kernel
theorem dX1_append_20 : decode cX1_append 20 = .ok (.getfield 23, 3) := by decide +kernel
theorem dX1_append_23 : decode cX1_append 23 = .ok (.ifCond .le 5, 3) := by decide +kernel
theorem dX1_append_26 : decode cX1_append 26 = .ok (.iconst 0, 1) := by decide +kernel
theorem dX1_append_27 : decode cX1_append 27 = .ok (.ireturn, 1) := by decide +kernel
theorem dX1_append_28 : decode cX1_append 28 = .ok (.aload_n 0, 1) := by decide +kernel
theorem dX1_append_29 : decode cX1_append 29 = .ok (.getfield 7, 3) := by decide +kernel
theorem dX1_append_32 : decode cX1_append 32 = .ok (.iconst 4, 1) := by decide +kernel
theorem dX1_append_33 : decode cX1_append 33 = .ok (.aload_n 0, 1) := by decide +kernel
theorem dX1_append_34 : decode cX1_append 34 = .ok (.getfield 27, 3) := by decide +kernel
theorem dX1_append_37 : decode cX1_append 37 = .ok (.imul, 1) := by decide +kernel
theorem dX1_append_38 : decode cX1_append 38 = .ok (.iload_n 1, 1) := by decide +kernel
theorem dX1_append_39 : decode cX1_append 39 = .ok (.i2l, 1) := by decide +kernel
theorem dX1_append_40 : decode cX1_append 40 = .ok (.lastore, 1) := by decide +kernel
theorem dX1_append_41 : decode cX1_append 41 = .ok (.aload_n 0, 1) := by decide +kernel
theorem dX1_append_42 : decode cX1_append 42 = .ok (.getfield 7, 3) := by decide +kernel
theorem dX1_append_45 : decode cX1_append 45 = .ok (.iconst 4, 1) := by decide +kernel
theorem dX1_append_46 : decode cX1_append 46 = .ok (.aload_n 0, 1) := by decide +kernel
theorem dX1_append_47 : decode cX1_append 47 = .ok (.getfield 27, 3) := by decide +kernel
theorem dX1_append_50 : decode cX1_append 50 = .ok (.imul, 1) := by decide +kernel
theorem dX1_append_51 : decode cX1_append 51 = .ok (.iconst 1, 1) := by decide +kernel
theorem dX1_append_52 : decode cX1_append 52 = .ok (.iadd, 1) := by decide +kernel
theorem dX1_append_53 : decode cX1_append 53 = .ok (.iload_n 2, 1) := by decide +kernel
theorem dX1_append_54 : decode cX1_append 54 = .ok (.i2l, 1) := by decide +kernel
theorem dX1_append_55 : decode cX1_append 55 = .ok (.lastore, 1) := by decide +kernel
theorem dX1_append_56 : decode cX1_append 56 = .ok (.aload_n 0, 1) := by decide +kernel
theorem dX1_append_57 : decode cX1_append 57 = .ok (.getfield 7, 3) := by decide +kernel
theorem dX1_append_60 : decode cX1_append 60 = .ok (.iconst 4, 1) := by decide +kernel
theorem dX1_append_61 : decode cX1_append 61 = .ok (.aload_n 0, 1) := by decide +kernel
theorem dX1_append_62 : decode cX1_append 62 = .ok (.getfield 27, 3) := by decide +kernel
theorem dX1_append_65 : decode cX1_append 65 = .ok (.imul, 1) := by decide +kernel
theorem dX1_append_66 : decode cX1_append 66 = .ok (.iconst 2, 1) := by decide +kernel
theorem dX1_append_67 : decode cX1_append 67 = .ok (.iadd, 1) := by decide +kernel
theorem dX1_append_68 : decode cX1_append 68 = .ok (.iload_n 3, 1) := by decide +kernel
theorem dX1_append_69 : decode cX1_append 69 = .ok (.i2l, 1) := by decide +kernel
theorem dX1_append_70 : decode cX1_append 70 = .ok (.lastore, 1) := by decide +kernel
theorem dX1_append_71 : decode cX1_append 71 = .ok (.aload_n 0, 1) := by decide +kernel
theorem dX1_append_72 : decode cX1_append 72 = .ok (.getfield 7, 3) := by decide +kernel
theorem dX1_append_75 : decode cX1_append 75 = .ok (.iconst 4, 1) := by decide +kernel
theorem dX1_append_76 : decode cX1_append 76 = .ok (.aload_n 0, 1) := by decide +kernel
theorem dX1_append_77 : decode cX1_append 77 = .ok (.getfield 27, 3) := by decide +kernel
theorem dX1_append_80 : decode cX1_append 80 = .ok (.imul, 1) := by decide +kernel
theorem dX1_append_81 : decode cX1_append 81 = .ok (.iconst 3, 1) := by decide +kernel
theorem dX1_append_82 : decode cX1_append 82 = .ok (.iadd, 1) := by decide +kernel
theorem dX1_append_83 : decode cX1_append 83 = .ok (.lload 4, 2) := by decide +kernel
theorem dX1_append_85 : decode cX1_append 85 = .ok (.lastore, 1) := by decide +kernel
theorem dX1_append_86 : decode cX1_append 86 = .ok (.aload_n 0, 1) := by decide +kernel
theorem dX1_append_87 : decode cX1_append 87 = .ok (.dup, 1) := by decide +kernel
theorem dX1_append_88 : decode cX1_append 88 = .ok (.getfield 27, 3) := by decide +kernel
theorem dX1_append_91 : decode cX1_append 91 = .ok (.iconst 1, 1) := by decide +kernel
theorem dX1_append_92 : decode cX1_append 92 = .ok (.iadd, 1) := by decide +kernel
theorem dX1_append_93 : decode cX1_append 93 = .ok (.putfield 27, 3) := by decide +kernel
theorem dX1_append_96 : decode cX1_append 96 = .ok (.aload_n 0, 1) := by decide +kernel
theorem dX1_append_97 : decode cX1_append 97 = .ok (.getfield 27, 3) := by decide +kernel
theorem dX1_append_100 : decode cX1_append 100 = .ok (.iconst 1, 1) := by decide +kernel
theorem dX1_append_101 : decode cX1_append 101 = .ok (.isub, 1) := by decide +kernel
theorem dX1_append_102 : decode cX1_append 102 = .ok (.ireturn, 1) := by decide +kernel
theorem dX1_rows_0 : decode cX1_rows 0 = .ok (.aload_n 0, 1) := by decide +kernel
theorem dX1_rows_1 : decode cX1_rows 1 = .ok (.iconst 0, 1) := by decide +kernel
theorem dX1_rows_2 : decode cX1_rows 2 = .ok (.putfield 23, 3) := by decide +kernel
theorem dX1_rows_5 : decode cX1_rows 5 = .ok (.aload_n 0, 1) := by decide +kernel
theorem dX1_rows_6 : decode cX1_rows 6 = .ok (.getfield 27, 3) := by decide +kernel
theorem dX1_rows_9 : decode cX1_rows 9 = .ok (.ireturn, 1) := by decide +kernel
theorem dX1_cell_0 : decode cX1_cell 0 = .ok (.aload_n 0, 1) := by decide +kernel
theorem dX1_cell_1 : decode cX1_cell 1 = .ok (.iload_n 2, 1) := by decide +kernel
theorem dX1_cell_2 : decode cX1_cell 2 = .ok (.invokestatic 30, 3) := by decide +kernel
theorem dX1_cell_5 : decode cX1_cell 5 = .ok (.ifCond .ne 7, 3) := by decide +kernel
theorem dX1_cell_8 : decode cX1_cell 8 = .ok (.iconst 1, 1) := by decide +kernel
theorem dX1_cell_9 : decode cX1_cell 9 = .ok (.goto 20, 3) := by decide +kernel
theorem dX1_cell_12 : decode cX1_cell 12 = .ok (.iload_n 1, 1) := by decide +kernel
theorem dX1_cell_13 : decode cX1_cell 13 = .ok (.ifCond .lt 11, 3) := by decide +kernel
theorem dX1_cell_16 : decode cX1_cell 16 = .ok (.iload_n 1, 1) := by decide +kernel
theorem dX1_cell_17 : decode cX1_cell 17 = .ok (.aload_n 0, 1) := by decide +kernel
theorem dX1_cell_18 : decode cX1_cell 18 = .ok (.getfield 27, 3) := by decide +kernel
theorem dX1_cell_21 : decode cX1_cell 21 = .ok (.if_icmp .lt 7, 3) := by decide +kernel
theorem dX1_cell_24 : decode cX1_cell 24 = .ok (.iconst 2, 1) := by decide +kernel
theorem dX1_cell_25 : decode cX1_cell 25 = .ok (.goto 4, 3) := by decide +kernel
theorem dX1_cell_28 : decode cX1_cell 28 = .ok (.iconst 0, 1) := by decide +kernel
theorem dX1_cell_29 : decode cX1_cell 29 = .ok (.putfield 23, 3) := by decide +kernel
theorem dX1_cell_32 : decode cX1_cell 32 = .ok (.aload_n 0, 1) := by decide +kernel
theorem dX1_cell_33 : decode cX1_cell 33 = .ok (.getfield 23, 3) := by decide +kernel
theorem dX1_cell_36 : decode cX1_cell 36 = .ok (.ifCond .ne 16, 3) := by decide +kernel
theorem dX1_cell_39 : decode cX1_cell 39 = .ok (.aload_n 0, 1) := by decide +kernel
theorem dX1_cell_40 : decode cX1_cell 40 = .ok (.getfield 7, 3) := by decide +kernel
theorem dX1_cell_43 : decode cX1_cell 43 = .ok (.iconst 4, 1) := by decide +kernel
theorem dX1_cell_44 : decode cX1_cell 44 = .ok (.iload_n 1, 1) := by decide +kernel
theorem dX1_cell_45 : decode cX1_cell 45 = .ok (.imul, 1) := by decide +kernel
theorem dX1_cell_46 : decode cX1_cell 46 = .ok (.iload_n 2, 1) := by decide +kernel
theorem dX1_cell_47 : decode cX1_cell 47 = .ok (.iadd, 1) := by decide +kernel
theorem dX1_cell_48 : decode cX1_cell 48 = .ok (.laload, 1) := by decide +kernel
theorem dX1_cell_49 : decode cX1_cell 49 = .ok (.goto 4, 3) := by decide +kernel
theorem dX1_cell_52 : decode cX1_cell 52 = .ok (.lconst 0, 1) := by decide +kernel
theorem dX1_cell_53 : decode cX1_cell 53 = .ok (.lreturn, 1) := by decide +kernel
theorem dX1_where_0 : decode cX1_where 0 = .ok (.aload_n 0, 1) := by decide +kernel
theorem dX1_where_1 : decode cX1_where 1 = .ok (.iload_n 1, 1) := by decide +kernel
theorem dX1_where_2 : decode cX1_where 2 = .ok (.invokestatic 30, 3) := by decide +kernel
theorem dX1_where_5 : decode cX1_where 5 = .ok (.ifCond .eq 12, 3) := by decide +kernel
theorem dX1_where_8 : decode cX1_where 8 = .ok (.iload_n 2, 1) := by decide +kernel
theorem dX1_where_9 : decode cX1_where 9 = .ok (.ifCond .lt 8, 3) := by decide +kernel
theorem dX1_where_12 : decode cX1_where 12 = .ok (.iload_n 2, 1) := by decide +kernel
theorem dX1_where_13 : decode cX1_where 13 = .ok (.iconst 5, 1) := by decide +kernel
theorem dX1_where_14 : decode cX1_where 14 = .ok (.if_icmp .le 7, 3) := by decide +kernel
theorem dX1_where_17 : decode cX1_where 17 = .ok (.iconst 1, 1) := by decide +kernel
theorem dX1_where_18 : decode cX1_where 18 = .ok (.goto 16, 3) := by decide +kernel
theorem dX1_where_21 : decode cX1_where 21 = .ok (.aload_n 0, 1) := by decide +kernel
theorem dX1_where_22 : decode cX1_where 22 = .ok (.getfield 34, 3) := by decide +kernel
theorem dX1_where_25 : decode cX1_where 25 = .ok (.iconst 3, 1) := by decide +kernel
theorem dX1_where_26 : decode cX1_where 26 = .ok (.if_icmp .ne 7, 3) := by decide +kernel
theorem dX1_where_29 : decode cX1_where 29 = .ok (.iconst 2, 1) := by decide +kernel
theorem dX1_where_30 : decode cX1_where 30 = .ok (.goto 4, 3) := by decide +kernel
theorem dX1_where_33 : decode cX1_where 33 = .ok (.iconst 0, 1) := by decide +kernel
theorem dX1_where_34 : decode cX1_where 34 = .ok (.putfield 23, 3) := by decide +kernel
theorem dX1_where_37 : decode cX1_where 37 = .ok (.aload_n 0, 1) := by decide +kernel
theorem dX1_where_38 : decode cX1_where 38 = .ok (.getfield 23, 3) := by decide +kernel
theorem dX1_where_41 : decode cX1_where 41 = .ok (.ifCond .le 5, 3) := by decide +kernel
theorem dX1_where_44 : decode cX1_where 44 = .ok (.iconst 0, 1) := by decide +kernel
theorem dX1_where_45 : decode cX1_where 45 = .ok (.ireturn, 1) := by decide +kernel
theorem dX1_where_46 : decode cX1_where 46 = .ok (.aload_n 0, 1) := by decide +kernel
theorem dX1_where_47 : decode cX1_where 47 = .ok (.getfield 13, 3) := by decide +kernel
theorem dX1_where_50 : decode cX1_where 50 = .ok (.aload_n 0, 1) := by decide +kernel
theorem dX1_where_51 : decode cX1_where 51 = .ok (.getfield 34, 3) := by decide +kernel
theorem dX1_where_54 : decode cX1_where 54 = .ok (.iload_n 1, 1) := by decide +kernel
theorem dX1_where_55 : decode cX1_where 55 = .ok (.iastore, 1) := by decide +kernel
theorem dX1_where_56 : decode cX1_where 56 = .ok (.aload_n 0, 1) := by decide +kernel
theorem dX1_where_57 : decode cX1_where 57 = .ok (.getfield 17, 3) := by decide +kernel
theorem dX1_where_60 : decode cX1_where 60 = .ok (.aload_n 0, 1) := by decide +kernel
theorem dX1_where_61 : decode cX1_where 61 = .ok (.getfield 34, 3) := by decide +kernel
theorem dX1_where_64 : decode cX1_where 64 = .ok (.iload_n 2, 1) := by decide +kernel
theorem dX1_where_65 : decode cX1_where 65 = .ok (.iastore, 1) := by decide +kernel
theorem dX1_where_66 : decode cX1_where 66 = .ok (.aload_n 0, 1) := by decide +kernel
theorem dX1_where_67 : decode cX1_where 67 = .ok (.getfield 20, 3) := by decide +kernel
theorem dX1_where_70 : decode cX1_where 70 = .ok (.aload_n 0, 1) := by decide +kernel
theorem dX1_where_71 : decode cX1_where 71 = .ok (.getfield 34, 3) := by decide +kernel
theorem dX1_where_74 : decode cX1_where 74 = .ok (.lload_n 3, 1) := by decide +kernel
theorem dX1_where_75 : decode cX1_where 75 = .ok (.lastore, 1) := by decide +kernel
theorem dX1_where_76 : decode cX1_where 76 = .ok (.aload_n 0, 1) := by decide +kernel
theorem dX1_where_77 : decode cX1_where 77 = .ok (.dup, 1) := by decide +kernel
theorem dX1_where_78 : decode cX1_where 78 = .ok (.getfield 34, 3) := by decide +kernel
theorem dX1_where_81 : decode cX1_where 81 = .ok (.iconst 1, 1) := by decide +kernel
theorem dX1_where_82 : decode cX1_where 82 = .ok (.iadd, 1) := by decide +kernel
theorem dX1_where_83 : decode cX1_where 83 = .ok (.putfield 34, 3) := by decide +kernel
theorem dX1_where_86 : decode cX1_where 86 = .ok (.aload_n 0, 1) := by decide +kernel
theorem dX1_where_87 : decode cX1_where 87 = .ok (.getfield 34, 3) := by decide +kernel
theorem dX1_where_90 : decode cX1_where 90 = .ok (.ireturn, 1) := by decide +kernel
theorem dX1_all_0 : decode cX1_all 0 = .ok (.aload_n 0, 1) := by decide +kernel
theorem dX1_all_1 : decode cX1_all 1 = .ok (.iconst 0, 1) := by decide +kernel
theorem dX1_all_2 : decode cX1_all 2 = .ok (.putfield 23, 3) := by decide +kernel
theorem dX1_all_5 : decode cX1_all 5 = .ok (.aload_n 0, 1) := by decide +kernel
theorem dX1_all_6 : decode cX1_all 6 = .ok (.getfield 34, 3) := by decide +kernel
theorem dX1_all_9 : decode cX1_all 9 = .ok (.istore_n 1, 1) := by decide +kernel
theorem dX1_all_10 : decode cX1_all 10 = .ok (.aload_n 0, 1) := by decide +kernel
theorem dX1_all_11 : decode cX1_all 11 = .ok (.iconst 0, 1) := by decide +kernel
theorem dX1_all_12 : decode cX1_all 12 = .ok (.putfield 34, 3) := by decide +kernel
theorem dX1_all_15 : decode cX1_all 15 = .ok (.iload_n 1, 1) := by decide +kernel
theorem dX1_all_16 : decode cX1_all 16 = .ok (.ireturn, 1) := by decide +kernel
theorem dX1_holds_0 : decode cX1_holds 0 = .ok (.iload_n 0, 1) := by decide +kernel
theorem dX1_holds_1 : decode cX1_holds 1 = .ok (.tableswitch 95 0 4 #[35, 47, 59, 71, 83], 35) := by decide +kernel
theorem dX1_holds_36 : decode cX1_holds 36 = .ok (.lload_n 1, 1) := by decide +kernel
theorem dX1_holds_37 : decode cX1_holds 37 = .ok (.lload_n 3, 1) := by decide +kernel
theorem dX1_holds_38 : decode cX1_holds 38 = .ok (.lcmp, 1) := by decide +kernel
theorem dX1_holds_39 : decode cX1_holds 39 = .ok (.ifCond .ge 7, 3) := by decide +kernel
theorem dX1_holds_42 : decode cX1_holds 42 = .ok (.iconst 1, 1) := by decide +kernel
theorem dX1_holds_43 : decode cX1_holds 43 = .ok (.goto 4, 3) := by decide +kernel
theorem dX1_holds_46 : decode cX1_holds 46 = .ok (.iconst 0, 1) := by decide +kernel
theorem dX1_holds_47 : decode cX1_holds 47 = .ok (.ireturn, 1) := by decide +kernel
theorem dX1_holds_48 : decode cX1_holds 48 = .ok (.lload_n 1, 1) := by decide +kernel
theorem dX1_holds_49 : decode cX1_holds 49 = .ok (.lload_n 3, 1) := by decide +kernel
theorem dX1_holds_50 : decode cX1_holds 50 = .ok (.lcmp, 1) := by decide +kernel
theorem dX1_holds_51 : decode cX1_holds 51 = .ok (.ifCond .gt 7, 3) := by decide +kernel
theorem dX1_holds_54 : decode cX1_holds 54 = .ok (.iconst 1, 1) := by decide +kernel
theorem dX1_holds_55 : decode cX1_holds 55 = .ok (.goto 4, 3) := by decide +kernel
theorem dX1_holds_58 : decode cX1_holds 58 = .ok (.iconst 0, 1) := by decide +kernel
theorem dX1_holds_59 : decode cX1_holds 59 = .ok (.ireturn, 1) := by decide +kernel
theorem dX1_holds_60 : decode cX1_holds 60 = .ok (.lload_n 1, 1) := by decide +kernel
theorem dX1_holds_61 : decode cX1_holds 61 = .ok (.lload_n 3, 1) := by decide +kernel
theorem dX1_holds_62 : decode cX1_holds 62 = .ok (.lcmp, 1) := by decide +kernel
theorem dX1_holds_63 : decode cX1_holds 63 = .ok (.ifCond .ne 7, 3) := by decide +kernel
theorem dX1_holds_66 : decode cX1_holds 66 = .ok (.iconst 1, 1) := by decide +kernel
theorem dX1_holds_67 : decode cX1_holds 67 = .ok (.goto 4, 3) := by decide +kernel
theorem dX1_holds_70 : decode cX1_holds 70 = .ok (.iconst 0, 1) := by decide +kernel
theorem dX1_holds_71 : decode cX1_holds 71 = .ok (.ireturn, 1) := by decide +kernel
theorem dX1_holds_72 : decode cX1_holds 72 = .ok (.lload_n 1, 1) := by decide +kernel
theorem dX1_holds_73 : decode cX1_holds 73 = .ok (.lload_n 3, 1) := by decide +kernel
theorem dX1_holds_74 : decode cX1_holds 74 = .ok (.lcmp, 1) := by decide +kernel
theorem dX1_holds_75 : decode cX1_holds 75 = .ok (.ifCond .lt 7, 3) := by decide +kernel
theorem dX1_holds_78 : decode cX1_holds 78 = .ok (.iconst 1, 1) := by decide +kernel
theorem dX1_holds_79 : decode cX1_holds 79 = .ok (.goto 4, 3) := by decide +kernel
theorem dX1_holds_82 : decode cX1_holds 82 = .ok (.iconst 0, 1) := by decide +kernel
theorem dX1_holds_83 : decode cX1_holds 83 = .ok (.ireturn, 1) := by decide +kernel
theorem dX1_holds_84 : decode cX1_holds 84 = .ok (.lload_n 1, 1) := by decide +kernel
theorem dX1_holds_85 : decode cX1_holds 85 = .ok (.lload_n 3, 1) := by decide +kernel
theorem dX1_holds_86 : decode cX1_holds 86 = .ok (.lcmp, 1) := by decide +kernel
theorem dX1_holds_87 : decode cX1_holds 87 = .ok (.ifCond .le 7, 3) := by decide +kernel
theorem dX1_holds_90 : decode cX1_holds 90 = .ok (.iconst 1, 1) := by decide +kernel
theorem dX1_holds_91 : decode cX1_holds 91 = .ok (.goto 4, 3) := by decide +kernel
theorem dX1_holds_94 : decode cX1_holds 94 = .ok (.iconst 0, 1) := by decide +kernel
theorem dX1_holds_95 : decode cX1_holds 95 = .ok (.ireturn, 1) := by decide +kernel
theorem dX1_holds_96 : decode cX1_holds 96 = .ok (.lload_n 1, 1) := by decide +kernel
theorem dX1_holds_97 : decode cX1_holds 97 = .ok (.lload_n 3, 1) := by decide +kernel
theorem dX1_holds_98 : decode cX1_holds 98 = .ok (.lcmp, 1) := by decide +kernel
theorem dX1_holds_99 : decode cX1_holds 99 = .ok (.ifCond .eq 7, 3) := by decide +kernel
theorem dX1_holds_102 : decode cX1_holds 102 = .ok (.iconst 1, 1) := by decide +kernel
theorem dX1_holds_103 : decode cX1_holds 103 = .ok (.goto 4, 3) := by decide +kernel
theorem dX1_holds_106 : decode cX1_holds 106 = .ok (.iconst 0, 1) := by decide +kernel
theorem dX1_holds_107 : decode cX1_holds 107 = .ok (.ireturn, 1) := by decide +kernel
theorem dX1_isChosen_0 : decode cX1_isChosen 0 = .ok (.iconst 1, 1) := by decide +kernel
theorem dX1_isChosen_1 : decode cX1_isChosen 1 = .ok (.istore_n 2, 1) := by decide +kernel
theorem dX1_isChosen_2 : decode cX1_isChosen 2 = .ok (.iconst 0, 1) := by decide +kernel
theorem dX1_isChosen_3 : decode cX1_isChosen 3 = .ok (.istore_n 3, 1) := by decide +kernel
theorem dX1_isChosen_4 : decode cX1_isChosen 4 = .ok (.iload_n 3, 1) := by decide +kernel
theorem dX1_isChosen_5 : decode cX1_isChosen 5 = .ok (.aload_n 0, 1) := by decide +kernel
theorem dX1_isChosen_6 : decode cX1_isChosen 6 = .ok (.getfield 34, 3) := by decide +kernel
theorem dX1_isChosen_9 : decode cX1_isChosen 9 = .ok (.if_icmp .ge 52, 3) := by decide +kernel
theorem dX1_isChosen_12 : decode cX1_isChosen 12 = .ok (.iload_n 2, 1) := by decide +kernel
theorem dX1_isChosen_13 : decode cX1_isChosen 13 = .ok (.ifCond .eq 40, 3) := by decide +kernel
theorem dX1_isChosen_16 : decode cX1_isChosen 16 = .ok (.aload_n 0, 1) := by decide +kernel
theorem dX1_isChosen_17 : decode cX1_isChosen 17 = .ok (.getfield 17, 3) := by decide +kernel
theorem dX1_isChosen_20 : decode cX1_isChosen 20 = .ok (.iload_n 3, 1) := by decide +kernel
theorem dX1_isChosen_21 : decode cX1_isChosen 21 = .ok (.iaload, 1) := by decide +kernel
theorem dX1_isChosen_22 : decode cX1_isChosen 22 = .ok (.aload_n 0, 1) := by decide +kernel
theorem dX1_isChosen_23 : decode cX1_isChosen 23 = .ok (.getfield 7, 3) := by decide +kernel
theorem dX1_isChosen_26 : decode cX1_isChosen 26 = .ok (.iconst 4, 1) := by decide +kernel
theorem dX1_isChosen_27 : decode cX1_isChosen 27 = .ok (.iload_n 1, 1) := by decide +kernel
theorem dX1_isChosen_28 : decode cX1_isChosen 28 = .ok (.imul, 1) := by decide +kernel
theorem dX1_isChosen_29 : decode cX1_isChosen 29 = .ok (.aload_n 0, 1) := by decide +kernel
theorem dX1_isChosen_30 : decode cX1_isChosen 30 = .ok (.getfield 13, 3) := by decide +kernel
theorem dX1_isChosen_33 : decode cX1_isChosen 33 = .ok (.iload_n 3, 1) := by decide +kernel
theorem dX1_isChosen_34 : decode cX1_isChosen 34 = .ok (.iaload, 1) := by decide +kernel
theorem dX1_isChosen_35 : decode cX1_isChosen 35 = .ok (.iadd, 1) := by decide +kernel
theorem dX1_isChosen_36 : decode cX1_isChosen 36 = .ok (.laload, 1) := by decide +kernel
theorem dX1_isChosen_37 : decode cX1_isChosen 37 = .ok (.aload_n 0, 1) := by decide +kernel
theorem dX1_isChosen_38 : decode cX1_isChosen 38 = .ok (.getfield 20, 3) := by decide +kernel
theorem dX1_isChosen_41 : decode cX1_isChosen 41 = .ok (.iload_n 3, 1) := by decide +kernel
theorem dX1_isChosen_42 : decode cX1_isChosen 42 = .ok (.laload, 1) := by decide +kernel
theorem dX1_isChosen_43 : decode cX1_isChosen 43 = .ok (.invokestatic 37, 3) := by decide +kernel
theorem dX1_isChosen_46 : decode cX1_isChosen 46 = .ok (.ifCond .eq 7, 3) := by decide +kernel
theorem dX1_isChosen_49 : decode cX1_isChosen 49 = .ok (.iconst 1, 1) := by decide +kernel
theorem dX1_isChosen_50 : decode cX1_isChosen 50 = .ok (.goto 4, 3) := by decide +kernel
theorem dX1_isChosen_53 : decode cX1_isChosen 53 = .ok (.iconst 0, 1) := by decide +kernel
theorem dX1_isChosen_54 : decode cX1_isChosen 54 = .ok (.istore_n 2, 1) := by decide +kernel
theorem dX1_isChosen_55 : decode cX1_isChosen 55 = .ok (.iinc 3 1, 3) := by decide +kernel
theorem dX1_isChosen_58 : decode cX1_isChosen 58 = .ok (.goto (-54), 3) := by decide +kernel
theorem dX1_isChosen_61 : decode cX1_isChosen 61 = .ok (.iload_n 2, 1) := by decide +kernel
theorem dX1_isChosen_62 : decode cX1_isChosen 62 = .ok (.ireturn, 1) := by decide +kernel
theorem dX1_countChosen_0 : decode cX1_countChosen 0 = .ok (.iconst 0, 1) := by decide +kernel
theorem dX1_countChosen_1 : decode cX1_countChosen 1 = .ok (.istore_n 1, 1) := by decide +kernel
theorem dX1_countChosen_2 : decode cX1_countChosen 2 = .ok (.iconst 0, 1) := by decide +kernel
theorem dX1_countChosen_3 : decode cX1_countChosen 3 = .ok (.istore_n 2, 1) := by decide +kernel
theorem dX1_countChosen_4 : decode cX1_countChosen 4 = .ok (.iload_n 2, 1) := by decide +kernel
theorem dX1_countChosen_5 : decode cX1_countChosen 5 = .ok (.aload_n 0, 1) := by decide +kernel
theorem dX1_countChosen_6 : decode cX1_countChosen 6 = .ok (.getfield 27, 3) := by decide +kernel
theorem dX1_countChosen_9 : decode cX1_countChosen 9 = .ok (.if_icmp .ge 25, 3) := by decide +kernel
theorem dX1_countChosen_12 : decode cX1_countChosen 12 = .ok (.iload_n 1, 1) := by decide +kernel
theorem dX1_countChosen_13 : decode cX1_countChosen 13 = .ok (.aload_n 0, 1) := by decide +kernel
theorem dX1_countChosen_14 : decode cX1_countChosen 14 = .ok (.iload_n 2, 1) := by decide +kernel
theorem dX1_countChosen_15 : decode cX1_countChosen 15 = .ok (.invokevirtual 41, 3) := by decide +kernel
theorem dX1_countChosen_18 : decode cX1_countChosen 18 = .ok (.ifCond .eq 7, 3) := by decide +kernel
theorem dX1_countChosen_21 : decode cX1_countChosen 21 = .ok (.iconst 1, 1) := by decide +kernel
theorem dX1_countChosen_22 : decode cX1_countChosen 22 = .ok (.goto 4, 3) := by decide +kernel
theorem dX1_countChosen_25 : decode cX1_countChosen 25 = .ok (.iconst 0, 1) := by decide +kernel
theorem dX1_countChosen_26 : decode cX1_countChosen 26 = .ok (.iadd, 1) := by decide +kernel
theorem dX1_countChosen_27 : decode cX1_countChosen 27 = .ok (.istore_n 1, 1) := by decide +kernel
theorem dX1_countChosen_28 : decode cX1_countChosen 28 = .ok (.iinc 2 1, 3) := by decide +kernel
theorem dX1_countChosen_31 : decode cX1_countChosen 31 = .ok (.goto (-27), 3) := by decide +kernel
theorem dX1_countChosen_34 : decode cX1_countChosen 34 = .ok (.iload_n 1, 1) := by decide +kernel
theorem dX1_countChosen_35 : decode cX1_countChosen 35 = .ok (.ireturn, 1) := by decide +kernel
theorem dX1_chosen_0 : decode cX1_chosen 0 = .ok (.aload_n 0, 1) := by decide +kernel
theorem dX1_chosen_1 : decode cX1_chosen 1 = .ok (.iconst 0, 1) := by decide +kernel
theorem dX1_chosen_2 : decode cX1_chosen 2 = .ok (.putfield 23, 3) := by decide +kernel
theorem dX1_chosen_5 : decode cX1_chosen 5 = .ok (.aload_n 0, 1) := by decide +kernel
theorem dX1_chosen_6 : decode cX1_chosen 6 = .ok (.invokevirtual 44, 3) := by decide +kernel
theorem dX1_chosen_9 : decode cX1_chosen 9 = .ok (.ireturn, 1) := by decide +kernel
theorem dX1_row_0 : decode cX1_row 0 = .ok (.iconst 0, 1) := by decide +kernel
theorem dX1_row_1 : decode cX1_row 1 = .ok (.istore_n 2, 1) := by decide +kernel
theorem dX1_row_2 : decode cX1_row 2 = .ok (.iconst 0, 1) := by decide +kernel
theorem dX1_row_3 : decode cX1_row 3 = .ok (.istore_n 3, 1) := by decide +kernel
theorem dX1_row_4 : decode cX1_row 4 = .ok (.iload_n 3, 1) := by decide +kernel
theorem dX1_row_5 : decode cX1_row 5 = .ok (.aload_n 0, 1) := by decide +kernel
theorem dX1_row_6 : decode cX1_row 6 = .ok (.getfield 27, 3) := by decide +kernel
theorem dX1_row_9 : decode cX1_row 9 = .ok (.if_icmp .ge 32, 3) := by decide +kernel
theorem dX1_row_12 : decode cX1_row 12 = .ok (.aload_n 0, 1) := by decide +kernel
theorem dX1_row_13 : decode cX1_row 13 = .ok (.iload_n 3, 1) := by decide +kernel
theorem dX1_row_14 : decode cX1_row 14 = .ok (.invokevirtual 41, 3) := by decide +kernel
theorem dX1_row_17 : decode cX1_row 17 = .ok (.ifCond .eq 18, 3) := by decide +kernel
theorem dX1_row_20 : decode cX1_row 20 = .ok (.iload_n 2, 1) := by decide +kernel
theorem dX1_row_21 : decode cX1_row 21 = .ok (.iload_n 1, 1) := by decide +kernel
theorem dX1_row_22 : decode cX1_row 22 = .ok (.if_icmp .ne 10, 3) := by decide +kernel
theorem dX1_row_25 : decode cX1_row 25 = .ok (.aload_n 0, 1) := by decide +kernel
theorem dX1_row_26 : decode cX1_row 26 = .ok (.iconst 0, 1) := by decide +kernel
theorem dX1_row_27 : decode cX1_row 27 = .ok (.putfield 23, 3) := by decide +kernel
theorem dX1_row_30 : decode cX1_row 30 = .ok (.iload_n 3, 1) := by decide +kernel
theorem dX1_row_31 : decode cX1_row 31 = .ok (.ireturn, 1) := by decide +kernel
theorem dX1_row_32 : decode cX1_row 32 = .ok (.iinc 2 1, 3) := by decide +kernel
theorem dX1_row_35 : decode cX1_row 35 = .ok (.iinc 3 1, 3) := by decide +kernel
theorem dX1_row_38 : decode cX1_row 38 = .ok (.goto (-34), 3) := by decide +kernel
theorem dX1_row_41 : decode cX1_row 41 = .ok (.aload_n 0, 1) := by decide +kernel
theorem dX1_row_42 : decode cX1_row 42 = .ok (.iconst 1, 1) := by decide +kernel
theorem dX1_row_43 : decode cX1_row 43 = .ok (.putfield 23, 3) := by decide +kernel
theorem dX1_row_46 : decode cX1_row 46 = .ok (.iconst 0, 1) := by decide +kernel
theorem dX1_row_47 : decode cX1_row 47 = .ok (.ireturn, 1) := by decide +kernel
theorem dX1_least_0 : decode cX1_least 0 = .ok (.aload_n 0, 1) := by decide +kernel
theorem dX1_least_1 : decode cX1_least 1 = .ok (.getfield 7, 3) := by decide +kernel
theorem dX1_least_4 : decode cX1_least 4 = .ok (.bipush 64, 2) := by decide +kernel
theorem dX1_least_6 : decode cX1_least 6 = .ok (.iload_n 1, 1) := by decide +kernel
theorem dX1_least_7 : decode cX1_least 7 = .ok (.imul, 1) := by decide +kernel
theorem dX1_least_8 : decode cX1_least 8 = .ok (.iload_n 2, 1) := by decide +kernel
theorem dX1_least_9 : decode cX1_least 9 = .ok (.iadd, 1) := by decide +kernel
theorem dX1_least_10 : decode cX1_least 10 = .ok (.laload, 1) := by decide +kernel
theorem dX1_least_11 : decode cX1_least 11 = .ok (.lstore_n 3, 1) := by decide +kernel
theorem dX1_least_12 : decode cX1_least 12 = .ok (.bipush 16, 2) := by decide +kernel
theorem dX1_least_14 : decode cX1_least 14 = .ok (.iload_n 1, 1) := by decide +kernel
theorem dX1_least_15 : decode cX1_least 15 = .ok (.imul, 1) := by decide +kernel
theorem dX1_least_16 : decode cX1_least 16 = .ok (.istore 5, 2) := by decide +kernel
theorem dX1_least_18 : decode cX1_least 18 = .ok (.iload 5, 2) := by decide +kernel
theorem dX1_least_20 : decode cX1_least 20 = .ok (.bipush 16, 2) := by decide +kernel
theorem dX1_least_22 : decode cX1_least 22 = .ok (.iload_n 1, 1) := by decide +kernel
theorem dX1_least_23 : decode cX1_least 23 = .ok (.imul, 1) := by decide +kernel
theorem dX1_least_24 : decode cX1_least 24 = .ok (.bipush 16, 2) := by decide +kernel
theorem dX1_least_26 : decode cX1_least 26 = .ok (.iadd, 1) := by decide +kernel
theorem dX1_least_27 : decode cX1_least 27 = .ok (.if_icmp .ge 41, 3) := by decide +kernel
theorem dX1_least_30 : decode cX1_least 30 = .ok (.aload_n 0, 1) := by decide +kernel
theorem dX1_least_31 : decode cX1_least 31 = .ok (.getfield 7, 3) := by decide +kernel
theorem dX1_least_34 : decode cX1_least 34 = .ok (.iconst 4, 1) := by decide +kernel
theorem dX1_least_35 : decode cX1_least 35 = .ok (.iload 5, 2) := by decide +kernel
theorem dX1_least_37 : decode cX1_least 37 = .ok (.imul, 1) := by decide +kernel
theorem dX1_least_38 : decode cX1_least 38 = .ok (.iload_n 2, 1) := by decide +kernel
theorem dX1_least_39 : decode cX1_least 39 = .ok (.iadd, 1) := by decide +kernel
theorem dX1_least_40 : decode cX1_least 40 = .ok (.laload, 1) := by decide +kernel
theorem dX1_least_41 : decode cX1_least 41 = .ok (.lload_n 3, 1) := by decide +kernel
theorem dX1_least_42 : decode cX1_least 42 = .ok (.lcmp, 1) := by decide +kernel
theorem dX1_least_43 : decode cX1_least 43 = .ok (.ifCond .ge 17, 3) := by decide +kernel
theorem dX1_least_46 : decode cX1_least 46 = .ok (.aload_n 0, 1) := by decide +kernel
theorem dX1_least_47 : decode cX1_least 47 = .ok (.getfield 7, 3) := by decide +kernel
theorem dX1_least_50 : decode cX1_least 50 = .ok (.iconst 4, 1) := by decide +kernel
theorem dX1_least_51 : decode cX1_least 51 = .ok (.iload 5, 2) := by decide +kernel
theorem dX1_least_53 : decode cX1_least 53 = .ok (.imul, 1) := by decide +kernel
theorem dX1_least_54 : decode cX1_least 54 = .ok (.iload_n 2, 1) := by decide +kernel
theorem dX1_least_55 : decode cX1_least 55 = .ok (.iadd, 1) := by decide +kernel
theorem dX1_least_56 : decode cX1_least 56 = .ok (.laload, 1) := by decide +kernel
theorem dX1_least_57 : decode cX1_least 57 = .ok (.goto 4, 3) := by decide +kernel
theorem dX1_least_60 : decode cX1_least 60 = .ok (.lload_n 3, 1) := by decide +kernel
theorem dX1_least_61 : decode cX1_least 61 = .ok (.lstore_n 3, 1) := by decide +kernel
theorem dX1_least_62 : decode cX1_least 62 = .ok (.iinc 5 1, 3) := by decide +kernel
theorem dX1_least_65 : decode cX1_least 65 = .ok (.goto (-47), 3) := by decide +kernel
theorem dX1_least_68 : decode cX1_least 68 = .ok (.lload_n 3, 1) := by decide +kernel
theorem dX1_least_69 : decode cX1_least 69 = .ok (.lreturn, 1) := by decide +kernel
theorem dX1_greatest_0 : decode cX1_greatest 0 = .ok (.aload_n 0, 1) := by decide +kernel
theorem dX1_greatest_1 : decode cX1_greatest 1 = .ok (.getfield 7, 3) := by decide +kernel
theorem dX1_greatest_4 : decode cX1_greatest 4 = .ok (.bipush 64, 2) := by decide +kernel
theorem dX1_greatest_6 : decode cX1_greatest 6 = .ok (.iload_n 1, 1) := by decide +kernel
theorem dX1_greatest_7 : decode cX1_greatest 7 = .ok (.imul, 1) := by decide +kernel
theorem dX1_greatest_8 : decode cX1_greatest 8 = .ok (.iload_n 2, 1) := by decide +kernel
theorem dX1_greatest_9 : decode cX1_greatest 9 = .ok (.iadd, 1) := by decide +kernel
theorem dX1_greatest_10 : decode cX1_greatest 10 = .ok (.laload, 1) := by decide +kernel
theorem dX1_greatest_11 : decode cX1_greatest 11 = .ok (.lstore_n 3, 1) := by decide +kernel
theorem dX1_greatest_12 : decode cX1_greatest 12 = .ok (.bipush 16, 2) := by decide +kernel
theorem dX1_greatest_14 : decode cX1_greatest 14 = .ok (.iload_n 1, 1) := by decide +kernel
theorem dX1_greatest_15 : decode cX1_greatest 15 = .ok (.imul, 1) := by decide +kernel
theorem dX1_greatest_16 : decode cX1_greatest 16 = .ok (.istore 5, 2) := by decide +kernel
theorem dX1_greatest_18 : decode cX1_greatest 18 = .ok (.iload 5, 2) := by decide +kernel
theorem dX1_greatest_20 : decode cX1_greatest 20 = .ok (.bipush 16, 2) := by decide +kernel
theorem dX1_greatest_22 : decode cX1_greatest 22 = .ok (.iload_n 1, 1) := by decide +kernel
theorem dX1_greatest_23 : decode cX1_greatest 23 = .ok (.imul, 1) := by decide +kernel
theorem dX1_greatest_24 : decode cX1_greatest 24 = .ok (.bipush 16, 2) := by decide +kernel
theorem dX1_greatest_26 : decode cX1_greatest 26 = .ok (.iadd, 1) := by decide +kernel
theorem dX1_greatest_27 : decode cX1_greatest 27 = .ok (.if_icmp .ge 41, 3) := by decide +kernel
theorem dX1_greatest_30 : decode cX1_greatest 30 = .ok (.aload_n 0, 1) := by decide +kernel
theorem dX1_greatest_31 : decode cX1_greatest 31 = .ok (.getfield 7, 3) := by decide +kernel
theorem dX1_greatest_34 : decode cX1_greatest 34 = .ok (.iconst 4, 1) := by decide +kernel
theorem dX1_greatest_35 : decode cX1_greatest 35 = .ok (.iload 5, 2) := by decide +kernel
theorem dX1_greatest_37 : decode cX1_greatest 37 = .ok (.imul, 1) := by decide +kernel
theorem dX1_greatest_38 : decode cX1_greatest 38 = .ok (.iload_n 2, 1) := by decide +kernel
theorem dX1_greatest_39 : decode cX1_greatest 39 = .ok (.iadd, 1) := by decide +kernel
theorem dX1_greatest_40 : decode cX1_greatest 40 = .ok (.laload, 1) := by decide +kernel
theorem dX1_greatest_41 : decode cX1_greatest 41 = .ok (.lload_n 3, 1) := by decide +kernel
theorem dX1_greatest_42 : decode cX1_greatest 42 = .ok (.lcmp, 1) := by decide +kernel
theorem dX1_greatest_43 : decode cX1_greatest 43 = .ok (.ifCond .le 17, 3) := by decide +kernel
theorem dX1_greatest_46 : decode cX1_greatest 46 = .ok (.aload_n 0, 1) := by decide +kernel
theorem dX1_greatest_47 : decode cX1_greatest 47 = .ok (.getfield 7, 3) := by decide +kernel
theorem dX1_greatest_50 : decode cX1_greatest 50 = .ok (.iconst 4, 1) := by decide +kernel
theorem dX1_greatest_51 : decode cX1_greatest 51 = .ok (.iload 5, 2) := by decide +kernel
theorem dX1_greatest_53 : decode cX1_greatest 53 = .ok (.imul, 1) := by decide +kernel
theorem dX1_greatest_54 : decode cX1_greatest 54 = .ok (.iload_n 2, 1) := by decide +kernel
theorem dX1_greatest_55 : decode cX1_greatest 55 = .ok (.iadd, 1) := by decide +kernel
theorem dX1_greatest_56 : decode cX1_greatest 56 = .ok (.laload, 1) := by decide +kernel
theorem dX1_greatest_57 : decode cX1_greatest 57 = .ok (.goto 4, 3) := by decide +kernel
theorem dX1_greatest_60 : decode cX1_greatest 60 = .ok (.lload_n 3, 1) := by decide +kernel
theorem dX1_greatest_61 : decode cX1_greatest 61 = .ok (.lstore_n 3, 1) := by decide +kernel
theorem dX1_greatest_62 : decode cX1_greatest 62 = .ok (.iinc 5 1, 3) := by decide +kernel
theorem dX1_greatest_65 : decode cX1_greatest 65 = .ok (.goto (-47), 3) := by decide +kernel
theorem dX1_greatest_68 : decode cX1_greatest 68 = .ok (.lload_n 3, 1) := by decide +kernel
theorem dX1_greatest_69 : decode cX1_greatest 69 = .ok (.lreturn, 1) := by decide +kernel
theorem dX1_could_0 : decode cX1_could 0 = .ok (.iload_n 0, 1) := by decide +kernel
theorem dX1_could_1 : decode cX1_could 1 = .ok (.iconst 2, 1) := by decide +kernel
theorem dX1_could_2 : decode cX1_could 2 = .ok (.if_icmp .ne 23, 3) := by decide +kernel
theorem dX1_could_5 : decode cX1_could 5 = .ok (.lload_n 1, 1) := by decide +kernel
theorem dX1_could_6 : decode cX1_could 6 = .ok (.lload 5, 2) := by decide +kernel
theorem dX1_could_8 : decode cX1_could 8 = .ok (.lcmp, 1) := by decide +kernel
theorem dX1_could_9 : decode cX1_could 9 = .ok (.ifCond .gt 14, 3) := by decide +kernel
theorem dX1_could_12 : decode cX1_could 12 = .ok (.lload 5, 2) := by decide +kernel
theorem dX1_could_14 : decode cX1_could 14 = .ok (.lload_n 3, 1) := by decide +kernel
theorem dX1_could_15 : decode cX1_could 15 = .ok (.lcmp, 1) := by decide +kernel
theorem dX1_could_16 : decode cX1_could 16 = .ok (.ifCond .gt 7, 3) := by decide +kernel
theorem dX1_could_19 : decode cX1_could 19 = .ok (.iconst 1, 1) := by decide +kernel
theorem dX1_could_20 : decode cX1_could 20 = .ok (.goto 4, 3) := by decide +kernel
theorem dX1_could_23 : decode cX1_could 23 = .ok (.iconst 0, 1) := by decide +kernel
theorem dX1_could_24 : decode cX1_could 24 = .ok (.ireturn, 1) := by decide +kernel
theorem dX1_could_25 : decode cX1_could 25 = .ok (.iload_n 0, 1) := by decide +kernel
theorem dX1_could_26 : decode cX1_could 26 = .ok (.lload_n 1, 1) := by decide +kernel
theorem dX1_could_27 : decode cX1_could 27 = .ok (.lload 5, 2) := by decide +kernel
theorem dX1_could_29 : decode cX1_could 29 = .ok (.invokestatic 37, 3) := by decide +kernel
theorem dX1_could_32 : decode cX1_could 32 = .ok (.ifCond .ne 13, 3) := by decide +kernel
theorem dX1_could_35 : decode cX1_could 35 = .ok (.iload_n 0, 1) := by decide +kernel
theorem dX1_could_36 : decode cX1_could 36 = .ok (.lload_n 3, 1) := by decide +kernel
theorem dX1_could_37 : decode cX1_could 37 = .ok (.lload 5, 2) := by decide +kernel
theorem dX1_could_39 : decode cX1_could 39 = .ok (.invokestatic 37, 3) := by decide +kernel
theorem dX1_could_42 : decode cX1_could 42 = .ok (.ifCond .eq 7, 3) := by decide +kernel
theorem dX1_could_45 : decode cX1_could 45 = .ok (.iconst 1, 1) := by decide +kernel
theorem dX1_could_46 : decode cX1_could 46 = .ok (.goto 4, 3) := by decide +kernel
theorem dX1_could_49 : decode cX1_could 49 = .ok (.iconst 0, 1) := by decide +kernel
theorem dX1_could_50 : decode cX1_could 50 = .ok (.ireturn, 1) := by decide +kernel
theorem dX1_blocks_0 : decode cX1_blocks 0 = .ok (.aload_n 0, 1) := by decide +kernel
theorem dX1_blocks_1 : decode cX1_blocks 1 = .ok (.iconst 0, 1) := by decide +kernel
theorem dX1_blocks_2 : decode cX1_blocks 2 = .ok (.putfield 23, 3) := by decide +kernel
theorem dX1_blocks_5 : decode cX1_blocks 5 = .ok (.iconst 0, 1) := by decide +kernel
theorem dX1_blocks_6 : decode cX1_blocks 6 = .ok (.istore_n 1, 1) := by decide +kernel
theorem dX1_blocks_7 : decode cX1_blocks 7 = .ok (.iconst 0, 1) := by decide +kernel
theorem dX1_blocks_8 : decode cX1_blocks 8 = .ok (.istore_n 2, 1) := by decide +kernel
theorem dX1_blocks_9 : decode cX1_blocks 9 = .ok (.bipush 16, 2) := by decide +kernel
theorem dX1_blocks_11 : decode cX1_blocks 11 = .ok (.iload_n 2, 1) := by decide +kernel
theorem dX1_blocks_12 : decode cX1_blocks 12 = .ok (.imul, 1) := by decide +kernel
theorem dX1_blocks_13 : decode cX1_blocks 13 = .ok (.aload_n 0, 1) := by decide +kernel
theorem dX1_blocks_14 : decode cX1_blocks 14 = .ok (.getfield 27, 3) := by decide +kernel
theorem dX1_blocks_17 : decode cX1_blocks 17 = .ok (.if_icmp .ge 117, 3) := by decide +kernel
theorem dX1_blocks_20 : decode cX1_blocks 20 = .ok (.iconst 1, 1) := by decide +kernel
theorem dX1_blocks_21 : decode cX1_blocks 21 = .ok (.istore_n 3, 1) := by decide +kernel
theorem dX1_blocks_22 : decode cX1_blocks 22 = .ok (.iconst 0, 1) := by decide +kernel
theorem dX1_blocks_23 : decode cX1_blocks 23 = .ok (.istore 4, 2) := by decide +kernel
theorem dX1_blocks_25 : decode cX1_blocks 25 = .ok (.iload 4, 2) := by decide +kernel
theorem dX1_blocks_27 : decode cX1_blocks 27 = .ok (.aload_n 0, 1) := by decide +kernel
theorem dX1_blocks_28 : decode cX1_blocks 28 = .ok (.getfield 34, 3) := by decide +kernel
theorem dX1_blocks_31 : decode cX1_blocks 31 = .ok (.if_icmp .ge 85, 3) := by decide +kernel
theorem dX1_blocks_34 : decode cX1_blocks 34 = .ok (.bipush 16, 2) := by decide +kernel
theorem dX1_blocks_36 : decode cX1_blocks 36 = .ok (.iload_n 2, 1) := by decide +kernel
theorem dX1_blocks_37 : decode cX1_blocks 37 = .ok (.imul, 1) := by decide +kernel
theorem dX1_blocks_38 : decode cX1_blocks 38 = .ok (.bipush 16, 2) := by decide +kernel
theorem dX1_blocks_40 : decode cX1_blocks 40 = .ok (.iadd, 1) := by decide +kernel
theorem dX1_blocks_41 : decode cX1_blocks 41 = .ok (.aload_n 0, 1) := by decide +kernel
theorem dX1_blocks_42 : decode cX1_blocks 42 = .ok (.getfield 27, 3) := by decide +kernel
theorem dX1_blocks_45 : decode cX1_blocks 45 = .ok (.if_icmp .gt 71, 3) := by decide +kernel
theorem dX1_blocks_48 : decode cX1_blocks 48 = .ok (.aload_n 0, 1) := by decide +kernel
theorem dX1_blocks_49 : decode cX1_blocks 49 = .ok (.iload_n 2, 1) := by decide +kernel
theorem dX1_blocks_50 : decode cX1_blocks 50 = .ok (.aload_n 0, 1) := by decide +kernel
theorem dX1_blocks_51 : decode cX1_blocks 51 = .ok (.getfield 13, 3) := by decide +kernel
theorem dX1_blocks_54 : decode cX1_blocks 54 = .ok (.iload 4, 2) := by decide +kernel
theorem dX1_blocks_56 : decode cX1_blocks 56 = .ok (.iaload, 1) := by decide +kernel
theorem dX1_blocks_57 : decode cX1_blocks 57 = .ok (.invokevirtual 48, 3) := by decide +kernel
theorem dX1_blocks_60 : decode cX1_blocks 60 = .ok (.lstore 5, 2) := by decide +kernel
theorem dX1_blocks_62 : decode cX1_blocks 62 = .ok (.aload_n 0, 1) := by decide +kernel
theorem dX1_blocks_63 : decode cX1_blocks 63 = .ok (.iload_n 2, 1) := by decide +kernel
theorem dX1_blocks_64 : decode cX1_blocks 64 = .ok (.aload_n 0, 1) := by decide +kernel
theorem dX1_blocks_65 : decode cX1_blocks 65 = .ok (.getfield 13, 3) := by decide +kernel
theorem dX1_blocks_68 : decode cX1_blocks 68 = .ok (.iload 4, 2) := by decide +kernel
theorem dX1_blocks_70 : decode cX1_blocks 70 = .ok (.iaload, 1) := by decide +kernel
theorem dX1_blocks_71 : decode cX1_blocks 71 = .ok (.invokevirtual 52, 3) := by decide +kernel
theorem dX1_blocks_74 : decode cX1_blocks 74 = .ok (.lstore 7, 2) := by decide +kernel
theorem dX1_blocks_76 : decode cX1_blocks 76 = .ok (.iload_n 3, 1) := by decide +kernel
theorem dX1_blocks_77 : decode cX1_blocks 77 = .ok (.ifCond .eq 31, 3) := by decide +kernel
theorem dX1_blocks_80 : decode cX1_blocks 80 = .ok (.aload_n 0, 1) := by decide +kernel
theorem dX1_blocks_81 : decode cX1_blocks 81 = .ok (.getfield 17, 3) := by decide +kernel
theorem dX1_blocks_84 : decode cX1_blocks 84 = .ok (.iload 4, 2) := by decide +kernel
theorem dX1_blocks_86 : decode cX1_blocks 86 = .ok (.iaload, 1) := by decide +kernel
theorem dX1_blocks_87 : decode cX1_blocks 87 = .ok (.lload 5, 2) := by decide +kernel
theorem dX1_blocks_89 : decode cX1_blocks 89 = .ok (.lload 7, 2) := by decide +kernel
theorem dX1_blocks_91 : decode cX1_blocks 91 = .ok (.aload_n 0, 1) := by decide +kernel
theorem dX1_blocks_92 : decode cX1_blocks 92 = .ok (.getfield 20, 3) := by decide +kernel
theorem dX1_blocks_95 : decode cX1_blocks 95 = .ok (.iload 4, 2) := by decide +kernel
theorem dX1_blocks_97 : decode cX1_blocks 97 = .ok (.laload, 1) := by decide +kernel
theorem dX1_blocks_98 : decode cX1_blocks 98 = .ok (.invokestatic 55, 3) := by decide +kernel
theorem dX1_blocks_101 : decode cX1_blocks 101 = .ok (.ifCond .eq 7, 3) := by decide +kernel
theorem dX1_blocks_104 : decode cX1_blocks 104 = .ok (.iconst 1, 1) := by decide +kernel
theorem dX1_blocks_105 : decode cX1_blocks 105 = .ok (.goto 4, 3) := by decide +kernel
theorem dX1_blocks_108 : decode cX1_blocks 108 = .ok (.iconst 0, 1) := by decide +kernel
theorem dX1_blocks_109 : decode cX1_blocks 109 = .ok (.istore_n 3, 1) := by decide +kernel
theorem dX1_blocks_110 : decode cX1_blocks 110 = .ok (.iinc 4 1, 3) := by decide +kernel
theorem dX1_blocks_113 : decode cX1_blocks 113 = .ok (.goto (-88), 3) := by decide +kernel
theorem dX1_blocks_116 : decode cX1_blocks 116 = .ok (.iload_n 1, 1) := by decide +kernel
theorem dX1_blocks_117 : decode cX1_blocks 117 = .ok (.iload_n 3, 1) := by decide +kernel
theorem dX1_blocks_118 : decode cX1_blocks 118 = .ok (.ifCond .eq 7, 3) := by decide +kernel
theorem dX1_blocks_121 : decode cX1_blocks 121 = .ok (.iconst 1, 1) := by decide +kernel
theorem dX1_blocks_122 : decode cX1_blocks 122 = .ok (.goto 4, 3) := by decide +kernel
theorem dX1_blocks_125 : decode cX1_blocks 125 = .ok (.iconst 0, 1) := by decide +kernel
theorem dX1_blocks_126 : decode cX1_blocks 126 = .ok (.iadd, 1) := by decide +kernel
theorem dX1_blocks_127 : decode cX1_blocks 127 = .ok (.istore_n 1, 1) := by decide +kernel
theorem dX1_blocks_128 : decode cX1_blocks 128 = .ok (.iinc 2 1, 3) := by decide +kernel
theorem dX1_blocks_131 : decode cX1_blocks 131 = .ok (.goto (-122), 3) := by decide +kernel
theorem dX1_blocks_134 : decode cX1_blocks 134 = .ok (.iload_n 1, 1) := by decide +kernel
theorem dX1_blocks_135 : decode cX1_blocks 135 = .ok (.ireturn, 1) := by decide +kernel
theorem dX1_width_0 : decode cX1_width 0 = .ok (.iconst 0, 1) := by decide +kernel
theorem dX1_width_1 : decode cX1_width 1 = .ok (.istore_n 2, 1) := by decide +kernel
theorem dX1_width_2 : decode cX1_width 2 = .ok (.lload_n 0, 1) := by decide +kernel
theorem dX1_width_3 : decode cX1_width 3 = .ok (.lstore_n 3, 1) := by decide +kernel
theorem dX1_width_4 : decode cX1_width 4 = .ok (.lload_n 3, 1) := by decide +kernel
theorem dX1_width_5 : decode cX1_width 5 = .ok (.lconst 0, 1) := by decide +kernel
theorem dX1_width_6 : decode cX1_width 6 = .ok (.lcmp, 1) := by decide +kernel
theorem dX1_width_7 : decode cX1_width 7 = .ok (.ifCond .eq 13, 3) := by decide +kernel
theorem dX1_width_10 : decode cX1_width 10 = .ok (.iinc 2 1, 3) := by decide +kernel
theorem dX1_width_13 : decode cX1_width 13 = .ok (.lload_n 3, 1) := by decide +kernel
theorem dX1_width_14 : decode cX1_width 14 = .ok (.iconst 1, 1) := by decide +kernel
theorem dX1_width_15 : decode cX1_width 15 = .ok (.lushr, 1) := by decide +kernel
theorem dX1_width_16 : decode cX1_width 16 = .ok (.lstore_n 3, 1) := by decide +kernel
theorem dX1_width_17 : decode cX1_width 17 = .ok (.goto (-13), 3) := by decide +kernel
theorem dX1_width_20 : decode cX1_width 20 = .ok (.iload_n 2, 1) := by decide +kernel
theorem dX1_width_21 : decode cX1_width 21 = .ok (.ireturn, 1) := by decide +kernel
theorem dX1_need_0 : decode cX1_need 0 = .ok (.iload_n 2, 1) := by decide +kernel
theorem dX1_need_1 : decode cX1_need 1 = .ok (.iconst 3, 1) := by decide +kernel
theorem dX1_need_2 : decode cX1_need 2 = .ok (.if_icmp .ne 8, 3) := by decide +kernel
theorem dX1_need_5 : decode cX1_need 5 = .ok (.bipush 64, 2) := by decide +kernel
theorem dX1_need_7 : decode cX1_need 7 = .ok (.goto 5, 3) := by decide +kernel
theorem dX1_need_10 : decode cX1_need 10 = .ok (.bipush 32, 2) := by decide +kernel
theorem dX1_need_12 : decode cX1_need 12 = .ok (.istore 4, 2) := by decide +kernel
theorem dX1_need_14 : decode cX1_need 14 = .ok (.iload_n 3, 1) := by decide +kernel
theorem dX1_need_15 : decode cX1_need 15 = .ok (.ifCond .ne 9, 3) := by decide +kernel
theorem dX1_need_18 : decode cX1_need 18 = .ok (.bipush 16, 2) := by decide +kernel
theorem dX1_need_20 : decode cX1_need 20 = .ok (.iload 4, 2) := by decide +kernel
theorem dX1_need_22 : decode cX1_need 22 = .ok (.imul, 1) := by decide +kernel
theorem dX1_need_23 : decode cX1_need 23 = .ok (.ireturn, 1) := by decide +kernel
theorem dX1_need_24 : decode cX1_need 24 = .ok (.iload_n 3, 1) := by decide +kernel
theorem dX1_need_25 : decode cX1_need 25 = .ok (.iconst 3, 1) := by decide +kernel
theorem dX1_need_26 : decode cX1_need 26 = .ok (.if_icmp .ne 33, 3) := by decide +kernel
theorem dX1_need_29 : decode cX1_need 29 = .ok (.aload_n 0, 1) := by decide +kernel
theorem dX1_need_30 : decode cX1_need 30 = .ok (.iload_n 1, 1) := by decide +kernel
theorem dX1_need_31 : decode cX1_need 31 = .ok (.iload_n 2, 1) := by decide +kernel
theorem dX1_need_32 : decode cX1_need 32 = .ok (.invokevirtual 52, 3) := by decide +kernel
theorem dX1_need_35 : decode cX1_need 35 = .ok (.aload_n 0, 1) := by decide +kernel
theorem dX1_need_36 : decode cX1_need 36 = .ok (.iload_n 1, 1) := by decide +kernel
theorem dX1_need_37 : decode cX1_need 37 = .ok (.iload_n 2, 1) := by decide +kernel
theorem dX1_need_38 : decode cX1_need 38 = .ok (.invokevirtual 48, 3) := by decide +kernel
theorem dX1_need_41 : decode cX1_need 41 = .ok (.lsub, 1) := by decide +kernel
theorem dX1_need_42 : decode cX1_need 42 = .ok (.lstore 5, 2) := by decide +kernel
theorem dX1_need_44 : decode cX1_need 44 = .ok (.iload 4, 2) := by decide +kernel
theorem dX1_need_46 : decode cX1_need 46 = .ok (.bipush 7, 2) := by decide +kernel
theorem dX1_need_48 : decode cX1_need 48 = .ok (.iadd, 1) := by decide +kernel
theorem dX1_need_49 : decode cX1_need 49 = .ok (.bipush 16, 2) := by decide +kernel
theorem dX1_need_51 : decode cX1_need 51 = .ok (.lload 5, 2) := by decide +kernel
theorem dX1_need_53 : decode cX1_need 53 = .ok (.invokestatic 59, 3) := by decide +kernel
theorem dX1_need_56 : decode cX1_need 56 = .ok (.imul, 1) := by decide +kernel
theorem dX1_need_57 : decode cX1_need 57 = .ok (.iadd, 1) := by decide +kernel
theorem dX1_need_58 : decode cX1_need 58 = .ok (.ireturn, 1) := by decide +kernel
theorem dX1_need_59 : decode cX1_need 59 = .ok (.iconst 0, 1) := by decide +kernel
theorem dX1_need_60 : decode cX1_need 60 = .ok (.istore 5, 2) := by decide +kernel
theorem dX1_need_62 : decode cX1_need 62 = .ok (.iconst 0, 1) := by decide +kernel
theorem dX1_need_63 : decode cX1_need 63 = .ok (.istore 6, 2) := by decide +kernel
theorem dX1_need_65 : decode cX1_need 65 = .ok (.bipush 16, 2) := by decide +kernel
theorem dX1_need_67 : decode cX1_need 67 = .ok (.iload_n 1, 1) := by decide +kernel
theorem dX1_need_68 : decode cX1_need 68 = .ok (.imul, 1) := by decide +kernel
theorem dX1_need_69 : decode cX1_need 69 = .ok (.istore 7, 2) := by decide +kernel
theorem dX1_need_71 : decode cX1_need 71 = .ok (.iload 7, 2) := by decide +kernel
theorem dX1_need_73 : decode cX1_need 73 = .ok (.bipush 16, 2) := by decide +kernel
theorem dX1_need_75 : decode cX1_need 75 = .ok (.iload_n 1, 1) := by decide +kernel
theorem dX1_need_76 : decode cX1_need 76 = .ok (.imul, 1) := by decide +kernel
theorem dX1_need_77 : decode cX1_need 77 = .ok (.bipush 16, 2) := by decide +kernel
theorem dX1_need_79 : decode cX1_need 79 = .ok (.iadd, 1) := by decide +kernel
theorem dX1_need_80 : decode cX1_need 80 = .ok (.if_icmp .ge 126, 3) := by decide +kernel
theorem dX1_need_83 : decode cX1_need 83 = .ok (.aload_n 0, 1) := by decide +kernel
theorem dX1_need_84 : decode cX1_need 84 = .ok (.getfield 7, 3) := by decide +kernel
theorem dX1_need_87 : decode cX1_need 87 = .ok (.iconst 4, 1) := by decide +kernel
theorem dX1_need_88 : decode cX1_need 88 = .ok (.iload 7, 2) := by decide +kernel
theorem dX1_need_90 : decode cX1_need 90 = .ok (.imul, 1) := by decide +kernel
theorem dX1_need_91 : decode cX1_need 91 = .ok (.iload_n 2, 1) := by decide +kernel
theorem dX1_need_92 : decode cX1_need 92 = .ok (.iadd, 1) := by decide +kernel
theorem dX1_need_93 : decode cX1_need 93 = .ok (.laload, 1) := by decide +kernel
theorem dX1_need_94 : decode cX1_need 94 = .ok (.lstore 8, 2) := by decide +kernel
theorem dX1_need_96 : decode cX1_need 96 = .ok (.iconst 1, 1) := by decide +kernel
theorem dX1_need_97 : decode cX1_need 97 = .ok (.istore 10, 2) := by decide +kernel
theorem dX1_need_99 : decode cX1_need 99 = .ok (.bipush 16, 2) := by decide +kernel
theorem dX1_need_101 : decode cX1_need 101 = .ok (.iload_n 1, 1) := by decide +kernel
theorem dX1_need_102 : decode cX1_need 102 = .ok (.imul, 1) := by decide +kernel
theorem dX1_need_103 : decode cX1_need 103 = .ok (.istore 11, 2) := by decide +kernel
theorem dX1_need_105 : decode cX1_need 105 = .ok (.iload 11, 2) := by decide +kernel
theorem dX1_need_107 : decode cX1_need 107 = .ok (.iload 7, 2) := by decide +kernel
theorem dX1_need_109 : decode cX1_need 109 = .ok (.if_icmp .ge 38, 3) := by decide +kernel
theorem dX1_need_112 : decode cX1_need 112 = .ok (.iload 10, 2) := by decide +kernel
theorem dX1_need_114 : decode cX1_need 114 = .ok (.ifCond .eq 24, 3) := by decide +kernel
theorem dX1_need_117 : decode cX1_need 117 = .ok (.aload_n 0, 1) := by decide +kernel
theorem dX1_need_118 : decode cX1_need 118 = .ok (.getfield 7, 3) := by decide +kernel
theorem dX1_need_121 : decode cX1_need 121 = .ok (.iconst 4, 1) := by decide +kernel
theorem dX1_need_122 : decode cX1_need 122 = .ok (.iload 11, 2) := by decide +kernel
theorem dX1_need_124 : decode cX1_need 124 = .ok (.imul, 1) := by decide +kernel
theorem dX1_need_125 : decode cX1_need 125 = .ok (.iload_n 2, 1) := by decide +kernel
theorem dX1_need_126 : decode cX1_need 126 = .ok (.iadd, 1) := by decide +kernel
theorem dX1_need_127 : decode cX1_need 127 = .ok (.laload, 1) := by decide +kernel
theorem dX1_need_128 : decode cX1_need 128 = .ok (.lload 8, 2) := by decide +kernel
theorem dX1_need_130 : decode cX1_need 130 = .ok (.lcmp, 1) := by decide +kernel
theorem dX1_need_131 : decode cX1_need 131 = .ok (.ifCond .eq 7, 3) := by decide +kernel
theorem dX1_need_134 : decode cX1_need 134 = .ok (.iconst 1, 1) := by decide +kernel
theorem dX1_need_135 : decode cX1_need 135 = .ok (.goto 4, 3) := by decide +kernel
theorem dX1_need_138 : decode cX1_need 138 = .ok (.iconst 0, 1) := by decide +kernel
theorem dX1_need_139 : decode cX1_need 139 = .ok (.istore 10, 2) := by decide +kernel
theorem dX1_need_141 : decode cX1_need 141 = .ok (.iinc 11 1, 3) := by decide +kernel
theorem dX1_need_144 : decode cX1_need 144 = .ok (.goto (-39), 3) := by decide +kernel
theorem dX1_need_147 : decode cX1_need 147 = .ok (.iload 6, 2) := by decide +kernel
theorem dX1_need_149 : decode cX1_need 149 = .ok (.iload 10, 2) := by decide +kernel
theorem dX1_need_151 : decode cX1_need 151 = .ok (.ifCond .eq 7, 3) := by decide +kernel
theorem dX1_need_154 : decode cX1_need 154 = .ok (.iconst 1, 1) := by decide +kernel
theorem dX1_need_155 : decode cX1_need 155 = .ok (.goto 4, 3) := by decide +kernel
theorem dX1_need_158 : decode cX1_need 158 = .ok (.iconst 0, 1) := by decide +kernel
theorem dX1_need_159 : decode cX1_need 159 = .ok (.iadd, 1) := by decide +kernel
theorem dX1_need_160 : decode cX1_need 160 = .ok (.istore 6, 2) := by decide +kernel
theorem dX1_need_162 : decode cX1_need 162 = .ok (.iload 5, 2) := by decide +kernel
theorem dX1_need_164 : decode cX1_need 164 = .ok (.iload 7, 2) := by decide +kernel
theorem dX1_need_166 : decode cX1_need 166 = .ok (.bipush 16, 2) := by decide +kernel
theorem dX1_need_168 : decode cX1_need 168 = .ok (.iload_n 1, 1) := by decide +kernel
theorem dX1_need_169 : decode cX1_need 169 = .ok (.imul, 1) := by decide +kernel
theorem dX1_need_170 : decode cX1_need 170 = .ok (.if_icmp .eq 22, 3) := by decide +kernel
theorem dX1_need_173 : decode cX1_need 173 = .ok (.aload_n 0, 1) := by decide +kernel
theorem dX1_need_174 : decode cX1_need 174 = .ok (.getfield 7, 3) := by decide +kernel
theorem dX1_need_177 : decode cX1_need 177 = .ok (.iconst 4, 1) := by decide +kernel
theorem dX1_need_178 : decode cX1_need 178 = .ok (.iload 7, 2) := by decide +kernel
theorem dX1_need_180 : decode cX1_need 180 = .ok (.imul, 1) := by decide +kernel
theorem dX1_need_181 : decode cX1_need 181 = .ok (.iconst 4, 1) := by decide +kernel
theorem dX1_need_182 : decode cX1_need 182 = .ok (.isub, 1) := by decide +kernel
theorem dX1_need_183 : decode cX1_need 183 = .ok (.iload_n 2, 1) := by decide +kernel
theorem dX1_need_184 : decode cX1_need 184 = .ok (.iadd, 1) := by decide +kernel
theorem dX1_need_185 : decode cX1_need 185 = .ok (.laload, 1) := by decide +kernel
theorem dX1_need_186 : decode cX1_need 186 = .ok (.lload 8, 2) := by decide +kernel
theorem dX1_need_188 : decode cX1_need 188 = .ok (.lcmp, 1) := by decide +kernel
theorem dX1_need_189 : decode cX1_need 189 = .ok (.ifCond .eq 7, 3) := by decide +kernel
theorem dX1_need_192 : decode cX1_need 192 = .ok (.iconst 1, 1) := by decide +kernel
theorem dX1_need_193 : decode cX1_need 193 = .ok (.goto 4, 3) := by decide +kernel
theorem dX1_need_196 : decode cX1_need 196 = .ok (.iconst 0, 1) := by decide +kernel
theorem dX1_need_197 : decode cX1_need 197 = .ok (.iadd, 1) := by decide +kernel
theorem dX1_need_198 : decode cX1_need 198 = .ok (.istore 5, 2) := by decide +kernel
theorem dX1_need_200 : decode cX1_need 200 = .ok (.iinc 7 1, 3) := by decide +kernel
theorem dX1_need_203 : decode cX1_need 203 = .ok (.goto (-132), 3) := by decide +kernel
theorem dX1_need_206 : decode cX1_need 206 = .ok (.iload_n 3, 1) := by decide +kernel
theorem dX1_need_207 : decode cX1_need 207 = .ok (.iconst 1, 1) := by decide +kernel
theorem dX1_need_208 : decode cX1_need 208 = .ok (.if_icmp .ne 13, 3) := by decide +kernel
theorem dX1_need_211 : decode cX1_need 211 = .ok (.iload 4, 2) := by decide +kernel
theorem dX1_need_213 : decode cX1_need 213 = .ok (.iconst 5, 1) := by decide +kernel
theorem dX1_need_214 : decode cX1_need 214 = .ok (.iadd, 1) := by decide +kernel
theorem dX1_need_215 : decode cX1_need 215 = .ok (.iload 5, 2) := by decide +kernel
theorem dX1_need_217 : decode cX1_need 217 = .ok (.imul, 1) := by decide +kernel
theorem dX1_need_218 : decode cX1_need 218 = .ok (.goto 20, 3) := by decide +kernel
theorem dX1_need_221 : decode cX1_need 221 = .ok (.iload 4, 2) := by decide +kernel
theorem dX1_need_223 : decode cX1_need 223 = .ok (.iload 6, 2) := by decide +kernel
theorem dX1_need_225 : decode cX1_need 225 = .ok (.imul, 1) := by decide +kernel
theorem dX1_need_226 : decode cX1_need 226 = .ok (.bipush 16, 2) := by decide +kernel
theorem dX1_need_228 : decode cX1_need 228 = .ok (.iload 6, 2) := by decide +kernel
theorem dX1_need_230 : decode cX1_need 230 = .ok (.i2l, 1) := by decide +kernel
theorem dX1_need_231 : decode cX1_need 231 = .ok (.lconst 1, 1) := by decide +kernel
theorem dX1_need_232 : decode cX1_need 232 = .ok (.lsub, 1) := by decide +kernel
theorem dX1_need_233 : decode cX1_need 233 = .ok (.invokestatic 59, 3) := by decide +kernel
theorem dX1_need_236 : decode cX1_need 236 = .ok (.imul, 1) := by decide +kernel
theorem dX1_need_237 : decode cX1_need 237 = .ok (.iadd, 1) := by decide +kernel
theorem dX1_need_238 : decode cX1_need 238 = .ok (.ireturn, 1) := by decide +kernel
theorem dX1_best_0 : decode cX1_best 0 = .ok (.iconst 0, 1) := by decide +kernel
theorem dX1_best_1 : decode cX1_best 1 = .ok (.istore_n 3, 1) := by decide +kernel
theorem dX1_best_2 : decode cX1_best 2 = .ok (.iconst 1, 1) := by decide +kernel
theorem dX1_best_3 : decode cX1_best 3 = .ok (.istore 4, 2) := by decide +kernel
theorem dX1_best_5 : decode cX1_best 5 = .ok (.iload 4, 2) := by decide +kernel
theorem dX1_best_7 : decode cX1_best 7 = .ok (.iconst 4, 1) := by decide +kernel
theorem dX1_best_8 : decode cX1_best 8 = .ok (.if_icmp .ge 38, 3) := by decide +kernel
theorem dX1_best_11 : decode cX1_best 11 = .ok (.aload_n 0, 1) := by decide +kernel
theorem dX1_best_12 : decode cX1_best 12 = .ok (.iload_n 1, 1) := by decide +kernel
theorem dX1_best_13 : decode cX1_best 13 = .ok (.iload_n 2, 1) := by decide +kernel
theorem dX1_best_14 : decode cX1_best 14 = .ok (.iload 4, 2) := by decide +kernel
theorem dX1_best_16 : decode cX1_best 16 = .ok (.invokevirtual 63, 3) := by decide +kernel
theorem dX1_best_19 : decode cX1_best 19 = .ok (.istore 5, 2) := by decide +kernel
theorem dX1_best_21 : decode cX1_best 21 = .ok (.iload 5, 2) := by decide +kernel
theorem dX1_best_23 : decode cX1_best 23 = .ok (.aload_n 0, 1) := by decide +kernel
theorem dX1_best_24 : decode cX1_best 24 = .ok (.iload_n 1, 1) := by decide +kernel
theorem dX1_best_25 : decode cX1_best 25 = .ok (.iload_n 2, 1) := by decide +kernel
theorem dX1_best_26 : decode cX1_best 26 = .ok (.iload_n 3, 1) := by decide +kernel
theorem dX1_best_27 : decode cX1_best 27 = .ok (.invokevirtual 63, 3) := by decide +kernel
theorem dX1_best_30 : decode cX1_best 30 = .ok (.if_icmp .ge 8, 3) := by decide +kernel
theorem dX1_best_33 : decode cX1_best 33 = .ok (.iload 4, 2) := by decide +kernel
theorem dX1_best_35 : decode cX1_best 35 = .ok (.goto 4, 3) := by decide +kernel
theorem dX1_best_38 : decode cX1_best 38 = .ok (.iload_n 3, 1) := by decide +kernel
theorem dX1_best_39 : decode cX1_best 39 = .ok (.istore_n 3, 1) := by decide +kernel
theorem dX1_best_40 : decode cX1_best 40 = .ok (.iinc 4 1, 3) := by decide +kernel
theorem dX1_best_43 : decode cX1_best 43 = .ok (.goto (-38), 3) := by decide +kernel
theorem dX1_best_46 : decode cX1_best 46 = .ok (.iload_n 3, 1) := by decide +kernel
theorem dX1_best_47 : decode cX1_best 47 = .ok (.ireturn, 1) := by decide +kernel
theorem dX1_lacks_0 : decode cX1_lacks 0 = .ok (.aload_n 0, 1) := by decide +kernel
theorem dX1_lacks_1 : decode cX1_lacks 1 = .ok (.iload_n 2, 1) := by decide +kernel
theorem dX1_lacks_2 : decode cX1_lacks 2 = .ok (.invokestatic 30, 3) := by decide +kernel
theorem dX1_lacks_5 : decode cX1_lacks 5 = .ok (.ifCond .ne 7, 3) := by decide +kernel
theorem dX1_lacks_8 : decode cX1_lacks 8 = .ok (.iconst 1, 1) := by decide +kernel
theorem dX1_lacks_9 : decode cX1_lacks 9 = .ok (.goto 23, 3) := by decide +kernel
theorem dX1_lacks_12 : decode cX1_lacks 12 = .ok (.iload_n 1, 1) := by decide +kernel
theorem dX1_lacks_13 : decode cX1_lacks 13 = .ok (.ifCond .lt 14, 3) := by decide +kernel
theorem dX1_lacks_16 : decode cX1_lacks 16 = .ok (.iload_n 1, 1) := by decide +kernel
theorem dX1_lacks_17 : decode cX1_lacks 17 = .ok (.aload_n 0, 1) := by decide +kernel
theorem dX1_lacks_18 : decode cX1_lacks 18 = .ok (.getfield 27, 3) := by decide +kernel
theorem dX1_lacks_21 : decode cX1_lacks 21 = .ok (.bipush 16, 2) := by decide +kernel
theorem dX1_lacks_23 : decode cX1_lacks 23 = .ok (.idiv, 1) := by decide +kernel
theorem dX1_lacks_24 : decode cX1_lacks 24 = .ok (.if_icmp .lt 7, 3) := by decide +kernel
theorem dX1_lacks_27 : decode cX1_lacks 27 = .ok (.iconst 2, 1) := by decide +kernel
theorem dX1_lacks_28 : decode cX1_lacks 28 = .ok (.goto 4, 3) := by decide +kernel
theorem dX1_lacks_31 : decode cX1_lacks 31 = .ok (.iconst 0, 1) := by decide +kernel
theorem dX1_lacks_32 : decode cX1_lacks 32 = .ok (.putfield 23, 3) := by decide +kernel
theorem dX1_lacks_35 : decode cX1_lacks 35 = .ok (.aload_n 0, 1) := by decide +kernel
theorem dX1_lacks_36 : decode cX1_lacks 36 = .ok (.getfield 23, 3) := by decide +kernel
theorem dX1_lacks_39 : decode cX1_lacks 39 = .ok (.ifCond .le 7, 3) := by decide +kernel
theorem dX1_lacks_42 : decode cX1_lacks 42 = .ok (.iconst 1, 1) := by decide +kernel
theorem dX1_lacks_43 : decode cX1_lacks 43 = .ok (.goto 4, 3) := by decide +kernel
theorem dX1_lacks_46 : decode cX1_lacks 46 = .ok (.iconst 0, 1) := by decide +kernel
theorem dX1_lacks_47 : decode cX1_lacks 47 = .ok (.ireturn, 1) := by decide +kernel
theorem dX1_way_0 : decode cX1_way 0 = .ok (.aload_n 0, 1) := by decide +kernel
theorem dX1_way_1 : decode cX1_way 1 = .ok (.iload_n 1, 1) := by decide +kernel
theorem dX1_way_2 : decode cX1_way 2 = .ok (.iload_n 2, 1) := by decide +kernel
theorem dX1_way_3 : decode cX1_way 3 = .ok (.invokevirtual 67, 3) := by decide +kernel
theorem dX1_way_6 : decode cX1_way 6 = .ok (.ifCond .eq 7, 3) := by decide +kernel
theorem dX1_way_9 : decode cX1_way 9 = .ok (.iconst 0, 1) := by decide +kernel
theorem dX1_way_10 : decode cX1_way 10 = .ok (.goto 9, 3) := by decide +kernel
theorem dX1_way_13 : decode cX1_way 13 = .ok (.aload_n 0, 1) := by decide +kernel
theorem dX1_way_14 : decode cX1_way 14 = .ok (.iload_n 1, 1) := by decide +kernel
theorem dX1_way_15 : decode cX1_way 15 = .ok (.iload_n 2, 1) := by decide +kernel
theorem dX1_way_16 : decode cX1_way 16 = .ok (.invokevirtual 71, 3) := by decide +kernel
theorem dX1_way_19 : decode cX1_way 19 = .ok (.ireturn, 1) := by decide +kernel
theorem dX1_bits_0 : decode cX1_bits 0 = .ok (.aload_n 0, 1) := by decide +kernel
theorem dX1_bits_1 : decode cX1_bits 1 = .ok (.iload_n 1, 1) := by decide +kernel
theorem dX1_bits_2 : decode cX1_bits 2 = .ok (.iload_n 2, 1) := by decide +kernel
theorem dX1_bits_3 : decode cX1_bits 3 = .ok (.invokevirtual 67, 3) := by decide +kernel
theorem dX1_bits_6 : decode cX1_bits 6 = .ok (.ifCond .eq 5, 3) := by decide +kernel
theorem dX1_bits_9 : decode cX1_bits 9 = .ok (.iconst 0, 1) := by decide +kernel
theorem dX1_bits_10 : decode cX1_bits 10 = .ok (.ireturn, 1) := by decide +kernel
theorem dX1_bits_11 : decode cX1_bits 11 = .ok (.aload_n 0, 1) := by decide +kernel
theorem dX1_bits_12 : decode cX1_bits 12 = .ok (.iload_n 1, 1) := by decide +kernel
theorem dX1_bits_13 : decode cX1_bits 13 = .ok (.iload_n 2, 1) := by decide +kernel
theorem dX1_bits_14 : decode cX1_bits 14 = .ok (.invokevirtual 71, 3) := by decide +kernel
theorem dX1_bits_17 : decode cX1_bits 17 = .ok (.istore_n 3, 1) := by decide +kernel
theorem dX1_bits_18 : decode cX1_bits 18 = .ok (.aload_n 0, 1) := by decide +kernel
theorem dX1_bits_19 : decode cX1_bits 19 = .ok (.iload_n 1, 1) := by decide +kernel
theorem dX1_bits_20 : decode cX1_bits 20 = .ok (.iload_n 2, 1) := by decide +kernel
theorem dX1_bits_21 : decode cX1_bits 21 = .ok (.iload_n 3, 1) := by decide +kernel
theorem dX1_bits_22 : decode cX1_bits 22 = .ok (.invokevirtual 63, 3) := by decide +kernel
theorem dX1_bits_25 : decode cX1_bits 25 = .ok (.ireturn, 1) := by decide +kernel
theorem dX1_sum_0 : decode cX1_sum 0 = .ok (.aload_n 0, 1) := by decide +kernel
theorem dX1_sum_1 : decode cX1_sum 1 = .ok (.iload_n 1, 1) := by decide +kernel
theorem dX1_sum_2 : decode cX1_sum 2 = .ok (.invokestatic 30, 3) := by decide +kernel
theorem dX1_sum_5 : decode cX1_sum 5 = .ok (.ifCond .eq 7, 3) := by decide +kernel
theorem dX1_sum_8 : decode cX1_sum 8 = .ok (.iconst 0, 1) := by decide +kernel
theorem dX1_sum_9 : decode cX1_sum 9 = .ok (.goto 4, 3) := by decide +kernel
theorem dX1_sum_12 : decode cX1_sum 12 = .ok (.iconst 1, 1) := by decide +kernel
theorem dX1_sum_13 : decode cX1_sum 13 = .ok (.putfield 23, 3) := by decide +kernel
theorem dX1_sum_16 : decode cX1_sum 16 = .ok (.lconst 0, 1) := by decide +kernel
theorem dX1_sum_17 : decode cX1_sum 17 = .ok (.lstore_n 2, 1) := by decide +kernel
theorem dX1_sum_18 : decode cX1_sum 18 = .ok (.iconst 0, 1) := by decide +kernel
theorem dX1_sum_19 : decode cX1_sum 19 = .ok (.istore 4, 2) := by decide +kernel
theorem dX1_sum_21 : decode cX1_sum 21 = .ok (.iload 4, 2) := by decide +kernel
theorem dX1_sum_23 : decode cX1_sum 23 = .ok (.aload_n 0, 1) := by decide +kernel
theorem dX1_sum_24 : decode cX1_sum 24 = .ok (.getfield 27, 3) := by decide +kernel
theorem dX1_sum_27 : decode cX1_sum 27 = .ok (.if_icmp .ge 43, 3) := by decide +kernel
theorem dX1_sum_30 : decode cX1_sum 30 = .ok (.aload_n 0, 1) := by decide +kernel
theorem dX1_sum_31 : decode cX1_sum 31 = .ok (.getfield 23, 3) := by decide +kernel
theorem dX1_sum_34 : decode cX1_sum 34 = .ok (.ifCond .ne 36, 3) := by decide +kernel
theorem dX1_sum_37 : decode cX1_sum 37 = .ok (.lload_n 2, 1) := by decide +kernel
theorem dX1_sum_38 : decode cX1_sum 38 = .ok (.aload_n 0, 1) := by decide +kernel
theorem dX1_sum_39 : decode cX1_sum 39 = .ok (.iload 4, 2) := by decide +kernel
theorem dX1_sum_41 : decode cX1_sum 41 = .ok (.invokevirtual 41, 3) := by decide +kernel
theorem dX1_sum_44 : decode cX1_sum 44 = .ok (.ifCond .eq 17, 3) := by decide +kernel
theorem dX1_sum_47 : decode cX1_sum 47 = .ok (.aload_n 0, 1) := by decide +kernel
theorem dX1_sum_48 : decode cX1_sum 48 = .ok (.getfield 7, 3) := by decide +kernel
theorem dX1_sum_51 : decode cX1_sum 51 = .ok (.iconst 4, 1) := by decide +kernel
theorem dX1_sum_52 : decode cX1_sum 52 = .ok (.iload 4, 2) := by decide +kernel
theorem dX1_sum_54 : decode cX1_sum 54 = .ok (.imul, 1) := by decide +kernel
theorem dX1_sum_55 : decode cX1_sum 55 = .ok (.iload_n 1, 1) := by decide +kernel
theorem dX1_sum_56 : decode cX1_sum 56 = .ok (.iadd, 1) := by decide +kernel
theorem dX1_sum_57 : decode cX1_sum 57 = .ok (.laload, 1) := by decide +kernel
theorem dX1_sum_58 : decode cX1_sum 58 = .ok (.goto 4, 3) := by decide +kernel
theorem dX1_sum_61 : decode cX1_sum 61 = .ok (.lconst 0, 1) := by decide +kernel
theorem dX1_sum_62 : decode cX1_sum 62 = .ok (.ladd, 1) := by decide +kernel
theorem dX1_sum_63 : decode cX1_sum 63 = .ok (.lstore_n 2, 1) := by decide +kernel
theorem dX1_sum_64 : decode cX1_sum 64 = .ok (.iinc 4 1, 3) := by decide +kernel
theorem dX1_sum_67 : decode cX1_sum 67 = .ok (.goto (-46), 3) := by decide +kernel
theorem dX1_sum_70 : decode cX1_sum 70 = .ok (.lload_n 2, 1) := by decide +kernel
theorem dX1_sum_71 : decode cX1_sum 71 = .ok (.lreturn, 1) := by decide +kernel
theorem dX1_bound_0 : decode cX1_bound 0 = .ok (.aload_n 0, 1) := by decide +kernel
theorem dX1_bound_1 : decode cX1_bound 1 = .ok (.iload_n 1, 1) := by decide +kernel
theorem dX1_bound_2 : decode cX1_bound 2 = .ok (.invokestatic 30, 3) := by decide +kernel
theorem dX1_bound_5 : decode cX1_bound 5 = .ok (.ifCond .ne 7, 3) := by decide +kernel
theorem dX1_bound_8 : decode cX1_bound 8 = .ok (.iconst 1, 1) := by decide +kernel
theorem dX1_bound_9 : decode cX1_bound 9 = .ok (.goto 15, 3) := by decide +kernel
theorem dX1_bound_12 : decode cX1_bound 12 = .ok (.aload_n 0, 1) := by decide +kernel
theorem dX1_bound_13 : decode cX1_bound 13 = .ok (.invokevirtual 44, 3) := by decide +kernel
theorem dX1_bound_16 : decode cX1_bound 16 = .ok (.ifCond .ne 7, 3) := by decide +kernel
theorem dX1_bound_19 : decode cX1_bound 19 = .ok (.iconst 2, 1) := by decide +kernel
theorem dX1_bound_20 : decode cX1_bound 20 = .ok (.goto 4, 3) := by decide +kernel
theorem dX1_bound_23 : decode cX1_bound 23 = .ok (.iconst 0, 1) := by decide +kernel
theorem dX1_bound_24 : decode cX1_bound 24 = .ok (.putfield 23, 3) := by decide +kernel
theorem dX1_bound_27 : decode cX1_bound 27 = .ok (.iload_n 2, 1) := by decide +kernel
theorem dX1_bound_28 : decode cX1_bound 28 = .ok (.ifCond .eq 9, 3) := by decide +kernel
theorem dX1_bound_31 : decode cX1_bound 31 = .ok (.ldc2_w 75, 3) := by decide +kernel
theorem dX1_bound_34 : decode cX1_bound 34 = .ok (.goto 6, 3) := by decide +kernel
theorem dX1_bound_37 : decode cX1_bound 37 = .ok (.ldc2_w 77, 3) := by decide +kernel
theorem dX1_bound_40 : decode cX1_bound 40 = .ok (.lstore_n 3, 1) := by decide +kernel
theorem dX1_bound_41 : decode cX1_bound 41 = .ok (.iconst 0, 1) := by decide +kernel
theorem dX1_bound_42 : decode cX1_bound 42 = .ok (.istore 5, 2) := by decide +kernel
theorem dX1_bound_44 : decode cX1_bound 44 = .ok (.iload 5, 2) := by decide +kernel
theorem dX1_bound_46 : decode cX1_bound 46 = .ok (.aload_n 0, 1) := by decide +kernel
theorem dX1_bound_47 : decode cX1_bound 47 = .ok (.getfield 27, 3) := by decide +kernel
theorem dX1_bound_50 : decode cX1_bound 50 = .ok (.if_icmp .ge 66, 3) := by decide +kernel
theorem dX1_bound_53 : decode cX1_bound 53 = .ok (.aload_n 0, 1) := by decide +kernel
theorem dX1_bound_54 : decode cX1_bound 54 = .ok (.getfield 23, 3) := by decide +kernel
theorem dX1_bound_57 : decode cX1_bound 57 = .ok (.ifCond .ne 59, 3) := by decide +kernel
theorem dX1_bound_60 : decode cX1_bound 60 = .ok (.aload_n 0, 1) := by decide +kernel
theorem dX1_bound_61 : decode cX1_bound 61 = .ok (.getfield 7, 3) := by decide +kernel
theorem dX1_bound_64 : decode cX1_bound 64 = .ok (.iconst 4, 1) := by decide +kernel
theorem dX1_bound_65 : decode cX1_bound 65 = .ok (.iload 5, 2) := by decide +kernel
theorem dX1_bound_67 : decode cX1_bound 67 = .ok (.imul, 1) := by decide +kernel
theorem dX1_bound_68 : decode cX1_bound 68 = .ok (.iload_n 1, 1) := by decide +kernel
theorem dX1_bound_69 : decode cX1_bound 69 = .ok (.iadd, 1) := by decide +kernel
theorem dX1_bound_70 : decode cX1_bound 70 = .ok (.laload, 1) := by decide +kernel
theorem dX1_bound_71 : decode cX1_bound 71 = .ok (.lstore 6, 2) := by decide +kernel
theorem dX1_bound_73 : decode cX1_bound 73 = .ok (.aload_n 0, 1) := by decide +kernel
theorem dX1_bound_74 : decode cX1_bound 74 = .ok (.iload 5, 2) := by decide +kernel
theorem dX1_bound_76 : decode cX1_bound 76 = .ok (.invokevirtual 41, 3) := by decide +kernel
theorem dX1_bound_79 : decode cX1_bound 79 = .ok (.ifCond .eq 29, 3) := by decide +kernel
theorem dX1_bound_82 : decode cX1_bound 82 = .ok (.iload_n 2, 1) := by decide +kernel
theorem dX1_bound_83 : decode cX1_bound 83 = .ok (.ifCond .eq 13, 3) := by decide +kernel
theorem dX1_bound_86 : decode cX1_bound 86 = .ok (.lload 6, 2) := by decide +kernel
theorem dX1_bound_88 : decode cX1_bound 88 = .ok (.lload_n 3, 1) := by decide +kernel
theorem dX1_bound_89 : decode cX1_bound 89 = .ok (.lcmp, 1) := by decide +kernel
theorem dX1_bound_90 : decode cX1_bound 90 = .ok (.ifCond .le 18, 3) := by decide +kernel
theorem dX1_bound_93 : decode cX1_bound 93 = .ok (.goto 10, 3) := by decide +kernel
theorem dX1_bound_96 : decode cX1_bound 96 = .ok (.lload 6, 2) := by decide +kernel
theorem dX1_bound_98 : decode cX1_bound 98 = .ok (.lload_n 3, 1) := by decide +kernel
theorem dX1_bound_99 : decode cX1_bound 99 = .ok (.lcmp, 1) := by decide +kernel
theorem dX1_bound_100 : decode cX1_bound 100 = .ok (.ifCond .ge 8, 3) := by decide +kernel
theorem dX1_bound_103 : decode cX1_bound 103 = .ok (.lload 6, 2) := by decide +kernel
theorem dX1_bound_105 : decode cX1_bound 105 = .ok (.goto 4, 3) := by decide +kernel
theorem dX1_bound_108 : decode cX1_bound 108 = .ok (.lload_n 3, 1) := by decide +kernel
theorem dX1_bound_109 : decode cX1_bound 109 = .ok (.lstore_n 3, 1) := by decide +kernel
theorem dX1_bound_110 : decode cX1_bound 110 = .ok (.iinc 5 1, 3) := by decide +kernel
theorem dX1_bound_113 : decode cX1_bound 113 = .ok (.goto (-69), 3) := by decide +kernel
theorem dX1_bound_116 : decode cX1_bound 116 = .ok (.aload_n 0, 1) := by decide +kernel
theorem dX1_bound_117 : decode cX1_bound 117 = .ok (.getfield 23, 3) := by decide +kernel
theorem dX1_bound_120 : decode cX1_bound 120 = .ok (.ifCond .ne 7, 3) := by decide +kernel
theorem dX1_bound_123 : decode cX1_bound 123 = .ok (.lload_n 3, 1) := by decide +kernel
theorem dX1_bound_124 : decode cX1_bound 124 = .ok (.goto 4, 3) := by decide +kernel
theorem dX1_bound_127 : decode cX1_bound 127 = .ok (.lconst 0, 1) := by decide +kernel
theorem dX1_bound_128 : decode cX1_bound 128 = .ok (.lreturn, 1) := by decide +kernel
theorem dX1_ranked_0 : decode cX1_ranked 0 = .ok (.aload_n 0, 1) := by decide +kernel
theorem dX1_ranked_1 : decode cX1_ranked 1 = .ok (.iload_n 1, 1) := by decide +kernel
theorem dX1_ranked_2 : decode cX1_ranked 2 = .ok (.invokestatic 30, 3) := by decide +kernel
theorem dX1_ranked_5 : decode cX1_ranked 5 = .ok (.ifCond .ne 7, 3) := by decide +kernel
theorem dX1_ranked_8 : decode cX1_ranked 8 = .ok (.iconst 1, 1) := by decide +kernel
theorem dX1_ranked_9 : decode cX1_ranked 9 = .ok (.goto 4, 3) := by decide +kernel
theorem dX1_ranked_12 : decode cX1_ranked 12 = .ok (.iconst 0, 1) := by decide +kernel
theorem dX1_ranked_13 : decode cX1_ranked 13 = .ok (.putfield 23, 3) := by decide +kernel
theorem dX1_ranked_16 : decode cX1_ranked 16 = .ok (.aload_n 0, 1) := by decide +kernel
theorem dX1_ranked_17 : decode cX1_ranked 17 = .ok (.getfield 23, 3) := by decide +kernel
theorem dX1_ranked_20 : decode cX1_ranked 20 = .ok (.ifCond .le 5, 3) := by decide +kernel
theorem dX1_ranked_23 : decode cX1_ranked 23 = .ok (.iconst 0, 1) := by decide +kernel
theorem dX1_ranked_24 : decode cX1_ranked 24 = .ok (.ireturn, 1) := by decide +kernel
theorem dX1_ranked_25 : decode cX1_ranked 25 = .ok (.iconst 0, 1) := by decide +kernel
theorem dX1_ranked_26 : decode cX1_ranked 26 = .ok (.istore_n 3, 1) := by decide +kernel
theorem dX1_ranked_27 : decode cX1_ranked 27 = .ok (.iload_n 3, 1) := by decide +kernel
theorem dX1_ranked_28 : decode cX1_ranked 28 = .ok (.aload_n 0, 1) := by decide +kernel
theorem dX1_ranked_29 : decode cX1_ranked 29 = .ok (.getfield 27, 3) := by decide +kernel
theorem dX1_ranked_32 : decode cX1_ranked 32 = .ok (.if_icmp .ge 112, 3) := by decide +kernel
theorem dX1_ranked_35 : decode cX1_ranked 35 = .ok (.iconst 0, 1) := by decide +kernel
theorem dX1_ranked_36 : decode cX1_ranked 36 = .ok (.istore 4, 2) := by decide +kernel
theorem dX1_ranked_38 : decode cX1_ranked 38 = .ok (.iconst 0, 1) := by decide +kernel
theorem dX1_ranked_39 : decode cX1_ranked 39 = .ok (.istore 5, 2) := by decide +kernel
theorem dX1_ranked_41 : decode cX1_ranked 41 = .ok (.iload 5, 2) := by decide +kernel
theorem dX1_ranked_43 : decode cX1_ranked 43 = .ok (.aload_n 0, 1) := by decide +kernel
theorem dX1_ranked_44 : decode cX1_ranked 44 = .ok (.getfield 27, 3) := by decide +kernel
theorem dX1_ranked_47 : decode cX1_ranked 47 = .ok (.if_icmp .ge 75, 3) := by decide +kernel
theorem dX1_ranked_50 : decode cX1_ranked 50 = .ok (.aload_n 0, 1) := by decide +kernel
theorem dX1_ranked_51 : decode cX1_ranked 51 = .ok (.getfield 7, 3) := by decide +kernel
theorem dX1_ranked_54 : decode cX1_ranked 54 = .ok (.iconst 4, 1) := by decide +kernel
theorem dX1_ranked_55 : decode cX1_ranked 55 = .ok (.iload 5, 2) := by decide +kernel
theorem dX1_ranked_57 : decode cX1_ranked 57 = .ok (.imul, 1) := by decide +kernel
theorem dX1_ranked_58 : decode cX1_ranked 58 = .ok (.iload_n 1, 1) := by decide +kernel
theorem dX1_ranked_59 : decode cX1_ranked 59 = .ok (.iadd, 1) := by decide +kernel
theorem dX1_ranked_60 : decode cX1_ranked 60 = .ok (.laload, 1) := by decide +kernel
theorem dX1_ranked_61 : decode cX1_ranked 61 = .ok (.lstore 6, 2) := by decide +kernel
theorem dX1_ranked_63 : decode cX1_ranked 63 = .ok (.aload_n 0, 1) := by decide +kernel
theorem dX1_ranked_64 : decode cX1_ranked 64 = .ok (.getfield 7, 3) := by decide +kernel
theorem dX1_ranked_67 : decode cX1_ranked 67 = .ok (.iconst 4, 1) := by decide +kernel
theorem dX1_ranked_68 : decode cX1_ranked 68 = .ok (.iload_n 3, 1) := by decide +kernel
theorem dX1_ranked_69 : decode cX1_ranked 69 = .ok (.imul, 1) := by decide +kernel
theorem dX1_ranked_70 : decode cX1_ranked 70 = .ok (.iload_n 1, 1) := by decide +kernel
theorem dX1_ranked_71 : decode cX1_ranked 71 = .ok (.iadd, 1) := by decide +kernel
theorem dX1_ranked_72 : decode cX1_ranked 72 = .ok (.laload, 1) := by decide +kernel
theorem dX1_ranked_73 : decode cX1_ranked 73 = .ok (.lstore 8, 2) := by decide +kernel
theorem dX1_ranked_75 : decode cX1_ranked 75 = .ok (.iload 4, 2) := by decide +kernel
theorem dX1_ranked_77 : decode cX1_ranked 77 = .ok (.aload_n 0, 1) := by decide +kernel
theorem dX1_ranked_78 : decode cX1_ranked 78 = .ok (.iload 5, 2) := by decide +kernel
theorem dX1_ranked_80 : decode cX1_ranked 80 = .ok (.invokevirtual 41, 3) := by decide +kernel
theorem dX1_ranked_83 : decode cX1_ranked 83 = .ok (.ifCond .eq 29, 3) := by decide +kernel
theorem dX1_ranked_86 : decode cX1_ranked 86 = .ok (.lload 6, 2) := by decide +kernel
theorem dX1_ranked_88 : decode cX1_ranked 88 = .ok (.lload 8, 2) := by decide +kernel
theorem dX1_ranked_90 : decode cX1_ranked 90 = .ok (.lcmp, 1) := by decide +kernel
theorem dX1_ranked_91 : decode cX1_ranked 91 = .ok (.ifCond .gt 17, 3) := by decide +kernel
theorem dX1_ranked_94 : decode cX1_ranked 94 = .ok (.lload 6, 2) := by decide +kernel
theorem dX1_ranked_96 : decode cX1_ranked 96 = .ok (.lload 8, 2) := by decide +kernel
theorem dX1_ranked_98 : decode cX1_ranked 98 = .ok (.lcmp, 1) := by decide +kernel
theorem dX1_ranked_99 : decode cX1_ranked 99 = .ok (.ifCond .ne 13, 3) := by decide +kernel
theorem dX1_ranked_102 : decode cX1_ranked 102 = .ok (.iload 5, 2) := by decide +kernel
theorem dX1_ranked_104 : decode cX1_ranked 104 = .ok (.iload_n 3, 1) := by decide +kernel
theorem dX1_ranked_105 : decode cX1_ranked 105 = .ok (.if_icmp .ge 7, 3) := by decide +kernel
theorem dX1_ranked_108 : decode cX1_ranked 108 = .ok (.iconst 1, 1) := by decide +kernel
theorem dX1_ranked_109 : decode cX1_ranked 109 = .ok (.goto 4, 3) := by decide +kernel
theorem dX1_ranked_112 : decode cX1_ranked 112 = .ok (.iconst 0, 1) := by decide +kernel
theorem dX1_ranked_113 : decode cX1_ranked 113 = .ok (.iadd, 1) := by decide +kernel
theorem dX1_ranked_114 : decode cX1_ranked 114 = .ok (.istore 4, 2) := by decide +kernel
theorem dX1_ranked_116 : decode cX1_ranked 116 = .ok (.iinc 5 1, 3) := by decide +kernel
theorem dX1_ranked_119 : decode cX1_ranked 119 = .ok (.goto (-78), 3) := by decide +kernel
theorem dX1_ranked_122 : decode cX1_ranked 122 = .ok (.aload_n 0, 1) := by decide +kernel
theorem dX1_ranked_123 : decode cX1_ranked 123 = .ok (.iload_n 3, 1) := by decide +kernel
theorem dX1_ranked_124 : decode cX1_ranked 124 = .ok (.invokevirtual 41, 3) := by decide +kernel
theorem dX1_ranked_127 : decode cX1_ranked 127 = .ok (.ifCond .eq 11, 3) := by decide +kernel
theorem dX1_ranked_130 : decode cX1_ranked 130 = .ok (.iload 4, 2) := by decide +kernel
theorem dX1_ranked_132 : decode cX1_ranked 132 = .ok (.iload_n 2, 1) := by decide +kernel
theorem dX1_ranked_133 : decode cX1_ranked 133 = .ok (.if_icmp .ne 5, 3) := by decide +kernel
theorem dX1_ranked_136 : decode cX1_ranked 136 = .ok (.iload_n 3, 1) := by decide +kernel
theorem dX1_ranked_137 : decode cX1_ranked 137 = .ok (.ireturn, 1) := by decide +kernel
theorem dX1_ranked_138 : decode cX1_ranked 138 = .ok (.iinc 3 1, 3) := by decide +kernel
theorem dX1_ranked_141 : decode cX1_ranked 141 = .ok (.goto (-114), 3) := by decide +kernel
theorem dX1_ranked_144 : decode cX1_ranked 144 = .ok (.aload_n 0, 1) := by decide +kernel
theorem dX1_ranked_145 : decode cX1_ranked 145 = .ok (.iconst 2, 1) := by decide +kernel
theorem dX1_ranked_146 : decode cX1_ranked 146 = .ok (.putfield 23, 3) := by decide +kernel
theorem dX1_ranked_149 : decode cX1_ranked 149 = .ok (.iconst 0, 1) := by decide +kernel
theorem dX1_ranked_150 : decode cX1_ranked 150 = .ok (.ireturn, 1) := by decide +kernel
theorem dX1_isFirst_0 : decode cX1_isFirst 0 = .ok (.aload_n 0, 1) := by decide +kernel
theorem dX1_isFirst_1 : decode cX1_isFirst 1 = .ok (.iload_n 2, 1) := by decide +kernel
theorem dX1_isFirst_2 : decode cX1_isFirst 2 = .ok (.invokevirtual 41, 3) := by decide +kernel
theorem dX1_isFirst_5 : decode cX1_isFirst 5 = .ok (.istore_n 3, 1) := by decide +kernel
theorem dX1_isFirst_6 : decode cX1_isFirst 6 = .ok (.iconst 0, 1) := by decide +kernel
theorem dX1_isFirst_7 : decode cX1_isFirst 7 = .ok (.istore 4, 2) := by decide +kernel
theorem dX1_isFirst_9 : decode cX1_isFirst 9 = .ok (.iload 4, 2) := by decide +kernel
theorem dX1_isFirst_11 : decode cX1_isFirst 11 = .ok (.iload_n 2, 1) := by decide +kernel
theorem dX1_isFirst_12 : decode cX1_isFirst 12 = .ok (.if_icmp .ge 53, 3) := by decide +kernel
theorem dX1_isFirst_15 : decode cX1_isFirst 15 = .ok (.iload_n 3, 1) := by decide +kernel
theorem dX1_isFirst_16 : decode cX1_isFirst 16 = .ok (.ifCond .eq 41, 3) := by decide +kernel
theorem dX1_isFirst_19 : decode cX1_isFirst 19 = .ok (.aload_n 0, 1) := by decide +kernel
theorem dX1_isFirst_20 : decode cX1_isFirst 20 = .ok (.iload 4, 2) := by decide +kernel
theorem dX1_isFirst_22 : decode cX1_isFirst 22 = .ok (.invokevirtual 41, 3) := by decide +kernel
theorem dX1_isFirst_25 : decode cX1_isFirst 25 = .ok (.ifCond .eq 28, 3) := by decide +kernel
theorem dX1_isFirst_28 : decode cX1_isFirst 28 = .ok (.aload_n 0, 1) := by decide +kernel
theorem dX1_isFirst_29 : decode cX1_isFirst 29 = .ok (.getfield 7, 3) := by decide +kernel
theorem dX1_isFirst_32 : decode cX1_isFirst 32 = .ok (.iconst 4, 1) := by decide +kernel
theorem dX1_isFirst_33 : decode cX1_isFirst 33 = .ok (.iload 4, 2) := by decide +kernel
theorem dX1_isFirst_35 : decode cX1_isFirst 35 = .ok (.imul, 1) := by decide +kernel
theorem dX1_isFirst_36 : decode cX1_isFirst 36 = .ok (.iload_n 1, 1) := by decide +kernel
theorem dX1_isFirst_37 : decode cX1_isFirst 37 = .ok (.iadd, 1) := by decide +kernel
theorem dX1_isFirst_38 : decode cX1_isFirst 38 = .ok (.laload, 1) := by decide +kernel
theorem dX1_isFirst_39 : decode cX1_isFirst 39 = .ok (.aload_n 0, 1) := by decide +kernel
theorem dX1_isFirst_40 : decode cX1_isFirst 40 = .ok (.getfield 7, 3) := by decide +kernel
theorem dX1_isFirst_43 : decode cX1_isFirst 43 = .ok (.iconst 4, 1) := by decide +kernel
theorem dX1_isFirst_44 : decode cX1_isFirst 44 = .ok (.iload_n 2, 1) := by decide +kernel
theorem dX1_isFirst_45 : decode cX1_isFirst 45 = .ok (.imul, 1) := by decide +kernel
theorem dX1_isFirst_46 : decode cX1_isFirst 46 = .ok (.iload_n 1, 1) := by decide +kernel
theorem dX1_isFirst_47 : decode cX1_isFirst 47 = .ok (.iadd, 1) := by decide +kernel
theorem dX1_isFirst_48 : decode cX1_isFirst 48 = .ok (.laload, 1) := by decide +kernel
theorem dX1_isFirst_49 : decode cX1_isFirst 49 = .ok (.lcmp, 1) := by decide +kernel
theorem dX1_isFirst_50 : decode cX1_isFirst 50 = .ok (.ifCond .eq 7, 3) := by decide +kernel
theorem dX1_isFirst_53 : decode cX1_isFirst 53 = .ok (.iconst 1, 1) := by decide +kernel
theorem dX1_isFirst_54 : decode cX1_isFirst 54 = .ok (.goto 4, 3) := by decide +kernel
theorem dX1_isFirst_57 : decode cX1_isFirst 57 = .ok (.iconst 0, 1) := by decide +kernel
theorem dX1_isFirst_58 : decode cX1_isFirst 58 = .ok (.istore_n 3, 1) := by decide +kernel
theorem dX1_isFirst_59 : decode cX1_isFirst 59 = .ok (.iinc 4 1, 3) := by decide +kernel
theorem dX1_isFirst_62 : decode cX1_isFirst 62 = .ok (.goto (-53), 3) := by decide +kernel
theorem dX1_isFirst_65 : decode cX1_isFirst 65 = .ok (.iload_n 3, 1) := by decide +kernel
theorem dX1_isFirst_66 : decode cX1_isFirst 66 = .ok (.ireturn, 1) := by decide +kernel
theorem dX1_countGroups_0 : decode cX1_countGroups 0 = .ok (.iconst 0, 1) := by decide +kernel
theorem dX1_countGroups_1 : decode cX1_countGroups 1 = .ok (.istore_n 2, 1) := by decide +kernel
theorem dX1_countGroups_2 : decode cX1_countGroups 2 = .ok (.iconst 0, 1) := by decide +kernel
theorem dX1_countGroups_3 : decode cX1_countGroups 3 = .ok (.istore_n 3, 1) := by decide +kernel
theorem dX1_countGroups_4 : decode cX1_countGroups 4 = .ok (.iload_n 3, 1) := by decide +kernel
theorem dX1_countGroups_5 : decode cX1_countGroups 5 = .ok (.aload_n 0, 1) := by decide +kernel
theorem dX1_countGroups_6 : decode cX1_countGroups 6 = .ok (.getfield 27, 3) := by decide +kernel
theorem dX1_countGroups_9 : decode cX1_countGroups 9 = .ok (.if_icmp .ge 26, 3) := by decide +kernel
theorem dX1_countGroups_12 : decode cX1_countGroups 12 = .ok (.iload_n 2, 1) := by decide +kernel
theorem dX1_countGroups_13 : decode cX1_countGroups 13 = .ok (.aload_n 0, 1) := by decide +kernel
theorem dX1_countGroups_14 : decode cX1_countGroups 14 = .ok (.iload_n 1, 1) := by decide +kernel
theorem dX1_countGroups_15 : decode cX1_countGroups 15 = .ok (.iload_n 3, 1) := by decide +kernel
theorem dX1_countGroups_16 : decode cX1_countGroups 16 = .ok (.invokevirtual 79, 3) := by decide +kernel
theorem dX1_countGroups_19 : decode cX1_countGroups 19 = .ok (.ifCond .eq 7, 3) := by decide +kernel
theorem dX1_countGroups_22 : decode cX1_countGroups 22 = .ok (.iconst 1, 1) := by decide +kernel
theorem dX1_countGroups_23 : decode cX1_countGroups 23 = .ok (.goto 4, 3) := by decide +kernel
theorem dX1_countGroups_26 : decode cX1_countGroups 26 = .ok (.iconst 0, 1) := by decide +kernel
theorem dX1_countGroups_27 : decode cX1_countGroups 27 = .ok (.iadd, 1) := by decide +kernel
theorem dX1_countGroups_28 : decode cX1_countGroups 28 = .ok (.istore_n 2, 1) := by decide +kernel
theorem dX1_countGroups_29 : decode cX1_countGroups 29 = .ok (.iinc 3 1, 3) := by decide +kernel
theorem dX1_countGroups_32 : decode cX1_countGroups 32 = .ok (.goto (-28), 3) := by decide +kernel
theorem dX1_countGroups_35 : decode cX1_countGroups 35 = .ok (.iload_n 2, 1) := by decide +kernel
theorem dX1_countGroups_36 : decode cX1_countGroups 36 = .ok (.ireturn, 1) := by decide +kernel
theorem dX1_groups_0 : decode cX1_groups 0 = .ok (.aload_n 0, 1) := by decide +kernel
theorem dX1_groups_1 : decode cX1_groups 1 = .ok (.iload_n 1, 1) := by decide +kernel
theorem dX1_groups_2 : decode cX1_groups 2 = .ok (.invokestatic 30, 3) := by decide +kernel
theorem dX1_groups_5 : decode cX1_groups 5 = .ok (.ifCond .eq 7, 3) := by decide +kernel
theorem dX1_groups_8 : decode cX1_groups 8 = .ok (.iconst 0, 1) := by decide +kernel
theorem dX1_groups_9 : decode cX1_groups 9 = .ok (.goto 4, 3) := by decide +kernel
theorem dX1_groups_12 : decode cX1_groups 12 = .ok (.iconst 1, 1) := by decide +kernel
theorem dX1_groups_13 : decode cX1_groups 13 = .ok (.putfield 23, 3) := by decide +kernel
theorem dX1_groups_16 : decode cX1_groups 16 = .ok (.aload_n 0, 1) := by decide +kernel
theorem dX1_groups_17 : decode cX1_groups 17 = .ok (.getfield 23, 3) := by decide +kernel
theorem dX1_groups_20 : decode cX1_groups 20 = .ok (.ifCond .ne 11, 3) := by decide +kernel
theorem dX1_groups_23 : decode cX1_groups 23 = .ok (.aload_n 0, 1) := by decide +kernel
theorem dX1_groups_24 : decode cX1_groups 24 = .ok (.iload_n 1, 1) := by decide +kernel
theorem dX1_groups_25 : decode cX1_groups 25 = .ok (.invokevirtual 82, 3) := by decide +kernel
theorem dX1_groups_28 : decode cX1_groups 28 = .ok (.goto 4, 3) := by decide +kernel
theorem dX1_groups_31 : decode cX1_groups 31 = .ok (.iconst 0, 1) := by decide +kernel
theorem dX1_groups_32 : decode cX1_groups 32 = .ok (.ireturn, 1) := by decide +kernel
theorem dX1_firstOf_0 : decode cX1_firstOf 0 = .ok (.iconst 0, 1) := by decide +kernel
theorem dX1_firstOf_1 : decode cX1_firstOf 1 = .ok (.istore_n 3, 1) := by decide +kernel
theorem dX1_firstOf_2 : decode cX1_firstOf 2 = .ok (.iconst 0, 1) := by decide +kernel
theorem dX1_firstOf_3 : decode cX1_firstOf 3 = .ok (.istore 4, 2) := by decide +kernel
theorem dX1_firstOf_5 : decode cX1_firstOf 5 = .ok (.iload 4, 2) := by decide +kernel
theorem dX1_firstOf_7 : decode cX1_firstOf 7 = .ok (.aload_n 0, 1) := by decide +kernel
theorem dX1_firstOf_8 : decode cX1_firstOf 8 = .ok (.getfield 27, 3) := by decide +kernel
theorem dX1_firstOf_11 : decode cX1_firstOf 11 = .ok (.if_icmp .ge 99, 3) := by decide +kernel
theorem dX1_firstOf_14 : decode cX1_firstOf 14 = .ok (.aload_n 0, 1) := by decide +kernel
theorem dX1_firstOf_15 : decode cX1_firstOf 15 = .ok (.iload_n 1, 1) := by decide +kernel
theorem dX1_firstOf_16 : decode cX1_firstOf 16 = .ok (.iload 4, 2) := by decide +kernel
theorem dX1_firstOf_18 : decode cX1_firstOf 18 = .ok (.invokevirtual 79, 3) := by decide +kernel
theorem dX1_firstOf_21 : decode cX1_firstOf 21 = .ok (.ifCond .eq 83, 3) := by decide +kernel
theorem dX1_firstOf_24 : decode cX1_firstOf 24 = .ok (.iconst 0, 1) := by decide +kernel
theorem dX1_firstOf_25 : decode cX1_firstOf 25 = .ok (.istore 5, 2) := by decide +kernel
theorem dX1_firstOf_27 : decode cX1_firstOf 27 = .ok (.iconst 0, 1) := by decide +kernel
theorem dX1_firstOf_28 : decode cX1_firstOf 28 = .ok (.istore 6, 2) := by decide +kernel
theorem dX1_firstOf_30 : decode cX1_firstOf 30 = .ok (.iload 6, 2) := by decide +kernel
theorem dX1_firstOf_32 : decode cX1_firstOf 32 = .ok (.aload_n 0, 1) := by decide +kernel
theorem dX1_firstOf_33 : decode cX1_firstOf 33 = .ok (.getfield 27, 3) := by decide +kernel
theorem dX1_firstOf_36 : decode cX1_firstOf 36 = .ok (.if_icmp .ge 55, 3) := by decide +kernel
theorem dX1_firstOf_39 : decode cX1_firstOf 39 = .ok (.iload 5, 2) := by decide +kernel
theorem dX1_firstOf_41 : decode cX1_firstOf 41 = .ok (.aload_n 0, 1) := by decide +kernel
theorem dX1_firstOf_42 : decode cX1_firstOf 42 = .ok (.iload_n 1, 1) := by decide +kernel
theorem dX1_firstOf_43 : decode cX1_firstOf 43 = .ok (.iload 6, 2) := by decide +kernel
theorem dX1_firstOf_45 : decode cX1_firstOf 45 = .ok (.invokevirtual 79, 3) := by decide +kernel
theorem dX1_firstOf_48 : decode cX1_firstOf 48 = .ok (.ifCond .eq 33, 3) := by decide +kernel
theorem dX1_firstOf_51 : decode cX1_firstOf 51 = .ok (.aload_n 0, 1) := by decide +kernel
theorem dX1_firstOf_52 : decode cX1_firstOf 52 = .ok (.getfield 7, 3) := by decide +kernel
theorem dX1_firstOf_55 : decode cX1_firstOf 55 = .ok (.iconst 4, 1) := by decide +kernel
theorem dX1_firstOf_56 : decode cX1_firstOf 56 = .ok (.iload 6, 2) := by decide +kernel
theorem dX1_firstOf_58 : decode cX1_firstOf 58 = .ok (.imul, 1) := by decide +kernel
theorem dX1_firstOf_59 : decode cX1_firstOf 59 = .ok (.iload_n 1, 1) := by decide +kernel
theorem dX1_firstOf_60 : decode cX1_firstOf 60 = .ok (.iadd, 1) := by decide +kernel
theorem dX1_firstOf_61 : decode cX1_firstOf 61 = .ok (.laload, 1) := by decide +kernel
theorem dX1_firstOf_62 : decode cX1_firstOf 62 = .ok (.aload_n 0, 1) := by decide +kernel
theorem dX1_firstOf_63 : decode cX1_firstOf 63 = .ok (.getfield 7, 3) := by decide +kernel
theorem dX1_firstOf_66 : decode cX1_firstOf 66 = .ok (.iconst 4, 1) := by decide +kernel
theorem dX1_firstOf_67 : decode cX1_firstOf 67 = .ok (.iload 4, 2) := by decide +kernel
theorem dX1_firstOf_69 : decode cX1_firstOf 69 = .ok (.imul, 1) := by decide +kernel
theorem dX1_firstOf_70 : decode cX1_firstOf 70 = .ok (.iload_n 1, 1) := by decide +kernel
theorem dX1_firstOf_71 : decode cX1_firstOf 71 = .ok (.iadd, 1) := by decide +kernel
theorem dX1_firstOf_72 : decode cX1_firstOf 72 = .ok (.laload, 1) := by decide +kernel
theorem dX1_firstOf_73 : decode cX1_firstOf 73 = .ok (.lcmp, 1) := by decide +kernel
theorem dX1_firstOf_74 : decode cX1_firstOf 74 = .ok (.ifCond .ge 7, 3) := by decide +kernel
theorem dX1_firstOf_77 : decode cX1_firstOf 77 = .ok (.iconst 1, 1) := by decide +kernel
theorem dX1_firstOf_78 : decode cX1_firstOf 78 = .ok (.goto 4, 3) := by decide +kernel
theorem dX1_firstOf_81 : decode cX1_firstOf 81 = .ok (.iconst 0, 1) := by decide +kernel
theorem dX1_firstOf_82 : decode cX1_firstOf 82 = .ok (.iadd, 1) := by decide +kernel
theorem dX1_firstOf_83 : decode cX1_firstOf 83 = .ok (.istore 5, 2) := by decide +kernel
theorem dX1_firstOf_85 : decode cX1_firstOf 85 = .ok (.iinc 6 1, 3) := by decide +kernel
theorem dX1_firstOf_88 : decode cX1_firstOf 88 = .ok (.goto (-58), 3) := by decide +kernel
theorem dX1_firstOf_91 : decode cX1_firstOf 91 = .ok (.iload 5, 2) := by decide +kernel
theorem dX1_firstOf_93 : decode cX1_firstOf 93 = .ok (.iload_n 2, 1) := by decide +kernel
theorem dX1_firstOf_94 : decode cX1_firstOf 94 = .ok (.if_icmp .ne 8, 3) := by decide +kernel
theorem dX1_firstOf_97 : decode cX1_firstOf 97 = .ok (.iload 4, 2) := by decide +kernel
theorem dX1_firstOf_99 : decode cX1_firstOf 99 = .ok (.goto 4, 3) := by decide +kernel
theorem dX1_firstOf_102 : decode cX1_firstOf 102 = .ok (.iload_n 3, 1) := by decide +kernel
theorem dX1_firstOf_103 : decode cX1_firstOf 103 = .ok (.istore_n 3, 1) := by decide +kernel
theorem dX1_firstOf_104 : decode cX1_firstOf 104 = .ok (.iinc 4 1, 3) := by decide +kernel
theorem dX1_firstOf_107 : decode cX1_firstOf 107 = .ok (.goto (-102), 3) := by decide +kernel
theorem dX1_firstOf_110 : decode cX1_firstOf 110 = .ok (.iload_n 3, 1) := by decide +kernel
theorem dX1_firstOf_111 : decode cX1_firstOf 111 = .ok (.ireturn, 1) := by decide +kernel
theorem dX1_group_0 : decode cX1_group 0 = .ok (.aload_n 0, 1) := by decide +kernel
theorem dX1_group_1 : decode cX1_group 1 = .ok (.iload_n 1, 1) := by decide +kernel
theorem dX1_group_2 : decode cX1_group 2 = .ok (.invokestatic 30, 3) := by decide +kernel
theorem dX1_group_5 : decode cX1_group 5 = .ok (.ifCond .eq 20, 3) := by decide +kernel
theorem dX1_group_8 : decode cX1_group 8 = .ok (.iload 4, 2) := by decide +kernel
theorem dX1_group_10 : decode cX1_group 10 = .ok (.invokestatic 30, 3) := by decide +kernel
theorem dX1_group_13 : decode cX1_group 13 = .ok (.ifCond .eq 12, 3) := by decide +kernel
theorem dX1_group_16 : decode cX1_group 16 = .ok (.iload_n 3, 1) := by decide +kernel
theorem dX1_group_17 : decode cX1_group 17 = .ok (.ifCond .lt 8, 3) := by decide +kernel
theorem dX1_group_20 : decode cX1_group 20 = .ok (.iload_n 3, 1) := by decide +kernel
theorem dX1_group_21 : decode cX1_group 21 = .ok (.iconst 4, 1) := by decide +kernel
theorem dX1_group_22 : decode cX1_group 22 = .ok (.if_icmp .le 7, 3) := by decide +kernel
theorem dX1_group_25 : decode cX1_group 25 = .ok (.iconst 1, 1) := by decide +kernel
theorem dX1_group_26 : decode cX1_group 26 = .ok (.goto 21, 3) := by decide +kernel
theorem dX1_group_29 : decode cX1_group 29 = .ok (.iload_n 2, 1) := by decide +kernel
theorem dX1_group_30 : decode cX1_group 30 = .ok (.ifCond .lt 12, 3) := by decide +kernel
theorem dX1_group_33 : decode cX1_group 33 = .ok (.iload_n 2, 1) := by decide +kernel
theorem dX1_group_34 : decode cX1_group 34 = .ok (.aload_n 0, 1) := by decide +kernel
theorem dX1_group_35 : decode cX1_group 35 = .ok (.iload_n 1, 1) := by decide +kernel
theorem dX1_group_36 : decode cX1_group 36 = .ok (.invokevirtual 82, 3) := by decide +kernel
theorem dX1_group_39 : decode cX1_group 39 = .ok (.if_icmp .lt 7, 3) := by decide +kernel
theorem dX1_group_42 : decode cX1_group 42 = .ok (.iconst 2, 1) := by decide +kernel
theorem dX1_group_43 : decode cX1_group 43 = .ok (.goto 4, 3) := by decide +kernel
theorem dX1_group_46 : decode cX1_group 46 = .ok (.iconst 0, 1) := by decide +kernel
theorem dX1_group_47 : decode cX1_group 47 = .ok (.putfield 23, 3) := by decide +kernel
theorem dX1_group_50 : decode cX1_group 50 = .ok (.aload_n 0, 1) := by decide +kernel
theorem dX1_group_51 : decode cX1_group 51 = .ok (.getfield 23, 3) := by decide +kernel
theorem dX1_group_54 : decode cX1_group 54 = .ok (.ifCond .le 5, 3) := by decide +kernel
theorem dX1_group_57 : decode cX1_group 57 = .ok (.lconst 0, 1) := by decide +kernel
theorem dX1_group_58 : decode cX1_group 58 = .ok (.lreturn, 1) := by decide +kernel
theorem dX1_group_59 : decode cX1_group 59 = .ok (.aload_n 0, 1) := by decide +kernel
theorem dX1_group_60 : decode cX1_group 60 = .ok (.iload_n 1, 1) := by decide +kernel
theorem dX1_group_61 : decode cX1_group 61 = .ok (.iload_n 2, 1) := by decide +kernel
theorem dX1_group_62 : decode cX1_group 62 = .ok (.invokevirtual 86, 3) := by decide +kernel
theorem dX1_group_65 : decode cX1_group 65 = .ok (.istore 5, 2) := by decide +kernel
theorem dX1_group_67 : decode cX1_group 67 = .ok (.aload_n 0, 1) := by decide +kernel
theorem dX1_group_68 : decode cX1_group 68 = .ok (.getfield 7, 3) := by decide +kernel
theorem dX1_group_71 : decode cX1_group 71 = .ok (.iconst 4, 1) := by decide +kernel
theorem dX1_group_72 : decode cX1_group 72 = .ok (.iload 5, 2) := by decide +kernel
theorem dX1_group_74 : decode cX1_group 74 = .ok (.imul, 1) := by decide +kernel
theorem dX1_group_75 : decode cX1_group 75 = .ok (.iload_n 1, 1) := by decide +kernel
theorem dX1_group_76 : decode cX1_group 76 = .ok (.iadd, 1) := by decide +kernel
theorem dX1_group_77 : decode cX1_group 77 = .ok (.laload, 1) := by decide +kernel
theorem dX1_group_78 : decode cX1_group 78 = .ok (.lstore 6, 2) := by decide +kernel
theorem dX1_group_80 : decode cX1_group 80 = .ok (.aload_n 0, 1) := by decide +kernel
theorem dX1_group_81 : decode cX1_group 81 = .ok (.getfield 7, 3) := by decide +kernel
theorem dX1_group_84 : decode cX1_group 84 = .ok (.iconst 4, 1) := by decide +kernel
theorem dX1_group_85 : decode cX1_group 85 = .ok (.iload 5, 2) := by decide +kernel
theorem dX1_group_87 : decode cX1_group 87 = .ok (.imul, 1) := by decide +kernel
theorem dX1_group_88 : decode cX1_group 88 = .ok (.iload 4, 2) := by decide +kernel
theorem dX1_group_90 : decode cX1_group 90 = .ok (.iadd, 1) := by decide +kernel
theorem dX1_group_91 : decode cX1_group 91 = .ok (.laload, 1) := by decide +kernel
theorem dX1_group_92 : decode cX1_group 92 = .ok (.lstore 8, 2) := by decide +kernel
theorem dX1_group_94 : decode cX1_group 94 = .ok (.lload 8, 2) := by decide +kernel
theorem dX1_group_96 : decode cX1_group 96 = .ok (.lstore 10, 2) := by decide +kernel
theorem dX1_group_98 : decode cX1_group 98 = .ok (.lconst 0, 1) := by decide +kernel
theorem dX1_group_99 : decode cX1_group 99 = .ok (.lstore 12, 2) := by decide +kernel
theorem dX1_group_101 : decode cX1_group 101 = .ok (.iconst 0, 1) := by decide +kernel
theorem dX1_group_102 : decode cX1_group 102 = .ok (.istore 14, 2) := by decide +kernel
theorem dX1_group_104 : decode cX1_group 104 = .ok (.iload 5, 2) := by decide +kernel
theorem dX1_group_106 : decode cX1_group 106 = .ok (.istore 15, 2) := by decide +kernel
theorem dX1_group_108 : decode cX1_group 108 = .ok (.iload 15, 2) := by decide +kernel
theorem dX1_group_110 : decode cX1_group 110 = .ok (.aload_n 0, 1) := by decide +kernel
theorem dX1_group_111 : decode cX1_group 111 = .ok (.getfield 27, 3) := by decide +kernel
theorem dX1_group_114 : decode cX1_group 114 = .ok (.if_icmp .ge 93, 3) := by decide +kernel
theorem dX1_group_117 : decode cX1_group 117 = .ok (.aload_n 0, 1) := by decide +kernel
theorem dX1_group_118 : decode cX1_group 118 = .ok (.iload 15, 2) := by decide +kernel
theorem dX1_group_120 : decode cX1_group 120 = .ok (.invokevirtual 41, 3) := by decide +kernel
theorem dX1_group_123 : decode cX1_group 123 = .ok (.ifCond .eq 78, 3) := by decide +kernel
theorem dX1_group_126 : decode cX1_group 126 = .ok (.aload_n 0, 1) := by decide +kernel
theorem dX1_group_127 : decode cX1_group 127 = .ok (.getfield 7, 3) := by decide +kernel
theorem dX1_group_130 : decode cX1_group 130 = .ok (.iconst 4, 1) := by decide +kernel
theorem dX1_group_131 : decode cX1_group 131 = .ok (.iload 15, 2) := by decide +kernel
theorem dX1_group_133 : decode cX1_group 133 = .ok (.imul, 1) := by decide +kernel
theorem dX1_group_134 : decode cX1_group 134 = .ok (.iload_n 1, 1) := by decide +kernel
theorem dX1_group_135 : decode cX1_group 135 = .ok (.iadd, 1) := by decide +kernel
theorem dX1_group_136 : decode cX1_group 136 = .ok (.laload, 1) := by decide +kernel
theorem dX1_group_137 : decode cX1_group 137 = .ok (.lload 6, 2) := by decide +kernel
theorem dX1_group_139 : decode cX1_group 139 = .ok (.lcmp, 1) := by decide +kernel
theorem dX1_group_140 : decode cX1_group 140 = .ok (.ifCond .ne 61, 3) := by decide +kernel
theorem dX1_group_143 : decode cX1_group 143 = .ok (.aload_n 0, 1) := by decide +kernel
theorem dX1_group_144 : decode cX1_group 144 = .ok (.getfield 7, 3) := by decide +kernel
theorem dX1_group_147 : decode cX1_group 147 = .ok (.iconst 4, 1) := by decide +kernel
theorem dX1_group_148 : decode cX1_group 148 = .ok (.iload 15, 2) := by decide +kernel
theorem dX1_group_150 : decode cX1_group 150 = .ok (.imul, 1) := by decide +kernel
theorem dX1_group_151 : decode cX1_group 151 = .ok (.iload 4, 2) := by decide +kernel
theorem dX1_group_153 : decode cX1_group 153 = .ok (.iadd, 1) := by decide +kernel
theorem dX1_group_154 : decode cX1_group 154 = .ok (.laload, 1) := by decide +kernel
theorem dX1_group_155 : decode cX1_group 155 = .ok (.lstore 16, 2) := by decide +kernel
theorem dX1_group_157 : decode cX1_group 157 = .ok (.iinc 14 1, 3) := by decide +kernel
theorem dX1_group_160 : decode cX1_group 160 = .ok (.lload 12, 2) := by decide +kernel
theorem dX1_group_162 : decode cX1_group 162 = .ok (.lload 16, 2) := by decide +kernel
theorem dX1_group_164 : decode cX1_group 164 = .ok (.ladd, 1) := by decide +kernel
theorem dX1_group_165 : decode cX1_group 165 = .ok (.lstore 12, 2) := by decide +kernel
theorem dX1_group_167 : decode cX1_group 167 = .ok (.lload 16, 2) := by decide +kernel
theorem dX1_group_169 : decode cX1_group 169 = .ok (.lload 8, 2) := by decide +kernel
theorem dX1_group_171 : decode cX1_group 171 = .ok (.lcmp, 1) := by decide +kernel
theorem dX1_group_172 : decode cX1_group 172 = .ok (.ifCond .ge 8, 3) := by decide +kernel
theorem dX1_group_175 : decode cX1_group 175 = .ok (.lload 16, 2) := by decide +kernel
theorem dX1_group_177 : decode cX1_group 177 = .ok (.goto 5, 3) := by decide +kernel
theorem dX1_group_180 : decode cX1_group 180 = .ok (.lload 8, 2) := by decide +kernel
theorem dX1_group_182 : decode cX1_group 182 = .ok (.lstore 8, 2) := by decide +kernel
theorem dX1_group_184 : decode cX1_group 184 = .ok (.lload 16, 2) := by decide +kernel
theorem dX1_group_186 : decode cX1_group 186 = .ok (.lload 10, 2) := by decide +kernel
theorem dX1_group_188 : decode cX1_group 188 = .ok (.lcmp, 1) := by decide +kernel
theorem dX1_group_189 : decode cX1_group 189 = .ok (.ifCond .le 8, 3) := by decide +kernel
theorem dX1_group_192 : decode cX1_group 192 = .ok (.lload 16, 2) := by decide +kernel
theorem dX1_group_194 : decode cX1_group 194 = .ok (.goto 5, 3) := by decide +kernel
theorem dX1_group_197 : decode cX1_group 197 = .ok (.lload 10, 2) := by decide +kernel
theorem dX1_group_199 : decode cX1_group 199 = .ok (.lstore 10, 2) := by decide +kernel
theorem dX1_group_201 : decode cX1_group 201 = .ok (.iinc 15 1, 3) := by decide +kernel
theorem dX1_group_204 : decode cX1_group 204 = .ok (.goto (-96), 3) := by decide +kernel
theorem dX1_group_207 : decode cX1_group 207 = .ok (.iload_n 3, 1) := by decide +kernel
theorem dX1_group_208 : decode cX1_group 208 = .ok (.ifCond .ne 8, 3) := by decide +kernel
theorem dX1_group_211 : decode cX1_group 211 = .ok (.lload 6, 2) := by decide +kernel
theorem dX1_group_213 : decode cX1_group 213 = .ok (.goto 36, 3) := by decide +kernel
theorem dX1_group_216 : decode cX1_group 216 = .ok (.iload_n 3, 1) := by decide +kernel
theorem dX1_group_217 : decode cX1_group 217 = .ok (.iconst 1, 1) := by decide +kernel
theorem dX1_group_218 : decode cX1_group 218 = .ok (.if_icmp .ne 9, 3) := by decide +kernel
theorem dX1_group_221 : decode cX1_group 221 = .ok (.iload 14, 2) := by decide +kernel
theorem dX1_group_223 : decode cX1_group 223 = .ok (.i2l, 1) := by decide +kernel
theorem dX1_group_224 : decode cX1_group 224 = .ok (.goto 25, 3) := by decide +kernel
theorem dX1_group_227 : decode cX1_group 227 = .ok (.iload_n 3, 1) := by decide +kernel
theorem dX1_group_228 : decode cX1_group 228 = .ok (.iconst 2, 1) := by decide +kernel
theorem dX1_group_229 : decode cX1_group 229 = .ok (.if_icmp .ne 8, 3) := by decide +kernel
theorem dX1_group_232 : decode cX1_group 232 = .ok (.lload 12, 2) := by decide +kernel
theorem dX1_group_234 : decode cX1_group 234 = .ok (.goto 15, 3) := by decide +kernel
theorem dX1_group_237 : decode cX1_group 237 = .ok (.iload_n 3, 1) := by decide +kernel
theorem dX1_group_238 : decode cX1_group 238 = .ok (.iconst 3, 1) := by decide +kernel
theorem dX1_group_239 : decode cX1_group 239 = .ok (.if_icmp .ne 8, 3) := by decide +kernel
theorem dX1_group_242 : decode cX1_group 242 = .ok (.lload 8, 2) := by decide +kernel
theorem dX1_group_244 : decode cX1_group 244 = .ok (.goto 5, 3) := by decide +kernel
theorem dX1_group_247 : decode cX1_group 247 = .ok (.lload 10, 2) := by decide +kernel
theorem dX1_group_249 : decode cX1_group 249 = .ok (.lreturn, 1) := by decide +kernel
theorem dX1_pairs_0 : decode cX1_pairs 0 = .ok (.aload_n 0, 1) := by decide +kernel
theorem dX1_pairs_1 : decode cX1_pairs 1 = .ok (.iload_n 1, 1) := by decide +kernel
theorem dX1_pairs_2 : decode cX1_pairs 2 = .ok (.invokestatic 30, 3) := by decide +kernel
theorem dX1_pairs_5 : decode cX1_pairs 5 = .ok (.ifCond .eq 14, 3) := by decide +kernel
theorem dX1_pairs_8 : decode cX1_pairs 8 = .ok (.iload_n 2, 1) := by decide +kernel
theorem dX1_pairs_9 : decode cX1_pairs 9 = .ok (.invokestatic 30, 3) := by decide +kernel
theorem dX1_pairs_12 : decode cX1_pairs 12 = .ok (.ifCond .eq 7, 3) := by decide +kernel
theorem dX1_pairs_15 : decode cX1_pairs 15 = .ok (.iconst 0, 1) := by decide +kernel
theorem dX1_pairs_16 : decode cX1_pairs 16 = .ok (.goto 4, 3) := by decide +kernel
theorem dX1_pairs_19 : decode cX1_pairs 19 = .ok (.iconst 1, 1) := by decide +kernel
theorem dX1_pairs_20 : decode cX1_pairs 20 = .ok (.putfield 23, 3) := by decide +kernel
theorem dX1_pairs_23 : decode cX1_pairs 23 = .ok (.iconst 0, 1) := by decide +kernel
theorem dX1_pairs_24 : decode cX1_pairs 24 = .ok (.istore_n 3, 1) := by decide +kernel
theorem dX1_pairs_25 : decode cX1_pairs 25 = .ok (.iconst 0, 1) := by decide +kernel
theorem dX1_pairs_26 : decode cX1_pairs 26 = .ok (.istore 4, 2) := by decide +kernel
theorem dX1_pairs_28 : decode cX1_pairs 28 = .ok (.iload 4, 2) := by decide +kernel
theorem dX1_pairs_30 : decode cX1_pairs 30 = .ok (.aload_n 0, 1) := by decide +kernel
theorem dX1_pairs_31 : decode cX1_pairs 31 = .ok (.getfield 27, 3) := by decide +kernel
theorem dX1_pairs_34 : decode cX1_pairs 34 = .ok (.if_icmp .ge 84, 3) := by decide +kernel
theorem dX1_pairs_37 : decode cX1_pairs 37 = .ok (.aload_n 0, 1) := by decide +kernel
theorem dX1_pairs_38 : decode cX1_pairs 38 = .ok (.getfield 23, 3) := by decide +kernel
theorem dX1_pairs_41 : decode cX1_pairs 41 = .ok (.ifCond .ne 77, 3) := by decide +kernel
theorem dX1_pairs_44 : decode cX1_pairs 44 = .ok (.iconst 0, 1) := by decide +kernel
theorem dX1_pairs_45 : decode cX1_pairs 45 = .ok (.istore 5, 2) := by decide +kernel
theorem dX1_pairs_47 : decode cX1_pairs 47 = .ok (.iload 5, 2) := by decide +kernel
theorem dX1_pairs_49 : decode cX1_pairs 49 = .ok (.iload 4, 2) := by decide +kernel
theorem dX1_pairs_51 : decode cX1_pairs 51 = .ok (.if_icmp .ge 61, 3) := by decide +kernel
theorem dX1_pairs_54 : decode cX1_pairs 54 = .ok (.aload_n 0, 1) := by decide +kernel
theorem dX1_pairs_55 : decode cX1_pairs 55 = .ok (.iload 4, 2) := by decide +kernel
theorem dX1_pairs_57 : decode cX1_pairs 57 = .ok (.invokevirtual 41, 3) := by decide +kernel
theorem dX1_pairs_60 : decode cX1_pairs 60 = .ok (.ifCond .eq 52, 3) := by decide +kernel
theorem dX1_pairs_63 : decode cX1_pairs 63 = .ok (.iload_n 3, 1) := by decide +kernel
theorem dX1_pairs_64 : decode cX1_pairs 64 = .ok (.aload_n 0, 1) := by decide +kernel
theorem dX1_pairs_65 : decode cX1_pairs 65 = .ok (.iload 5, 2) := by decide +kernel
theorem dX1_pairs_67 : decode cX1_pairs 67 = .ok (.invokevirtual 41, 3) := by decide +kernel
theorem dX1_pairs_70 : decode cX1_pairs 70 = .ok (.ifCond .eq 33, 3) := by decide +kernel
theorem dX1_pairs_73 : decode cX1_pairs 73 = .ok (.aload_n 0, 1) := by decide +kernel
theorem dX1_pairs_74 : decode cX1_pairs 74 = .ok (.getfield 7, 3) := by decide +kernel
theorem dX1_pairs_77 : decode cX1_pairs 77 = .ok (.iconst 4, 1) := by decide +kernel
theorem dX1_pairs_78 : decode cX1_pairs 78 = .ok (.iload 5, 2) := by decide +kernel
theorem dX1_pairs_80 : decode cX1_pairs 80 = .ok (.imul, 1) := by decide +kernel
theorem dX1_pairs_81 : decode cX1_pairs 81 = .ok (.iload_n 1, 1) := by decide +kernel
theorem dX1_pairs_82 : decode cX1_pairs 82 = .ok (.iadd, 1) := by decide +kernel
theorem dX1_pairs_83 : decode cX1_pairs 83 = .ok (.laload, 1) := by decide +kernel
theorem dX1_pairs_84 : decode cX1_pairs 84 = .ok (.aload_n 0, 1) := by decide +kernel
theorem dX1_pairs_85 : decode cX1_pairs 85 = .ok (.getfield 7, 3) := by decide +kernel
theorem dX1_pairs_88 : decode cX1_pairs 88 = .ok (.iconst 4, 1) := by decide +kernel
theorem dX1_pairs_89 : decode cX1_pairs 89 = .ok (.iload 4, 2) := by decide +kernel
theorem dX1_pairs_91 : decode cX1_pairs 91 = .ok (.imul, 1) := by decide +kernel
theorem dX1_pairs_92 : decode cX1_pairs 92 = .ok (.iload_n 2, 1) := by decide +kernel
theorem dX1_pairs_93 : decode cX1_pairs 93 = .ok (.iadd, 1) := by decide +kernel
theorem dX1_pairs_94 : decode cX1_pairs 94 = .ok (.laload, 1) := by decide +kernel
theorem dX1_pairs_95 : decode cX1_pairs 95 = .ok (.lcmp, 1) := by decide +kernel
theorem dX1_pairs_96 : decode cX1_pairs 96 = .ok (.ifCond .ne 7, 3) := by decide +kernel
theorem dX1_pairs_99 : decode cX1_pairs 99 = .ok (.iconst 1, 1) := by decide +kernel
theorem dX1_pairs_100 : decode cX1_pairs 100 = .ok (.goto 4, 3) := by decide +kernel
theorem dX1_pairs_103 : decode cX1_pairs 103 = .ok (.iconst 0, 1) := by decide +kernel
theorem dX1_pairs_104 : decode cX1_pairs 104 = .ok (.iadd, 1) := by decide +kernel
theorem dX1_pairs_105 : decode cX1_pairs 105 = .ok (.istore_n 3, 1) := by decide +kernel
theorem dX1_pairs_106 : decode cX1_pairs 106 = .ok (.iinc 5 1, 3) := by decide +kernel
theorem dX1_pairs_109 : decode cX1_pairs 109 = .ok (.goto (-62), 3) := by decide +kernel
theorem dX1_pairs_112 : decode cX1_pairs 112 = .ok (.iinc 4 1, 3) := by decide +kernel
theorem dX1_pairs_115 : decode cX1_pairs 115 = .ok (.goto (-87), 3) := by decide +kernel
theorem dX1_pairs_118 : decode cX1_pairs 118 = .ok (.iload_n 3, 1) := by decide +kernel
theorem dX1_pairs_119 : decode cX1_pairs 119 = .ok (.ireturn, 1) := by decide +kernel
theorem dX1_purge_0 : decode cX1_purge 0 = .ok (.aload_n 0, 1) := by decide +kernel
theorem dX1_purge_1 : decode cX1_purge 1 = .ok (.iconst 0, 1) := by decide +kernel
theorem dX1_purge_2 : decode cX1_purge 2 = .ok (.putfield 23, 3) := by decide +kernel
theorem dX1_purge_5 : decode cX1_purge 5 = .ok (.iconst 0, 1) := by decide +kernel
theorem dX1_purge_6 : decode cX1_purge 6 = .ok (.istore_n 1, 1) := by decide +kernel
theorem dX1_purge_7 : decode cX1_purge 7 = .ok (.iconst 0, 1) := by decide +kernel
theorem dX1_purge_8 : decode cX1_purge 8 = .ok (.istore_n 2, 1) := by decide +kernel
theorem dX1_purge_9 : decode cX1_purge 9 = .ok (.iload_n 2, 1) := by decide +kernel
theorem dX1_purge_10 : decode cX1_purge 10 = .ok (.aload_n 0, 1) := by decide +kernel
theorem dX1_purge_11 : decode cX1_purge 11 = .ok (.getfield 27, 3) := by decide +kernel
theorem dX1_purge_14 : decode cX1_purge 14 = .ok (.if_icmp .ge 53, 3) := by decide +kernel
theorem dX1_purge_17 : decode cX1_purge 17 = .ok (.aload_n 0, 1) := by decide +kernel
theorem dX1_purge_18 : decode cX1_purge 18 = .ok (.iload_n 2, 1) := by decide +kernel
theorem dX1_purge_19 : decode cX1_purge 19 = .ok (.invokevirtual 41, 3) := by decide +kernel
theorem dX1_purge_22 : decode cX1_purge 22 = .ok (.ifCond .ne 39, 3) := by decide +kernel
theorem dX1_purge_25 : decode cX1_purge 25 = .ok (.iconst 0, 1) := by decide +kernel
theorem dX1_purge_26 : decode cX1_purge 26 = .ok (.istore_n 3, 1) := by decide +kernel
theorem dX1_purge_27 : decode cX1_purge 27 = .ok (.iload_n 3, 1) := by decide +kernel
theorem dX1_purge_28 : decode cX1_purge 28 = .ok (.iconst 4, 1) := by decide +kernel
theorem dX1_purge_29 : decode cX1_purge 29 = .ok (.if_icmp .ge 29, 3) := by decide +kernel
theorem dX1_purge_32 : decode cX1_purge 32 = .ok (.aload_n 0, 1) := by decide +kernel
theorem dX1_purge_33 : decode cX1_purge 33 = .ok (.getfield 7, 3) := by decide +kernel
theorem dX1_purge_36 : decode cX1_purge 36 = .ok (.iconst 4, 1) := by decide +kernel
theorem dX1_purge_37 : decode cX1_purge 37 = .ok (.iload_n 1, 1) := by decide +kernel
theorem dX1_purge_38 : decode cX1_purge 38 = .ok (.imul, 1) := by decide +kernel
theorem dX1_purge_39 : decode cX1_purge 39 = .ok (.iload_n 3, 1) := by decide +kernel
theorem dX1_purge_40 : decode cX1_purge 40 = .ok (.iadd, 1) := by decide +kernel
theorem dX1_purge_41 : decode cX1_purge 41 = .ok (.aload_n 0, 1) := by decide +kernel
theorem dX1_purge_42 : decode cX1_purge 42 = .ok (.getfield 7, 3) := by decide +kernel
theorem dX1_purge_45 : decode cX1_purge 45 = .ok (.iconst 4, 1) := by decide +kernel
theorem dX1_purge_46 : decode cX1_purge 46 = .ok (.iload_n 2, 1) := by decide +kernel
theorem dX1_purge_47 : decode cX1_purge 47 = .ok (.imul, 1) := by decide +kernel
theorem dX1_purge_48 : decode cX1_purge 48 = .ok (.iload_n 3, 1) := by decide +kernel
theorem dX1_purge_49 : decode cX1_purge 49 = .ok (.iadd, 1) := by decide +kernel
theorem dX1_purge_50 : decode cX1_purge 50 = .ok (.laload, 1) := by decide +kernel
theorem dX1_purge_51 : decode cX1_purge 51 = .ok (.lastore, 1) := by decide +kernel
theorem dX1_purge_52 : decode cX1_purge 52 = .ok (.iinc 3 1, 3) := by decide +kernel
theorem dX1_purge_55 : decode cX1_purge 55 = .ok (.goto (-28), 3) := by decide +kernel
theorem dX1_purge_58 : decode cX1_purge 58 = .ok (.iinc 1 1, 3) := by decide +kernel
theorem dX1_purge_61 : decode cX1_purge 61 = .ok (.iinc 2 1, 3) := by decide +kernel
theorem dX1_purge_64 : decode cX1_purge 64 = .ok (.goto (-55), 3) := by decide +kernel
theorem dX1_purge_67 : decode cX1_purge 67 = .ok (.aload_n 0, 1) := by decide +kernel
theorem dX1_purge_68 : decode cX1_purge 68 = .ok (.getfield 27, 3) := by decide +kernel
theorem dX1_purge_71 : decode cX1_purge 71 = .ok (.iload_n 1, 1) := by decide +kernel
theorem dX1_purge_72 : decode cX1_purge 72 = .ok (.isub, 1) := by decide +kernel
theorem dX1_purge_73 : decode cX1_purge 73 = .ok (.istore_n 2, 1) := by decide +kernel
theorem dX1_purge_74 : decode cX1_purge 74 = .ok (.aload_n 0, 1) := by decide +kernel
theorem dX1_purge_75 : decode cX1_purge 75 = .ok (.iload_n 1, 1) := by decide +kernel
theorem dX1_purge_76 : decode cX1_purge 76 = .ok (.putfield 27, 3) := by decide +kernel
theorem dX1_purge_79 : decode cX1_purge 79 = .ok (.iload_n 2, 1) := by decide +kernel
theorem dX1_purge_80 : decode cX1_purge 80 = .ok (.ireturn, 1) := by decide +kernel
