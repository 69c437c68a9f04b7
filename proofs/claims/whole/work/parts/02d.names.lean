theorem dX7_has_9 : decode cX7_has 9 = .ok (.iconst 1, 1) := by decide +kernel
theorem dX7_has_10 : decode cX7_has 10 = .ok (.goto 4, 3) := by decide +kernel
theorem dX7_has_13 : decode cX7_has 13 = .ok (.iconst 0, 1) := by decide +kernel
theorem dX7_has_14 : decode cX7_has 14 = .ok (.ireturn, 1) := by decide +kernel
theorem dX7_bits_0 : decode cX7_bits 0 = .ok (.iconst 0, 1) := by decide +kernel
theorem dX7_bits_1 : decode cX7_bits 1 = .ok (.istore_n 1, 1) := by decide +kernel
theorem dX7_bits_2 : decode cX7_bits 2 = .ok (.iload_n 0, 1) := by decide +kernel
theorem dX7_bits_3 : decode cX7_bits 3 = .ok (.istore_n 2, 1) := by decide +kernel
theorem dX7_bits_4 : decode cX7_bits 4 = .ok (.iload_n 2, 1) := by decide +kernel
theorem dX7_bits_5 : decode cX7_bits 5 = .ok (.ifCond .eq 15, 3) := by decide +kernel
theorem dX7_bits_8 : decode cX7_bits 8 = .ok (.iinc 1 1, 3) := by decide +kernel
theorem dX7_bits_11 : decode cX7_bits 11 = .ok (.iload_n 2, 1) := by decide +kernel
theorem dX7_bits_12 : decode cX7_bits 12 = .ok (.iload_n 2, 1) := by decide +kernel
theorem dX7_bits_13 : decode cX7_bits 13 = .ok (.iconst 1, 1) := by decide +kernel
theorem dX7_bits_14 : decode cX7_bits 14 = .ok (.isub, 1) := by decide +kernel
theorem dX7_bits_15 : decode cX7_bits 15 = .ok (.iand, 1) := by decide +kernel
theorem dX7_bits_16 : decode cX7_bits 16 = .ok (.istore_n 2, 1) := by decide +kernel
theorem dX7_bits_17 : decode cX7_bits 17 = .ok (.goto (-13), 3) := by decide +kernel
theorem dX7_bits_20 : decode cX7_bits 20 = .ok (.iload_n 1, 1) := by decide +kernel
theorem dX7_bits_21 : decode cX7_bits 21 = .ok (.ireturn, 1) := by decide +kernel
theorem dX7_begins_0 : decode cX7_begins 0 = .ok (.bipush 6, 2) := by decide +kernel
theorem dX7_begins_2 : decode cX7_begins 2 = .ok (.istore_n 3, 1) := by decide +kernel
theorem dX7_begins_3 : decode cX7_begins 3 = .ok (.iload_n 3, 1) := by decide +kernel
theorem dX7_begins_4 : decode cX7_begins 4 = .ok (.sipush 316, 3) := by decide +kernel
theorem dX7_begins_7 : decode cX7_begins 7 = .ok (.if_icmp .ge 16, 3) := by decide +kernel
theorem dX7_begins_10 : decode cX7_begins 10 = .ok (.aload_n 0, 1) := by decide +kernel
theorem dX7_begins_11 : decode cX7_begins 11 = .ok (.getfield 7, 3) := by decide +kernel
theorem dX7_begins_14 : decode cX7_begins 14 = .ok (.iload_n 3, 1) := by decide +kernel
theorem dX7_begins_15 : decode cX7_begins 15 = .ok (.iconst 0, 1) := by decide +kernel
theorem dX7_begins_16 : decode cX7_begins 16 = .ok (.iastore, 1) := by decide +kernel
theorem dX7_begins_17 : decode cX7_begins 17 = .ok (.iinc 3 1, 3) := by decide +kernel
theorem dX7_begins_20 : decode cX7_begins 20 = .ok (.goto (-17), 3) := by decide +kernel
theorem dX7_begins_23 : decode cX7_begins 23 = .ok (.aload_n 0, 1) := by decide +kernel
theorem dX7_begins_24 : decode cX7_begins 24 = .ok (.getfield 7, 3) := by decide +kernel
theorem dX7_begins_27 : decode cX7_begins 27 = .ok (.iconst 0, 1) := by decide +kernel
theorem dX7_begins_28 : decode cX7_begins 28 = .ok (.iload_n 1, 1) := by decide +kernel
theorem dX7_begins_29 : decode cX7_begins 29 = .ok (.iastore, 1) := by decide +kernel
theorem dX7_begins_30 : decode cX7_begins 30 = .ok (.aload_n 0, 1) := by decide +kernel
theorem dX7_begins_31 : decode cX7_begins 31 = .ok (.getfield 7, 3) := by decide +kernel
theorem dX7_begins_34 : decode cX7_begins 34 = .ok (.iconst 1, 1) := by decide +kernel
theorem dX7_begins_35 : decode cX7_begins 35 = .ok (.iload_n 2, 1) := by decide +kernel
theorem dX7_begins_36 : decode cX7_begins 36 = .ok (.iastore, 1) := by decide +kernel
theorem dX7_begins_37 : decode cX7_begins 37 = .ok (.iconst 0, 1) := by decide +kernel
theorem dX7_begins_38 : decode cX7_begins 38 = .ok (.istore_n 3, 1) := by decide +kernel
theorem dX7_begins_39 : decode cX7_begins 39 = .ok (.iload_n 3, 1) := by decide +kernel
theorem dX7_begins_40 : decode cX7_begins 40 = .ok (.bipush 64, 2) := by decide +kernel
theorem dX7_begins_42 : decode cX7_begins 42 = .ok (.if_icmp .ge 20, 3) := by decide +kernel
theorem dX7_begins_45 : decode cX7_begins 45 = .ok (.aload_n 0, 1) := by decide +kernel
theorem dX7_begins_46 : decode cX7_begins 46 = .ok (.getfield 7, 3) := by decide +kernel
theorem dX7_begins_49 : decode cX7_begins 49 = .ok (.sipush 210, 3) := by decide +kernel
theorem dX7_begins_52 : decode cX7_begins 52 = .ok (.iload_n 3, 1) := by decide +kernel
theorem dX7_begins_53 : decode cX7_begins 53 = .ok (.iadd, 1) := by decide +kernel
theorem dX7_begins_54 : decode cX7_begins 54 = .ok (.iconst (-1), 1) := by decide +kernel
theorem dX7_begins_55 : decode cX7_begins 55 = .ok (.iastore, 1) := by decide +kernel
theorem dX7_begins_56 : decode cX7_begins 56 = .ok (.iinc 3 1, 3) := by decide +kernel
theorem dX7_begins_59 : decode cX7_begins 59 = .ok (.goto (-20), 3) := by decide +kernel
theorem dX7_begins_62 : decode cX7_begins 62 = .ok (.return_, 1) := by decide +kernel
theorem dX7_cells_0 : decode cX7_cells 0 = .ok (.aload_n 0, 1) := by decide +kernel
theorem dX7_cells_1 : decode cX7_cells 1 = .ok (.getfield 7, 3) := by decide +kernel
theorem dX7_cells_4 : decode cX7_cells 4 = .ok (.iconst 0, 1) := by decide +kernel
theorem dX7_cells_5 : decode cX7_cells 5 = .ok (.iaload, 1) := by decide +kernel
theorem dX7_cells_6 : decode cX7_cells 6 = .ok (.aload_n 0, 1) := by decide +kernel
theorem dX7_cells_7 : decode cX7_cells 7 = .ok (.getfield 7, 3) := by decide +kernel
theorem dX7_cells_10 : decode cX7_cells 10 = .ok (.iconst 1, 1) := by decide +kernel
theorem dX7_cells_11 : decode cX7_cells 11 = .ok (.iaload, 1) := by decide +kernel
theorem dX7_cells_12 : decode cX7_cells 12 = .ok (.imul, 1) := by decide +kernel
theorem dX7_cells_13 : decode cX7_cells 13 = .ok (.ireturn, 1) := by decide +kernel
theorem dX7_isRow_0 : decode cX7_isRow 0 = .ok (.iload_n 1, 1) := by decide +kernel
theorem dX7_isRow_1 : decode cX7_isRow 1 = .ok (.iconst 0, 1) := by decide +kernel
theorem dX7_isRow_2 : decode cX7_isRow 2 = .ok (.aload_n 0, 1) := by decide +kernel
theorem dX7_isRow_3 : decode cX7_isRow 3 = .ok (.getfield 7, 3) := by decide +kernel
theorem dX7_isRow_6 : decode cX7_isRow 6 = .ok (.iconst 0, 1) := by decide +kernel
theorem dX7_isRow_7 : decode cX7_isRow 7 = .ok (.iaload, 1) := by decide +kernel
theorem dX7_isRow_8 : decode cX7_isRow 8 = .ok (.iconst 1, 1) := by decide +kernel
theorem dX7_isRow_9 : decode cX7_isRow 9 = .ok (.isub, 1) := by decide +kernel
theorem dX7_isRow_10 : decode cX7_isRow 10 = .ok (.invokestatic 30, 3) := by decide +kernel
theorem dX7_isRow_13 : decode cX7_isRow 13 = .ok (.ireturn, 1) := by decide +kernel
theorem dX7_isCell_0 : decode cX7_isCell 0 = .ok (.aload_n 0, 1) := by decide +kernel
theorem dX7_isCell_1 : decode cX7_isCell 1 = .ok (.iload_n 1, 1) := by decide +kernel
theorem dX7_isCell_2 : decode cX7_isCell 2 = .ok (.invokevirtual 34, 3) := by decide +kernel
theorem dX7_isCell_5 : decode cX7_isCell 5 = .ok (.ifCond .eq 23, 3) := by decide +kernel
theorem dX7_isCell_8 : decode cX7_isCell 8 = .ok (.iload_n 2, 1) := by decide +kernel
theorem dX7_isCell_9 : decode cX7_isCell 9 = .ok (.iconst 0, 1) := by decide +kernel
theorem dX7_isCell_10 : decode cX7_isCell 10 = .ok (.aload_n 0, 1) := by decide +kernel
theorem dX7_isCell_11 : decode cX7_isCell 11 = .ok (.getfield 7, 3) := by decide +kernel
theorem dX7_isCell_14 : decode cX7_isCell 14 = .ok (.iconst 1, 1) := by decide +kernel
theorem dX7_isCell_15 : decode cX7_isCell 15 = .ok (.iaload, 1) := by decide +kernel
theorem dX7_isCell_16 : decode cX7_isCell 16 = .ok (.iconst 1, 1) := by decide +kernel
theorem dX7_isCell_17 : decode cX7_isCell 17 = .ok (.isub, 1) := by decide +kernel
theorem dX7_isCell_18 : decode cX7_isCell 18 = .ok (.invokestatic 30, 3) := by decide +kernel
theorem dX7_isCell_21 : decode cX7_isCell 21 = .ok (.ifCond .eq 7, 3) := by decide +kernel
theorem dX7_isCell_24 : decode cX7_isCell 24 = .ok (.iconst 1, 1) := by decide +kernel
theorem dX7_isCell_25 : decode cX7_isCell 25 = .ok (.goto 4, 3) := by decide +kernel
theorem dX7_isCell_28 : decode cX7_isCell 28 = .ok (.iconst 0, 1) := by decide +kernel
theorem dX7_isCell_29 : decode cX7_isCell 29 = .ok (.ireturn, 1) := by decide +kernel
theorem dX7_cellAt_0 : decode cX7_cellAt 0 = .ok (.aload_n 0, 1) := by decide +kernel
theorem dX7_cellAt_1 : decode cX7_cellAt 1 = .ok (.getfield 7, 3) := by decide +kernel
theorem dX7_cellAt_4 : decode cX7_cellAt 4 = .ok (.iconst 1, 1) := by decide +kernel
theorem dX7_cellAt_5 : decode cX7_cellAt 5 = .ok (.iaload, 1) := by decide +kernel
theorem dX7_cellAt_6 : decode cX7_cellAt 6 = .ok (.iload_n 1, 1) := by decide +kernel
theorem dX7_cellAt_7 : decode cX7_cellAt 7 = .ok (.imul, 1) := by decide +kernel
theorem dX7_cellAt_8 : decode cX7_cellAt 8 = .ok (.iload_n 2, 1) := by decide +kernel
theorem dX7_cellAt_9 : decode cX7_cellAt 9 = .ok (.iadd, 1) := by decide +kernel
theorem dX7_cellAt_10 : decode cX7_cellAt 10 = .ok (.ireturn, 1) := by decide +kernel
theorem dX7_panel_0 : decode cX7_panel 0 = .ok (.iload_n 1, 1) := by decide +kernel
theorem dX7_panel_1 : decode cX7_panel 1 = .ok (.iconst 2, 1) := by decide +kernel
theorem dX7_panel_2 : decode cX7_panel 2 = .ok (.bipush 8, 2) := by decide +kernel
theorem dX7_panel_4 : decode cX7_panel 4 = .ok (.invokestatic 30, 3) := by decide +kernel
theorem dX7_panel_7 : decode cX7_panel 7 = .ok (.ifCond .eq 13, 3) := by decide +kernel
theorem dX7_panel_10 : decode cX7_panel 10 = .ok (.iload_n 2, 1) := by decide +kernel
theorem dX7_panel_11 : decode cX7_panel 11 = .ok (.iconst 2, 1) := by decide +kernel
theorem dX7_panel_12 : decode cX7_panel 12 = .ok (.bipush 8, 2) := by decide +kernel
theorem dX7_panel_14 : decode cX7_panel 14 = .ok (.invokestatic 30, 3) := by decide +kernel
theorem dX7_panel_17 : decode cX7_panel 17 = .ok (.ifCond .ne 6, 3) := by decide +kernel
theorem dX7_panel_20 : decode cX7_panel 20 = .ok (.ldc 38, 2) := by decide +kernel
theorem dX7_panel_22 : decode cX7_panel 22 = .ok (.ireturn, 1) := by decide +kernel
theorem dX7_panel_23 : decode cX7_panel 23 = .ok (.aload_n 0, 1) := by decide +kernel
theorem dX7_panel_24 : decode cX7_panel 24 = .ok (.iload_n 1, 1) := by decide +kernel
theorem dX7_panel_25 : decode cX7_panel 25 = .ok (.iload_n 2, 1) := by decide +kernel
theorem dX7_panel_26 : decode cX7_panel 26 = .ok (.invokevirtual 26, 3) := by decide +kernel
theorem dX7_panel_29 : decode cX7_panel 29 = .ok (.iload_n 1, 1) := by decide +kernel
theorem dX7_panel_30 : decode cX7_panel 30 = .ok (.iload_n 2, 1) := by decide +kernel
theorem dX7_panel_31 : decode cX7_panel 31 = .ok (.imul, 1) := by decide +kernel
theorem dX7_panel_32 : decode cX7_panel 32 = .ok (.ireturn, 1) := by decide +kernel
theorem dX7_bound_0 : decode cX7_bound 0 = .ok (.iload_n 1, 1) := by decide +kernel
theorem dX7_bound_1 : decode cX7_bound 1 = .ok (.iconst 2, 1) := by decide +kernel
theorem dX7_bound_2 : decode cX7_bound 2 = .ok (.if_icmp .ge 7, 3) := by decide +kernel
theorem dX7_bound_5 : decode cX7_bound 5 = .ok (.iconst 1, 1) := by decide +kernel
theorem dX7_bound_6 : decode cX7_bound 6 = .ok (.goto 4, 3) := by decide +kernel
theorem dX7_bound_9 : decode cX7_bound 9 = .ok (.iconst 0, 1) := by decide +kernel
theorem dX7_bound_10 : decode cX7_bound 10 = .ok (.istore_n 3, 1) := by decide +kernel
theorem dX7_bound_11 : decode cX7_bound 11 = .ok (.iload_n 1, 1) := by decide +kernel
theorem dX7_bound_12 : decode cX7_bound 12 = .ok (.ifCond .ne 9, 3) := by decide +kernel
theorem dX7_bound_15 : decode cX7_bound 15 = .ok (.sipush 200, 3) := by decide +kernel
theorem dX7_bound_18 : decode cX7_bound 18 = .ok (.goto 24, 3) := by decide +kernel
theorem dX7_bound_21 : decode cX7_bound 21 = .ok (.iload_n 1, 1) := by decide +kernel
theorem dX7_bound_22 : decode cX7_bound 22 = .ok (.iconst 1, 1) := by decide +kernel
theorem dX7_bound_23 : decode cX7_bound 23 = .ok (.if_icmp .ne 8, 3) := by decide +kernel
theorem dX7_bound_26 : decode cX7_bound 26 = .ok (.bipush 64, 2) := by decide +kernel
theorem dX7_bound_28 : decode cX7_bound 28 = .ok (.goto 14, 3) := by decide +kernel
theorem dX7_bound_31 : decode cX7_bound 31 = .ok (.iload_n 1, 1) := by decide +kernel
theorem dX7_bound_32 : decode cX7_bound 32 = .ok (.iconst 2, 1) := by decide +kernel
theorem dX7_bound_33 : decode cX7_bound 33 = .ok (.if_icmp .ne 8, 3) := by decide +kernel
theorem dX7_bound_36 : decode cX7_bound 36 = .ok (.bipush 14, 2) := by decide +kernel
theorem dX7_bound_38 : decode cX7_bound 38 = .ok (.goto 4, 3) := by decide +kernel
theorem dX7_bound_41 : decode cX7_bound 41 = .ok (.iconst 3, 1) := by decide +kernel
theorem dX7_bound_42 : decode cX7_bound 42 = .ok (.istore 4, 2) := by decide +kernel
theorem dX7_bound_44 : decode cX7_bound 44 = .ok (.iload_n 1, 1) := by decide +kernel
theorem dX7_bound_45 : decode cX7_bound 45 = .ok (.iconst 0, 1) := by decide +kernel
theorem dX7_bound_46 : decode cX7_bound 46 = .ok (.iconst 3, 1) := by decide +kernel
theorem dX7_bound_47 : decode cX7_bound 47 = .ok (.invokestatic 30, 3) := by decide +kernel
theorem dX7_bound_50 : decode cX7_bound 50 = .ok (.ifCond .eq 13, 3) := by decide +kernel
theorem dX7_bound_53 : decode cX7_bound 53 = .ok (.iload_n 2, 1) := by decide +kernel
theorem dX7_bound_54 : decode cX7_bound 54 = .ok (.iload_n 3, 1) := by decide +kernel
theorem dX7_bound_55 : decode cX7_bound 55 = .ok (.iload 4, 2) := by decide +kernel
theorem dX7_bound_57 : decode cX7_bound 57 = .ok (.invokestatic 30, 3) := by decide +kernel
theorem dX7_bound_60 : decode cX7_bound 60 = .ok (.ifCond .ne 6, 3) := by decide +kernel
theorem dX7_bound_63 : decode cX7_bound 63 = .ok (.ldc 38, 2) := by decide +kernel
theorem dX7_bound_65 : decode cX7_bound 65 = .ok (.ireturn, 1) := by decide +kernel
theorem dX7_bound_66 : decode cX7_bound 66 = .ok (.aload_n 0, 1) := by decide +kernel
theorem dX7_bound_67 : decode cX7_bound 67 = .ok (.getfield 7, 3) := by decide +kernel
theorem dX7_bound_70 : decode cX7_bound 70 = .ok (.iconst 2, 1) := by decide +kernel
theorem dX7_bound_71 : decode cX7_bound 71 = .ok (.iload_n 1, 1) := by decide +kernel
theorem dX7_bound_72 : decode cX7_bound 72 = .ok (.iadd, 1) := by decide +kernel
theorem dX7_bound_73 : decode cX7_bound 73 = .ok (.iaload, 1) := by decide +kernel
theorem dX7_bound_74 : decode cX7_bound 74 = .ok (.istore 5, 2) := by decide +kernel
theorem dX7_bound_76 : decode cX7_bound 76 = .ok (.aload_n 0, 1) := by decide +kernel
theorem dX7_bound_77 : decode cX7_bound 77 = .ok (.getfield 7, 3) := by decide +kernel
theorem dX7_bound_80 : decode cX7_bound 80 = .ok (.iconst 2, 1) := by decide +kernel
theorem dX7_bound_81 : decode cX7_bound 81 = .ok (.iload_n 1, 1) := by decide +kernel
theorem dX7_bound_82 : decode cX7_bound 82 = .ok (.iadd, 1) := by decide +kernel
theorem dX7_bound_83 : decode cX7_bound 83 = .ok (.iload_n 2, 1) := by decide +kernel
theorem dX7_bound_84 : decode cX7_bound 84 = .ok (.iastore, 1) := by decide +kernel
theorem dX7_bound_85 : decode cX7_bound 85 = .ok (.iload 5, 2) := by decide +kernel
theorem dX7_bound_87 : decode cX7_bound 87 = .ok (.ireturn, 1) := by decide +kernel
theorem dX7_set_0 : decode cX7_set 0 = .ok (.aload_n 0, 1) := by decide +kernel
theorem dX7_set_1 : decode cX7_set 1 = .ok (.iload_n 1, 1) := by decide +kernel
theorem dX7_set_2 : decode cX7_set 2 = .ok (.iload_n 2, 1) := by decide +kernel
theorem dX7_set_3 : decode cX7_set 3 = .ok (.invokevirtual 39, 3) := by decide +kernel
theorem dX7_set_6 : decode cX7_set 6 = .ok (.ifCond .ne 6, 3) := by decide +kernel
theorem dX7_set_9 : decode cX7_set 9 = .ok (.ldc 43, 2) := by decide +kernel
theorem dX7_set_11 : decode cX7_set 11 = .ok (.ireturn, 1) := by decide +kernel
theorem dX7_set_12 : decode cX7_set 12 = .ok (.iload_n 3, 1) := by decide +kernel
theorem dX7_set_13 : decode cX7_set 13 = .ok (.iconst 0, 1) := by decide +kernel
theorem dX7_set_14 : decode cX7_set 14 = .ok (.sipush 999, 3) := by decide +kernel
theorem dX7_set_17 : decode cX7_set 17 = .ok (.invokestatic 30, 3) := by decide +kernel
theorem dX7_set_20 : decode cX7_set 20 = .ok (.ifCond .ne 6, 3) := by decide +kernel
theorem dX7_set_23 : decode cX7_set 23 = .ok (.ldc 38, 2) := by decide +kernel
theorem dX7_set_25 : decode cX7_set 25 = .ok (.ireturn, 1) := by decide +kernel
theorem dX7_set_26 : decode cX7_set 26 = .ok (.bipush 18, 2) := by decide +kernel
theorem dX7_set_28 : decode cX7_set 28 = .ok (.aload_n 0, 1) := by decide +kernel
theorem dX7_set_29 : decode cX7_set 29 = .ok (.iload_n 1, 1) := by decide +kernel
theorem dX7_set_30 : decode cX7_set 30 = .ok (.iload_n 2, 1) := by decide +kernel
theorem dX7_set_31 : decode cX7_set 31 = .ok (.invokevirtual 44, 3) := by decide +kernel
theorem dX7_set_34 : decode cX7_set 34 = .ok (.iadd, 1) := by decide +kernel
theorem dX7_set_35 : decode cX7_set 35 = .ok (.istore 4, 2) := by decide +kernel
theorem dX7_set_37 : decode cX7_set 37 = .ok (.aload_n 0, 1) := by decide +kernel
theorem dX7_set_38 : decode cX7_set 38 = .ok (.getfield 7, 3) := by decide +kernel
theorem dX7_set_41 : decode cX7_set 41 = .ok (.iload 4, 2) := by decide +kernel
theorem dX7_set_43 : decode cX7_set 43 = .ok (.iaload, 1) := by decide +kernel
theorem dX7_set_44 : decode cX7_set 44 = .ok (.istore 5, 2) := by decide +kernel
theorem dX7_set_46 : decode cX7_set 46 = .ok (.aload_n 0, 1) := by decide +kernel
theorem dX7_set_47 : decode cX7_set 47 = .ok (.getfield 7, 3) := by decide +kernel
theorem dX7_set_50 : decode cX7_set 50 = .ok (.iload 4, 2) := by decide +kernel
theorem dX7_set_52 : decode cX7_set 52 = .ok (.iload_n 3, 1) := by decide +kernel
theorem dX7_set_53 : decode cX7_set 53 = .ok (.iastore, 1) := by decide +kernel
theorem dX7_set_54 : decode cX7_set 54 = .ok (.iload 5, 2) := by decide +kernel
theorem dX7_set_56 : decode cX7_set 56 = .ok (.ireturn, 1) := by decide +kernel
theorem dX7_presses_0 : decode cX7_presses 0 = .ok (.aload_n 0, 1) := by decide +kernel
theorem dX7_presses_1 : decode cX7_presses 1 = .ok (.iload_n 1, 1) := by decide +kernel
theorem dX7_presses_2 : decode cX7_presses 2 = .ok (.iload_n 2, 1) := by decide +kernel
theorem dX7_presses_3 : decode cX7_presses 3 = .ok (.invokevirtual 39, 3) := by decide +kernel
theorem dX7_presses_6 : decode cX7_presses 6 = .ok (.ifCond .eq 51, 3) := by decide +kernel
theorem dX7_presses_9 : decode cX7_presses 9 = .ok (.bipush 18, 2) := by decide +kernel
theorem dX7_presses_11 : decode cX7_presses 11 = .ok (.aload_n 0, 1) := by decide +kernel
theorem dX7_presses_12 : decode cX7_presses 12 = .ok (.iload_n 1, 1) := by decide +kernel
theorem dX7_presses_13 : decode cX7_presses 13 = .ok (.iload_n 2, 1) := by decide +kernel
theorem dX7_presses_14 : decode cX7_presses 14 = .ok (.invokevirtual 44, 3) := by decide +kernel
theorem dX7_presses_17 : decode cX7_presses 17 = .ok (.iadd, 1) := by decide +kernel
theorem dX7_presses_18 : decode cX7_presses 18 = .ok (.istore 4, 2) := by decide +kernel
theorem dX7_presses_20 : decode cX7_presses 20 = .ok (.aload_n 0, 1) := by decide +kernel
theorem dX7_presses_21 : decode cX7_presses 21 = .ok (.getfield 7, 3) := by decide +kernel
theorem dX7_presses_24 : decode cX7_presses 24 = .ok (.iload 4, 2) := by decide +kernel
theorem dX7_presses_26 : decode cX7_presses 26 = .ok (.aload_n 0, 1) := by decide +kernel
theorem dX7_presses_27 : decode cX7_presses 27 = .ok (.getfield 7, 3) := by decide +kernel
theorem dX7_presses_30 : decode cX7_presses 30 = .ok (.iload 4, 2) := by decide +kernel
theorem dX7_presses_32 : decode cX7_presses 32 = .ok (.iaload, 1) := by decide +kernel
theorem dX7_presses_33 : decode cX7_presses 33 = .ok (.iload_n 3, 1) := by decide +kernel
theorem dX7_presses_34 : decode cX7_presses 34 = .ok (.iadd, 1) := by decide +kernel
theorem dX7_presses_35 : decode cX7_presses 35 = .ok (.sipush 999, 3) := by decide +kernel
theorem dX7_presses_38 : decode cX7_presses 38 = .ok (.if_icmp .le 9, 3) := by decide +kernel
theorem dX7_presses_41 : decode cX7_presses 41 = .ok (.sipush 999, 3) := by decide +kernel
theorem dX7_presses_44 : decode cX7_presses 44 = .ok (.goto 12, 3) := by decide +kernel
theorem dX7_presses_47 : decode cX7_presses 47 = .ok (.aload_n 0, 1) := by decide +kernel
theorem dX7_presses_48 : decode cX7_presses 48 = .ok (.getfield 7, 3) := by decide +kernel
theorem dX7_presses_51 : decode cX7_presses 51 = .ok (.iload 4, 2) := by decide +kernel
theorem dX7_presses_53 : decode cX7_presses 53 = .ok (.iaload, 1) := by decide +kernel
theorem dX7_presses_54 : decode cX7_presses 54 = .ok (.iload_n 3, 1) := by decide +kernel
theorem dX7_presses_55 : decode cX7_presses 55 = .ok (.iadd, 1) := by decide +kernel
theorem dX7_presses_56 : decode cX7_presses 56 = .ok (.iastore, 1) := by decide +kernel
theorem dX7_presses_57 : decode cX7_presses 57 = .ok (.return_, 1) := by decide +kernel
theorem dX7_press_0 : decode cX7_press 0 = .ok (.aload_n 0, 1) := by decide +kernel
theorem dX7_press_1 : decode cX7_press 1 = .ok (.iload_n 1, 1) := by decide +kernel
theorem dX7_press_2 : decode cX7_press 2 = .ok (.iload_n 2, 1) := by decide +kernel
theorem dX7_press_3 : decode cX7_press 3 = .ok (.invokevirtual 39, 3) := by decide +kernel
theorem dX7_press_6 : decode cX7_press 6 = .ok (.ifCond .ne 6, 3) := by decide +kernel
theorem dX7_press_9 : decode cX7_press 9 = .ok (.ldc 43, 2) := by decide +kernel
theorem dX7_press_11 : decode cX7_press 11 = .ok (.ireturn, 1) := by decide +kernel
theorem dX7_press_12 : decode cX7_press 12 = .ok (.iload_n 3, 1) := by decide +kernel
theorem dX7_press_13 : decode cX7_press 13 = .ok (.iconst 0, 1) := by decide +kernel
theorem dX7_press_14 : decode cX7_press 14 = .ok (.sipush 999, 3) := by decide +kernel
theorem dX7_press_17 : decode cX7_press 17 = .ok (.invokestatic 30, 3) := by decide +kernel
theorem dX7_press_20 : decode cX7_press 20 = .ok (.ifCond .ne 6, 3) := by decide +kernel
theorem dX7_press_23 : decode cX7_press 23 = .ok (.ldc 38, 2) := by decide +kernel
theorem dX7_press_25 : decode cX7_press 25 = .ok (.ireturn, 1) := by decide +kernel
theorem dX7_press_26 : decode cX7_press 26 = .ok (.aload_n 0, 1) := by decide +kernel
theorem dX7_press_27 : decode cX7_press 27 = .ok (.iload_n 1, 1) := by decide +kernel
theorem dX7_press_28 : decode cX7_press 28 = .ok (.iload_n 2, 1) := by decide +kernel
theorem dX7_press_29 : decode cX7_press 29 = .ok (.iload_n 3, 1) := by decide +kernel
theorem dX7_press_30 : decode cX7_press 30 = .ok (.invokevirtual 48, 3) := by decide +kernel
theorem dX7_press_33 : decode cX7_press 33 = .ok (.aload_n 0, 1) := by decide +kernel
theorem dX7_press_34 : decode cX7_press 34 = .ok (.iload_n 1, 1) := by decide +kernel
theorem dX7_press_35 : decode cX7_press 35 = .ok (.iconst 1, 1) := by decide +kernel
theorem dX7_press_36 : decode cX7_press 36 = .ok (.isub, 1) := by decide +kernel
theorem dX7_press_37 : decode cX7_press 37 = .ok (.iload_n 2, 1) := by decide +kernel
theorem dX7_press_38 : decode cX7_press 38 = .ok (.iload_n 3, 1) := by decide +kernel
theorem dX7_press_39 : decode cX7_press 39 = .ok (.iconst 2, 1) := by decide +kernel
theorem dX7_press_40 : decode cX7_press 40 = .ok (.idiv, 1) := by decide +kernel
theorem dX7_press_41 : decode cX7_press 41 = .ok (.invokevirtual 48, 3) := by decide +kernel
theorem dX7_press_44 : decode cX7_press 44 = .ok (.aload_n 0, 1) := by decide +kernel
theorem dX7_press_45 : decode cX7_press 45 = .ok (.iload_n 1, 1) := by decide +kernel
theorem dX7_press_46 : decode cX7_press 46 = .ok (.iconst 1, 1) := by decide +kernel
theorem dX7_press_47 : decode cX7_press 47 = .ok (.iadd, 1) := by decide +kernel
theorem dX7_press_48 : decode cX7_press 48 = .ok (.iload_n 2, 1) := by decide +kernel
theorem dX7_press_49 : decode cX7_press 49 = .ok (.iload_n 3, 1) := by decide +kernel
theorem dX7_press_50 : decode cX7_press 50 = .ok (.iconst 2, 1) := by decide +kernel
theorem dX7_press_51 : decode cX7_press 51 = .ok (.idiv, 1) := by decide +kernel
theorem dX7_press_52 : decode cX7_press 52 = .ok (.invokevirtual 48, 3) := by decide +kernel
theorem dX7_press_55 : decode cX7_press 55 = .ok (.aload_n 0, 1) := by decide +kernel
theorem dX7_press_56 : decode cX7_press 56 = .ok (.iload_n 1, 1) := by decide +kernel
theorem dX7_press_57 : decode cX7_press 57 = .ok (.iload_n 2, 1) := by decide +kernel
theorem dX7_press_58 : decode cX7_press 58 = .ok (.iconst 1, 1) := by decide +kernel
theorem dX7_press_59 : decode cX7_press 59 = .ok (.isub, 1) := by decide +kernel
theorem dX7_press_60 : decode cX7_press 60 = .ok (.iload_n 3, 1) := by decide +kernel
theorem dX7_press_61 : decode cX7_press 61 = .ok (.iconst 2, 1) := by decide +kernel
theorem dX7_press_62 : decode cX7_press 62 = .ok (.idiv, 1) := by decide +kernel
theorem dX7_press_63 : decode cX7_press 63 = .ok (.invokevirtual 48, 3) := by decide +kernel
theorem dX7_press_66 : decode cX7_press 66 = .ok (.aload_n 0, 1) := by decide +kernel
theorem dX7_press_67 : decode cX7_press 67 = .ok (.iload_n 1, 1) := by decide +kernel
theorem dX7_press_68 : decode cX7_press 68 = .ok (.iload_n 2, 1) := by decide +kernel
theorem dX7_press_69 : decode cX7_press 69 = .ok (.iconst 1, 1) := by decide +kernel
theorem dX7_press_70 : decode cX7_press 70 = .ok (.iadd, 1) := by decide +kernel
theorem dX7_press_71 : decode cX7_press 71 = .ok (.iload_n 3, 1) := by decide +kernel
theorem dX7_press_72 : decode cX7_press 72 = .ok (.iconst 2, 1) := by decide +kernel
theorem dX7_press_73 : decode cX7_press 73 = .ok (.idiv, 1) := by decide +kernel
theorem dX7_press_74 : decode cX7_press 74 = .ok (.invokevirtual 48, 3) := by decide +kernel
theorem dX7_press_77 : decode cX7_press 77 = .ok (.aload_n 0, 1) := by decide +kernel
theorem dX7_press_78 : decode cX7_press 78 = .ok (.getfield 7, 3) := by decide +kernel
theorem dX7_press_81 : decode cX7_press 81 = .ok (.bipush 18, 2) := by decide +kernel
theorem dX7_press_83 : decode cX7_press 83 = .ok (.aload_n 0, 1) := by decide +kernel
theorem dX7_press_84 : decode cX7_press 84 = .ok (.iload_n 1, 1) := by decide +kernel
theorem dX7_press_85 : decode cX7_press 85 = .ok (.iload_n 2, 1) := by decide +kernel
theorem dX7_press_86 : decode cX7_press 86 = .ok (.invokevirtual 44, 3) := by decide +kernel
theorem dX7_press_89 : decode cX7_press 89 = .ok (.iadd, 1) := by decide +kernel
theorem dX7_press_90 : decode cX7_press 90 = .ok (.iaload, 1) := by decide +kernel
theorem dX7_press_91 : decode cX7_press 91 = .ok (.ireturn, 1) := by decide +kernel
theorem dX7_wipe_0 : decode cX7_wipe 0 = .ok (.iconst 0, 1) := by decide +kernel
theorem dX7_wipe_1 : decode cX7_wipe 1 = .ok (.istore_n 1, 1) := by decide +kernel
theorem dX7_wipe_2 : decode cX7_wipe 2 = .ok (.iconst 0, 1) := by decide +kernel
theorem dX7_wipe_3 : decode cX7_wipe 3 = .ok (.istore_n 2, 1) := by decide +kernel
theorem dX7_wipe_4 : decode cX7_wipe 4 = .ok (.iload_n 2, 1) := by decide +kernel
theorem dX7_wipe_5 : decode cX7_wipe 5 = .ok (.aload_n 0, 1) := by decide +kernel
theorem dX7_wipe_6 : decode cX7_wipe 6 = .ok (.invokevirtual 52, 3) := by decide +kernel
theorem dX7_wipe_9 : decode cX7_wipe 9 = .ok (.if_icmp .ge 39, 3) := by decide +kernel
theorem dX7_wipe_12 : decode cX7_wipe 12 = .ok (.iload_n 1, 1) := by decide +kernel
theorem dX7_wipe_13 : decode cX7_wipe 13 = .ok (.aload_n 0, 1) := by decide +kernel
theorem dX7_wipe_14 : decode cX7_wipe 14 = .ok (.getfield 7, 3) := by decide +kernel
theorem dX7_wipe_17 : decode cX7_wipe 17 = .ok (.bipush 18, 2) := by decide +kernel
theorem dX7_wipe_19 : decode cX7_wipe 19 = .ok (.iload_n 2, 1) := by decide +kernel
theorem dX7_wipe_20 : decode cX7_wipe 20 = .ok (.iadd, 1) := by decide +kernel
theorem dX7_wipe_21 : decode cX7_wipe 21 = .ok (.iaload, 1) := by decide +kernel
theorem dX7_wipe_22 : decode cX7_wipe 22 = .ok (.ifCond .eq 7, 3) := by decide +kernel
theorem dX7_wipe_25 : decode cX7_wipe 25 = .ok (.iconst 1, 1) := by decide +kernel
theorem dX7_wipe_26 : decode cX7_wipe 26 = .ok (.goto 4, 3) := by decide +kernel
theorem dX7_wipe_29 : decode cX7_wipe 29 = .ok (.iconst 0, 1) := by decide +kernel
theorem dX7_wipe_30 : decode cX7_wipe 30 = .ok (.iadd, 1) := by decide +kernel
theorem dX7_wipe_31 : decode cX7_wipe 31 = .ok (.istore_n 1, 1) := by decide +kernel
theorem dX7_wipe_32 : decode cX7_wipe 32 = .ok (.aload_n 0, 1) := by decide +kernel
theorem dX7_wipe_33 : decode cX7_wipe 33 = .ok (.getfield 7, 3) := by decide +kernel
theorem dX7_wipe_36 : decode cX7_wipe 36 = .ok (.bipush 18, 2) := by decide +kernel
theorem dX7_wipe_38 : decode cX7_wipe 38 = .ok (.iload_n 2, 1) := by decide +kernel
theorem dX7_wipe_39 : decode cX7_wipe 39 = .ok (.iadd, 1) := by decide +kernel
theorem dX7_wipe_40 : decode cX7_wipe 40 = .ok (.iconst 0, 1) := by decide +kernel
theorem dX7_wipe_41 : decode cX7_wipe 41 = .ok (.iastore, 1) := by decide +kernel
theorem dX7_wipe_42 : decode cX7_wipe 42 = .ok (.iinc 2 1, 3) := by decide +kernel
theorem dX7_wipe_45 : decode cX7_wipe 45 = .ok (.goto (-41), 3) := by decide +kernel
theorem dX7_wipe_48 : decode cX7_wipe 48 = .ok (.iload_n 1, 1) := by decide +kernel
theorem dX7_wipe_49 : decode cX7_wipe 49 = .ok (.ireturn, 1) := by decide +kernel
theorem dX7_lose_0 : decode cX7_lose 0 = .ok (.aload_n 0, 1) := by decide +kernel
theorem dX7_lose_1 : decode cX7_lose 1 = .ok (.iload_n 1, 1) := by decide +kernel
theorem dX7_lose_2 : decode cX7_lose 2 = .ok (.invokevirtual 34, 3) := by decide +kernel
theorem dX7_lose_5 : decode cX7_lose 5 = .ok (.ifCond .ne 6, 3) := by decide +kernel
theorem dX7_lose_8 : decode cX7_lose 8 = .ok (.ldc 43, 2) := by decide +kernel
theorem dX7_lose_10 : decode cX7_lose 10 = .ok (.ireturn, 1) := by decide +kernel
theorem dX7_lose_11 : decode cX7_lose 11 = .ok (.aload_n 0, 1) := by decide +kernel
theorem dX7_lose_12 : decode cX7_lose 12 = .ok (.getfield 7, 3) := by decide +kernel
theorem dX7_lose_15 : decode cX7_lose 15 = .ok (.bipush 14, 2) := by decide +kernel
theorem dX7_lose_17 : decode cX7_lose 17 = .ok (.iaload, 1) := by decide +kernel
theorem dX7_lose_18 : decode cX7_lose 18 = .ok (.iload_n 1, 1) := by decide +kernel
theorem dX7_lose_19 : decode cX7_lose 19 = .ok (.invokestatic 56, 3) := by decide +kernel
theorem dX7_lose_22 : decode cX7_lose 22 = .ok (.ifCond .eq 6, 3) := by decide +kernel
theorem dX7_lose_25 : decode cX7_lose 25 = .ok (.ldc 59, 2) := by decide +kernel
theorem dX7_lose_27 : decode cX7_lose 27 = .ok (.ireturn, 1) := by decide +kernel
theorem dX7_lose_28 : decode cX7_lose 28 = .ok (.aload_n 0, 1) := by decide +kernel
theorem dX7_lose_29 : decode cX7_lose 29 = .ok (.getfield 7, 3) := by decide +kernel
theorem dX7_lose_32 : decode cX7_lose 32 = .ok (.bipush 14, 2) := by decide +kernel
theorem dX7_lose_34 : decode cX7_lose 34 = .ok (.dup2, 1) := by decide +kernel
theorem dX7_lose_35 : decode cX7_lose 35 = .ok (.iaload, 1) := by decide +kernel
theorem dX7_lose_36 : decode cX7_lose 36 = .ok (.iconst 1, 1) := by decide +kernel
theorem dX7_lose_37 : decode cX7_lose 37 = .ok (.iload_n 1, 1) := by decide +kernel
theorem dX7_lose_38 : decode cX7_lose 38 = .ok (.ishl, 1) := by decide +kernel
theorem dX7_lose_39 : decode cX7_lose 39 = .ok (.ior, 1) := by decide +kernel
theorem dX7_lose_40 : decode cX7_lose 40 = .ok (.iastore, 1) := by decide +kernel
theorem dX7_lose_41 : decode cX7_lose 41 = .ok (.aload_n 0, 1) := by decide +kernel
theorem dX7_lose_42 : decode cX7_lose 42 = .ok (.getfield 7, 3) := by decide +kernel
theorem dX7_lose_45 : decode cX7_lose 45 = .ok (.bipush 14, 2) := by decide +kernel
theorem dX7_lose_47 : decode cX7_lose 47 = .ok (.iaload, 1) := by decide +kernel
theorem dX7_lose_48 : decode cX7_lose 48 = .ok (.ireturn, 1) := by decide +kernel
theorem dX7_readOf_0 : decode cX7_readOf 0 = .ok (.iload_n 1, 1) := by decide +kernel
theorem dX7_readOf_1 : decode cX7_readOf 1 = .ok (.aload_n 0, 1) := by decide +kernel
theorem dX7_readOf_2 : decode cX7_readOf 2 = .ok (.getfield 7, 3) := by decide +kernel
theorem dX7_readOf_5 : decode cX7_readOf 5 = .ok (.iconst 1, 1) := by decide +kernel
theorem dX7_readOf_6 : decode cX7_readOf 6 = .ok (.iaload, 1) := by decide +kernel
theorem dX7_readOf_7 : decode cX7_readOf 7 = .ok (.idiv, 1) := by decide +kernel
theorem dX7_readOf_8 : decode cX7_readOf 8 = .ok (.istore_n 2, 1) := by decide +kernel
theorem dX7_readOf_9 : decode cX7_readOf 9 = .ok (.aload_n 0, 1) := by decide +kernel
theorem dX7_readOf_10 : decode cX7_readOf 10 = .ok (.getfield 7, 3) := by decide +kernel
theorem dX7_readOf_13 : decode cX7_readOf 13 = .ok (.bipush 14, 2) := by decide +kernel
theorem dX7_readOf_15 : decode cX7_readOf 15 = .ok (.iaload, 1) := by decide +kernel
theorem dX7_readOf_16 : decode cX7_readOf 16 = .ok (.iload_n 2, 1) := by decide +kernel
theorem dX7_readOf_17 : decode cX7_readOf 17 = .ok (.invokestatic 56, 3) := by decide +kernel
theorem dX7_readOf_20 : decode cX7_readOf 20 = .ok (.ifCond .ne 16, 3) := by decide +kernel
theorem dX7_readOf_23 : decode cX7_readOf 23 = .ok (.bipush 16, 2) := by decide +kernel
theorem dX7_readOf_25 : decode cX7_readOf 25 = .ok (.aload_n 0, 1) := by decide +kernel
theorem dX7_readOf_26 : decode cX7_readOf 26 = .ok (.getfield 7, 3) := by decide +kernel
theorem dX7_readOf_29 : decode cX7_readOf 29 = .ok (.bipush 18, 2) := by decide +kernel
theorem dX7_readOf_31 : decode cX7_readOf 31 = .ok (.iload_n 1, 1) := by decide +kernel
theorem dX7_readOf_32 : decode cX7_readOf 32 = .ok (.iadd, 1) := by decide +kernel
theorem dX7_readOf_33 : decode cX7_readOf 33 = .ok (.iaload, 1) := by decide +kernel
theorem dX7_readOf_34 : decode cX7_readOf 34 = .ok (.imul, 1) := by decide +kernel
theorem dX7_readOf_35 : decode cX7_readOf 35 = .ok (.ireturn, 1) := by decide +kernel
theorem dX7_readOf_36 : decode cX7_readOf 36 = .ok (.iload_n 2, 1) := by decide +kernel
theorem dX7_readOf_37 : decode cX7_readOf 37 = .ok (.ifCond .le 49, 3) := by decide +kernel
theorem dX7_readOf_40 : decode cX7_readOf 40 = .ok (.aload_n 0, 1) := by decide +kernel
theorem dX7_readOf_41 : decode cX7_readOf 41 = .ok (.iload_n 2, 1) := by decide +kernel
theorem dX7_readOf_42 : decode cX7_readOf 42 = .ok (.iconst 1, 1) := by decide +kernel
theorem dX7_readOf_43 : decode cX7_readOf 43 = .ok (.iadd, 1) := by decide +kernel
theorem dX7_readOf_44 : decode cX7_readOf 44 = .ok (.invokevirtual 34, 3) := by decide +kernel
theorem dX7_readOf_47 : decode cX7_readOf 47 = .ok (.ifCond .eq 39, 3) := by decide +kernel
theorem dX7_readOf_50 : decode cX7_readOf 50 = .ok (.aload_n 0, 1) := by decide +kernel
theorem dX7_readOf_51 : decode cX7_readOf 51 = .ok (.getfield 7, 3) := by decide +kernel
theorem dX7_readOf_54 : decode cX7_readOf 54 = .ok (.bipush 14, 2) := by decide +kernel
theorem dX7_readOf_56 : decode cX7_readOf 56 = .ok (.iaload, 1) := by decide +kernel
theorem dX7_readOf_57 : decode cX7_readOf 57 = .ok (.iload_n 2, 1) := by decide +kernel
theorem dX7_readOf_58 : decode cX7_readOf 58 = .ok (.iconst 1, 1) := by decide +kernel
theorem dX7_readOf_59 : decode cX7_readOf 59 = .ok (.isub, 1) := by decide +kernel
theorem dX7_readOf_60 : decode cX7_readOf 60 = .ok (.invokestatic 56, 3) := by decide +kernel
theorem dX7_readOf_63 : decode cX7_readOf 63 = .ok (.ifCond .ne 23, 3) := by decide +kernel
theorem dX7_readOf_66 : decode cX7_readOf 66 = .ok (.aload_n 0, 1) := by decide +kernel
theorem dX7_readOf_67 : decode cX7_readOf 67 = .ok (.getfield 7, 3) := by decide +kernel
theorem dX7_readOf_70 : decode cX7_readOf 70 = .ok (.bipush 14, 2) := by decide +kernel
theorem dX7_readOf_72 : decode cX7_readOf 72 = .ok (.iaload, 1) := by decide +kernel
theorem dX7_readOf_73 : decode cX7_readOf 73 = .ok (.iload_n 2, 1) := by decide +kernel
theorem dX7_readOf_74 : decode cX7_readOf 74 = .ok (.iconst 1, 1) := by decide +kernel
theorem dX7_readOf_75 : decode cX7_readOf 75 = .ok (.iadd, 1) := by decide +kernel
theorem dX7_readOf_76 : decode cX7_readOf 76 = .ok (.invokestatic 56, 3) := by decide +kernel
theorem dX7_readOf_79 : decode cX7_readOf 79 = .ok (.ifCond .ne 7, 3) := by decide +kernel
theorem dX7_readOf_82 : decode cX7_readOf 82 = .ok (.iconst 1, 1) := by decide +kernel
theorem dX7_readOf_83 : decode cX7_readOf 83 = .ok (.goto 4, 3) := by decide +kernel
theorem dX7_readOf_86 : decode cX7_readOf 86 = .ok (.iconst 0, 1) := by decide +kernel
theorem dX7_readOf_87 : decode cX7_readOf 87 = .ok (.istore_n 3, 1) := by decide +kernel
theorem dX7_readOf_88 : decode cX7_readOf 88 = .ok (.iload_n 3, 1) := by decide +kernel
theorem dX7_readOf_89 : decode cX7_readOf 89 = .ok (.ifCond .eq 42, 3) := by decide +kernel
theorem dX7_readOf_92 : decode cX7_readOf 92 = .ok (.bipush 8, 2) := by decide +kernel
theorem dX7_readOf_94 : decode cX7_readOf 94 = .ok (.aload_n 0, 1) := by decide +kernel
theorem dX7_readOf_95 : decode cX7_readOf 95 = .ok (.getfield 7, 3) := by decide +kernel
theorem dX7_readOf_98 : decode cX7_readOf 98 = .ok (.bipush 18, 2) := by decide +kernel
theorem dX7_readOf_100 : decode cX7_readOf 100 = .ok (.iload_n 1, 1) := by decide +kernel
theorem dX7_readOf_101 : decode cX7_readOf 101 = .ok (.iadd, 1) := by decide +kernel
theorem dX7_readOf_102 : decode cX7_readOf 102 = .ok (.aload_n 0, 1) := by decide +kernel
theorem dX7_readOf_103 : decode cX7_readOf 103 = .ok (.getfield 7, 3) := by decide +kernel
theorem dX7_readOf_106 : decode cX7_readOf 106 = .ok (.iconst 1, 1) := by decide +kernel
theorem dX7_readOf_107 : decode cX7_readOf 107 = .ok (.iaload, 1) := by decide +kernel
theorem dX7_readOf_108 : decode cX7_readOf 108 = .ok (.isub, 1) := by decide +kernel
theorem dX7_readOf_109 : decode cX7_readOf 109 = .ok (.iaload, 1) := by decide +kernel
theorem dX7_readOf_110 : decode cX7_readOf 110 = .ok (.aload_n 0, 1) := by decide +kernel
theorem dX7_readOf_111 : decode cX7_readOf 111 = .ok (.getfield 7, 3) := by decide +kernel
theorem dX7_readOf_114 : decode cX7_readOf 114 = .ok (.bipush 18, 2) := by decide +kernel
theorem dX7_readOf_116 : decode cX7_readOf 116 = .ok (.iload_n 1, 1) := by decide +kernel
theorem dX7_readOf_117 : decode cX7_readOf 117 = .ok (.iadd, 1) := by decide +kernel
theorem dX7_readOf_118 : decode cX7_readOf 118 = .ok (.aload_n 0, 1) := by decide +kernel
theorem dX7_readOf_119 : decode cX7_readOf 119 = .ok (.getfield 7, 3) := by decide +kernel
theorem dX7_readOf_122 : decode cX7_readOf 122 = .ok (.iconst 1, 1) := by decide +kernel
theorem dX7_readOf_123 : decode cX7_readOf 123 = .ok (.iaload, 1) := by decide +kernel
theorem dX7_readOf_124 : decode cX7_readOf 124 = .ok (.iadd, 1) := by decide +kernel
theorem dX7_readOf_125 : decode cX7_readOf 125 = .ok (.iaload, 1) := by decide +kernel
theorem dX7_readOf_126 : decode cX7_readOf 126 = .ok (.iadd, 1) := by decide +kernel
theorem dX7_readOf_127 : decode cX7_readOf 127 = .ok (.imul, 1) := by decide +kernel
theorem dX7_readOf_128 : decode cX7_readOf 128 = .ok (.goto 5, 3) := by decide +kernel
theorem dX7_readOf_131 : decode cX7_readOf 131 = .ok (.ldc 60, 2) := by decide +kernel
theorem dX7_readOf_133 : decode cX7_readOf 133 = .ok (.ireturn, 1) := by decide +kernel
theorem dX7_reads_0 : decode cX7_reads 0 = .ok (.aload_n 0, 1) := by decide +kernel
theorem dX7_reads_1 : decode cX7_reads 1 = .ok (.getfield 7, 3) := by decide +kernel
theorem dX7_reads_4 : decode cX7_reads 4 = .ok (.bipush 15, 2) := by decide +kernel
theorem dX7_reads_6 : decode cX7_reads 6 = .ok (.iconst 0, 1) := by decide +kernel
theorem dX7_reads_7 : decode cX7_reads 7 = .ok (.iastore, 1) := by decide +kernel
theorem dX7_reads_8 : decode cX7_reads 8 = .ok (.aload_n 0, 1) := by decide +kernel
theorem dX7_reads_9 : decode cX7_reads 9 = .ok (.getfield 7, 3) := by decide +kernel
theorem dX7_reads_12 : decode cX7_reads 12 = .ok (.bipush 16, 2) := by decide +kernel
theorem dX7_reads_14 : decode cX7_reads 14 = .ok (.iconst 0, 1) := by decide +kernel
theorem dX7_reads_15 : decode cX7_reads 15 = .ok (.iastore, 1) := by decide +kernel
theorem dX7_reads_16 : decode cX7_reads 16 = .ok (.iconst 0, 1) := by decide +kernel
theorem dX7_reads_17 : decode cX7_reads 17 = .ok (.istore_n 1, 1) := by decide +kernel
theorem dX7_reads_18 : decode cX7_reads 18 = .ok (.iload_n 1, 1) := by decide +kernel
theorem dX7_reads_19 : decode cX7_reads 19 = .ok (.aload_n 0, 1) := by decide +kernel
theorem dX7_reads_20 : decode cX7_reads 20 = .ok (.invokevirtual 52, 3) := by decide +kernel
theorem dX7_reads_23 : decode cX7_reads 23 = .ok (.if_icmp .ge 178, 3) := by decide +kernel
theorem dX7_reads_26 : decode cX7_reads 26 = .ok (.aload_n 0, 1) := by decide +kernel
theorem dX7_reads_27 : decode cX7_reads 27 = .ok (.iload_n 1, 1) := by decide +kernel
theorem dX7_reads_28 : decode cX7_reads 28 = .ok (.invokevirtual 61, 3) := by decide +kernel
theorem dX7_reads_31 : decode cX7_reads 31 = .ok (.istore_n 2, 1) := by decide +kernel
theorem dX7_reads_32 : decode cX7_reads 32 = .ok (.iload_n 2, 1) := by decide +kernel
theorem dX7_reads_33 : decode cX7_reads 33 = .ok (.ldc 60, 2) := by decide +kernel
theorem dX7_reads_35 : decode cX7_reads 35 = .ok (.if_icmp .ne 8, 3) := by decide +kernel
theorem dX7_reads_38 : decode cX7_reads 38 = .ok (.ldc 60, 2) := by decide +kernel
theorem dX7_reads_40 : decode cX7_reads 40 = .ok (.goto 14, 3) := by decide +kernel
theorem dX7_reads_43 : decode cX7_reads 43 = .ok (.iload_n 2, 1) := by decide +kernel
theorem dX7_reads_44 : decode cX7_reads 44 = .ok (.aload_n 0, 1) := by decide +kernel
theorem dX7_reads_45 : decode cX7_reads 45 = .ok (.getfield 7, 3) := by decide +kernel
theorem dX7_reads_48 : decode cX7_reads 48 = .ok (.bipush 82, 2) := by decide +kernel
theorem dX7_reads_50 : decode cX7_reads 50 = .ok (.iload_n 1, 1) := by decide +kernel
theorem dX7_reads_51 : decode cX7_reads 51 = .ok (.iadd, 1) := by decide +kernel
theorem dX7_reads_52 : decode cX7_reads 52 = .ok (.iaload, 1) := by decide +kernel
theorem dX7_reads_53 : decode cX7_reads 53 = .ok (.isub, 1) := by decide +kernel
theorem dX7_reads_54 : decode cX7_reads 54 = .ok (.istore_n 3, 1) := by decide +kernel
theorem dX7_reads_55 : decode cX7_reads 55 = .ok (.iload_n 3, 1) := by decide +kernel
theorem dX7_reads_56 : decode cX7_reads 56 = .ok (.ldc 60, 2) := by decide +kernel
theorem dX7_reads_58 : decode cX7_reads 58 = .ok (.if_icmp .eq 20, 3) := by decide +kernel
theorem dX7_reads_61 : decode cX7_reads 61 = .ok (.iload_n 3, 1) := by decide +kernel
theorem dX7_reads_62 : decode cX7_reads 62 = .ok (.bipush 16, 2) := by decide +kernel
theorem dX7_reads_64 : decode cX7_reads 64 = .ok (.aload_n 0, 1) := by decide +kernel
theorem dX7_reads_65 : decode cX7_reads 65 = .ok (.getfield 7, 3) := by decide +kernel
theorem dX7_reads_68 : decode cX7_reads 68 = .ok (.iconst 2, 1) := by decide +kernel
theorem dX7_reads_69 : decode cX7_reads 69 = .ok (.iaload, 1) := by decide +kernel
theorem dX7_reads_70 : decode cX7_reads 70 = .ok (.imul, 1) := by decide +kernel
theorem dX7_reads_71 : decode cX7_reads 71 = .ok (.if_icmp .lt 7, 3) := by decide +kernel
theorem dX7_reads_74 : decode cX7_reads 74 = .ok (.iconst 1, 1) := by decide +kernel
theorem dX7_reads_75 : decode cX7_reads 75 = .ok (.goto 4, 3) := by decide +kernel
theorem dX7_reads_78 : decode cX7_reads 78 = .ok (.iconst 0, 1) := by decide +kernel
theorem dX7_reads_79 : decode cX7_reads 79 = .ok (.istore 4, 2) := by decide +kernel
theorem dX7_reads_81 : decode cX7_reads 81 = .ok (.aload_n 0, 1) := by decide +kernel
theorem dX7_reads_82 : decode cX7_reads 82 = .ok (.getfield 7, 3) := by decide +kernel
theorem dX7_reads_85 : decode cX7_reads 85 = .ok (.sipush 146, 3) := by decide +kernel
theorem dX7_reads_88 : decode cX7_reads 88 = .ok (.iload_n 1, 1) := by decide +kernel
theorem dX7_reads_89 : decode cX7_reads 89 = .ok (.iadd, 1) := by decide +kernel
theorem dX7_reads_90 : decode cX7_reads 90 = .ok (.iload_n 3, 1) := by decide +kernel
theorem dX7_reads_91 : decode cX7_reads 91 = .ok (.iastore, 1) := by decide +kernel
theorem dX7_reads_92 : decode cX7_reads 92 = .ok (.aload_n 0, 1) := by decide +kernel
theorem dX7_reads_93 : decode cX7_reads 93 = .ok (.getfield 7, 3) := by decide +kernel
theorem dX7_reads_96 : decode cX7_reads 96 = .ok (.sipush 210, 3) := by decide +kernel
theorem dX7_reads_99 : decode cX7_reads 99 = .ok (.iload_n 1, 1) := by decide +kernel
theorem dX7_reads_100 : decode cX7_reads 100 = .ok (.iadd, 1) := by decide +kernel
theorem dX7_reads_101 : decode cX7_reads 101 = .ok (.iload 4, 2) := by decide +kernel
theorem dX7_reads_103 : decode cX7_reads 103 = .ok (.ifCond .eq 7, 3) := by decide +kernel
theorem dX7_reads_106 : decode cX7_reads 106 = .ok (.iload_n 1, 1) := by decide +kernel
theorem dX7_reads_107 : decode cX7_reads 107 = .ok (.goto 4, 3) := by decide +kernel
theorem dX7_reads_110 : decode cX7_reads 110 = .ok (.iconst (-1), 1) := by decide +kernel
theorem dX7_reads_111 : decode cX7_reads 111 = .ok (.iastore, 1) := by decide +kernel
theorem dX7_reads_112 : decode cX7_reads 112 = .ok (.aload_n 0, 1) := by decide +kernel
theorem dX7_reads_113 : decode cX7_reads 113 = .ok (.getfield 7, 3) := by decide +kernel
theorem dX7_reads_116 : decode cX7_reads 116 = .ok (.bipush 15, 2) := by decide +kernel
theorem dX7_reads_118 : decode cX7_reads 118 = .ok (.dup2, 1) := by decide +kernel
theorem dX7_reads_119 : decode cX7_reads 119 = .ok (.iaload, 1) := by decide +kernel
theorem dX7_reads_120 : decode cX7_reads 120 = .ok (.iload 4, 2) := by decide +kernel
theorem dX7_reads_122 : decode cX7_reads 122 = .ok (.ifCond .eq 7, 3) := by decide +kernel
theorem dX7_reads_125 : decode cX7_reads 125 = .ok (.iconst 1, 1) := by decide +kernel
theorem dX7_reads_126 : decode cX7_reads 126 = .ok (.goto 4, 3) := by decide +kernel
theorem dX7_reads_129 : decode cX7_reads 129 = .ok (.iconst 0, 1) := by decide +kernel
theorem dX7_reads_130 : decode cX7_reads 130 = .ok (.iadd, 1) := by decide +kernel
theorem dX7_reads_131 : decode cX7_reads 131 = .ok (.iastore, 1) := by decide +kernel
theorem dX7_reads_132 : decode cX7_reads 132 = .ok (.aload_n 0, 1) := by decide +kernel
theorem dX7_reads_133 : decode cX7_reads 133 = .ok (.getfield 7, 3) := by decide +kernel
theorem dX7_reads_136 : decode cX7_reads 136 = .ok (.bipush 16, 2) := by decide +kernel
theorem dX7_reads_138 : decode cX7_reads 138 = .ok (.dup2, 1) := by decide +kernel
theorem dX7_reads_139 : decode cX7_reads 139 = .ok (.iaload, 1) := by decide +kernel
theorem dX7_reads_140 : decode cX7_reads 140 = .ok (.iload_n 3, 1) := by decide +kernel
theorem dX7_reads_141 : decode cX7_reads 141 = .ok (.ldc 60, 2) := by decide +kernel
theorem dX7_reads_143 : decode cX7_reads 143 = .ok (.if_icmp .ne 7, 3) := by decide +kernel
theorem dX7_reads_146 : decode cX7_reads 146 = .ok (.iconst 1, 1) := by decide +kernel
theorem dX7_reads_147 : decode cX7_reads 147 = .ok (.goto 4, 3) := by decide +kernel
theorem dX7_reads_150 : decode cX7_reads 150 = .ok (.iconst 0, 1) := by decide +kernel
theorem dX7_reads_151 : decode cX7_reads 151 = .ok (.iadd, 1) := by decide +kernel
theorem dX7_reads_152 : decode cX7_reads 152 = .ok (.iastore, 1) := by decide +kernel
theorem dX7_reads_153 : decode cX7_reads 153 = .ok (.iload 4, 2) := by decide +kernel
theorem dX7_reads_155 : decode cX7_reads 155 = .ok (.ifCond .ne 40, 3) := by decide +kernel
theorem dX7_reads_158 : decode cX7_reads 158 = .ok (.aload_n 0, 1) := by decide +kernel
theorem dX7_reads_159 : decode cX7_reads 159 = .ok (.getfield 7, 3) := by decide +kernel
theorem dX7_reads_162 : decode cX7_reads 162 = .ok (.bipush 14, 2) := by decide +kernel
theorem dX7_reads_164 : decode cX7_reads 164 = .ok (.iaload, 1) := by decide +kernel
theorem dX7_reads_165 : decode cX7_reads 165 = .ok (.iload_n 1, 1) := by decide +kernel
theorem dX7_reads_166 : decode cX7_reads 166 = .ok (.aload_n 0, 1) := by decide +kernel
theorem dX7_reads_167 : decode cX7_reads 167 = .ok (.getfield 7, 3) := by decide +kernel
theorem dX7_reads_170 : decode cX7_reads 170 = .ok (.iconst 1, 1) := by decide +kernel
theorem dX7_reads_171 : decode cX7_reads 171 = .ok (.iaload, 1) := by decide +kernel
theorem dX7_reads_172 : decode cX7_reads 172 = .ok (.idiv, 1) := by decide +kernel
theorem dX7_reads_173 : decode cX7_reads 173 = .ok (.invokestatic 56, 3) := by decide +kernel
theorem dX7_reads_176 : decode cX7_reads 176 = .ok (.ifCond .ne 19, 3) := by decide +kernel
theorem dX7_reads_179 : decode cX7_reads 179 = .ok (.aload_n 0, 1) := by decide +kernel
theorem dX7_reads_180 : decode cX7_reads 180 = .ok (.getfield 7, 3) := by decide +kernel
theorem dX7_reads_183 : decode cX7_reads 183 = .ok (.bipush 82, 2) := by decide +kernel
theorem dX7_reads_185 : decode cX7_reads 185 = .ok (.iload_n 1, 1) := by decide +kernel
theorem dX7_reads_186 : decode cX7_reads 186 = .ok (.iadd, 1) := by decide +kernel
theorem dX7_reads_187 : decode cX7_reads 187 = .ok (.dup2, 1) := by decide +kernel
theorem dX7_reads_188 : decode cX7_reads 188 = .ok (.iaload, 1) := by decide +kernel
theorem dX7_reads_189 : decode cX7_reads 189 = .ok (.iload_n 3, 1) := by decide +kernel
theorem dX7_reads_190 : decode cX7_reads 190 = .ok (.bipush 16, 2) := by decide +kernel
theorem dX7_reads_192 : decode cX7_reads 192 = .ok (.idiv, 1) := by decide +kernel
theorem dX7_reads_193 : decode cX7_reads 193 = .ok (.iadd, 1) := by decide +kernel
theorem dX7_reads_194 : decode cX7_reads 194 = .ok (.iastore, 1) := by decide +kernel
theorem dX7_reads_195 : decode cX7_reads 195 = .ok (.iinc 1 1, 3) := by decide +kernel
theorem dX7_reads_198 : decode cX7_reads 198 = .ok (.goto (-180), 3) := by decide +kernel
theorem dX7_reads_201 : decode cX7_reads 201 = .ok (.return_, 1) := by decide +kernel
theorem dX7_isStronger_0 : decode cX7_isStronger 0 = .ok (.aload_n 0, 1) := by decide +kernel
theorem dX7_isStronger_1 : decode cX7_isStronger 1 = .ok (.getfield 7, 3) := by decide +kernel
theorem dX7_isStronger_4 : decode cX7_isStronger 4 = .ok (.sipush 146, 3) := by decide +kernel
theorem dX7_isStronger_7 : decode cX7_isStronger 7 = .ok (.iload_n 1, 1) := by decide +kernel
theorem dX7_isStronger_8 : decode cX7_isStronger 8 = .ok (.iadd, 1) := by decide +kernel
theorem dX7_isStronger_9 : decode cX7_isStronger 9 = .ok (.iaload, 1) := by decide +kernel
theorem dX7_isStronger_10 : decode cX7_isStronger 10 = .ok (.aload_n 0, 1) := by decide +kernel
theorem dX7_isStronger_11 : decode cX7_isStronger 11 = .ok (.getfield 7, 3) := by decide +kernel
theorem dX7_isStronger_14 : decode cX7_isStronger 14 = .ok (.sipush 146, 3) := by decide +kernel
theorem dX7_isStronger_17 : decode cX7_isStronger 17 = .ok (.iload_n 2, 1) := by decide +kernel
theorem dX7_isStronger_18 : decode cX7_isStronger 18 = .ok (.iadd, 1) := by decide +kernel
theorem dX7_isStronger_19 : decode cX7_isStronger 19 = .ok (.iaload, 1) := by decide +kernel
theorem dX7_isStronger_20 : decode cX7_isStronger 20 = .ok (.if_icmp .gt 31, 3) := by decide +kernel
theorem dX7_isStronger_23 : decode cX7_isStronger 23 = .ok (.aload_n 0, 1) := by decide +kernel
theorem dX7_isStronger_24 : decode cX7_isStronger 24 = .ok (.getfield 7, 3) := by decide +kernel
theorem dX7_isStronger_27 : decode cX7_isStronger 27 = .ok (.sipush 146, 3) := by decide +kernel
theorem dX7_isStronger_30 : decode cX7_isStronger 30 = .ok (.iload_n 1, 1) := by decide +kernel
theorem dX7_isStronger_31 : decode cX7_isStronger 31 = .ok (.iadd, 1) := by decide +kernel
theorem dX7_isStronger_32 : decode cX7_isStronger 32 = .ok (.iaload, 1) := by decide +kernel
theorem dX7_isStronger_33 : decode cX7_isStronger 33 = .ok (.aload_n 0, 1) := by decide +kernel
theorem dX7_isStronger_34 : decode cX7_isStronger 34 = .ok (.getfield 7, 3) := by decide +kernel
theorem dX7_isStronger_37 : decode cX7_isStronger 37 = .ok (.sipush 146, 3) := by decide +kernel
theorem dX7_isStronger_40 : decode cX7_isStronger 40 = .ok (.iload_n 2, 1) := by decide +kernel
theorem dX7_isStronger_41 : decode cX7_isStronger 41 = .ok (.iadd, 1) := by decide +kernel
theorem dX7_isStronger_42 : decode cX7_isStronger 42 = .ok (.iaload, 1) := by decide +kernel
theorem dX7_isStronger_43 : decode cX7_isStronger 43 = .ok (.if_icmp .ne 12, 3) := by decide +kernel
theorem dX7_isStronger_46 : decode cX7_isStronger 46 = .ok (.iload_n 1, 1) := by decide +kernel
theorem dX7_isStronger_47 : decode cX7_isStronger 47 = .ok (.iload_n 2, 1) := by decide +kernel
theorem dX7_isStronger_48 : decode cX7_isStronger 48 = .ok (.if_icmp .ge 7, 3) := by decide +kernel
theorem dX7_isStronger_51 : decode cX7_isStronger 51 = .ok (.iconst 1, 1) := by decide +kernel
theorem dX7_isStronger_52 : decode cX7_isStronger 52 = .ok (.goto 4, 3) := by decide +kernel
theorem dX7_isStronger_55 : decode cX7_isStronger 55 = .ok (.iconst 0, 1) := by decide +kernel
theorem dX7_isStronger_56 : decode cX7_isStronger 56 = .ok (.ireturn, 1) := by decide +kernel
theorem dX7_strongerOf_0 : decode cX7_strongerOf 0 = .ok (.aload_n 0, 1) := by decide +kernel
theorem dX7_strongerOf_1 : decode cX7_strongerOf 1 = .ok (.iload_n 2, 1) := by decide +kernel
theorem dX7_strongerOf_2 : decode cX7_strongerOf 2 = .ok (.iload_n 3, 1) := by decide +kernel
theorem dX7_strongerOf_3 : decode cX7_strongerOf 3 = .ok (.invokevirtual 39, 3) := by decide +kernel
theorem dX7_strongerOf_6 : decode cX7_strongerOf 6 = .ok (.ifCond .ne 5, 3) := by decide +kernel
theorem dX7_strongerOf_9 : decode cX7_strongerOf 9 = .ok (.iload_n 1, 1) := by decide +kernel
theorem dX7_strongerOf_10 : decode cX7_strongerOf 10 = .ok (.ireturn, 1) := by decide +kernel
theorem dX7_strongerOf_11 : decode cX7_strongerOf 11 = .ok (.aload_n 0, 1) := by decide +kernel
theorem dX7_strongerOf_12 : decode cX7_strongerOf 12 = .ok (.iload_n 2, 1) := by decide +kernel
theorem dX7_strongerOf_13 : decode cX7_strongerOf 13 = .ok (.iload_n 3, 1) := by decide +kernel
theorem dX7_strongerOf_14 : decode cX7_strongerOf 14 = .ok (.invokevirtual 44, 3) := by decide +kernel
theorem dX7_strongerOf_17 : decode cX7_strongerOf 17 = .ok (.istore 4, 2) := by decide +kernel
theorem dX7_strongerOf_19 : decode cX7_strongerOf 19 = .ok (.aload_n 0, 1) := by decide +kernel
theorem dX7_strongerOf_20 : decode cX7_strongerOf 20 = .ok (.getfield 7, 3) := by decide +kernel
theorem dX7_strongerOf_23 : decode cX7_strongerOf 23 = .ok (.sipush 210, 3) := by decide +kernel
theorem dX7_strongerOf_26 : decode cX7_strongerOf 26 = .ok (.iload 4, 2) := by decide +kernel
theorem dX7_strongerOf_28 : decode cX7_strongerOf 28 = .ok (.iadd, 1) := by decide +kernel
theorem dX7_strongerOf_29 : decode cX7_strongerOf 29 = .ok (.iaload, 1) := by decide +kernel
theorem dX7_strongerOf_30 : decode cX7_strongerOf 30 = .ok (.iconst (-1), 1) := by decide +kernel
theorem dX7_strongerOf_31 : decode cX7_strongerOf 31 = .ok (.if_icmp .eq 18, 3) := by decide +kernel
theorem dX7_strongerOf_34 : decode cX7_strongerOf 34 = .ok (.aload_n 0, 1) := by decide +kernel
theorem dX7_strongerOf_35 : decode cX7_strongerOf 35 = .ok (.iload 4, 2) := by decide +kernel
theorem dX7_strongerOf_37 : decode cX7_strongerOf 37 = .ok (.iload_n 1, 1) := by decide +kernel
theorem dX7_strongerOf_38 : decode cX7_strongerOf 38 = .ok (.invokevirtual 65, 3) := by decide +kernel
theorem dX7_strongerOf_41 : decode cX7_strongerOf 41 = .ok (.ifCond .eq 8, 3) := by decide +kernel
theorem dX7_strongerOf_44 : decode cX7_strongerOf 44 = .ok (.iload 4, 2) := by decide +kernel
theorem dX7_strongerOf_46 : decode cX7_strongerOf 46 = .ok (.goto 4, 3) := by decide +kernel
theorem dX7_strongerOf_49 : decode cX7_strongerOf 49 = .ok (.iload_n 1, 1) := by decide +kernel
theorem dX7_strongerOf_50 : decode cX7_strongerOf 50 = .ok (.ireturn, 1) := by decide +kernel
theorem dX7_leadOf_0 : decode cX7_leadOf 0 = .ok (.iload_n 1, 1) := by decide +kernel
theorem dX7_leadOf_1 : decode cX7_leadOf 1 = .ok (.aload_n 0, 1) := by decide +kernel
theorem dX7_leadOf_2 : decode cX7_leadOf 2 = .ok (.getfield 7, 3) := by decide +kernel
theorem dX7_leadOf_5 : decode cX7_leadOf 5 = .ok (.iconst 1, 1) := by decide +kernel
theorem dX7_leadOf_6 : decode cX7_leadOf 6 = .ok (.iaload, 1) := by decide +kernel
theorem dX7_leadOf_7 : decode cX7_leadOf 7 = .ok (.idiv, 1) := by decide +kernel
theorem dX7_leadOf_8 : decode cX7_leadOf 8 = .ok (.istore_n 2, 1) := by decide +kernel
theorem dX7_leadOf_9 : decode cX7_leadOf 9 = .ok (.iload_n 1, 1) := by decide +kernel
theorem dX7_leadOf_10 : decode cX7_leadOf 10 = .ok (.aload_n 0, 1) := by decide +kernel
theorem dX7_leadOf_11 : decode cX7_leadOf 11 = .ok (.getfield 7, 3) := by decide +kernel
theorem dX7_leadOf_14 : decode cX7_leadOf 14 = .ok (.iconst 1, 1) := by decide +kernel
theorem dX7_leadOf_15 : decode cX7_leadOf 15 = .ok (.iaload, 1) := by decide +kernel
theorem dX7_leadOf_16 : decode cX7_leadOf 16 = .ok (.irem, 1) := by decide +kernel
theorem dX7_leadOf_17 : decode cX7_leadOf 17 = .ok (.istore_n 3, 1) := by decide +kernel
theorem dX7_leadOf_18 : decode cX7_leadOf 18 = .ok (.aload_n 0, 1) := by decide +kernel
theorem dX7_leadOf_19 : decode cX7_leadOf 19 = .ok (.iload_n 1, 1) := by decide +kernel
theorem dX7_leadOf_20 : decode cX7_leadOf 20 = .ok (.iload_n 2, 1) := by decide +kernel
theorem dX7_leadOf_21 : decode cX7_leadOf 21 = .ok (.iconst 1, 1) := by decide +kernel
theorem dX7_leadOf_22 : decode cX7_leadOf 22 = .ok (.isub, 1) := by decide +kernel
theorem dX7_leadOf_23 : decode cX7_leadOf 23 = .ok (.iload_n 3, 1) := by decide +kernel
theorem dX7_leadOf_24 : decode cX7_leadOf 24 = .ok (.invokevirtual 68, 3) := by decide +kernel
theorem dX7_leadOf_27 : decode cX7_leadOf 27 = .ok (.istore 4, 2) := by decide +kernel
theorem dX7_leadOf_29 : decode cX7_leadOf 29 = .ok (.aload_n 0, 1) := by decide +kernel
theorem dX7_leadOf_30 : decode cX7_leadOf 30 = .ok (.iload 4, 2) := by decide +kernel
theorem dX7_leadOf_32 : decode cX7_leadOf 32 = .ok (.iload_n 2, 1) := by decide +kernel
theorem dX7_leadOf_33 : decode cX7_leadOf 33 = .ok (.iconst 1, 1) := by decide +kernel
theorem dX7_leadOf_34 : decode cX7_leadOf 34 = .ok (.iadd, 1) := by decide +kernel
theorem dX7_leadOf_35 : decode cX7_leadOf 35 = .ok (.iload_n 3, 1) := by decide +kernel
theorem dX7_leadOf_36 : decode cX7_leadOf 36 = .ok (.invokevirtual 68, 3) := by decide +kernel
theorem dX7_leadOf_39 : decode cX7_leadOf 39 = .ok (.istore 4, 2) := by decide +kernel
theorem dX7_leadOf_41 : decode cX7_leadOf 41 = .ok (.aload_n 0, 1) := by decide +kernel
theorem dX7_leadOf_42 : decode cX7_leadOf 42 = .ok (.iload 4, 2) := by decide +kernel
theorem dX7_leadOf_44 : decode cX7_leadOf 44 = .ok (.iload_n 2, 1) := by decide +kernel
theorem dX7_leadOf_45 : decode cX7_leadOf 45 = .ok (.iload_n 3, 1) := by decide +kernel
theorem dX7_leadOf_46 : decode cX7_leadOf 46 = .ok (.iconst 1, 1) := by decide +kernel
theorem dX7_leadOf_47 : decode cX7_leadOf 47 = .ok (.isub, 1) := by decide +kernel
theorem dX7_leadOf_48 : decode cX7_leadOf 48 = .ok (.invokevirtual 68, 3) := by decide +kernel
theorem dX7_leadOf_51 : decode cX7_leadOf 51 = .ok (.istore 4, 2) := by decide +kernel
theorem dX7_leadOf_53 : decode cX7_leadOf 53 = .ok (.aload_n 0, 1) := by decide +kernel
theorem dX7_leadOf_54 : decode cX7_leadOf 54 = .ok (.iload 4, 2) := by decide +kernel
theorem dX7_leadOf_56 : decode cX7_leadOf 56 = .ok (.iload_n 2, 1) := by decide +kernel
theorem dX7_leadOf_57 : decode cX7_leadOf 57 = .ok (.iload_n 3, 1) := by decide +kernel
theorem dX7_leadOf_58 : decode cX7_leadOf 58 = .ok (.iconst 1, 1) := by decide +kernel
theorem dX7_leadOf_59 : decode cX7_leadOf 59 = .ok (.iadd, 1) := by decide +kernel
theorem dX7_leadOf_60 : decode cX7_leadOf 60 = .ok (.invokevirtual 68, 3) := by decide +kernel
theorem dX7_leadOf_63 : decode cX7_leadOf 63 = .ok (.ireturn, 1) := by decide +kernel
theorem dX7_areaOf_0 : decode cX7_areaOf 0 = .ok (.iconst 0, 1) := by decide +kernel
theorem dX7_areaOf_1 : decode cX7_areaOf 1 = .ok (.istore_n 2, 1) := by decide +kernel
theorem dX7_areaOf_2 : decode cX7_areaOf 2 = .ok (.iconst 0, 1) := by decide +kernel
theorem dX7_areaOf_3 : decode cX7_areaOf 3 = .ok (.istore_n 3, 1) := by decide +kernel
theorem dX7_areaOf_4 : decode cX7_areaOf 4 = .ok (.iload_n 3, 1) := by decide +kernel
theorem dX7_areaOf_5 : decode cX7_areaOf 5 = .ok (.aload_n 0, 1) := by decide +kernel
theorem dX7_areaOf_6 : decode cX7_areaOf 6 = .ok (.invokevirtual 52, 3) := by decide +kernel
theorem dX7_areaOf_9 : decode cX7_areaOf 9 = .ok (.if_icmp .ge 31, 3) := by decide +kernel
theorem dX7_areaOf_12 : decode cX7_areaOf 12 = .ok (.iload_n 2, 1) := by decide +kernel
theorem dX7_areaOf_13 : decode cX7_areaOf 13 = .ok (.aload_n 0, 1) := by decide +kernel
theorem dX7_areaOf_14 : decode cX7_areaOf 14 = .ok (.getfield 7, 3) := by decide +kernel
theorem dX7_areaOf_17 : decode cX7_areaOf 17 = .ok (.sipush 210, 3) := by decide +kernel
theorem dX7_areaOf_20 : decode cX7_areaOf 20 = .ok (.iload_n 3, 1) := by decide +kernel
theorem dX7_areaOf_21 : decode cX7_areaOf 21 = .ok (.iadd, 1) := by decide +kernel
theorem dX7_areaOf_22 : decode cX7_areaOf 22 = .ok (.iaload, 1) := by decide +kernel
theorem dX7_areaOf_23 : decode cX7_areaOf 23 = .ok (.iload_n 1, 1) := by decide +kernel
theorem dX7_areaOf_24 : decode cX7_areaOf 24 = .ok (.if_icmp .ne 7, 3) := by decide +kernel
theorem dX7_areaOf_27 : decode cX7_areaOf 27 = .ok (.iconst 1, 1) := by decide +kernel
theorem dX7_areaOf_28 : decode cX7_areaOf 28 = .ok (.goto 4, 3) := by decide +kernel
theorem dX7_areaOf_31 : decode cX7_areaOf 31 = .ok (.iconst 0, 1) := by decide +kernel
theorem dX7_areaOf_32 : decode cX7_areaOf 32 = .ok (.iadd, 1) := by decide +kernel
theorem dX7_areaOf_33 : decode cX7_areaOf 33 = .ok (.istore_n 2, 1) := by decide +kernel
theorem dX7_areaOf_34 : decode cX7_areaOf 34 = .ok (.iinc 3 1, 3) := by decide +kernel
theorem dX7_areaOf_37 : decode cX7_areaOf 37 = .ok (.goto (-33), 3) := by decide +kernel
theorem dX7_areaOf_40 : decode cX7_areaOf 40 = .ok (.iload_n 2, 1) := by decide +kernel
theorem dX7_areaOf_41 : decode cX7_areaOf 41 = .ok (.ireturn, 1) := by decide +kernel
theorem dX7_climbs_0 : decode cX7_climbs 0 = .ok (.iconst 0, 1) := by decide +kernel
theorem dX7_climbs_1 : decode cX7_climbs 1 = .ok (.istore_n 1, 1) := by decide +kernel
theorem dX7_climbs_2 : decode cX7_climbs 2 = .ok (.iload_n 1, 1) := by decide +kernel
theorem dX7_climbs_3 : decode cX7_climbs 3 = .ok (.aload_n 0, 1) := by decide +kernel
theorem dX7_climbs_4 : decode cX7_climbs 4 = .ok (.invokevirtual 52, 3) := by decide +kernel
theorem dX7_climbs_7 : decode cX7_climbs 7 = .ok (.if_icmp .ge 54, 3) := by decide +kernel
theorem dX7_climbs_10 : decode cX7_climbs 10 = .ok (.aload_n 0, 1) := by decide +kernel
theorem dX7_climbs_11 : decode cX7_climbs 11 = .ok (.getfield 7, 3) := by decide +kernel
theorem dX7_climbs_14 : decode cX7_climbs 14 = .ok (.sipush 210, 3) := by decide +kernel
theorem dX7_climbs_17 : decode cX7_climbs 17 = .ok (.iload_n 1, 1) := by decide +kernel
theorem dX7_climbs_18 : decode cX7_climbs 18 = .ok (.iadd, 1) := by decide +kernel
theorem dX7_climbs_19 : decode cX7_climbs 19 = .ok (.iaload, 1) := by decide +kernel
theorem dX7_climbs_20 : decode cX7_climbs 20 = .ok (.iconst (-1), 1) := by decide +kernel
theorem dX7_climbs_21 : decode cX7_climbs 21 = .ok (.if_icmp .eq 34, 3) := by decide +kernel
theorem dX7_climbs_24 : decode cX7_climbs 24 = .ok (.iload_n 1, 1) := by decide +kernel
theorem dX7_climbs_25 : decode cX7_climbs 25 = .ok (.istore_n 2, 1) := by decide +kernel
theorem dX7_climbs_26 : decode cX7_climbs 26 = .ok (.aload_n 0, 1) := by decide +kernel
theorem dX7_climbs_27 : decode cX7_climbs 27 = .ok (.iload_n 2, 1) := by decide +kernel
theorem dX7_climbs_28 : decode cX7_climbs 28 = .ok (.invokevirtual 72, 3) := by decide +kernel
theorem dX7_climbs_31 : decode cX7_climbs 31 = .ok (.iload_n 2, 1) := by decide +kernel
theorem dX7_climbs_32 : decode cX7_climbs 32 = .ok (.if_icmp .eq 12, 3) := by decide +kernel
theorem dX7_climbs_35 : decode cX7_climbs 35 = .ok (.aload_n 0, 1) := by decide +kernel
theorem dX7_climbs_36 : decode cX7_climbs 36 = .ok (.iload_n 2, 1) := by decide +kernel
theorem dX7_climbs_37 : decode cX7_climbs 37 = .ok (.invokevirtual 72, 3) := by decide +kernel
theorem dX7_climbs_40 : decode cX7_climbs 40 = .ok (.istore_n 2, 1) := by decide +kernel
theorem dX7_climbs_41 : decode cX7_climbs 41 = .ok (.goto (-15), 3) := by decide +kernel
theorem dX7_climbs_44 : decode cX7_climbs 44 = .ok (.aload_n 0, 1) := by decide +kernel
theorem dX7_climbs_45 : decode cX7_climbs 45 = .ok (.getfield 7, 3) := by decide +kernel
theorem dX7_climbs_48 : decode cX7_climbs 48 = .ok (.sipush 210, 3) := by decide +kernel
theorem dX7_climbs_51 : decode cX7_climbs 51 = .ok (.iload_n 1, 1) := by decide +kernel
theorem dX7_climbs_52 : decode cX7_climbs 52 = .ok (.iadd, 1) := by decide +kernel
theorem dX7_climbs_53 : decode cX7_climbs 53 = .ok (.iload_n 2, 1) := by decide +kernel
theorem dX7_climbs_54 : decode cX7_climbs 54 = .ok (.iastore, 1) := by decide +kernel
theorem dX7_climbs_55 : decode cX7_climbs 55 = .ok (.iinc 1 1, 3) := by decide +kernel
theorem dX7_climbs_58 : decode cX7_climbs 58 = .ok (.goto (-56), 3) := by decide +kernel
theorem dX7_climbs_61 : decode cX7_climbs 61 = .ok (.aload_n 0, 1) := by decide +kernel
theorem dX7_climbs_62 : decode cX7_climbs 62 = .ok (.getfield 7, 3) := by decide +kernel
theorem dX7_climbs_65 : decode cX7_climbs 65 = .ok (.bipush 8, 2) := by decide +kernel
theorem dX7_climbs_67 : decode cX7_climbs 67 = .ok (.iconst 0, 1) := by decide +kernel
theorem dX7_climbs_68 : decode cX7_climbs 68 = .ok (.iastore, 1) := by decide +kernel
theorem dX7_climbs_69 : decode cX7_climbs 69 = .ok (.aload_n 0, 1) := by decide +kernel
theorem dX7_climbs_70 : decode cX7_climbs 70 = .ok (.getfield 7, 3) := by decide +kernel
theorem dX7_climbs_73 : decode cX7_climbs 73 = .ok (.bipush 9, 2) := by decide +kernel
theorem dX7_climbs_75 : decode cX7_climbs 75 = .ok (.iconst 0, 1) := by decide +kernel
theorem dX7_climbs_76 : decode cX7_climbs 76 = .ok (.iastore, 1) := by decide +kernel
theorem dX7_climbs_77 : decode cX7_climbs 77 = .ok (.iconst 0, 1) := by decide +kernel
theorem dX7_climbs_78 : decode cX7_climbs 78 = .ok (.istore_n 1, 1) := by decide +kernel
theorem dX7_climbs_79 : decode cX7_climbs 79 = .ok (.iload_n 1, 1) := by decide +kernel
theorem dX7_climbs_80 : decode cX7_climbs 80 = .ok (.aload_n 0, 1) := by decide +kernel
theorem dX7_climbs_81 : decode cX7_climbs 81 = .ok (.invokevirtual 52, 3) := by decide +kernel
theorem dX7_climbs_84 : decode cX7_climbs 84 = .ok (.if_icmp .ge 48, 3) := by decide +kernel
theorem dX7_climbs_87 : decode cX7_climbs 87 = .ok (.aload_n 0, 1) := by decide +kernel
theorem dX7_climbs_88 : decode cX7_climbs 88 = .ok (.getfield 7, 3) := by decide +kernel
theorem dX7_climbs_91 : decode cX7_climbs 91 = .ok (.sipush 210, 3) := by decide +kernel
theorem dX7_climbs_94 : decode cX7_climbs 94 = .ok (.iload_n 1, 1) := by decide +kernel
theorem dX7_climbs_95 : decode cX7_climbs 95 = .ok (.iadd, 1) := by decide +kernel
theorem dX7_climbs_96 : decode cX7_climbs 96 = .ok (.iaload, 1) := by decide +kernel
theorem dX7_climbs_97 : decode cX7_climbs 97 = .ok (.iload_n 1, 1) := by decide +kernel
theorem dX7_climbs_98 : decode cX7_climbs 98 = .ok (.if_icmp .ne 28, 3) := by decide +kernel
theorem dX7_climbs_101 : decode cX7_climbs 101 = .ok (.aload_n 0, 1) := by decide +kernel
theorem dX7_climbs_102 : decode cX7_climbs 102 = .ok (.iload_n 1, 1) := by decide +kernel
theorem dX7_climbs_103 : decode cX7_climbs 103 = .ok (.invokevirtual 75, 3) := by decide +kernel
theorem dX7_climbs_106 : decode cX7_climbs 106 = .ok (.aload_n 0, 1) := by decide +kernel
theorem dX7_climbs_107 : decode cX7_climbs 107 = .ok (.getfield 7, 3) := by decide +kernel
theorem dX7_climbs_110 : decode cX7_climbs 110 = .ok (.iconst 3, 1) := by decide +kernel
theorem dX7_climbs_111 : decode cX7_climbs 111 = .ok (.iaload, 1) := by decide +kernel
theorem dX7_climbs_112 : decode cX7_climbs 112 = .ok (.if_icmp .le 14, 3) := by decide +kernel
theorem dX7_climbs_115 : decode cX7_climbs 115 = .ok (.aload_n 0, 1) := by decide +kernel
theorem dX7_climbs_116 : decode cX7_climbs 116 = .ok (.getfield 7, 3) := by decide +kernel
theorem dX7_climbs_119 : decode cX7_climbs 119 = .ok (.bipush 9, 2) := by decide +kernel
theorem dX7_climbs_121 : decode cX7_climbs 121 = .ok (.dup2, 1) := by decide +kernel
theorem dX7_climbs_122 : decode cX7_climbs 122 = .ok (.iaload, 1) := by decide +kernel
theorem dX7_climbs_123 : decode cX7_climbs 123 = .ok (.iconst 1, 1) := by decide +kernel
theorem dX7_climbs_124 : decode cX7_climbs 124 = .ok (.iadd, 1) := by decide +kernel
theorem dX7_climbs_125 : decode cX7_climbs 125 = .ok (.iastore, 1) := by decide +kernel
theorem dX7_climbs_126 : decode cX7_climbs 126 = .ok (.iinc 1 1, 3) := by decide +kernel
theorem dX7_climbs_129 : decode cX7_climbs 129 = .ok (.goto (-50), 3) := by decide +kernel
theorem dX7_climbs_132 : decode cX7_climbs 132 = .ok (.iconst (-1), 1) := by decide +kernel
theorem dX7_climbs_133 : decode cX7_climbs 133 = .ok (.istore_n 1, 1) := by decide +kernel
theorem dX7_climbs_134 : decode cX7_climbs 134 = .ok (.iconst 0, 1) := by decide +kernel
theorem dX7_climbs_135 : decode cX7_climbs 135 = .ok (.istore_n 2, 1) := by decide +kernel
theorem dX7_climbs_136 : decode cX7_climbs 136 = .ok (.iload_n 2, 1) := by decide +kernel
theorem dX7_climbs_137 : decode cX7_climbs 137 = .ok (.bipush 6, 2) := by decide +kernel
theorem dX7_climbs_139 : decode cX7_climbs 139 = .ok (.if_icmp .ge 139, 3) := by decide +kernel
theorem dX7_climbs_142 : decode cX7_climbs 142 = .ok (.iconst (-1), 1) := by decide +kernel
theorem dX7_climbs_143 : decode cX7_climbs 143 = .ok (.istore_n 3, 1) := by decide +kernel
theorem dX7_climbs_144 : decode cX7_climbs 144 = .ok (.iconst 0, 1) := by decide +kernel
theorem dX7_climbs_145 : decode cX7_climbs 145 = .ok (.istore 4, 2) := by decide +kernel
theorem dX7_climbs_147 : decode cX7_climbs 147 = .ok (.iload 4, 2) := by decide +kernel
theorem dX7_climbs_149 : decode cX7_climbs 149 = .ok (.aload_n 0, 1) := by decide +kernel
theorem dX7_climbs_150 : decode cX7_climbs 150 = .ok (.invokevirtual 52, 3) := by decide +kernel
theorem dX7_climbs_153 : decode cX7_climbs 153 = .ok (.if_icmp .ge 89, 3) := by decide +kernel
theorem dX7_climbs_156 : decode cX7_climbs 156 = .ok (.aload_n 0, 1) := by decide +kernel
theorem dX7_climbs_157 : decode cX7_climbs 157 = .ok (.getfield 7, 3) := by decide +kernel
theorem dX7_climbs_160 : decode cX7_climbs 160 = .ok (.sipush 210, 3) := by decide +kernel
theorem dX7_climbs_163 : decode cX7_climbs 163 = .ok (.iload 4, 2) := by decide +kernel
theorem dX7_climbs_165 : decode cX7_climbs 165 = .ok (.iadd, 1) := by decide +kernel
theorem dX7_climbs_166 : decode cX7_climbs 166 = .ok (.iaload, 1) := by decide +kernel
theorem dX7_climbs_167 : decode cX7_climbs 167 = .ok (.iload 4, 2) := by decide +kernel
theorem dX7_climbs_169 : decode cX7_climbs 169 = .ok (.if_icmp .ne 37, 3) := by decide +kernel
theorem dX7_climbs_172 : decode cX7_climbs 172 = .ok (.aload_n 0, 1) := by decide +kernel
theorem dX7_climbs_173 : decode cX7_climbs 173 = .ok (.iload 4, 2) := by decide +kernel
theorem dX7_climbs_175 : decode cX7_climbs 175 = .ok (.invokevirtual 75, 3) := by decide +kernel
theorem dX7_climbs_178 : decode cX7_climbs 178 = .ok (.aload_n 0, 1) := by decide +kernel
theorem dX7_climbs_179 : decode cX7_climbs 179 = .ok (.getfield 7, 3) := by decide +kernel
theorem dX7_climbs_182 : decode cX7_climbs 182 = .ok (.iconst 3, 1) := by decide +kernel
theorem dX7_climbs_183 : decode cX7_climbs 183 = .ok (.iaload, 1) := by decide +kernel
theorem dX7_climbs_184 : decode cX7_climbs 184 = .ok (.if_icmp .gt 22, 3) := by decide +kernel
theorem dX7_climbs_187 : decode cX7_climbs 187 = .ok (.iload_n 1, 1) := by decide +kernel
theorem dX7_climbs_188 : decode cX7_climbs 188 = .ok (.iconst (-1), 1) := by decide +kernel
theorem dX7_climbs_189 : decode cX7_climbs 189 = .ok (.if_icmp .eq 13, 3) := by decide +kernel
theorem dX7_climbs_192 : decode cX7_climbs 192 = .ok (.aload_n 0, 1) := by decide +kernel
theorem dX7_climbs_193 : decode cX7_climbs 193 = .ok (.iload_n 1, 1) := by decide +kernel
theorem dX7_climbs_194 : decode cX7_climbs 194 = .ok (.iload 4, 2) := by decide +kernel
theorem dX7_climbs_196 : decode cX7_climbs 196 = .ok (.invokevirtual 65, 3) := by decide +kernel
theorem dX7_climbs_199 : decode cX7_climbs 199 = .ok (.ifCond .eq 7, 3) := by decide +kernel
theorem dX7_climbs_202 : decode cX7_climbs 202 = .ok (.iconst 1, 1) := by decide +kernel
theorem dX7_climbs_203 : decode cX7_climbs 203 = .ok (.goto 4, 3) := by decide +kernel
theorem dX7_climbs_206 : decode cX7_climbs 206 = .ok (.iconst 0, 1) := by decide +kernel
theorem dX7_climbs_207 : decode cX7_climbs 207 = .ok (.istore 5, 2) := by decide +kernel
theorem dX7_climbs_209 : decode cX7_climbs 209 = .ok (.iload 5, 2) := by decide +kernel
theorem dX7_climbs_211 : decode cX7_climbs 211 = .ok (.ifCond .eq 23, 3) := by decide +kernel
theorem dX7_climbs_214 : decode cX7_climbs 214 = .ok (.iload_n 3, 1) := by decide +kernel
theorem dX7_climbs_215 : decode cX7_climbs 215 = .ok (.iconst (-1), 1) := by decide +kernel
theorem dX7_climbs_216 : decode cX7_climbs 216 = .ok (.if_icmp .eq 13, 3) := by decide +kernel
theorem dX7_climbs_219 : decode cX7_climbs 219 = .ok (.aload_n 0, 1) := by decide +kernel
theorem dX7_climbs_220 : decode cX7_climbs 220 = .ok (.iload 4, 2) := by decide +kernel
theorem dX7_climbs_222 : decode cX7_climbs 222 = .ok (.iload_n 3, 1) := by decide +kernel
theorem dX7_climbs_223 : decode cX7_climbs 223 = .ok (.invokevirtual 65, 3) := by decide +kernel
theorem dX7_climbs_226 : decode cX7_climbs 226 = .ok (.ifCond .eq 8, 3) := by decide +kernel
theorem dX7_climbs_229 : decode cX7_climbs 229 = .ok (.iload 4, 2) := by decide +kernel
theorem dX7_climbs_231 : decode cX7_climbs 231 = .ok (.goto 4, 3) := by decide +kernel
theorem dX7_climbs_234 : decode cX7_climbs 234 = .ok (.iload_n 3, 1) := by decide +kernel
theorem dX7_climbs_235 : decode cX7_climbs 235 = .ok (.istore_n 3, 1) := by decide +kernel
theorem dX7_climbs_236 : decode cX7_climbs 236 = .ok (.iinc 4 1, 3) := by decide +kernel
theorem dX7_climbs_239 : decode cX7_climbs 239 = .ok (.goto (-92), 3) := by decide +kernel
theorem dX7_climbs_242 : decode cX7_climbs 242 = .ok (.iload_n 3, 1) := by decide +kernel
theorem dX7_climbs_243 : decode cX7_climbs 243 = .ok (.iconst (-1), 1) := by decide +kernel
theorem dX7_climbs_244 : decode cX7_climbs 244 = .ok (.if_icmp .ne 4, 3) := by decide +kernel
theorem dX7_climbs_247 : decode cX7_climbs 247 = .ok (.return_, 1) := by decide +kernel
theorem dX7_climbs_248 : decode cX7_climbs 248 = .ok (.aload_n 0, 1) := by decide +kernel
theorem dX7_climbs_249 : decode cX7_climbs 249 = .ok (.getfield 7, 3) := by decide +kernel
theorem dX7_climbs_252 : decode cX7_climbs 252 = .ok (.sipush 274, 3) := by decide +kernel
theorem dX7_climbs_255 : decode cX7_climbs 255 = .ok (.iload_n 2, 1) := by decide +kernel
theorem dX7_climbs_256 : decode cX7_climbs 256 = .ok (.iadd, 1) := by decide +kernel
theorem dX7_climbs_257 : decode cX7_climbs 257 = .ok (.iload_n 3, 1) := by decide +kernel
theorem dX7_climbs_258 : decode cX7_climbs 258 = .ok (.iastore, 1) := by decide +kernel
theorem dX7_climbs_259 : decode cX7_climbs 259 = .ok (.aload_n 0, 1) := by decide +kernel
theorem dX7_climbs_260 : decode cX7_climbs 260 = .ok (.getfield 7, 3) := by decide +kernel
theorem dX7_climbs_263 : decode cX7_climbs 263 = .ok (.bipush 8, 2) := by decide +kernel
theorem dX7_climbs_265 : decode cX7_climbs 265 = .ok (.dup2, 1) := by decide +kernel
theorem dX7_climbs_266 : decode cX7_climbs 266 = .ok (.iaload, 1) := by decide +kernel
theorem dX7_climbs_267 : decode cX7_climbs 267 = .ok (.iconst 1, 1) := by decide +kernel
theorem dX7_climbs_268 : decode cX7_climbs 268 = .ok (.iadd, 1) := by decide +kernel
theorem dX7_climbs_269 : decode cX7_climbs 269 = .ok (.iastore, 1) := by decide +kernel
theorem dX7_climbs_270 : decode cX7_climbs 270 = .ok (.iload_n 3, 1) := by decide +kernel
theorem dX7_climbs_271 : decode cX7_climbs 271 = .ok (.istore_n 1, 1) := by decide +kernel
theorem dX7_climbs_272 : decode cX7_climbs 272 = .ok (.iinc 2 1, 3) := by decide +kernel
theorem dX7_climbs_275 : decode cX7_climbs 275 = .ok (.goto (-139), 3) := by decide +kernel
theorem dX7_climbs_278 : decode cX7_climbs 278 = .ok (.return_, 1) := by decide +kernel
theorem dX7_wayOf_0 : decode cX7_wayOf 0 = .ok (.iload_n 1, 1) := by decide +kernel
theorem dX7_wayOf_1 : decode cX7_wayOf 1 = .ok (.aload_n 0, 1) := by decide +kernel
theorem dX7_wayOf_2 : decode cX7_wayOf 2 = .ok (.getfield 7, 3) := by decide +kernel
theorem dX7_wayOf_5 : decode cX7_wayOf 5 = .ok (.iconst 1, 1) := by decide +kernel
theorem dX7_wayOf_6 : decode cX7_wayOf 6 = .ok (.iaload, 1) := by decide +kernel
theorem dX7_wayOf_7 : decode cX7_wayOf 7 = .ok (.idiv, 1) := by decide +kernel
theorem dX7_wayOf_8 : decode cX7_wayOf 8 = .ok (.iload_n 2, 1) := by decide +kernel
theorem dX7_wayOf_9 : decode cX7_wayOf 9 = .ok (.aload_n 0, 1) := by decide +kernel
theorem dX7_wayOf_10 : decode cX7_wayOf 10 = .ok (.getfield 7, 3) := by decide +kernel
theorem dX7_wayOf_13 : decode cX7_wayOf 13 = .ok (.iconst 1, 1) := by decide +kernel
theorem dX7_wayOf_14 : decode cX7_wayOf 14 = .ok (.iaload, 1) := by decide +kernel
theorem dX7_wayOf_15 : decode cX7_wayOf 15 = .ok (.idiv, 1) := by decide +kernel
theorem dX7_wayOf_16 : decode cX7_wayOf 16 = .ok (.isub, 1) := by decide +kernel
theorem dX7_wayOf_17 : decode cX7_wayOf 17 = .ok (.istore_n 3, 1) := by decide +kernel
theorem dX7_wayOf_18 : decode cX7_wayOf 18 = .ok (.iload_n 1, 1) := by decide +kernel
theorem dX7_wayOf_19 : decode cX7_wayOf 19 = .ok (.aload_n 0, 1) := by decide +kernel
theorem dX7_wayOf_20 : decode cX7_wayOf 20 = .ok (.getfield 7, 3) := by decide +kernel
theorem dX7_wayOf_23 : decode cX7_wayOf 23 = .ok (.iconst 1, 1) := by decide +kernel
theorem dX7_wayOf_24 : decode cX7_wayOf 24 = .ok (.iaload, 1) := by decide +kernel
theorem dX7_wayOf_25 : decode cX7_wayOf 25 = .ok (.irem, 1) := by decide +kernel
theorem dX7_wayOf_26 : decode cX7_wayOf 26 = .ok (.iload_n 2, 1) := by decide +kernel
theorem dX7_wayOf_27 : decode cX7_wayOf 27 = .ok (.aload_n 0, 1) := by decide +kernel
theorem dX7_wayOf_28 : decode cX7_wayOf 28 = .ok (.getfield 7, 3) := by decide +kernel
theorem dX7_wayOf_31 : decode cX7_wayOf 31 = .ok (.iconst 1, 1) := by decide +kernel
theorem dX7_wayOf_32 : decode cX7_wayOf 32 = .ok (.iaload, 1) := by decide +kernel
theorem dX7_wayOf_33 : decode cX7_wayOf 33 = .ok (.irem, 1) := by decide +kernel
theorem dX7_wayOf_34 : decode cX7_wayOf 34 = .ok (.isub, 1) := by decide +kernel
theorem dX7_wayOf_35 : decode cX7_wayOf 35 = .ok (.istore 4, 2) := by decide +kernel
theorem dX7_wayOf_37 : decode cX7_wayOf 37 = .ok (.iload_n 3, 1) := by decide +kernel
theorem dX7_wayOf_38 : decode cX7_wayOf 38 = .ok (.ifCond .ge 8, 3) := by decide +kernel
theorem dX7_wayOf_41 : decode cX7_wayOf 41 = .ok (.iload_n 3, 1) := by decide +kernel
theorem dX7_wayOf_42 : decode cX7_wayOf 42 = .ok (.ineg, 1) := by decide +kernel
theorem dX7_wayOf_43 : decode cX7_wayOf 43 = .ok (.goto 4, 3) := by decide +kernel
theorem dX7_wayOf_46 : decode cX7_wayOf 46 = .ok (.iload_n 3, 1) := by decide +kernel
theorem dX7_wayOf_47 : decode cX7_wayOf 47 = .ok (.iload 4, 2) := by decide +kernel
theorem dX7_wayOf_49 : decode cX7_wayOf 49 = .ok (.ifCond .ge 9, 3) := by decide +kernel
theorem dX7_wayOf_52 : decode cX7_wayOf 52 = .ok (.iload 4, 2) := by decide +kernel
theorem dX7_wayOf_54 : decode cX7_wayOf 54 = .ok (.ineg, 1) := by decide +kernel
theorem dX7_wayOf_55 : decode cX7_wayOf 55 = .ok (.goto 5, 3) := by decide +kernel
theorem dX7_wayOf_58 : decode cX7_wayOf 58 = .ok (.iload 4, 2) := by decide +kernel
theorem dX7_wayOf_60 : decode cX7_wayOf 60 = .ok (.iadd, 1) := by decide +kernel
theorem dX7_wayOf_61 : decode cX7_wayOf 61 = .ok (.ireturn, 1) := by decide +kernel
theorem dX7_trackAt_0 : decode cX7_trackAt 0 = .ok (.aload_n 0, 1) := by decide +kernel
theorem dX7_trackAt_1 : decode cX7_trackAt 1 = .ok (.getfield 7, 3) := by decide +kernel
theorem dX7_trackAt_4 : decode cX7_trackAt 4 = .ok (.sipush 280, 3) := by decide +kernel
theorem dX7_trackAt_7 : decode cX7_trackAt 7 = .ok (.bipush 6, 2) := by decide +kernel
theorem dX7_trackAt_9 : decode cX7_trackAt 9 = .ok (.iload_n 1, 1) := by decide +kernel
theorem dX7_trackAt_10 : decode cX7_trackAt 10 = .ok (.imul, 1) := by decide +kernel
theorem dX7_trackAt_11 : decode cX7_trackAt 11 = .ok (.iadd, 1) := by decide +kernel
theorem dX7_trackAt_12 : decode cX7_trackAt 12 = .ok (.iload_n 2, 1) := by decide +kernel
theorem dX7_trackAt_13 : decode cX7_trackAt 13 = .ok (.iadd, 1) := by decide +kernel
theorem dX7_trackAt_14 : decode cX7_trackAt 14 = .ok (.iaload, 1) := by decide +kernel
theorem dX7_trackAt_15 : decode cX7_trackAt 15 = .ok (.ireturn, 1) := by decide +kernel
theorem dX7_costOf_0 : decode cX7_costOf 0 = .ok (.aload_n 0, 1) := by decide +kernel
theorem dX7_costOf_1 : decode cX7_costOf 1 = .ok (.aload_n 0, 1) := by decide +kernel
theorem dX7_costOf_2 : decode cX7_costOf 2 = .ok (.iload_n 1, 1) := by decide +kernel
theorem dX7_costOf_3 : decode cX7_costOf 3 = .ok (.iconst 1, 1) := by decide +kernel
theorem dX7_costOf_4 : decode cX7_costOf 4 = .ok (.invokevirtual 78, 3) := by decide +kernel
theorem dX7_costOf_7 : decode cX7_costOf 7 = .ok (.aload_n 0, 1) := by decide +kernel
theorem dX7_costOf_8 : decode cX7_costOf 8 = .ok (.getfield 7, 3) := by decide +kernel
theorem dX7_costOf_11 : decode cX7_costOf 11 = .ok (.sipush 274, 3) := by decide +kernel
theorem dX7_costOf_14 : decode cX7_costOf 14 = .ok (.iload_n 3, 1) := by decide +kernel
theorem dX7_costOf_15 : decode cX7_costOf 15 = .ok (.iadd, 1) := by decide +kernel
theorem dX7_costOf_16 : decode cX7_costOf 16 = .ok (.iaload, 1) := by decide +kernel
theorem dX7_costOf_17 : decode cX7_costOf 17 = .ok (.invokevirtual 81, 3) := by decide +kernel
theorem dX7_costOf_20 : decode cX7_costOf 20 = .ok (.istore 4, 2) := by decide +kernel
theorem dX7_costOf_22 : decode cX7_costOf 22 = .ok (.iload_n 2, 1) := by decide +kernel
theorem dX7_costOf_23 : decode cX7_costOf 23 = .ok (.iload_n 3, 1) := by decide +kernel
theorem dX7_costOf_24 : decode cX7_costOf 24 = .ok (.invokestatic 56, 3) := by decide +kernel
theorem dX7_costOf_27 : decode cX7_costOf 27 = .ok (.ifCond .ne 14, 3) := by decide +kernel
theorem dX7_costOf_30 : decode cX7_costOf 30 = .ok (.iload 4, 2) := by decide +kernel
theorem dX7_costOf_32 : decode cX7_costOf 32 = .ok (.aload_n 0, 1) := by decide +kernel
theorem dX7_costOf_33 : decode cX7_costOf 33 = .ok (.getfield 7, 3) := by decide +kernel
theorem dX7_costOf_36 : decode cX7_costOf 36 = .ok (.iconst 4, 1) := by decide +kernel
theorem dX7_costOf_37 : decode cX7_costOf 37 = .ok (.iaload, 1) := by decide +kernel
theorem dX7_costOf_38 : decode cX7_costOf 38 = .ok (.if_icmp .le 9, 3) := by decide +kernel
theorem dX7_costOf_41 : decode cX7_costOf 41 = .ok (.sipush 9999, 3) := by decide +kernel
theorem dX7_costOf_44 : decode cX7_costOf 44 = .ok (.goto 23, 3) := by decide +kernel
theorem dX7_costOf_47 : decode cX7_costOf 47 = .ok (.iload 4, 2) := by decide +kernel
theorem dX7_costOf_49 : decode cX7_costOf 49 = .ok (.aload_n 0, 1) := by decide +kernel
theorem dX7_costOf_50 : decode cX7_costOf 50 = .ok (.getfield 13, 3) := by decide +kernel
theorem dX7_costOf_53 : decode cX7_costOf 53 = .ok (.bipush 64, 2) := by decide +kernel
theorem dX7_costOf_55 : decode cX7_costOf 55 = .ok (.iload_n 1, 1) := by decide +kernel
theorem dX7_costOf_56 : decode cX7_costOf 56 = .ok (.iconst 1, 1) := by decide +kernel
theorem dX7_costOf_57 : decode cX7_costOf 57 = .ok (.iadd, 1) := by decide +kernel
theorem dX7_costOf_58 : decode cX7_costOf 58 = .ok (.imul, 1) := by decide +kernel
theorem dX7_costOf_59 : decode cX7_costOf 59 = .ok (.iload_n 2, 1) := by decide +kernel
theorem dX7_costOf_60 : decode cX7_costOf 60 = .ok (.iconst 1, 1) := by decide +kernel
theorem dX7_costOf_61 : decode cX7_costOf 61 = .ok (.iload_n 3, 1) := by decide +kernel
theorem dX7_costOf_62 : decode cX7_costOf 62 = .ok (.ishl, 1) := by decide +kernel
theorem dX7_costOf_63 : decode cX7_costOf 63 = .ok (.ior, 1) := by decide +kernel
theorem dX7_costOf_64 : decode cX7_costOf 64 = .ok (.iadd, 1) := by decide +kernel
theorem dX7_costOf_65 : decode cX7_costOf 65 = .ok (.iaload, 1) := by decide +kernel
theorem dX7_costOf_66 : decode cX7_costOf 66 = .ok (.iadd, 1) := by decide +kernel
theorem dX7_costOf_67 : decode cX7_costOf 67 = .ok (.ireturn, 1) := by decide +kernel
theorem dX7_noneCost_0 : decode cX7_noneCost 0 = .ok (.aload_n 0, 1) := by decide +kernel
theorem dX7_noneCost_1 : decode cX7_noneCost 1 = .ok (.getfield 7, 3) := by decide +kernel
theorem dX7_noneCost_4 : decode cX7_noneCost 4 = .ok (.iconst 4, 1) := by decide +kernel
theorem dX7_noneCost_5 : decode cX7_noneCost 5 = .ok (.iaload, 1) := by decide +kernel
theorem dX7_noneCost_6 : decode cX7_noneCost 6 = .ok (.iconst 1, 1) := by decide +kernel
theorem dX7_noneCost_7 : decode cX7_noneCost 7 = .ok (.iadd, 1) := by decide +kernel
theorem dX7_noneCost_8 : decode cX7_noneCost 8 = .ok (.aload_n 0, 1) := by decide +kernel
theorem dX7_noneCost_9 : decode cX7_noneCost 9 = .ok (.getfield 13, 3) := by decide +kernel
theorem dX7_noneCost_12 : decode cX7_noneCost 12 = .ok (.bipush 64, 2) := by decide +kernel
theorem dX7_noneCost_14 : decode cX7_noneCost 14 = .ok (.iload_n 1, 1) := by decide +kernel
theorem dX7_noneCost_15 : decode cX7_noneCost 15 = .ok (.iconst 1, 1) := by decide +kernel
theorem dX7_noneCost_16 : decode cX7_noneCost 16 = .ok (.iadd, 1) := by decide +kernel
theorem dX7_noneCost_17 : decode cX7_noneCost 17 = .ok (.imul, 1) := by decide +kernel
theorem dX7_noneCost_18 : decode cX7_noneCost 18 = .ok (.iload_n 2, 1) := by decide +kernel
theorem dX7_noneCost_19 : decode cX7_noneCost 19 = .ok (.iadd, 1) := by decide +kernel
theorem dX7_noneCost_20 : decode cX7_noneCost 20 = .ok (.iaload, 1) := by decide +kernel
theorem dX7_noneCost_21 : decode cX7_noneCost 21 = .ok (.iadd, 1) := by decide +kernel
theorem dX7_noneCost_22 : decode cX7_noneCost 22 = .ok (.ireturn, 1) := by decide +kernel
theorem dX7_layPairs_0 : decode cX7_layPairs 0 = .ok (.aload_n 0, 1) := by decide +kernel
theorem dX7_layPairs_1 : decode cX7_layPairs 1 = .ok (.getfield 7, 3) := by decide +kernel
theorem dX7_layPairs_4 : decode cX7_layPairs 4 = .ok (.bipush 10, 2) := by decide +kernel
theorem dX7_layPairs_6 : decode cX7_layPairs 6 = .ok (.iaload, 1) := by decide +kernel
theorem dX7_layPairs_7 : decode cX7_layPairs 7 = .ok (.istore_n 1, 1) := by decide +kernel
theorem dX7_layPairs_8 : decode cX7_layPairs 8 = .ok (.aload_n 0, 1) := by decide +kernel
theorem dX7_layPairs_9 : decode cX7_layPairs 9 = .ok (.getfield 7, 3) := by decide +kernel
theorem dX7_layPairs_12 : decode cX7_layPairs 12 = .ok (.bipush 8, 2) := by decide +kernel
theorem dX7_layPairs_14 : decode cX7_layPairs 14 = .ok (.iaload, 1) := by decide +kernel
theorem dX7_layPairs_15 : decode cX7_layPairs 15 = .ok (.istore_n 2, 1) := by decide +kernel
theorem dX7_layPairs_16 : decode cX7_layPairs 16 = .ok (.iconst 0, 1) := by decide +kernel
theorem dX7_layPairs_17 : decode cX7_layPairs 17 = .ok (.istore_n 3, 1) := by decide +kernel
theorem dX7_layPairs_18 : decode cX7_layPairs 18 = .ok (.iload_n 3, 1) := by decide +kernel
theorem dX7_layPairs_19 : decode cX7_layPairs 19 = .ok (.iconst 1, 1) := by decide +kernel
theorem dX7_layPairs_20 : decode cX7_layPairs 20 = .ok (.iload_n 2, 1) := by decide +kernel
theorem dX7_layPairs_21 : decode cX7_layPairs 21 = .ok (.ishl, 1) := by decide +kernel
theorem dX7_layPairs_22 : decode cX7_layPairs 22 = .ok (.if_icmp .ge 35, 3) := by decide +kernel
theorem dX7_layPairs_25 : decode cX7_layPairs 25 = .ok (.aload_n 0, 1) := by decide +kernel
theorem dX7_layPairs_26 : decode cX7_layPairs 26 = .ok (.getfield 13, 3) := by decide +kernel
theorem dX7_layPairs_29 : decode cX7_layPairs 29 = .ok (.bipush 64, 2) := by decide +kernel
theorem dX7_layPairs_31 : decode cX7_layPairs 31 = .ok (.iload_n 1, 1) := by decide +kernel
theorem dX7_layPairs_32 : decode cX7_layPairs 32 = .ok (.imul, 1) := by decide +kernel
theorem dX7_layPairs_33 : decode cX7_layPairs 33 = .ok (.iload_n 3, 1) := by decide +kernel
theorem dX7_layPairs_34 : decode cX7_layPairs 34 = .ok (.iadd, 1) := by decide +kernel
theorem dX7_layPairs_35 : decode cX7_layPairs 35 = .ok (.aload_n 0, 1) := by decide +kernel
theorem dX7_layPairs_36 : decode cX7_layPairs 36 = .ok (.getfield 7, 3) := by decide +kernel
theorem dX7_layPairs_39 : decode cX7_layPairs 39 = .ok (.iconst 4, 1) := by decide +kernel
theorem dX7_layPairs_40 : decode cX7_layPairs 40 = .ok (.iaload, 1) := by decide +kernel
theorem dX7_layPairs_41 : decode cX7_layPairs 41 = .ok (.iconst 1, 1) := by decide +kernel
theorem dX7_layPairs_42 : decode cX7_layPairs 42 = .ok (.iadd, 1) := by decide +kernel
theorem dX7_layPairs_43 : decode cX7_layPairs 43 = .ok (.iload_n 2, 1) := by decide +kernel
theorem dX7_layPairs_44 : decode cX7_layPairs 44 = .ok (.iload_n 3, 1) := by decide +kernel
theorem dX7_layPairs_45 : decode cX7_layPairs 45 = .ok (.invokestatic 84, 3) := by decide +kernel
theorem dX7_layPairs_48 : decode cX7_layPairs 48 = .ok (.isub, 1) := by decide +kernel
theorem dX7_layPairs_49 : decode cX7_layPairs 49 = .ok (.imul, 1) := by decide +kernel
theorem dX7_layPairs_50 : decode cX7_layPairs 50 = .ok (.iastore, 1) := by decide +kernel
theorem dX7_layPairs_51 : decode cX7_layPairs 51 = .ok (.iinc 3 1, 3) := by decide +kernel
theorem dX7_layPairs_54 : decode cX7_layPairs 54 = .ok (.goto (-36), 3) := by decide +kernel
theorem dX7_layPairs_57 : decode cX7_layPairs 57 = .ok (.iload_n 1, 1) := by decide +kernel
theorem dX7_layPairs_58 : decode cX7_layPairs 58 = .ok (.iconst 1, 1) := by decide +kernel
theorem dX7_layPairs_59 : decode cX7_layPairs 59 = .ok (.isub, 1) := by decide +kernel
theorem dX7_layPairs_60 : decode cX7_layPairs 60 = .ok (.istore_n 3, 1) := by decide +kernel
theorem dX7_layPairs_61 : decode cX7_layPairs 61 = .ok (.iload_n 3, 1) := by decide +kernel
theorem dX7_layPairs_62 : decode cX7_layPairs 62 = .ok (.ifCond .lt 94, 3) := by decide +kernel
theorem dX7_layPairs_65 : decode cX7_layPairs 65 = .ok (.iconst 0, 1) := by decide +kernel
theorem dX7_layPairs_66 : decode cX7_layPairs 66 = .ok (.istore 4, 2) := by decide +kernel
theorem dX7_layPairs_68 : decode cX7_layPairs 68 = .ok (.iload 4, 2) := by decide +kernel
theorem dX7_layPairs_70 : decode cX7_layPairs 70 = .ok (.iconst 1, 1) := by decide +kernel
theorem dX7_layPairs_71 : decode cX7_layPairs 71 = .ok (.iload_n 2, 1) := by decide +kernel
theorem dX7_layPairs_72 : decode cX7_layPairs 72 = .ok (.ishl, 1) := by decide +kernel
theorem dX7_layPairs_73 : decode cX7_layPairs 73 = .ok (.if_icmp .ge 77, 3) := by decide +kernel
theorem dX7_layPairs_76 : decode cX7_layPairs 76 = .ok (.aload_n 0, 1) := by decide +kernel
theorem dX7_layPairs_77 : decode cX7_layPairs 77 = .ok (.iload_n 3, 1) := by decide +kernel
theorem dX7_layPairs_78 : decode cX7_layPairs 78 = .ok (.iload 4, 2) := by decide +kernel
theorem dX7_layPairs_80 : decode cX7_layPairs 80 = .ok (.invokevirtual 87, 3) := by decide +kernel
theorem dX7_layPairs_83 : decode cX7_layPairs 83 = .ok (.istore 5, 2) := by decide +kernel
theorem dX7_layPairs_85 : decode cX7_layPairs 85 = .ok (.iconst 0, 1) := by decide +kernel
theorem dX7_layPairs_86 : decode cX7_layPairs 86 = .ok (.istore 6, 2) := by decide +kernel
theorem dX7_layPairs_88 : decode cX7_layPairs 88 = .ok (.iload 6, 2) := by decide +kernel
theorem dX7_layPairs_90 : decode cX7_layPairs 90 = .ok (.iload_n 2, 1) := by decide +kernel
theorem dX7_layPairs_91 : decode cX7_layPairs 91 = .ok (.if_icmp .ge 39, 3) := by decide +kernel
theorem dX7_layPairs_94 : decode cX7_layPairs 94 = .ok (.aload_n 0, 1) := by decide +kernel
theorem dX7_layPairs_95 : decode cX7_layPairs 95 = .ok (.iload_n 3, 1) := by decide +kernel
theorem dX7_layPairs_96 : decode cX7_layPairs 96 = .ok (.iload 4, 2) := by decide +kernel
theorem dX7_layPairs_98 : decode cX7_layPairs 98 = .ok (.iload 6, 2) := by decide +kernel
theorem dX7_layPairs_100 : decode cX7_layPairs 100 = .ok (.invokevirtual 90, 3) := by decide +kernel
theorem dX7_layPairs_103 : decode cX7_layPairs 103 = .ok (.iload 5, 2) := by decide +kernel
theorem dX7_layPairs_105 : decode cX7_layPairs 105 = .ok (.if_icmp .ge 15, 3) := by decide +kernel
theorem dX7_layPairs_108 : decode cX7_layPairs 108 = .ok (.aload_n 0, 1) := by decide +kernel
theorem dX7_layPairs_109 : decode cX7_layPairs 109 = .ok (.iload_n 3, 1) := by decide +kernel
theorem dX7_layPairs_110 : decode cX7_layPairs 110 = .ok (.iload 4, 2) := by decide +kernel
theorem dX7_layPairs_112 : decode cX7_layPairs 112 = .ok (.iload 6, 2) := by decide +kernel
theorem dX7_layPairs_114 : decode cX7_layPairs 114 = .ok (.invokevirtual 90, 3) := by decide +kernel
theorem dX7_layPairs_117 : decode cX7_layPairs 117 = .ok (.goto 5, 3) := by decide +kernel
theorem dX7_layPairs_120 : decode cX7_layPairs 120 = .ok (.iload 5, 2) := by decide +kernel
theorem dX7_layPairs_122 : decode cX7_layPairs 122 = .ok (.istore 5, 2) := by decide +kernel
theorem dX7_layPairs_124 : decode cX7_layPairs 124 = .ok (.iinc 6 1, 3) := by decide +kernel
theorem dX7_layPairs_127 : decode cX7_layPairs 127 = .ok (.goto (-39), 3) := by decide +kernel
theorem dX7_layPairs_130 : decode cX7_layPairs 130 = .ok (.aload_n 0, 1) := by decide +kernel
theorem dX7_layPairs_131 : decode cX7_layPairs 131 = .ok (.getfield 13, 3) := by decide +kernel
theorem dX7_layPairs_134 : decode cX7_layPairs 134 = .ok (.bipush 64, 2) := by decide +kernel
theorem dX7_layPairs_136 : decode cX7_layPairs 136 = .ok (.iload_n 3, 1) := by decide +kernel
theorem dX7_layPairs_137 : decode cX7_layPairs 137 = .ok (.imul, 1) := by decide +kernel
theorem dX7_layPairs_138 : decode cX7_layPairs 138 = .ok (.iload 4, 2) := by decide +kernel
theorem dX7_layPairs_140 : decode cX7_layPairs 140 = .ok (.iadd, 1) := by decide +kernel
theorem dX7_layPairs_141 : decode cX7_layPairs 141 = .ok (.iload 5, 2) := by decide +kernel
theorem dX7_layPairs_143 : decode cX7_layPairs 143 = .ok (.iastore, 1) := by decide +kernel
theorem dX7_layPairs_144 : decode cX7_layPairs 144 = .ok (.iinc 4 1, 3) := by decide +kernel
theorem dX7_layPairs_147 : decode cX7_layPairs 147 = .ok (.goto (-79), 3) := by decide +kernel
theorem dX7_layPairs_150 : decode cX7_layPairs 150 = .ok (.iinc 3 (-1), 3) := by decide +kernel
theorem dX7_layPairs_153 : decode cX7_layPairs 153 = .ok (.goto (-92), 3) := by decide +kernel
theorem dX7_layPairs_156 : decode cX7_layPairs 156 = .ok (.iconst 0, 1) := by decide +kernel
theorem dX7_layPairs_157 : decode cX7_layPairs 157 = .ok (.istore_n 3, 1) := by decide +kernel
theorem dX7_layPairs_158 : decode cX7_layPairs 158 = .ok (.iconst 0, 1) := by decide +kernel
theorem dX7_layPairs_159 : decode cX7_layPairs 159 = .ok (.istore 4, 2) := by decide +kernel
theorem dX7_layPairs_161 : decode cX7_layPairs 161 = .ok (.iload 4, 2) := by decide +kernel
theorem dX7_layPairs_163 : decode cX7_layPairs 163 = .ok (.iload_n 1, 1) := by decide +kernel
theorem dX7_layPairs_164 : decode cX7_layPairs 164 = .ok (.if_icmp .ge 103, 3) := by decide +kernel
theorem dX7_layPairs_167 : decode cX7_layPairs 167 = .ok (.aload_n 0, 1) := by decide +kernel
theorem dX7_layPairs_168 : decode cX7_layPairs 168 = .ok (.getfield 16, 3) := by decide +kernel
theorem dX7_layPairs_171 : decode cX7_layPairs 171 = .ok (.iload 4, 2) := by decide +kernel
theorem dX7_layPairs_173 : decode cX7_layPairs 173 = .ok (.iconst (-1), 1) := by decide +kernel
theorem dX7_layPairs_174 : decode cX7_layPairs 174 = .ok (.iastore, 1) := by decide +kernel
theorem dX7_layPairs_175 : decode cX7_layPairs 175 = .ok (.iload_n 2, 1) := by decide +kernel
theorem dX7_layPairs_176 : decode cX7_layPairs 176 = .ok (.iconst 1, 1) := by decide +kernel
theorem dX7_layPairs_177 : decode cX7_layPairs 177 = .ok (.isub, 1) := by decide +kernel
theorem dX7_layPairs_178 : decode cX7_layPairs 178 = .ok (.istore 5, 2) := by decide +kernel
theorem dX7_layPairs_180 : decode cX7_layPairs 180 = .ok (.iload 5, 2) := by decide +kernel
theorem dX7_layPairs_182 : decode cX7_layPairs 182 = .ok (.ifCond .lt 52, 3) := by decide +kernel
theorem dX7_layPairs_185 : decode cX7_layPairs 185 = .ok (.aload_n 0, 1) := by decide +kernel
theorem dX7_layPairs_186 : decode cX7_layPairs 186 = .ok (.getfield 16, 3) := by decide +kernel
theorem dX7_layPairs_189 : decode cX7_layPairs 189 = .ok (.iload 4, 2) := by decide +kernel
theorem dX7_layPairs_191 : decode cX7_layPairs 191 = .ok (.aload_n 0, 1) := by decide +kernel
theorem dX7_layPairs_192 : decode cX7_layPairs 192 = .ok (.iload 4, 2) := by decide +kernel
theorem dX7_layPairs_194 : decode cX7_layPairs 194 = .ok (.iload_n 3, 1) := by decide +kernel
theorem dX7_layPairs_195 : decode cX7_layPairs 195 = .ok (.iload 5, 2) := by decide +kernel
theorem dX7_layPairs_197 : decode cX7_layPairs 197 = .ok (.invokevirtual 90, 3) := by decide +kernel
theorem dX7_layPairs_200 : decode cX7_layPairs 200 = .ok (.aload_n 0, 1) := by decide +kernel
theorem dX7_layPairs_201 : decode cX7_layPairs 201 = .ok (.getfield 13, 3) := by decide +kernel
theorem dX7_layPairs_204 : decode cX7_layPairs 204 = .ok (.bipush 64, 2) := by decide +kernel
theorem dX7_layPairs_206 : decode cX7_layPairs 206 = .ok (.iload 4, 2) := by decide +kernel
theorem dX7_layPairs_208 : decode cX7_layPairs 208 = .ok (.imul, 1) := by decide +kernel
theorem dX7_layPairs_209 : decode cX7_layPairs 209 = .ok (.iload_n 3, 1) := by decide +kernel
theorem dX7_layPairs_210 : decode cX7_layPairs 210 = .ok (.iadd, 1) := by decide +kernel
theorem dX7_layPairs_211 : decode cX7_layPairs 211 = .ok (.iaload, 1) := by decide +kernel
theorem dX7_layPairs_212 : decode cX7_layPairs 212 = .ok (.if_icmp .ne 8, 3) := by decide +kernel
theorem dX7_layPairs_215 : decode cX7_layPairs 215 = .ok (.iload 5, 2) := by decide +kernel
theorem dX7_layPairs_217 : decode cX7_layPairs 217 = .ok (.goto 10, 3) := by decide +kernel
theorem dX7_layPairs_220 : decode cX7_layPairs 220 = .ok (.aload_n 0, 1) := by decide +kernel
theorem dX7_layPairs_221 : decode cX7_layPairs 221 = .ok (.getfield 16, 3) := by decide +kernel
theorem dX7_layPairs_224 : decode cX7_layPairs 224 = .ok (.iload 4, 2) := by decide +kernel
theorem dX7_layPairs_226 : decode cX7_layPairs 226 = .ok (.iaload, 1) := by decide +kernel
theorem dX7_layPairs_227 : decode cX7_layPairs 227 = .ok (.iastore, 1) := by decide +kernel
theorem dX7_layPairs_228 : decode cX7_layPairs 228 = .ok (.iinc 5 (-1), 3) := by decide +kernel
theorem dX7_layPairs_231 : decode cX7_layPairs 231 = .ok (.goto (-51), 3) := by decide +kernel
theorem dX7_layPairs_234 : decode cX7_layPairs 234 = .ok (.iload_n 3, 1) := by decide +kernel
theorem dX7_layPairs_235 : decode cX7_layPairs 235 = .ok (.aload_n 0, 1) := by decide +kernel
theorem dX7_layPairs_236 : decode cX7_layPairs 236 = .ok (.getfield 16, 3) := by decide +kernel
theorem dX7_layPairs_239 : decode cX7_layPairs 239 = .ok (.iload 4, 2) := by decide +kernel
theorem dX7_layPairs_241 : decode cX7_layPairs 241 = .ok (.iaload, 1) := by decide +kernel
theorem dX7_layPairs_242 : decode cX7_layPairs 242 = .ok (.iconst (-1), 1) := by decide +kernel
theorem dX7_layPairs_243 : decode cX7_layPairs 243 = .ok (.if_icmp .ne 7, 3) := by decide +kernel
theorem dX7_layPairs_246 : decode cX7_layPairs 246 = .ok (.iconst 0, 1) := by decide +kernel
theorem dX7_layPairs_247 : decode cX7_layPairs 247 = .ok (.goto 12, 3) := by decide +kernel
theorem dX7_layPairs_250 : decode cX7_layPairs 250 = .ok (.iconst 1, 1) := by decide +kernel
theorem dX7_layPairs_251 : decode cX7_layPairs 251 = .ok (.aload_n 0, 1) := by decide +kernel
theorem dX7_layPairs_252 : decode cX7_layPairs 252 = .ok (.getfield 16, 3) := by decide +kernel
theorem dX7_layPairs_255 : decode cX7_layPairs 255 = .ok (.iload 4, 2) := by decide +kernel
theorem dX7_layPairs_257 : decode cX7_layPairs 257 = .ok (.iaload, 1) := by decide +kernel
theorem dX7_layPairs_258 : decode cX7_layPairs 258 = .ok (.ishl, 1) := by decide +kernel
theorem dX7_layPairs_259 : decode cX7_layPairs 259 = .ok (.ior, 1) := by decide +kernel
theorem dX7_layPairs_260 : decode cX7_layPairs 260 = .ok (.istore_n 3, 1) := by decide +kernel
theorem dX7_layPairs_261 : decode cX7_layPairs 261 = .ok (.iinc 4 1, 3) := by decide +kernel
theorem dX7_layPairs_264 : decode cX7_layPairs 264 = .ok (.goto (-103), 3) := by decide +kernel
theorem dX7_layPairs_267 : decode cX7_layPairs 267 = .ok (.return_, 1) := by decide +kernel
theorem dX7_follows_0 : decode cX7_follows 0 = .ok (.aload_n 0, 1) := by decide +kernel
theorem dX7_follows_1 : decode cX7_follows 1 = .ok (.invokevirtual 93, 3) := by decide +kernel
theorem dX7_follows_4 : decode cX7_follows 4 = .ok (.iconst 0, 1) := by decide +kernel
theorem dX7_follows_5 : decode cX7_follows 5 = .ok (.istore_n 1, 1) := by decide +kernel
theorem dX7_follows_6 : decode cX7_follows 6 = .ok (.iconst 0, 1) := by decide +kernel
theorem dX7_follows_7 : decode cX7_follows 7 = .ok (.istore_n 2, 1) := by decide +kernel
theorem dX7_follows_8 : decode cX7_follows 8 = .ok (.iconst 0, 1) := by decide +kernel
theorem dX7_follows_9 : decode cX7_follows 9 = .ok (.istore_n 3, 1) := by decide +kernel
theorem dX7_follows_10 : decode cX7_follows 10 = .ok (.iload_n 3, 1) := by decide +kernel
theorem dX7_follows_11 : decode cX7_follows 11 = .ok (.aload_n 0, 1) := by decide +kernel
theorem dX7_follows_12 : decode cX7_follows 12 = .ok (.getfield 7, 3) := by decide +kernel
theorem dX7_follows_15 : decode cX7_follows 15 = .ok (.bipush 10, 2) := by decide +kernel
theorem dX7_follows_17 : decode cX7_follows 17 = .ok (.iaload, 1) := by decide +kernel
theorem dX7_follows_18 : decode cX7_follows 18 = .ok (.if_icmp .ge 253, 3) := by decide +kernel
theorem dX7_follows_21 : decode cX7_follows 21 = .ok (.sipush 280, 3) := by decide +kernel
theorem dX7_follows_24 : decode cX7_follows 24 = .ok (.bipush 6, 2) := by decide +kernel
theorem dX7_follows_26 : decode cX7_follows 26 = .ok (.iload_n 3, 1) := by decide +kernel
theorem dX7_follows_27 : decode cX7_follows 27 = .ok (.imul, 1) := by decide +kernel
theorem dX7_follows_28 : decode cX7_follows 28 = .ok (.iadd, 1) := by decide +kernel
theorem dX7_follows_29 : decode cX7_follows 29 = .ok (.istore 4, 2) := by decide +kernel
theorem dX7_follows_31 : decode cX7_follows 31 = .ok (.aload_n 0, 1) := by decide +kernel
theorem dX7_follows_32 : decode cX7_follows 32 = .ok (.getfield 16, 3) := by decide +kernel
theorem dX7_follows_35 : decode cX7_follows 35 = .ok (.iload_n 3, 1) := by decide +kernel
theorem dX7_follows_36 : decode cX7_follows 36 = .ok (.iaload, 1) := by decide +kernel
theorem dX7_follows_37 : decode cX7_follows 37 = .ok (.iconst (-1), 1) := by decide +kernel
theorem dX7_follows_38 : decode cX7_follows 38 = .ok (.if_icmp .eq 95, 3) := by decide +kernel
theorem dX7_follows_41 : decode cX7_follows 41 = .ok (.aload_n 0, 1) := by decide +kernel
theorem dX7_follows_42 : decode cX7_follows 42 = .ok (.getfield 7, 3) := by decide +kernel
theorem dX7_follows_45 : decode cX7_follows 45 = .ok (.sipush 274, 3) := by decide +kernel
theorem dX7_follows_48 : decode cX7_follows 48 = .ok (.aload_n 0, 1) := by decide +kernel
theorem dX7_follows_49 : decode cX7_follows 49 = .ok (.getfield 16, 3) := by decide +kernel
theorem dX7_follows_52 : decode cX7_follows 52 = .ok (.iload_n 3, 1) := by decide +kernel
theorem dX7_follows_53 : decode cX7_follows 53 = .ok (.iaload, 1) := by decide +kernel
theorem dX7_follows_54 : decode cX7_follows 54 = .ok (.iadd, 1) := by decide +kernel
theorem dX7_follows_55 : decode cX7_follows 55 = .ok (.iaload, 1) := by decide +kernel
theorem dX7_follows_56 : decode cX7_follows 56 = .ok (.istore 5, 2) := by decide +kernel
theorem dX7_follows_58 : decode cX7_follows 58 = .ok (.aload_n 0, 1) := by decide +kernel
theorem dX7_follows_59 : decode cX7_follows 59 = .ok (.getfield 7, 3) := by decide +kernel
theorem dX7_follows_62 : decode cX7_follows 62 = .ok (.iload 4, 2) := by decide +kernel
theorem dX7_follows_64 : decode cX7_follows 64 = .ok (.iconst 4, 1) := by decide +kernel
theorem dX7_follows_65 : decode cX7_follows 65 = .ok (.iadd, 1) := by decide +kernel
theorem dX7_follows_66 : decode cX7_follows 66 = .ok (.dup2, 1) := by decide +kernel
theorem dX7_follows_67 : decode cX7_follows 67 = .ok (.iaload, 1) := by decide +kernel
theorem dX7_follows_68 : decode cX7_follows 68 = .ok (.aload_n 0, 1) := by decide +kernel
theorem dX7_follows_69 : decode cX7_follows 69 = .ok (.aload_n 0, 1) := by decide +kernel
theorem dX7_follows_70 : decode cX7_follows 70 = .ok (.getfield 7, 3) := by decide +kernel
theorem dX7_follows_73 : decode cX7_follows 73 = .ok (.iload 4, 2) := by decide +kernel
theorem dX7_follows_75 : decode cX7_follows 75 = .ok (.iconst 1, 1) := by decide +kernel
theorem dX7_follows_76 : decode cX7_follows 76 = .ok (.iadd, 1) := by decide +kernel
theorem dX7_follows_77 : decode cX7_follows 77 = .ok (.iaload, 1) := by decide +kernel
theorem dX7_follows_78 : decode cX7_follows 78 = .ok (.iload 5, 2) := by decide +kernel
theorem dX7_follows_80 : decode cX7_follows 80 = .ok (.invokevirtual 81, 3) := by decide +kernel
theorem dX7_follows_83 : decode cX7_follows 83 = .ok (.iadd, 1) := by decide +kernel
theorem dX7_follows_84 : decode cX7_follows 84 = .ok (.iastore, 1) := by decide +kernel
theorem dX7_follows_85 : decode cX7_follows 85 = .ok (.aload_n 0, 1) := by decide +kernel
theorem dX7_follows_86 : decode cX7_follows 86 = .ok (.getfield 7, 3) := by decide +kernel
theorem dX7_follows_89 : decode cX7_follows 89 = .ok (.iload 4, 2) := by decide +kernel
theorem dX7_follows_91 : decode cX7_follows 91 = .ok (.iconst 1, 1) := by decide +kernel
theorem dX7_follows_92 : decode cX7_follows 92 = .ok (.iadd, 1) := by decide +kernel
theorem dX7_follows_93 : decode cX7_follows 93 = .ok (.iload 5, 2) := by decide +kernel
theorem dX7_follows_95 : decode cX7_follows 95 = .ok (.iastore, 1) := by decide +kernel
theorem dX7_follows_96 : decode cX7_follows 96 = .ok (.aload_n 0, 1) := by decide +kernel
theorem dX7_follows_97 : decode cX7_follows 97 = .ok (.getfield 7, 3) := by decide +kernel
theorem dX7_follows_100 : decode cX7_follows 100 = .ok (.iload 4, 2) := by decide +kernel
theorem dX7_follows_102 : decode cX7_follows 102 = .ok (.iconst 2, 1) := by decide +kernel
theorem dX7_follows_103 : decode cX7_follows 103 = .ok (.iadd, 1) := by decide +kernel
theorem dX7_follows_104 : decode cX7_follows 104 = .ok (.dup2, 1) := by decide +kernel
theorem dX7_follows_105 : decode cX7_follows 105 = .ok (.iaload, 1) := by decide +kernel
theorem dX7_follows_106 : decode cX7_follows 106 = .ok (.iconst 1, 1) := by decide +kernel
theorem dX7_follows_107 : decode cX7_follows 107 = .ok (.iadd, 1) := by decide +kernel
theorem dX7_follows_108 : decode cX7_follows 108 = .ok (.iastore, 1) := by decide +kernel
theorem dX7_follows_109 : decode cX7_follows 109 = .ok (.aload_n 0, 1) := by decide +kernel
theorem dX7_follows_110 : decode cX7_follows 110 = .ok (.getfield 7, 3) := by decide +kernel
theorem dX7_follows_113 : decode cX7_follows 113 = .ok (.iload 4, 2) := by decide +kernel
theorem dX7_follows_115 : decode cX7_follows 115 = .ok (.iconst 3, 1) := by decide +kernel
theorem dX7_follows_116 : decode cX7_follows 116 = .ok (.iadd, 1) := by decide +kernel
theorem dX7_follows_117 : decode cX7_follows 117 = .ok (.iconst 0, 1) := by decide +kernel
theorem dX7_follows_118 : decode cX7_follows 118 = .ok (.iastore, 1) := by decide +kernel
theorem dX7_follows_119 : decode cX7_follows 119 = .ok (.iload_n 1, 1) := by decide +kernel
theorem dX7_follows_120 : decode cX7_follows 120 = .ok (.iconst 1, 1) := by decide +kernel
theorem dX7_follows_121 : decode cX7_follows 121 = .ok (.aload_n 0, 1) := by decide +kernel
theorem dX7_follows_122 : decode cX7_follows 122 = .ok (.getfield 16, 3) := by decide +kernel
theorem dX7_follows_125 : decode cX7_follows 125 = .ok (.iload_n 3, 1) := by decide +kernel
theorem dX7_follows_126 : decode cX7_follows 126 = .ok (.iaload, 1) := by decide +kernel
theorem dX7_follows_127 : decode cX7_follows 127 = .ok (.ishl, 1) := by decide +kernel
theorem dX7_follows_128 : decode cX7_follows 128 = .ok (.ior, 1) := by decide +kernel
theorem dX7_follows_129 : decode cX7_follows 129 = .ok (.istore_n 1, 1) := by decide +kernel
theorem dX7_follows_130 : decode cX7_follows 130 = .ok (.goto 16, 3) := by decide +kernel
theorem dX7_follows_133 : decode cX7_follows 133 = .ok (.aload_n 0, 1) := by decide +kernel
theorem dX7_follows_134 : decode cX7_follows 134 = .ok (.getfield 7, 3) := by decide +kernel
theorem dX7_follows_137 : decode cX7_follows 137 = .ok (.iload 4, 2) := by decide +kernel
theorem dX7_follows_139 : decode cX7_follows 139 = .ok (.iconst 3, 1) := by decide +kernel
theorem dX7_follows_140 : decode cX7_follows 140 = .ok (.iadd, 1) := by decide +kernel
theorem dX7_follows_141 : decode cX7_follows 141 = .ok (.dup2, 1) := by decide +kernel
theorem dX7_follows_142 : decode cX7_follows 142 = .ok (.iaload, 1) := by decide +kernel
theorem dX7_follows_143 : decode cX7_follows 143 = .ok (.iconst 1, 1) := by decide +kernel
theorem dX7_follows_144 : decode cX7_follows 144 = .ok (.iadd, 1) := by decide +kernel
theorem dX7_follows_145 : decode cX7_follows 145 = .ok (.iastore, 1) := by decide +kernel
theorem dX7_follows_146 : decode cX7_follows 146 = .ok (.aload_n 0, 1) := by decide +kernel
theorem dX7_follows_147 : decode cX7_follows 147 = .ok (.getfield 7, 3) := by decide +kernel
theorem dX7_follows_150 : decode cX7_follows 150 = .ok (.iload 4, 2) := by decide +kernel
theorem dX7_follows_152 : decode cX7_follows 152 = .ok (.iconst 3, 1) := by decide +kernel
theorem dX7_follows_153 : decode cX7_follows 153 = .ok (.iadd, 1) := by decide +kernel
theorem dX7_follows_154 : decode cX7_follows 154 = .ok (.iaload, 1) := by decide +kernel
theorem dX7_follows_155 : decode cX7_follows 155 = .ok (.aload_n 0, 1) := by decide +kernel
theorem dX7_follows_156 : decode cX7_follows 156 = .ok (.getfield 7, 3) := by decide +kernel
theorem dX7_follows_159 : decode cX7_follows 159 = .ok (.iconst 5, 1) := by decide +kernel
theorem dX7_follows_160 : decode cX7_follows 160 = .ok (.iaload, 1) := by decide +kernel
theorem dX7_follows_161 : decode cX7_follows 161 = .ok (.if_icmp .le 60, 3) := by decide +kernel
theorem dX7_follows_164 : decode cX7_follows 164 = .ok (.aload_n 0, 1) := by decide +kernel
theorem dX7_follows_165 : decode cX7_follows 165 = .ok (.getfield 7, 3) := by decide +kernel
theorem dX7_follows_168 : decode cX7_follows 168 = .ok (.iload 4, 2) := by decide +kernel
theorem dX7_follows_170 : decode cX7_follows 170 = .ok (.iconst 2, 1) := by decide +kernel
theorem dX7_follows_171 : decode cX7_follows 171 = .ok (.iadd, 1) := by decide +kernel
theorem dX7_follows_172 : decode cX7_follows 172 = .ok (.iaload, 1) := by decide +kernel
theorem dX7_follows_173 : decode cX7_follows 173 = .ok (.iconst 3, 1) := by decide +kernel
theorem dX7_follows_174 : decode cX7_follows 174 = .ok (.if_icmp .gt 20, 3) := by decide +kernel
theorem dX7_follows_177 : decode cX7_follows 177 = .ok (.aload_n 0, 1) := by decide +kernel
theorem dX7_follows_178 : decode cX7_follows 178 = .ok (.getfield 7, 3) := by decide +kernel
theorem dX7_follows_181 : decode cX7_follows 181 = .ok (.iload 4, 2) := by decide +kernel
theorem dX7_follows_183 : decode cX7_follows 183 = .ok (.iconst 4, 1) := by decide +kernel
theorem dX7_follows_184 : decode cX7_follows 184 = .ok (.iadd, 1) := by decide +kernel
theorem dX7_follows_185 : decode cX7_follows 185 = .ok (.iaload, 1) := by decide +kernel
theorem dX7_follows_186 : decode cX7_follows 186 = .ok (.iconst 1, 1) := by decide +kernel
theorem dX7_follows_187 : decode cX7_follows 187 = .ok (.if_icmp .gt 7, 3) := by decide +kernel
theorem dX7_follows_190 : decode cX7_follows 190 = .ok (.iconst 1, 1) := by decide +kernel
theorem dX7_follows_191 : decode cX7_follows 191 = .ok (.goto 4, 3) := by decide +kernel
theorem dX7_follows_194 : decode cX7_follows 194 = .ok (.iconst 0, 1) := by decide +kernel
theorem dX7_follows_195 : decode cX7_follows 195 = .ok (.istore 5, 2) := by decide +kernel
theorem dX7_follows_197 : decode cX7_follows 197 = .ok (.aload_n 0, 1) := by decide +kernel
theorem dX7_follows_198 : decode cX7_follows 198 = .ok (.getfield 7, 3) := by decide +kernel
theorem dX7_follows_201 : decode cX7_follows 201 = .ok (.iload 5, 2) := by decide +kernel
theorem dX7_follows_203 : decode cX7_follows 203 = .ok (.ifCond .eq 8, 3) := by decide +kernel
theorem dX7_follows_206 : decode cX7_follows 206 = .ok (.bipush 11, 2) := by decide +kernel
theorem dX7_follows_208 : decode cX7_follows 208 = .ok (.goto 5, 3) := by decide +kernel
theorem dX7_follows_211 : decode cX7_follows 211 = .ok (.bipush 12, 2) := by decide +kernel
theorem dX7_follows_213 : decode cX7_follows 213 = .ok (.dup2, 1) := by decide +kernel
theorem dX7_follows_214 : decode cX7_follows 214 = .ok (.iaload, 1) := by decide +kernel
theorem dX7_follows_215 : decode cX7_follows 215 = .ok (.iconst 1, 1) := by decide +kernel
theorem dX7_follows_216 : decode cX7_follows 216 = .ok (.iadd, 1) := by decide +kernel
theorem dX7_follows_217 : decode cX7_follows 217 = .ok (.iastore, 1) := by decide +kernel
theorem dX7_follows_218 : decode cX7_follows 218 = .ok (.goto 47, 3) := by decide +kernel
theorem dX7_follows_221 : decode cX7_follows 221 = .ok (.iconst 0, 1) := by decide +kernel
theorem dX7_follows_222 : decode cX7_follows 222 = .ok (.istore 5, 2) := by decide +kernel
theorem dX7_follows_224 : decode cX7_follows 224 = .ok (.iload 5, 2) := by decide +kernel
theorem dX7_follows_226 : decode cX7_follows 226 = .ok (.iconst 5, 1) := by decide +kernel
theorem dX7_follows_227 : decode cX7_follows 227 = .ok (.if_icmp .ge 35, 3) := by decide +kernel
theorem dX7_follows_230 : decode cX7_follows 230 = .ok (.aload_n 0, 1) := by decide +kernel
theorem dX7_follows_231 : decode cX7_follows 231 = .ok (.getfield 7, 3) := by decide +kernel
theorem dX7_follows_234 : decode cX7_follows 234 = .ok (.sipush 280, 3) := by decide +kernel
theorem dX7_follows_237 : decode cX7_follows 237 = .ok (.bipush 6, 2) := by decide +kernel
theorem dX7_follows_239 : decode cX7_follows 239 = .ok (.iload_n 2, 1) := by decide +kernel
theorem dX7_follows_240 : decode cX7_follows 240 = .ok (.imul, 1) := by decide +kernel
theorem dX7_follows_241 : decode cX7_follows 241 = .ok (.iadd, 1) := by decide +kernel
theorem dX7_follows_242 : decode cX7_follows 242 = .ok (.iload 5, 2) := by decide +kernel
theorem dX7_follows_244 : decode cX7_follows 244 = .ok (.iadd, 1) := by decide +kernel
theorem dX7_follows_245 : decode cX7_follows 245 = .ok (.aload_n 0, 1) := by decide +kernel
theorem dX7_follows_246 : decode cX7_follows 246 = .ok (.getfield 7, 3) := by decide +kernel
theorem dX7_follows_249 : decode cX7_follows 249 = .ok (.iload 4, 2) := by decide +kernel
theorem dX7_follows_251 : decode cX7_follows 251 = .ok (.iload 5, 2) := by decide +kernel
theorem dX7_follows_253 : decode cX7_follows 253 = .ok (.iadd, 1) := by decide +kernel
theorem dX7_follows_254 : decode cX7_follows 254 = .ok (.iaload, 1) := by decide +kernel
theorem dX7_follows_255 : decode cX7_follows 255 = .ok (.iastore, 1) := by decide +kernel
theorem dX7_follows_256 : decode cX7_follows 256 = .ok (.iinc 5 1, 3) := by decide +kernel
theorem dX7_follows_259 : decode cX7_follows 259 = .ok (.goto (-35), 3) := by decide +kernel
theorem dX7_follows_262 : decode cX7_follows 262 = .ok (.iinc 2 1, 3) := by decide +kernel
theorem dX7_follows_265 : decode cX7_follows 265 = .ok (.iinc 3 1, 3) := by decide +kernel
theorem dX7_follows_268 : decode cX7_follows 268 = .ok (.goto (-258), 3) := by decide +kernel
theorem dX7_follows_271 : decode cX7_follows 271 = .ok (.aload_n 0, 1) := by decide +kernel
theorem dX7_follows_272 : decode cX7_follows 272 = .ok (.getfield 7, 3) := by decide +kernel
theorem dX7_follows_275 : decode cX7_follows 275 = .ok (.bipush 10, 2) := by decide +kernel
theorem dX7_follows_277 : decode cX7_follows 277 = .ok (.iload_n 2, 1) := by decide +kernel
theorem dX7_follows_278 : decode cX7_follows 278 = .ok (.iastore, 1) := by decide +kernel
theorem dX7_follows_279 : decode cX7_follows 279 = .ok (.iconst 0, 1) := by decide +kernel
theorem dX7_follows_280 : decode cX7_follows 280 = .ok (.istore_n 3, 1) := by decide +kernel
theorem dX7_follows_281 : decode cX7_follows 281 = .ok (.iload_n 3, 1) := by decide +kernel
theorem dX7_follows_282 : decode cX7_follows 282 = .ok (.aload_n 0, 1) := by decide +kernel
theorem dX7_follows_283 : decode cX7_follows 283 = .ok (.getfield 7, 3) := by decide +kernel
theorem dX7_follows_286 : decode cX7_follows 286 = .ok (.bipush 8, 2) := by decide +kernel
theorem dX7_follows_288 : decode cX7_follows 288 = .ok (.iaload, 1) := by decide +kernel
theorem dX7_follows_289 : decode cX7_follows 289 = .ok (.if_icmp .ge 130, 3) := by decide +kernel
theorem dX7_follows_292 : decode cX7_follows 292 = .ok (.iload_n 1, 1) := by decide +kernel
theorem dX7_follows_293 : decode cX7_follows 293 = .ok (.iload_n 3, 1) := by decide +kernel
theorem dX7_follows_294 : decode cX7_follows 294 = .ok (.invokestatic 56, 3) := by decide +kernel
theorem dX7_follows_297 : decode cX7_follows 297 = .ok (.ifCond .ne 116, 3) := by decide +kernel
theorem dX7_follows_300 : decode cX7_follows 300 = .ok (.aload_n 0, 1) := by decide +kernel
theorem dX7_follows_301 : decode cX7_follows 301 = .ok (.getfield 7, 3) := by decide +kernel
theorem dX7_follows_304 : decode cX7_follows 304 = .ok (.bipush 10, 2) := by decide +kernel
theorem dX7_follows_306 : decode cX7_follows 306 = .ok (.iaload, 1) := by decide +kernel
theorem dX7_follows_307 : decode cX7_follows 307 = .ok (.bipush 6, 2) := by decide +kernel
theorem dX7_follows_309 : decode cX7_follows 309 = .ok (.if_icmp .ge 104, 3) := by decide +kernel
theorem dX7_follows_312 : decode cX7_follows 312 = .ok (.sipush 280, 3) := by decide +kernel
theorem dX7_follows_315 : decode cX7_follows 315 = .ok (.bipush 6, 2) := by decide +kernel
theorem dX7_follows_317 : decode cX7_follows 317 = .ok (.aload_n 0, 1) := by decide +kernel
theorem dX7_follows_318 : decode cX7_follows 318 = .ok (.getfield 7, 3) := by decide +kernel
theorem dX7_follows_321 : decode cX7_follows 321 = .ok (.bipush 10, 2) := by decide +kernel
theorem dX7_follows_323 : decode cX7_follows 323 = .ok (.iaload, 1) := by decide +kernel
theorem dX7_follows_324 : decode cX7_follows 324 = .ok (.imul, 1) := by decide +kernel
theorem dX7_follows_325 : decode cX7_follows 325 = .ok (.iadd, 1) := by decide +kernel
theorem dX7_follows_326 : decode cX7_follows 326 = .ok (.istore 4, 2) := by decide +kernel
theorem dX7_follows_328 : decode cX7_follows 328 = .ok (.aload_n 0, 1) := by decide +kernel
theorem dX7_follows_329 : decode cX7_follows 329 = .ok (.getfield 7, 3) := by decide +kernel
theorem dX7_follows_332 : decode cX7_follows 332 = .ok (.iload 4, 2) := by decide +kernel
theorem dX7_follows_334 : decode cX7_follows 334 = .ok (.aload_n 0, 1) := by decide +kernel
theorem dX7_follows_335 : decode cX7_follows 335 = .ok (.getfield 7, 3) := by decide +kernel
theorem dX7_follows_338 : decode cX7_follows 338 = .ok (.bipush 13, 2) := by decide +kernel
theorem dX7_follows_340 : decode cX7_follows 340 = .ok (.iaload, 1) := by decide +kernel
theorem dX7_follows_341 : decode cX7_follows 341 = .ok (.iastore, 1) := by decide +kernel
theorem dX7_follows_342 : decode cX7_follows 342 = .ok (.aload_n 0, 1) := by decide +kernel
theorem dX7_follows_343 : decode cX7_follows 343 = .ok (.getfield 7, 3) := by decide +kernel
theorem dX7_follows_346 : decode cX7_follows 346 = .ok (.iload 4, 2) := by decide +kernel
theorem dX7_follows_348 : decode cX7_follows 348 = .ok (.iconst 1, 1) := by decide +kernel
theorem dX7_follows_349 : decode cX7_follows 349 = .ok (.iadd, 1) := by decide +kernel
theorem dX7_follows_350 : decode cX7_follows 350 = .ok (.aload_n 0, 1) := by decide +kernel
theorem dX7_follows_351 : decode cX7_follows 351 = .ok (.getfield 7, 3) := by decide +kernel
theorem dX7_follows_354 : decode cX7_follows 354 = .ok (.sipush 274, 3) := by decide +kernel
theorem dX7_follows_357 : decode cX7_follows 357 = .ok (.iload_n 3, 1) := by decide +kernel
theorem dX7_follows_358 : decode cX7_follows 358 = .ok (.iadd, 1) := by decide +kernel
theorem dX7_follows_359 : decode cX7_follows 359 = .ok (.iaload, 1) := by decide +kernel
theorem dX7_follows_360 : decode cX7_follows 360 = .ok (.iastore, 1) := by decide +kernel
theorem dX7_follows_361 : decode cX7_follows 361 = .ok (.aload_n 0, 1) := by decide +kernel
theorem dX7_follows_362 : decode cX7_follows 362 = .ok (.getfield 7, 3) := by decide +kernel
theorem dX7_follows_365 : decode cX7_follows 365 = .ok (.iload 4, 2) := by decide +kernel
theorem dX7_follows_367 : decode cX7_follows 367 = .ok (.iconst 2, 1) := by decide +kernel
theorem dX7_follows_368 : decode cX7_follows 368 = .ok (.iadd, 1) := by decide +kernel
theorem dX7_follows_369 : decode cX7_follows 369 = .ok (.iconst 1, 1) := by decide +kernel
theorem dX7_follows_370 : decode cX7_follows 370 = .ok (.iastore, 1) := by decide +kernel
theorem dX7_follows_371 : decode cX7_follows 371 = .ok (.aload_n 0, 1) := by decide +kernel
theorem dX7_follows_372 : decode cX7_follows 372 = .ok (.getfield 7, 3) := by decide +kernel
theorem dX7_follows_375 : decode cX7_follows 375 = .ok (.iload 4, 2) := by decide +kernel
theorem dX7_follows_377 : decode cX7_follows 377 = .ok (.iconst 3, 1) := by decide +kernel
theorem dX7_follows_378 : decode cX7_follows 378 = .ok (.iadd, 1) := by decide +kernel
theorem dX7_follows_379 : decode cX7_follows 379 = .ok (.iconst 0, 1) := by decide +kernel
theorem dX7_follows_380 : decode cX7_follows 380 = .ok (.iastore, 1) := by decide +kernel
theorem dX7_follows_381 : decode cX7_follows 381 = .ok (.aload_n 0, 1) := by decide +kernel
theorem dX7_follows_382 : decode cX7_follows 382 = .ok (.getfield 7, 3) := by decide +kernel
theorem dX7_follows_385 : decode cX7_follows 385 = .ok (.iload 4, 2) := by decide +kernel
theorem dX7_follows_387 : decode cX7_follows 387 = .ok (.iconst 4, 1) := by decide +kernel
theorem dX7_follows_388 : decode cX7_follows 388 = .ok (.iadd, 1) := by decide +kernel
theorem dX7_follows_389 : decode cX7_follows 389 = .ok (.iconst 0, 1) := by decide +kernel
theorem dX7_follows_390 : decode cX7_follows 390 = .ok (.iastore, 1) := by decide +kernel
theorem dX7_follows_391 : decode cX7_follows 391 = .ok (.aload_n 0, 1) := by decide +kernel
theorem dX7_follows_392 : decode cX7_follows 392 = .ok (.getfield 7, 3) := by decide +kernel
theorem dX7_follows_395 : decode cX7_follows 395 = .ok (.bipush 13, 2) := by decide +kernel
theorem dX7_follows_397 : decode cX7_follows 397 = .ok (.dup2, 1) := by decide +kernel
theorem dX7_follows_398 : decode cX7_follows 398 = .ok (.iaload, 1) := by decide +kernel
theorem dX7_follows_399 : decode cX7_follows 399 = .ok (.iconst 1, 1) := by decide +kernel
theorem dX7_follows_400 : decode cX7_follows 400 = .ok (.iadd, 1) := by decide +kernel
theorem dX7_follows_401 : decode cX7_follows 401 = .ok (.iastore, 1) := by decide +kernel
theorem dX7_follows_402 : decode cX7_follows 402 = .ok (.aload_n 0, 1) := by decide +kernel
theorem dX7_follows_403 : decode cX7_follows 403 = .ok (.getfield 7, 3) := by decide +kernel
theorem dX7_follows_406 : decode cX7_follows 406 = .ok (.bipush 10, 2) := by decide +kernel
theorem dX7_follows_408 : decode cX7_follows 408 = .ok (.dup2, 1) := by decide +kernel
theorem dX7_follows_409 : decode cX7_follows 409 = .ok (.iaload, 1) := by decide +kernel
theorem dX7_follows_410 : decode cX7_follows 410 = .ok (.iconst 1, 1) := by decide +kernel
theorem dX7_follows_411 : decode cX7_follows 411 = .ok (.iadd, 1) := by decide +kernel
theorem dX7_follows_412 : decode cX7_follows 412 = .ok (.iastore, 1) := by decide +kernel
theorem dX7_follows_413 : decode cX7_follows 413 = .ok (.iinc 3 1, 3) := by decide +kernel
theorem dX7_follows_416 : decode cX7_follows 416 = .ok (.goto (-135), 3) := by decide +kernel
theorem dX7_follows_419 : decode cX7_follows 419 = .ok (.return_, 1) := by decide +kernel
theorem dX7_ruled_0 : decode cX7_ruled 0 = .ok (.iload_n 1, 1) := by decide +kernel
theorem dX7_ruled_1 : decode cX7_ruled 1 = .ok (.ifCond .ne 5, 3) := by decide +kernel
theorem dX7_ruled_4 : decode cX7_ruled 4 = .ok (.iconst 0, 1) := by decide +kernel
theorem dX7_ruled_5 : decode cX7_ruled 5 = .ok (.ireturn, 1) := by decide +kernel
theorem dX7_ruled_6 : decode cX7_ruled 6 = .ok (.iload_n 1, 1) := by decide +kernel
theorem dX7_ruled_7 : decode cX7_ruled 7 = .ok (.iconst 2, 1) := by decide +kernel
theorem dX7_ruled_8 : decode cX7_ruled 8 = .ok (.if_icmp .le 5, 3) := by decide +kernel
theorem dX7_ruled_11 : decode cX7_ruled 11 = .ok (.iconst 5, 1) := by decide +kernel
theorem dX7_ruled_12 : decode cX7_ruled 12 = .ok (.ireturn, 1) := by decide +kernel
theorem dX7_ruled_13 : decode cX7_ruled 13 = .ok (.iload_n 0, 1) := by decide +kernel
theorem dX7_ruled_14 : decode cX7_ruled 14 = .ok (.tableswitch 107 0 4 #[34, 45, 65, 76, 96], 34) := by decide +kernel
theorem dX7_ruled_48 : decode cX7_ruled 48 = .ok (.iload_n 1, 1) := by decide +kernel
theorem dX7_ruled_49 : decode cX7_ruled 49 = .ok (.iconst 1, 1) := by decide +kernel
theorem dX7_ruled_50 : decode cX7_ruled 50 = .ok (.if_icmp .ne 7, 3) := by decide +kernel
theorem dX7_ruled_53 : decode cX7_ruled 53 = .ok (.iconst 1, 1) := by decide +kernel
theorem dX7_ruled_54 : decode cX7_ruled 54 = .ok (.goto 4, 3) := by decide +kernel
theorem dX7_ruled_57 : decode cX7_ruled 57 = .ok (.iconst 3, 1) := by decide +kernel
theorem dX7_ruled_58 : decode cX7_ruled 58 = .ok (.ireturn, 1) := by decide +kernel
theorem dX7_ruled_59 : decode cX7_ruled 59 = .ok (.iload_n 1, 1) := by decide +kernel
theorem dX7_ruled_60 : decode cX7_ruled 60 = .ok (.iconst 2, 1) := by decide +kernel
theorem dX7_ruled_61 : decode cX7_ruled 61 = .ok (.if_icmp .ne 7, 3) := by decide +kernel
theorem dX7_ruled_64 : decode cX7_ruled 64 = .ok (.iconst 3, 1) := by decide +kernel
theorem dX7_ruled_65 : decode cX7_ruled 65 = .ok (.goto 13, 3) := by decide +kernel
theorem dX7_ruled_68 : decode cX7_ruled 68 = .ok (.iload_n 2, 1) := by decide +kernel
theorem dX7_ruled_69 : decode cX7_ruled 69 = .ok (.iconst 2, 1) := by decide +kernel
theorem dX7_ruled_70 : decode cX7_ruled 70 = .ok (.if_icmp .lt 7, 3) := by decide +kernel
theorem dX7_ruled_73 : decode cX7_ruled 73 = .ok (.iconst 2, 1) := by decide +kernel
theorem dX7_ruled_74 : decode cX7_ruled 74 = .ok (.goto 4, 3) := by decide +kernel
theorem dX7_ruled_77 : decode cX7_ruled 77 = .ok (.iconst 1, 1) := by decide +kernel
theorem dX7_ruled_78 : decode cX7_ruled 78 = .ok (.ireturn, 1) := by decide +kernel
theorem dX7_ruled_79 : decode cX7_ruled 79 = .ok (.iload_n 1, 1) := by decide +kernel
theorem dX7_ruled_80 : decode cX7_ruled 80 = .ok (.iconst 2, 1) := by decide +kernel
theorem dX7_ruled_81 : decode cX7_ruled 81 = .ok (.if_icmp .ne 7, 3) := by decide +kernel
theorem dX7_ruled_84 : decode cX7_ruled 84 = .ok (.iconst 3, 1) := by decide +kernel
theorem dX7_ruled_85 : decode cX7_ruled 85 = .ok (.goto 4, 3) := by decide +kernel
theorem dX7_ruled_88 : decode cX7_ruled 88 = .ok (.iconst 2, 1) := by decide +kernel
theorem dX7_ruled_89 : decode cX7_ruled 89 = .ok (.ireturn, 1) := by decide +kernel
theorem dX7_ruled_90 : decode cX7_ruled 90 = .ok (.iload_n 1, 1) := by decide +kernel
theorem dX7_ruled_91 : decode cX7_ruled 91 = .ok (.iconst 1, 1) := by decide +kernel
theorem dX7_ruled_92 : decode cX7_ruled 92 = .ok (.if_icmp .ne 7, 3) := by decide +kernel
theorem dX7_ruled_95 : decode cX7_ruled 95 = .ok (.iconst 1, 1) := by decide +kernel
theorem dX7_ruled_96 : decode cX7_ruled 96 = .ok (.goto 13, 3) := by decide +kernel
theorem dX7_ruled_99 : decode cX7_ruled 99 = .ok (.iload_n 3, 1) := by decide +kernel
theorem dX7_ruled_100 : decode cX7_ruled 100 = .ok (.iconst 2, 1) := by decide +kernel
theorem dX7_ruled_101 : decode cX7_ruled 101 = .ok (.if_icmp .lt 7, 3) := by decide +kernel
theorem dX7_ruled_104 : decode cX7_ruled 104 = .ok (.iconst 4, 1) := by decide +kernel
theorem dX7_ruled_105 : decode cX7_ruled 105 = .ok (.goto 4, 3) := by decide +kernel
theorem dX7_ruled_108 : decode cX7_ruled 108 = .ok (.iconst 3, 1) := by decide +kernel
theorem dX7_ruled_109 : decode cX7_ruled 109 = .ok (.ireturn, 1) := by decide +kernel
theorem dX7_ruled_110 : decode cX7_ruled 110 = .ok (.iload_n 1, 1) := by decide +kernel
theorem dX7_ruled_111 : decode cX7_ruled 111 = .ok (.iconst 1, 1) := by decide +kernel
theorem dX7_ruled_112 : decode cX7_ruled 112 = .ok (.if_icmp .ne 7, 3) := by decide +kernel
theorem dX7_ruled_115 : decode cX7_ruled 115 = .ok (.iconst 2, 1) := by decide +kernel
theorem dX7_ruled_116 : decode cX7_ruled 116 = .ok (.goto 4, 3) := by decide +kernel
theorem dX7_ruled_119 : decode cX7_ruled 119 = .ok (.iconst 4, 1) := by decide +kernel
theorem dX7_ruled_120 : decode cX7_ruled 120 = .ok (.ireturn, 1) := by decide +kernel
